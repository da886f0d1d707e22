/-! what the carousel tries on its second hall, its digest, its mean -/
noncomputable def xUn (S : HS) : Nat → HS
  | 0 => S
  | i + 1 => (xMin (xUn S i)).2
abbrev xUnP (S : HS) (b : Int32) (i : Nat) : Prop := rd 40 (xUn S i 6) b = 2
noncomputable def xUnN (S : HS) (b : Int32) : Nat := unt (xUnP S b) 121
noncomputable def xUnA (S : HS) (b : Int32) : Int32 := sel (xUnN S b = 121) (-1) (nI (xUnN S b))
theorem xUnA_at {S : HS} {b : Int32} {i : Nat} (h : ∀ j, j < i → ¬ xUnP S b j) (hp : xUnP S b i) (hi : i < 121) : xUnN S b = i ∧ xUnA S b = nI i := by
  have e : xUnN S b = i := unt_at h hp hi
  refine ⟨e, ?_⟩
  unfold xUnA
  rw [e, sel_f (by omega)]
theorem xUnA_end {S : HS} {b : Int32} (h : ∀ j, j < 121 → ¬ xUnP S b j) : xUnN S b = 121 ∧ xUnA S b = -1 := by
  have e : xUnN S b = 121 := unt_end h
  refine ⟨e, ?_⟩
  unfold xUnA
  rw [e, sel_t rfl]
theorem xMiss_0 (S : HS) (b : Int32) : xMiss S b 0 = S 0 := by
  unfold xMiss
  by_cases h : rd 40 (S 9) b + 1 < 3
  · rw [sel_t h]; rfl
  · rw [sel_f h]; rfl
theorem xTag_0 (S : HS) : xTag S 0 = S 0 := by
  unfold xTag
  by_cases h1 : S 12 2 = -1
  · rw [sel_t h1]
  · rw [sel_f h1]
    by_cases h2 : rd 40 (S 8) (S 12 2) = -1
    · rw [sel_t h2]
      by_cases h3 : ¬ S 0 1 < rd 40 (S 5) (S 12 2) ∧ ¬ rd 6 (S 1) (rd 40 (S 3) (S 12 2)) = -1
      · rw [sel_t h3]; rfl
      · rw [sel_f h3]; exact xMiss_0 S _
    · rw [sel_f h2]
theorem xFl_0 (S : HS) : ∀ i, (xFl S i).2 0 = S 0
  | 0 => rfl
  | i + 1 => by
    show (xFlS i (xFl S i)).2 0 = S 0
    unfold xFlS
    by_cases h : ¬ (xFl S i).2 12 (4 + 2 * i) = -1 ∧ rd 40 ((xFl S i).2 8) ((xFl S i).2 12 (4 + 2 * i)) = nI i ∧ xRoom (xFl S i).2 (nI i)
    · rw [sel_t h]; exact xFl_0 S i
    · rw [sel_f h]; exact xFl_0 S i
theorem xMin_04 (S : HS) : (xMin S).2 0 4 = S 0 4 := by
  have e0 : (xFl (xTag (xTrn S)) 4).2 0 = S 0 := (xFl_0 _ 4).trans (xTag_0 _)
  have t : ∀ U : HS, xTick U 0 4 = U 0 4 := fun _ => rfl
  show xTick (xFeed (xFl (xTag (xTrn S)) 4).2) 0 4 = S 0 4
  rw [t]
  unfold xFeed
  by_cases h : (xFl (xTag (xTrn S)) 4).2 12 0 = -1 ∧ 0 < (xFl (xTag (xTrn S)) 4).2 0 2
  · rw [sel_t h]
    exact congrFun e0 4
  · rw [sel_f h, e0]
theorem xGo_04 (S : HS) : ∀ i, (xGo S i).2 0 4 = S 0 4
  | 0 => rfl
  | i + 1 => (xMin_04 _).trans (xGo_04 S i)
noncomputable def xBeh (S : HS) (f c : Int32) (N n : Nat) : Nat := xRdyN (xGo (xChg S f c) N).2 f n
noncomputable def xBest (S : HS) (f : Int32) (N n : Nat) : Nat → Int32 × Int32
  | 0 => (0, -1)
  | i + 1 => sel ((xBest S f N n i).2 < nI (xBeh S f (nI i) N n)) (nI i, nI (xBeh S f (nI i) N n)) (xBest S f N n i)
theorem xBest_t {S : HS} {f : Int32} {N n i : Nat} (h : (xBest S f N n i).2 < nI (xBeh S f (nI i) N n)) : xBest S f N n (i + 1) = (nI i, nI (xBeh S f (nI i) N n)) := sel_t h _ _
theorem xBest_f {S : HS} {f : Int32} {N n i : Nat} (h : ¬ (xBest S f N n i).2 < nI (xBeh S f (nI i) N n)) : xBest S f N n (i + 1) = xBest S f N n i := sel_f h _ _
noncomputable def xbT (S T : HS) (f : Int32) (N : Nat) : Nat → HS
  | 0 => T
  | i + 1 => (xGo (xChg S f (nI i)) N).2
noncomputable def xDgH (S : HS) (d : Int64) : Int64 := mOn (mOn (mOn (mOn (mOn (mOn (mOn (mOn (mOn d (S 0 0)) (S 0 3)) (S 0 4)) (nI (ct (fun j_ => S 6 j_ = 0) 40))) (nI (ct (fun j_ => S 6 j_ = 1) 40))) (nI (ct (fun j_ => S 6 j_ = 3) 40))) (nI (ct (fun j_ => S 10 j_ = 1) 40))) (nI (ct (fun j_ => S 10 j_ = 2) 40))) (S 0 1)
noncomputable def xDgB (S : HS) (b : Int32) (d : Int64) : Int64 := mOn (mOn (mOn (mOn (mOn (mOn (mOn (mOn d (rd 40 (S 3) b)) (rd 40 (S 6) b)) (fnd (S 12) b 0 12)) (rd 40 (S 7) b)) (rd 40 (S 8) b)) (rd 40 (S 9) b)) (bI (xAst S b))) (bI (rd 40 (S 10) b = 1))
noncomputable def xDgC (S : HS) (n : Nat) (c : Int32) (d : Int64) : Int64 := mOn (mOn (mOn d (nI (ct (fun j_ => S 7 j_ = c) 40))) (nI (xMisN S c n))) (rd 4 (S 11) c)
noncomputable def xDgF (S : HS) (n : Nat) (f : Int32) (d : Int64) : Int64 := mOn (mOn (mOn (mOn d (rd 6 (S 1) f)) (bI (xGone S f))) (nI (xRdyN S f n))) (nI (ct (fun j_ => S 3 j_ = f) 40) - nI (xRdyN S f n))
noncomputable def xDgBs (S : HS) (d : Int64) : Nat → Int64
  | 0 => d
  | i + 1 => xDgB S (nI i) (xDgBs S d i)
noncomputable def xDgCs (S : HS) (n : Nat) (d : Int64) : Nat → Int64
  | 0 => d
  | i + 1 => xDgC S n (nI i) (xDgCs S n d i)
noncomputable def xDgFs (S : HS) (n : Nat) (d : Int64) : Nat → Int64
  | 0 => d
  | i + 1 => xDgF S n (nI i) (xDgFs S n d i)
noncomputable def xDig (S : HS) (n nf : Nat) : Int64 := xDgFs S n (xDgCs S n (xDgBs S (xDgH S 1867) n) 4) nf
noncomputable def xMean (S : HS) : UInt64 := sel (S 0 4 ≤ 0) FP.dconst0 (FP.ddiv (FP.i2d (sm (S 9) 40)) (FP.i2d (S 0 4)))
theorem hx_58 {k : Nat → ClassId} {a b : Nat → Nat} {x : Nat} {S T : HS} {R : va_W} : (hw k b T ++ (hw k a S ++ ((x, .inr (4, [.ref (a 0), .ref (b 0)])) :: R)))[58]? = some (x, .inr (4, [.ref (a 0), .ref (b 0)])) := rfl
/-- the second hall first -/
theorem permT (B A R : va_W) (q : Nat × va_E) : (B ++ (A ++ (q :: R))).Perm (A ++ (q :: (B ++ R))) := (List.perm_append_comm_assoc _ _ _).trans (List.Perm.append_left _ List.perm_middle)
theorem tr_same {k : Nat → ClassId} {a tr : Nat → Nat} {x : Nat} {S T T2 : HS} {R : va_W} : (hw k a S ++ ((x, .inr (4, [.ref (a 0), .ref (tr 0)])) :: (hw k tr T2 ++ R))).map Prod.fst = (hw k a S ++ ((x, .inr (4, [.ref (a 0), .ref (tr 0)])) :: (hw k tr T ++ R))).map Prod.fst := rfl

set_option maxHeartbeats 4000000 in
set_option maxRecDepth 100000 in
theorem metX4_readyWithChute (l : Launch) {D : va_G} {k : Nat → ClassId} {a tr : Nat → Nat} {x : Nat} {R : va_W} (S T : HS) (f : Int32) (ch : Int32) (N : Nat) (n : Nat) (hn4 : S 0 4 = nI n) (hn40 : n ≤ 40) (hN : N < 2 ^ 31) : MM l yX4_readyWithChute cX4_readyWithChute 4 (some FieldType.int) rmX4_readyWithChute D k (hw k a S ++ ((x, .inr (4, [.ref (a 0), .ref (tr 0)])) :: (hw k tr T ++ R))) [.ref x, .int f, .int ch, .int (nI N)] (some (.int (nI (xBeh S f ch N n)))) (hw k a S ++ ((x, .inr (4, [.ref (a 0), .ref (tr 0)])) :: (hw k tr (xGo (xChg S f ch) N).2 ++ R))) := by
  refine MM_of rfl (Nat.le_of_ble_eq_true rfl) ?_
  intro p e s m below meth c hC hr hlk hin hE hP hD hS ls hl
  have hC : CallFix p m c cX4_readyWithChute 4 s _ lw_all RX4 := hC
  have hx := hC.1
  have hb := hC.2.1
  have hown : s.vm.findClass RX4 = some m.cls := hC.2.2.2.1
  have hts := hC.2.2.2.2
  have hl : lv_has ls 4 [(0, .ref x), (1, .int f), (2, .int ch), (3, .int (nI N))] := hl
  have hP : va_P D vwCl (hw k tr T ++ (hw k a S ++ ((x, .inr (4, [.ref (a 0), .ref (tr 0)])) :: R))) _ := vaP_perm hP (permT _ _ _ _)
  have hD : va_D (va_in (hw k a S ++ ((x, .inr (4, [.ref (a 0), .ref (tr 0)])) :: (hw k tr T ++ R)))) (hw k tr T ++ (hw k a S ++ ((x, .inr (4, [.ref (a 0), .ref (tr 0)])) :: R))) := vaD_perm hD (permT _ _ _ _)
  refine lv_aload_n hx hb dX4_readyWithChute_0 rfl (lv_at hl 0 rfl) ?_
  refine va_get (D := D) (ci := 4) (v := .ref (tr 0)) (C := RX4) (T := TX4) (N := 2) hx hb hts tu_4 hown hE.1 hP 58 hx_58 rfl 1 (by decide) (hts _ tw_151) (fun _ h9 => h9) rfl dX4_readyWithChute_1 ?_
  refine lv_aload_n hx hb dX4_readyWithChute_4 rfl (lv_at hl 0 rfl) ?_
  refine va_get (D := D) (ci := 4) (v := .ref (a 0)) (C := RX4) (T := TX4) (N := 2) hx hb hts tu_4 hown hE.1 hP 58 hx_58 rfl 0 (by decide) (hts _ tw_150) (fun _ h9 => h9) rfl dX4_readyWithChute_5 ?_
  refine c_mVv (rest := []) hC hE hP hD hS hw_same (metX2_becomeLike l S T) gc_RX4_183 hd_X2_becomeLike ⟨rfl, rfl⟩ ⟨Nat.le_of_ble_eq_true rfl, Nat.le_of_ble_eq_true rfl⟩ 0 hw_0 rfl rfl hl.1 (Nat.le_of_ble_eq_true rfl) ⟨Nat.le_of_ble_eq_true rfl, Nat.le_of_ble_eq_true rfl⟩ dX4_readyWithChute_8 (fun H locs hP hD hS => ?_)
  refine lv_aload_n hx hb dX4_readyWithChute_11 rfl (lv_at hl 0 rfl) ?_
  refine va_get (D := D) (ci := 4) (v := .ref (tr 0)) (C := RX4) (T := TX4) (N := 2) hx hb hts tu_4 hown hE.1 hP 58 hx_58 rfl 1 (by decide) (hts _ tw_151) (fun _ h9 => h9) rfl dX4_readyWithChute_12 ?_
  refine va_get (D := D) (ci := 2) (v := .ref (tr 1)) (C := RX2) (T := TX2) (N := 8) hx hb hts tu_2 hown hE.1 hP 0 hw_0 rfl 3 (by decide) (hts _ tw_125) (fun _ h9 => h9) rfl dX4_readyWithChute_15 ?_
  refine va_get (D := D) (ci := 1) (v := .ref (tr 6)) (C := RX1) (T := TX1) (N := 3) hx hb hts tu_1 hown hE.1 hP 1 hw_1 rfl 1 (by decide) (hts _ tw_54) (fun _ h9 => h9) rfl dX4_readyWithChute_18 ?_
  refine lv_iload_n hx hb dX4_readyWithChute_21 rfl (lv_at hl 1 rfl) ?_
  refine lv_iload_n hx hb dX4_readyWithChute_22 rfl (lv_at hl 2 rfl) ?_
  refine c_mVv (rest := []) hC hE hP hD hS hw_same (metX3_put l (ws' := (hw k tr (sf S 1 (wr 6 (S 1) f ch)) ++ (hw k a S ++ ((x, .inr (4, [.ref (a 0), .ref (tr 0)])) :: R)))) hw_6 hw_19 (by decide) f ch hws_1) gc_RX4_74 hd_X3_put ⟨rfl, rfl⟩ ⟨Nat.le_of_ble_eq_true rfl, Nat.le_of_ble_eq_true rfl⟩ 6 hw_6 rfl rfl hl.1 (Nat.le_of_ble_eq_true rfl) ⟨Nat.le_of_ble_eq_true rfl, Nat.le_of_ble_eq_true rfl⟩ dX4_readyWithChute_23 (fun H locs hP hD hS => ?_)
  refine lv_aload_n hx hb dX4_readyWithChute_26 rfl (lv_at hl 0 rfl) ?_
  refine va_get (D := D) (ci := 4) (v := .ref (tr 0)) (C := RX4) (T := TX4) (N := 2) hx hb hts tu_4 hown hE.1 hP 58 hx_58 rfl 1 (by decide) (hts _ tw_151) (fun _ h9 => h9) rfl dX4_readyWithChute_27 ?_
  refine lv_iload_n hx hb dX4_readyWithChute_30 rfl (lv_at hl 3 rfl) ?_
  refine c_mVi (rest := []) hC hE hP hD hS hw_same (metX2_goMinutes l (sf S 1 (wr 6 (S 1) f ch)) N hN) gc_RX4_139 hd_X2_goMinutes ⟨rfl, rfl⟩ ⟨Nat.le_of_ble_eq_true rfl, Nat.le_of_ble_eq_true rfl⟩ 0 hw_0 rfl rfl hl.1 (Nat.le_of_ble_eq_true rfl) ⟨Nat.le_of_ble_eq_true rfl, Nat.le_of_ble_eq_true rfl⟩ dX4_readyWithChute_31 (fun H locs hP hD hS => ?_)
  refine lv_pop hx hb dX4_readyWithChute_34 rfl ?_
  refine lv_aload_n hx hb dX4_readyWithChute_35 rfl (lv_at hl 0 rfl) ?_
  refine va_get (D := D) (ci := 4) (v := .ref (tr 0)) (C := RX4) (T := TX4) (N := 2) hx hb hts tu_4 hown hE.1 hP 58 hx_58 rfl 1 (by decide) (hts _ tw_151) (fun _ h9 => h9) rfl dX4_readyWithChute_36 ?_
  refine lv_iload_n hx hb dX4_readyWithChute_39 rfl (lv_at hl 1 rfl) ?_
  refine c_pVi (rest := []) hC hE hP (metX2_countReady l (xGo (sf S 1 (wr 6 (S 1) f ch)) N).2 f n ((xGo_04 _ _).trans hn4) hn40) gc_RX4_174 hd_X2_countReady ⟨rfl, rfl⟩ ⟨Nat.le_of_ble_eq_true rfl, Nat.le_of_ble_eq_true rfl⟩ 0 hw_0 rfl rfl hl.1 (Nat.le_of_ble_eq_true rfl) ⟨Nat.le_of_ble_eq_true rfl, Nat.le_of_ble_eq_true rfl⟩ dX4_readyWithChute_40 ?_
  have hP : va_P D vwCl (hw k a S ++ ((x, .inr (4, [.ref (a 0), .ref (tr 0)])) :: (hw k tr (xGo (sf S 1 (wr 6 (S 1) f ch)) N).2 ++ R))) H := vaP_perm hP (permT _ _ _ _).symm
  have hD : va_D (va_in (hw k a S ++ ((x, .inr (4, [.ref (a 0), .ref (tr 0)])) :: (hw k tr T ++ R)))) (hw k a S ++ ((x, .inr (4, [.ref (a 0), .ref (tr 0)])) :: (hw k tr (xGo (sf S 1 (wr 6 (S 1) f ch)) N).2 ++ R))) := vaD_perm hD (permT _ _ _ _).symm
  exact m_iret hx hb hr hlk dX4_readyWithChute_43 hP hS (rfl)

set_option maxHeartbeats 4000000 in
set_option maxRecDepth 100000 in
theorem metX4_minutesUntilChute (l : Launch) {D : va_G} {k : Nat → ClassId} {a tr : Nat → Nat} {x : Nat} {R : va_W} (S T : HS) (b : Int32) (hk0 : xBag S b) : MM l yX4_minutesUntilChute cX4_minutesUntilChute 3 (some FieldType.int) rmX4_minutesUntilChute D k (hw k a S ++ ((x, .inr (4, [.ref (a 0), .ref (tr 0)])) :: (hw k tr T ++ R))) [.ref x, .int b] (some (.int (xUnA S b))) (hw k a S ++ ((x, .inr (4, [.ref (a 0), .ref (tr 0)])) :: (hw k tr (xUn S (xUnN S b)) ++ R))) := by
  refine MM_of rfl (Nat.le_of_ble_eq_true rfl) ?_
  intro p e s m below meth c hC hr hlk hin hE hP hD hS ls hl
  have hC : CallFix p m c cX4_minutesUntilChute 3 s _ lw_all RX4 := hC
  have hx := hC.1
  have hb := hC.2.1
  have hown : s.vm.findClass RX4 = some m.cls := hC.2.2.2.1
  have hts := hC.2.2.2.2
  have hl : lv_has ls 3 [(0, .ref x), (1, .int b)] := hl
  refine lv_aload_n hx hb dX4_minutesUntilChute_0 rfl (lv_at hl 0 rfl) ?_
  refine lv_iload_n hx hb dX4_minutesUntilChute_1 rfl (lv_at hl 1 rfl) ?_
  refine c_pVv (rest := []) hC hE hP (metX4_needBag l S b (show xBag S b from hk0)) gc_RX4_95 hd_X4_needBag ⟨rfl, rfl⟩ ⟨Nat.le_of_ble_eq_true rfl, Nat.le_of_ble_eq_true rfl⟩ 29 xo_29 rfl rfl hl.1 (Nat.le_of_ble_eq_true rfl) ⟨Nat.le_of_ble_eq_true rfl, Nat.le_of_ble_eq_true rfl⟩ dX4_minutesUntilChute_2 ?_
  have hP : va_P D vwCl (hw k tr T ++ (hw k a S ++ ((x, .inr (4, [.ref (a 0), .ref (tr 0)])) :: R))) _ := vaP_perm hP (permT _ _ _ _)
  have hD : va_D (va_in (hw k a S ++ ((x, .inr (4, [.ref (a 0), .ref (tr 0)])) :: (hw k tr T ++ R)))) (hw k tr T ++ (hw k a S ++ ((x, .inr (4, [.ref (a 0), .ref (tr 0)])) :: R))) := vaD_perm hD (permT _ _ _ _)
  refine lv_aload_n hx hb dX4_minutesUntilChute_5 rfl (lv_at hl 0 rfl) ?_
  refine va_get (D := D) (ci := 4) (v := .ref (tr 0)) (C := RX4) (T := TX4) (N := 2) hx hb hts tu_4 hown hE.1 hP 58 hx_58 rfl 1 (by decide) (hts _ tw_151) (fun _ h9 => h9) rfl dX4_minutesUntilChute_6 ?_
  refine lv_aload_n hx hb dX4_minutesUntilChute_9 rfl (lv_at hl 0 rfl) ?_
  refine va_get (D := D) (ci := 4) (v := .ref (a 0)) (C := RX4) (T := TX4) (N := 2) hx hb hts tu_4 hown hE.1 hP 58 hx_58 rfl 0 (by decide) (hts _ tw_150) (fun _ h9 => h9) rfl dX4_minutesUntilChute_10 ?_
  refine c_mVv (rest := []) hC hE hP hD hS hw_same (metX2_becomeLike l S T) gc_RX4_183 hd_X2_becomeLike ⟨rfl, rfl⟩ ⟨Nat.le_of_ble_eq_true rfl, Nat.le_of_ble_eq_true rfl⟩ 0 hw_0 rfl rfl hl.1 (Nat.le_of_ble_eq_true rfl) ⟨Nat.le_of_ble_eq_true rfl, Nat.le_of_ble_eq_true rfl⟩ dX4_minutesUntilChute_13 (fun H locs hP hD hS => ?_)
  refine lv_iconst (v := 0) hx hb dX4_minutesUntilChute_16 (by decide) ?_
  refine lv_istore_n (lv' := [(2, .int 0), (0, .ref x), (1, .int b)]) hx hb dX4_minutesUntilChute_17 rfl hl (by decide) rfl (fun ls hl => ?_)
  refine w_forM (N := 121) (fun i => ∀ j, j < i → ¬ xUnP S b j) (fun i => [(0, .ref x), (1, .int b), (2, .int (nI i))]) (fun i => (hw k tr (xUn S i) ++ (hw k a S ++ ((x, .inr (4, [.ref (a 0), .ref (tr 0)])) :: R)))) (fun ls H locs hI hl hP hD hS => ?_) (fun i hi hI ih ls H locs hl hP hD hS => ?_) 0 (Nat.zero_le _) (fun j hj => absurd hj (Nat.not_lt_zero j)) (lv_sub hl [1, 2, 0] rfl) hP hD hS
  · have hl : lv_has ls 3 [(0, .ref x), (1, .int b), (2, .int (nI 121))] := hl
    have hP : va_P D vwCl (hw k tr (xUn S 121) ++ (hw k a S ++ ((x, .inr (4, [.ref (a 0), .ref (tr 0)])) :: R))) H := hP
    have hD : va_D (va_in (hw k a S ++ ((x, .inr (4, [.ref (a 0), .ref (tr 0)])) :: (hw k tr T ++ R)))) (hw k tr (xUn S 121) ++ (hw k a S ++ ((x, .inr (4, [.ref (a 0), .ref (tr 0)])) :: R))) := hD
    have hI : ∀ j, j < 121 → ¬ xUnP S b j := hI
    refine lv_iload_n hx hb dX4_minutesUntilChute_18 rfl (lv_at hl 2 rfl) ?_
    refine lv_bipush (v := 120) hx hb dX4_minutesUntilChute_19 (by decide) ?_
    refine lv_icmp_gt (tgt := 58) hx hb dX4_minutesUntilChute_21 (by decide) (fun c_1 => ?_) (fun c_ => absurd (by decide) c_)
    refine lv_iconst (v := (-1)) hx hb dX4_minutesUntilChute_58 (by decide) ?_
    have hP : va_P D vwCl (hw k a S ++ ((x, .inr (4, [.ref (a 0), .ref (tr 0)])) :: (hw k tr (xUn S 121) ++ R))) H := vaP_perm hP (permT _ _ _ _).symm
    have hD : va_D (va_in (hw k a S ++ ((x, .inr (4, [.ref (a 0), .ref (tr 0)])) :: (hw k tr T ++ R)))) (hw k a S ++ ((x, .inr (4, [.ref (a 0), .ref (tr 0)])) :: (hw k tr (xUn S 121) ++ R))) := vaD_perm hD (permT _ _ _ _).symm
    have e9 : xUn S (xUnN S b) = xUn S 121 := by rw [(xUnA_end hI).1]
    exact m_iret hx hb hr hlk dX4_minutesUntilChute_59 (by rw [e9]; exact hP) hS ((xUnA_end hI).2)
  · have hl : lv_has ls 3 [(0, .ref x), (1, .int b), (2, .int (nI i))] := hl
    have hP : va_P D vwCl (hw k tr (xUn S i) ++ (hw k a S ++ ((x, .inr (4, [.ref (a 0), .ref (tr 0)])) :: R))) H := hP
    have hD : va_D (va_in (hw k a S ++ ((x, .inr (4, [.ref (a 0), .ref (tr 0)])) :: (hw k tr T ++ R)))) (hw k tr (xUn S i) ++ (hw k a S ++ ((x, .inr (4, [.ref (a 0), .ref (tr 0)])) :: R))) := hD
    have hI : ∀ j, j < i → ¬ xUnP S b j := hI
    refine lv_iload_n hx hb dX4_minutesUntilChute_18 rfl (lv_at hl 2 rfl) ?_
    refine lv_bipush (v := 120) hx hb dX4_minutesUntilChute_19 (by decide) ?_
    refine lv_icmp_gt (tgt := 58) hx hb dX4_minutesUntilChute_21 (by decide) (fun c_ => absurd c_ (nI_ge120 hi)) (fun c_2 => ?_)
    refine lv_aload_n hx hb dX4_minutesUntilChute_24 rfl (lv_at hl 0 rfl) ?_
    refine va_get (D := D) (ci := 4) (v := .ref (tr 0)) (C := RX4) (T := TX4) (N := 2) hx hb hts tu_4 hown hE.1 hP 58 hx_58 rfl 1 (by decide) (hts _ tw_151) (fun _ h9 => h9) rfl dX4_minutesUntilChute_25 ?_
    refine va_get (D := D) (ci := 2) (v := .ref (tr 2)) (C := RX2) (T := TX2) (N := 8) hx hb hts tu_2 hown hE.1 hP 0 hw_0 rfl 4 (by decide) (hts _ tw_127) (fun _ h9 => h9) rfl dX4_minutesUntilChute_28 ?_
    refine va_get (D := D) (ci := 0) (v := .ref (tr 11)) (C := RX0) (T := TX0) (N := 9) hx hb hts tu_0 hown hE.1 hP 2 hw_2 rfl 4 (by decide) (hts _ tw_84) (fun _ h9 => h9) rfl dX4_minutesUntilChute_31 ?_
    refine lv_iload_n hx hb dX4_minutesUntilChute_34 rfl (lv_at hl 1 rfl) ?_
    refine c_pVi (rest := []) hC hE hP (metX3_at l hw_11 hw_24 (by decide) b) gc_RX4_68 hd_X3_at ⟨rfl, rfl⟩ ⟨Nat.le_of_ble_eq_true rfl, Nat.le_of_ble_eq_true rfl⟩ 11 hw_11 rfl rfl hl.1 (Nat.le_of_ble_eq_true rfl) ⟨Nat.le_of_ble_eq_true rfl, Nat.le_of_ble_eq_true rfl⟩ dX4_minutesUntilChute_35 ?_
    refine lv_iconst (v := 2) hx hb dX4_minutesUntilChute_38 (by decide) ?_
    refine lv_icmp_ne (tgt := 44) hx hb dX4_minutesUntilChute_39 (by decide) (fun c_3 => ?_) (fun c_3 => ?_)
    · refine lv_aload_n hx hb dX4_minutesUntilChute_44 rfl (lv_at hl 0 rfl) ?_
      refine va_get (D := D) (ci := 4) (v := .ref (tr 0)) (C := RX4) (T := TX4) (N := 2) hx hb hts tu_4 hown hE.1 hP 58 hx_58 rfl 1 (by decide) (hts _ tw_151) (fun _ h9 => h9) rfl dX4_minutesUntilChute_45 ?_
      refine c_mVi (rest := []) hC hE hP hD hS hw_same (metX2_goMinute l (xUn S i) ) gc_RX4_187 hd_X2_goMinute ⟨rfl, rfl⟩ ⟨Nat.le_of_ble_eq_true rfl, Nat.le_of_ble_eq_true rfl⟩ 0 hw_0 rfl rfl hl.1 (Nat.le_of_ble_eq_true rfl) ⟨Nat.le_of_ble_eq_true rfl, Nat.le_of_ble_eq_true rfl⟩ dX4_minutesUntilChute_48 (fun H locs hP hD hS => ?_)
      refine lv_pop hx hb dX4_minutesUntilChute_51 rfl ?_
      refine lv_iinc (v := nI (i + 1)) (lv' := [(2, .int (nI (i + 1))), (0, .ref x), (1, .int b)]) hx hb dX4_minutesUntilChute_52 hl (k := 2) rfl (iinc1 _) (by decide) rfl (fun ls hl => ?_)
      refine lv_goto (tgt := 18) hx hb dX4_minutesUntilChute_55 (by decide) ?_
      exact ih ls H locs (fun j hj => (Nat.lt_succ_iff_lt_or_eq.mp hj).elim (hI j) (fun z_ => z_ ▸ c_3)) (lv_sub hl [1, 2, 0] rfl) (by show va_P D vwCl (hw k tr (xUn S (i + 1)) ++ (hw k a S ++ ((x, .inr (4, [.ref (a 0), .ref (tr 0)])) :: R))) H; exact hP) (by show va_D (va_in (hw k a S ++ ((x, .inr (4, [.ref (a 0), .ref (tr 0)])) :: (hw k tr T ++ R)))) (hw k tr (xUn S (i + 1)) ++ (hw k a S ++ ((x, .inr (4, [.ref (a 0), .ref (tr 0)])) :: R))); exact hD) hS
    · refine lv_iload_n hx hb dX4_minutesUntilChute_42 rfl (lv_at hl 2 rfl) ?_
      have hP : va_P D vwCl (hw k a S ++ ((x, .inr (4, [.ref (a 0), .ref (tr 0)])) :: (hw k tr (xUn S i) ++ R))) H := vaP_perm hP (permT _ _ _ _).symm
      have hD : va_D (va_in (hw k a S ++ ((x, .inr (4, [.ref (a 0), .ref (tr 0)])) :: (hw k tr T ++ R)))) (hw k a S ++ ((x, .inr (4, [.ref (a 0), .ref (tr 0)])) :: (hw k tr (xUn S i) ++ R))) := vaD_perm hD (permT _ _ _ _).symm
      have e9 : xUn S (xUnN S b) = xUn S i := by rw [(xUnA_at hI c_3 hi).1]
      exact m_iret hx hb hr hlk dX4_minutesUntilChute_43 (by rw [e9]; exact hP) hS ((xUnA_at hI c_3 hi).2)

set_option maxHeartbeats 4000000 in
set_option maxRecDepth 100000 in
theorem metX4_readyAfter (l : Launch) {D : va_G} {k : Nat → ClassId} {a tr : Nat → Nat} {x : Nat} {R : va_W} (S T : HS) (f : Int32) (N : Nat) (n : Nat) (hn4 : S 0 4 = nI n) (hn40 : n ≤ 40) (hN : N < 2 ^ 31) (hk0 : xFlt S f) (hk1 : xM60 (nI N)) : MM l yX4_readyAfter cX4_readyAfter 3 (some FieldType.int) rmX4_readyAfter D k (hw k a S ++ ((x, .inr (4, [.ref (a 0), .ref (tr 0)])) :: (hw k tr T ++ R))) [.ref x, .int f, .int (nI N)] (some (.int (nI (xBeh S f (rd 6 (S 1) f) N n)))) (hw k a S ++ ((x, .inr (4, [.ref (a 0), .ref (tr 0)])) :: (hw k tr (xGo (xChg S f (rd 6 (S 1) f)) N).2 ++ R))) := by
  refine MM_of rfl (Nat.le_of_ble_eq_true rfl) ?_
  intro p e s m below meth c hC hr hlk hin hE hP hD hS ls hl
  have hC : CallFix p m c cX4_readyAfter 3 s _ lw_all RX4 := hC
  have hx := hC.1
  have hb := hC.2.1
  have hown : s.vm.findClass RX4 = some m.cls := hC.2.2.2.1
  have hts := hC.2.2.2.2
  have hl : lv_has ls 3 [(0, .ref x), (1, .int f), (2, .int (nI N))] := hl
  refine lv_aload_n hx hb dX4_readyAfter_0 rfl (lv_at hl 0 rfl) ?_
  refine lv_iload_n hx hb dX4_readyAfter_1 rfl (lv_at hl 1 rfl) ?_
  refine c_pVv (rest := []) hC hE hP (metX4_needFlight l S f (show xFlt S f from hk0)) gc_RX4_40 hd_X4_needFlight ⟨rfl, rfl⟩ ⟨Nat.le_of_ble_eq_true rfl, Nat.le_of_ble_eq_true rfl⟩ 29 xo_29 rfl rfl hl.1 (Nat.le_of_ble_eq_true rfl) ⟨Nat.le_of_ble_eq_true rfl, Nat.le_of_ble_eq_true rfl⟩ dX4_readyAfter_2 ?_
  refine lv_iload_n hx hb dX4_readyAfter_5 rfl (lv_at hl 2 rfl) ?_
  refine c_pSv (rest := []) hC hE hP (metX4_needMinutes l (nI N) (show xM60 (nI N) from hk1)) gc_RX4_136 hd_X4_needMinutes ⟨rfl, rfl⟩ ⟨Nat.le_of_ble_eq_true rfl, Nat.le_of_ble_eq_true rfl⟩ rfl hl.1 (Nat.le_of_ble_eq_true rfl) ⟨Nat.le_of_ble_eq_true rfl, Nat.le_of_ble_eq_true rfl⟩ dX4_readyAfter_6 ?_
  refine lv_aload_n hx hb dX4_readyAfter_9 rfl (lv_at hl 0 rfl) ?_
  refine lv_iload_n hx hb dX4_readyAfter_10 rfl (lv_at hl 1 rfl) ?_
  refine lv_aload_n hx hb dX4_readyAfter_11 rfl (lv_at hl 0 rfl) ?_
  refine va_get (D := D) (ci := 4) (v := .ref (a 0)) (C := RX4) (T := TX4) (N := 2) hx hb hts tu_4 hown hE.1 hP 29 xo_29 rfl 0 (by decide) (hts _ tw_150) (fun _ h9 => h9) rfl dX4_readyAfter_12 ?_
  refine va_get (D := D) (ci := 2) (v := .ref (a 1)) (C := RX2) (T := TX2) (N := 8) hx hb hts tu_2 hown hE.1 hP 0 hw_0 rfl 3 (by decide) (hts _ tw_125) (fun _ h9 => h9) rfl dX4_readyAfter_15 ?_
  refine va_get (D := D) (ci := 1) (v := .ref (a 6)) (C := RX1) (T := TX1) (N := 3) hx hb hts tu_1 hown hE.1 hP 1 hw_1 rfl 1 (by decide) (hts _ tw_54) (fun _ h9 => h9) rfl dX4_readyAfter_18 ?_
  refine lv_iload_n hx hb dX4_readyAfter_21 rfl (lv_at hl 1 rfl) ?_
  refine c_pVi (rest := [.int f, .ref x]) hC hE hP (metX3_at l hw_6 hw_19 (by decide) f) gc_RX4_68 hd_X3_at ⟨rfl, rfl⟩ ⟨Nat.le_of_ble_eq_true rfl, Nat.le_of_ble_eq_true rfl⟩ 6 hw_6 rfl rfl hl.1 (Nat.le_of_ble_eq_true rfl) ⟨Nat.le_of_ble_eq_true rfl, Nat.le_of_ble_eq_true rfl⟩ dX4_readyAfter_22 ?_
  refine lv_iload_n hx hb dX4_readyAfter_25 rfl (lv_at hl 2 rfl) ?_
  refine c_mVi (rest := []) hC hE hP hD hS tr_same (metX4_readyWithChute l S T f (rd 6 (S 1) f) N n hn4 hn40 hN) gc_RX4_190 hd_X4_readyWithChute ⟨rfl, rfl⟩ ⟨Nat.le_of_ble_eq_true rfl, Nat.le_of_ble_eq_true rfl⟩ 29 xo_29 rfl rfl hl.1 (Nat.le_of_ble_eq_true rfl) ⟨Nat.le_of_ble_eq_true rfl, Nat.le_of_ble_eq_true rfl⟩ dX4_readyAfter_26 (fun H locs hP hD hS => ?_)
  exact m_iret hx hb hr hlk dX4_readyAfter_29 hP hS (rfl)

set_option maxHeartbeats 4000000 in
set_option maxRecDepth 100000 in
theorem metX4_addNumber (l : Launch) {D : va_G} {k : Nat → ClassId} {ws : va_W} (d y : Int64) : PM l yX4_addNumber cX4_addNumber 4 (some FieldType.long) rmX4_addNumber D k ws [.long d, .long y] (some (.long (d * 31 + y))) := by
  refine PM_of rfl (Nat.le_of_ble_eq_true rfl) ?_
  intro p e s m below meth c hC hr hlk hin hE hP ls hl
  have hC : CallFix p m c cX4_addNumber 4 s _ lw_all RX4 := hC
  have hx := hC.1
  have hb := hC.2.1
  have hown : s.vm.findClass RX4 = some m.cls := hC.2.2.2.1
  have hts := hC.2.2.2.2
  have hl : lv_has ls 4 [(0, .long d), (2, .long y)] := hl
  refine lv_lload_n hx hb dX4_addNumber_0 rfl (lv_at hl 0 rfl) ?_
  refine lv_ldc2 (v := 31) hx hb hown (hts _ tw_500) dX4_addNumber_1 ?_
  refine lv_lmul hx hb dX4_addNumber_4 ?_
  refine lv_lload_n hx hb dX4_addNumber_5 rfl (lv_at hl 1 rfl) ?_
  refine lv_ladd hx hb dX4_addNumber_6 ?_
  exact p_lret hx hb hr hlk dX4_addNumber_7 (rfl)

theorem metX4_addInt (l : Launch) {D : va_G} {k : Nat → ClassId} {ws : va_W} (d : Int64) (x : Int32) : PM l yX4_addNumber cX4_addNumber 4 (some FieldType.long) rmX4_addNumber D k ws [.long d, .long x.toInt64] (some (.long (mOn d x))) := metX4_addNumber l d x.toInt64
theorem metX4_addBit0 (l : Launch) {D : va_G} {k : Nat → ClassId} {ws : va_W} (d : Int64) : PM l yX4_addNumber cX4_addNumber 4 (some FieldType.long) rmX4_addNumber D k ws [.long d, .long 0] (some (.long (mOn d 0))) := by
  have h := metX4_addInt l (D := D) (k := k) (ws := ws) d 0
  rw [show ((0 : Int32).toInt64 = 0) from rfl] at h
  exact h
theorem metX4_addBit1 (l : Launch) {D : va_G} {k : Nat → ClassId} {ws : va_W} (d : Int64) : PM l yX4_addNumber cX4_addNumber 4 (some FieldType.long) rmX4_addNumber D k ws [.long d, .long 1] (some (.long (mOn d 1))) := by
  have h := metX4_addInt l (D := D) (k := k) (ws := ws) d 1
  rw [show ((1 : Int32).toInt64 = 1) from rfl] at h
  exact h
set_option maxHeartbeats 4000000 in
set_option maxRecDepth 100000 in
theorem metX4_addHall (l : Launch) {D : va_G} {k : Nat → ClassId} {a tr : Nat → Nat} {x : Nat} {R : va_W} (S : HS) (d : Int64) : PM l yX4_addHall cX4_addHall 5 (some FieldType.long) rmX4_addHall D k (hw k a S ++ ((x, .inr (4, [.ref (a 0), .ref (tr 0)])) :: R)) [.ref x, .long d] (some (.long (xDgH S d))) := by
  refine PM_of rfl (Nat.le_of_ble_eq_true rfl) ?_
  intro p e s m below meth c hC hr hlk hin hE hP ls hl
  have hC : CallFix p m c cX4_addHall 5 s _ lw_all RX4 := hC
  have hx := hC.1
  have hb := hC.2.1
  have hown : s.vm.findClass RX4 = some m.cls := hC.2.2.2.1
  have hts := hC.2.2.2.2
  have hl : lv_has ls 5 [(0, .ref x), (1, .long d)] := hl
  refine lv_lload_n hx hb dX4_addHall_0 rfl (lv_at hl 1 rfl) ?_
  refine lv_aload_n hx hb dX4_addHall_1 rfl (lv_at hl 0 rfl) ?_
  refine va_get (D := D) (ci := 4) (v := .ref (a 0)) (C := RX4) (T := TX4) (N := 2) hx hb hts tu_4 hown hE.1 hP 29 xo_29 rfl 0 (by decide) (hts _ tw_150) (fun _ h9 => h9) rfl dX4_addHall_2 ?_
  refine va_get (D := D) (ci := 2) (v := .int (S 0 0)) (C := RX2) (T := TX2) (N := 8) hx hb hts tu_2 hown hE.1 hP 0 hw_0 rfl 0 (by decide) (hts _ tw_119) (fun _ h9 => h9) rfl dX4_addHall_5 ?_
  refine lv_i2l hx hb dX4_addHall_8 rfl ?_
  refine c_pSl (rest := []) hC hE hP (metX4_addInt l d (S 0 0)) gc_RX4_212 hd_X4_addNumber ⟨rfl, rfl⟩ ⟨Nat.le_of_ble_eq_true rfl, Nat.le_of_ble_eq_true rfl⟩ rfl hl.1 (Nat.le_of_ble_eq_true rfl) ⟨Nat.le_of_ble_eq_true rfl, Nat.le_of_ble_eq_true rfl⟩ dX4_addHall_9 ?_
  refine lv_lstore_n (lv' := [(3, .long (mOn d (S 0 0))), (0, .ref x), (1, .long d)]) hx hb dX4_addHall_12 rfl hl (by decide) rfl (fun ls hl => ?_)
  refine lv_lload_n hx hb dX4_addHall_13 rfl (lv_at hl 0 rfl) ?_
  refine lv_aload_n hx hb dX4_addHall_14 rfl (lv_at hl 1 rfl) ?_
  refine va_get (D := D) (ci := 4) (v := .ref (a 0)) (C := RX4) (T := TX4) (N := 2) hx hb hts tu_4 hown hE.1 hP 29 xo_29 rfl 0 (by decide) (hts _ tw_150) (fun _ h9 => h9) rfl dX4_addHall_15 ?_
  refine va_get (D := D) (ci := 2) (v := .ref (a 1)) (C := RX2) (T := TX2) (N := 8) hx hb hts tu_2 hown hE.1 hP 0 hw_0 rfl 3 (by decide) (hts _ tw_125) (fun _ h9 => h9) rfl dX4_addHall_18 ?_
  refine va_get (D := D) (ci := 1) (v := .int (S 0 3)) (C := RX1) (T := TX1) (N := 3) hx hb hts tu_1 hown hE.1 hP 1 hw_1 rfl 0 (by decide) (hts _ tw_51) (fun _ h9 => h9) rfl dX4_addHall_21 ?_
  refine lv_i2l hx hb dX4_addHall_24 rfl ?_
  refine c_pSl (rest := []) hC hE hP (metX4_addInt l (mOn d (S 0 0)) (S 0 3)) gc_RX4_212 hd_X4_addNumber ⟨rfl, rfl⟩ ⟨Nat.le_of_ble_eq_true rfl, Nat.le_of_ble_eq_true rfl⟩ rfl hl.1 (Nat.le_of_ble_eq_true rfl) ⟨Nat.le_of_ble_eq_true rfl, Nat.le_of_ble_eq_true rfl⟩ dX4_addHall_25 ?_
  refine lv_lstore_n (lv' := [(3, .long (mOn (mOn d (S 0 0)) (S 0 3))), (0, .ref x), (1, .long d)]) hx hb dX4_addHall_28 rfl hl (by decide) rfl (fun ls hl => ?_)
  refine lv_lload_n hx hb dX4_addHall_29 rfl (lv_at hl 0 rfl) ?_
  refine lv_aload_n hx hb dX4_addHall_30 rfl (lv_at hl 1 rfl) ?_
  refine va_get (D := D) (ci := 4) (v := .ref (a 0)) (C := RX4) (T := TX4) (N := 2) hx hb hts tu_4 hown hE.1 hP 29 xo_29 rfl 0 (by decide) (hts _ tw_150) (fun _ h9 => h9) rfl dX4_addHall_31 ?_
  refine va_get (D := D) (ci := 2) (v := .ref (a 2)) (C := RX2) (T := TX2) (N := 8) hx hb hts tu_2 hown hE.1 hP 0 hw_0 rfl 4 (by decide) (hts _ tw_127) (fun _ h9 => h9) rfl dX4_addHall_34 ?_
  refine va_get (D := D) (ci := 0) (v := .int (S 0 4)) (C := RX0) (T := TX0) (N := 9) hx hb hts tu_0 hown hE.1 hP 2 hw_2 rfl 0 (by decide) (hts _ tw_74) (fun _ h9 => h9) rfl dX4_addHall_37 ?_
  refine lv_i2l hx hb dX4_addHall_40 rfl ?_
  refine c_pSl (rest := []) hC hE hP (metX4_addInt l (mOn (mOn d (S 0 0)) (S 0 3)) (S 0 4)) gc_RX4_212 hd_X4_addNumber ⟨rfl, rfl⟩ ⟨Nat.le_of_ble_eq_true rfl, Nat.le_of_ble_eq_true rfl⟩ rfl hl.1 (Nat.le_of_ble_eq_true rfl) ⟨Nat.le_of_ble_eq_true rfl, Nat.le_of_ble_eq_true rfl⟩ dX4_addHall_41 ?_
  refine lv_lstore_n (lv' := [(3, .long (mOn (mOn (mOn d (S 0 0)) (S 0 3)) (S 0 4))), (0, .ref x), (1, .long d)]) hx hb dX4_addHall_44 rfl hl (by decide) rfl (fun ls hl => ?_)
  refine lv_lload_n hx hb dX4_addHall_45 rfl (lv_at hl 0 rfl) ?_
  refine lv_aload_n hx hb dX4_addHall_46 rfl (lv_at hl 1 rfl) ?_
  refine va_get (D := D) (ci := 4) (v := .ref (a 0)) (C := RX4) (T := TX4) (N := 2) hx hb hts tu_4 hown hE.1 hP 29 xo_29 rfl 0 (by decide) (hts _ tw_150) (fun _ h9 => h9) rfl dX4_addHall_47 ?_
  refine va_get (D := D) (ci := 2) (v := .ref (a 2)) (C := RX2) (T := TX2) (N := 8) hx hb hts tu_2 hown hE.1 hP 0 hw_0 rfl 4 (by decide) (hts _ tw_127) (fun _ h9 => h9) rfl dX4_addHall_50 ?_
  refine va_get (D := D) (ci := 0) (v := .ref (a 11)) (C := RX0) (T := TX0) (N := 9) hx hb hts tu_0 hown hE.1 hP 2 hw_2 rfl 4 (by decide) (hts _ tw_84) (fun _ h9 => h9) rfl dX4_addHall_53 ?_
  refine lv_iconst (v := 0) hx hb dX4_addHall_56 (by decide) ?_
  refine c_pVi (rest := [.long (mOn (mOn (mOn d (S 0 0)) (S 0 3)) (S 0 4))]) hC hE hP (metX3_count l hw_11 hw_24 (by decide) 0) gc_RX4_169 hd_X3_count ⟨rfl, rfl⟩ ⟨Nat.le_of_ble_eq_true rfl, Nat.le_of_ble_eq_true rfl⟩ 11 hw_11 rfl rfl hl.1 (Nat.le_of_ble_eq_true rfl) ⟨Nat.le_of_ble_eq_true rfl, Nat.le_of_ble_eq_true rfl⟩ dX4_addHall_57 ?_
  refine lv_i2l hx hb dX4_addHall_60 rfl ?_
  refine c_pSl (rest := []) hC hE hP (metX4_addInt l (mOn (mOn (mOn d (S 0 0)) (S 0 3)) (S 0 4)) (nI (ct (fun j_ => S 6 j_ = 0) 40))) gc_RX4_212 hd_X4_addNumber ⟨rfl, rfl⟩ ⟨Nat.le_of_ble_eq_true rfl, Nat.le_of_ble_eq_true rfl⟩ rfl hl.1 (Nat.le_of_ble_eq_true rfl) ⟨Nat.le_of_ble_eq_true rfl, Nat.le_of_ble_eq_true rfl⟩ dX4_addHall_61 ?_
  refine lv_lstore_n (lv' := [(3, .long (mOn (mOn (mOn (mOn d (S 0 0)) (S 0 3)) (S 0 4)) (nI (ct (fun j_ => S 6 j_ = 0) 40)))), (0, .ref x), (1, .long d)]) hx hb dX4_addHall_64 rfl hl (by decide) rfl (fun ls hl => ?_)
  refine lv_lload_n hx hb dX4_addHall_65 rfl (lv_at hl 0 rfl) ?_
  refine lv_aload_n hx hb dX4_addHall_66 rfl (lv_at hl 1 rfl) ?_
  refine va_get (D := D) (ci := 4) (v := .ref (a 0)) (C := RX4) (T := TX4) (N := 2) hx hb hts tu_4 hown hE.1 hP 29 xo_29 rfl 0 (by decide) (hts _ tw_150) (fun _ h9 => h9) rfl dX4_addHall_67 ?_
  refine va_get (D := D) (ci := 2) (v := .ref (a 2)) (C := RX2) (T := TX2) (N := 8) hx hb hts tu_2 hown hE.1 hP 0 hw_0 rfl 4 (by decide) (hts _ tw_127) (fun _ h9 => h9) rfl dX4_addHall_70 ?_
  refine va_get (D := D) (ci := 0) (v := .ref (a 11)) (C := RX0) (T := TX0) (N := 9) hx hb hts tu_0 hown hE.1 hP 2 hw_2 rfl 4 (by decide) (hts _ tw_84) (fun _ h9 => h9) rfl dX4_addHall_73 ?_
  refine lv_iconst (v := 1) hx hb dX4_addHall_76 (by decide) ?_
  refine c_pVi (rest := [.long (mOn (mOn (mOn (mOn d (S 0 0)) (S 0 3)) (S 0 4)) (nI (ct (fun j_ => S 6 j_ = 0) 40)))]) hC hE hP (metX3_count l hw_11 hw_24 (by decide) 1) gc_RX4_169 hd_X3_count ⟨rfl, rfl⟩ ⟨Nat.le_of_ble_eq_true rfl, Nat.le_of_ble_eq_true rfl⟩ 11 hw_11 rfl rfl hl.1 (Nat.le_of_ble_eq_true rfl) ⟨Nat.le_of_ble_eq_true rfl, Nat.le_of_ble_eq_true rfl⟩ dX4_addHall_77 ?_
  refine lv_i2l hx hb dX4_addHall_80 rfl ?_
  refine c_pSl (rest := []) hC hE hP (metX4_addInt l (mOn (mOn (mOn (mOn d (S 0 0)) (S 0 3)) (S 0 4)) (nI (ct (fun j_ => S 6 j_ = 0) 40))) (nI (ct (fun j_ => S 6 j_ = 1) 40))) gc_RX4_212 hd_X4_addNumber ⟨rfl, rfl⟩ ⟨Nat.le_of_ble_eq_true rfl, Nat.le_of_ble_eq_true rfl⟩ rfl hl.1 (Nat.le_of_ble_eq_true rfl) ⟨Nat.le_of_ble_eq_true rfl, Nat.le_of_ble_eq_true rfl⟩ dX4_addHall_81 ?_
  refine lv_lstore_n (lv' := [(3, .long (mOn (mOn (mOn (mOn (mOn d (S 0 0)) (S 0 3)) (S 0 4)) (nI (ct (fun j_ => S 6 j_ = 0) 40))) (nI (ct (fun j_ => S 6 j_ = 1) 40)))), (0, .ref x), (1, .long d)]) hx hb dX4_addHall_84 rfl hl (by decide) rfl (fun ls hl => ?_)
  refine lv_lload_n hx hb dX4_addHall_85 rfl (lv_at hl 0 rfl) ?_
  refine lv_aload_n hx hb dX4_addHall_86 rfl (lv_at hl 1 rfl) ?_
  refine va_get (D := D) (ci := 4) (v := .ref (a 0)) (C := RX4) (T := TX4) (N := 2) hx hb hts tu_4 hown hE.1 hP 29 xo_29 rfl 0 (by decide) (hts _ tw_150) (fun _ h9 => h9) rfl dX4_addHall_87 ?_
  refine va_get (D := D) (ci := 2) (v := .ref (a 2)) (C := RX2) (T := TX2) (N := 8) hx hb hts tu_2 hown hE.1 hP 0 hw_0 rfl 4 (by decide) (hts _ tw_127) (fun _ h9 => h9) rfl dX4_addHall_90 ?_
  refine va_get (D := D) (ci := 0) (v := .ref (a 11)) (C := RX0) (T := TX0) (N := 9) hx hb hts tu_0 hown hE.1 hP 2 hw_2 rfl 4 (by decide) (hts _ tw_84) (fun _ h9 => h9) rfl dX4_addHall_93 ?_
  refine lv_iconst (v := 3) hx hb dX4_addHall_96 (by decide) ?_
  refine c_pVi (rest := [.long (mOn (mOn (mOn (mOn (mOn d (S 0 0)) (S 0 3)) (S 0 4)) (nI (ct (fun j_ => S 6 j_ = 0) 40))) (nI (ct (fun j_ => S 6 j_ = 1) 40)))]) hC hE hP (metX3_count l hw_11 hw_24 (by decide) 3) gc_RX4_169 hd_X3_count ⟨rfl, rfl⟩ ⟨Nat.le_of_ble_eq_true rfl, Nat.le_of_ble_eq_true rfl⟩ 11 hw_11 rfl rfl hl.1 (Nat.le_of_ble_eq_true rfl) ⟨Nat.le_of_ble_eq_true rfl, Nat.le_of_ble_eq_true rfl⟩ dX4_addHall_97 ?_
  refine lv_i2l hx hb dX4_addHall_100 rfl ?_
  refine c_pSl (rest := []) hC hE hP (metX4_addInt l (mOn (mOn (mOn (mOn (mOn d (S 0 0)) (S 0 3)) (S 0 4)) (nI (ct (fun j_ => S 6 j_ = 0) 40))) (nI (ct (fun j_ => S 6 j_ = 1) 40))) (nI (ct (fun j_ => S 6 j_ = 3) 40))) gc_RX4_212 hd_X4_addNumber ⟨rfl, rfl⟩ ⟨Nat.le_of_ble_eq_true rfl, Nat.le_of_ble_eq_true rfl⟩ rfl hl.1 (Nat.le_of_ble_eq_true rfl) ⟨Nat.le_of_ble_eq_true rfl, Nat.le_of_ble_eq_true rfl⟩ dX4_addHall_101 ?_
  refine lv_lstore_n (lv' := [(3, .long (mOn (mOn (mOn (mOn (mOn (mOn d (S 0 0)) (S 0 3)) (S 0 4)) (nI (ct (fun j_ => S 6 j_ = 0) 40))) (nI (ct (fun j_ => S 6 j_ = 1) 40))) (nI (ct (fun j_ => S 6 j_ = 3) 40)))), (0, .ref x), (1, .long d)]) hx hb dX4_addHall_104 rfl hl (by decide) rfl (fun ls hl => ?_)
  refine lv_lload_n hx hb dX4_addHall_105 rfl (lv_at hl 0 rfl) ?_
  refine lv_aload_n hx hb dX4_addHall_106 rfl (lv_at hl 1 rfl) ?_
  refine va_get (D := D) (ci := 4) (v := .ref (a 0)) (C := RX4) (T := TX4) (N := 2) hx hb hts tu_4 hown hE.1 hP 29 xo_29 rfl 0 (by decide) (hts _ tw_150) (fun _ h9 => h9) rfl dX4_addHall_107 ?_
  refine va_get (D := D) (ci := 2) (v := .ref (a 2)) (C := RX2) (T := TX2) (N := 8) hx hb hts tu_2 hown hE.1 hP 0 hw_0 rfl 4 (by decide) (hts _ tw_127) (fun _ h9 => h9) rfl dX4_addHall_110 ?_
  refine va_get (D := D) (ci := 0) (v := .ref (a 15)) (C := RX0) (T := TX0) (N := 9) hx hb hts tu_0 hown hE.1 hP 2 hw_2 rfl 8 (by decide) (hts _ tw_96) (fun _ h9 => h9) rfl dX4_addHall_113 ?_
  refine lv_iconst (v := 1) hx hb dX4_addHall_116 (by decide) ?_
  refine c_pVi (rest := [.long (mOn (mOn (mOn (mOn (mOn (mOn d (S 0 0)) (S 0 3)) (S 0 4)) (nI (ct (fun j_ => S 6 j_ = 0) 40))) (nI (ct (fun j_ => S 6 j_ = 1) 40))) (nI (ct (fun j_ => S 6 j_ = 3) 40)))]) hC hE hP (metX3_count l hw_15 hw_28 (by decide) 1) gc_RX4_169 hd_X3_count ⟨rfl, rfl⟩ ⟨Nat.le_of_ble_eq_true rfl, Nat.le_of_ble_eq_true rfl⟩ 15 hw_15 rfl rfl hl.1 (Nat.le_of_ble_eq_true rfl) ⟨Nat.le_of_ble_eq_true rfl, Nat.le_of_ble_eq_true rfl⟩ dX4_addHall_117 ?_
  refine lv_i2l hx hb dX4_addHall_120 rfl ?_
  refine c_pSl (rest := []) hC hE hP (metX4_addInt l (mOn (mOn (mOn (mOn (mOn (mOn d (S 0 0)) (S 0 3)) (S 0 4)) (nI (ct (fun j_ => S 6 j_ = 0) 40))) (nI (ct (fun j_ => S 6 j_ = 1) 40))) (nI (ct (fun j_ => S 6 j_ = 3) 40))) (nI (ct (fun j_ => S 10 j_ = 1) 40))) gc_RX4_212 hd_X4_addNumber ⟨rfl, rfl⟩ ⟨Nat.le_of_ble_eq_true rfl, Nat.le_of_ble_eq_true rfl⟩ rfl hl.1 (Nat.le_of_ble_eq_true rfl) ⟨Nat.le_of_ble_eq_true rfl, Nat.le_of_ble_eq_true rfl⟩ dX4_addHall_121 ?_
  refine lv_lstore_n (lv' := [(3, .long (mOn (mOn (mOn (mOn (mOn (mOn (mOn d (S 0 0)) (S 0 3)) (S 0 4)) (nI (ct (fun j_ => S 6 j_ = 0) 40))) (nI (ct (fun j_ => S 6 j_ = 1) 40))) (nI (ct (fun j_ => S 6 j_ = 3) 40))) (nI (ct (fun j_ => S 10 j_ = 1) 40)))), (0, .ref x), (1, .long d)]) hx hb dX4_addHall_124 rfl hl (by decide) rfl (fun ls hl => ?_)
  refine lv_lload_n hx hb dX4_addHall_125 rfl (lv_at hl 0 rfl) ?_
  refine lv_aload_n hx hb dX4_addHall_126 rfl (lv_at hl 1 rfl) ?_
  refine va_get (D := D) (ci := 4) (v := .ref (a 0)) (C := RX4) (T := TX4) (N := 2) hx hb hts tu_4 hown hE.1 hP 29 xo_29 rfl 0 (by decide) (hts _ tw_150) (fun _ h9 => h9) rfl dX4_addHall_127 ?_
  refine va_get (D := D) (ci := 2) (v := .ref (a 2)) (C := RX2) (T := TX2) (N := 8) hx hb hts tu_2 hown hE.1 hP 0 hw_0 rfl 4 (by decide) (hts _ tw_127) (fun _ h9 => h9) rfl dX4_addHall_130 ?_
  refine va_get (D := D) (ci := 0) (v := .ref (a 15)) (C := RX0) (T := TX0) (N := 9) hx hb hts tu_0 hown hE.1 hP 2 hw_2 rfl 8 (by decide) (hts _ tw_96) (fun _ h9 => h9) rfl dX4_addHall_133 ?_
  refine lv_iconst (v := 2) hx hb dX4_addHall_136 (by decide) ?_
  refine c_pVi (rest := [.long (mOn (mOn (mOn (mOn (mOn (mOn (mOn d (S 0 0)) (S 0 3)) (S 0 4)) (nI (ct (fun j_ => S 6 j_ = 0) 40))) (nI (ct (fun j_ => S 6 j_ = 1) 40))) (nI (ct (fun j_ => S 6 j_ = 3) 40))) (nI (ct (fun j_ => S 10 j_ = 1) 40)))]) hC hE hP (metX3_count l hw_15 hw_28 (by decide) 2) gc_RX4_169 hd_X3_count ⟨rfl, rfl⟩ ⟨Nat.le_of_ble_eq_true rfl, Nat.le_of_ble_eq_true rfl⟩ 15 hw_15 rfl rfl hl.1 (Nat.le_of_ble_eq_true rfl) ⟨Nat.le_of_ble_eq_true rfl, Nat.le_of_ble_eq_true rfl⟩ dX4_addHall_137 ?_
  refine lv_i2l hx hb dX4_addHall_140 rfl ?_
  refine c_pSl (rest := []) hC hE hP (metX4_addInt l (mOn (mOn (mOn (mOn (mOn (mOn (mOn d (S 0 0)) (S 0 3)) (S 0 4)) (nI (ct (fun j_ => S 6 j_ = 0) 40))) (nI (ct (fun j_ => S 6 j_ = 1) 40))) (nI (ct (fun j_ => S 6 j_ = 3) 40))) (nI (ct (fun j_ => S 10 j_ = 1) 40))) (nI (ct (fun j_ => S 10 j_ = 2) 40))) gc_RX4_212 hd_X4_addNumber ⟨rfl, rfl⟩ ⟨Nat.le_of_ble_eq_true rfl, Nat.le_of_ble_eq_true rfl⟩ rfl hl.1 (Nat.le_of_ble_eq_true rfl) ⟨Nat.le_of_ble_eq_true rfl, Nat.le_of_ble_eq_true rfl⟩ dX4_addHall_141 ?_
  refine lv_lstore_n (lv' := [(3, .long (mOn (mOn (mOn (mOn (mOn (mOn (mOn (mOn d (S 0 0)) (S 0 3)) (S 0 4)) (nI (ct (fun j_ => S 6 j_ = 0) 40))) (nI (ct (fun j_ => S 6 j_ = 1) 40))) (nI (ct (fun j_ => S 6 j_ = 3) 40))) (nI (ct (fun j_ => S 10 j_ = 1) 40))) (nI (ct (fun j_ => S 10 j_ = 2) 40)))), (0, .ref x), (1, .long d)]) hx hb dX4_addHall_144 rfl hl (by decide) rfl (fun ls hl => ?_)
  refine lv_lload_n hx hb dX4_addHall_145 rfl (lv_at hl 0 rfl) ?_
  refine lv_aload_n hx hb dX4_addHall_146 rfl (lv_at hl 1 rfl) ?_
  refine va_get (D := D) (ci := 4) (v := .ref (a 0)) (C := RX4) (T := TX4) (N := 2) hx hb hts tu_4 hown hE.1 hP 29 xo_29 rfl 0 (by decide) (hts _ tw_150) (fun _ h9 => h9) rfl dX4_addHall_147 ?_
  refine va_get (D := D) (ci := 2) (v := .int (S 0 1)) (C := RX2) (T := TX2) (N := 8) hx hb hts tu_2 hown hE.1 hP 0 hw_0 rfl 1 (by decide) (hts _ tw_121) (fun _ h9 => h9) rfl dX4_addHall_150 ?_
  refine lv_i2l hx hb dX4_addHall_153 rfl ?_
  refine c_pSl (rest := []) hC hE hP (metX4_addInt l (mOn (mOn (mOn (mOn (mOn (mOn (mOn (mOn d (S 0 0)) (S 0 3)) (S 0 4)) (nI (ct (fun j_ => S 6 j_ = 0) 40))) (nI (ct (fun j_ => S 6 j_ = 1) 40))) (nI (ct (fun j_ => S 6 j_ = 3) 40))) (nI (ct (fun j_ => S 10 j_ = 1) 40))) (nI (ct (fun j_ => S 10 j_ = 2) 40))) (S 0 1)) gc_RX4_212 hd_X4_addNumber ⟨rfl, rfl⟩ ⟨Nat.le_of_ble_eq_true rfl, Nat.le_of_ble_eq_true rfl⟩ rfl hl.1 (Nat.le_of_ble_eq_true rfl) ⟨Nat.le_of_ble_eq_true rfl, Nat.le_of_ble_eq_true rfl⟩ dX4_addHall_154 ?_
  exact p_lret hx hb hr hlk dX4_addHall_157 (by rw [xDgH]; first | done | rfl)

set_option maxHeartbeats 4000000 in
set_option maxRecDepth 100000 in
theorem metX4_addBag (l : Launch) {D : va_G} {k : Nat → ClassId} {a tr : Nat → Nat} {x : Nat} {R : va_W} (S : HS) (d : Int64) (b : Int32) : PM l yX4_addBag cX4_addBag 6 (some FieldType.long) rmX4_addBag D k (hw k a S ++ ((x, .inr (4, [.ref (a 0), .ref (tr 0)])) :: R)) [.ref x, .long d, .int b] (some (.long (xDgB S b d))) := by
  refine PM_of rfl (Nat.le_of_ble_eq_true rfl) ?_
  intro p e s m below meth c hC hr hlk hin hE hP ls hl
  have hC : CallFix p m c cX4_addBag 6 s _ lw_all RX4 := hC
  have hx := hC.1
  have hb := hC.2.1
  have hown : s.vm.findClass RX4 = some m.cls := hC.2.2.2.1
  have hts := hC.2.2.2.2
  have hl : lv_has ls 6 [(0, .ref x), (1, .long d), (3, .int b)] := hl
  refine lv_lload_n hx hb dX4_addBag_0 rfl (lv_at hl 1 rfl) ?_
  refine lv_aload_n hx hb dX4_addBag_1 rfl (lv_at hl 0 rfl) ?_
  refine va_get (D := D) (ci := 4) (v := .ref (a 0)) (C := RX4) (T := TX4) (N := 2) hx hb hts tu_4 hown hE.1 hP 29 xo_29 rfl 0 (by decide) (hts _ tw_150) (fun _ h9 => h9) rfl dX4_addBag_2 ?_
  refine va_get (D := D) (ci := 2) (v := .ref (a 2)) (C := RX2) (T := TX2) (N := 8) hx hb hts tu_2 hown hE.1 hP 0 hw_0 rfl 4 (by decide) (hts _ tw_127) (fun _ h9 => h9) rfl dX4_addBag_5 ?_
  refine va_get (D := D) (ci := 0) (v := .ref (a 8)) (C := RX0) (T := TX0) (N := 9) hx hb hts tu_0 hown hE.1 hP 2 hw_2 rfl 1 (by decide) (hts _ tw_77) (fun _ h9 => h9) rfl dX4_addBag_8 ?_
  refine lv_iload_n hx hb dX4_addBag_11 rfl (lv_at hl 2 rfl) ?_
  refine c_pVi (rest := [.long d]) hC hE hP (metX3_at l hw_8 hw_21 (by decide) b) gc_RX4_68 hd_X3_at ⟨rfl, rfl⟩ ⟨Nat.le_of_ble_eq_true rfl, Nat.le_of_ble_eq_true rfl⟩ 8 hw_8 rfl rfl hl.1 (Nat.le_of_ble_eq_true rfl) ⟨Nat.le_of_ble_eq_true rfl, Nat.le_of_ble_eq_true rfl⟩ dX4_addBag_12 ?_
  refine lv_i2l hx hb dX4_addBag_15 rfl ?_
  refine c_pSl (rest := []) hC hE hP (metX4_addInt l d (rd 40 (S 3) b)) gc_RX4_212 hd_X4_addNumber ⟨rfl, rfl⟩ ⟨Nat.le_of_ble_eq_true rfl, Nat.le_of_ble_eq_true rfl⟩ rfl hl.1 (Nat.le_of_ble_eq_true rfl) ⟨Nat.le_of_ble_eq_true rfl, Nat.le_of_ble_eq_true rfl⟩ dX4_addBag_16 ?_
  refine lv_lstore (lv' := [(4, .long (mOn d (rd 40 (S 3) b))), (0, .ref x), (1, .long d), (3, .int b)]) hx hb dX4_addBag_19 hl (by decide) rfl (fun ls hl => ?_)
  refine lv_lload hx hb dX4_addBag_21 (lv_at hl 0 rfl) ?_
  refine lv_aload_n hx hb dX4_addBag_23 rfl (lv_at hl 1 rfl) ?_
  refine va_get (D := D) (ci := 4) (v := .ref (a 0)) (C := RX4) (T := TX4) (N := 2) hx hb hts tu_4 hown hE.1 hP 29 xo_29 rfl 0 (by decide) (hts _ tw_150) (fun _ h9 => h9) rfl dX4_addBag_24 ?_
  refine va_get (D := D) (ci := 2) (v := .ref (a 2)) (C := RX2) (T := TX2) (N := 8) hx hb hts tu_2 hown hE.1 hP 0 hw_0 rfl 4 (by decide) (hts _ tw_127) (fun _ h9 => h9) rfl dX4_addBag_27 ?_
  refine va_get (D := D) (ci := 0) (v := .ref (a 11)) (C := RX0) (T := TX0) (N := 9) hx hb hts tu_0 hown hE.1 hP 2 hw_2 rfl 4 (by decide) (hts _ tw_84) (fun _ h9 => h9) rfl dX4_addBag_30 ?_
  refine lv_iload_n hx hb dX4_addBag_33 rfl (lv_at hl 3 rfl) ?_
  refine c_pVi (rest := [.long (mOn d (rd 40 (S 3) b))]) hC hE hP (metX3_at l hw_11 hw_24 (by decide) b) gc_RX4_68 hd_X3_at ⟨rfl, rfl⟩ ⟨Nat.le_of_ble_eq_true rfl, Nat.le_of_ble_eq_true rfl⟩ 11 hw_11 rfl rfl hl.1 (Nat.le_of_ble_eq_true rfl) ⟨Nat.le_of_ble_eq_true rfl, Nat.le_of_ble_eq_true rfl⟩ dX4_addBag_34 ?_
  refine lv_i2l hx hb dX4_addBag_37 rfl ?_
  refine c_pSl (rest := []) hC hE hP (metX4_addInt l (mOn d (rd 40 (S 3) b)) (rd 40 (S 6) b)) gc_RX4_212 hd_X4_addNumber ⟨rfl, rfl⟩ ⟨Nat.le_of_ble_eq_true rfl, Nat.le_of_ble_eq_true rfl⟩ rfl hl.1 (Nat.le_of_ble_eq_true rfl) ⟨Nat.le_of_ble_eq_true rfl, Nat.le_of_ble_eq_true rfl⟩ dX4_addBag_38 ?_
  refine lv_lstore (lv' := [(4, .long (mOn (mOn d (rd 40 (S 3) b)) (rd 40 (S 6) b))), (0, .ref x), (1, .long d), (3, .int b)]) hx hb dX4_addBag_41 hl (by decide) rfl (fun ls hl => ?_)
  refine lv_lload hx hb dX4_addBag_43 (lv_at hl 0 rfl) ?_
  refine lv_aload_n hx hb dX4_addBag_45 rfl (lv_at hl 1 rfl) ?_
  refine va_get (D := D) (ci := 4) (v := .ref (a 0)) (C := RX4) (T := TX4) (N := 2) hx hb hts tu_4 hown hE.1 hP 29 xo_29 rfl 0 (by decide) (hts _ tw_150) (fun _ h9 => h9) rfl dX4_addBag_46 ?_
  refine lv_iload_n hx hb dX4_addBag_49 rfl (lv_at hl 3 rfl) ?_
  refine c_pVi (rest := [.long (mOn (mOn d (rd 40 (S 3) b)) (rd 40 (S 6) b))]) hC hE hP (metX2_findOnBelt l S b) gc_RX4_145 hd_X2_findOnBelt ⟨rfl, rfl⟩ ⟨Nat.le_of_ble_eq_true rfl, Nat.le_of_ble_eq_true rfl⟩ 0 hw_0 rfl rfl hl.1 (Nat.le_of_ble_eq_true rfl) ⟨Nat.le_of_ble_eq_true rfl, Nat.le_of_ble_eq_true rfl⟩ dX4_addBag_50 ?_
  refine lv_i2l hx hb dX4_addBag_53 rfl ?_
  refine c_pSl (rest := []) hC hE hP (metX4_addInt l (mOn (mOn d (rd 40 (S 3) b)) (rd 40 (S 6) b)) (fnd (S 12) b 0 12)) gc_RX4_212 hd_X4_addNumber ⟨rfl, rfl⟩ ⟨Nat.le_of_ble_eq_true rfl, Nat.le_of_ble_eq_true rfl⟩ rfl hl.1 (Nat.le_of_ble_eq_true rfl) ⟨Nat.le_of_ble_eq_true rfl, Nat.le_of_ble_eq_true rfl⟩ dX4_addBag_54 ?_
  refine lv_lstore (lv' := [(4, .long (mOn (mOn (mOn d (rd 40 (S 3) b)) (rd 40 (S 6) b)) (fnd (S 12) b 0 12))), (0, .ref x), (1, .long d), (3, .int b)]) hx hb dX4_addBag_57 hl (by decide) rfl (fun ls hl => ?_)
  refine lv_lload hx hb dX4_addBag_59 (lv_at hl 0 rfl) ?_
  refine lv_aload_n hx hb dX4_addBag_61 rfl (lv_at hl 1 rfl) ?_
  refine va_get (D := D) (ci := 4) (v := .ref (a 0)) (C := RX4) (T := TX4) (N := 2) hx hb hts tu_4 hown hE.1 hP 29 xo_29 rfl 0 (by decide) (hts _ tw_150) (fun _ h9 => h9) rfl dX4_addBag_62 ?_
  refine va_get (D := D) (ci := 2) (v := .ref (a 2)) (C := RX2) (T := TX2) (N := 8) hx hb hts tu_2 hown hE.1 hP 0 hw_0 rfl 4 (by decide) (hts _ tw_127) (fun _ h9 => h9) rfl dX4_addBag_65 ?_
  refine va_get (D := D) (ci := 0) (v := .ref (a 12)) (C := RX0) (T := TX0) (N := 9) hx hb hts tu_0 hown hE.1 hP 2 hw_2 rfl 5 (by decide) (hts _ tw_87) (fun _ h9 => h9) rfl dX4_addBag_68 ?_
  refine lv_iload_n hx hb dX4_addBag_71 rfl (lv_at hl 3 rfl) ?_
  refine c_pVi (rest := [.long (mOn (mOn (mOn d (rd 40 (S 3) b)) (rd 40 (S 6) b)) (fnd (S 12) b 0 12))]) hC hE hP (metX3_at l hw_12 hw_25 (by decide) b) gc_RX4_68 hd_X3_at ⟨rfl, rfl⟩ ⟨Nat.le_of_ble_eq_true rfl, Nat.le_of_ble_eq_true rfl⟩ 12 hw_12 rfl rfl hl.1 (Nat.le_of_ble_eq_true rfl) ⟨Nat.le_of_ble_eq_true rfl, Nat.le_of_ble_eq_true rfl⟩ dX4_addBag_72 ?_
  refine lv_i2l hx hb dX4_addBag_75 rfl ?_
  refine c_pSl (rest := []) hC hE hP (metX4_addInt l (mOn (mOn (mOn d (rd 40 (S 3) b)) (rd 40 (S 6) b)) (fnd (S 12) b 0 12)) (rd 40 (S 7) b)) gc_RX4_212 hd_X4_addNumber ⟨rfl, rfl⟩ ⟨Nat.le_of_ble_eq_true rfl, Nat.le_of_ble_eq_true rfl⟩ rfl hl.1 (Nat.le_of_ble_eq_true rfl) ⟨Nat.le_of_ble_eq_true rfl, Nat.le_of_ble_eq_true rfl⟩ dX4_addBag_76 ?_
  refine lv_lstore (lv' := [(4, .long (mOn (mOn (mOn (mOn d (rd 40 (S 3) b)) (rd 40 (S 6) b)) (fnd (S 12) b 0 12)) (rd 40 (S 7) b))), (0, .ref x), (1, .long d), (3, .int b)]) hx hb dX4_addBag_79 hl (by decide) rfl (fun ls hl => ?_)
  refine lv_lload hx hb dX4_addBag_81 (lv_at hl 0 rfl) ?_
  refine lv_aload_n hx hb dX4_addBag_83 rfl (lv_at hl 1 rfl) ?_
  refine va_get (D := D) (ci := 4) (v := .ref (a 0)) (C := RX4) (T := TX4) (N := 2) hx hb hts tu_4 hown hE.1 hP 29 xo_29 rfl 0 (by decide) (hts _ tw_150) (fun _ h9 => h9) rfl dX4_addBag_84 ?_
  refine va_get (D := D) (ci := 2) (v := .ref (a 2)) (C := RX2) (T := TX2) (N := 8) hx hb hts tu_2 hown hE.1 hP 0 hw_0 rfl 4 (by decide) (hts _ tw_127) (fun _ h9 => h9) rfl dX4_addBag_87 ?_
  refine va_get (D := D) (ci := 0) (v := .ref (a 13)) (C := RX0) (T := TX0) (N := 9) hx hb hts tu_0 hown hE.1 hP 2 hw_2 rfl 6 (by decide) (hts _ tw_90) (fun _ h9 => h9) rfl dX4_addBag_90 ?_
  refine lv_iload_n hx hb dX4_addBag_93 rfl (lv_at hl 3 rfl) ?_
  refine c_pVi (rest := [.long (mOn (mOn (mOn (mOn d (rd 40 (S 3) b)) (rd 40 (S 6) b)) (fnd (S 12) b 0 12)) (rd 40 (S 7) b))]) hC hE hP (metX3_at l hw_13 hw_26 (by decide) b) gc_RX4_68 hd_X3_at ⟨rfl, rfl⟩ ⟨Nat.le_of_ble_eq_true rfl, Nat.le_of_ble_eq_true rfl⟩ 13 hw_13 rfl rfl hl.1 (Nat.le_of_ble_eq_true rfl) ⟨Nat.le_of_ble_eq_true rfl, Nat.le_of_ble_eq_true rfl⟩ dX4_addBag_94 ?_
  refine lv_i2l hx hb dX4_addBag_97 rfl ?_
  refine c_pSl (rest := []) hC hE hP (metX4_addInt l (mOn (mOn (mOn (mOn d (rd 40 (S 3) b)) (rd 40 (S 6) b)) (fnd (S 12) b 0 12)) (rd 40 (S 7) b)) (rd 40 (S 8) b)) gc_RX4_212 hd_X4_addNumber ⟨rfl, rfl⟩ ⟨Nat.le_of_ble_eq_true rfl, Nat.le_of_ble_eq_true rfl⟩ rfl hl.1 (Nat.le_of_ble_eq_true rfl) ⟨Nat.le_of_ble_eq_true rfl, Nat.le_of_ble_eq_true rfl⟩ dX4_addBag_98 ?_
  refine lv_lstore (lv' := [(4, .long (mOn (mOn (mOn (mOn (mOn d (rd 40 (S 3) b)) (rd 40 (S 6) b)) (fnd (S 12) b 0 12)) (rd 40 (S 7) b)) (rd 40 (S 8) b))), (0, .ref x), (1, .long d), (3, .int b)]) hx hb dX4_addBag_101 hl (by decide) rfl (fun ls hl => ?_)
  refine lv_lload hx hb dX4_addBag_103 (lv_at hl 0 rfl) ?_
  refine lv_aload_n hx hb dX4_addBag_105 rfl (lv_at hl 1 rfl) ?_
  refine va_get (D := D) (ci := 4) (v := .ref (a 0)) (C := RX4) (T := TX4) (N := 2) hx hb hts tu_4 hown hE.1 hP 29 xo_29 rfl 0 (by decide) (hts _ tw_150) (fun _ h9 => h9) rfl dX4_addBag_106 ?_
  refine va_get (D := D) (ci := 2) (v := .ref (a 2)) (C := RX2) (T := TX2) (N := 8) hx hb hts tu_2 hown hE.1 hP 0 hw_0 rfl 4 (by decide) (hts _ tw_127) (fun _ h9 => h9) rfl dX4_addBag_109 ?_
  refine va_get (D := D) (ci := 0) (v := .ref (a 14)) (C := RX0) (T := TX0) (N := 9) hx hb hts tu_0 hown hE.1 hP 2 hw_2 rfl 7 (by decide) (hts _ tw_93) (fun _ h9 => h9) rfl dX4_addBag_112 ?_
  refine lv_iload_n hx hb dX4_addBag_115 rfl (lv_at hl 3 rfl) ?_
  refine c_pVi (rest := [.long (mOn (mOn (mOn (mOn (mOn d (rd 40 (S 3) b)) (rd 40 (S 6) b)) (fnd (S 12) b 0 12)) (rd 40 (S 7) b)) (rd 40 (S 8) b))]) hC hE hP (metX3_at l hw_14 hw_27 (by decide) b) gc_RX4_68 hd_X3_at ⟨rfl, rfl⟩ ⟨Nat.le_of_ble_eq_true rfl, Nat.le_of_ble_eq_true rfl⟩ 14 hw_14 rfl rfl hl.1 (Nat.le_of_ble_eq_true rfl) ⟨Nat.le_of_ble_eq_true rfl, Nat.le_of_ble_eq_true rfl⟩ dX4_addBag_116 ?_
  refine lv_i2l hx hb dX4_addBag_119 rfl ?_
  refine c_pSl (rest := []) hC hE hP (metX4_addInt l (mOn (mOn (mOn (mOn (mOn d (rd 40 (S 3) b)) (rd 40 (S 6) b)) (fnd (S 12) b 0 12)) (rd 40 (S 7) b)) (rd 40 (S 8) b)) (rd 40 (S 9) b)) gc_RX4_212 hd_X4_addNumber ⟨rfl, rfl⟩ ⟨Nat.le_of_ble_eq_true rfl, Nat.le_of_ble_eq_true rfl⟩ rfl hl.1 (Nat.le_of_ble_eq_true rfl) ⟨Nat.le_of_ble_eq_true rfl, Nat.le_of_ble_eq_true rfl⟩ dX4_addBag_120 ?_
  refine lv_lstore (lv' := [(4, .long (mOn (mOn (mOn (mOn (mOn (mOn d (rd 40 (S 3) b)) (rd 40 (S 6) b)) (fnd (S 12) b 0 12)) (rd 40 (S 7) b)) (rd 40 (S 8) b)) (rd 40 (S 9) b))), (0, .ref x), (1, .long d), (3, .int b)]) hx hb dX4_addBag_123 hl (by decide) rfl (fun ls hl => ?_)
  refine lv_lload hx hb dX4_addBag_125 (lv_at hl 0 rfl) ?_
  refine lv_aload_n hx hb dX4_addBag_127 rfl (lv_at hl 1 rfl) ?_
  refine va_get (D := D) (ci := 4) (v := .ref (a 0)) (C := RX4) (T := TX4) (N := 2) hx hb hts tu_4 hown hE.1 hP 29 xo_29 rfl 0 (by decide) (hts _ tw_150) (fun _ h9 => h9) rfl dX4_addBag_128 ?_
  refine lv_iload_n hx hb dX4_addBag_131 rfl (lv_at hl 3 rfl) ?_
  refine c_pVi (rest := [.long (mOn (mOn (mOn (mOn (mOn (mOn d (rd 40 (S 3) b)) (rd 40 (S 6) b)) (fnd (S 12) b 0 12)) (rd 40 (S 7) b)) (rd 40 (S 8) b)) (rd 40 (S 9) b))]) hC hE hP (metX2_isAstray l S b) gc_RX4_155 hd_X2_isAstray ⟨rfl, rfl⟩ ⟨Nat.le_of_ble_eq_true rfl, Nat.le_of_ble_eq_true rfl⟩ 0 hw_0 rfl rfl hl.1 (Nat.le_of_ble_eq_true rfl) ⟨Nat.le_of_ble_eq_true rfl, Nat.le_of_ble_eq_true rfl⟩ dX4_addBag_132 ?_
  refine lv_if_eq (tgt := 142) hx hb dX4_addBag_135 (by decide) (fun c_1 => ?_) (fun c_1 => ?_)
  · have c_1 := bI_0 c_1
    refine lv_lconst (v := 0) hx hb dX4_addBag_142 (by decide) ?_
    refine c_pSl (rest := []) hC hE hP (metX4_addBit0 l (mOn (mOn (mOn (mOn (mOn (mOn d (rd 40 (S 3) b)) (rd 40 (S 6) b)) (fnd (S 12) b 0 12)) (rd 40 (S 7) b)) (rd 40 (S 8) b)) (rd 40 (S 9) b))) gc_RX4_212 hd_X4_addNumber ⟨rfl, rfl⟩ ⟨Nat.le_of_ble_eq_true rfl, Nat.le_of_ble_eq_true rfl⟩ rfl hl.1 (Nat.le_of_ble_eq_true rfl) ⟨Nat.le_of_ble_eq_true rfl, Nat.le_of_ble_eq_true rfl⟩ dX4_addBag_143 ?_
    refine lv_lstore (lv' := [(4, .long (mOn (mOn (mOn (mOn (mOn (mOn (mOn d (rd 40 (S 3) b)) (rd 40 (S 6) b)) (fnd (S 12) b 0 12)) (rd 40 (S 7) b)) (rd 40 (S 8) b)) (rd 40 (S 9) b)) 0)), (0, .ref x), (1, .long d), (3, .int b)]) hx hb dX4_addBag_146 hl (by decide) rfl (fun ls hl => ?_)
    refine lv_lload hx hb dX4_addBag_148 (lv_at hl 0 rfl) ?_
    refine lv_aload_n hx hb dX4_addBag_150 rfl (lv_at hl 1 rfl) ?_
    refine va_get (D := D) (ci := 4) (v := .ref (a 0)) (C := RX4) (T := TX4) (N := 2) hx hb hts tu_4 hown hE.1 hP 29 xo_29 rfl 0 (by decide) (hts _ tw_150) (fun _ h9 => h9) rfl dX4_addBag_151 ?_
    refine va_get (D := D) (ci := 2) (v := .ref (a 2)) (C := RX2) (T := TX2) (N := 8) hx hb hts tu_2 hown hE.1 hP 0 hw_0 rfl 4 (by decide) (hts _ tw_127) (fun _ h9 => h9) rfl dX4_addBag_154 ?_
    refine va_get (D := D) (ci := 0) (v := .ref (a 15)) (C := RX0) (T := TX0) (N := 9) hx hb hts tu_0 hown hE.1 hP 2 hw_2 rfl 8 (by decide) (hts _ tw_96) (fun _ h9 => h9) rfl dX4_addBag_157 ?_
    refine lv_iload_n hx hb dX4_addBag_160 rfl (lv_at hl 3 rfl) ?_
    refine c_pVi (rest := [.long (mOn (mOn (mOn (mOn (mOn (mOn (mOn d (rd 40 (S 3) b)) (rd 40 (S 6) b)) (fnd (S 12) b 0 12)) (rd 40 (S 7) b)) (rd 40 (S 8) b)) (rd 40 (S 9) b)) 0)]) hC hE hP (metX3_at l hw_15 hw_28 (by decide) b) gc_RX4_68 hd_X3_at ⟨rfl, rfl⟩ ⟨Nat.le_of_ble_eq_true rfl, Nat.le_of_ble_eq_true rfl⟩ 15 hw_15 rfl rfl hl.1 (Nat.le_of_ble_eq_true rfl) ⟨Nat.le_of_ble_eq_true rfl, Nat.le_of_ble_eq_true rfl⟩ dX4_addBag_161 ?_
    refine lv_iconst (v := 1) hx hb dX4_addBag_164 (by decide) ?_
    refine lv_icmp_ne (tgt := 172) hx hb dX4_addBag_165 (by decide) (fun c_2 => ?_) (fun c_2 => ?_)
    · refine lv_lconst (v := 0) hx hb dX4_addBag_172 (by decide) ?_
      refine c_pSl (rest := []) hC hE hP (metX4_addBit0 l (mOn (mOn (mOn (mOn (mOn (mOn (mOn d (rd 40 (S 3) b)) (rd 40 (S 6) b)) (fnd (S 12) b 0 12)) (rd 40 (S 7) b)) (rd 40 (S 8) b)) (rd 40 (S 9) b)) 0)) gc_RX4_212 hd_X4_addNumber ⟨rfl, rfl⟩ ⟨Nat.le_of_ble_eq_true rfl, Nat.le_of_ble_eq_true rfl⟩ rfl hl.1 (Nat.le_of_ble_eq_true rfl) ⟨Nat.le_of_ble_eq_true rfl, Nat.le_of_ble_eq_true rfl⟩ dX4_addBag_173 ?_
      exact p_lret hx hb hr hlk dX4_addBag_176 (by rw [xDgB, bI_f (show ¬ xAst S b from c_1), bI_f (show ¬ rd 40 (S 10) b = 1 from c_2)]; first | done | rfl)
    · refine lv_lconst (v := 1) hx hb dX4_addBag_168 (by decide) ?_
      refine lv_goto (tgt := 173) hx hb dX4_addBag_169 (by decide) ?_
      refine c_pSl (rest := []) hC hE hP (metX4_addBit1 l (mOn (mOn (mOn (mOn (mOn (mOn (mOn d (rd 40 (S 3) b)) (rd 40 (S 6) b)) (fnd (S 12) b 0 12)) (rd 40 (S 7) b)) (rd 40 (S 8) b)) (rd 40 (S 9) b)) 0)) gc_RX4_212 hd_X4_addNumber ⟨rfl, rfl⟩ ⟨Nat.le_of_ble_eq_true rfl, Nat.le_of_ble_eq_true rfl⟩ rfl hl.1 (Nat.le_of_ble_eq_true rfl) ⟨Nat.le_of_ble_eq_true rfl, Nat.le_of_ble_eq_true rfl⟩ dX4_addBag_173 ?_
      exact p_lret hx hb hr hlk dX4_addBag_176 (by rw [xDgB, bI_f (show ¬ xAst S b from c_1), bI_t (show rd 40 (S 10) b = 1 from c_2)]; first | done | rfl)
  · have c_1 := bI_n c_1
    refine lv_lconst (v := 1) hx hb dX4_addBag_138 (by decide) ?_
    refine lv_goto (tgt := 143) hx hb dX4_addBag_139 (by decide) ?_
    refine c_pSl (rest := []) hC hE hP (metX4_addBit1 l (mOn (mOn (mOn (mOn (mOn (mOn d (rd 40 (S 3) b)) (rd 40 (S 6) b)) (fnd (S 12) b 0 12)) (rd 40 (S 7) b)) (rd 40 (S 8) b)) (rd 40 (S 9) b))) gc_RX4_212 hd_X4_addNumber ⟨rfl, rfl⟩ ⟨Nat.le_of_ble_eq_true rfl, Nat.le_of_ble_eq_true rfl⟩ rfl hl.1 (Nat.le_of_ble_eq_true rfl) ⟨Nat.le_of_ble_eq_true rfl, Nat.le_of_ble_eq_true rfl⟩ dX4_addBag_143 ?_
    refine lv_lstore (lv' := [(4, .long (mOn (mOn (mOn (mOn (mOn (mOn (mOn d (rd 40 (S 3) b)) (rd 40 (S 6) b)) (fnd (S 12) b 0 12)) (rd 40 (S 7) b)) (rd 40 (S 8) b)) (rd 40 (S 9) b)) 1)), (0, .ref x), (1, .long d), (3, .int b)]) hx hb dX4_addBag_146 hl (by decide) rfl (fun ls hl => ?_)
    refine lv_lload hx hb dX4_addBag_148 (lv_at hl 0 rfl) ?_
    refine lv_aload_n hx hb dX4_addBag_150 rfl (lv_at hl 1 rfl) ?_
    refine va_get (D := D) (ci := 4) (v := .ref (a 0)) (C := RX4) (T := TX4) (N := 2) hx hb hts tu_4 hown hE.1 hP 29 xo_29 rfl 0 (by decide) (hts _ tw_150) (fun _ h9 => h9) rfl dX4_addBag_151 ?_
    refine va_get (D := D) (ci := 2) (v := .ref (a 2)) (C := RX2) (T := TX2) (N := 8) hx hb hts tu_2 hown hE.1 hP 0 hw_0 rfl 4 (by decide) (hts _ tw_127) (fun _ h9 => h9) rfl dX4_addBag_154 ?_
    refine va_get (D := D) (ci := 0) (v := .ref (a 15)) (C := RX0) (T := TX0) (N := 9) hx hb hts tu_0 hown hE.1 hP 2 hw_2 rfl 8 (by decide) (hts _ tw_96) (fun _ h9 => h9) rfl dX4_addBag_157 ?_
    refine lv_iload_n hx hb dX4_addBag_160 rfl (lv_at hl 3 rfl) ?_
    refine c_pVi (rest := [.long (mOn (mOn (mOn (mOn (mOn (mOn (mOn d (rd 40 (S 3) b)) (rd 40 (S 6) b)) (fnd (S 12) b 0 12)) (rd 40 (S 7) b)) (rd 40 (S 8) b)) (rd 40 (S 9) b)) 1)]) hC hE hP (metX3_at l hw_15 hw_28 (by decide) b) gc_RX4_68 hd_X3_at ⟨rfl, rfl⟩ ⟨Nat.le_of_ble_eq_true rfl, Nat.le_of_ble_eq_true rfl⟩ 15 hw_15 rfl rfl hl.1 (Nat.le_of_ble_eq_true rfl) ⟨Nat.le_of_ble_eq_true rfl, Nat.le_of_ble_eq_true rfl⟩ dX4_addBag_161 ?_
    refine lv_iconst (v := 1) hx hb dX4_addBag_164 (by decide) ?_
    refine lv_icmp_ne (tgt := 172) hx hb dX4_addBag_165 (by decide) (fun c_3 => ?_) (fun c_3 => ?_)
    · refine lv_lconst (v := 0) hx hb dX4_addBag_172 (by decide) ?_
      refine c_pSl (rest := []) hC hE hP (metX4_addBit0 l (mOn (mOn (mOn (mOn (mOn (mOn (mOn d (rd 40 (S 3) b)) (rd 40 (S 6) b)) (fnd (S 12) b 0 12)) (rd 40 (S 7) b)) (rd 40 (S 8) b)) (rd 40 (S 9) b)) 1)) gc_RX4_212 hd_X4_addNumber ⟨rfl, rfl⟩ ⟨Nat.le_of_ble_eq_true rfl, Nat.le_of_ble_eq_true rfl⟩ rfl hl.1 (Nat.le_of_ble_eq_true rfl) ⟨Nat.le_of_ble_eq_true rfl, Nat.le_of_ble_eq_true rfl⟩ dX4_addBag_173 ?_
      exact p_lret hx hb hr hlk dX4_addBag_176 (by rw [xDgB, bI_t (show xAst S b from c_1), bI_f (show ¬ rd 40 (S 10) b = 1 from c_3)]; first | done | rfl)
    · refine lv_lconst (v := 1) hx hb dX4_addBag_168 (by decide) ?_
      refine lv_goto (tgt := 173) hx hb dX4_addBag_169 (by decide) ?_
      refine c_pSl (rest := []) hC hE hP (metX4_addBit1 l (mOn (mOn (mOn (mOn (mOn (mOn (mOn d (rd 40 (S 3) b)) (rd 40 (S 6) b)) (fnd (S 12) b 0 12)) (rd 40 (S 7) b)) (rd 40 (S 8) b)) (rd 40 (S 9) b)) 1)) gc_RX4_212 hd_X4_addNumber ⟨rfl, rfl⟩ ⟨Nat.le_of_ble_eq_true rfl, Nat.le_of_ble_eq_true rfl⟩ rfl hl.1 (Nat.le_of_ble_eq_true rfl) ⟨Nat.le_of_ble_eq_true rfl, Nat.le_of_ble_eq_true rfl⟩ dX4_addBag_173 ?_
      exact p_lret hx hb hr hlk dX4_addBag_176 (by rw [xDgB, bI_t (show xAst S b from c_1), bI_t (show rd 40 (S 10) b = 1 from c_3)]; first | done | rfl)

set_option maxHeartbeats 4000000 in
set_option maxRecDepth 100000 in
theorem metX4_addChute (l : Launch) {D : va_G} {k : Nat → ClassId} {a tr : Nat → Nat} {x : Nat} {R : va_W} (S : HS) (d : Int64) (ch : Int32) (n : Nat) (hn4 : S 0 4 = nI n) (hn40 : n ≤ 40) : PM l yX4_addChute cX4_addChute 6 (some FieldType.long) rmX4_addChute D k (hw k a S ++ ((x, .inr (4, [.ref (a 0), .ref (tr 0)])) :: R)) [.ref x, .long d, .int ch] (some (.long (xDgC S n ch d))) := by
  refine PM_of rfl (Nat.le_of_ble_eq_true rfl) ?_
  intro p e s m below meth c hC hr hlk hin hE hP ls hl
  have hC : CallFix p m c cX4_addChute 6 s _ lw_all RX4 := hC
  have hx := hC.1
  have hb := hC.2.1
  have hown : s.vm.findClass RX4 = some m.cls := hC.2.2.2.1
  have hts := hC.2.2.2.2
  have hl : lv_has ls 6 [(0, .ref x), (1, .long d), (3, .int ch)] := hl
  refine lv_lload_n hx hb dX4_addChute_0 rfl (lv_at hl 1 rfl) ?_
  refine lv_aload_n hx hb dX4_addChute_1 rfl (lv_at hl 0 rfl) ?_
  refine va_get (D := D) (ci := 4) (v := .ref (a 0)) (C := RX4) (T := TX4) (N := 2) hx hb hts tu_4 hown hE.1 hP 29 xo_29 rfl 0 (by decide) (hts _ tw_150) (fun _ h9 => h9) rfl dX4_addChute_2 ?_
  refine va_get (D := D) (ci := 2) (v := .ref (a 2)) (C := RX2) (T := TX2) (N := 8) hx hb hts tu_2 hown hE.1 hP 0 hw_0 rfl 4 (by decide) (hts _ tw_127) (fun _ h9 => h9) rfl dX4_addChute_5 ?_
  refine va_get (D := D) (ci := 0) (v := .ref (a 12)) (C := RX0) (T := TX0) (N := 9) hx hb hts tu_0 hown hE.1 hP 2 hw_2 rfl 5 (by decide) (hts _ tw_87) (fun _ h9 => h9) rfl dX4_addChute_8 ?_
  refine lv_iload_n hx hb dX4_addChute_11 rfl (lv_at hl 2 rfl) ?_
  refine c_pVi (rest := [.long d]) hC hE hP (metX3_count l hw_12 hw_25 (by decide) ch) gc_RX4_169 hd_X3_count ⟨rfl, rfl⟩ ⟨Nat.le_of_ble_eq_true rfl, Nat.le_of_ble_eq_true rfl⟩ 12 hw_12 rfl rfl hl.1 (Nat.le_of_ble_eq_true rfl) ⟨Nat.le_of_ble_eq_true rfl, Nat.le_of_ble_eq_true rfl⟩ dX4_addChute_12 ?_
  refine lv_i2l hx hb dX4_addChute_15 rfl ?_
  refine c_pSl (rest := []) hC hE hP (metX4_addInt l d (nI (ct (fun j_ => S 7 j_ = ch) 40))) gc_RX4_212 hd_X4_addNumber ⟨rfl, rfl⟩ ⟨Nat.le_of_ble_eq_true rfl, Nat.le_of_ble_eq_true rfl⟩ rfl hl.1 (Nat.le_of_ble_eq_true rfl) ⟨Nat.le_of_ble_eq_true rfl, Nat.le_of_ble_eq_true rfl⟩ dX4_addChute_16 ?_
  refine lv_lstore (lv' := [(4, .long (mOn d (nI (ct (fun j_ => S 7 j_ = ch) 40)))), (0, .ref x), (1, .long d), (3, .int ch)]) hx hb dX4_addChute_19 hl (by decide) rfl (fun ls hl => ?_)
  refine lv_lload hx hb dX4_addChute_21 (lv_at hl 0 rfl) ?_
  refine lv_aload_n hx hb dX4_addChute_23 rfl (lv_at hl 1 rfl) ?_
  refine va_get (D := D) (ci := 4) (v := .ref (a 0)) (C := RX4) (T := TX4) (N := 2) hx hb hts tu_4 hown hE.1 hP 29 xo_29 rfl 0 (by decide) (hts _ tw_150) (fun _ h9 => h9) rfl dX4_addChute_24 ?_
  refine lv_iload_n hx hb dX4_addChute_27 rfl (lv_at hl 3 rfl) ?_
  refine c_pVi (rest := [.long (mOn d (nI (ct (fun j_ => S 7 j_ = ch) 40)))]) hC hE hP (metX2_countMisrouted l S ch n hn4 hn40) gc_RX4_171 hd_X2_countMisrouted ⟨rfl, rfl⟩ ⟨Nat.le_of_ble_eq_true rfl, Nat.le_of_ble_eq_true rfl⟩ 0 hw_0 rfl rfl hl.1 (Nat.le_of_ble_eq_true rfl) ⟨Nat.le_of_ble_eq_true rfl, Nat.le_of_ble_eq_true rfl⟩ dX4_addChute_28 ?_
  refine lv_i2l hx hb dX4_addChute_31 rfl ?_
  refine c_pSl (rest := []) hC hE hP (metX4_addInt l (mOn d (nI (ct (fun j_ => S 7 j_ = ch) 40))) (nI (xMisN S ch n))) gc_RX4_212 hd_X4_addNumber ⟨rfl, rfl⟩ ⟨Nat.le_of_ble_eq_true rfl, Nat.le_of_ble_eq_true rfl⟩ rfl hl.1 (Nat.le_of_ble_eq_true rfl) ⟨Nat.le_of_ble_eq_true rfl, Nat.le_of_ble_eq_true rfl⟩ dX4_addChute_32 ?_
  refine lv_lstore (lv' := [(4, .long (mOn (mOn d (nI (ct (fun j_ => S 7 j_ = ch) 40))) (nI (xMisN S ch n)))), (0, .ref x), (1, .long d), (3, .int ch)]) hx hb dX4_addChute_35 hl (by decide) rfl (fun ls hl => ?_)
  refine lv_lload hx hb dX4_addChute_37 (lv_at hl 0 rfl) ?_
  refine lv_aload_n hx hb dX4_addChute_39 rfl (lv_at hl 1 rfl) ?_
  refine va_get (D := D) (ci := 4) (v := .ref (a 0)) (C := RX4) (T := TX4) (N := 2) hx hb hts tu_4 hown hE.1 hP 29 xo_29 rfl 0 (by decide) (hts _ tw_150) (fun _ h9 => h9) rfl dX4_addChute_40 ?_
  refine va_get (D := D) (ci := 2) (v := .ref (a 3)) (C := RX2) (T := TX2) (N := 8) hx hb hts tu_2 hown hE.1 hP 0 hw_0 rfl 5 (by decide) (hts _ tw_129) (fun _ h9 => h9) rfl dX4_addChute_43 ?_
  refine lv_iload_n hx hb dX4_addChute_46 rfl (lv_at hl 3 rfl) ?_
  refine c_pVi (rest := [.long (mOn (mOn d (nI (ct (fun j_ => S 7 j_ = ch) 40))) (nI (xMisN S ch n)))]) hC hE hP (metX3_at l hw_3 hw_16 (by decide) ch) gc_RX4_68 hd_X3_at ⟨rfl, rfl⟩ ⟨Nat.le_of_ble_eq_true rfl, Nat.le_of_ble_eq_true rfl⟩ 3 hw_3 rfl rfl hl.1 (Nat.le_of_ble_eq_true rfl) ⟨Nat.le_of_ble_eq_true rfl, Nat.le_of_ble_eq_true rfl⟩ dX4_addChute_47 ?_
  refine lv_i2l hx hb dX4_addChute_50 rfl ?_
  refine c_pSl (rest := []) hC hE hP (metX4_addInt l (mOn (mOn d (nI (ct (fun j_ => S 7 j_ = ch) 40))) (nI (xMisN S ch n))) (rd 4 (S 11) ch)) gc_RX4_212 hd_X4_addNumber ⟨rfl, rfl⟩ ⟨Nat.le_of_ble_eq_true rfl, Nat.le_of_ble_eq_true rfl⟩ rfl hl.1 (Nat.le_of_ble_eq_true rfl) ⟨Nat.le_of_ble_eq_true rfl, Nat.le_of_ble_eq_true rfl⟩ dX4_addChute_51 ?_
  exact p_lret hx hb hr hlk dX4_addChute_54 (by rw [xDgC]; first | done | rfl)

set_option maxHeartbeats 4000000 in
set_option maxRecDepth 100000 in
theorem metX4_addOfFlight (l : Launch) {D : va_G} {k : Nat → ClassId} {a tr : Nat → Nat} {x : Nat} {R : va_W} (S : HS) (d : Int64) (f : Int32) (n : Nat) (hn4 : S 0 4 = nI n) (hn40 : n ≤ 40) : PM l yX4_addOfFlight cX4_addOfFlight 6 (some FieldType.long) rmX4_addOfFlight D k (hw k a S ++ ((x, .inr (4, [.ref (a 0), .ref (tr 0)])) :: R)) [.ref x, .long d, .int f] (some (.long (xDgF S n f d))) := by
  refine PM_of rfl (Nat.le_of_ble_eq_true rfl) ?_
  intro p e s m below meth c hC hr hlk hin hE hP ls hl
  have hC : CallFix p m c cX4_addOfFlight 6 s _ lw_all RX4 := hC
  have hx := hC.1
  have hb := hC.2.1
  have hown : s.vm.findClass RX4 = some m.cls := hC.2.2.2.1
  have hts := hC.2.2.2.2
  have hl : lv_has ls 6 [(0, .ref x), (1, .long d), (3, .int f)] := hl
  refine lv_lload_n hx hb dX4_addOfFlight_0 rfl (lv_at hl 1 rfl) ?_
  refine lv_aload_n hx hb dX4_addOfFlight_1 rfl (lv_at hl 0 rfl) ?_
  refine va_get (D := D) (ci := 4) (v := .ref (a 0)) (C := RX4) (T := TX4) (N := 2) hx hb hts tu_4 hown hE.1 hP 29 xo_29 rfl 0 (by decide) (hts _ tw_150) (fun _ h9 => h9) rfl dX4_addOfFlight_2 ?_
  refine va_get (D := D) (ci := 2) (v := .ref (a 1)) (C := RX2) (T := TX2) (N := 8) hx hb hts tu_2 hown hE.1 hP 0 hw_0 rfl 3 (by decide) (hts _ tw_125) (fun _ h9 => h9) rfl dX4_addOfFlight_5 ?_
  refine va_get (D := D) (ci := 1) (v := .ref (a 6)) (C := RX1) (T := TX1) (N := 3) hx hb hts tu_1 hown hE.1 hP 1 hw_1 rfl 1 (by decide) (hts _ tw_54) (fun _ h9 => h9) rfl dX4_addOfFlight_8 ?_
  refine lv_iload_n hx hb dX4_addOfFlight_11 rfl (lv_at hl 2 rfl) ?_
  refine c_pVi (rest := [.long d]) hC hE hP (metX3_at l hw_6 hw_19 (by decide) f) gc_RX4_68 hd_X3_at ⟨rfl, rfl⟩ ⟨Nat.le_of_ble_eq_true rfl, Nat.le_of_ble_eq_true rfl⟩ 6 hw_6 rfl rfl hl.1 (Nat.le_of_ble_eq_true rfl) ⟨Nat.le_of_ble_eq_true rfl, Nat.le_of_ble_eq_true rfl⟩ dX4_addOfFlight_12 ?_
  refine lv_i2l hx hb dX4_addOfFlight_15 rfl ?_
  refine c_pSl (rest := []) hC hE hP (metX4_addInt l d (rd 6 (S 1) f)) gc_RX4_212 hd_X4_addNumber ⟨rfl, rfl⟩ ⟨Nat.le_of_ble_eq_true rfl, Nat.le_of_ble_eq_true rfl⟩ rfl hl.1 (Nat.le_of_ble_eq_true rfl) ⟨Nat.le_of_ble_eq_true rfl, Nat.le_of_ble_eq_true rfl⟩ dX4_addOfFlight_16 ?_
  refine lv_lstore (lv' := [(4, .long (mOn d (rd 6 (S 1) f))), (0, .ref x), (1, .long d), (3, .int f)]) hx hb dX4_addOfFlight_19 hl (by decide) rfl (fun ls hl => ?_)
  refine lv_lload hx hb dX4_addOfFlight_21 (lv_at hl 0 rfl) ?_
  refine lv_aload_n hx hb dX4_addOfFlight_23 rfl (lv_at hl 1 rfl) ?_
  refine va_get (D := D) (ci := 4) (v := .ref (a 0)) (C := RX4) (T := TX4) (N := 2) hx hb hts tu_4 hown hE.1 hP 29 xo_29 rfl 0 (by decide) (hts _ tw_150) (fun _ h9 => h9) rfl dX4_addOfFlight_24 ?_
  refine va_get (D := D) (ci := 2) (v := .ref (a 1)) (C := RX2) (T := TX2) (N := 8) hx hb hts tu_2 hown hE.1 hP 0 hw_0 rfl 3 (by decide) (hts _ tw_125) (fun _ h9 => h9) rfl dX4_addOfFlight_27 ?_
  refine lv_iload_n hx hb dX4_addOfFlight_30 rfl (lv_at hl 3 rfl) ?_
  refine c_pVi (rest := [.long (mOn d (rd 6 (S 1) f))]) hC hE hP (metX1_hasLeft l S f) gc_RX4_119 hd_X1_hasLeft ⟨rfl, rfl⟩ ⟨Nat.le_of_ble_eq_true rfl, Nat.le_of_ble_eq_true rfl⟩ 1 hw_1 rfl rfl hl.1 (Nat.le_of_ble_eq_true rfl) ⟨Nat.le_of_ble_eq_true rfl, Nat.le_of_ble_eq_true rfl⟩ dX4_addOfFlight_31 ?_
  refine lv_if_eq (tgt := 41) hx hb dX4_addOfFlight_34 (by decide) (fun c_1 => ?_) (fun c_1 => ?_)
  · have c_1 := bI_0 c_1
    refine lv_lconst (v := 0) hx hb dX4_addOfFlight_41 (by decide) ?_
    refine c_pSl (rest := []) hC hE hP (metX4_addBit0 l (mOn d (rd 6 (S 1) f))) gc_RX4_212 hd_X4_addNumber ⟨rfl, rfl⟩ ⟨Nat.le_of_ble_eq_true rfl, Nat.le_of_ble_eq_true rfl⟩ rfl hl.1 (Nat.le_of_ble_eq_true rfl) ⟨Nat.le_of_ble_eq_true rfl, Nat.le_of_ble_eq_true rfl⟩ dX4_addOfFlight_42 ?_
    refine lv_lstore (lv' := [(4, .long (mOn (mOn d (rd 6 (S 1) f)) 0)), (0, .ref x), (1, .long d), (3, .int f)]) hx hb dX4_addOfFlight_45 hl (by decide) rfl (fun ls hl => ?_)
    refine lv_lload hx hb dX4_addOfFlight_47 (lv_at hl 0 rfl) ?_
    refine lv_aload_n hx hb dX4_addOfFlight_49 rfl (lv_at hl 1 rfl) ?_
    refine va_get (D := D) (ci := 4) (v := .ref (a 0)) (C := RX4) (T := TX4) (N := 2) hx hb hts tu_4 hown hE.1 hP 29 xo_29 rfl 0 (by decide) (hts _ tw_150) (fun _ h9 => h9) rfl dX4_addOfFlight_50 ?_
    refine lv_iload_n hx hb dX4_addOfFlight_53 rfl (lv_at hl 3 rfl) ?_
    refine c_pVi (rest := [.long (mOn (mOn d (rd 6 (S 1) f)) 0)]) hC hE hP (metX2_countReady l S f n hn4 hn40) gc_RX4_174 hd_X2_countReady ⟨rfl, rfl⟩ ⟨Nat.le_of_ble_eq_true rfl, Nat.le_of_ble_eq_true rfl⟩ 0 hw_0 rfl rfl hl.1 (Nat.le_of_ble_eq_true rfl) ⟨Nat.le_of_ble_eq_true rfl, Nat.le_of_ble_eq_true rfl⟩ dX4_addOfFlight_54 ?_
    refine lv_i2l hx hb dX4_addOfFlight_57 rfl ?_
    refine c_pSl (rest := []) hC hE hP (metX4_addInt l (mOn (mOn d (rd 6 (S 1) f)) 0) (nI (xRdyN S f n))) gc_RX4_212 hd_X4_addNumber ⟨rfl, rfl⟩ ⟨Nat.le_of_ble_eq_true rfl, Nat.le_of_ble_eq_true rfl⟩ rfl hl.1 (Nat.le_of_ble_eq_true rfl) ⟨Nat.le_of_ble_eq_true rfl, Nat.le_of_ble_eq_true rfl⟩ dX4_addOfFlight_58 ?_
    refine lv_lstore (lv' := [(4, .long (mOn (mOn (mOn d (rd 6 (S 1) f)) 0) (nI (xRdyN S f n)))), (0, .ref x), (1, .long d), (3, .int f)]) hx hb dX4_addOfFlight_61 hl (by decide) rfl (fun ls hl => ?_)
    refine lv_lload hx hb dX4_addOfFlight_63 (lv_at hl 0 rfl) ?_
    refine lv_aload_n hx hb dX4_addOfFlight_65 rfl (lv_at hl 1 rfl) ?_
    refine va_get (D := D) (ci := 4) (v := .ref (a 0)) (C := RX4) (T := TX4) (N := 2) hx hb hts tu_4 hown hE.1 hP 29 xo_29 rfl 0 (by decide) (hts _ tw_150) (fun _ h9 => h9) rfl dX4_addOfFlight_66 ?_
    refine lv_iload_n hx hb dX4_addOfFlight_69 rfl (lv_at hl 3 rfl) ?_
    refine c_pVi (rest := [.long (mOn (mOn (mOn d (rd 6 (S 1) f)) 0) (nI (xRdyN S f n)))]) hC hE hP (metX2_countMissing l S f n hn4 hn40) gc_RX4_177 hd_X2_countMissing ⟨rfl, rfl⟩ ⟨Nat.le_of_ble_eq_true rfl, Nat.le_of_ble_eq_true rfl⟩ 0 hw_0 rfl rfl hl.1 (Nat.le_of_ble_eq_true rfl) ⟨Nat.le_of_ble_eq_true rfl, Nat.le_of_ble_eq_true rfl⟩ dX4_addOfFlight_70 ?_
    refine lv_i2l hx hb dX4_addOfFlight_73 rfl ?_
    refine c_pSl (rest := []) hC hE hP (metX4_addInt l (mOn (mOn (mOn d (rd 6 (S 1) f)) 0) (nI (xRdyN S f n))) (nI (ct (fun j_ => S 3 j_ = f) 40) - nI (xRdyN S f n))) gc_RX4_212 hd_X4_addNumber ⟨rfl, rfl⟩ ⟨Nat.le_of_ble_eq_true rfl, Nat.le_of_ble_eq_true rfl⟩ rfl hl.1 (Nat.le_of_ble_eq_true rfl) ⟨Nat.le_of_ble_eq_true rfl, Nat.le_of_ble_eq_true rfl⟩ dX4_addOfFlight_74 ?_
    exact p_lret hx hb hr hlk dX4_addOfFlight_77 (by rw [xDgF, bI_f (show ¬ xGone S f from c_1)]; first | done | rfl)
  · have c_1 := bI_n c_1
    refine lv_lconst (v := 1) hx hb dX4_addOfFlight_37 (by decide) ?_
    refine lv_goto (tgt := 42) hx hb dX4_addOfFlight_38 (by decide) ?_
    refine c_pSl (rest := []) hC hE hP (metX4_addBit1 l (mOn d (rd 6 (S 1) f))) gc_RX4_212 hd_X4_addNumber ⟨rfl, rfl⟩ ⟨Nat.le_of_ble_eq_true rfl, Nat.le_of_ble_eq_true rfl⟩ rfl hl.1 (Nat.le_of_ble_eq_true rfl) ⟨Nat.le_of_ble_eq_true rfl, Nat.le_of_ble_eq_true rfl⟩ dX4_addOfFlight_42 ?_
    refine lv_lstore (lv' := [(4, .long (mOn (mOn d (rd 6 (S 1) f)) 1)), (0, .ref x), (1, .long d), (3, .int f)]) hx hb dX4_addOfFlight_45 hl (by decide) rfl (fun ls hl => ?_)
    refine lv_lload hx hb dX4_addOfFlight_47 (lv_at hl 0 rfl) ?_
    refine lv_aload_n hx hb dX4_addOfFlight_49 rfl (lv_at hl 1 rfl) ?_
    refine va_get (D := D) (ci := 4) (v := .ref (a 0)) (C := RX4) (T := TX4) (N := 2) hx hb hts tu_4 hown hE.1 hP 29 xo_29 rfl 0 (by decide) (hts _ tw_150) (fun _ h9 => h9) rfl dX4_addOfFlight_50 ?_
    refine lv_iload_n hx hb dX4_addOfFlight_53 rfl (lv_at hl 3 rfl) ?_
    refine c_pVi (rest := [.long (mOn (mOn d (rd 6 (S 1) f)) 1)]) hC hE hP (metX2_countReady l S f n hn4 hn40) gc_RX4_174 hd_X2_countReady ⟨rfl, rfl⟩ ⟨Nat.le_of_ble_eq_true rfl, Nat.le_of_ble_eq_true rfl⟩ 0 hw_0 rfl rfl hl.1 (Nat.le_of_ble_eq_true rfl) ⟨Nat.le_of_ble_eq_true rfl, Nat.le_of_ble_eq_true rfl⟩ dX4_addOfFlight_54 ?_
    refine lv_i2l hx hb dX4_addOfFlight_57 rfl ?_
    refine c_pSl (rest := []) hC hE hP (metX4_addInt l (mOn (mOn d (rd 6 (S 1) f)) 1) (nI (xRdyN S f n))) gc_RX4_212 hd_X4_addNumber ⟨rfl, rfl⟩ ⟨Nat.le_of_ble_eq_true rfl, Nat.le_of_ble_eq_true rfl⟩ rfl hl.1 (Nat.le_of_ble_eq_true rfl) ⟨Nat.le_of_ble_eq_true rfl, Nat.le_of_ble_eq_true rfl⟩ dX4_addOfFlight_58 ?_
    refine lv_lstore (lv' := [(4, .long (mOn (mOn (mOn d (rd 6 (S 1) f)) 1) (nI (xRdyN S f n)))), (0, .ref x), (1, .long d), (3, .int f)]) hx hb dX4_addOfFlight_61 hl (by decide) rfl (fun ls hl => ?_)
    refine lv_lload hx hb dX4_addOfFlight_63 (lv_at hl 0 rfl) ?_
    refine lv_aload_n hx hb dX4_addOfFlight_65 rfl (lv_at hl 1 rfl) ?_
    refine va_get (D := D) (ci := 4) (v := .ref (a 0)) (C := RX4) (T := TX4) (N := 2) hx hb hts tu_4 hown hE.1 hP 29 xo_29 rfl 0 (by decide) (hts _ tw_150) (fun _ h9 => h9) rfl dX4_addOfFlight_66 ?_
    refine lv_iload_n hx hb dX4_addOfFlight_69 rfl (lv_at hl 3 rfl) ?_
    refine c_pVi (rest := [.long (mOn (mOn (mOn d (rd 6 (S 1) f)) 1) (nI (xRdyN S f n)))]) hC hE hP (metX2_countMissing l S f n hn4 hn40) gc_RX4_177 hd_X2_countMissing ⟨rfl, rfl⟩ ⟨Nat.le_of_ble_eq_true rfl, Nat.le_of_ble_eq_true rfl⟩ 0 hw_0 rfl rfl hl.1 (Nat.le_of_ble_eq_true rfl) ⟨Nat.le_of_ble_eq_true rfl, Nat.le_of_ble_eq_true rfl⟩ dX4_addOfFlight_70 ?_
    refine lv_i2l hx hb dX4_addOfFlight_73 rfl ?_
    refine c_pSl (rest := []) hC hE hP (metX4_addInt l (mOn (mOn (mOn d (rd 6 (S 1) f)) 1) (nI (xRdyN S f n))) (nI (ct (fun j_ => S 3 j_ = f) 40) - nI (xRdyN S f n))) gc_RX4_212 hd_X4_addNumber ⟨rfl, rfl⟩ ⟨Nat.le_of_ble_eq_true rfl, Nat.le_of_ble_eq_true rfl⟩ rfl hl.1 (Nat.le_of_ble_eq_true rfl) ⟨Nat.le_of_ble_eq_true rfl, Nat.le_of_ble_eq_true rfl⟩ dX4_addOfFlight_74 ?_
    exact p_lret hx hb hr hlk dX4_addOfFlight_77 (by rw [xDgF, bI_t (show xGone S f from c_1)]; first | done | rfl)

set_option maxHeartbeats 4000000 in
set_option maxRecDepth 100000 in
theorem metX4_digest (l : Launch) {D : va_G} {k : Nat → ClassId} {a tr : Nat → Nat} {x : Nat} {R : va_W} (S : HS) (n : Nat) (hn4 : S 0 4 = nI n) (hn40 : n ≤ 40) (nf : Nat) (hn3 : S 0 3 = nI nf) (hnf6 : nf ≤ 6) : PM l yX4_digest cX4_digest 4 (some FieldType.long) rmX4_digest D k (hw k a S ++ ((x, .inr (4, [.ref (a 0), .ref (tr 0)])) :: R)) [.ref x] (some (.long (xDig S n nf))) := by
  refine PM_of rfl (Nat.le_of_ble_eq_true rfl) ?_
  intro p e s m below meth c hC hr hlk hin hE hP ls hl
  have hC : CallFix p m c cX4_digest 4 s _ lw_all RX4 := hC
  have hx := hC.1
  have hb := hC.2.1
  have hown : s.vm.findClass RX4 = some m.cls := hC.2.2.2.1
  have hts := hC.2.2.2.2
  have hl : lv_has ls 4 [(0, .ref x)] := hl
  refine lv_aload_n hx hb dX4_digest_0 rfl (lv_at hl 0 rfl) ?_
  refine lv_ldc2 (v := 1867) hx hb hown (hts _ tw_492) dX4_digest_1 ?_
  refine c_pVl (rest := []) hC hE hP (metX4_addHall l S 1867) gc_RX4_198 hd_X4_addHall ⟨rfl, rfl⟩ ⟨Nat.le_of_ble_eq_true rfl, Nat.le_of_ble_eq_true rfl⟩ 29 xo_29 rfl rfl hl.1 (Nat.le_of_ble_eq_true rfl) ⟨Nat.le_of_ble_eq_true rfl, Nat.le_of_ble_eq_true rfl⟩ dX4_digest_4 ?_
  refine lv_lstore_n (lv' := [(1, .long (xDgH S 1867)), (0, .ref x)]) hx hb dX4_digest_7 rfl hl (by decide) rfl (fun ls hl => ?_)
  refine lv_iconst (v := 0) hx hb dX4_digest_8 (by decide) ?_
  refine lv_istore_n (lv' := [(3, .int 0), (1, .long (xDgH S 1867)), (0, .ref x)]) hx hb dX4_digest_9 rfl hl (by decide) rfl (fun ls hl => ?_)
  refine w_for (N := n) (fun _ => True) (fun i => [(0, .ref x), (1, .long (xDgBs S (xDgH S 1867) i)), (3, .int (nI i))]) (fun ls hI hl => ?_) (fun i hi hI ih ls hl => ?_) 0 (Nat.zero_le _) trivial (lv_sub hl [2, 1, 0] rfl)
  · have hl : lv_has ls 4 [(0, .ref x), (1, .long (xDgBs S (xDgH S 1867) n)), (3, .int (nI n))] := hl
    refine lv_iload_n hx hb dX4_digest_10 rfl (lv_at hl 2 rfl) ?_
    refine lv_aload_n hx hb dX4_digest_11 rfl (lv_at hl 0 rfl) ?_
    refine va_get (D := D) (ci := 4) (v := .ref (a 0)) (C := RX4) (T := TX4) (N := 2) hx hb hts tu_4 hown hE.1 hP 29 xo_29 rfl 0 (by decide) (hts _ tw_150) (fun _ h9 => h9) rfl dX4_digest_12 ?_
    refine va_get (D := D) (ci := 2) (v := .ref (a 2)) (C := RX2) (T := TX2) (N := 8) hx hb hts tu_2 hown hE.1 hP 0 hw_0 rfl 4 (by decide) (hts _ tw_127) (fun _ h9 => h9) rfl dX4_digest_15 ?_
    refine va_get (D := D) (ci := 0) (v := .int (S 0 4)) (C := RX0) (T := TX0) (N := 9) hx hb hts tu_0 hown hE.1 hP 2 hw_2 rfl 0 (by decide) (hts _ tw_74) (fun _ h9 => h9) rfl dX4_digest_18 ?_
    refine w_top (hn4) ?_
    refine lv_icmp_ge (tgt := 37) hx hb dX4_digest_21 (by decide) (fun c_1 => ?_) (fun c_ => absurd (nI_le (Nat.le_refl n) (by omega)) c_)
    refine lv_iconst (v := 0) hx hb dX4_digest_37 (by decide) ?_
    refine lv_istore_n (lv' := [(3, .int 0), (0, .ref x), (1, .long (xDgBs S (xDgH S 1867) n))]) hx hb dX4_digest_38 rfl hl (by decide) rfl (fun ls hl => ?_)
    refine w_for (N := 4) (fun _ => True) (fun i => [(0, .ref x), (1, .long (xDgCs S n (xDgBs S (xDgH S 1867) n) i)), (3, .int (nI i))]) (fun ls hI hl => ?_) (fun i hi hI ih ls hl => ?_) 0 (Nat.zero_le _) trivial (lv_sub hl [1, 2, 0] rfl)
    · have hl : lv_has ls 4 [(0, .ref x), (1, .long (xDgCs S n (xDgBs S (xDgH S 1867) n) 4)), (3, .int (nI 4))] := hl
      refine lv_iload_n hx hb dX4_digest_39 rfl (lv_at hl 2 rfl) ?_
      refine lv_iconst (v := 4) hx hb dX4_digest_40 (by decide) ?_
      refine lv_icmp_ge (tgt := 57) hx hb dX4_digest_41 (by decide) (fun c_2 => ?_) (fun c_ => absurd (nI_le (a := 4) (b := 4) (Nat.le_refl 4) (by decide)) c_)
      refine lv_iconst (v := 0) hx hb dX4_digest_57 (by decide) ?_
      refine lv_istore_n (lv' := [(3, .int 0), (0, .ref x), (1, .long (xDgCs S n (xDgBs S (xDgH S 1867) n) 4))]) hx hb dX4_digest_58 rfl hl (by decide) rfl (fun ls hl => ?_)
      refine w_for (N := nf) (fun _ => True) (fun i => [(0, .ref x), (1, .long (xDgFs S n (xDgCs S n (xDgBs S (xDgH S 1867) n) 4) i)), (3, .int (nI i))]) (fun ls hI hl => ?_) (fun i hi hI ih ls hl => ?_) 0 (Nat.zero_le _) trivial (lv_sub hl [1, 2, 0] rfl)
      · have hl : lv_has ls 4 [(0, .ref x), (1, .long (xDgFs S n (xDgCs S n (xDgBs S (xDgH S 1867) n) 4) nf)), (3, .int (nI nf))] := hl
        refine lv_iload_n hx hb dX4_digest_59 rfl (lv_at hl 2 rfl) ?_
        refine lv_aload_n hx hb dX4_digest_60 rfl (lv_at hl 0 rfl) ?_
        refine va_get (D := D) (ci := 4) (v := .ref (a 0)) (C := RX4) (T := TX4) (N := 2) hx hb hts tu_4 hown hE.1 hP 29 xo_29 rfl 0 (by decide) (hts _ tw_150) (fun _ h9 => h9) rfl dX4_digest_61 ?_
        refine va_get (D := D) (ci := 2) (v := .ref (a 1)) (C := RX2) (T := TX2) (N := 8) hx hb hts tu_2 hown hE.1 hP 0 hw_0 rfl 3 (by decide) (hts _ tw_125) (fun _ h9 => h9) rfl dX4_digest_64 ?_
        refine va_get (D := D) (ci := 1) (v := .int (S 0 3)) (C := RX1) (T := TX1) (N := 3) hx hb hts tu_1 hown hE.1 hP 1 hw_1 rfl 0 (by decide) (hts _ tw_51) (fun _ h9 => h9) rfl dX4_digest_67 ?_
        refine w_top (hn3) ?_
        refine lv_icmp_ge (tgt := 86) hx hb dX4_digest_70 (by decide) (fun c_3 => ?_) (fun c_ => absurd (nI_le (Nat.le_refl nf) (by omega)) c_)
        refine lv_lload_n hx hb dX4_digest_86 rfl (lv_at hl 1 rfl) ?_
        exact p_lret hx hb hr hlk dX4_digest_87 (by rw [xDig]; first | done | rfl)
      · have hl : lv_has ls 4 [(0, .ref x), (1, .long (xDgFs S n (xDgCs S n (xDgBs S (xDgH S 1867) n) 4) i)), (3, .int (nI i))] := hl
        refine lv_iload_n hx hb dX4_digest_59 rfl (lv_at hl 2 rfl) ?_
        refine lv_aload_n hx hb dX4_digest_60 rfl (lv_at hl 0 rfl) ?_
        refine va_get (D := D) (ci := 4) (v := .ref (a 0)) (C := RX4) (T := TX4) (N := 2) hx hb hts tu_4 hown hE.1 hP 29 xo_29 rfl 0 (by decide) (hts _ tw_150) (fun _ h9 => h9) rfl dX4_digest_61 ?_
        refine va_get (D := D) (ci := 2) (v := .ref (a 1)) (C := RX2) (T := TX2) (N := 8) hx hb hts tu_2 hown hE.1 hP 0 hw_0 rfl 3 (by decide) (hts _ tw_125) (fun _ h9 => h9) rfl dX4_digest_64 ?_
        refine va_get (D := D) (ci := 1) (v := .int (S 0 3)) (C := RX1) (T := TX1) (N := 3) hx hb hts tu_1 hown hE.1 hP 1 hw_1 rfl 0 (by decide) (hts _ tw_51) (fun _ h9 => h9) rfl dX4_digest_67 ?_
        refine w_top (hn3) ?_
        refine lv_icmp_ge (tgt := 86) hx hb dX4_digest_70 (by decide) (fun c_ => absurd c_ (nI_ge hi (by omega))) (fun c_4 => ?_)
        refine lv_aload_n hx hb dX4_digest_73 rfl (lv_at hl 0 rfl) ?_
        refine lv_lload_n hx hb dX4_digest_74 rfl (lv_at hl 1 rfl) ?_
        refine lv_iload_n hx hb dX4_digest_75 rfl (lv_at hl 2 rfl) ?_
        refine c_pVl (rest := []) hC hE hP (metX4_addOfFlight l S (xDgFs S n (xDgCs S n (xDgBs S (xDgH S 1867) n) 4) i) (nI i) n hn4 hn40) gc_RX4_209 hd_X4_addOfFlight ⟨rfl, rfl⟩ ⟨Nat.le_of_ble_eq_true rfl, Nat.le_of_ble_eq_true rfl⟩ 29 xo_29 rfl rfl hl.1 (Nat.le_of_ble_eq_true rfl) ⟨Nat.le_of_ble_eq_true rfl, Nat.le_of_ble_eq_true rfl⟩ dX4_digest_76 ?_
        refine lv_lstore_n (lv' := [(1, .long (xDgF S n (nI i) (xDgFs S n (xDgCs S n (xDgBs S (xDgH S 1867) n) 4) i))), (0, .ref x), (3, .int (nI i))]) hx hb dX4_digest_79 rfl hl (by decide) rfl (fun ls hl => ?_)
        refine lv_iinc (v := nI (i + 1)) (lv' := [(3, .int (nI (i + 1))), (1, .long (xDgF S n (nI i) (xDgFs S n (xDgCs S n (xDgBs S (xDgH S 1867) n) 4) i))), (0, .ref x)]) hx hb dX4_digest_80 hl (k := 2) rfl (iinc1 _) (by decide) rfl (fun ls hl => ?_)
        refine lv_goto (tgt := 59) hx hb dX4_digest_83 (by decide) ?_
        have e9 : xDgFs S n (xDgCs S n (xDgBs S (xDgH S 1867) n) 4) (i + 1) = xDgF S n (nI i) (xDgFs S n (xDgCs S n (xDgBs S (xDgH S 1867) n) 4) i) := rfl
        exact ih ls trivial (by show lv_has ls 4 [(0, .ref x), (1, .long (xDgFs S n (xDgCs S n (xDgBs S (xDgH S 1867) n) 4) (i + 1))), (3, .int (nI (i + 1)))]; rw [e9]; exact lv_sub hl [2, 1, 0] rfl)
    · have hl : lv_has ls 4 [(0, .ref x), (1, .long (xDgCs S n (xDgBs S (xDgH S 1867) n) i)), (3, .int (nI i))] := hl
      refine lv_iload_n hx hb dX4_digest_39 rfl (lv_at hl 2 rfl) ?_
      refine lv_iconst (v := 4) hx hb dX4_digest_40 (by decide) ?_
      refine lv_icmp_ge (tgt := 57) hx hb dX4_digest_41 (by decide) (fun c_ => absurd c_ (nI_ge (b := 4) hi (by decide))) (fun c_5 => ?_)
      refine lv_aload_n hx hb dX4_digest_44 rfl (lv_at hl 0 rfl) ?_
      refine lv_lload_n hx hb dX4_digest_45 rfl (lv_at hl 1 rfl) ?_
      refine lv_iload_n hx hb dX4_digest_46 rfl (lv_at hl 2 rfl) ?_
      refine c_pVl (rest := []) hC hE hP (metX4_addChute l S (xDgCs S n (xDgBs S (xDgH S 1867) n) i) (nI i) n hn4 hn40) gc_RX4_206 hd_X4_addChute ⟨rfl, rfl⟩ ⟨Nat.le_of_ble_eq_true rfl, Nat.le_of_ble_eq_true rfl⟩ 29 xo_29 rfl rfl hl.1 (Nat.le_of_ble_eq_true rfl) ⟨Nat.le_of_ble_eq_true rfl, Nat.le_of_ble_eq_true rfl⟩ dX4_digest_47 ?_
      refine lv_lstore_n (lv' := [(1, .long (xDgC S n (nI i) (xDgCs S n (xDgBs S (xDgH S 1867) n) i))), (0, .ref x), (3, .int (nI i))]) hx hb dX4_digest_50 rfl hl (by decide) rfl (fun ls hl => ?_)
      refine lv_iinc (v := nI (i + 1)) (lv' := [(3, .int (nI (i + 1))), (1, .long (xDgC S n (nI i) (xDgCs S n (xDgBs S (xDgH S 1867) n) i))), (0, .ref x)]) hx hb dX4_digest_51 hl (k := 2) rfl (iinc1 _) (by decide) rfl (fun ls hl => ?_)
      refine lv_goto (tgt := 39) hx hb dX4_digest_54 (by decide) ?_
      have e9 : xDgCs S n (xDgBs S (xDgH S 1867) n) (i + 1) = xDgC S n (nI i) (xDgCs S n (xDgBs S (xDgH S 1867) n) i) := rfl
      exact ih ls trivial (by show lv_has ls 4 [(0, .ref x), (1, .long (xDgCs S n (xDgBs S (xDgH S 1867) n) (i + 1))), (3, .int (nI (i + 1)))]; rw [e9]; exact lv_sub hl [2, 1, 0] rfl)
  · have hl : lv_has ls 4 [(0, .ref x), (1, .long (xDgBs S (xDgH S 1867) i)), (3, .int (nI i))] := hl
    refine lv_iload_n hx hb dX4_digest_10 rfl (lv_at hl 2 rfl) ?_
    refine lv_aload_n hx hb dX4_digest_11 rfl (lv_at hl 0 rfl) ?_
    refine va_get (D := D) (ci := 4) (v := .ref (a 0)) (C := RX4) (T := TX4) (N := 2) hx hb hts tu_4 hown hE.1 hP 29 xo_29 rfl 0 (by decide) (hts _ tw_150) (fun _ h9 => h9) rfl dX4_digest_12 ?_
    refine va_get (D := D) (ci := 2) (v := .ref (a 2)) (C := RX2) (T := TX2) (N := 8) hx hb hts tu_2 hown hE.1 hP 0 hw_0 rfl 4 (by decide) (hts _ tw_127) (fun _ h9 => h9) rfl dX4_digest_15 ?_
    refine va_get (D := D) (ci := 0) (v := .int (S 0 4)) (C := RX0) (T := TX0) (N := 9) hx hb hts tu_0 hown hE.1 hP 2 hw_2 rfl 0 (by decide) (hts _ tw_74) (fun _ h9 => h9) rfl dX4_digest_18 ?_
    refine w_top (hn4) ?_
    refine lv_icmp_ge (tgt := 37) hx hb dX4_digest_21 (by decide) (fun c_ => absurd c_ (nI_ge hi (by omega))) (fun c_6 => ?_)
    refine lv_aload_n hx hb dX4_digest_24 rfl (lv_at hl 0 rfl) ?_
    refine lv_lload_n hx hb dX4_digest_25 rfl (lv_at hl 1 rfl) ?_
    refine lv_iload_n hx hb dX4_digest_26 rfl (lv_at hl 2 rfl) ?_
    refine c_pVl (rest := []) hC hE hP (metX4_addBag l S (xDgBs S (xDgH S 1867) i) (nI i)) gc_RX4_202 hd_X4_addBag ⟨rfl, rfl⟩ ⟨Nat.le_of_ble_eq_true rfl, Nat.le_of_ble_eq_true rfl⟩ 29 xo_29 rfl rfl hl.1 (Nat.le_of_ble_eq_true rfl) ⟨Nat.le_of_ble_eq_true rfl, Nat.le_of_ble_eq_true rfl⟩ dX4_digest_27 ?_
    refine lv_lstore_n (lv' := [(1, .long (xDgB S (nI i) (xDgBs S (xDgH S 1867) i))), (0, .ref x), (3, .int (nI i))]) hx hb dX4_digest_30 rfl hl (by decide) rfl (fun ls hl => ?_)
    refine lv_iinc (v := nI (i + 1)) (lv' := [(3, .int (nI (i + 1))), (1, .long (xDgB S (nI i) (xDgBs S (xDgH S 1867) i))), (0, .ref x)]) hx hb dX4_digest_31 hl (k := 2) rfl (iinc1 _) (by decide) rfl (fun ls hl => ?_)
    refine lv_goto (tgt := 10) hx hb dX4_digest_34 (by decide) ?_
    have e9 : xDgBs S (xDgH S 1867) (i + 1) = xDgB S (nI i) (xDgBs S (xDgH S 1867) i) := rfl
    exact ih ls trivial (by show lv_has ls 4 [(0, .ref x), (1, .long (xDgBs S (xDgH S 1867) (i + 1))), (3, .int (nI (i + 1)))]; rw [e9]; exact lv_sub hl [2, 1, 0] rfl)

set_option maxHeartbeats 4000000 in
set_option maxRecDepth 100000 in
theorem metX4_meanMisses (l : Launch) {D : va_G} {k : Nat → ClassId} {a tr : Nat → Nat} {x : Nat} {R : va_W} (S : HS) : DM l yX4_meanMisses cX4_meanMisses 2 rmX4_meanMisses D k (hw k a S ++ ((x, .inr (4, [.ref (a 0), .ref (tr 0)])) :: R)) [.ref x] (xMean S) (hw k a S ++ ((x, .inr (4, [.ref (a 0), .ref (tr 0)])) :: R)) := by
  refine DM_of rfl (Nat.le_of_ble_eq_true rfl) ?_
  intro p e s m below meth c hC hr hlk hin hE hP hD hS ls hl
  have hC : CallFix p m c cX4_meanMisses 2 s _ lw_all RX4 := hC
  have hx := hC.1
  have hb := hC.2.1
  have hown : s.vm.findClass RX4 = some m.cls := hC.2.2.2.1
  have hts := hC.2.2.2.2
  have hl : lv_has ls 2 [(0, .ref x)] := hl
  refine lv_aload_n hx hb dX4_meanMisses_0 rfl (lv_at hl 0 rfl) ?_
  refine va_get (D := D) (ci := 4) (v := .ref (a 0)) (C := RX4) (T := TX4) (N := 2) hx hb hts tu_4 hown hE.1 hP 29 xo_29 rfl 0 (by decide) (hts _ tw_150) (fun _ h9 => h9) rfl dX4_meanMisses_1 ?_
  refine va_get (D := D) (ci := 2) (v := .ref (a 2)) (C := RX2) (T := TX2) (N := 8) hx hb hts tu_2 hown hE.1 hP 0 hw_0 rfl 4 (by decide) (hts _ tw_127) (fun _ h9 => h9) rfl dX4_meanMisses_4 ?_
  refine va_get (D := D) (ci := 0) (v := .int (S 0 4)) (C := RX0) (T := TX0) (N := 9) hx hb hts tu_0 hown hE.1 hP 2 hw_2 rfl 0 (by decide) (hts _ tw_74) (fun _ h9 => h9) rfl dX4_meanMisses_7 ?_
  refine lv_istore_n (lv' := [(1, .int (S 0 4)), (0, .ref x)]) hx hb dX4_meanMisses_10 rfl hl (by decide) rfl (fun ls hl => ?_)
  refine lv_iload_n hx hb dX4_meanMisses_11 rfl (lv_at hl 0 rfl) ?_
  refine lv_if_le (tgt := 35) hx hb dX4_meanMisses_12 (by decide) (fun c_1 => ?_) (fun c_1 => ?_)
  · refine lv_dconst0 hx hb dX4_meanMisses_35 ?_
    refine W.endD (Drawn.sameBut.refl s.drawn lw_cs) ?_
    exact W.dret hx hb hr (fun t9 ht hW => ⟨⟨FP.dconst0, (), rfl, (by rw [xMean, sel_t (show S 0 4 ≤ 0 from c_1)]; rfl), by show va_P D vwCl _ t9.heap; rw [ht]; exact hP⟩, hS.F ht⟩) hS.2.2 dX4_meanMisses_36
  · refine lv_aload_n hx hb dX4_meanMisses_15 rfl (lv_at hl 1 rfl) ?_
    refine va_get (D := D) (ci := 4) (v := .ref (a 0)) (C := RX4) (T := TX4) (N := 2) hx hb hts tu_4 hown hE.1 hP 29 xo_29 rfl 0 (by decide) (hts _ tw_150) (fun _ h9 => h9) rfl dX4_meanMisses_16 ?_
    refine va_get (D := D) (ci := 2) (v := .ref (a 2)) (C := RX2) (T := TX2) (N := 8) hx hb hts tu_2 hown hE.1 hP 0 hw_0 rfl 4 (by decide) (hts _ tw_127) (fun _ h9 => h9) rfl dX4_meanMisses_19 ?_
    refine va_get (D := D) (ci := 0) (v := .ref (a 14)) (C := RX0) (T := TX0) (N := 9) hx hb hts tu_0 hown hE.1 hP 2 hw_2 rfl 7 (by decide) (hts _ tw_93) (fun _ h9 => h9) rfl dX4_meanMisses_22 ?_
    refine c_pVi (rest := []) hC hE hP (metX3_sum l hw_14 hw_27 (by decide)) gc_RX4_193 hd_X3_sum ⟨rfl, rfl⟩ ⟨Nat.le_of_ble_eq_true rfl, Nat.le_of_ble_eq_true rfl⟩ 14 hw_14 rfl rfl hl.1 (Nat.le_of_ble_eq_true rfl) ⟨Nat.le_of_ble_eq_true rfl, Nat.le_of_ble_eq_true rfl⟩ dX4_meanMisses_25 ?_
    refine lv_i2d hx hb dX4_meanMisses_28 ?_
    refine lv_iload_n hx hb dX4_meanMisses_29 rfl (lv_at hl 0 rfl) ?_
    refine lv_i2d hx hb dX4_meanMisses_30 ?_
    refine lv_ddiv_any (d0 := s.drawn) (s := s) (cs := lw_cs) (Drawn.sameBut.refl s.drawn lw_cs) lw_bits hx hb dX4_meanMisses_31 (fun r d1 hal hd1 => ?_)
    refine lv_goto (tgt := 36) hx hb dX4_meanMisses_32 (by decide) ?_
    refine W.endD hd1 ?_
    exact W.dret hx hb hr (fun t9 ht hW => ⟨⟨r, (), rfl, (by rw [xMean, sel_f (show ¬ S 0 4 ≤ 0 from c_1)]; exact hal), by show va_P D vwCl _ t9.heap; rw [ht]; exact hP⟩, hS.F ht⟩) hS.2.2 dX4_meanMisses_36

