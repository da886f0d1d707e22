/-! what the reference does on its second state (ahead), and its reckonings over everything -/
/-- the first i below N where P holds; N where there is none -/
noncomputable def unt (P : Nat → Prop) : Nat → Nat
  | 0 => 0
  | N + 1 => sel (unt P N = N ∧ ¬ P N) (N + 1) (unt P N)
theorem unt_le (P : Nat → Prop) : ∀ N, unt P N ≤ N
  | 0 => Nat.le_refl _
  | N + 1 => by
    unfold unt
    by_cases h : unt P N = N ∧ ¬ P N
    · rw [sel_t h]; exact Nat.le_refl _
    · rw [sel_f h]; exact Nat.le_succ_of_le (unt_le P N)
theorem unt_end {P : Nat → Prop} : ∀ {N : Nat}, (∀ j, j < N → ¬ P j) → unt P N = N
  | 0, _ => rfl
  | N + 1, h => by
    unfold unt
    rw [sel_t ⟨unt_end (fun j hj => h j (Nat.lt_succ_of_lt hj)), h N (Nat.lt_succ_self N)⟩]
theorem unt_at {P : Nat → Prop} {i : Nat} (h : ∀ j, j < i → ¬ P j) (hp : P i) : ∀ {N : Nat}, i < N → unt P N = i
  | 0, hi => absurd hi (Nat.not_lt_zero i)
  | N + 1, hi => by
    unfold unt
    rcases Nat.lt_or_ge i N with q | q
    · rw [unt_at h hp q, sel_f (fun z => absurd z.1 (by omega))]
    · have e : i = N := by omega
      subst e
      rw [sel_f (fun z => z.2 hp), unt_end h]
theorem unt_cong {P Q : Nat → Prop} : ∀ {N : Nat}, (∀ j, j < N → (P j ↔ Q j)) → unt P N = unt Q N
  | 0, _ => rfl
  | N + 1, h => by
    unfold unt
    rw [unt_cong (fun j hj => h j (Nat.lt_succ_of_lt hj)), propext (h N (Nat.lt_succ_self N))]
abbrev mUnP (G U : HS) (b : Nat) (i : Nat) : Prop := mUn G U i 1 b = 2
noncomputable def mUnN (G U : HS) (b : Nat) : Nat := unt (mUnP G U b) 121
noncomputable def mUnA (G U : HS) (b : Nat) : Int32 := sel (mUnN G U b = 121) (-1) (nI (mUnN G U b))
theorem mUnA_at {G U : HS} {b i : Nat} (h : ∀ j, j < i → ¬ mUnP G U b j) (hp : mUnP G U b i) (hi : i < 121) : mUnN G U b = i ∧ mUnA G U b = nI i := by
  have e : mUnN G U b = i := unt_at h hp hi
  refine ⟨e, ?_⟩
  unfold mUnA
  rw [e, sel_f (by omega)]
theorem mUnA_end {G U : HS} {b : Nat} (h : ∀ j, j < 121 → ¬ mUnP G U b j) : mUnN G U b = 121 ∧ mUnA G U b = -1 := by
  have e : mUnN G U b = 121 := unt_end h
  refine ⟨e, ?_⟩
  unfold mUnA
  rw [e, sel_t rfl]
/-- the second state becomes the first -/
noncomputable def mBec (U T : HS) : HS := sf (sf (sf (sf (sf (sf (sf (sf (sf U 0 (upd (U 0) 0 (T 0 0))) 0 (upd (upd (U 0) 0 (T 0 0)) 1 (T 0 1))) 1 (T 1)) 2 (T 2)) 3 (T 3)) 4 (T 4)) 5 (T 5)) 6 (T 6)) 7 (T 7)
theorem tw_bec {k : Nat → ClassId} {u : Nat → Nat} {U T : HS} : tw k u (mBec U T) = tw k u T := rfl
noncomputable def bsG (G : HS) (f : Nat) : Nat → HS
  | 0 => G
  | i + 1 => mSetC G f i
theorem bsG_4 (G : HS) (f i : Nat) {j : Nat} (hj : j ≠ 1) : bsG G f i j = G j := by
  cases i with
  | zero => rfl
  | succ i => exact if_neg hj
theorem bsG_s (G : HS) (f i : Nat) (v : Int32) : sf (bsG G f i) 1 (upd (bsG G f i 1) f v) = sf G 1 (upd (G 1) f v) := by
  cases i with
  | zero => rfl
  | succ i =>
    show sf (sf G 1 (upd (G 1) f (nI i))) 1 (upd (sf G 1 (upd (G 1) f (nI i)) 1) f v) = _
    rw [sf_over, sf_eq]
    congr 1
    funext j
    unfold upd
    by_cases h : j = f
    · rw [if_pos h, if_pos h]
    · rw [if_neg h, if_neg h, if_neg h]
theorem bsG_r (G : HS) (f i : Nat) : sf (bsG G f i) 1 (upd (bsG G f i 1) f (G 1 f)) = G := by
  rw [bsG_s]
  have e : upd (G 1) f (G 1 f) = G 1 := by
    funext j
    unfold upd
    by_cases h : j = f
    · rw [if_pos h, h]
    · rw [if_neg h]
  rw [e]
  exact sf_self G 1
noncomputable def bsU (G T U : HS) (f N : Nat) : Nat → HS
  | 0 => U
  | i + 1 => (mGo (mSetC G f i) T N).2
theorem mBest_t {G T : HS} {f N n i : Nat} (h : (mBest G T f N n i).2 < nI (mBeh (mSetC G f i) T f N n)) : mBest G T f N n (i + 1) = (nI i, nI (mBeh (mSetC G f i) T f N n)) := sel_t h _ _
theorem mBest_f {G T : HS} {f N n i : Nat} (h : ¬ (mBest G T f N n i).2 < nI (mBeh (mSetC G f i) T f N n)) : mBest G T f N n (i + 1) = mBest G T f N n i := sel_f h _ _
theorem bI_bI (P : Prop) : bI (¬ bI P = 0) = bI P := bI_cong ⟨bI_n, fun h q => bI_0 q h⟩

set_option maxHeartbeats 4000000 in
set_option maxRecDepth 100000 in
theorem metX5_copy (l : Launch) {D : va_G} {k : Nat → ClassId} {ws ws' : va_W} {q1 q3 a a2 n : Nat} {f g : Nat → Int32} (hb2 : ws[q3]? = some (a2, .inl (k 0, n, .inl g))) (ha : ws[q1]? = some (a, .inl (k 0, n, .inl f))) (hn : n < 2 ^ 31) (hset : ws.set q1 (a, .inl (k 0, n, .inl g)) = ws') : MM l yX5_copy cX5_copy 2 none rmX5_copy D k ws [.ref a2, .ref a] none ws' := by
  subst hset
  refine MM_of rfl (Nat.le_of_ble_eq_true rfl) ?_
  intro p e s m below meth c hC hr hlk hin hE hP hD hS ls hl
  have hC : CallFix p m c cX5_copy 2 s _ lw_all RX5 := hC
  have hx := hC.1
  have hb := hC.2.1
  have hown : s.vm.findClass RX5 = some m.cls := hC.2.2.2.1
  have hts := hC.2.2.2.2
  have hl : lv_has ls 2 [(0, .ref a2), (1, .ref a)] := hl
  refine lv_aload_n hx hb dX5_copy_0 rfl (lv_at hl 0 rfl) ?_
  refine lv_iconst (v := 0) hx hb dX5_copy_1 (by decide) ?_
  refine lv_aload_n hx hb dX5_copy_2 rfl (lv_at hl 1 rfl) ?_
  refine lv_iconst (v := 0) hx hb dX5_copy_3 (by decide) ?_
  refine lv_aload_n hx hb dX5_copy_4 rfl (lv_at hl 1 rfl) ?_
  refine k_alen hx hb hE hP q1 ha dX5_copy_5 ?_
  refine va_copyi hx hb (hC.2.2.1.trans hl.1.symm) hown (hts _ tw_932) (hts _ tw_710) (hts _ tw_709) (hts _ tw_15) hE.1 hP hD hS q3 q1 0 0 hb2 ha rfl rfl rfl (by decide) (by decide) (nI_pos hn) (by rw [nI_clamp hn]; show 0 + n ≤ n; omega) (by rw [nI_clamp hn]; show 0 + n ≤ n; omega) (fun _ _ => rfl) (Nat.le_of_ble_eq_true rfl) (Nat.le_of_ble_eq_true rfl) dX5_copy_6 (fun H locs hP hD hS => ?_)
  rw [nI_clamp hn] at hP
  have hP := row_cong (g := g) hP (rs_a ha) (fun j hj => sb_cpy0 hj)
  rw [rs_s] at hP
  exact m_vret hx hb hr hlk dX5_copy_9 hP hS

set_option maxHeartbeats 4000000 in
set_option maxRecDepth 100000 in
theorem metX5_become (l : Launch) {D : va_G} {k : Nat → ClassId} {g t u : Nat → Nat} {sp sq : Nat} {R : va_W} (G T U : HS) : MM l yX5_become cX5_become 2 none rmX5_become D k (gw k g sp sq G ++ (tw k t T ++ (tw k u U ++ R))) [.ref (u 0), .ref (t 0)] none (gw k g sp sq G ++ (tw k t T ++ (tw k u T ++ R))) := by
  refine MM_of rfl (Nat.le_of_ble_eq_true rfl) ?_
  intro p e s m below meth c hC hr hlk hin hE hP hD hS ls hl
  have hC : CallFix p m c cX5_become 2 s _ lw_all RX5 := hC
  have hx := hC.1
  have hb := hC.2.1
  have hown : s.vm.findClass RX5 = some m.cls := hC.2.2.2.1
  have hts := hC.2.2.2.2
  have hl : lv_has ls 2 [(0, .ref (u 0)), (1, .ref (t 0))] := hl
  refine lv_aload_n hx hb dX5_become_0 rfl (lv_at hl 0 rfl) ?_
  refine lv_aload_n hx hb dX5_become_1 rfl (lv_at hl 1 rfl) ?_
  refine va_get (D := D) (ci := 5) (v := .int (T 0 0)) (C := RX5) (T := TX5) (N := 9) hx hb hts tu_5 hown hE.1 hP 8 mt_0 rfl 0 (by decide) (hts _ tw_748) (fun _ h9 => h9) rfl dX5_become_2 ?_
  refine va_put (D := D) (ci := 5) (v := .int (T 0 0)) (ty := .int) (C := RX5) (T := TX5) (N := 9) hx hb hts tu_5 tyX5 tyX5_ok nmX5 hown hE.1 hP hD hS 16 mu_0 rfl 0 (by decide) (hts _ tw_748) (fun _ h9 => h9) rfl (by decide +kernel) rfl rfl (Nat.le_of_ble_eq_true rfl) dX5_become_5 (fun H locs hP hD hS => ?_)
  rw [mup_00 (U := U) (v := (T 0 0)) (f := upd (U 0) 0 (T 0 0)) rfl] at hP hD
  refine lv_aload_n hx hb dX5_become_8 rfl (lv_at hl 0 rfl) ?_
  refine lv_aload_n hx hb dX5_become_9 rfl (lv_at hl 1 rfl) ?_
  refine va_get (D := D) (ci := 5) (v := .int (T 0 1)) (C := RX5) (T := TX5) (N := 9) hx hb hts tu_5 hown hE.1 hP 8 mt_0 rfl 7 (by decide) (hts _ tw_761) (fun _ h9 => h9) rfl dX5_become_10 ?_
  refine va_put (D := D) (ci := 5) (v := .int (T 0 1)) (ty := .int) (C := RX5) (T := TX5) (N := 9) hx hb hts tu_5 tyX5 tyX5_ok nmX5 hown hE.1 hP hD hS 16 mu_0 rfl 7 (by decide) (hts _ tw_761) (fun _ h9 => h9) rfl (by decide +kernel) rfl rfl (Nat.le_of_ble_eq_true rfl) dX5_become_13 (fun H locs hP hD hS => ?_)
  rw [mup_01 (U := (sf U 0 (upd (U 0) 0 (T 0 0)))) (v := (T 0 1)) (f := upd (upd (U 0) 0 (T 0 0)) 1 (T 0 1)) rfl] at hP hD
  refine lv_aload_n hx hb dX5_become_16 rfl (lv_at hl 1 rfl) ?_
  refine va_get (D := D) (ci := 5) (v := .ref (t 1)) (C := RX5) (T := TX5) (N := 9) hx hb hts tu_5 hown hE.1 hP 8 mt_0 rfl 1 (by decide) (hts _ tw_750) (fun _ h9 => h9) rfl dX5_become_17 ?_
  refine lv_aload_n hx hb dX5_become_20 rfl (lv_at hl 0 rfl) ?_
  refine va_get (D := D) (ci := 5) (v := .ref (u 1)) (C := RX5) (T := TX5) (N := 9) hx hb hts tu_5 hown hE.1 hP 16 mu_0 rfl 1 (by decide) (hts _ tw_750) (fun _ h9 => h9) rfl dX5_become_21 ?_
  refine c_mSv (rest := []) hC hE hP hD hS mu_same (metX5_copy l (ws' := (gw k g sp sq G ++ (tw k t T ++ (tw k u (sf (sf (sf U 0 (upd (U 0) 0 (T 0 0))) 0 (upd (upd (U 0) 0 (T 0 0)) 1 (T 0 1))) 1 (T 1)) ++ R)))) mt_1 mu_1 (by decide) (muq_1 rfl)) gc_RX5_46 hd_X5_copy ⟨rfl, rfl⟩ ⟨Nat.le_of_ble_eq_true rfl, Nat.le_of_ble_eq_true rfl⟩ rfl hl.1 (Nat.le_of_ble_eq_true rfl) ⟨Nat.le_of_ble_eq_true rfl, Nat.le_of_ble_eq_true rfl⟩ dX5_become_24 (fun H locs hP hD hS => ?_)
  refine lv_aload_n hx hb dX5_become_27 rfl (lv_at hl 1 rfl) ?_
  refine va_get (D := D) (ci := 5) (v := .ref (t 2)) (C := RX5) (T := TX5) (N := 9) hx hb hts tu_5 hown hE.1 hP 8 mt_0 rfl 2 (by decide) (hts _ tw_752) (fun _ h9 => h9) rfl dX5_become_28 ?_
  refine lv_aload_n hx hb dX5_become_31 rfl (lv_at hl 0 rfl) ?_
  refine va_get (D := D) (ci := 5) (v := .ref (u 2)) (C := RX5) (T := TX5) (N := 9) hx hb hts tu_5 hown hE.1 hP 16 mu_0 rfl 2 (by decide) (hts _ tw_752) (fun _ h9 => h9) rfl dX5_become_32 ?_
  refine c_mSv (rest := []) hC hE hP hD hS mu_same (metX5_copy l (ws' := (gw k g sp sq G ++ (tw k t T ++ (tw k u (sf (sf (sf (sf U 0 (upd (U 0) 0 (T 0 0))) 0 (upd (upd (U 0) 0 (T 0 0)) 1 (T 0 1))) 1 (T 1)) 2 (T 2)) ++ R)))) mt_2 mu_2 (by decide) (muq_2 rfl)) gc_RX5_46 hd_X5_copy ⟨rfl, rfl⟩ ⟨Nat.le_of_ble_eq_true rfl, Nat.le_of_ble_eq_true rfl⟩ rfl hl.1 (Nat.le_of_ble_eq_true rfl) ⟨Nat.le_of_ble_eq_true rfl, Nat.le_of_ble_eq_true rfl⟩ dX5_become_35 (fun H locs hP hD hS => ?_)
  refine lv_aload_n hx hb dX5_become_38 rfl (lv_at hl 1 rfl) ?_
  refine va_get (D := D) (ci := 5) (v := .ref (t 3)) (C := RX5) (T := TX5) (N := 9) hx hb hts tu_5 hown hE.1 hP 8 mt_0 rfl 3 (by decide) (hts _ tw_754) (fun _ h9 => h9) rfl dX5_become_39 ?_
  refine lv_aload_n hx hb dX5_become_42 rfl (lv_at hl 0 rfl) ?_
  refine va_get (D := D) (ci := 5) (v := .ref (u 3)) (C := RX5) (T := TX5) (N := 9) hx hb hts tu_5 hown hE.1 hP 16 mu_0 rfl 3 (by decide) (hts _ tw_754) (fun _ h9 => h9) rfl dX5_become_43 ?_
  refine c_mSv (rest := []) hC hE hP hD hS mu_same (metX5_copy l (ws' := (gw k g sp sq G ++ (tw k t T ++ (tw k u (sf (sf (sf (sf (sf U 0 (upd (U 0) 0 (T 0 0))) 0 (upd (upd (U 0) 0 (T 0 0)) 1 (T 0 1))) 1 (T 1)) 2 (T 2)) 3 (T 3)) ++ R)))) mt_3 mu_3 (by decide) (muq_3 rfl)) gc_RX5_46 hd_X5_copy ⟨rfl, rfl⟩ ⟨Nat.le_of_ble_eq_true rfl, Nat.le_of_ble_eq_true rfl⟩ rfl hl.1 (Nat.le_of_ble_eq_true rfl) ⟨Nat.le_of_ble_eq_true rfl, Nat.le_of_ble_eq_true rfl⟩ dX5_become_46 (fun H locs hP hD hS => ?_)
  refine lv_aload_n hx hb dX5_become_49 rfl (lv_at hl 1 rfl) ?_
  refine va_get (D := D) (ci := 5) (v := .ref (t 4)) (C := RX5) (T := TX5) (N := 9) hx hb hts tu_5 hown hE.1 hP 8 mt_0 rfl 4 (by decide) (hts _ tw_756) (fun _ h9 => h9) rfl dX5_become_50 ?_
  refine lv_aload_n hx hb dX5_become_53 rfl (lv_at hl 0 rfl) ?_
  refine va_get (D := D) (ci := 5) (v := .ref (u 4)) (C := RX5) (T := TX5) (N := 9) hx hb hts tu_5 hown hE.1 hP 16 mu_0 rfl 4 (by decide) (hts _ tw_756) (fun _ h9 => h9) rfl dX5_become_54 ?_
  refine c_mSv (rest := []) hC hE hP hD hS mu_same (metX5_copy l (ws' := (gw k g sp sq G ++ (tw k t T ++ (tw k u (sf (sf (sf (sf (sf (sf U 0 (upd (U 0) 0 (T 0 0))) 0 (upd (upd (U 0) 0 (T 0 0)) 1 (T 0 1))) 1 (T 1)) 2 (T 2)) 3 (T 3)) 4 (T 4)) ++ R)))) mt_4 mu_4 (by decide) (muq_4 rfl)) gc_RX5_46 hd_X5_copy ⟨rfl, rfl⟩ ⟨Nat.le_of_ble_eq_true rfl, Nat.le_of_ble_eq_true rfl⟩ rfl hl.1 (Nat.le_of_ble_eq_true rfl) ⟨Nat.le_of_ble_eq_true rfl, Nat.le_of_ble_eq_true rfl⟩ dX5_become_57 (fun H locs hP hD hS => ?_)
  refine lv_aload_n hx hb dX5_become_60 rfl (lv_at hl 1 rfl) ?_
  refine va_get (D := D) (ci := 5) (v := .ref (t 5)) (C := RX5) (T := TX5) (N := 9) hx hb hts tu_5 hown hE.1 hP 8 mt_0 rfl 5 (by decide) (hts _ tw_758) (fun _ h9 => h9) rfl dX5_become_61 ?_
  refine lv_aload_n hx hb dX5_become_64 rfl (lv_at hl 0 rfl) ?_
  refine va_get (D := D) (ci := 5) (v := .ref (u 5)) (C := RX5) (T := TX5) (N := 9) hx hb hts tu_5 hown hE.1 hP 16 mu_0 rfl 5 (by decide) (hts _ tw_758) (fun _ h9 => h9) rfl dX5_become_65 ?_
  refine c_mSv (rest := []) hC hE hP hD hS mu_same (metX5_copy l (ws' := (gw k g sp sq G ++ (tw k t T ++ (tw k u (sf (sf (sf (sf (sf (sf (sf U 0 (upd (U 0) 0 (T 0 0))) 0 (upd (upd (U 0) 0 (T 0 0)) 1 (T 0 1))) 1 (T 1)) 2 (T 2)) 3 (T 3)) 4 (T 4)) 5 (T 5)) ++ R)))) mt_5 mu_5 (by decide) (muq_5 rfl)) gc_RX5_46 hd_X5_copy ⟨rfl, rfl⟩ ⟨Nat.le_of_ble_eq_true rfl, Nat.le_of_ble_eq_true rfl⟩ rfl hl.1 (Nat.le_of_ble_eq_true rfl) ⟨Nat.le_of_ble_eq_true rfl, Nat.le_of_ble_eq_true rfl⟩ dX5_become_68 (fun H locs hP hD hS => ?_)
  refine lv_aload_n hx hb dX5_become_71 rfl (lv_at hl 1 rfl) ?_
  refine va_get (D := D) (ci := 5) (v := .ref (t 6)) (C := RX5) (T := TX5) (N := 9) hx hb hts tu_5 hown hE.1 hP 8 mt_0 rfl 6 (by decide) (hts _ tw_760) (fun _ h9 => h9) rfl dX5_become_72 ?_
  refine lv_aload_n hx hb dX5_become_75 rfl (lv_at hl 0 rfl) ?_
  refine va_get (D := D) (ci := 5) (v := .ref (u 6)) (C := RX5) (T := TX5) (N := 9) hx hb hts tu_5 hown hE.1 hP 16 mu_0 rfl 6 (by decide) (hts _ tw_760) (fun _ h9 => h9) rfl dX5_become_76 ?_
  refine c_mSv (rest := []) hC hE hP hD hS mu_same (metX5_copy l (ws' := (gw k g sp sq G ++ (tw k t T ++ (tw k u (sf (sf (sf (sf (sf (sf (sf (sf U 0 (upd (U 0) 0 (T 0 0))) 0 (upd (upd (U 0) 0 (T 0 0)) 1 (T 0 1))) 1 (T 1)) 2 (T 2)) 3 (T 3)) 4 (T 4)) 5 (T 5)) 6 (T 6)) ++ R)))) mt_6 mu_6 (by decide) (muq_6 rfl)) gc_RX5_46 hd_X5_copy ⟨rfl, rfl⟩ ⟨Nat.le_of_ble_eq_true rfl, Nat.le_of_ble_eq_true rfl⟩ rfl hl.1 (Nat.le_of_ble_eq_true rfl) ⟨Nat.le_of_ble_eq_true rfl, Nat.le_of_ble_eq_true rfl⟩ dX5_become_79 (fun H locs hP hD hS => ?_)
  refine lv_aload_n hx hb dX5_become_82 rfl (lv_at hl 1 rfl) ?_
  refine va_get (D := D) (ci := 5) (v := .ref (t 7)) (C := RX5) (T := TX5) (N := 9) hx hb hts tu_5 hown hE.1 hP 8 mt_0 rfl 8 (by decide) (hts _ tw_763) (fun _ h9 => h9) rfl dX5_become_83 ?_
  refine lv_aload_n hx hb dX5_become_86 rfl (lv_at hl 0 rfl) ?_
  refine va_get (D := D) (ci := 5) (v := .ref (u 7)) (C := RX5) (T := TX5) (N := 9) hx hb hts tu_5 hown hE.1 hP 16 mu_0 rfl 8 (by decide) (hts _ tw_763) (fun _ h9 => h9) rfl dX5_become_87 ?_
  refine c_mSv (rest := []) hC hE hP hD hS mu_same (metX5_copy l (ws' := (gw k g sp sq G ++ (tw k t T ++ (tw k u (sf (sf (sf (sf (sf (sf (sf (sf (sf U 0 (upd (U 0) 0 (T 0 0))) 0 (upd (upd (U 0) 0 (T 0 0)) 1 (T 0 1))) 1 (T 1)) 2 (T 2)) 3 (T 3)) 4 (T 4)) 5 (T 5)) 6 (T 6)) 7 (T 7)) ++ R)))) mt_7 mu_7 (by decide) (muq_7 rfl)) gc_RX5_46 hd_X5_copy ⟨rfl, rfl⟩ ⟨Nat.le_of_ble_eq_true rfl, Nat.le_of_ble_eq_true rfl⟩ rfl hl.1 (Nat.le_of_ble_eq_true rfl) ⟨Nat.le_of_ble_eq_true rfl, Nat.le_of_ble_eq_true rfl⟩ dX5_become_90 (fun H locs hP hD hS => ?_)
  exact m_vret hx hb hr hlk dX5_become_93 (by rw [← tw_bec (U := U)]; exact hP) hS

theorem nI_ge120 {i : Nat} (h : i < 121) : ¬ (120 : Int32) < nI i := by
  rw [show (120 : Int32) = nI 120 from rfl, nI_ltI (by decide) (by omega)]
  omega
set_option maxHeartbeats 4000000 in
set_option maxRecDepth 100000 in
theorem metX6_untilChute (l : Launch) {D : va_G} {k : Nat → ClassId} {g t u : Nat → Nat} {R : va_W} (G T U : HS) (b : Nat) (hbg : b < 40) (hF : okF G) (hun : ∀ i_, i_ < 121 → okB (mUn G T i_ 5) ∧ okL (mUn G T i_)) : MM l yX6_untilChute cX6_untilChute 3 (some FieldType.int) rmX6_untilChute D k (gw k g (t 0) (u 0) G ++ (tw k t T ++ (tw k u U ++ R))) [.ref (g 0), .int (nI b)] (some (.int (mUnA G T b))) (gw k g (t 0) (u 0) G ++ (tw k t T ++ (tw k u (mUn G T (mUnN G T b)) ++ R))) := by
  refine MM_of rfl (Nat.le_of_ble_eq_true rfl) ?_
  intro p e s m below meth c hC hr hlk hin hE hP hD hS ls hl
  have hC : CallFix p m c cX6_untilChute 3 s _ lw_all RX6 := hC
  have hx := hC.1
  have hb := hC.2.1
  have hown : s.vm.findClass RX6 = some m.cls := hC.2.2.2.1
  have hts := hC.2.2.2.2
  have hl : lv_has ls 3 [(0, .ref (g 0)), (1, .int (nI b))] := hl
  refine lv_aload_n hx hb dX6_untilChute_0 rfl (lv_at hl 0 rfl) ?_
  refine va_get (D := D) (ci := 6) (v := .ref (u 0)) (C := RX6) (T := TX6) (N := 13) hx hb hts tu_6 hown hE.1 hP 0 gw_0 rfl 12 (by decide) (hts _ tw_797) (fun _ h9 => h9) rfl dX6_untilChute_1 ?_
  refine lv_aload_n hx hb dX6_untilChute_4 rfl (lv_at hl 0 rfl) ?_
  refine va_get (D := D) (ci := 6) (v := .ref (t 0)) (C := RX6) (T := TX6) (N := 13) hx hb hts tu_6 hown hE.1 hP 0 gw_0 rfl 11 (by decide) (hts _ tw_796) (fun _ h9 => h9) rfl dX6_untilChute_5 ?_
  refine c_mVv (rest := []) hC hE hP hD hS mu_same (metX5_become l G T U) gc_RX6_171 hd_X5_become ⟨rfl, rfl⟩ ⟨Nat.le_of_ble_eq_true rfl, Nat.le_of_ble_eq_true rfl⟩ 16 mu_0 rfl rfl hl.1 (Nat.le_of_ble_eq_true rfl) ⟨Nat.le_of_ble_eq_true rfl, Nat.le_of_ble_eq_true rfl⟩ dX6_untilChute_8 (fun H locs hP hD hS => ?_)
  have hP : va_P D vwCl (gw k g (t 0) (u 0) G ++ (tw k u T ++ (tw k t T ++ R))) H := vaP_perm hP (perm3 _ _ _ _)
  have hD : va_D (va_in (gw k g (t 0) (u 0) G ++ (tw k t T ++ (tw k u U ++ R)))) (gw k g (t 0) (u 0) G ++ (tw k u T ++ (tw k t T ++ R))) := vaD_perm hD (perm3 _ _ _ _)
  refine lv_iconst (v := 0) hx hb dX6_untilChute_11 (by decide) ?_
  refine lv_istore_n (lv' := [(2, .int 0), (0, .ref (g 0)), (1, .int (nI b))]) hx hb dX6_untilChute_12 rfl hl (by decide) rfl (fun ls hl => ?_)
  refine w_forM (N := 121) (fun i => ∀ j, j < i → ¬ mUnP G T b j) (fun i => [(0, .ref (g 0)), (1, .int (nI b)), (2, .int (nI i))]) (fun i => (gw k g (t 0) (u 0) G ++ (tw k u (mUn G T i) ++ (tw k t T ++ R)))) (fun ls H locs hI hl hP hD hS => ?_) (fun i hi hI ih ls H locs hl hP hD hS => ?_) 0 (Nat.zero_le _) (fun j hj => absurd hj (Nat.not_lt_zero j)) (lv_sub hl [1, 2, 0] rfl) hP hD hS
  · have hl : lv_has ls 3 [(0, .ref (g 0)), (1, .int (nI b)), (2, .int (nI 121))] := hl
    have hP : va_P D vwCl (gw k g (t 0) (u 0) G ++ (tw k u (mUn G T 121) ++ (tw k t T ++ R))) H := hP
    have hD : va_D (va_in (gw k g (t 0) (u 0) G ++ (tw k t T ++ (tw k u U ++ R)))) (gw k g (t 0) (u 0) G ++ (tw k u (mUn G T 121) ++ (tw k t T ++ R))) := hD
    have hI : ∀ j, j < 121 → ¬ mUnP G T b j := hI
    refine lv_iload_n hx hb dX6_untilChute_13 rfl (lv_at hl 2 rfl) ?_
    refine lv_bipush (v := 120) hx hb dX6_untilChute_14 (by decide) ?_
    refine lv_icmp_gt (tgt := 49) hx hb dX6_untilChute_16 (by decide) (fun c_1 => ?_) (fun c_ => absurd (by decide) c_)
    refine lv_iconst (v := (-1)) hx hb dX6_untilChute_49 (by decide) ?_
    have hP : va_P D vwCl (gw k g (t 0) (u 0) G ++ (tw k t T ++ (tw k u (mUn G T 121) ++ R))) H := vaP_perm hP (perm3 _ _ _ _)
    have hD : va_D (va_in (gw k g (t 0) (u 0) G ++ (tw k t T ++ (tw k u U ++ R)))) (gw k g (t 0) (u 0) G ++ (tw k t T ++ (tw k u (mUn G T 121) ++ R))) := vaD_perm hD (perm3 _ _ _ _)
    have e7 : mUn G T (mUnN G T b) = mUn G T 121 := by rw [(mUnA_end hI).1]
    exact m_iret hx hb hr hlk dX6_untilChute_50 (by rw [e7]; exact hP) hS ((mUnA_end hI).2)
  · have hl : lv_has ls 3 [(0, .ref (g 0)), (1, .int (nI b)), (2, .int (nI i))] := hl
    have hP : va_P D vwCl (gw k g (t 0) (u 0) G ++ (tw k u (mUn G T i) ++ (tw k t T ++ R))) H := hP
    have hD : va_D (va_in (gw k g (t 0) (u 0) G ++ (tw k t T ++ (tw k u U ++ R)))) (gw k g (t 0) (u 0) G ++ (tw k u (mUn G T i) ++ (tw k t T ++ R))) := hD
    have hI : ∀ j, j < i → ¬ mUnP G T b j := hI
    refine lv_iload_n hx hb dX6_untilChute_13 rfl (lv_at hl 2 rfl) ?_
    refine lv_bipush (v := 120) hx hb dX6_untilChute_14 (by decide) ?_
    refine lv_icmp_gt (tgt := 49) hx hb dX6_untilChute_16 (by decide) (fun c_ => absurd c_ (nI_ge120 hi)) (fun c_2 => ?_)
    refine lv_aload_n hx hb dX6_untilChute_19 rfl (lv_at hl 0 rfl) ?_
    refine va_get (D := D) (ci := 6) (v := .ref (u 0)) (C := RX6) (T := TX6) (N := 13) hx hb hts tu_6 hown hE.1 hP 0 gw_0 rfl 12 (by decide) (hts _ tw_797) (fun _ h9 => h9) rfl dX6_untilChute_20 ?_
    refine va_getN (D := D) (ci := 5) (v := .ref (u 1)) (C := RX5) (T := TX5) (N := 9) hx hb hts tu_5 hown hE.1 hP 8 mt_0 rfl 1 (by decide) (va_Nw.use rfl hE.2.2.1) (fun _ h9 => h9) rfl dX6_untilChute_23 ?_
    refine lv_iload_n hx hb dX6_untilChute_26 rfl (lv_at hl 1 rfl) ?_
    refine k_iald (j := b) hx hb hE hP 9 mt_1 hbg (by decide) dX6_untilChute_27 ?_
    refine lv_iconst (v := 2) hx hb dX6_untilChute_28 (by decide) ?_
    refine lv_icmp_ne (tgt := 34) hx hb dX6_untilChute_29 (by decide) (fun c_3 => ?_) (fun c_3 => ?_)
    · refine lv_aload_n hx hb dX6_untilChute_34 rfl (lv_at hl 0 rfl) ?_
      refine lv_aload_n hx hb dX6_untilChute_35 rfl (lv_at hl 0 rfl) ?_
      refine va_get (D := D) (ci := 6) (v := .ref (u 0)) (C := RX6) (T := TX6) (N := 13) hx hb hts tu_6 hown hE.1 hP 0 gw_0 rfl 12 (by decide) (hts _ tw_797) (fun _ h9 => h9) rfl dX6_untilChute_36 ?_
      refine c_mVi (rest := []) hC hE hP hD hS mt_same (metX6_minuteOn l G (mUn G T i) (hun i hi).1 hF (hun i hi).2) gc_RX6_100 hd_X6_minuteOn ⟨rfl, rfl⟩ ⟨Nat.le_of_ble_eq_true rfl, Nat.le_of_ble_eq_true rfl⟩ 0 gw_0 rfl rfl hl.1 (Nat.le_of_ble_eq_true rfl) ⟨Nat.le_of_ble_eq_true rfl, Nat.le_of_ble_eq_true rfl⟩ dX6_untilChute_39 (fun H locs hP hD hS => ?_)
      refine lv_pop hx hb dX6_untilChute_42 rfl ?_
      refine lv_iinc (v := nI (i + 1)) (lv' := [(2, .int (nI (i + 1))), (0, .ref (g 0)), (1, .int (nI b))]) hx hb dX6_untilChute_43 hl (k := 2) rfl (iinc1 _) (by decide) rfl (fun ls hl => ?_)
      refine lv_goto (tgt := 13) hx hb dX6_untilChute_46 (by decide) ?_
      exact ih ls H locs (fun j hj => (Nat.lt_succ_iff_lt_or_eq.mp hj).elim (hI j) (fun z_ => z_ ▸ c_3)) (lv_sub hl [1, 2, 0] rfl) (by show va_P D vwCl (gw k g (t 0) (u 0) G ++ (tw k u (mUn G T (i + 1)) ++ (tw k t T ++ R))) H; exact hP) (by show va_D (va_in (gw k g (t 0) (u 0) G ++ (tw k t T ++ (tw k u U ++ R)))) (gw k g (t 0) (u 0) G ++ (tw k u (mUn G T (i + 1)) ++ (tw k t T ++ R))); exact hD) hS
    · refine lv_iload_n hx hb dX6_untilChute_32 rfl (lv_at hl 2 rfl) ?_
      have hP : va_P D vwCl (gw k g (t 0) (u 0) G ++ (tw k t T ++ (tw k u (mUn G T i) ++ R))) H := vaP_perm hP (perm3 _ _ _ _)
      have hD : va_D (va_in (gw k g (t 0) (u 0) G ++ (tw k t T ++ (tw k u U ++ R)))) (gw k g (t 0) (u 0) G ++ (tw k t T ++ (tw k u (mUn G T i) ++ R))) := vaD_perm hD (perm3 _ _ _ _)
      have e7 : mUn G T (mUnN G T b) = mUn G T i := by rw [(mUnA_at hI c_3 hi).1]
      exact m_iret hx hb hr hlk dX6_untilChute_33 (by rw [e7]; exact hP) hS ((mUnA_at hI c_3 hi).2)

set_option maxHeartbeats 4000000 in
set_option maxRecDepth 100000 in
theorem metX6_readyBehind (l : Launch) {D : va_G} {k : Nat → ClassId} {g t u : Nat → Nat} {R : va_W} (G T U : HS) (f : Nat) (N : Nat) (n : Nat) (hn : G 0 3 = nI n) (hn40 : n ≤ 40) (hf : f < 6) (hN : N < 2 ^ 31) (hF : okF G) (hgo : ∀ i, i < N → okB ((mGo G T i).2 5) ∧ okL (mGo G T i).2) : MM l yX6_readyBehind cX6_readyBehind 3 (some FieldType.int) rmX6_readyBehind D k (gw k g (t 0) (u 0) G ++ (tw k t T ++ (tw k u U ++ R))) [.ref (g 0), .int (nI f), .int (nI N)] (some (.int (nI (mBeh G T f N n)))) (gw k g (t 0) (u 0) G ++ (tw k t T ++ (tw k u (mGo G T N).2 ++ R))) := by
  refine MM_of rfl (Nat.le_of_ble_eq_true rfl) ?_
  intro p e s m below meth c hC hr hlk hin hE hP hD hS ls hl
  have hC : CallFix p m c cX6_readyBehind 3 s _ lw_all RX6 := hC
  have hx := hC.1
  have hb := hC.2.1
  have hown : s.vm.findClass RX6 = some m.cls := hC.2.2.2.1
  have hts := hC.2.2.2.2
  have hl : lv_has ls 3 [(0, .ref (g 0)), (1, .int (nI f)), (2, .int (nI N))] := hl
  refine lv_aload_n hx hb dX6_readyBehind_0 rfl (lv_at hl 0 rfl) ?_
  refine va_get (D := D) (ci := 6) (v := .ref (u 0)) (C := RX6) (T := TX6) (N := 13) hx hb hts tu_6 hown hE.1 hP 0 gw_0 rfl 12 (by decide) (hts _ tw_797) (fun _ h9 => h9) rfl dX6_readyBehind_1 ?_
  refine lv_aload_n hx hb dX6_readyBehind_4 rfl (lv_at hl 0 rfl) ?_
  refine va_get (D := D) (ci := 6) (v := .ref (t 0)) (C := RX6) (T := TX6) (N := 13) hx hb hts tu_6 hown hE.1 hP 0 gw_0 rfl 11 (by decide) (hts _ tw_796) (fun _ h9 => h9) rfl dX6_readyBehind_5 ?_
  refine c_mVv (rest := []) hC hE hP hD hS mu_same (metX5_become l G T U) gc_RX6_171 hd_X5_become ⟨rfl, rfl⟩ ⟨Nat.le_of_ble_eq_true rfl, Nat.le_of_ble_eq_true rfl⟩ 16 mu_0 rfl rfl hl.1 (Nat.le_of_ble_eq_true rfl) ⟨Nat.le_of_ble_eq_true rfl, Nat.le_of_ble_eq_true rfl⟩ dX6_readyBehind_8 (fun H locs hP hD hS => ?_)
  have hP : va_P D vwCl (gw k g (t 0) (u 0) G ++ (tw k u T ++ (tw k t T ++ R))) H := vaP_perm hP (perm3 _ _ _ _)
  have hD : va_D (va_in (gw k g (t 0) (u 0) G ++ (tw k t T ++ (tw k u U ++ R)))) (gw k g (t 0) (u 0) G ++ (tw k u T ++ (tw k t T ++ R))) := vaD_perm hD (perm3 _ _ _ _)
  refine lv_aload_n hx hb dX6_readyBehind_11 rfl (lv_at hl 0 rfl) ?_
  refine lv_aload_n hx hb dX6_readyBehind_12 rfl (lv_at hl 0 rfl) ?_
  refine va_get (D := D) (ci := 6) (v := .ref (u 0)) (C := RX6) (T := TX6) (N := 13) hx hb hts tu_6 hown hE.1 hP 0 gw_0 rfl 12 (by decide) (hts _ tw_797) (fun _ h9 => h9) rfl dX6_readyBehind_13 ?_
  refine lv_iload_n hx hb dX6_readyBehind_16 rfl (lv_at hl 2 rfl) ?_
  refine c_mVi (rest := []) hC hE hP hD hS mt_same (metX6_minutesOn l G T N hN hF hgo) gc_RX6_143 hd_X6_minutesOn ⟨rfl, rfl⟩ ⟨Nat.le_of_ble_eq_true rfl, Nat.le_of_ble_eq_true rfl⟩ 0 gw_0 rfl rfl hl.1 (Nat.le_of_ble_eq_true rfl) ⟨Nat.le_of_ble_eq_true rfl, Nat.le_of_ble_eq_true rfl⟩ dX6_readyBehind_17 (fun H locs hP hD hS => ?_)
  refine lv_pop hx hb dX6_readyBehind_20 rfl ?_
  refine lv_aload_n hx hb dX6_readyBehind_21 rfl (lv_at hl 0 rfl) ?_
  refine lv_aload_n hx hb dX6_readyBehind_22 rfl (lv_at hl 0 rfl) ?_
  refine va_get (D := D) (ci := 6) (v := .ref (u 0)) (C := RX6) (T := TX6) (N := 13) hx hb hts tu_6 hown hE.1 hP 0 gw_0 rfl 12 (by decide) (hts _ tw_797) (fun _ h9 => h9) rfl dX6_readyBehind_23 ?_
  refine lv_iload_n hx hb dX6_readyBehind_26 rfl (lv_at hl 1 rfl) ?_
  refine c_pVi (rest := []) hC hE hP (metX6_readyIn l G (mGo G T N).2 f n hn hn40 hf) gc_RX6_156 hd_X6_readyIn ⟨rfl, rfl⟩ ⟨Nat.le_of_ble_eq_true rfl, Nat.le_of_ble_eq_true rfl⟩ 0 gw_0 rfl rfl hl.1 (Nat.le_of_ble_eq_true rfl) ⟨Nat.le_of_ble_eq_true rfl, Nat.le_of_ble_eq_true rfl⟩ dX6_readyBehind_27 ?_
  have hP : va_P D vwCl (gw k g (t 0) (u 0) G ++ (tw k t T ++ (tw k u (mGo G T N).2 ++ R))) H := vaP_perm hP (perm3 _ _ _ _)
  have hD : va_D (va_in (gw k g (t 0) (u 0) G ++ (tw k t T ++ (tw k u U ++ R)))) (gw k g (t 0) (u 0) G ++ (tw k t T ++ (tw k u (mGo G T N).2 ++ R))) := vaD_perm hD (perm3 _ _ _ _)
  exact m_iret hx hb hr hlk dX6_readyBehind_30 hP hS (rfl)

set_option maxHeartbeats 4000000 in
set_option maxRecDepth 100000 in
theorem metX6_best (l : Launch) {D : va_G} {k : Nat → ClassId} {g t u : Nat → Nat} {R : va_W} (G T U : HS) (f : Nat) (N : Nat) (n : Nat) (hn : G 0 3 = nI n) (hn40 : n ≤ 40) (hf : f < 6) (hN : N < 2 ^ 31) (hF : okF G) (hgs : ∀ c_, c_ < 4 → ∀ i_, i_ < N → okB ((mGo (mSetC G f c_) T i_).2 5) ∧ okL (mGo (mSetC G f c_) T i_).2) : MM l yX6_best cX6_best 8 (some FieldType.int) rmX6_best D k (gw k g (t 0) (u 0) G ++ (tw k t T ++ (tw k u U ++ R))) [.ref (g 0), .int (nI f), .int (nI N)] (some (.int ((mBest G T f N n 4).1))) (gw k g (t 0) (u 0) G ++ (tw k t T ++ (tw k u (bsU G T U f N 4) ++ R))) := by
  refine MM_of rfl (Nat.le_of_ble_eq_true rfl) ?_
  intro p e s m below meth c hC hr hlk hin hE hP hD hS ls hl
  have hC : CallFix p m c cX6_best 8 s _ lw_all RX6 := hC
  have hx := hC.1
  have hb := hC.2.1
  have hown : s.vm.findClass RX6 = some m.cls := hC.2.2.2.1
  have hts := hC.2.2.2.2
  have hl : lv_has ls 8 [(0, .ref (g 0)), (1, .int (nI f)), (2, .int (nI N))] := hl
  refine lv_aload_n hx hb dX6_best_0 rfl (lv_at hl 0 rfl) ?_
  refine va_get (D := D) (ci := 6) (v := .ref (g 1)) (C := RX6) (T := TX6) (N := 13) hx hb hts tu_6 hown hE.1 hP 0 gw_0 rfl 2 (by decide) (hts _ tw_787) (fun _ h9 => h9) rfl dX6_best_1 ?_
  refine lv_iload_n hx hb dX6_best_4 rfl (lv_at hl 1 rfl) ?_
  refine k_iald (j := f) hx hb hE hP 1 gw_1 hf (by decide) dX6_best_5 ?_
  refine lv_istore_n (lv' := [(3, .int (G 1 f)), (0, .ref (g 0)), (1, .int (nI f)), (2, .int (nI N))]) hx hb dX6_best_6 rfl hl (by decide) rfl (fun ls hl => ?_)
  refine lv_iconst (v := (-1)) hx hb dX6_best_7 (by decide) ?_
  refine lv_istore (lv' := [(4, .int (-1)), (3, .int (G 1 f)), (0, .ref (g 0)), (1, .int (nI f)), (2, .int (nI N))]) hx hb dX6_best_8 hl (by decide) rfl (fun ls hl => ?_)
  refine lv_iconst (v := (-1)) hx hb dX6_best_10 (by decide) ?_
  refine lv_istore (lv' := [(5, .int (-1)), (4, .int (-1)), (3, .int (G 1 f)), (0, .ref (g 0)), (1, .int (nI f)), (2, .int (nI N))]) hx hb dX6_best_11 hl (by decide) rfl (fun ls hl => ?_)
  refine lv_iconst (v := 0) hx hb dX6_best_13 (by decide) ?_
  refine lv_istore (lv' := [(6, .int 0), (5, .int (-1)), (4, .int (-1)), (3, .int (G 1 f)), (0, .ref (g 0)), (1, .int (nI f)), (2, .int (nI N))]) hx hb dX6_best_14 hl (by decide) rfl (fun ls hl => ?_)
  refine w_forM (N := 4) (fun _ => True) (fun i => [(0, .ref (g 0)), (1, .int (nI f)), (2, .int (nI N)), (3, .int (G 1 f)), (4, .int (mBest G T f N n i).1), (5, .int (mBest G T f N n i).2), (6, .int (nI i))]) (fun i => (gw k g (t 0) (u 0) (bsG G f i) ++ (tw k t T ++ (tw k u (bsU G T U f N i) ++ R)))) (fun ls H locs hI hl hP hD hS => ?_) (fun i hi hI ih ls H locs hl hP hD hS => ?_) 0 (Nat.zero_le _) trivial (lv_sub hl [4, 5, 6, 3, 2, 1, 0] rfl) hP hD hS
  · have hl : lv_has ls 8 [(0, .ref (g 0)), (1, .int (nI f)), (2, .int (nI N)), (3, .int (G 1 f)), (4, .int (mBest G T f N n 4).1), (5, .int (mBest G T f N n 4).2), (6, .int (nI 4))] := hl
    have hP : va_P D vwCl (gw k g (t 0) (u 0) (bsG G f 4) ++ (tw k t T ++ (tw k u (bsU G T U f N 4) ++ R))) H := hP
    have hD : va_D (va_in (gw k g (t 0) (u 0) G ++ (tw k t T ++ (tw k u U ++ R)))) (gw k g (t 0) (u 0) (bsG G f 4) ++ (tw k t T ++ (tw k u (bsU G T U f N 4) ++ R))) := hD
    refine lv_iload hx hb dX6_best_16 (lv_at hl 6 rfl) ?_
    refine lv_iconst (v := 4) hx hb dX6_best_18 (by decide) ?_
    refine lv_icmp_ge (tgt := 62) hx hb dX6_best_19 (by decide) (fun c_1 => ?_) (fun c_ => absurd (nI_le (a := 4) (b := 4) (Nat.le_refl 4) (by decide)) c_)
    refine lv_aload_n hx hb dX6_best_62 rfl (lv_at hl 0 rfl) ?_
    refine va_get (D := D) (ci := 6) (v := .ref (g 1)) (C := RX6) (T := TX6) (N := 13) hx hb hts tu_6 hown hE.1 hP 0 gw_0 rfl 2 (by decide) (hts _ tw_787) (fun _ h9 => h9) rfl dX6_best_63 ?_
    refine lv_iload_n hx hb dX6_best_66 rfl (lv_at hl 1 rfl) ?_
    refine lv_iload_n hx hb dX6_best_67 rfl (lv_at hl 3 rfl) ?_
    refine k_iast (j := f) hx hb hE hP hD hS 1 gw_1 hf (by decide) dX6_best_68 (fun H locs hP hD hS => ?_)
    rw [gwq_1 (G := (bsG G f 4)) (f := upd ((bsG G f 4) 1) f (G 1 f)) (f2 := upd ((bsG G f 4) 1) f (G 1 f)) rfl] at hP hD
    rw [bsG_r] at hP hD
    refine lv_iload hx hb dX6_best_69 (lv_at hl 4 rfl) ?_
    exact m_iret hx hb hr hlk dX6_best_71 hP hS (rfl)
  · have hl : lv_has ls 8 [(0, .ref (g 0)), (1, .int (nI f)), (2, .int (nI N)), (3, .int (G 1 f)), (4, .int (mBest G T f N n i).1), (5, .int (mBest G T f N n i).2), (6, .int (nI i))] := hl
    have hP : va_P D vwCl (gw k g (t 0) (u 0) (bsG G f i) ++ (tw k t T ++ (tw k u (bsU G T U f N i) ++ R))) H := hP
    have hD : va_D (va_in (gw k g (t 0) (u 0) G ++ (tw k t T ++ (tw k u U ++ R)))) (gw k g (t 0) (u 0) (bsG G f i) ++ (tw k t T ++ (tw k u (bsU G T U f N i) ++ R))) := hD
    refine lv_iload hx hb dX6_best_16 (lv_at hl 6 rfl) ?_
    refine lv_iconst (v := 4) hx hb dX6_best_18 (by decide) ?_
    refine lv_icmp_ge (tgt := 62) hx hb dX6_best_19 (by decide) (fun c_ => absurd c_ (nI_ge (b := 4) hi (by decide))) (fun c_2 => ?_)
    refine lv_aload_n hx hb dX6_best_22 rfl (lv_at hl 0 rfl) ?_
    refine va_get (D := D) (ci := 6) (v := .ref (g 1)) (C := RX6) (T := TX6) (N := 13) hx hb hts tu_6 hown hE.1 hP 0 gw_0 rfl 2 (by decide) (hts _ tw_787) (fun _ h9 => h9) rfl dX6_best_23 ?_
    refine lv_iload_n hx hb dX6_best_26 rfl (lv_at hl 1 rfl) ?_
    refine lv_iload hx hb dX6_best_27 (lv_at hl 6 rfl) ?_
    refine k_iast (j := f) hx hb hE hP hD hS 1 gw_1 hf (by decide) dX6_best_29 (fun H locs hP hD hS => ?_)
    rw [gwq_1 (G := (bsG G f i)) (f := upd ((bsG G f i) 1) f (nI i)) (f2 := upd ((bsG G f i) 1) f (nI i)) rfl] at hP hD
    rw [show sf (bsG G f i) 1 (upd (bsG G f i 1) f (nI i)) = mSetC G f i from bsG_s G f i _] at hP hD
    refine lv_aload_n hx hb dX6_best_30 rfl (lv_at hl 0 rfl) ?_
    refine lv_iload_n hx hb dX6_best_31 rfl (lv_at hl 1 rfl) ?_
    refine lv_iload_n hx hb dX6_best_32 rfl (lv_at hl 2 rfl) ?_
    refine c_mVi (rest := []) hC hE hP hD hS mu_same (metX6_readyBehind l (mSetC G f i) T (bsU G T U f N i) f N n hn hn40 hf hN hF (hgs i hi)) gc_RX6_177 hd_X6_readyBehind ⟨rfl, rfl⟩ ⟨Nat.le_of_ble_eq_true rfl, Nat.le_of_ble_eq_true rfl⟩ 0 gw_0 rfl rfl hl.1 (Nat.le_of_ble_eq_true rfl) ⟨Nat.le_of_ble_eq_true rfl, Nat.le_of_ble_eq_true rfl⟩ dX6_best_33 (fun H locs hP hD hS => ?_)
    refine lv_istore (lv' := [(7, .int (nI (mBeh (mSetC G f i) T f N n))), (0, .ref (g 0)), (1, .int (nI f)), (2, .int (nI N)), (3, .int (G 1 f)), (4, .int (mBest G T f N n i).1), (5, .int (mBest G T f N n i).2), (6, .int (nI i))]) hx hb dX6_best_36 hl (by decide) rfl (fun ls hl => ?_)
    refine lv_iload hx hb dX6_best_38 (lv_at hl 0 rfl) ?_
    refine lv_iload hx hb dX6_best_40 (lv_at hl 6 rfl) ?_
    refine lv_icmp_gt (tgt := 48) hx hb dX6_best_42 (by decide) (fun c_3 => ?_) (fun c_3 => ?_)
    · refine lv_iload hx hb dX6_best_48 (lv_at hl 7 rfl) ?_
      refine lv_istore (lv' := [(4, .int (nI i)), (7, .int (nI (mBeh (mSetC G f i) T f N n))), (0, .ref (g 0)), (1, .int (nI f)), (2, .int (nI N)), (3, .int (G 1 f)), (5, .int (mBest G T f N n i).2), (6, .int (nI i))]) hx hb dX6_best_50 hl (by decide) rfl (fun ls hl => ?_)
      refine lv_iload hx hb dX6_best_52 (lv_at hl 1 rfl) ?_
      refine lv_istore (lv' := [(5, .int (nI (mBeh (mSetC G f i) T f N n))), (4, .int (nI i)), (7, .int (nI (mBeh (mSetC G f i) T f N n))), (0, .ref (g 0)), (1, .int (nI f)), (2, .int (nI N)), (3, .int (G 1 f)), (6, .int (nI i))]) hx hb dX6_best_54 hl (by decide) rfl (fun ls hl => ?_)
      refine lv_iinc (v := nI (i + 1)) (lv' := [(6, .int (nI (i + 1))), (5, .int (nI (mBeh (mSetC G f i) T f N n))), (4, .int (nI i)), (7, .int (nI (mBeh (mSetC G f i) T f N n))), (0, .ref (g 0)), (1, .int (nI f)), (2, .int (nI N)), (3, .int (G 1 f))]) hx hb dX6_best_56 hl (k := 7) rfl (iinc1 _) (by decide) rfl (fun ls hl => ?_)
      refine lv_goto (tgt := 16) hx hb dX6_best_59 (by decide) ?_
      have e9 : mBest G T f N n (i + 1) = (nI i, nI (mBeh (mSetC G f i) T f N n)) := mBest_t c_3
      exact ih ls H locs trivial (by show lv_has ls 8 [(0, .ref (g 0)), (1, .int (nI f)), (2, .int (nI N)), (3, .int (G 1 f)), (4, .int (mBest G T f N n (i + 1)).1), (5, .int (mBest G T f N n (i + 1)).2), (6, .int (nI (i + 1)))]; rw [e9]; exact lv_sub hl [4, 5, 6, 7, 2, 1, 0] rfl) (by show va_P D vwCl (gw k g (t 0) (u 0) (bsG G f (i + 1)) ++ (tw k t T ++ (tw k u (bsU G T U f N (i + 1)) ++ R))) H; exact hP) (by show va_D (va_in (gw k g (t 0) (u 0) G ++ (tw k t T ++ (tw k u U ++ R)))) (gw k g (t 0) (u 0) (bsG G f (i + 1)) ++ (tw k t T ++ (tw k u (bsU G T U f N (i + 1)) ++ R))); exact hD) hS
    · refine lv_goto (tgt := 56) hx hb dX6_best_45 (by decide) ?_
      refine lv_iinc (v := nI (i + 1)) (lv' := [(6, .int (nI (i + 1))), (7, .int (nI (mBeh (mSetC G f i) T f N n))), (0, .ref (g 0)), (1, .int (nI f)), (2, .int (nI N)), (3, .int (G 1 f)), (4, .int (mBest G T f N n i).1), (5, .int (mBest G T f N n i).2)]) hx hb dX6_best_56 hl (k := 7) rfl (iinc1 _) (by decide) rfl (fun ls hl => ?_)
      refine lv_goto (tgt := 16) hx hb dX6_best_59 (by decide) ?_
      have e9 : mBest G T f N n (i + 1) = mBest G T f N n i := mBest_f c_3
      exact ih ls H locs trivial (by show lv_has ls 8 [(0, .ref (g 0)), (1, .int (nI f)), (2, .int (nI N)), (3, .int (G 1 f)), (4, .int (mBest G T f N n (i + 1)).1), (5, .int (mBest G T f N n (i + 1)).2), (6, .int (nI (i + 1)))]; rw [e9]; exact lv_sub hl [2, 3, 4, 5, 6, 7, 0] rfl) (by show va_P D vwCl (gw k g (t 0) (u 0) (bsG G f (i + 1)) ++ (tw k t T ++ (tw k u (bsU G T U f N (i + 1)) ++ R))) H; exact hP) (by show va_D (va_in (gw k g (t 0) (u 0) G ++ (tw k t T ++ (tw k u U ++ R)))) (gw k g (t 0) (u 0) (bsG G f (i + 1)) ++ (tw k t T ++ (tw k u (bsU G T U f N (i + 1)) ++ R))); exact hD) hS

noncomputable def qminutesUntilChute_r (G T U : HS) (b : Int32) (n nf : Nat) : Int32 := (sel (mIn b 0 (nI n - 1)) (mUnA (thr G 0) T (ix b)) 0)
noncomputable def qminutesUntilChute_g (G T U : HS) (b : Int32) (n nf : Nat) : HS := (sel (mIn b 0 (nI n - 1)) (thr G 0) (thr (thr G 0) 1))
noncomputable def qminutesUntilChute_u (G T U : HS) (b : Int32) (n nf : Nat) : HS := (sel (mIn b 0 (nI n - 1)) (mUn (thr G 0) T (mUnN (thr G 0) T (ix b))) U)
noncomputable def qreadyAfter_r (G T U : HS) (f : Int32) (z : Int32) (n nf : Nat) : Int32 := (sel (mIn f 0 (nI nf - 1)) (sel (mIn z 1 60) (nI (mBeh (thr G 0) T (ix f) (ix z) n)) 0) 0)
noncomputable def qreadyAfter_g (G T U : HS) (f : Int32) (z : Int32) (n nf : Nat) : HS := (sel (mIn f 0 (nI nf - 1)) (sel (mIn z 1 60) (thr G 0) (thr (thr G 0) 2)) (thr (thr G 0) 1))
noncomputable def qreadyAfter_u (G T U : HS) (f : Int32) (z : Int32) (n nf : Nat) : HS := (sel (mIn f 0 (nI nf - 1)) (sel (mIn z 1 60) (mGo (thr G 0) T (ix z)).2 U) U)
noncomputable def qbestChute_r (G T U : HS) (f : Int32) (z : Int32) (n nf : Nat) : Int32 := (sel (mIn f 0 (nI nf - 1)) (sel (mIn z 1 60) (sel (G 2 (ix f) = 0) (mBest (thr G 0) T (ix f) (ix z) n 4).1 0) 0) 0)
noncomputable def qbestChute_g (G T U : HS) (f : Int32) (z : Int32) (n nf : Nat) : HS := (sel (mIn f 0 (nI nf - 1)) (sel (mIn z 1 60) (sel (G 2 (ix f) = 0) (thr G 0) (thr (thr G 0) 3)) (thr (thr G 0) 2)) (thr (thr G 0) 1))
noncomputable def qbestChute_u (G T U : HS) (f : Int32) (z : Int32) (n nf : Nat) : HS := (sel (mIn f 0 (nI nf - 1)) (sel (mIn z 1 60) (sel (G 2 (ix f) = 0) (bsU (thr G 0) T U (ix f) (ix z) 4) U) U) U)
set_option maxHeartbeats 4000000 in
set_option maxRecDepth 100000 in
theorem metX6_minutesUntilChute (l : Launch) {D : va_G} {k : Nat → ClassId} {g t u : Nat → Nat} {R : va_W} (G T U : HS) (b : Int32) (n : Nat) (hn : G 0 3 = nI n) (hn40 : n ≤ 40) (nf : Nat) (hnf : G 0 1 = nI nf) (hnf6 : nf ≤ 6) (hF : okF G) (hZ : ∀ f_, f_ < 6 → G 2 f_ = 0 ∨ G 2 f_ = 1) (hunb : ∀ i_, i_ < 121 → okB (mUn (thr G 0) T i_ 5) ∧ okL (mUn (thr G 0) T i_)) : MM l yX6_minutesUntilChute cX6_minutesUntilChute 2 (some FieldType.int) rmX6_minutesUntilChute D k (gw k g (t 0) (u 0) G ++ (tw k t T ++ (tw k u U ++ R))) [.ref (g 0), .int b] (some (.int (qminutesUntilChute_r G T U b n nf))) (gw k g (t 0) (u 0) (qminutesUntilChute_g G T U b n nf) ++ (tw k t T ++ (tw k u (qminutesUntilChute_u G T U b n nf) ++ R))) := by
  refine MM_of rfl (Nat.le_of_ble_eq_true rfl) ?_
  intro p e s m below meth c hC hr hlk hin hE hP hD hS ls hl
  have hC : CallFix p m c cX6_minutesUntilChute 2 s _ lw_all RX6 := hC
  have hx := hC.1
  have hb := hC.2.1
  have hown : s.vm.findClass RX6 = some m.cls := hC.2.2.2.1
  have hts := hC.2.2.2.2
  have hl : lv_has ls 2 [(0, .ref (g 0)), (1, .int b)] := hl
  refine lv_aload_n hx hb dX6_minutesUntilChute_0 rfl (lv_at hl 0 rfl) ?_
  refine lv_iconst (v := 0) hx hb dX6_minutesUntilChute_1 (by decide) ?_
  refine va_put (D := D) (ci := 6) (v := .int 0) (ty := .int) (C := RX6) (T := TX6) (N := 13) hx hb hts tu_6 tyX6 tyX6_ok nmX6 hown hE.1 hP hD hS 0 gw_0 rfl 0 (by decide) (hts _ tw_785) (fun _ h9 => h9) rfl (by decide +kernel) rfl rfl (Nat.le_of_ble_eq_true rfl) dX6_minutesUntilChute_2 (fun H locs hP hD hS => ?_)
  rw [gwp_t (G := G) (v := 0)] at hP hD
  refine lv_aload_n hx hb dX6_minutesUntilChute_5 rfl (lv_at hl 0 rfl) ?_
  refine lv_iload_n hx hb dX6_minutesUntilChute_6 rfl (lv_at hl 1 rfl) ?_
  refine c_pVi (rest := []) hC hE hP (metX6_isBag l (thr G 0) T b) gc_RX6_128 hd_X6_isBag ⟨rfl, rfl⟩ ⟨Nat.le_of_ble_eq_true rfl, Nat.le_of_ble_eq_true rfl⟩ 0 gw_0 rfl rfl hl.1 (Nat.le_of_ble_eq_true rfl) ⟨Nat.le_of_ble_eq_true rfl, Nat.le_of_ble_eq_true rfl⟩ dX6_minutesUntilChute_7 ?_
  refine w_top (congrArg (fun z_ => bI (mIn b 0 (z_ - 1))) (show _ = nI n from hn)) ?_
  refine lv_if_eq (tgt := 21) hx hb dX6_minutesUntilChute_10 (by decide) (fun c_1 => ?_) (fun c_1 => ?_)
  · have c_1 := bI_0 c_1
    refine lv_aload_n hx hb dX6_minutesUntilChute_21 rfl (lv_at hl 0 rfl) ?_
    refine lv_iconst (v := 1) hx hb dX6_minutesUntilChute_22 (by decide) ?_
    refine c_mVi (rest := []) hC hE hP hD hS mt_same (metX6_no l (thr G 0) T 1) gc_RX6_110 hd_X6_no ⟨rfl, rfl⟩ ⟨Nat.le_of_ble_eq_true rfl, Nat.le_of_ble_eq_true rfl⟩ 0 gw_0 rfl rfl hl.1 (Nat.le_of_ble_eq_true rfl) ⟨Nat.le_of_ble_eq_true rfl, Nat.le_of_ble_eq_true rfl⟩ dX6_minutesUntilChute_23 (fun H locs hP hD hS => ?_)
    have e9 : qminutesUntilChute_g G T U b n nf = thr (thr G 0) 1 := by rw [qminutesUntilChute_g, sel_f (show ¬ (mIn b 0 (nI n - 1)) from c_1)]; first | done | rfl
    have e7 : qminutesUntilChute_u G T U b n nf = U := by rw [qminutesUntilChute_u, sel_f (show ¬ (mIn b 0 (nI n - 1)) from c_1)]; first | done | rfl
    exact m_iret hx hb hr hlk dX6_minutesUntilChute_26 (by rw [e9, e7]; exact hP) hS (by rw [qminutesUntilChute_r, sel_f (show ¬ (mIn b 0 (nI n - 1)) from c_1)]; first | done | rfl)
  · have c_1 := bI_n c_1
    have hx_b := mIn_n hn40 c_1
    have hl : lv_has ls 2 [(0, .ref (g 0)), (1, .int (nI (ix b)))] := by rw [← hx_b.1]; exact hl
    refine lv_aload_n hx hb dX6_minutesUntilChute_13 rfl (lv_at hl 0 rfl) ?_
    refine lv_iload_n hx hb dX6_minutesUntilChute_14 rfl (lv_at hl 1 rfl) ?_
    refine c_mVi (rest := []) hC hE hP hD hS mu_same (metX6_untilChute l (thr G 0) T U (ix b) (Nat.lt_of_lt_of_le hx_b.2 hn40) hF hunb) gc_RX6_174 hd_X6_untilChute ⟨rfl, rfl⟩ ⟨Nat.le_of_ble_eq_true rfl, Nat.le_of_ble_eq_true rfl⟩ 0 gw_0 rfl rfl hl.1 (Nat.le_of_ble_eq_true rfl) ⟨Nat.le_of_ble_eq_true rfl, Nat.le_of_ble_eq_true rfl⟩ dX6_minutesUntilChute_15 (fun H locs hP hD hS => ?_)
    refine lv_goto (tgt := 26) hx hb dX6_minutesUntilChute_18 (by decide) ?_
    have e9 : qminutesUntilChute_g G T U b n nf = thr G 0 := by rw [qminutesUntilChute_g, sel_t (show mIn b 0 (nI n - 1) from c_1)]; first | done | rfl
    have e7 : qminutesUntilChute_u G T U b n nf = mUn (thr G 0) T (mUnN (thr G 0) T (ix b)) := by rw [qminutesUntilChute_u, sel_t (show mIn b 0 (nI n - 1) from c_1)]; first | done | rfl
    exact m_iret hx hb hr hlk dX6_minutesUntilChute_26 (by rw [e9, e7]; exact hP) hS (by rw [qminutesUntilChute_r, sel_t (show mIn b 0 (nI n - 1) from c_1)]; first | done | rfl)

set_option maxHeartbeats 4000000 in
set_option maxRecDepth 100000 in
theorem metX6_readyAfter (l : Launch) {D : va_G} {k : Nat → ClassId} {g t u : Nat → Nat} {R : va_W} (G T U : HS) (f : Int32) (z : Int32) (n : Nat) (hn : G 0 3 = nI n) (hn40 : n ≤ 40) (nf : Nat) (hnf : G 0 1 = nI nf) (hnf6 : nf ≤ 6) (hF : okF G) (hZ : ∀ f_, f_ < 6 → G 2 f_ = 0 ∨ G 2 f_ = 1) (hgz : mIn z 1 60 → ∀ i, i < ix z → okB ((mGo (thr G 0) T i).2 5) ∧ okL (mGo (thr G 0) T i).2) : MM l yX6_readyAfter cX6_readyAfter 3 (some FieldType.int) rmX6_readyAfter D k (gw k g (t 0) (u 0) G ++ (tw k t T ++ (tw k u U ++ R))) [.ref (g 0), .int f, .int z] (some (.int (qreadyAfter_r G T U f z n nf))) (gw k g (t 0) (u 0) (qreadyAfter_g G T U f z n nf) ++ (tw k t T ++ (tw k u (qreadyAfter_u G T U f z n nf) ++ R))) := by
  refine MM_of rfl (Nat.le_of_ble_eq_true rfl) ?_
  intro p e s m below meth c hC hr hlk hin hE hP hD hS ls hl
  have hC : CallFix p m c cX6_readyAfter 3 s _ lw_all RX6 := hC
  have hx := hC.1
  have hb := hC.2.1
  have hown : s.vm.findClass RX6 = some m.cls := hC.2.2.2.1
  have hts := hC.2.2.2.2
  have hl : lv_has ls 3 [(0, .ref (g 0)), (1, .int f), (2, .int z)] := hl
  refine lv_aload_n hx hb dX6_readyAfter_0 rfl (lv_at hl 0 rfl) ?_
  refine lv_iconst (v := 0) hx hb dX6_readyAfter_1 (by decide) ?_
  refine va_put (D := D) (ci := 6) (v := .int 0) (ty := .int) (C := RX6) (T := TX6) (N := 13) hx hb hts tu_6 tyX6 tyX6_ok nmX6 hown hE.1 hP hD hS 0 gw_0 rfl 0 (by decide) (hts _ tw_785) (fun _ h9 => h9) rfl (by decide +kernel) rfl rfl (Nat.le_of_ble_eq_true rfl) dX6_readyAfter_2 (fun H locs hP hD hS => ?_)
  rw [gwp_t (G := G) (v := 0)] at hP hD
  refine lv_aload_n hx hb dX6_readyAfter_5 rfl (lv_at hl 0 rfl) ?_
  refine lv_iload_n hx hb dX6_readyAfter_6 rfl (lv_at hl 1 rfl) ?_
  refine c_pVi (rest := []) hC hE hP (metX6_isFlight l (thr G 0) T f) gc_RX6_114 hd_X6_isFlight ⟨rfl, rfl⟩ ⟨Nat.le_of_ble_eq_true rfl, Nat.le_of_ble_eq_true rfl⟩ 0 gw_0 rfl rfl hl.1 (Nat.le_of_ble_eq_true rfl) ⟨Nat.le_of_ble_eq_true rfl, Nat.le_of_ble_eq_true rfl⟩ dX6_readyAfter_7 ?_
  refine w_top (congrArg (fun z_ => bI (mIn f 0 (z_ - 1))) (show _ = nI nf from hnf)) ?_
  refine lv_if_ne (tgt := 19) hx hb dX6_readyAfter_10 (by decide) (fun c_1 => ?_) (fun c_1 => ?_)
  · have c_1 := bI_n c_1
    have hx_f := mIn_n (Nat.le_trans hnf6 (by decide)) c_1
    have hl : lv_has ls 3 [(0, .ref (g 0)), (1, .int (nI (ix f))), (2, .int z)] := by rw [← hx_f.1]; exact hl
    refine lv_iload_n hx hb dX6_readyAfter_19 rfl (lv_at hl 2 rfl) ?_
    refine lv_iconst (v := 1) hx hb dX6_readyAfter_20 (by decide) ?_
    refine lv_bipush (v := 60) hx hb dX6_readyAfter_21 (by decide) ?_
    refine c_pSi (rest := []) hC hE hP (metX6_isIn l z 1 60) gc_RX6_52 hd_X6_isIn ⟨rfl, rfl⟩ ⟨Nat.le_of_ble_eq_true rfl, Nat.le_of_ble_eq_true rfl⟩ rfl hl.1 (Nat.le_of_ble_eq_true rfl) ⟨Nat.le_of_ble_eq_true rfl, Nat.le_of_ble_eq_true rfl⟩ dX6_readyAfter_23 ?_
    refine lv_if_eq (tgt := 38) hx hb dX6_readyAfter_26 (by decide) (fun c_2 => ?_) (fun c_2 => ?_)
    · have c_2 := bI_0 c_2
      refine lv_aload_n hx hb dX6_readyAfter_38 rfl (lv_at hl 0 rfl) ?_
      refine lv_iconst (v := 2) hx hb dX6_readyAfter_39 (by decide) ?_
      refine c_mVi (rest := []) hC hE hP hD hS mt_same (metX6_no l (thr G 0) T 2) gc_RX6_110 hd_X6_no ⟨rfl, rfl⟩ ⟨Nat.le_of_ble_eq_true rfl, Nat.le_of_ble_eq_true rfl⟩ 0 gw_0 rfl rfl hl.1 (Nat.le_of_ble_eq_true rfl) ⟨Nat.le_of_ble_eq_true rfl, Nat.le_of_ble_eq_true rfl⟩ dX6_readyAfter_40 (fun H locs hP hD hS => ?_)
      have e9 : qreadyAfter_g G T U f z n nf = thr (thr G 0) 2 := by rw [qreadyAfter_g, sel_t (show mIn f 0 (nI nf - 1) from c_1), sel_f (show ¬ (mIn z 1 60) from c_2)]; first | done | rfl
      have e7 : qreadyAfter_u G T U f z n nf = U := by rw [qreadyAfter_u, sel_t (show mIn f 0 (nI nf - 1) from c_1), sel_f (show ¬ (mIn z 1 60) from c_2)]; first | done | rfl
      exact m_iret hx hb hr hlk dX6_readyAfter_43 (by rw [e9, e7]; exact hP) hS (by rw [qreadyAfter_r, sel_t (show mIn f 0 (nI nf - 1) from c_1), sel_f (show ¬ (mIn z 1 60) from c_2)]; first | done | rfl)
    · have c_2 := bI_n c_2
      have hx_z := mIn_1 c_2
      have hl : lv_has ls 3 [(0, .ref (g 0)), (1, .int (nI (ix f))), (2, .int (nI (ix z)))] := by rw [← hx_z.1]; exact hl
      refine lv_aload_n hx hb dX6_readyAfter_29 rfl (lv_at hl 0 rfl) ?_
      refine lv_iload_n hx hb dX6_readyAfter_30 rfl (lv_at hl 1 rfl) ?_
      refine lv_iload_n hx hb dX6_readyAfter_31 rfl (lv_at hl 2 rfl) ?_
      refine c_mVi (rest := []) hC hE hP hD hS mu_same (metX6_readyBehind l (thr G 0) T U (ix f) (ix z) n hn hn40 (Nat.lt_of_lt_of_le hx_f.2 hnf6) (Nat.lt_of_le_of_lt hx_z.2 (by decide)) hF (hgz c_2)) gc_RX6_177 hd_X6_readyBehind ⟨rfl, rfl⟩ ⟨Nat.le_of_ble_eq_true rfl, Nat.le_of_ble_eq_true rfl⟩ 0 gw_0 rfl rfl hl.1 (Nat.le_of_ble_eq_true rfl) ⟨Nat.le_of_ble_eq_true rfl, Nat.le_of_ble_eq_true rfl⟩ dX6_readyAfter_32 (fun H locs hP hD hS => ?_)
      refine lv_goto (tgt := 43) hx hb dX6_readyAfter_35 (by decide) ?_
      have e9 : qreadyAfter_g G T U f z n nf = thr G 0 := by rw [qreadyAfter_g, sel_t (show mIn f 0 (nI nf - 1) from c_1), sel_t (show mIn z 1 60 from c_2)]; first | done | rfl
      have e7 : qreadyAfter_u G T U f z n nf = (mGo (thr G 0) T (ix z)).2 := by rw [qreadyAfter_u, sel_t (show mIn f 0 (nI nf - 1) from c_1), sel_t (show mIn z 1 60 from c_2)]; first | done | rfl
      exact m_iret hx hb hr hlk dX6_readyAfter_43 (by rw [e9, e7]; exact hP) hS (by rw [qreadyAfter_r, sel_t (show mIn f 0 (nI nf - 1) from c_1), sel_t (show mIn z 1 60 from c_2)]; first | done | rfl)
  · have c_1 := bI_0 c_1
    refine lv_aload_n hx hb dX6_readyAfter_13 rfl (lv_at hl 0 rfl) ?_
    refine lv_iconst (v := 1) hx hb dX6_readyAfter_14 (by decide) ?_
    refine c_mVi (rest := []) hC hE hP hD hS mt_same (metX6_no l (thr G 0) T 1) gc_RX6_110 hd_X6_no ⟨rfl, rfl⟩ ⟨Nat.le_of_ble_eq_true rfl, Nat.le_of_ble_eq_true rfl⟩ 0 gw_0 rfl rfl hl.1 (Nat.le_of_ble_eq_true rfl) ⟨Nat.le_of_ble_eq_true rfl, Nat.le_of_ble_eq_true rfl⟩ dX6_readyAfter_15 (fun H locs hP hD hS => ?_)
    have e9 : qreadyAfter_g G T U f z n nf = thr (thr G 0) 1 := by rw [qreadyAfter_g, sel_f (show ¬ (mIn f 0 (nI nf - 1)) from c_1)]; first | done | rfl
    have e7 : qreadyAfter_u G T U f z n nf = U := by rw [qreadyAfter_u, sel_f (show ¬ (mIn f 0 (nI nf - 1)) from c_1)]; first | done | rfl
    exact m_iret hx hb hr hlk dX6_readyAfter_18 (by rw [e9, e7]; exact hP) hS (by rw [qreadyAfter_r, sel_f (show ¬ (mIn f 0 (nI nf - 1)) from c_1)]; first | done | rfl)

set_option maxHeartbeats 4000000 in
set_option maxRecDepth 100000 in
theorem metX6_bestChute (l : Launch) {D : va_G} {k : Nat → ClassId} {g t u : Nat → Nat} {R : va_W} (G T U : HS) (f : Int32) (z : Int32) (n : Nat) (hn : G 0 3 = nI n) (hn40 : n ≤ 40) (nf : Nat) (hnf : G 0 1 = nI nf) (hnf6 : nf ≤ 6) (hF : okF G) (hZ : ∀ f_, f_ < 6 → G 2 f_ = 0 ∨ G 2 f_ = 1) (hgsz : mIn z 1 60 → ∀ c_, c_ < 4 → ∀ i_, i_ < ix z → okB ((mGo (mSetC (thr G 0) (ix f) c_) T i_).2 5) ∧ okL (mGo (mSetC (thr G 0) (ix f) c_) T i_).2) : MM l yX6_bestChute cX6_bestChute 3 (some FieldType.int) rmX6_bestChute D k (gw k g (t 0) (u 0) G ++ (tw k t T ++ (tw k u U ++ R))) [.ref (g 0), .int f, .int z] (some (.int (qbestChute_r G T U f z n nf))) (gw k g (t 0) (u 0) (qbestChute_g G T U f z n nf) ++ (tw k t T ++ (tw k u (qbestChute_u G T U f z n nf) ++ R))) := by
  refine MM_of rfl (Nat.le_of_ble_eq_true rfl) ?_
  intro p e s m below meth c hC hr hlk hin hE hP hD hS ls hl
  have hC : CallFix p m c cX6_bestChute 3 s _ lw_all RX6 := hC
  have hx := hC.1
  have hb := hC.2.1
  have hown : s.vm.findClass RX6 = some m.cls := hC.2.2.2.1
  have hts := hC.2.2.2.2
  have hl : lv_has ls 3 [(0, .ref (g 0)), (1, .int f), (2, .int z)] := hl
  refine lv_aload_n hx hb dX6_bestChute_0 rfl (lv_at hl 0 rfl) ?_
  refine lv_iconst (v := 0) hx hb dX6_bestChute_1 (by decide) ?_
  refine va_put (D := D) (ci := 6) (v := .int 0) (ty := .int) (C := RX6) (T := TX6) (N := 13) hx hb hts tu_6 tyX6 tyX6_ok nmX6 hown hE.1 hP hD hS 0 gw_0 rfl 0 (by decide) (hts _ tw_785) (fun _ h9 => h9) rfl (by decide +kernel) rfl rfl (Nat.le_of_ble_eq_true rfl) dX6_bestChute_2 (fun H locs hP hD hS => ?_)
  rw [gwp_t (G := G) (v := 0)] at hP hD
  refine lv_aload_n hx hb dX6_bestChute_5 rfl (lv_at hl 0 rfl) ?_
  refine lv_iload_n hx hb dX6_bestChute_6 rfl (lv_at hl 1 rfl) ?_
  refine c_pVi (rest := []) hC hE hP (metX6_isFlight l (thr G 0) T f) gc_RX6_114 hd_X6_isFlight ⟨rfl, rfl⟩ ⟨Nat.le_of_ble_eq_true rfl, Nat.le_of_ble_eq_true rfl⟩ 0 gw_0 rfl rfl hl.1 (Nat.le_of_ble_eq_true rfl) ⟨Nat.le_of_ble_eq_true rfl, Nat.le_of_ble_eq_true rfl⟩ dX6_bestChute_7 ?_
  refine w_top (congrArg (fun z_ => bI (mIn f 0 (z_ - 1))) (show _ = nI nf from hnf)) ?_
  refine lv_if_ne (tgt := 19) hx hb dX6_bestChute_10 (by decide) (fun c_1 => ?_) (fun c_1 => ?_)
  · have c_1 := bI_n c_1
    have hx_f := mIn_n (Nat.le_trans hnf6 (by decide)) c_1
    have hl : lv_has ls 3 [(0, .ref (g 0)), (1, .int (nI (ix f))), (2, .int z)] := by rw [← hx_f.1]; exact hl
    refine lv_iload_n hx hb dX6_bestChute_19 rfl (lv_at hl 2 rfl) ?_
    refine lv_iconst (v := 1) hx hb dX6_bestChute_20 (by decide) ?_
    refine lv_bipush (v := 60) hx hb dX6_bestChute_21 (by decide) ?_
    refine c_pSi (rest := []) hC hE hP (metX6_isIn l z 1 60) gc_RX6_52 hd_X6_isIn ⟨rfl, rfl⟩ ⟨Nat.le_of_ble_eq_true rfl, Nat.le_of_ble_eq_true rfl⟩ rfl hl.1 (Nat.le_of_ble_eq_true rfl) ⟨Nat.le_of_ble_eq_true rfl, Nat.le_of_ble_eq_true rfl⟩ dX6_bestChute_23 ?_
    refine lv_if_ne (tgt := 35) hx hb dX6_bestChute_26 (by decide) (fun c_2 => ?_) (fun c_2 => ?_)
    · have c_2 := bI_n c_2
      have hx_z := mIn_1 c_2
      have hl : lv_has ls 3 [(0, .ref (g 0)), (1, .int (nI (ix f))), (2, .int (nI (ix z)))] := by rw [← hx_z.1]; exact hl
      refine lv_aload_n hx hb dX6_bestChute_35 rfl (lv_at hl 0 rfl) ?_
      refine va_get (D := D) (ci := 6) (v := .ref (g 2)) (C := RX6) (T := TX6) (N := 13) hx hb hts tu_6 hown hE.1 hP 0 gw_0 rfl 3 (by decide) (hts _ tw_788) (fun _ h9 => h9) rfl dX6_bestChute_36 ?_
      refine lv_iload_n hx hb dX6_bestChute_39 rfl (lv_at hl 1 rfl) ?_
      refine k_zald (j := (ix f)) hx hb hE hP 2 gw_2 (Nat.lt_of_lt_of_le hx_f.2 hnf6) (by decide) dX6_bestChute_40 ?_
      refine lv_if_eq (tgt := 52) hx hb dX6_bestChute_41 (by decide) (fun c_3 => ?_) (fun c_3 => ?_)
      · refine lv_aload_n hx hb dX6_bestChute_52 rfl (lv_at hl 0 rfl) ?_
        refine lv_iload_n hx hb dX6_bestChute_53 rfl (lv_at hl 1 rfl) ?_
        refine lv_iload_n hx hb dX6_bestChute_54 rfl (lv_at hl 2 rfl) ?_
        refine c_mVi (rest := []) hC hE hP hD hS mu_same (metX6_best l (thr G 0) T U (ix f) (ix z) n hn hn40 (Nat.lt_of_lt_of_le hx_f.2 hnf6) (Nat.lt_of_le_of_lt hx_z.2 (by decide)) hF (hgsz c_2)) gc_RX6_180 hd_X6_best ⟨rfl, rfl⟩ ⟨Nat.le_of_ble_eq_true rfl, Nat.le_of_ble_eq_true rfl⟩ 0 gw_0 rfl rfl hl.1 (Nat.le_of_ble_eq_true rfl) ⟨Nat.le_of_ble_eq_true rfl, Nat.le_of_ble_eq_true rfl⟩ dX6_bestChute_55 (fun H locs hP hD hS => ?_)
        have e9 : qbestChute_g G T U f z n nf = thr G 0 := by rw [qbestChute_g, sel_t (show mIn f 0 (nI nf - 1) from c_1), sel_t (show mIn z 1 60 from c_2), sel_t (show G 2 (ix f) = 0 from c_3)]; first | done | rfl
        have e7 : qbestChute_u G T U f z n nf = bsU (thr G 0) T U (ix f) (ix z) 4 := by rw [qbestChute_u, sel_t (show mIn f 0 (nI nf - 1) from c_1), sel_t (show mIn z 1 60 from c_2), sel_t (show G 2 (ix f) = 0 from c_3)]; first | done | rfl
        exact m_iret hx hb hr hlk dX6_bestChute_58 (by rw [e9, e7]; exact hP) hS (by rw [qbestChute_r, sel_t (show mIn f 0 (nI nf - 1) from c_1), sel_t (show mIn z 1 60 from c_2), sel_t (show G 2 (ix f) = 0 from c_3)]; first | done | rfl)
      · refine lv_aload_n hx hb dX6_bestChute_44 rfl (lv_at hl 0 rfl) ?_
        refine lv_iconst (v := 3) hx hb dX6_bestChute_45 (by decide) ?_
        refine c_mVi (rest := []) hC hE hP hD hS mt_same (metX6_no l (thr G 0) T 3) gc_RX6_110 hd_X6_no ⟨rfl, rfl⟩ ⟨Nat.le_of_ble_eq_true rfl, Nat.le_of_ble_eq_true rfl⟩ 0 gw_0 rfl rfl hl.1 (Nat.le_of_ble_eq_true rfl) ⟨Nat.le_of_ble_eq_true rfl, Nat.le_of_ble_eq_true rfl⟩ dX6_bestChute_46 (fun H locs hP hD hS => ?_)
        refine lv_goto (tgt := 58) hx hb dX6_bestChute_49 (by decide) ?_
        have e9 : qbestChute_g G T U f z n nf = thr (thr G 0) 3 := by rw [qbestChute_g, sel_t (show mIn f 0 (nI nf - 1) from c_1), sel_t (show mIn z 1 60 from c_2), sel_f (show ¬ (G 2 (ix f) = 0) from c_3)]; first | done | rfl
        have e7 : qbestChute_u G T U f z n nf = U := by rw [qbestChute_u, sel_t (show mIn f 0 (nI nf - 1) from c_1), sel_t (show mIn z 1 60 from c_2), sel_f (show ¬ (G 2 (ix f) = 0) from c_3)]; first | done | rfl
        exact m_iret hx hb hr hlk dX6_bestChute_58 (by rw [e9, e7]; exact hP) hS (by rw [qbestChute_r, sel_t (show mIn f 0 (nI nf - 1) from c_1), sel_t (show mIn z 1 60 from c_2), sel_f (show ¬ (G 2 (ix f) = 0) from c_3)]; first | done | rfl)
    · have c_2 := bI_0 c_2
      refine lv_aload_n hx hb dX6_bestChute_29 rfl (lv_at hl 0 rfl) ?_
      refine lv_iconst (v := 2) hx hb dX6_bestChute_30 (by decide) ?_
      refine c_mVi (rest := []) hC hE hP hD hS mt_same (metX6_no l (thr G 0) T 2) gc_RX6_110 hd_X6_no ⟨rfl, rfl⟩ ⟨Nat.le_of_ble_eq_true rfl, Nat.le_of_ble_eq_true rfl⟩ 0 gw_0 rfl rfl hl.1 (Nat.le_of_ble_eq_true rfl) ⟨Nat.le_of_ble_eq_true rfl, Nat.le_of_ble_eq_true rfl⟩ dX6_bestChute_31 (fun H locs hP hD hS => ?_)
      have e9 : qbestChute_g G T U f z n nf = thr (thr G 0) 2 := by rw [qbestChute_g, sel_t (show mIn f 0 (nI nf - 1) from c_1), sel_f (show ¬ (mIn z 1 60) from c_2)]; first | done | rfl
      have e7 : qbestChute_u G T U f z n nf = U := by rw [qbestChute_u, sel_t (show mIn f 0 (nI nf - 1) from c_1), sel_f (show ¬ (mIn z 1 60) from c_2)]; first | done | rfl
      exact m_iret hx hb hr hlk dX6_bestChute_34 (by rw [e9, e7]; exact hP) hS (by rw [qbestChute_r, sel_t (show mIn f 0 (nI nf - 1) from c_1), sel_f (show ¬ (mIn z 1 60) from c_2)]; first | done | rfl)
  · have c_1 := bI_0 c_1
    refine lv_aload_n hx hb dX6_bestChute_13 rfl (lv_at hl 0 rfl) ?_
    refine lv_iconst (v := 1) hx hb dX6_bestChute_14 (by decide) ?_
    refine c_mVi (rest := []) hC hE hP hD hS mt_same (metX6_no l (thr G 0) T 1) gc_RX6_110 hd_X6_no ⟨rfl, rfl⟩ ⟨Nat.le_of_ble_eq_true rfl, Nat.le_of_ble_eq_true rfl⟩ 0 gw_0 rfl rfl hl.1 (Nat.le_of_ble_eq_true rfl) ⟨Nat.le_of_ble_eq_true rfl, Nat.le_of_ble_eq_true rfl⟩ dX6_bestChute_15 (fun H locs hP hD hS => ?_)
    have e9 : qbestChute_g G T U f z n nf = thr (thr G 0) 1 := by rw [qbestChute_g, sel_f (show ¬ (mIn f 0 (nI nf - 1)) from c_1)]; first | done | rfl
    have e7 : qbestChute_u G T U f z n nf = U := by rw [qbestChute_u, sel_f (show ¬ (mIn f 0 (nI nf - 1)) from c_1)]; first | done | rfl
    exact m_iret hx hb hr hlk dX6_bestChute_18 (by rw [e9, e7]; exact hP) hS (by rw [qbestChute_r, sel_f (show ¬ (mIn f 0 (nI nf - 1)) from c_1)]; first | done | rfl)

