/-! the hand's minute -/
noncomputable def turnC (T : HS) (i : Nat) : Nat → Int32 := fun b => sel (b < i ∧ T 1 b = 1) ((T 2 b + 1) % 12) (T 2 b)
noncomputable def turnG (T : HS) (i : Nat) : HS := sf T 2 (turnC T i)
theorem turnC_ge {T : HS} {i b : Nat} (h : i ≤ b) : turnC T i b = T 2 b := sel_f (fun z => absurd z.1 (by omega)) _ _
theorem turnG_0 (T : HS) : turnG T 0 = T := by
  have e : turnC T 0 = T 2 := funext fun b => turnC_ge (Nat.zero_le b)
  unfold turnG
  rw [e]
  exact sf_self T 2
theorem turnG_s0 {T : HS} {i : Nat} (h : ¬ T 1 i = 1) : turnG T (i + 1) = turnG T i := by
  unfold turnG
  congr 1
  funext b
  unfold turnC
  by_cases e : b < i ∧ T 1 b = 1
  · rw [sel_t e, sel_t ⟨by omega, e.2⟩]
  · rw [sel_f e, sel_f (fun z => e ⟨by
      rcases Nat.lt_or_ge b i with q | q
      · exact q
      · exact absurd z.2 (by rw [show b = i by omega]; exact h), z.2⟩)]
theorem turnG_s1 {T : HS} {i : Nat} (h : T 1 i = 1) : turnG T (i + 1) = sf (turnG T i) 2 (upd (turnC T i) i ((T 2 i + 1) % 12)) := by
  funext j
  unfold turnG sf
  by_cases e : j = 2
  · rw [if_pos e, if_pos e]
    funext b
    simp only [turnC, upd]
    by_cases e2 : b = i
    · rw [if_pos e2, e2, sel_t ⟨Nat.lt_succ_self i, h⟩]
    · rw [if_neg e2]
      by_cases e3 : b < i ∧ T 1 b = 1
      · rw [sel_t e3, sel_t ⟨by omega, e3.2⟩]
      · rw [sel_f e3, sel_f (fun z => e3 ⟨by omega, z.2⟩)]
  · rw [if_neg e, if_neg e, if_neg e]
theorem turn_w {k : Nat → ClassId} {a tr o fa ba : Nat → Nat} {x : Nat} {S U G T : HS} {n nf L : Nat} {R : va_W} {S0 : HS} (hrb : RB S0 T n) : LW k a tr o fa ba x S U G (mTrn T) n nf L R = LW k a tr o fa ba x S U G (turnG T n) n nf L R := by
  refine lw_cong (fun b h => funext fun j => ?_) (fun _ _ => rfl) rfl
  have e : mTrn T 2 b = turnC T n b := by
    by_cases q : T 1 b = 1
    · rw [turn_on hrb h q]
      exact (sel_t ⟨h, q⟩ _ _).symm
    · rw [turn_off hrb h q]
      exact (sel_f (fun z => q z.2) _ _).symm
  match j with
  | 0 => rfl
  | 1 => rfl
  | 2 => rfl
  | 3 => rfl
  | 4 => exact e
  | 5 => rfl
  | 6 => rfl
  | _ + 7 => rfl
theorem mSl_no {G T : HS} {i : Nat} (h : ¬ mSlP G (mSl G T i).2 i) : mSl G T (i + 1) = mSl G T i := by
  show ((mSl G T i).1 + bN (mSlP G (mSl G T i).2 i), mSlT G (mSl G T i).2 i) = mSl G T i
  unfold mSlT
  rw [bN_f h, sel_f h]
  rfl
theorem mSl_yes {G T : HS} {i b : Nat} (h : mSlP G (mSl G T i).2 i) (e : ix ((mSl G T i).2 5 (4 + 2 * i)) = b) : mSl G T (i + 1) = ((mSl G T i).1 + 1, mToCh (sf (mSl G T i).2 5 (upd ((mSl G T i).2 5) (4 + 2 * i) (-1))) b i) := by
  show ((mSl G T i).1 + bN (mSlP G (mSl G T i).2 i), mSlT G (mSl G T i).2 i) = _
  unfold mSlT
  rw [bN_t h, sel_t h, e]
theorem lw_ch {k : Nat → ClassId} {a tr o fa ba : Nat → Nat} {x : Nat} {S U G T : HS} {n nf L : Nat} {R : va_W} {f : Nat → Int32} {b c : Nat} : LW k a tr o fa ba x S U G (mToCh (sf T 5 f) b c) n nf L R = LW k a tr o fa ba x S U G (mPutB T b 2 (nI c)) n nf L R := rfl
theorem tag_no1 {G V : HS} (q : V 5 2 = -1) : mTag G V = V := sel_t q _ _
theorem tag_no2 {G V : HS} {b : Nat} (q : ¬ V 5 2 = -1) (e : ix (V 5 2) = b) (h : ¬ V 3 b = -1) : mTag G V = V := by
  unfold mTag
  rw [sel_f q, e, sel_f h]
theorem tag_rd {G V : HS} {b f : Nat} (q : ¬ V 5 2 = -1) (e : ix (V 5 2) = b) (h : V 3 b = -1) (ef : ix (G 4 b) = f) (h1 : ¬ G 0 2 < G 6 b) (h2 : ¬ G 1 f = -1) : mTag G V = sf V 3 (upd (V 3) b (G 1 f)) := by
  unfold mTag
  rw [sel_f q, e, sel_t h, ef, sel_t ⟨h1, h2⟩]
theorem tag_ms {G V : HS} {b f : Nat} (q : ¬ V 5 2 = -1) (e : ix (V 5 2) = b) (h : V 3 b = -1) (ef : ix (G 4 b) = f) (h1 : ¬ (¬ G 0 2 < G 6 b ∧ ¬ G 1 f = -1)) : mTag G V = mMiss V b := by
  unfold mTag
  rw [sel_f q, e, sel_t h, ef, sel_f h1]
theorem feed_no {V : HS} (h : ¬ (V 5 0 = -1 ∧ 0 < V 0 1)) : mFeed V = V := sel_f h _ _
theorem lw_ms3 {k : Nat → ClassId} {a tr o fa ba : Nat → Nat} {x : Nat} {S U G T : HS} {n nf L : Nat} {R : va_W} {b : Nat} (h : 3 ≤ T 4 b + 1) : LW k a tr o fa ba x S U G (mMiss T b) n nf L R = LW k a tr o fa ba x S U G (mPutB (sf T 4 (upd (T 4) b (T 4 b + 1))) b 3 (-1)) n nf L R := by
  unfold mMiss
  rw [sel_t h]
  rfl
theorem ms_le {V : HS} {b : Nat} (h : ¬ 3 ≤ V 4 b + 1) : mMiss V b = sf V 4 (upd (V 4) b (V 4 b + 1)) := sel_f h _ _
section WCUT
variable {p : Program} {l : Launch} {e : Env} {R : Room} {s : State} {m : MethodId} {args : Array Value} {below : List Frame} {meth : Method} {c : Code} {H : Heap} {locs : List Loc} {cells slots : Nat} {Q : State → Prop} {g : JFrame}
/-- ways that meet -/
theorem w_cut (pc9 : Nat) (st9 : List Value) (c9 s9 : Nat) (I : Array Slot → Heap → List Loc → Prop) (k9 : ∀ ls H locs, I ls H locs → W p l e R s m args below meth c H locs c9 s9 Q (F0 m pc9 ls st9)) (f : (∀ ls H locs, I ls H locs → W p l e R s m args below meth c H locs c9 s9 Q (F0 m pc9 ls st9)) → W p l e R s m args below meth c H locs cells slots Q g) : W p l e R s m args below meth c H locs cells slots Q g := f k9
end WCUT

set_option maxHeartbeats 1000000 in
set_option maxRecDepth 100000 in
/-- a minute by hand -/
theorem metX5_go (l : Launch) {D : va_G} {k : Nat → ClassId} {a tr o fa ba : Nat → Nat} {x : Nat} {S U S0 : HS} {R : va_W} (G T : HS) {n nf L : Nat} {sz : Nat} (hra : RA S0 G n nf) (hrb : RB S0 T n) (hti : TI T n) (hLm : L = mL T n) : GM l yX5_go (ws_ yX5_go cX5_go 5 (some FieldType.int)) ({ frames := 1, cells := 1, slots := 40, locals := 26 } : Room) 1 40 D k (LW k a tr o fa ba x S U G T n nf L R) sz [.ref (o 0)] (fun _ => True) (fun v9 w1 => v9 = some (.int (nI (mMin G T).1)) ∧ ∃ o9 : Nat → Nat, o9 0 = o 0 ∧ w1 = LW k a tr o9 fa ba x S U G (mMin G T).2 n nf (mL (mMin G T).2 n) R) := by
  refine GM_of rfl (Nat.le_of_ble_eq_true rfl) ?_
  intro p e s m below meth c A hC hr hlk hE hP hD hA hAe hX hS ls hl
  have hC : CallFix p m c cX5_go 5 s _ lw_all RX5 := hC
  have hx := hC.1
  have hb := hC.2.1
  have hown : s.vm.findClass RX5 = some m.cls := hC.2.2.2.1
  have hts := hC.2.2.2.2
  have hn := hra.n40
  have hnf := hra.nf6
  have hL : L ≤ 40 := by rw [hLm]; exact Nat.le_trans (ct_le _ n) hn
  have hT : T 0 1 = nI L := by rw [hLm]; exact hrb.len
  have hLT : ix (T 0 1) = L := by rw [hT, ix_i (by omega)]
  have hva : RA (xTrn S0) G n nf := RA_same hra rfl rfl rfl rfl rfl rfl rfl rfl rfl rfl
  have hvb := turn_rb hrb
  have hvt := turn_ti hti
  obtain ⟨V, hV⟩ : ∃ V, V = mTrn T := ⟨_, rfl⟩
  rw [← hV] at hvb hvt
  have h2a := tag_ra hva
  have h2b := tag_rb hva hvb
  obtain ⟨V2, hV2⟩ : ∃ V2, V2 = mTag G V := ⟨_, rfl⟩
  rw [← hV2] at h2b
  have hl : lv_has ls 5 [(0, .ref (o 0))] := hl
  refine lv_aload_n hx hb dX5_go_0 rfl (lv_at hl 0 rfl) ?_
  refine va_get (D := D) (ci := 5) (v := .ref (o 3)) (C := RX5) (T := TX5) (N := 6) hx hb hts tu_5 hown hE.1 hP 59 lw_59 rfl 4 (by decide) (hts _ tw_739) (fun _ h9 => h9) rfl dX5_go_1 ?_
  refine lv_astore_n (lv' := [(1, .ref (o 3)), (0, .ref (o 0))]) hx hb dX5_go_4 rfl hl (by decide) rfl (fun ls hl => ?_)
  refine lv_aload_n hx hb dX5_go_5 rfl (lv_at hl 0 rfl) ?_
  refine k_olen hx hb hE hP 62 lw_62 dX5_go_6 ?_
  refine lv_istore_n (lv' := [(2, .int (nI n)), (1, .ref (o 3)), (0, .ref (o 0))]) hx hb dX5_go_7 rfl hl (by decide) rfl (fun ls hl => ?_)
  refine lv_iconst (v := 0) hx hb dX5_go_8 (by decide) ?_
  refine lv_istore_n (lv' := [(3, .int 0), (2, .int (nI n)), (1, .ref (o 3)), (0, .ref (o 0))]) hx hb dX5_go_9 rfl hl (by decide) rfl (fun ls hl => ?_)
  have hP : va_P D vwCl (LW k a tr o fa ba x S U G (turnG T 0) n nf L R) s.heap := by rw [turnG_0]; exact hP
  have hD : va_D A (LW k a tr o fa ba x S U G (turnG T 0) n nf L R) := by rw [turnG_0]; exact hD
  refine w_forM (D := D) (A := A) (H0 := s.heap) (nL := 5) (N := n) (fun _ => True) (fun i => [(0, .ref (o 0)), (1, .ref (o 3)), (2, .int (nI n)), (3, .int (nI i))]) (fun i => (LW k a tr o fa ba x S U G (turnG T i) n nf L R)) (fun ls H locs hI hl hP hD hS => ?_) (fun i hi hI ih ls H locs hl hP hD hS => ?_) 0 (Nat.zero_le _) trivial ?_ ?_ ?_ ?_
  · have hl : lv_has ls 5 [(0, .ref (o 0)), (1, .ref (o 3)), (2, .int (nI n)), (3, .int (nI n))] := hl
    have hP : va_P D vwCl (LW k a tr o fa ba x S U G (turnG T n) n nf L R) H := hP
    have hD : va_D A (LW k a tr o fa ba x S U G (turnG T n) n nf L R) := hD
    refine lv_iload_n hx hb dX5_go_10 rfl (lv_at hl 3 rfl) ?_
    refine lv_iload_n hx hb dX5_go_11 rfl (lv_at hl 2 rfl) ?_
    refine lv_icmp_ge (tgt := 47) hx hb dX5_go_12 (by decide) (fun c_1 => ?_) (fun c_ => absurd (nI_le (Nat.le_refl n) (Nat.lt_of_le_of_lt hn (by decide))) c_)
    have hP : va_P D vwCl (LW k a tr o fa ba x S U G V n nf L R) H := by rw [hV, turn_w hrb]; exact hP
    have hD : va_D A (LW k a tr o fa ba x S U G V n nf L R) := by rw [hV, turn_w hrb]; exact hD
    refine lv_aload_n hx hb dX5_go_47 rfl (lv_at hl 0 rfl) ?_
    refine lv_iconst (v := 2) hx hb dX5_go_48 (by decide) ?_
    refine c_pVi (rest := []) hC hE hP (metX5_on l G V hn hnf 2 ) gc_RX5_40 hd_X5_on ⟨rfl, rfl⟩ ⟨Nat.le_of_ble_eq_true rfl, Nat.le_of_ble_eq_true rfl⟩ 59 lw_59 rfl rfl hl.1 (Nat.le_of_ble_eq_true rfl) ⟨Nat.le_of_ble_eq_true rfl, Nat.le_of_ble_eq_true rfl⟩ dX5_go_49 ?_
    refine w_top (show onA V n 2 = V 5 2 from onA_eq hvb (j := 2) (by decide)) ?_
    refine w_cut 130 [] 0 0 (fun ls H locs => lv_has ls 5 [(0, .ref (o 0))] ∧ va_P D vwCl (LW k a tr o fa ba x S U G V2 n nf L R) H ∧ va_D A (LW k a tr o fa ba x S U G V2 n nf L R) ∧ va_S A s.heap H locs) (fun ls H locs h9 => ?_) (fun K => ?_)
    · obtain ⟨hl, hP, hD, hS⟩ := h9
      refine lv_iconst (v := 0) hx hb dX5_go_130 (by decide) ?_
      refine lv_istore_n (lv' := [(2, .int 0), (0, .ref (o 0))]) hx hb dX5_go_131 rfl hl (by decide) rfl (fun ls hl => ?_)
      refine lv_iconst (v := 0) hx hb dX5_go_132 (by decide) ?_
      refine lv_istore_n (lv' := [(3, .int 0), (2, .int 0), (0, .ref (o 0))]) hx hb dX5_go_133 rfl hl (by decide) rfl (fun ls hl => ?_)
      refine w_forM (D := D) (A := A) (H0 := s.heap) (nL := 5) (N := 4) (fun _ => True) (fun i => [(0, .ref (o 0)), (2, .int (nI (mSl G V2 i).1)), (3, .int (nI i))]) (fun i => (LW k a tr o fa ba x S U G (mSl G V2 i).2 n nf L R)) (fun ls H locs hI hl hP hD hS => ?_) (fun i hi hI ih ls H locs hl hP hD hS => ?_) 0 (Nat.zero_le _) trivial ?_ ?_ ?_ ?_
      · have hl : lv_has ls 5 [(0, .ref (o 0)), (2, .int (nI (mSl G V2 4).1)), (3, .int (nI 4))] := hl
        have hP : va_P D vwCl (LW k a tr o fa ba x S U G (mSl G V2 4).2 n nf L R) H := hP
        have hD : va_D A (LW k a tr o fa ba x S U G (mSl G V2 4).2 n nf L R) := hD
        refine lv_iload_n hx hb dX5_go_134 rfl (lv_at hl 2 rfl) ?_
        refine lv_iconst (v := 4) hx hb dX5_go_135 (by decide) ?_
        refine lv_icmp_ge (tgt := 202) hx hb dX5_go_136 (by decide) (fun c_2 => ?_) (fun c_ => absurd (nI_le (a := 4) (b := 4) (Nat.le_refl 4) (by decide)) c_)
        obtain ⟨h3a, h3b, -⟩ := fill_rel h2a h2b 4 (Nat.le_refl 4)
        obtain ⟨V3, hV3⟩ : ∃ V3, V3 = (mSl G V2 4).2 := ⟨_, rfl⟩
        rw [← hV3] at hP hD h3b
        have hP : va_P D vwCl (LW k a tr o fa ba x S U G V3 n nf L R) H := hP
        have hD : va_D A (LW k a tr o fa ba x S U G V3 n nf L R) := hD
        have hT3 : V3 0 = T 0 := by rw [hV3, mSl_0, hV2, mTag_0, hV]; rfl
        have hL3 : mL V3 n = L := nI_inj (by have : mL V3 n ≤ n := ct_le _ n; omega) (by omega) (by rw [← h3b.len, hT3]; exact hT)
        refine lv_aload_n hx hb dX5_go_202 rfl (lv_at hl 0 rfl) ?_
        refine lv_iconst (v := 0) hx hb dX5_go_203 (by decide) ?_
        refine c_pVi (rest := []) hC hE hP (metX5_on l G V3 hn hnf 0 ) gc_RX5_40 hd_X5_on ⟨rfl, rfl⟩ ⟨Nat.le_of_ble_eq_true rfl, Nat.le_of_ble_eq_true rfl⟩ 59 lw_59 rfl rfl hl.1 (Nat.le_of_ble_eq_true rfl) ⟨Nat.le_of_ble_eq_true rfl, Nat.le_of_ble_eq_true rfl⟩ dX5_go_204 ?_
        refine w_top (show onA V3 n 0 = V3 5 0 from onA_eq h3b (j := 0) (by decide)) ?_
        refine w_cut 274 [] 1 40 (fun ls H locs => ∃ o9 : Nat → Nat, (o9 0 = o 0) ∧ lv_has ls 5 [(0, .ref (o 0)), (2, .int (nI (mSl G V2 4).1))] ∧ va_P D vwCl (LW k a tr o9 fa ba x S U G (mFeed V3) n nf (ix (mFeed V3 0 1)) R) H ∧ va_D A (LW k a tr o9 fa ba x S U G (mFeed V3) n nf (ix (mFeed V3 0 1)) R) ∧ va_S A s.heap H locs) (fun ls H locs h9 => ?_) (fun K => ?_)
        · obtain ⟨o9, ho9, hl, hP, hD, hS⟩ := h9
          rw [← ho9] at hl
          refine lv_aload_n hx hb dX5_go_274 rfl (lv_at hl 0 rfl) ?_
          refine lv_dup hx hb dX5_go_275 rfl ?_
          refine va_get (D := D) (ci := 5) (v := .int ((mFeed V3) 0 0)) (C := RX5) (T := TX5) (N := 6) hx hb hts tu_5 hown hE.1 hP 59 lw_59 rfl 0 (by decide) (hts _ tw_732) (fun _ h9 => h9) rfl dX5_go_276 ?_
          refine lv_iconst (v := 1) hx hb dX5_go_279 (by decide) ?_
          refine lv_iadd hx hb dX5_go_280 ?_
          refine va_put (D := D) (ci := 5) (v := .int (((mFeed V3) 0 0) + 1)) (ty := tyX5 0) (C := RX5) (T := TX5) (N := 6) hx hb hts tu_5 tyX5 tyX5_ok nmX5 hown hE.1 hP hD hS 59 lw_59 rfl 0 (by decide) (hts _ tw_732) (fun _ h9 => h9) rfl (tyX5_ok 0 (by decide)) rfl rfl (Nat.le_of_ble_eq_true rfl) dX5_go_281 (fun H locs hP hD hS => ?_)
          rw [lws_mi] at hP hD
          have hP : va_P D vwCl (LW k a tr o9 fa ba x S U G (sf (mFeed V3) 0 (upd ((mFeed V3) 0) 0 (((mFeed V3) 0 0) + 1))) n nf (ix (mFeed V3 0 1)) R) H := hP
          have hD : va_D A (LW k a tr o9 fa ba x S U G (sf (mFeed V3) 0 (upd ((mFeed V3) 0) 0 (((mFeed V3) 0 0) + 1))) n nf (ix (mFeed V3 0 1)) R) := hD
          refine lv_iload_n hx hb dX5_go_284 rfl (lv_at hl 1 rfl) ?_
          refine g_iret hx hb hr hlk dX5_go_285 hP hD hS ⟨?_, o9, ho9, ?_⟩ (Nat.le_refl 1) (Nat.le_refl 40)
          · rw [hV2, hV]; rfl
          · have e8 : (mMin G T).2 = mTick (mFeed V3) := by rw [hV3, hV2, hV]; rfl
            have e7 : ix (mFeed V3 0 1) = mL (mMin G T).2 n := by
              have h7 := (min_rel hra hrb).2.1.len
              rw [e8] at h7 ⊢
              rw [show mFeed V3 0 1 = nI (mL (mTick (mFeed V3)) n) from h7, ix_i (by have : mL (mTick (mFeed V3)) n ≤ n := ct_le _ n; omega)]
            rw [← e7, e8]
            rfl
        · by_cases q0 : V3 5 0 = -1
          · refine w_top q0 ?_
            by_cases q1z : L = 0
            · refine lv_if_ge (tgt := 274) hx hb dX5_go_207 (by decide) (fun c_ => absurd c_ (by decide)) (fun c_3 => ?_)
              refine lv_aload_n hx hb dX5_go_210 rfl (lv_at hl 0 rfl) ?_
              refine va_get (D := D) (ci := 5) (v := .ref (o 4)) (C := RX5) (T := TX5) (N := 6) hx hb hts tu_5 hown hE.1 hP 59 lw_59 rfl 5 (by decide) (hts _ tw_741) (fun _ h9 => h9) rfl dX5_go_211 ?_
              refine k_alen hx hb hE hP 63 lw_63 dX5_go_214 ?_
              refine lv_if_le (tgt := 274) hx hb dX5_go_215 (by decide) (fun c_4 => ?_) (fun c_ => absurd (by rw [q1z]; decide) c_)
              have eF : mFeed V3 = V3 := feed_no (fun z => (by have z2 := z.2; rw [hT3, hT, q1z] at z2; exact absurd z2 (by decide)))
              have eL : ix (mFeed V3 0 1) = L := by rw [eF, hT3, hLT]
              have hP : va_P D vwCl (LW k a tr o fa ba x S U G (mFeed V3) n nf (ix (mFeed V3 0 1)) R) H := by rw [eL, eF]; exact hP
              have hD : va_D A (LW k a tr o fa ba x S U G (mFeed V3) n nf (ix (mFeed V3 0 1)) R) := by rw [eL, eF]; exact hD
              refine W.widen (k := 1) (n := 40) (Nat.zero_le _) (Nat.zero_le _) ?_
              exact K ls H locs ⟨o, rfl, lv_sub hl [0, 1] rfl, hP, hD, hS⟩
            · have q1p : 0 < V3 0 1 := by rw [hT3, hT]; exact Int32.not_le.mp (nI_ge (b := L) (a := 0) (by omega) (by omega))
              obtain ⟨-, b, hbn, e6, e1⟩ := h3b.lns 0 (by rw [hL3]; omega)
              have eb : ix (V3 6 0) = b := by rw [e6, ix_i (by omega)]
              have eL : ix (mFeed V3 0 1) = L - 1 := by
                unfold mFeed
                rw [sel_t ⟨q0, q1p⟩]
                show ix (V3 0 1 - 1) = L - 1
                rw [hT3, hT, isub1 (by omega), ix_i (by omega)]
              refine lv_if_ge (tgt := 274) hx hb dX5_go_207 (by decide) (fun c_ => absurd c_ (by decide)) (fun c_5 => ?_)
              refine lv_aload_n hx hb dX5_go_210 rfl (lv_at hl 0 rfl) ?_
              refine va_get (D := D) (ci := 5) (v := .ref (o 4)) (C := RX5) (T := TX5) (N := 6) hx hb hts tu_5 hown hE.1 hP 59 lw_59 rfl 5 (by decide) (hts _ tw_741) (fun _ h9 => h9) rfl dX5_go_211 ?_
              refine k_alen hx hb hE hP 63 lw_63 dX5_go_214 ?_
              refine lv_if_le (tgt := 274) hx hb dX5_go_215 (by decide) (fun c_ => absurd c_ (nI_ge (b := L) (a := 0) (by omega) (by omega))) (fun c_6 => ?_)
              refine lv_aload_n hx hb dX5_go_218 rfl (lv_at hl 0 rfl) ?_
              refine lv_aload_n hx hb dX5_go_219 rfl (lv_at hl 0 rfl) ?_
              refine va_get (D := D) (ci := 5) (v := .ref (o 4)) (C := RX5) (T := TX5) (N := 6) hx hb hts tu_5 hown hE.1 hP 59 lw_59 rfl 5 (by decide) (hts _ tw_741) (fun _ h9 => h9) rfl dX5_go_220 ?_
              refine lv_iconst (v := 0) hx hb dX5_go_223 (by decide) ?_
              refine k_iald (j := 0) hx hb hE hP 63 lw_63 (by omega) (by omega) dX5_go_224 ?_
              refine w_top (show V3 6 0 = nI b from e6) ?_
              refine lv_iconst (v := 1) hx hb dX5_go_225 (by decide) ?_
              refine lv_iconst (v := 0) hx hb dX5_go_226 (by decide) ?_
              refine c_mVv (rest := []) hC hE hP hD hS lw_same (metX5_put l G V3 hn hnf b 1 0 hbn) gc_RX5_36 hd_X5_put ⟨rfl, rfl⟩ ⟨Nat.le_of_ble_eq_true rfl, Nat.le_of_ble_eq_true rfl⟩ 59 lw_59 rfl rfl hl.1 (Nat.le_of_ble_eq_true rfl) ⟨Nat.le_of_ble_eq_true rfl, Nat.le_of_ble_eq_true rfl⟩ dX5_go_227 (fun H locs hP hD hS => ?_)
              refine lv_aload_n hx hb dX5_go_230 rfl (lv_at hl 0 rfl) ?_
              refine va_get (D := D) (ci := 5) (v := .ref (o 4)) (C := RX5) (T := TX5) (N := 6) hx hb hts tu_5 hown hE.1 hP 59 lw_59 rfl 5 (by decide) (hts _ tw_741) (fun _ h9 => h9) rfl dX5_go_231 ?_
              refine k_alen hx hb hE hP 63 lw_63 dX5_go_234 ?_
              refine lv_iconst (v := 1) hx hb dX5_go_235 (by decide) ?_
              refine lv_isub hx hb dX5_go_236 ?_
              refine w_top (show (nI L) - 1 = nI (L - 1) from (isub1 (by omega))) ?_
              refine i_newai (N := (L - 1)) hx hb (hts _ tw_49) hE hP hD hS hA (nI_pos (by omega)) (nI_clamp (by omega)) (by show (L - 1) * 4 ≤ 536870912; omega) (Nat.le_of_ble_eq_true rfl) (by show 0 + (L - 1) ≤ 40; omega) dX5_go_237 (fun q1 H hP hD hS => ?_)
              rw [lw_more] at hP hD
              have hP : va_P D vwCl (LW k a tr o fa ba x S U G (mPutB V3 b 1 0) n nf L (R ++ [(q1, .inl (k 0, (L - 1), .inl (fun _ => 0)))])) H := hP
              have hD : va_D A (LW k a tr o fa ba x S U G (mPutB V3 b 1 0) n nf L (R ++ [(q1, .inl (k 0, (L - 1), .inl (fun _ => 0)))])) := hD
              refine lv_astore_n (lv' := [(3, .ref q1), (0, .ref (o 0)), (2, .int (nI (mSl G V2 4).1))]) hx hb dX5_go_239 rfl hl (by decide) rfl (fun ls hl => ?_)
              refine lv_iconst (v := 0) hx hb dX5_go_240 (by decide) ?_
              refine lv_istore (lv' := [(4, .int 0), (3, .ref q1), (0, .ref (o 0)), (2, .int (nI (mSl G V2 4).1))]) hx hb dX5_go_241 hl (by decide) rfl (fun ls hl => ?_)
              have hP : va_P D vwCl (LW k a tr o fa ba x S U G (mPutB V3 b 1 0) n nf L (R ++ [(q1, .inl (k 0, (L - 1), .inl (csG (V3 6) 0)))])) H := by rw [csG_0]; exact hP
              have hD : va_D A (LW k a tr o fa ba x S U G (mPutB V3 b 1 0) n nf L (R ++ [(q1, .inl (k 0, (L - 1), .inl (csG (V3 6) 0)))])) := by rw [csG_0]; exact hD
              refine w_forM (D := D) (A := A) (H0 := s.heap) (nL := 5) (N := (L - 1)) (fun _ => True) (fun i => [(0, .ref (o 0)), (2, .int (nI (mSl G V2 4).1)), (3, .ref q1), (4, .int (nI i))]) (fun i => (LW k a tr o fa ba x S U G (mPutB V3 b 1 0) n nf L (R ++ [(q1, .inl (k 0, (L - 1), .inl (csG (V3 6) i)))]))) (fun ls H locs hI hl hP hD hS => ?_) (fun i hi hI ih ls H locs hl hP hD hS => ?_) 0 (Nat.zero_le _) trivial ?_ ?_ ?_ ?_
              · have hl : lv_has ls 5 [(0, .ref (o 0)), (2, .int (nI (mSl G V2 4).1)), (3, .ref q1), (4, .int (nI (L - 1)))] := hl
                have hP : va_P D vwCl (LW k a tr o fa ba x S U G (mPutB V3 b 1 0) n nf L (R ++ [(q1, .inl (k 0, (L - 1), .inl (csG (V3 6) (L - 1))))])) H := hP
                have hD : va_D A (LW k a tr o fa ba x S U G (mPutB V3 b 1 0) n nf L (R ++ [(q1, .inl (k 0, (L - 1), .inl (csG (V3 6) (L - 1))))])) := hD
                refine lv_iload hx hb dX5_go_243 (lv_at hl 3 rfl) ?_
                refine lv_aload_n hx hb dX5_go_245 rfl (lv_at hl 2 rfl) ?_
                refine k_alen hx hb hE hP (64 + nf + n + (R.length + 0)) ((lw_Ri (i := 0)).trans rfl) dX5_go_246 ?_
                refine lv_icmp_ge (tgt := 269) hx hb dX5_go_247 (by decide) (fun c_7 => ?_) (fun c_ => absurd (nI_le (Nat.le_refl _) (by omega)) c_)
                refine lv_aload_n hx hb dX5_go_269 rfl (lv_at hl 0 rfl) ?_
                refine lv_aload_n hx hb dX5_go_270 rfl (lv_at hl 2 rfl) ?_
                refine va_put (D := D) (ci := 5) (v := .ref q1) (ty := tyX5 5) (C := RX5) (T := TX5) (N := 6) hx hb hts tu_5 tyX5 tyX5_ok nmX5 hown hE.1 hP hD hS 59 lw_59 rfl 5 (by decide) (hts _ tw_741) (fun _ h9 => h9) rfl (tyX5_ok 5 (by decide)) rfl rfl (Nat.le_of_ble_eq_true rfl) dX5_go_271 (fun H locs hP hD hS => ?_)
                rw [← lw_more] at hP hD
                obtain ⟨hP, hD⟩ := lw_newLn hP hD
                have hP : va_P D vwCl (LW k a tr (oLn o 4 q1) fa ba x S U G (sf (mPutB V3 b 1 0) 6 (csG (V3 6) (L - 1))) n nf (L - 1) R) H := hP
                have hD : va_D A (LW k a tr (oLn o 4 q1) fa ba x S U G (sf (mPutB V3 b 1 0) 6 (csG (V3 6) (L - 1))) n nf (L - 1) R) := hD
                have hP := lw_lnP (f := mFr (L - 1) (V3 6)) hP (fun j hj => csG_e hj)
                have hD := lw_lnD (f := mFr (L - 1) (V3 6)) hD
                have eF : (LW k a tr (oLn o 4 q1) fa ba x S U G (mFeed V3) n nf (ix (mFeed V3 0 1)) R) = (LW k a tr (oLn o 4 q1) fa ba x S U G (sf (mPutB V3 b 1 0) 6 (mFr (L - 1) (V3 6))) n nf (L - 1) R) := by
                  rw [eL]
                  unfold mFeed mFirst
                  rw [sel_t ⟨q0, q1p⟩, eb, show ix (V3 0 1) - 1 = L - 1 by rw [hT3, hLT]]
                  rfl
                have hP : va_P D vwCl (LW k a tr (oLn o 4 q1) fa ba x S U G (mFeed V3) n nf (ix (mFeed V3 0 1)) R) H := by rw [eF]; exact hP
                have hD : va_D A (LW k a tr (oLn o 4 q1) fa ba x S U G (mFeed V3) n nf (ix (mFeed V3 0 1)) R) := by rw [eF]; exact hD
                refine W.widen (k := 1) (n := 40) (Nat.le_of_ble_eq_true rfl) (by show 0 + (L - 1) ≤ 40; omega) ?_
                exact K ls H locs ⟨oLn o 4 q1, rfl, lv_sub hl [0, 1] rfl, hP, hD, hS⟩
              · have hl : lv_has ls 5 [(0, .ref (o 0)), (2, .int (nI (mSl G V2 4).1)), (3, .ref q1), (4, .int (nI i))] := hl
                have hP : va_P D vwCl (LW k a tr o fa ba x S U G (mPutB V3 b 1 0) n nf L (R ++ [(q1, .inl (k 0, (L - 1), .inl (csG (V3 6) i)))])) H := hP
                have hD : va_D A (LW k a tr o fa ba x S U G (mPutB V3 b 1 0) n nf L (R ++ [(q1, .inl (k 0, (L - 1), .inl (csG (V3 6) i)))])) := hD
                refine lv_iload hx hb dX5_go_243 (lv_at hl 3 rfl) ?_
                refine lv_aload_n hx hb dX5_go_245 rfl (lv_at hl 2 rfl) ?_
                refine k_alen hx hb hE hP (64 + nf + n + (R.length + 0)) ((lw_Ri (i := 0)).trans rfl) dX5_go_246 ?_
                refine lv_icmp_ge (tgt := 269) hx hb dX5_go_247 (by decide) (fun c_ => absurd c_ (nI_ge hi (by omega))) (fun c_8 => ?_)
                refine lv_aload_n hx hb dX5_go_250 rfl (lv_at hl 2 rfl) ?_
                refine lv_iload hx hb dX5_go_251 (lv_at hl 3 rfl) ?_
                refine lv_aload_n hx hb dX5_go_253 rfl (lv_at hl 0 rfl) ?_
                refine va_get (D := D) (ci := 5) (v := .ref (o 4)) (C := RX5) (T := TX5) (N := 6) hx hb hts tu_5 hown hE.1 hP 59 lw_59 rfl 5 (by decide) (hts _ tw_741) (fun _ h9 => h9) rfl dX5_go_254 ?_
                refine lv_iload hx hb dX5_go_257 (lv_at hl 3 rfl) ?_
                refine lv_iconst (v := 1) hx hb dX5_go_259 (by decide) ?_
                refine lv_iadd hx hb dX5_go_260 ?_
                refine w_top (show (nI i) + 1 = nI (i + 1) from (nI_1 i)) ?_
                refine k_iald (j := (i + 1)) hx hb hE hP 63 lw_63 (by omega) (by omega) dX5_go_261 ?_
                refine w_top (show (mPutB V3 b 1 0) 6 (i + 1) = V3 6 (i + 1) from rfl) ?_
                refine k_iast (j := i) hx hb hE hP hD hS (64 + nf + n + (R.length + 0)) ((lw_Ri (i := 0)).trans rfl) hi (by omega) dX5_go_262 (fun H locs hP hD hS => ?_)
                rw [lw_Riset (i := 0)] at hP hD
                have hP : va_P D vwCl (LW k a tr o fa ba x S U G (mPutB V3 b 1 0) n nf L (R ++ [(q1, .inl (k 0, (L - 1), .inl (upd (csG (V3 6) i) i (V3 6 (i + 1)))))])) H := hP
                have hD : va_D A (LW k a tr o fa ba x S U G (mPutB V3 b 1 0) n nf L (R ++ [(q1, .inl (k 0, (L - 1), .inl (upd (csG (V3 6) i) i (V3 6 (i + 1)))))])) := hD
                refine lv_iinc (v := nI (i + 1)) (lv' := [(4, .int (nI (i + 1))), (0, .ref (o 0)), (2, .int (nI (mSl G V2 4).1)), (3, .ref q1)]) hx hb dX5_go_263 hl (k := 3) rfl (iinc1 _) (by decide) rfl (fun ls hl => ?_)
                refine lv_goto (tgt := 243) hx hb dX5_go_266 (by decide) ?_
                have e9 : csG (V3 6) (i + 1) = upd (csG (V3 6) i) i (V3 6 (i + 1)) := csG_s (V3 6) i
                have hP9 : va_P D vwCl (LW k a tr o fa ba x S U G (mPutB V3 b 1 0) n nf L (R ++ [(q1, .inl (k 0, (L - 1), .inl (csG (V3 6) (i + 1))))])) H := by rw [e9]; exact hP
                have hD9 : va_D A (LW k a tr o fa ba x S U G (mPutB V3 b 1 0) n nf L (R ++ [(q1, .inl (k 0, (L - 1), .inl (csG (V3 6) (i + 1))))])) := by rw [e9]; exact hD
                have h99 := ih ls H locs trivial (lv_sub hl [1, 2, 3, 0] rfl)
                exact h99 hP9 hD9 hS
              · exact lv_sub hl [2, 3, 1, 0] rfl
              · exact hP
              · exact hD
              · exact hS
          · obtain ⟨b, hbn, e5, e1, e2⟩ := h3b.bl1 0 (by decide) q0
            refine w_top e5 ?_
            refine lv_if_ge (tgt := 274) hx hb dX5_go_207 (by decide) (fun c_9 => ?_) (fun c_ => absurd (Int32.not_lt.mp (nI_pos (by omega))) c_)
            have eF : mFeed V3 = V3 := feed_no (fun z => q0 z.1)
            have eL : ix (mFeed V3 0 1) = L := by rw [eF, hT3, hLT]
            have hP : va_P D vwCl (LW k a tr o fa ba x S U G (mFeed V3) n nf (ix (mFeed V3 0 1)) R) H := by rw [eL, eF]; exact hP
            have hD : va_D A (LW k a tr o fa ba x S U G (mFeed V3) n nf (ix (mFeed V3 0 1)) R) := by rw [eL, eF]; exact hD
            refine W.widen (k := 1) (n := 40) (Nat.zero_le _) (Nat.zero_le _) ?_
            exact K ls H locs ⟨o, rfl, lv_sub hl [0, 1] rfl, hP, hD, hS⟩
      · have hl : lv_has ls 5 [(0, .ref (o 0)), (2, .int (nI (mSl G V2 i).1)), (3, .int (nI i))] := hl
        have hP : va_P D vwCl (LW k a tr o fa ba x S U G (mSl G V2 i).2 n nf L R) H := hP
        have hD : va_D A (LW k a tr o fa ba x S U G (mSl G V2 i).2 n nf L R) := hD
        refine lv_iload_n hx hb dX5_go_134 rfl (lv_at hl 2 rfl) ?_
        refine lv_iconst (v := 4) hx hb dX5_go_135 (by decide) ?_
        refine lv_icmp_ge (tgt := 202) hx hb dX5_go_136 (by decide) (fun c_ => absurd c_ (nI_ge (b := 4) hi (by decide))) (fun c_10 => ?_)
        obtain ⟨hia, hib, -⟩ := fill_rel h2a h2b i (by omega)
        refine lv_aload_n hx hb dX5_go_139 rfl (lv_at hl 0 rfl) ?_
        refine lv_iconst (v := 4) hx hb dX5_go_140 (by decide) ?_
        refine lv_iconst (v := 2) hx hb dX5_go_141 (by decide) ?_
        refine lv_iload_n hx hb dX5_go_142 rfl (lv_at hl 2 rfl) ?_
        refine lv_imul hx hb dX5_go_143 ?_
        refine lv_iadd hx hb dX5_go_144 ?_
        refine w_top (show 4 + (2 * (nI i)) = nI (4 + 2 * i) from (place_n i)) ?_
        refine c_pVi (rest := []) hC hE hP (metX5_on l G (mSl G V2 i).2 hn hnf (nI (4 + 2 * i)) ) gc_RX5_40 hd_X5_on ⟨rfl, rfl⟩ ⟨Nat.le_of_ble_eq_true rfl, Nat.le_of_ble_eq_true rfl⟩ 59 lw_59 rfl rfl hl.1 (Nat.le_of_ble_eq_true rfl) ⟨Nat.le_of_ble_eq_true rfl, Nat.le_of_ble_eq_true rfl⟩ dX5_go_145 ?_
        refine w_top (show onA (mSl G V2 i).2 n (nI (4 + 2 * i)) = (mSl G V2 i).2 5 (4 + 2 * i) from onA_eq hib (j := 4 + 2 * i) (by omega)) ?_
        by_cases q0 : (mSl G V2 i).2 5 (4 + 2 * i) = -1
        · refine w_top q0 ?_
          refine lv_istore (lv' := [(4, .int (-1)), (0, .ref (o 0)), (2, .int (nI (mSl G V2 i).1)), (3, .int (nI i))]) hx hb dX5_go_148 hl (by decide) rfl (fun ls hl => ?_)
          refine lv_iload hx hb dX5_go_150 (lv_at hl 0 rfl) ?_
          refine lv_if_lt (tgt := 196) hx hb dX5_go_152 (by decide) (fun c_11 => ?_) (fun c_ => absurd (by decide) c_)
          refine lv_iinc (v := nI (i + 1)) (lv' := [(3, .int (nI (i + 1))), (4, .int (-1)), (0, .ref (o 0)), (2, .int (nI (mSl G V2 i).1))]) hx hb dX5_go_196 hl (k := 3) rfl (iinc1 _) (by decide) rfl (fun ls hl => ?_)
          refine lv_goto (tgt := 134) hx hb dX5_go_199 (by decide) ?_
          have e9 : mSl G V2 (i + 1) = mSl G V2 i := mSl_no (fun z => z.1 q0)
          have hP9 : va_P D vwCl (LW k a tr o fa ba x S U G (mSl G V2 (i + 1)).2 n nf L R) H := by rw [e9]; exact hP
          have hD9 : va_D A (LW k a tr o fa ba x S U G (mSl G V2 (i + 1)).2 n nf L R) := by rw [e9]; exact hD
          have h99 := ih ls H locs trivial (by show lv_has ls 5 [(0, .ref (o 0)), (2, .int (nI (mSl G V2 (i + 1)).1)), (3, .int (nI (i + 1)))]; rw [e9]; exact lv_sub hl [2, 3, 0] rfl)
          exact h99 hP9 hD9 hS
        · obtain ⟨b, hbn, e5, e1, e2⟩ := hib.bl1 (4 + 2 * i) (by omega) q0
          have ei : ix ((mSl G V2 i).2 5 (4 + 2 * i)) = b := by rw [e5, ix_i (by omega)]
          refine w_top e5 ?_
          refine lv_istore (lv' := [(4, .int (nI b)), (0, .ref (o 0)), (2, .int (nI (mSl G V2 i).1)), (3, .int (nI i))]) hx hb dX5_go_148 hl (by decide) rfl (fun ls hl => ?_)
          refine lv_iload hx hb dX5_go_150 (lv_at hl 0 rfl) ?_
          refine lv_if_lt (tgt := 196) hx hb dX5_go_152 (by decide) (fun c_ => absurd c_ (nI_pos (by omega))) (fun c_12 => ?_)
          refine lv_aload_n hx hb dX5_go_155 rfl (lv_at hl 1 rfl) ?_
          refine va_get (D := D) (ci := 5) (v := .ref (o 3)) (C := RX5) (T := TX5) (N := 6) hx hb hts tu_5 hown hE.1 hP 59 lw_59 rfl 4 (by decide) (hts _ tw_739) (fun _ h9 => h9) rfl dX5_go_156 ?_
          refine lv_iload hx hb dX5_go_159 (lv_at hl 0 rfl) ?_
          refine k_aald (j := b) hx hb hE hP 62 lw_62 hbn (Nat.lt_of_le_of_lt hn (by decide)) dX5_go_161 ?_
          refine lv_iconst (v := 5) hx hb dX5_go_162 (by decide) ?_
          refine k_iald (j := 5) hx hb hE hP (64 + nf + b) (lw_b hbn) (by decide) (by decide) dX5_go_163 ?_
          refine w_top (show bgR G (mSl G V2 i).2 b 5 = (mSl G V2 i).2 3 b from rfl) ?_
          refine lv_iload_n hx hb dX5_go_164 rfl (lv_at hl 3 rfl) ?_
          refine lv_icmp_ne (tgt := 196) hx hb dX5_go_165 (by decide) (fun c_13 => ?_) (fun c_13 => ?_)
          · refine lv_iinc (v := nI (i + 1)) (lv' := [(3, .int (nI (i + 1))), (4, .int (nI b)), (0, .ref (o 0)), (2, .int (nI (mSl G V2 i).1))]) hx hb dX5_go_196 hl (k := 3) rfl (iinc1 _) (by decide) rfl (fun ls hl => ?_)
            refine lv_goto (tgt := 134) hx hb dX5_go_199 (by decide) ?_
            have e9 : mSl G V2 (i + 1) = mSl G V2 i := mSl_no (fun z => c_13 (by have z2 := z.2.1; rw [ei] at z2; exact z2))
            have hP9 : va_P D vwCl (LW k a tr o fa ba x S U G (mSl G V2 (i + 1)).2 n nf L R) H := by rw [e9]; exact hP
            have hD9 : va_D A (LW k a tr o fa ba x S U G (mSl G V2 (i + 1)).2 n nf L R) := by rw [e9]; exact hD
            have h99 := ih ls H locs trivial (by show lv_has ls 5 [(0, .ref (o 0)), (2, .int (nI (mSl G V2 (i + 1)).1)), (3, .int (nI (i + 1)))]; rw [e9]; exact lv_sub hl [2, 3, 0] rfl)
            exact h99 hP9 hD9 hS
          · refine lv_aload_n hx hb dX5_go_168 rfl (lv_at hl 1 rfl) ?_
            refine lv_iload_n hx hb dX5_go_169 rfl (lv_at hl 3 rfl) ?_
            refine c_pVi (rest := []) hC hE hP (metX5_in l G (mSl G V2 i).2 hn hnf (nI i) ) gc_RX5_44 hd_X5_in ⟨rfl, rfl⟩ ⟨Nat.le_of_ble_eq_true rfl, Nat.le_of_ble_eq_true rfl⟩ 59 lw_59 rfl rfl hl.1 (Nat.le_of_ble_eq_true rfl) ⟨Nat.le_of_ble_eq_true rfl, Nat.le_of_ble_eq_true rfl⟩ dX5_go_170 ?_
            refine w_top (show nI (inN (mSl G V2 i).2 (nI i) n) = (mSl G V2 i).2 7 i from (hib.inn i hi).symm) ?_
            refine lv_aload_n hx hb dX5_go_173 rfl (lv_at hl 1 rfl) ?_
            refine va_get (D := D) (ci := 5) (v := .ref (o 1)) (C := RX5) (T := TX5) (N := 6) hx hb hts tu_5 hown hE.1 hP 59 lw_59 rfl 2 (by decide) (hts _ tw_735) (fun _ h9 => h9) rfl dX5_go_174 ?_
            refine lv_iload_n hx hb dX5_go_177 rfl (lv_at hl 3 rfl) ?_
            refine k_iald (j := i) hx hb hE hP 60 lw_60 hi (by decide) dX5_go_178 ?_
            refine lv_icmp_lt (tgt := 185) hx hb dX5_go_179 (by decide) (fun c_14 => ?_) (fun c_14 => ?_)
            · refine lv_aload_n hx hb dX5_go_185 rfl (lv_at hl 1 rfl) ?_
              refine lv_iload hx hb dX5_go_186 (lv_at hl 0 rfl) ?_
              refine lv_iconst (v := 2) hx hb dX5_go_188 (by decide) ?_
              refine lv_iload_n hx hb dX5_go_189 rfl (lv_at hl 3 rfl) ?_
              refine c_mVv (rest := []) hC hE hP hD hS lw_same (metX5_put l G (mSl G V2 i).2 hn hnf b 2 (nI i) hbn) gc_RX5_36 hd_X5_put ⟨rfl, rfl⟩ ⟨Nat.le_of_ble_eq_true rfl, Nat.le_of_ble_eq_true rfl⟩ 59 lw_59 rfl rfl hl.1 (Nat.le_of_ble_eq_true rfl) ⟨Nat.le_of_ble_eq_true rfl, Nat.le_of_ble_eq_true rfl⟩ dX5_go_190 (fun H locs hP hD hS => ?_)
              refine lv_iinc (v := nI ((mSl G V2 i).1 + 1)) (lv' := [(2, .int (nI ((mSl G V2 i).1 + 1))), (4, .int (nI b)), (0, .ref (o 0)), (3, .int (nI i))]) hx hb dX5_go_193 hl (k := 2) rfl (iinc1 _) (by decide) rfl (fun ls hl => ?_)
              refine lv_iinc (v := nI (i + 1)) (lv' := [(3, .int (nI (i + 1))), (2, .int (nI ((mSl G V2 i).1 + 1))), (4, .int (nI b)), (0, .ref (o 0))]) hx hb dX5_go_196 hl (k := 3) rfl (iinc1 _) (by decide) rfl (fun ls hl => ?_)
              refine lv_goto (tgt := 134) hx hb dX5_go_199 (by decide) ?_
              have e9 : mSl G V2 (i + 1) = ((mSl G V2 i).1 + 1, mToCh (sf (mSl G V2 i).2 5 (upd ((mSl G V2 i).2 5) (4 + 2 * i) (-1))) b i) := mSl_yes ⟨q0, by rw [ei]; exact c_13, c_14⟩ ei
              have hP9 : va_P D vwCl (LW k a tr o fa ba x S U G (mSl G V2 (i + 1)).2 n nf L R) H := by rw [e9]; exact hP
              have hD9 : va_D A (LW k a tr o fa ba x S U G (mSl G V2 (i + 1)).2 n nf L R) := by rw [e9]; exact hD
              have h99 := ih ls H locs trivial (by show lv_has ls 5 [(0, .ref (o 0)), (2, .int (nI (mSl G V2 (i + 1)).1)), (3, .int (nI (i + 1)))]; rw [e9]; exact lv_sub hl [3, 1, 0] rfl)
              exact h99 hP9 hD9 hS
            · refine lv_goto (tgt := 196) hx hb dX5_go_182 (by decide) ?_
              refine lv_iinc (v := nI (i + 1)) (lv' := [(3, .int (nI (i + 1))), (4, .int (nI b)), (0, .ref (o 0)), (2, .int (nI (mSl G V2 i).1))]) hx hb dX5_go_196 hl (k := 3) rfl (iinc1 _) (by decide) rfl (fun ls hl => ?_)
              refine lv_goto (tgt := 134) hx hb dX5_go_199 (by decide) ?_
              have e9 : mSl G V2 (i + 1) = mSl G V2 i := mSl_no (fun z => c_14 z.2.2)
              have hP9 : va_P D vwCl (LW k a tr o fa ba x S U G (mSl G V2 (i + 1)).2 n nf L R) H := by rw [e9]; exact hP
              have hD9 : va_D A (LW k a tr o fa ba x S U G (mSl G V2 (i + 1)).2 n nf L R) := by rw [e9]; exact hD
              have h99 := ih ls H locs trivial (by show lv_has ls 5 [(0, .ref (o 0)), (2, .int (nI (mSl G V2 (i + 1)).1)), (3, .int (nI (i + 1)))]; rw [e9]; exact lv_sub hl [2, 3, 0] rfl)
              exact h99 hP9 hD9 hS
      · exact lv_sub hl [2, 1, 0] rfl
      · exact hP
      · exact hD
      · exact hS
    · by_cases q0 : V 5 2 = -1
      · refine w_top q0 ?_
        refine lv_istore_n (lv' := [(1, .int (-1)), (0, .ref (o 0)), (2, .int (nI n)), (3, .int (nI n))]) hx hb dX5_go_52 rfl hl (by decide) rfl (fun ls hl => ?_)
        refine lv_iload_n hx hb dX5_go_53 rfl (lv_at hl 0 rfl) ?_
        refine lv_if_lt (tgt := 130) hx hb dX5_go_54 (by decide) (fun c_15 => ?_) (fun c_ => absurd (by decide) c_)
        have hP : va_P D vwCl (LW k a tr o fa ba x S U G V2 n nf L R) H := by rw [hV2, tag_no1 q0]; exact hP
        have hD : va_D A (LW k a tr o fa ba x S U G V2 n nf L R) := by rw [hV2, tag_no1 q0]; exact hD
        exact K ls H locs ⟨lv_sub hl [1] rfl, hP, hD, hS⟩
      · obtain ⟨b, hbn, b40, e5, -, ei, e1⟩ := read_bag hvb q0
        obtain ⟨f, hfn, g2, g3, g4, g5⟩ := flight_of hva hbn
        refine w_top e5 ?_
        rcases hvt.rd b hbn with q2 | ⟨c0, hc0, q2⟩
        · refine lv_istore_n (lv' := [(1, .int (nI b)), (0, .ref (o 0)), (2, .int (nI n)), (3, .int (nI n))]) hx hb dX5_go_52 rfl hl (by decide) rfl (fun ls hl => ?_)
          refine lv_iload_n hx hb dX5_go_53 rfl (lv_at hl 0 rfl) ?_
          refine lv_if_lt (tgt := 130) hx hb dX5_go_54 (by decide) (fun c_ => absurd c_ (nI_pos (by omega))) (fun c_16 => ?_)
          refine lv_aload_n hx hb dX5_go_57 rfl (lv_at hl 1 rfl) ?_
          refine va_get (D := D) (ci := 5) (v := .ref (o 3)) (C := RX5) (T := TX5) (N := 6) hx hb hts tu_5 hown hE.1 hP 59 lw_59 rfl 4 (by decide) (hts _ tw_739) (fun _ h9 => h9) rfl dX5_go_58 ?_
          refine lv_iload_n hx hb dX5_go_61 rfl (lv_at hl 0 rfl) ?_
          refine k_aald (j := b) hx hb hE hP 62 lw_62 hbn (Nat.lt_of_le_of_lt hn (by decide)) dX5_go_62 ?_
          refine lv_iconst (v := 5) hx hb dX5_go_63 (by decide) ?_
          refine k_iald (j := 5) hx hb hE hP (64 + nf + b) (lw_b hbn) (by decide) (by decide) dX5_go_64 ?_
          refine w_top (show bgR G V b 5 = V 3 b from rfl) ?_
          refine w_top (show V 3 b = (-1) from q2) ?_
          refine lv_if_ge (tgt := 130) hx hb dX5_go_65 (by decide) (fun c_ => absurd c_ (by decide)) (fun c_17 => ?_)
          refine lv_aload_n hx hb dX5_go_68 rfl (lv_at hl 1 rfl) ?_
          refine va_get (D := D) (ci := 5) (v := .ref (o 3)) (C := RX5) (T := TX5) (N := 6) hx hb hts tu_5 hown hE.1 hP 59 lw_59 rfl 4 (by decide) (hts _ tw_739) (fun _ h9 => h9) rfl dX5_go_69 ?_
          refine lv_iload_n hx hb dX5_go_72 rfl (lv_at hl 0 rfl) ?_
          refine k_aald (j := b) hx hb hE hP 62 lw_62 hbn (Nat.lt_of_le_of_lt hn (by decide)) dX5_go_73 ?_
          refine lv_astore_n (lv' := [(2, .ref (ba b)), (1, .int (nI b)), (0, .ref (o 0)), (3, .int (nI n))]) hx hb dX5_go_74 rfl hl (by decide) rfl (fun ls hl => ?_)
          refine lv_aload_n hx hb dX5_go_75 rfl (lv_at hl 2 rfl) ?_
          refine va_get (D := D) (ci := 5) (v := .ref (o 2)) (C := RX5) (T := TX5) (N := 6) hx hb hts tu_5 hown hE.1 hP 59 lw_59 rfl 3 (by decide) (hts _ tw_737) (fun _ h9 => h9) rfl dX5_go_76 ?_
          refine lv_aload_n hx hb dX5_go_79 rfl (lv_at hl 0 rfl) ?_
          refine lv_iconst (v := 0) hx hb dX5_go_80 (by decide) ?_
          refine k_iald (j := 0) hx hb hE hP (64 + nf + b) (lw_b hbn) (by decide) (by decide) dX5_go_81 ?_
          refine w_top (show bgR G V b 0 = G 4 b from rfl) ?_
          refine w_top (show G 4 b = nI f from g3) ?_
          refine k_aald (j := f) hx hb hE hP 61 lw_61 hfn (Nat.lt_of_le_of_lt hnf (by decide)) dX5_go_82 ?_
          refine lv_iconst (v := 0) hx hb dX5_go_83 (by decide) ?_
          refine k_iald (j := 0) hx hb hE hP (64 + f) (lw_f hfn) (by decide) (by decide) dX5_go_84 ?_
          refine w_top (show flR G f 0 = G 1 f from rfl) ?_
          refine lv_istore_n (lv' := [(3, .int (G 1 f)), (2, .ref (ba b)), (1, .int (nI b)), (0, .ref (o 0))]) hx hb dX5_go_85 rfl hl (by decide) rfl (fun ls hl => ?_)
          refine lv_aload_n hx hb dX5_go_86 rfl (lv_at hl 1 rfl) ?_
          refine lv_iconst (v := 2) hx hb dX5_go_87 (by decide) ?_
          refine k_iald (j := 2) hx hb hE hP (64 + nf + b) (lw_b hbn) (by decide) (by decide) dX5_go_88 ?_
          refine w_top (show bgR G V b 2 = G 6 b from rfl) ?_
          refine lv_aload_n hx hb dX5_go_89 rfl (lv_at hl 3 rfl) ?_
          refine va_get (D := D) (ci := 5) (v := .int (G 0 2)) (C := RX5) (T := TX5) (N := 6) hx hb hts tu_5 hown hE.1 hP 59 lw_59 rfl 1 (by decide) (hts _ tw_733) (fun _ h9 => h9) rfl dX5_go_90 ?_
          refine lv_icmp_gt (tgt := 107) hx hb dX5_go_93 (by decide) (fun c_18 => ?_) (fun c_18 => ?_)
          · obtain ⟨m9, m1, m2⟩ := hvt.on b hbn (Or.inr e1)
            have m3 : V 4 b + 1 = nI (m9 + 1) := by rw [m2]; exact nI_1 m9
            have hm := tag_ms (f := f) q0 ei q2 g5 (fun z => z.1 c_18)
            refine lv_aload_n hx hb dX5_go_107 rfl (lv_at hl 1 rfl) ?_
            refine lv_bipush (v := 6) hx hb dX5_go_108 (by decide) ?_
            refine lv_dup2_11 hx hb dX5_go_110 rfl rfl ?_
            refine k_iald (j := 6) hx hb hE hP (64 + nf + b) (lw_b hbn) (by decide) (by decide) dX5_go_111 ?_
            refine w_top (show bgR G V b 6 = V 4 b from rfl) ?_
            refine lv_iconst (v := 1) hx hb dX5_go_112 (by decide) ?_
            refine lv_iadd hx hb dX5_go_113 ?_
            refine k_iast (j := 6) hx hb hE hP hD hS (64 + nf + b) (lw_b hbn) (by decide) (by decide) dX5_go_114 (fun H locs hP hD hS => ?_)
            rw [lws_b6 hbn] at hP hD
            have hP : va_P D vwCl (LW k a tr o fa ba x S U G (sf V 4 (upd (V 4) b ((V 4 b) + 1))) n nf L R) H := hP
            have hD : va_D A (LW k a tr o fa ba x S U G (sf V 4 (upd (V 4) b ((V 4 b) + 1))) n nf L R) := hD
            refine lv_aload_n hx hb dX5_go_115 rfl (lv_at hl 1 rfl) ?_
            refine lv_bipush (v := 6) hx hb dX5_go_116 (by decide) ?_
            refine k_iald (j := 6) hx hb hE hP (64 + nf + b) (lw_b hbn) (by decide) (by decide) dX5_go_118 ?_
            refine w_top (show bgR G (sf V 4 (upd (V 4) b ((V 4 b) + 1))) b 6 = (sf V 4 (upd (V 4) b ((V 4 b) + 1))) 4 b from rfl) ?_
            refine w_top (show (sf V 4 (upd (V 4) b ((V 4 b) + 1))) 4 b = nI (m9 + 1) from (upd_e _ _ _).trans m3) ?_
            by_cases q5 : m9 = 2
            · refine lv_iconst (v := 3) hx hb dX5_go_119 (by decide) ?_
              refine lv_icmp_ne (tgt := 130) hx hb dX5_go_120 (by decide) (fun c_ => absurd (by rw [q5]; rfl) c_) (fun c_19 => ?_)
              refine lv_aload_n hx hb dX5_go_123 rfl (lv_at hl 3 rfl) ?_
              refine lv_iload_n hx hb dX5_go_124 rfl (lv_at hl 2 rfl) ?_
              refine lv_iconst (v := 3) hx hb dX5_go_125 (by decide) ?_
              refine lv_iconst (v := (-1)) hx hb dX5_go_126 (by decide) ?_
              refine c_mVv (rest := []) hC hE hP hD hS lw_same (metX5_put l G (sf V 4 (upd (V 4) b ((V 4 b) + 1))) hn hnf b 3 (-1) hbn) gc_RX5_36 hd_X5_put ⟨rfl, rfl⟩ ⟨Nat.le_of_ble_eq_true rfl, Nat.le_of_ble_eq_true rfl⟩ 59 lw_59 rfl rfl hl.1 (Nat.le_of_ble_eq_true rfl) ⟨Nat.le_of_ble_eq_true rfl, Nat.le_of_ble_eq_true rfl⟩ dX5_go_127 (fun H locs hP hD hS => ?_)
              have hP : va_P D vwCl (LW k a tr o fa ba x S U G V2 n nf L R) H := by rw [hV2, hm, lw_ms3 (by rw [m2]; exact (miss_three m1).mpr q5)]; exact hP
              have hD : va_D A (LW k a tr o fa ba x S U G V2 n nf L R) := by rw [hV2, hm, lw_ms3 (by rw [m2]; exact (miss_three m1).mpr q5)]; exact hD
              exact K ls H locs ⟨lv_sub hl [3] rfl, hP, hD, hS⟩
            · refine lv_iconst (v := 3) hx hb dX5_go_119 (by decide) ?_
              refine lv_icmp_ne (tgt := 130) hx hb dX5_go_120 (by decide) (fun c_20 => ?_) (fun c_ => absurd c_ (fun z => q5 (by have := nI_inj (b := 3) (by omega) (by decide) z; omega)))
              have hP : va_P D vwCl (LW k a tr o fa ba x S U G V2 n nf L R) H := by rw [hV2, hm, ms_le (fun z => q5 ((miss_three m1).mp (by rw [← m2]; exact z)))]; exact hP
              have hD : va_D A (LW k a tr o fa ba x S U G V2 n nf L R) := by rw [hV2, hm, ms_le (fun z => q5 ((miss_three m1).mp (by rw [← m2]; exact z)))]; exact hD
              exact K ls H locs ⟨lv_sub hl [3] rfl, hP, hD, hS⟩
          · refine lv_iload_n hx hb dX5_go_96 rfl (lv_at hl 0 rfl) ?_
            by_cases q3 : G 1 f = -1
            · refine w_top q3 ?_
              refine lv_if_lt (tgt := 107) hx hb dX5_go_97 (by decide) (fun c_21 => ?_) (fun c_ => absurd (by decide) c_)
              obtain ⟨m9, m1, m2⟩ := hvt.on b hbn (Or.inr e1)
              have m3 : V 4 b + 1 = nI (m9 + 1) := by rw [m2]; exact nI_1 m9
              have hm := tag_ms (f := f) q0 ei q2 g5 (fun z => z.2 q3)
              refine lv_aload_n hx hb dX5_go_107 rfl (lv_at hl 1 rfl) ?_
              refine lv_bipush (v := 6) hx hb dX5_go_108 (by decide) ?_
              refine lv_dup2_11 hx hb dX5_go_110 rfl rfl ?_
              refine k_iald (j := 6) hx hb hE hP (64 + nf + b) (lw_b hbn) (by decide) (by decide) dX5_go_111 ?_
              refine w_top (show bgR G V b 6 = V 4 b from rfl) ?_
              refine lv_iconst (v := 1) hx hb dX5_go_112 (by decide) ?_
              refine lv_iadd hx hb dX5_go_113 ?_
              refine k_iast (j := 6) hx hb hE hP hD hS (64 + nf + b) (lw_b hbn) (by decide) (by decide) dX5_go_114 (fun H locs hP hD hS => ?_)
              rw [lws_b6 hbn] at hP hD
              have hP : va_P D vwCl (LW k a tr o fa ba x S U G (sf V 4 (upd (V 4) b ((V 4 b) + 1))) n nf L R) H := hP
              have hD : va_D A (LW k a tr o fa ba x S U G (sf V 4 (upd (V 4) b ((V 4 b) + 1))) n nf L R) := hD
              refine lv_aload_n hx hb dX5_go_115 rfl (lv_at hl 1 rfl) ?_
              refine lv_bipush (v := 6) hx hb dX5_go_116 (by decide) ?_
              refine k_iald (j := 6) hx hb hE hP (64 + nf + b) (lw_b hbn) (by decide) (by decide) dX5_go_118 ?_
              refine w_top (show bgR G (sf V 4 (upd (V 4) b ((V 4 b) + 1))) b 6 = (sf V 4 (upd (V 4) b ((V 4 b) + 1))) 4 b from rfl) ?_
              refine w_top (show (sf V 4 (upd (V 4) b ((V 4 b) + 1))) 4 b = nI (m9 + 1) from (upd_e _ _ _).trans m3) ?_
              by_cases q5 : m9 = 2
              · refine lv_iconst (v := 3) hx hb dX5_go_119 (by decide) ?_
                refine lv_icmp_ne (tgt := 130) hx hb dX5_go_120 (by decide) (fun c_ => absurd (by rw [q5]; rfl) c_) (fun c_22 => ?_)
                refine lv_aload_n hx hb dX5_go_123 rfl (lv_at hl 3 rfl) ?_
                refine lv_iload_n hx hb dX5_go_124 rfl (lv_at hl 2 rfl) ?_
                refine lv_iconst (v := 3) hx hb dX5_go_125 (by decide) ?_
                refine lv_iconst (v := (-1)) hx hb dX5_go_126 (by decide) ?_
                refine c_mVv (rest := []) hC hE hP hD hS lw_same (metX5_put l G (sf V 4 (upd (V 4) b ((V 4 b) + 1))) hn hnf b 3 (-1) hbn) gc_RX5_36 hd_X5_put ⟨rfl, rfl⟩ ⟨Nat.le_of_ble_eq_true rfl, Nat.le_of_ble_eq_true rfl⟩ 59 lw_59 rfl rfl hl.1 (Nat.le_of_ble_eq_true rfl) ⟨Nat.le_of_ble_eq_true rfl, Nat.le_of_ble_eq_true rfl⟩ dX5_go_127 (fun H locs hP hD hS => ?_)
                have hP : va_P D vwCl (LW k a tr o fa ba x S U G V2 n nf L R) H := by rw [hV2, hm, lw_ms3 (by rw [m2]; exact (miss_three m1).mpr q5)]; exact hP
                have hD : va_D A (LW k a tr o fa ba x S U G V2 n nf L R) := by rw [hV2, hm, lw_ms3 (by rw [m2]; exact (miss_three m1).mpr q5)]; exact hD
                exact K ls H locs ⟨lv_sub hl [3] rfl, hP, hD, hS⟩
              · refine lv_iconst (v := 3) hx hb dX5_go_119 (by decide) ?_
                refine lv_icmp_ne (tgt := 130) hx hb dX5_go_120 (by decide) (fun c_23 => ?_) (fun c_ => absurd c_ (fun z => q5 (by have := nI_inj (b := 3) (by omega) (by decide) z; omega)))
                have hP : va_P D vwCl (LW k a tr o fa ba x S U G V2 n nf L R) H := by rw [hV2, hm, ms_le (fun z => q5 ((miss_three m1).mp (by rw [← m2]; exact z)))]; exact hP
                have hD : va_D A (LW k a tr o fa ba x S U G V2 n nf L R) := by rw [hV2, hm, ms_le (fun z => q5 ((miss_three m1).mp (by rw [← m2]; exact z)))]; exact hD
                exact K ls H locs ⟨lv_sub hl [3] rfl, hP, hD, hS⟩
            · obtain ⟨c0, hc0, q4⟩ := hva.chr f g2 q3
              refine w_top q4 ?_
              refine lv_if_lt (tgt := 107) hx hb dX5_go_97 (by decide) (fun c_ => absurd c_ (nI_pos (by omega))) (fun c_24 => ?_)
              refine lv_aload_n hx hb dX5_go_100 rfl (lv_at hl 1 rfl) ?_
              refine lv_iconst (v := 5) hx hb dX5_go_101 (by decide) ?_
              refine lv_iload_n hx hb dX5_go_102 rfl (lv_at hl 0 rfl) ?_
              refine k_iast (j := 5) hx hb hE hP hD hS (64 + nf + b) (lw_b hbn) (by decide) (by decide) dX5_go_103 (fun H locs hP hD hS => ?_)
              rw [lws_b5 hbn] at hP hD
              have hP : va_P D vwCl (LW k a tr o fa ba x S U G (sf V 3 (upd (V 3) b (G 1 f))) n nf L R) H := hP
              have hD : va_D A (LW k a tr o fa ba x S U G (sf V 3 (upd (V 3) b (G 1 f))) n nf L R) := hD
              refine lv_goto (tgt := 130) hx hb dX5_go_104 (by decide) ?_
              have hP : va_P D vwCl (LW k a tr o fa ba x S U G V2 n nf L R) H := by rw [hV2, tag_rd q0 ei q2 g5 c_18 q3]; exact hP
              have hD : va_D A (LW k a tr o fa ba x S U G V2 n nf L R) := by rw [hV2, tag_rd q0 ei q2 g5 c_18 q3]; exact hD
              exact K ls H locs ⟨lv_sub hl [3] rfl, hP, hD, hS⟩
        · refine lv_istore_n (lv' := [(1, .int (nI b)), (0, .ref (o 0)), (2, .int (nI n)), (3, .int (nI n))]) hx hb dX5_go_52 rfl hl (by decide) rfl (fun ls hl => ?_)
          refine lv_iload_n hx hb dX5_go_53 rfl (lv_at hl 0 rfl) ?_
          refine lv_if_lt (tgt := 130) hx hb dX5_go_54 (by decide) (fun c_ => absurd c_ (nI_pos (by omega))) (fun c_25 => ?_)
          refine lv_aload_n hx hb dX5_go_57 rfl (lv_at hl 1 rfl) ?_
          refine va_get (D := D) (ci := 5) (v := .ref (o 3)) (C := RX5) (T := TX5) (N := 6) hx hb hts tu_5 hown hE.1 hP 59 lw_59 rfl 4 (by decide) (hts _ tw_739) (fun _ h9 => h9) rfl dX5_go_58 ?_
          refine lv_iload_n hx hb dX5_go_61 rfl (lv_at hl 0 rfl) ?_
          refine k_aald (j := b) hx hb hE hP 62 lw_62 hbn (Nat.lt_of_le_of_lt hn (by decide)) dX5_go_62 ?_
          refine lv_iconst (v := 5) hx hb dX5_go_63 (by decide) ?_
          refine k_iald (j := 5) hx hb hE hP (64 + nf + b) (lw_b hbn) (by decide) (by decide) dX5_go_64 ?_
          refine w_top (show bgR G V b 5 = V 3 b from rfl) ?_
          refine w_top (show V 3 b = nI c0 from q2) ?_
          refine lv_if_ge (tgt := 130) hx hb dX5_go_65 (by decide) (fun c_26 => ?_) (fun c_ => absurd (Int32.not_lt.mp (nI_pos (by omega))) c_)
          have hP : va_P D vwCl (LW k a tr o fa ba x S U G V2 n nf L R) H := by rw [hV2, tag_no2 q0 ei (by rw [q2]; exact nI_neg (by omega))]; exact hP
          have hD : va_D A (LW k a tr o fa ba x S U G V2 n nf L R) := by rw [hV2, tag_no2 q0 ei (by rw [q2]; exact nI_neg (by omega))]; exact hD
          exact K ls H locs ⟨lv_sub hl [1] rfl, hP, hD, hS⟩
  · have hl : lv_has ls 5 [(0, .ref (o 0)), (1, .ref (o 3)), (2, .int (nI n)), (3, .int (nI i))] := hl
    have hP : va_P D vwCl (LW k a tr o fa ba x S U G (turnG T i) n nf L R) H := hP
    have hD : va_D A (LW k a tr o fa ba x S U G (turnG T i) n nf L R) := hD
    refine lv_iload_n hx hb dX5_go_10 rfl (lv_at hl 3 rfl) ?_
    refine lv_iload_n hx hb dX5_go_11 rfl (lv_at hl 2 rfl) ?_
    refine lv_icmp_ge (tgt := 47) hx hb dX5_go_12 (by decide) (fun c_ => absurd c_ (nI_ge hi (Nat.lt_of_le_of_lt hn (by decide)))) (fun c_27 => ?_)
    refine lv_aload_n hx hb dX5_go_15 rfl (lv_at hl 1 rfl) ?_
    refine lv_iload_n hx hb dX5_go_16 rfl (lv_at hl 3 rfl) ?_
    refine k_aald (j := i) hx hb hE hP 62 lw_62 hi (Nat.lt_of_le_of_lt hn (by decide)) dX5_go_17 ?_
    refine lv_astore (lv' := [(4, .ref (ba i)), (0, .ref (o 0)), (1, .ref (o 3)), (2, .int (nI n)), (3, .int (nI i))]) hx hb dX5_go_18 hl (by decide) rfl (fun ls hl => ?_)
    refine lv_aload hx hb dX5_go_20 (lv_at hl 0 rfl) ?_
    refine lv_iconst (v := 3) hx hb dX5_go_22 (by decide) ?_
    refine k_iald (j := 3) hx hb hE hP (64 + nf + i) (lw_b hi) (by decide) (by decide) dX5_go_23 ?_
    refine w_top (show bgR G (turnG T i) i 3 = T 1 i from rfl) ?_
    refine lv_iconst (v := 1) hx hb dX5_go_24 (by decide) ?_
    refine lv_icmp_ne (tgt := 41) hx hb dX5_go_25 (by decide) (fun c_28 => ?_) (fun c_28 => ?_)
    · refine lv_iinc (v := nI (i + 1)) (lv' := [(3, .int (nI (i + 1))), (4, .ref (ba i)), (0, .ref (o 0)), (1, .ref (o 3)), (2, .int (nI n))]) hx hb dX5_go_41 hl (k := 4) rfl (iinc1 _) (by decide) rfl (fun ls hl => ?_)
      refine lv_goto (tgt := 10) hx hb dX5_go_44 (by decide) ?_
      have e9 : turnG T (i + 1) = turnG T i := turnG_s0 c_28
      have hP9 : va_P D vwCl (LW k a tr o fa ba x S U G (turnG T (i + 1)) n nf L R) H := by rw [e9]; exact hP
      have hD9 : va_D A (LW k a tr o fa ba x S U G (turnG T (i + 1)) n nf L R) := by rw [e9]; exact hD
      have h99 := ih ls H locs trivial (lv_sub hl [2, 3, 4, 0] rfl)
      exact h99 hP9 hD9 hS
    · refine lv_aload hx hb dX5_go_28 (lv_at hl 0 rfl) ?_
      refine lv_iconst (v := 4) hx hb dX5_go_30 (by decide) ?_
      refine lv_aload hx hb dX5_go_31 (lv_at hl 0 rfl) ?_
      refine lv_iconst (v := 4) hx hb dX5_go_33 (by decide) ?_
      refine k_iald (j := 4) hx hb hE hP (64 + nf + i) (lw_b hi) (by decide) (by decide) dX5_go_34 ?_
      refine w_top (show bgR G (turnG T i) i 4 = turnC T i i from rfl) ?_
      refine w_top (show turnC T i i = T 2 i from turnC_ge (Nat.le_refl i)) ?_
      refine lv_iconst (v := 1) hx hb dX5_go_35 (by decide) ?_
      refine lv_iadd hx hb dX5_go_36 ?_
      refine lv_bipush (v := 12) hx hb dX5_go_37 (by decide) ?_
      refine lv_irem hx hb dX5_go_39 (by decide) ?_
      refine w_top (irem_eq_mod _ _) ?_
      refine k_iast (j := 4) hx hb hE hP hD hS (64 + nf + i) (lw_b hi) (by decide) (by decide) dX5_go_40 (fun H locs hP hD hS => ?_)
      rw [lws_b4 hi] at hP hD
      have hP : va_P D vwCl (LW k a tr o fa ba x S U G (sf (turnG T i) 2 (upd ((turnG T i) 2) i (((T 2 i) + 1) % 12))) n nf L R) H := hP
      have hD : va_D A (LW k a tr o fa ba x S U G (sf (turnG T i) 2 (upd ((turnG T i) 2) i (((T 2 i) + 1) % 12))) n nf L R) := hD
      refine lv_iinc (v := nI (i + 1)) (lv' := [(3, .int (nI (i + 1))), (4, .ref (ba i)), (0, .ref (o 0)), (1, .ref (o 3)), (2, .int (nI n))]) hx hb dX5_go_41 hl (k := 4) rfl (iinc1 _) (by decide) rfl (fun ls hl => ?_)
      refine lv_goto (tgt := 10) hx hb dX5_go_44 (by decide) ?_
      have e9 : turnG T (i + 1) = sf (turnG T i) 2 (upd ((turnG T i) 2) i (((T 2 i) + 1) % 12)) := turnG_s1 c_28
      have hP9 : va_P D vwCl (LW k a tr o fa ba x S U G (turnG T (i + 1)) n nf L R) H := by rw [e9]; exact hP
      have hD9 : va_D A (LW k a tr o fa ba x S U G (turnG T (i + 1)) n nf L R) := by rw [e9]; exact hD
      have h99 := ih ls H locs trivial (lv_sub hl [2, 3, 4, 0] rfl)
      exact h99 hP9 hD9 hS
  · exact lv_sub hl [3, 2, 1, 0] rfl
  · exact hP
  · exact hD
  · exact hS

