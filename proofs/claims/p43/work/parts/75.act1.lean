theorem lw_dYP {k : Nat → ClassId} {a tr o fa ba : Nat → Nat} {x : Nat} {S U G T : HS} {n nf L : Nat} {R Y : va_W} {D : va_G} {H : Heap} (hP : va_P D vwCl (LW k a tr o fa ba x S U G T n nf L (R ++ Y)) H) : va_P D vwCl (LW k a tr o fa ba x S U G T n nf L R) H := by
  rw [← lw_more] at hP
  exact vaP_drop hP (List.Perm.refl _)
theorem lw_dYD {k : Nat → ClassId} {a tr o fa ba : Nat → Nat} {x : Nat} {S U G T : HS} {n nf L : Nat} {R Y : va_W} {A : Nat → Prop} (hD : va_D A (LW k a tr o fa ba x S U G T n nf L (R ++ Y))) : va_D A (LW k a tr o fa ba x S U G T n nf L R) := by
  rw [← lw_more] at hD
  exact vaD_drop hD (List.Perm.refl _)
noncomputable def hdG (G T : HS) (i : Nat) : Nat → Int32 := fun j => sel (j < i) (bI (mMis G T j)) 0
theorem hdG_0 (G T : HS) : hdG G T 0 = fun _ => 0 := funext fun j => sel_f (Nat.not_lt_zero j) _ _
theorem hdG_at {G T : HS} {i j : Nat} (h : j < i) : hdG G T i j = bI (mMis G T j) := sel_t h _ _
theorem hdG_s {G T : HS} {i : Nat} {z : Int32} (h : bI (mMis G T i) = z) : hdG G T (i + 1) = upd (hdG G T i) i z := by
  funext j
  simp only [hdG, upd]
  by_cases e : j = i
  · rw [sel_t (by omega), if_pos e, e, h]
  · rw [if_neg e]
    by_cases e2 : j < i
    · rw [sel_t e2, sel_t (by omega)]
    · rw [sel_f e2, sel_f (by omega)]
theorem give_ct {S G T : HS} {n nf f c : Nat} (ha : RA S G n nf) (hf : f < nf) (hg : G 2 f = 0) : ct (fun j => mMis (mSetC G f c) T j ∧ ¬ mMis G T j) n = mGiveN G T f (nI c) n := by
  have := ha.nf6
  refine ct_cong (fun b h => ?_)
  obtain ⟨f2, h1, h2, h3, h4, h5⟩ := flight_of ha h
  have e4 : ix (mSetC G f c 4 b) = f2 := h5
  unfold mMis
  rw [e4, h5, h3]
  show (T 1 b = 2 ∧ (¬ G 2 f2 = 0 ∨ ¬ upd (G 1) f (nI c) f2 = T 2 b)) ∧ ¬ (T 1 b = 2 ∧ (¬ G 2 f2 = 0 ∨ ¬ G 1 f2 = T 2 b)) ↔ _
  by_cases e : f2 = f
  · subst e
    rw [upd_e]
    constructor
    · rintro ⟨⟨q1, q2⟩, q3⟩
      have q4 : G 1 f2 = T 2 b := Classical.byContradiction (fun z => q3 ⟨q1, Or.inr z⟩)
      refine ⟨rfl, q1, q4.symm, fun z => ?_⟩
      rcases q2 with q | q
      · exact q hg
      · exact q (z.trans q4)
    · rintro ⟨-, q1, q2, q3⟩
      refine ⟨⟨q1, Or.inr (fun z => q3 (z.trans q2))⟩, fun z => ?_⟩
      rcases z.2 with q | q
      · exact q hg
      · exact q q2.symm
  · rw [upd_n e]
    constructor
    · rintro ⟨q1, q2⟩; exact absurd q1 q2
    · rintro ⟨q1, -⟩; exact absurd (nI_inj (by omega) (by omega) q1) e
theorem mL_eq {S S2 T V : HS} {n : Nat} (hb : RB S T n) (hb2 : RB S2 V n) (h : V 0 1 = T 0 1) : mL V n = mL T n := by
  have h1 : mL T n ≤ n := ct_le _ n
  have h2 : mL V n ≤ n := ct_le _ n
  have := hb.n40
  exact nI_inj (by omega) (by omega) (by rw [← hb.len, ← hb2.len, h])
theorem mLv_T0 (G T : HS) (f : Nat) : ∀ i, (mLv G T f i).2.2 0 = T 0
  | 0 => rfl
  | i + 1 => by
    show (mLvS f i (mLv G T f i)).2.2 0 = T 0
    unfold mLvS
    by_cases h : (mLv G T f i).2.1 4 i = nI f
    · rw [sel_t h]
      by_cases h2 : mOwn (mLv G T f i).2.1 (mLv G T f i).2.2 i
      · rw [sel_t h2]; exact mLv_T0 G T f i
      · rw [sel_f h2]; exact mLv_T0 G T f i
    · rw [sel_f h]; exact mLv_T0 G T f i
theorem mSw_T0 (G T : HS) (c : Nat) : ∀ i, (mSw G T c i).2.2 0 = T 0
  | 0 => rfl
  | i + 1 => by
    show (mSwS c i (mSw G T c i)).2.2 0 = T 0
    unfold mSwS
    by_cases h : mMis (mSw G T c i).2.1 (mSw G T c i).2.2 i ∧ (mSw G T c i).2.2 2 i = nI c
    · rw [sel_t h]; exact mSw_T0 G T c i
    · rw [sel_f h]; exact mSw_T0 G T c i
theorem lw_put7 {k : Nat → ClassId} {a tr o fa ba : Nat → Nat} {x : Nat} {S U G T : HS} {n nf L : Nat} {R : va_W} {b c : Nat} {w p : Int32} : LW k a tr o fa ba x S U G (mPutB (mDec T c) b w p) n nf L R = LW k a tr o fa ba x S U G (mPutB T b w p) n nf L R := rfl
theorem lw_dec7 {k : Nat → ClassId} {a tr o fa ba : Nat → Nat} {x : Nat} {S U G T : HS} {n nf L : Nat} {R : va_W} {c : Nat} : LW k a tr o fa ba x S U G (mDec T c) n nf L R = LW k a tr o fa ba x S U G T n nf L R := rfl
theorem le9 {j : Nat} (h : j ≤ 9) : ¬ 9 < nI j := Int32.not_lt.mpr (nI_le (a := j) (b := 9) h (by decide))
theorem le20 {j : Nat} (h : j ≤ 20) : ¬ 20 < nI j := Int32.not_lt.mpr (nI_le (a := j) (b := 20) h (by decide))
theorem ge1 {j : Nat} (h : 1 ≤ j) (h2 : j < 2 ^ 31) : ¬ nI j < 1 := Int32.not_lt.mpr (nI_le (a := 1) h h2)

set_option maxHeartbeats 1000000 in
set_option maxRecDepth 100000 in
theorem act_1 {p : Program} {l : Launch} {e : Env} {s : State} {m : MethodId} {args : Array Value} {below : List Frame} {meth : Method} {c : Code} {D : va_G} {k : Nat → ClassId} {A : Nat → Prop} {a tr o fa ba : Nat → Nat} {x q0 : Nat} {S U G T : HS} {n nf : Nat} {R : va_W} {ls : Array Slot} {H : Heap} {locs : List Loc} (hfl : l.stackTraces = false) (hC : CallFix p m c cL_act 13 s args lw_all RL) (hr : meth.sig.returnType = some .boolean) (hlk : meth.locks = false) (htab : c.exceptionTable.toList = tableOf actT) (hE : eK D k s) (hX : xK s) (hZ : zA A s s.heap) (hA : ∀ q : Nat, s.heap.size ≤ q → A q) (hnf0 : 0 < nf) (hra : RA S G n nf) (hrb : RB S T n) (hti : TI T n) (hgi : GI G T n nf) (ho : o 0 = q0) {v : Int32} {f ch : Nat} (hf : f < nf) (hch : ch < 4) (hl : lv_has ls 13 [(0, .ref x), (1, .ref (o 0)), (2, .int v), (3, .int (nI f)), (4, .int (nI ch)), (7, .int (-1))]) (hP : va_P D vwCl (LW k a tr o fa ba x S U G T n nf (mL T n) R) H) (hD : va_D A (LW k a tr o fa ba x S U G T n nf (mL T n) R)) (hS : va_S A s.heap H locs) : W p l e ({ frames := 8, cells := 40, slots := 1500, locals := 145 } : Room) s m args below meth c H locs 0 0 (MQ below (gQ D A (fun v9 w1 => v9 = some (.int 1) ∧ AS k a tr x q0 R w1)) args s 40 1500 A) (F0 m 207 ls []) := by
  have hx := hC.1
  have hb := hC.2.1
  have hown : s.vm.findClass RL = some m.cls := hC.2.2.2.1
  have hts := hC.2.2.2.2
  have hn := hra.n40
  have hnf := hra.nf6
  have hLn : mL T n ≤ n := ct_le _ n
  by_cases z1 : G 2 f = 0
  · have hra2 := chg_ra hra (c := ch) (show f < 6 by omega) hch
    refine lv_aload_n hx hb dL_act_207 rfl (lv_at hl 1 rfl) ?_
    refine va_get (D := D) (ci := 5) (v := .ref (o 2)) (C := RX5) (T := TX5) (N := 6) hx hb hts tu_5 hown hE.1 hP 59 lw_59 rfl 3 (by decide) (hts _ tw_738) (fun _ h9 => h9) rfl dL_act_208 ?_
    refine lv_iload_n hx hb dL_act_211 rfl (lv_at hl 3 rfl) ?_
    refine k_aald (j := f) hx hb hE hP 61 lw_61 hf (Nat.lt_of_le_of_lt hnf (by decide)) dL_act_212 ?_
    refine lv_iconst (v := 1) hx hb dL_act_213 (by decide) ?_
    refine k_iald (j := 1) hx hb hE hP (64 + f) (lw_f hf) (by decide) (by decide) dL_act_214 ?_
    refine w_top (show flR G f 1 = G 2 f from rfl) ?_
    refine w_top (show G 2 f = 0 from z1) ?_
    refine lv_if_ne (tgt := 320) hx hb dL_act_215 (by decide) (fun c_ => absurd rfl c_) (fun c_1 => ?_)
    refine lv_aload_n hx hb dL_act_218 rfl (lv_at hl 1 rfl) ?_
    refine va_get (D := D) (ci := 5) (v := .ref (o 3)) (C := RX5) (T := TX5) (N := 6) hx hb hts tu_5 hown hE.1 hP 59 lw_59 rfl 4 (by decide) (hts _ tw_740) (fun _ h9 => h9) rfl dL_act_219 ?_
    refine k_olen hx hb hE hP 62 lw_62 dL_act_222 ?_
    refine i_newai (N := n) hx hb (hts _ tw_49) hE hP hD hS hA (nI_pos (by omega)) (nI_clamp (by omega)) (by show n * 4 ≤ 536870912; omega) (Nat.le_of_ble_eq_true rfl) (by show 0 + n ≤ 1500; omega) dL_act_223 (fun q1 H hP hD hS => ?_)
    rw [lw_more] at hP hD
    have hP : va_P D vwCl (LW k a tr o fa ba x S U G T n nf (mL T n) (R ++ [(q1, .inl (k 0, n, .inl (fun _ => 0)))])) H := hP
    have hD : va_D A (LW k a tr o fa ba x S U G T n nf (mL T n) (R ++ [(q1, .inl (k 0, n, .inl (fun _ => 0)))])) := hD
    refine lv_astore (lv' := [(8, .ref q1), (0, .ref x), (1, .ref (o 0)), (2, .int v), (3, .int (nI f)), (4, .int (nI ch)), (7, .int (-1))]) hx hb dL_act_225 hl (by decide) rfl (fun ls hl => ?_)
    refine lv_iconst (v := 0) hx hb dL_act_227 (by decide) ?_
    refine lv_istore (lv' := [(9, .int 0), (8, .ref q1), (0, .ref x), (1, .ref (o 0)), (2, .int v), (3, .int (nI f)), (4, .int (nI ch)), (7, .int (-1))]) hx hb dL_act_228 hl (by decide) rfl (fun ls hl => ?_)
    have hP : va_P D vwCl (LW k a tr o fa ba x S U G T n nf (mL T n) (R ++ [(q1, .inl (k 0, n, .inl (hdG G T 0)))])) H := by rw [hdG_0]; exact hP
    have hD : va_D A (LW k a tr o fa ba x S U G T n nf (mL T n) (R ++ [(q1, .inl (k 0, n, .inl (hdG G T 0)))])) := by rw [hdG_0]; exact hD
    refine w_forM (D := D) (A := A) (H0 := s.heap) (nL := 13) (N := n) (fun _ => True) (fun i => [(0, .ref x), (1, .ref (o 0)), (2, .int v), (3, .int (nI f)), (4, .int (nI ch)), (7, .int (-1)), (8, .ref q1), (9, .int (nI i))]) (fun i => (LW k a tr o fa ba x S U G T n nf (mL T n) (R ++ [(q1, .inl (k 0, n, .inl (hdG G T i)))]))) (fun ls H locs hI hl hP hD hS => ?_) (fun i hi hI ih ls H locs hl hP hD hS => ?_) 0 (Nat.zero_le _) trivial ?_ ?_ ?_ ?_
    · have hl : lv_has ls 13 [(0, .ref x), (1, .ref (o 0)), (2, .int v), (3, .int (nI f)), (4, .int (nI ch)), (7, .int (-1)), (8, .ref q1), (9, .int (nI n))] := hl
      have hP : va_P D vwCl (LW k a tr o fa ba x S U G T n nf (mL T n) (R ++ [(q1, .inl (k 0, n, .inl (hdG G T n)))])) H := hP
      have hD : va_D A (LW k a tr o fa ba x S U G T n nf (mL T n) (R ++ [(q1, .inl (k 0, n, .inl (hdG G T n)))])) := hD
      refine lv_iload hx hb dL_act_230 (lv_at hl 7 rfl) ?_
      refine lv_aload hx hb dL_act_232 (lv_at hl 6 rfl) ?_
      refine k_alen hx hb hE hP (64 + nf + n + (R.length + 0)) ((lw_Ri (i := 0)).trans rfl) dL_act_234 ?_
      refine lv_icmp_ge (tgt := 263) hx hb dL_act_235 (by decide) (fun c_2 => ?_) (fun c_ => absurd (nI_le (Nat.le_refl n) (Nat.lt_of_le_of_lt hn (by decide))) c_)
      refine lv_aload_n hx hb dL_act_263 rfl (lv_at hl 1 rfl) ?_
      refine va_get (D := D) (ci := 5) (v := .ref (o 2)) (C := RX5) (T := TX5) (N := 6) hx hb hts tu_5 hown hE.1 hP 59 lw_59 rfl 3 (by decide) (hts _ tw_738) (fun _ h9 => h9) rfl dL_act_264 ?_
      refine lv_iload_n hx hb dL_act_267 rfl (lv_at hl 3 rfl) ?_
      refine k_aald (j := f) hx hb hE hP 61 lw_61 hf (Nat.lt_of_le_of_lt hnf (by decide)) dL_act_268 ?_
      refine lv_iconst (v := 0) hx hb dL_act_269 (by decide) ?_
      refine lv_iload hx hb dL_act_270 (lv_at hl 4 rfl) ?_
      refine k_iast (j := 0) hx hb hE hP hD hS (64 + f) (lw_f hf) (by decide) (by decide) dL_act_272 (fun H locs hP hD hS => ?_)
      rw [lws_f0 hf] at hP hD
      have hP : va_P D vwCl (LW k a tr o fa ba x S U (sf G 1 (upd (G 1) f (nI ch))) T n nf (mL T n) (R ++ [(q1, .inl (k 0, n, .inl (hdG G T n)))])) H := hP
      have hD : va_D A (LW k a tr o fa ba x S U (sf G 1 (upd (G 1) f (nI ch))) T n nf (mL T n) (R ++ [(q1, .inl (k 0, n, .inl (hdG G T n)))])) := hD
      have hP : va_P D vwCl (LW k a tr o fa ba x S U (mSetC G f ch) T n nf (mL T n) (R ++ [(q1, .inl (k 0, n, .inl (hdG G T n)))])) H := hP
      have hD : va_D A (LW k a tr o fa ba x S U (mSetC G f ch) T n nf (mL T n) (R ++ [(q1, .inl (k 0, n, .inl (hdG G T n)))])) := hD
      refine lv_iconst (v := 0) hx hb dL_act_273 (by decide) ?_
      refine lv_istore (lv' := [(7, .int 0), (0, .ref x), (1, .ref (o 0)), (2, .int v), (3, .int (nI f)), (4, .int (nI ch)), (8, .ref q1), (9, .int (nI n))]) hx hb dL_act_274 hl (by decide) rfl (fun ls hl => ?_)
      refine lv_iconst (v := 0) hx hb dL_act_276 (by decide) ?_
      refine lv_istore (lv' := [(9, .int 0), (7, .int 0), (0, .ref x), (1, .ref (o 0)), (2, .int v), (3, .int (nI f)), (4, .int (nI ch)), (8, .ref q1)]) hx hb dL_act_277 hl (by decide) rfl (fun ls hl => ?_)
      refine w_forM (D := D) (A := A) (H0 := s.heap) (nL := 13) (N := n) (fun _ => True) (fun i => [(0, .ref x), (1, .ref (o 0)), (2, .int v), (3, .int (nI f)), (4, .int (nI ch)), (7, .int (nI (ct (fun j => mMis (mSetC G f ch) T j ∧ ¬ mMis G T j) i))), (8, .ref q1), (9, .int (nI i))]) (fun i => (LW k a tr o fa ba x S U (mSetC G f ch) T n nf (mL T n) (R ++ [(q1, .inl (k 0, n, .inl (hdG G T n)))]))) (fun ls H locs hI hl hP hD hS => ?_) (fun i hi hI ih ls H locs hl hP hD hS => ?_) 0 (Nat.zero_le _) trivial ?_ ?_ ?_ ?_
      · have hl : lv_has ls 13 [(0, .ref x), (1, .ref (o 0)), (2, .int v), (3, .int (nI f)), (4, .int (nI ch)), (7, .int (nI (ct (fun j => mMis (mSetC G f ch) T j ∧ ¬ mMis G T j) n))), (8, .ref q1), (9, .int (nI n))] := hl
        have hP : va_P D vwCl (LW k a tr o fa ba x S U (mSetC G f ch) T n nf (mL T n) (R ++ [(q1, .inl (k 0, n, .inl (hdG G T n)))])) H := hP
        have hD : va_D A (LW k a tr o fa ba x S U (mSetC G f ch) T n nf (mL T n) (R ++ [(q1, .inl (k 0, n, .inl (hdG G T n)))])) := hD
        refine lv_iload hx hb dL_act_279 (lv_at hl 7 rfl) ?_
        refine lv_aload hx hb dL_act_281 (lv_at hl 6 rfl) ?_
        refine k_alen hx hb hE hP (64 + nf + n + (R.length + 0)) ((lw_Ri (i := 0)).trans rfl) dL_act_283 ?_
        refine lv_icmp_ge (tgt := 320) hx hb dL_act_284 (by decide) (fun c_3 => ?_) (fun c_ => absurd (nI_le (Nat.le_refl n) (Nat.lt_of_le_of_lt hn (by decide))) c_)
        have hP := lw_dYP hP
        have hD := lw_dYD hD
        refine lv_aload_n hx hb dL_act_320 rfl (lv_at hl 0 rfl) ?_
        refine lv_iload_n hx hb dL_act_321 rfl (lv_at hl 3 rfl) ?_
        refine lv_iload hx hb dL_act_322 (lv_at hl 4 rfl) ?_
        refine c_mVi (rest := []) hC hE hP hD hS (ws' := (LW k a tr o fa ba x (xChg S (nI f) (nI ch)) U (mSetC G f ch) T n nf (mL T n) R)) lw_same (lx_giveChute l S (nI f) (nI ch) n hra.sn hn (xflt_n hra hf) (xch_n hch) ((ng_iff hra (by omega)).mpr z1)) gc_RL_40 hd_X4_giveChute ⟨rfl, rfl⟩ ⟨Nat.le_of_ble_eq_true rfl, Nat.le_of_ble_eq_true rfl⟩ 29 lw_29 rfl rfl hl.1 (Nat.le_of_ble_eq_true rfl) ⟨(Nat.le_of_ble_eq_true rfl), (by show 0 + n ≤ 1500; omega)⟩ dL_act_324 (fun H locs hP hD hS => ?_)
        refine w_top (show nI (xChgN S (nI f) (nI ch) n) = nI (ct (fun j => mMis (mSetC G f ch) T j ∧ ¬ mMis G T j) n) from congrArg nI ((chg_ct hra hrb hf hch).trans (give_ct hra hf z1).symm)) ?_
        refine lv_istore (lv' := [(6, .int (nI (ct (fun j => mMis (mSetC G f ch) T j ∧ ¬ mMis G T j) n))), (0, .ref x), (1, .ref (o 0)), (2, .int v), (3, .int (nI f)), (4, .int (nI ch)), (7, .int (nI (ct (fun j => mMis (mSetC G f ch) T j ∧ ¬ mMis G T j) n))), (8, .ref q1), (9, .int (nI n))]) hx hb dL_act_327 hl (by decide) rfl (fun ls hl => ?_)
        refine lv_goto (tgt := 337) hx hb dL_act_329 (by decide) ?_
        refine lv_iload hx hb dL_act_337 (lv_at hl 0 rfl) ?_
        refine lv_iload hx hb dL_act_339 (lv_at hl 6 rfl) ?_
        refine lv_icmp_ne (tgt := 348) hx hb dL_act_341 (by decide) (fun c_ => absurd rfl c_) (fun c_4 => ?_)
        refine lv_iconst (v := 1) hx hb dL_act_344 (by decide) ?_
        refine lv_goto (tgt := 349) hx hb dL_act_345 (by decide) ?_
        have e99 : (LW k a tr o fa ba x (xChg S (nI f) (nI ch)) U (mSetC G f ch) T n nf (mL T n) R) = (LW k a tr o fa ba x (xChg S (nI f) (nI ch)) U (mSetC G f ch) T n nf (mL T n) R) := rfl
        rw [← e99] at hP hD
        exact g_zret hx hb hr rfl hlk dL_act_349 hP hD hS ⟨rfl, o, fa, ba, (xChg S (nI f) (nI ch)), U, (mSetC G f ch), T, n, nf, hnf0, hra2, (RB_same hrb rfl rfl rfl rfl rfl rfl rfl rfl), hti, ⟨hgi.fi, hgi.op, hgi.ld, fun f9 h1 h2 => ⟨(upd_n (by omega)).trans (hgi.fr f9 h1 h2).1, (hgi.fr f9 h1 h2).2⟩⟩, ho, rfl⟩ (Nat.le_of_ble_eq_true rfl) (by show 0 + n ≤ 1500; omega)
      · have hl : lv_has ls 13 [(0, .ref x), (1, .ref (o 0)), (2, .int v), (3, .int (nI f)), (4, .int (nI ch)), (7, .int (nI (ct (fun j => mMis (mSetC G f ch) T j ∧ ¬ mMis G T j) i))), (8, .ref q1), (9, .int (nI i))] := hl
        have hP : va_P D vwCl (LW k a tr o fa ba x S U (mSetC G f ch) T n nf (mL T n) (R ++ [(q1, .inl (k 0, n, .inl (hdG G T n)))])) H := hP
        have hD : va_D A (LW k a tr o fa ba x S U (mSetC G f ch) T n nf (mL T n) (R ++ [(q1, .inl (k 0, n, .inl (hdG G T n)))])) := hD
        refine lv_iload hx hb dL_act_279 (lv_at hl 7 rfl) ?_
        refine lv_aload hx hb dL_act_281 (lv_at hl 6 rfl) ?_
        refine k_alen hx hb hE hP (64 + nf + n + (R.length + 0)) ((lw_Ri (i := 0)).trans rfl) dL_act_283 ?_
        refine lv_icmp_ge (tgt := 320) hx hb dL_act_284 (by decide) (fun c_ => absurd c_ (nI_ge hi (Nat.lt_of_le_of_lt hn (by decide)))) (fun c_5 => ?_)
        refine lv_iload hx hb dL_act_287 (lv_at hl 5 rfl) ?_
        refine lv_aload_n hx hb dL_act_289 rfl (lv_at hl 1 rfl) ?_
        refine lv_iload hx hb dL_act_290 (lv_at hl 7 rfl) ?_
        obtain ⟨f2, k1, k2, k3, k4, k5⟩ := flight_of hra2 hi
        refine c_pVi (rest := [.int (nI (ct (fun j => mMis (mSetC G f ch) T j ∧ ¬ mMis G T j) i))]) hC hE hP (metX5_isMisrouted l (mSetC G f ch) T hn hnf i f2 hi k1 k3) gc_RL_36 hd_X5_isMisrouted ⟨rfl, rfl⟩ ⟨Nat.le_of_ble_eq_true rfl, Nat.le_of_ble_eq_true rfl⟩ 59 lw_59 rfl rfl hl.1 (Nat.le_of_ble_eq_true rfl) ⟨(Nat.le_of_ble_eq_true rfl), (by show 0 + n ≤ 1500; omega)⟩ dL_act_292 ?_
        refine w_top (bI_cong (smis_iff hra2 k2 k5).symm) ?_
        refine lv_if_eq (tgt := 310) hx hb dL_act_295 (by decide) (fun c_6 => ?_) (fun c_6 => ?_)
        · have c_6 := bI_0 c_6
          refine lv_iconst (v := 0) hx hb dL_act_310 (by decide) ?_
          refine lv_iadd hx hb dL_act_311 ?_
          refine w_top (show (nI (ct (fun j => mMis (mSetC G f ch) T j ∧ ¬ mMis G T j) i)) + 0 = nI (ct (fun j => mMis (mSetC G f ch) T j ∧ ¬ mMis G T j) i) from Int32.add_zero _) ?_
          refine lv_istore (lv' := [(7, .int (nI (ct (fun j => mMis (mSetC G f ch) T j ∧ ¬ mMis G T j) i))), (0, .ref x), (1, .ref (o 0)), (2, .int v), (3, .int (nI f)), (4, .int (nI ch)), (8, .ref q1), (9, .int (nI i))]) hx hb dL_act_312 hl (by decide) rfl (fun ls hl => ?_)
          refine lv_iinc (v := nI (i + 1)) (lv' := [(9, .int (nI (i + 1))), (7, .int (nI (ct (fun j => mMis (mSetC G f ch) T j ∧ ¬ mMis G T j) i))), (0, .ref x), (1, .ref (o 0)), (2, .int v), (3, .int (nI f)), (4, .int (nI ch)), (8, .ref q1)]) hx hb dL_act_314 hl (k := 7) rfl (iinc1 _) (by decide) rfl (fun ls hl => ?_)
          refine lv_goto (tgt := 279) hx hb dL_act_317 (by decide) ?_
          have e9 : ct (fun j => mMis (mSetC G f ch) T j ∧ ¬ mMis G T j) (i + 1) = ct (fun j => mMis (mSetC G f ch) T j ∧ ¬ mMis G T j) i := ct_f (p := (fun j => mMis (mSetC G f ch) T j ∧ ¬ mMis G T j)) (fun z => c_6 z.1)
          have hP9 : va_P D vwCl (LW k a tr o fa ba x S U (mSetC G f ch) T n nf (mL T n) (R ++ [(q1, .inl (k 0, n, .inl (hdG G T n)))])) H := by exact hP
          have hD9 : va_D A (LW k a tr o fa ba x S U (mSetC G f ch) T n nf (mL T n) (R ++ [(q1, .inl (k 0, n, .inl (hdG G T n)))])) := by exact hD
          have h99 := ih ls H locs trivial (by show lv_has ls 13 [(0, .ref x), (1, .ref (o 0)), (2, .int v), (3, .int (nI f)), (4, .int (nI ch)), (7, .int (nI (ct (fun j => mMis (mSetC G f ch) T j ∧ ¬ mMis G T j) (i + 1)))), (8, .ref q1), (9, .int (nI (i + 1)))]; rw [e9]; exact lv_sub hl [2, 3, 4, 5, 6, 1, 7, 0] rfl)
          exact h99 hP9 hD9 hS
        · have c_6 := bI_n c_6
          refine lv_aload hx hb dL_act_298 (lv_at hl 6 rfl) ?_
          refine lv_iload hx hb dL_act_300 (lv_at hl 7 rfl) ?_
          refine k_iald (j := i) hx hb hE hP (64 + nf + n + (R.length + 0)) ((lw_Ri (i := 0)).trans rfl) hi (Nat.lt_of_le_of_lt hn (by decide)) dL_act_302 ?_
          refine w_top (show (hdG G T n) i = bI (mMis G T i) from hdG_at hi) ?_
          refine lv_if_ne (tgt := 310) hx hb dL_act_303 (by decide) (fun c_7 => ?_) (fun c_7 => ?_)
          · have c_7 := bI_n c_7
            refine lv_iconst (v := 0) hx hb dL_act_310 (by decide) ?_
            refine lv_iadd hx hb dL_act_311 ?_
            refine w_top (show (nI (ct (fun j => mMis (mSetC G f ch) T j ∧ ¬ mMis G T j) i)) + 0 = nI (ct (fun j => mMis (mSetC G f ch) T j ∧ ¬ mMis G T j) i) from Int32.add_zero _) ?_
            refine lv_istore (lv' := [(7, .int (nI (ct (fun j => mMis (mSetC G f ch) T j ∧ ¬ mMis G T j) i))), (0, .ref x), (1, .ref (o 0)), (2, .int v), (3, .int (nI f)), (4, .int (nI ch)), (8, .ref q1), (9, .int (nI i))]) hx hb dL_act_312 hl (by decide) rfl (fun ls hl => ?_)
            refine lv_iinc (v := nI (i + 1)) (lv' := [(9, .int (nI (i + 1))), (7, .int (nI (ct (fun j => mMis (mSetC G f ch) T j ∧ ¬ mMis G T j) i))), (0, .ref x), (1, .ref (o 0)), (2, .int v), (3, .int (nI f)), (4, .int (nI ch)), (8, .ref q1)]) hx hb dL_act_314 hl (k := 7) rfl (iinc1 _) (by decide) rfl (fun ls hl => ?_)
            refine lv_goto (tgt := 279) hx hb dL_act_317 (by decide) ?_
            have e9 : ct (fun j => mMis (mSetC G f ch) T j ∧ ¬ mMis G T j) (i + 1) = ct (fun j => mMis (mSetC G f ch) T j ∧ ¬ mMis G T j) i := ct_f (p := (fun j => mMis (mSetC G f ch) T j ∧ ¬ mMis G T j)) (fun z => z.2 c_7)
            have hP9 : va_P D vwCl (LW k a tr o fa ba x S U (mSetC G f ch) T n nf (mL T n) (R ++ [(q1, .inl (k 0, n, .inl (hdG G T n)))])) H := by exact hP
            have hD9 : va_D A (LW k a tr o fa ba x S U (mSetC G f ch) T n nf (mL T n) (R ++ [(q1, .inl (k 0, n, .inl (hdG G T n)))])) := by exact hD
            have h99 := ih ls H locs trivial (by show lv_has ls 13 [(0, .ref x), (1, .ref (o 0)), (2, .int v), (3, .int (nI f)), (4, .int (nI ch)), (7, .int (nI (ct (fun j => mMis (mSetC G f ch) T j ∧ ¬ mMis G T j) (i + 1)))), (8, .ref q1), (9, .int (nI (i + 1)))]; rw [e9]; exact lv_sub hl [2, 3, 4, 5, 6, 1, 7, 0] rfl)
            exact h99 hP9 hD9 hS
          · have c_7 := bI_0 c_7
            refine lv_iconst (v := 1) hx hb dL_act_306 (by decide) ?_
            refine lv_goto (tgt := 311) hx hb dL_act_307 (by decide) ?_
            refine lv_iadd hx hb dL_act_311 ?_
            refine w_top (show (nI (ct (fun j => mMis (mSetC G f ch) T j ∧ ¬ mMis G T j) i)) + 1 = nI (ct (fun j => mMis (mSetC G f ch) T j ∧ ¬ mMis G T j) i + 1) from nI_1 _) ?_
            refine lv_istore (lv' := [(7, .int (nI (ct (fun j => mMis (mSetC G f ch) T j ∧ ¬ mMis G T j) i + 1))), (0, .ref x), (1, .ref (o 0)), (2, .int v), (3, .int (nI f)), (4, .int (nI ch)), (8, .ref q1), (9, .int (nI i))]) hx hb dL_act_312 hl (by decide) rfl (fun ls hl => ?_)
            refine lv_iinc (v := nI (i + 1)) (lv' := [(9, .int (nI (i + 1))), (7, .int (nI (ct (fun j => mMis (mSetC G f ch) T j ∧ ¬ mMis G T j) i + 1))), (0, .ref x), (1, .ref (o 0)), (2, .int v), (3, .int (nI f)), (4, .int (nI ch)), (8, .ref q1)]) hx hb dL_act_314 hl (k := 7) rfl (iinc1 _) (by decide) rfl (fun ls hl => ?_)
            refine lv_goto (tgt := 279) hx hb dL_act_317 (by decide) ?_
            have e9 : ct (fun j => mMis (mSetC G f ch) T j ∧ ¬ mMis G T j) (i + 1) = ct (fun j => mMis (mSetC G f ch) T j ∧ ¬ mMis G T j) i + 1 := ct_t (p := (fun j => mMis (mSetC G f ch) T j ∧ ¬ mMis G T j)) ⟨c_6, c_7⟩
            have hP9 : va_P D vwCl (LW k a tr o fa ba x S U (mSetC G f ch) T n nf (mL T n) (R ++ [(q1, .inl (k 0, n, .inl (hdG G T n)))])) H := by exact hP
            have hD9 : va_D A (LW k a tr o fa ba x S U (mSetC G f ch) T n nf (mL T n) (R ++ [(q1, .inl (k 0, n, .inl (hdG G T n)))])) := by exact hD
            have h99 := ih ls H locs trivial (by show lv_has ls 13 [(0, .ref x), (1, .ref (o 0)), (2, .int v), (3, .int (nI f)), (4, .int (nI ch)), (7, .int (nI (ct (fun j => mMis (mSetC G f ch) T j ∧ ¬ mMis G T j) (i + 1)))), (8, .ref q1), (9, .int (nI (i + 1)))]; rw [e9]; exact lv_sub hl [2, 3, 4, 5, 6, 1, 7, 0] rfl)
            exact h99 hP9 hD9 hS
      · exact lv_sub hl [2, 3, 4, 5, 6, 1, 7, 0] rfl
      · exact hP
      · exact hD
      · exact hS
    · have hl : lv_has ls 13 [(0, .ref x), (1, .ref (o 0)), (2, .int v), (3, .int (nI f)), (4, .int (nI ch)), (7, .int (-1)), (8, .ref q1), (9, .int (nI i))] := hl
      have hP : va_P D vwCl (LW k a tr o fa ba x S U G T n nf (mL T n) (R ++ [(q1, .inl (k 0, n, .inl (hdG G T i)))])) H := hP
      have hD : va_D A (LW k a tr o fa ba x S U G T n nf (mL T n) (R ++ [(q1, .inl (k 0, n, .inl (hdG G T i)))])) := hD
      refine lv_iload hx hb dL_act_230 (lv_at hl 7 rfl) ?_
      refine lv_aload hx hb dL_act_232 (lv_at hl 6 rfl) ?_
      refine k_alen hx hb hE hP (64 + nf + n + (R.length + 0)) ((lw_Ri (i := 0)).trans rfl) dL_act_234 ?_
      refine lv_icmp_ge (tgt := 263) hx hb dL_act_235 (by decide) (fun c_ => absurd c_ (nI_ge hi (Nat.lt_of_le_of_lt hn (by decide)))) (fun c_8 => ?_)
      refine lv_aload hx hb dL_act_238 (lv_at hl 6 rfl) ?_
      refine lv_iload hx hb dL_act_240 (lv_at hl 7 rfl) ?_
      refine lv_aload_n hx hb dL_act_242 rfl (lv_at hl 1 rfl) ?_
      refine lv_iload hx hb dL_act_243 (lv_at hl 7 rfl) ?_
      obtain ⟨f2, k1, k2, k3, k4, k5⟩ := flight_of hra hi
      refine c_pVi (rest := [.int (nI i), .ref q1]) hC hE hP (metX5_isMisrouted l G T hn hnf i f2 hi k1 k3) gc_RL_36 hd_X5_isMisrouted ⟨rfl, rfl⟩ ⟨Nat.le_of_ble_eq_true rfl, Nat.le_of_ble_eq_true rfl⟩ 59 lw_59 rfl rfl hl.1 (Nat.le_of_ble_eq_true rfl) ⟨(Nat.le_of_ble_eq_true rfl), (by show 0 + n ≤ 1500; omega)⟩ dL_act_245 ?_
      refine w_top (bI_cong (smis_iff hra k2 k5).symm) ?_
      refine lv_if_eq (tgt := 255) hx hb dL_act_248 (by decide) (fun c_9 => ?_) (fun c_9 => ?_)
      · have c_9 := bI_0 c_9
        refine lv_iconst (v := 0) hx hb dL_act_255 (by decide) ?_
        refine k_iast (j := i) hx hb hE hP hD hS (64 + nf + n + (R.length + 0)) ((lw_Ri (i := 0)).trans rfl) hi (Nat.lt_of_le_of_lt hn (by decide)) dL_act_256 (fun H locs hP hD hS => ?_)
        rw [lw_Riset (i := 0)] at hP hD
        have hP : va_P D vwCl (LW k a tr o fa ba x S U G T n nf (mL T n) (R ++ [(q1, .inl (k 0, n, .inl (upd (hdG G T i) i 0)))])) H := hP
        have hD : va_D A (LW k a tr o fa ba x S U G T n nf (mL T n) (R ++ [(q1, .inl (k 0, n, .inl (upd (hdG G T i) i 0)))])) := hD
        refine lv_iinc (v := nI (i + 1)) (lv' := [(9, .int (nI (i + 1))), (0, .ref x), (1, .ref (o 0)), (2, .int v), (3, .int (nI f)), (4, .int (nI ch)), (7, .int (-1)), (8, .ref q1)]) hx hb dL_act_257 hl (k := 7) rfl (iinc1 _) (by decide) rfl (fun ls hl => ?_)
        refine lv_goto (tgt := 230) hx hb dL_act_260 (by decide) ?_
        have e9 : hdG G T (i + 1) = upd (hdG G T i) i 0 := hdG_s (bI_f c_9)
        have hP9 : va_P D vwCl (LW k a tr o fa ba x S U G T n nf (mL T n) (R ++ [(q1, .inl (k 0, n, .inl (hdG G T (i + 1))))])) H := by rw [e9]; exact hP
        have hD9 : va_D A (LW k a tr o fa ba x S U G T n nf (mL T n) (R ++ [(q1, .inl (k 0, n, .inl (hdG G T (i + 1))))])) := by rw [e9]; exact hD
        have h99 := ih ls H locs trivial (lv_sub hl [1, 2, 3, 4, 5, 6, 7, 0] rfl)
        exact h99 hP9 hD9 hS
      · have c_9 := bI_n c_9
        refine lv_iconst (v := 1) hx hb dL_act_251 (by decide) ?_
        refine lv_goto (tgt := 256) hx hb dL_act_252 (by decide) ?_
        refine k_iast (j := i) hx hb hE hP hD hS (64 + nf + n + (R.length + 0)) ((lw_Ri (i := 0)).trans rfl) hi (Nat.lt_of_le_of_lt hn (by decide)) dL_act_256 (fun H locs hP hD hS => ?_)
        rw [lw_Riset (i := 0)] at hP hD
        have hP : va_P D vwCl (LW k a tr o fa ba x S U G T n nf (mL T n) (R ++ [(q1, .inl (k 0, n, .inl (upd (hdG G T i) i 1)))])) H := hP
        have hD : va_D A (LW k a tr o fa ba x S U G T n nf (mL T n) (R ++ [(q1, .inl (k 0, n, .inl (upd (hdG G T i) i 1)))])) := hD
        refine lv_iinc (v := nI (i + 1)) (lv' := [(9, .int (nI (i + 1))), (0, .ref x), (1, .ref (o 0)), (2, .int v), (3, .int (nI f)), (4, .int (nI ch)), (7, .int (-1)), (8, .ref q1)]) hx hb dL_act_257 hl (k := 7) rfl (iinc1 _) (by decide) rfl (fun ls hl => ?_)
        refine lv_goto (tgt := 230) hx hb dL_act_260 (by decide) ?_
        have e9 : hdG G T (i + 1) = upd (hdG G T i) i 1 := hdG_s (bI_t c_9)
        have hP9 : va_P D vwCl (LW k a tr o fa ba x S U G T n nf (mL T n) (R ++ [(q1, .inl (k 0, n, .inl (hdG G T (i + 1))))])) H := by rw [e9]; exact hP
        have hD9 : va_D A (LW k a tr o fa ba x S U G T n nf (mL T n) (R ++ [(q1, .inl (k 0, n, .inl (hdG G T (i + 1))))])) := by rw [e9]; exact hD
        have h99 := ih ls H locs trivial (lv_sub hl [1, 2, 3, 4, 5, 6, 7, 0] rfl)
        exact h99 hP9 hD9 hS
    · exact lv_sub hl [2, 3, 4, 5, 6, 7, 1, 0] rfl
    · exact hP
    · exact hD
    · exact hS
  · refine lv_aload_n hx hb dL_act_207 rfl (lv_at hl 1 rfl) ?_
    refine va_get (D := D) (ci := 5) (v := .ref (o 2)) (C := RX5) (T := TX5) (N := 6) hx hb hts tu_5 hown hE.1 hP 59 lw_59 rfl 3 (by decide) (hts _ tw_738) (fun _ h9 => h9) rfl dL_act_208 ?_
    refine lv_iload_n hx hb dL_act_211 rfl (lv_at hl 3 rfl) ?_
    refine k_aald (j := f) hx hb hE hP 61 lw_61 hf (Nat.lt_of_le_of_lt hnf (by decide)) dL_act_212 ?_
    refine lv_iconst (v := 1) hx hb dL_act_213 (by decide) ?_
    refine k_iald (j := 1) hx hb hE hP (64 + f) (lw_f hf) (by decide) (by decide) dL_act_214 ?_
    refine w_top (show flR G f 1 = G 2 f from rfl) ?_
    refine lv_if_ne (tgt := 320) hx hb dL_act_215 (by decide) (fun c_10 => ?_) (fun c_ => absurd c_ z1)
    refine lv_aload_n hx hb dL_act_320 rfl (lv_at hl 0 rfl) ?_
    refine lv_iload_n hx hb dL_act_321 rfl (lv_at hl 3 rfl) ?_
    refine lv_iload hx hb dL_act_322 (lv_at hl 4 rfl) ?_
    refine c_xV (rest := []) (E := "java/lang/IllegalStateException") hC hE hP hX (zA_x hZ hS) (lxb_giveChute_2 l S (nI f) (nI ch) hfl (xflt_n hra hf) (xch_n hch) (fun z => z1 ((ng_iff hra (by omega)).mp z))) gc_RL_40 hd_X4_giveChute ⟨Nat.le_of_ble_eq_true rfl, Nat.le_of_ble_eq_true rfl⟩ 29 lw_29 rfl rfl hl.1 (Nat.le_of_ble_eq_true rfl) ⟨(Nat.le_of_ble_eq_true rfl), (Nat.le_of_ble_eq_true rfl)⟩ dL_act_324 (fun ce q9 H1 h1 h2 h3 hP1 hz1 hk1 => ?_)
    refine vx_catch (own := RL) (E := "java/lang/IllegalStateException") (name := "java/lang/IllegalStateException") hown [⟨180, 186, 189, 34⟩] ⟨320, 329, 332, 34⟩ [⟨585, 592, 595, 34⟩, ⟨892, 900, 903, 34⟩, ⟨982, 991, 994, 34⟩, ⟨1152, 1163, 1166, 34⟩] htab (fun z hz => Or.inl (by
        simp only [List.mem_cons, List.not_mem_nil, or_false] at hz
        rcases hz with rfl <;> rfl)) rfl (by decide) (hts _ tw_602) (va_Nw.use rfl (hX.2.1 (.castable "java/lang/IllegalStateException" "java/lang/IllegalStateException") (by decide +kernel))) h1 h2 h3 ?_
    have hS := vS_grown hS hz1 hk1
    have hP := hP1
    refine lv_astore (lv' := [(8, .ref q9), (0, .ref x), (1, .ref (o 0)), (2, .int v), (3, .int (nI f)), (4, .int (nI ch)), (7, .int (-1))]) hx hb dL_act_332 hl (by decide) rfl (fun ls hl => ?_)
    refine lv_iconst (v := (-1)) hx hb dL_act_334 (by decide) ?_
    refine lv_istore (lv' := [(6, .int (-1)), (8, .ref q9), (0, .ref x), (1, .ref (o 0)), (2, .int v), (3, .int (nI f)), (4, .int (nI ch)), (7, .int (-1))]) hx hb dL_act_335 hl (by decide) rfl (fun ls hl => ?_)
    refine lv_iload hx hb dL_act_337 (lv_at hl 0 rfl) ?_
    refine lv_iload hx hb dL_act_339 (lv_at hl 7 rfl) ?_
    refine lv_icmp_ne (tgt := 348) hx hb dL_act_341 (by decide) (fun c_ => absurd rfl c_) (fun c_11 => ?_)
    refine lv_iconst (v := 1) hx hb dL_act_344 (by decide) ?_
    refine lv_goto (tgt := 349) hx hb dL_act_345 (by decide) ?_
    have e99 : (LW k a tr o fa ba x S U G T n nf (mL T n) R) = (LW k a tr o fa ba x S U G T n nf (mL T n) R) := rfl
    rw [← e99] at hP hD
    exact g_zret hx hb hr rfl hlk dL_act_349 hP hD hS ⟨rfl, o, fa, ba, S, U, G, T, n, nf, hnf0, hra, hrb, hti, hgi, ho, rfl⟩ (Nat.le_of_ble_eq_true rfl) (Nat.le_of_ble_eq_true rfl)
set_option maxHeartbeats 1000000 in
set_option maxRecDepth 100000 in
theorem act_4 {p : Program} {l : Launch} {e : Env} {s : State} {m : MethodId} {args : Array Value} {below : List Frame} {meth : Method} {c : Code} {D : va_G} {k : Nat → ClassId} {A : Nat → Prop} {a tr o fa ba : Nat → Nat} {x q0 : Nat} {S U G T : HS} {n nf : Nat} {R : va_W} {ls : Array Slot} {H : Heap} {locs : List Loc} (hfl : l.stackTraces = false) (hC : CallFix p m c cL_act 13 s args lw_all RL) (hr : meth.sig.returnType = some .boolean) (hlk : meth.locks = false) (htab : c.exceptionTable.toList = tableOf actT) (hE : eK D k s) (hX : xK s) (hZ : zA A s s.heap) (hA : ∀ q : Nat, s.heap.size ≤ q → A q) (hnf0 : 0 < nf) (hra : RA S G n nf) (hrb : RB S T n) (hti : TI T n) (hgi : GI G T n nf) (ho : o 0 = q0) {v : Int32} {f ch : Nat} (hf : f < nf) (hch : ch < 4) (hl : lv_has ls 13 [(0, .ref x), (1, .ref (o 0)), (2, .int v), (3, .int (nI f)), (4, .int (nI ch)), (7, .int (-1))]) (hP : va_P D vwCl (LW k a tr o fa ba x S U G T n nf (mL T n) R) H) (hD : va_D A (LW k a tr o fa ba x S U G T n nf (mL T n) R)) (hS : va_S A s.heap H locs) : W p l e ({ frames := 8, cells := 40, slots := 1500, locals := 145 } : Room) s m args below meth c H locs 0 0 (MQ below (gQ D A (fun v9 w1 => v9 = some (.int 1) ∧ AS k a tr x q0 R w1)) args s 40 1500 A) (F0 m 350 ls []) := by
  have hx := hC.1
  have hb := hC.2.1
  have hown : s.vm.findClass RL = some m.cls := hC.2.2.2.1
  have hts := hC.2.2.2.2
  have hn := hra.n40
  have hnf := hra.nf6
  have hLn : mL T n ≤ n := ct_le _ n
  refine lv_aload_n hx hb dL_act_350 rfl (lv_at hl 1 rfl) ?_
  refine va_get (D := D) (ci := 5) (v := .int (G 0 2)) (C := RX5) (T := TX5) (N := 6) hx hb hts tu_5 hown hE.1 hP 59 lw_59 rfl 1 (by decide) (hts _ tw_734) (fun _ h9 => h9) rfl dL_act_351 ?_
  refine lv_istore (lv' := [(7, .int (G 0 2)), (0, .ref x), (1, .ref (o 0)), (2, .int v), (3, .int (nI f)), (4, .int (nI ch))]) hx hb dL_act_354 hl (by decide) rfl (fun ls hl => ?_)
  refine lv_aload_n hx hb dL_act_356 rfl (lv_at hl 2 rfl) ?_
  refine lv_iconst (v := 2) hx hb dL_act_357 (by decide) ?_
  refine lv_iload_n hx hb dL_act_358 rfl (lv_at hl 3 rfl) ?_
  refine lv_iconst (v := 5) hx hb dL_act_359 (by decide) ?_
  refine lv_ishr hx hb dL_act_360 ?_
  refine lv_bipush (v := 8) hx hb dL_act_361 (by decide) ?_
  refine c_pSi (rest := [.int 2, .ref (o 0)]) hC hE hP (metL_below l (v >>> (5 &&& 31)) 8 (by decide) (by decide)) gc_RL_15 hd_L_below ⟨rfl, rfl⟩ ⟨Nat.le_of_ble_eq_true rfl, Nat.le_of_ble_eq_true rfl⟩ rfl hl.1 (Nat.le_of_ble_eq_true rfl) ⟨(Nat.le_of_ble_eq_true rfl), (Nat.le_of_ble_eq_true rfl)⟩ dL_act_363 ?_
  obtain ⟨j1, hj1, ej1⟩ := bel_of (N := 8) (v >>> (5 &&& 31)) (by decide) (by decide)
  refine w_top ej1 ?_
  refine lv_iadd hx hb dL_act_366 ?_
  refine w_top (show 2 + (nI j1) = nI (2 + j1) from (nI_add 2 j1)) ?_
  refine va_put (D := D) (ci := 5) (v := .int (nI (2 + j1))) (ty := tyX5 1) (C := RX5) (T := TX5) (N := 6) hx hb hts tu_5 tyX5 tyX5_ok nmX5 hown hE.1 hP hD hS 59 lw_59 rfl 1 (by decide) (hts _ tw_734) (fun _ h9 => h9) rfl (tyX5_ok 1 (by decide)) rfl rfl (Nat.le_of_ble_eq_true rfl) dL_act_367 (fun H locs hP hD hS => ?_)
  rw [lws_st] at hP hD
  have hP : va_P D vwCl (LW k a tr o fa ba x S U (sf G 0 (upd (G 0) 2 (nI (2 + j1)))) T n nf (mL T n) R) H := hP
  have hD : va_D A (LW k a tr o fa ba x S U (sf G 0 (upd (G 0) 2 (nI (2 + j1)))) T n nf (mL T n) R) := hD
  refine lv_aload_n hx hb dL_act_370 rfl (lv_at hl 1 rfl) ?_
  refine lv_aload_n hx hb dL_act_371 rfl (lv_at hl 2 rfl) ?_
  refine va_get (D := D) (ci := 5) (v := .int ((sf G 0 (upd (G 0) 2 (nI (2 + j1)))) 0 2)) (C := RX5) (T := TX5) (N := 6) hx hb hts tu_5 hown hE.1 hP 59 lw_59 rfl 1 (by decide) (hts _ tw_734) (fun _ h9 => h9) rfl dL_act_372 ?_
  refine w_top (show (sf G 0 (upd (G 0) 2 (nI (2 + j1)))) 0 2 = nI (2 + j1) from rfl) ?_
  refine c_mVi (rest := []) hC hE hP hD hS (ws' := (LW k a tr o fa ba x (sf S 0 (upd (S 0) 1 (nI (2 + j1)))) U (sf G 0 (upd (G 0) 2 (nI (2 + j1)))) T n nf (mL T n) R)) lw_same (lx_setReader l S (nI (2 + j1)) ⟨nI_pos (by omega), le9 (by omega)⟩) gc_RL_47 hd_X4_setReader ⟨rfl, rfl⟩ ⟨Nat.le_of_ble_eq_true rfl, Nat.le_of_ble_eq_true rfl⟩ 29 lw_29 rfl rfl hl.1 (Nat.le_of_ble_eq_true rfl) ⟨(Nat.le_of_ble_eq_true rfl), (Nat.le_of_ble_eq_true rfl)⟩ dL_act_375 (fun H locs hP hD hS => ?_)
  refine w_top (show S 0 1 = G 0 2 from hra.str) ?_
  refine lv_iload hx hb dL_act_378 (lv_at hl 0 rfl) ?_
  refine lv_icmp_ne (tgt := 387) hx hb dL_act_380 (by decide) (fun c_ => absurd rfl c_) (fun c_1 => ?_)
  refine lv_iconst (v := 1) hx hb dL_act_383 (by decide) ?_
  refine lv_goto (tgt := 388) hx hb dL_act_384 (by decide) ?_
  have e99 : (LW k a tr o fa ba x (sf S 0 (upd (S 0) 1 (nI (2 + j1)))) U (sf (thr G 0) 0 (upd ((thr G 0) 0) 2 (nI (2 + j1)))) T n nf (mL T n) R) = (LW k a tr o fa ba x (sf S 0 (upd (S 0) 1 (nI (2 + j1)))) U (sf G 0 (upd (G 0) 2 (nI (2 + j1)))) T n nf (mL T n) R) := rfl
  rw [← e99] at hP hD
  exact g_zret hx hb hr rfl hlk dL_act_388 hP hD hS ⟨rfl, o, fa, ba, (sf S 0 (upd (S 0) 1 (nI (2 + j1)))), U, (sf (thr G 0) 0 (upd ((thr G 0) 0) 2 (nI (2 + j1)))), T, n, nf, hnf0, (set_ra hra _), (RB_same hrb rfl rfl rfl rfl rfl rfl rfl rfl), hti, (GI_same hgi rfl rfl rfl rfl rfl), ho, rfl⟩ (Nat.le_of_ble_eq_true rfl) (Nat.le_of_ble_eq_true rfl)
set_option maxHeartbeats 1000000 in
set_option maxRecDepth 100000 in
theorem act_5 {p : Program} {l : Launch} {e : Env} {s : State} {m : MethodId} {args : Array Value} {below : List Frame} {meth : Method} {c : Code} {D : va_G} {k : Nat → ClassId} {A : Nat → Prop} {a tr o fa ba : Nat → Nat} {x q0 : Nat} {S U G T : HS} {n nf : Nat} {R : va_W} {ls : Array Slot} {H : Heap} {locs : List Loc} (hfl : l.stackTraces = false) (hC : CallFix p m c cL_act 13 s args lw_all RL) (hr : meth.sig.returnType = some .boolean) (hlk : meth.locks = false) (htab : c.exceptionTable.toList = tableOf actT) (hE : eK D k s) (hX : xK s) (hZ : zA A s s.heap) (hA : ∀ q : Nat, s.heap.size ≤ q → A q) (hnf0 : 0 < nf) (hra : RA S G n nf) (hrb : RB S T n) (hti : TI T n) (hgi : GI G T n nf) (ho : o 0 = q0) {v : Int32} {f ch : Nat} (hf : f < nf) (hch : ch < 4) (hl : lv_has ls 13 [(0, .ref x), (1, .ref (o 0)), (2, .int v), (3, .int (nI f)), (4, .int (nI ch)), (7, .int (-1))]) (hP : va_P D vwCl (LW k a tr o fa ba x S U G T n nf (mL T n) R) H) (hD : va_D A (LW k a tr o fa ba x S U G T n nf (mL T n) R)) (hS : va_S A s.heap H locs) : W p l e ({ frames := 8, cells := 40, slots := 1500, locals := 145 } : Room) s m args below meth c H locs 0 0 (MQ below (gQ D A (fun v9 w1 => v9 = some (.int 1) ∧ AS k a tr x q0 R w1)) args s 40 1500 A) (F0 m 389 ls []) := by
  have hx := hC.1
  have hb := hC.2.1
  have hown : s.vm.findClass RL = some m.cls := hC.2.2.2.1
  have hts := hC.2.2.2.2
  have hn := hra.n40
  have hnf := hra.nf6
  have hLn : mL T n ≤ n := ct_le _ n
  refine lv_iconst (v := 1) hx hb dL_act_389 (by decide) ?_
  refine lv_iload_n hx hb dL_act_390 rfl (lv_at hl 2 rfl) ?_
  refine lv_iconst (v := 5) hx hb dL_act_391 (by decide) ?_
  refine lv_ishr hx hb dL_act_392 ?_
  refine lv_iload_n hx hb dL_act_393 rfl (lv_at hl 2 rfl) ?_
  refine lv_bipush (v := 7) hx hb dL_act_394 (by decide) ?_
  refine lv_ishr hx hb dL_act_396 ?_
  refine lv_iconst (v := 2) hx hb dL_act_397 (by decide) ?_
  refine c_pSi (rest := [.int (v >>> (5 &&& 31)), .int 1]) hC hE hP (metL_below l (v >>> (7 &&& 31)) 2 (by decide) (by decide)) gc_RL_15 hd_L_below ⟨rfl, rfl⟩ ⟨Nat.le_of_ble_eq_true rfl, Nat.le_of_ble_eq_true rfl⟩ rfl hl.1 (Nat.le_of_ble_eq_true rfl) ⟨(Nat.le_of_ble_eq_true rfl), (Nat.le_of_ble_eq_true rfl)⟩ dL_act_398 ?_
  obtain ⟨j1, hj1, ej1⟩ := bel_of (N := 2) (v >>> (7 &&& 31)) (by decide) (by decide)
  refine w_top ej1 ?_
  by_cases z1 : j1 = 0
  · refine lv_if_ne (tgt := 408) hx hb dL_act_401 (by decide) (fun c_ => absurd (by rw [z1]; rfl) c_) (fun c_1 => ?_)
    refine lv_iconst (v := 3) hx hb dL_act_404 (by decide) ?_
    refine lv_goto (tgt := 410) hx hb dL_act_405 (by decide) ?_
    refine c_pSi (rest := [.int 1]) hC hE hP (metL_below l (v >>> (5 &&& 31)) 3 (by decide) (by decide)) gc_RL_15 hd_L_below ⟨rfl, rfl⟩ ⟨Nat.le_of_ble_eq_true rfl, Nat.le_of_ble_eq_true rfl⟩ rfl hl.1 (Nat.le_of_ble_eq_true rfl) ⟨(Nat.le_of_ble_eq_true rfl), (Nat.le_of_ble_eq_true rfl)⟩ dL_act_410 ?_
    obtain ⟨j2, hj2, ej2⟩ := bel_of (N := 3) (v >>> (5 &&& 31)) (by decide) (by decide)
    refine w_top ej2 ?_
    refine lv_iadd hx hb dL_act_413 ?_
    refine w_top (show 1 + (nI j2) = nI (1 + j2) from (nI_add 1 j2)) ?_
    refine lv_istore (lv' := [(8, .int (nI (1 + j2))), (0, .ref x), (1, .ref (o 0)), (2, .int v), (3, .int (nI f)), (4, .int (nI ch)), (7, .int (-1))]) hx hb dL_act_414 hl (by decide) rfl (fun ls hl => ?_)
    refine lv_aload_n hx hb dL_act_416 rfl (lv_at hl 2 rfl) ?_
    refine va_get (D := D) (ci := 5) (v := .ref (o 1)) (C := RX5) (T := TX5) (N := 6) hx hb hts tu_5 hown hE.1 hP 59 lw_59 rfl 2 (by decide) (hts _ tw_736) (fun _ h9 => h9) rfl dL_act_417 ?_
    refine lv_iload hx hb dL_act_420 (lv_at hl 5 rfl) ?_
    refine k_iald (j := ch) hx hb hE hP 60 lw_60 hch (by decide) dL_act_422 ?_
    refine lv_istore (lv' := [(7, .int (G 3 ch)), (8, .int (nI (1 + j2))), (0, .ref x), (1, .ref (o 0)), (2, .int v), (3, .int (nI f)), (4, .int (nI ch))]) hx hb dL_act_423 hl (by decide) rfl (fun ls hl => ?_)
    refine lv_aload_n hx hb dL_act_425 rfl (lv_at hl 3 rfl) ?_
    refine va_get (D := D) (ci := 5) (v := .ref (o 1)) (C := RX5) (T := TX5) (N := 6) hx hb hts tu_5 hown hE.1 hP 59 lw_59 rfl 2 (by decide) (hts _ tw_736) (fun _ h9 => h9) rfl dL_act_426 ?_
    refine lv_iload hx hb dL_act_429 (lv_at hl 6 rfl) ?_
    refine lv_iload hx hb dL_act_431 (lv_at hl 1 rfl) ?_
    refine k_iast (j := ch) hx hb hE hP hD hS 60 lw_60 hch (by decide) dL_act_433 (fun H locs hP hD hS => ?_)
    rw [lws_rm] at hP hD
    have hP : va_P D vwCl (LW k a tr o fa ba x S U (sf G 3 (upd (G 3) ch (nI (1 + j2)))) T n nf (mL T n) R) H := hP
    have hD : va_D A (LW k a tr o fa ba x S U (sf G 3 (upd (G 3) ch (nI (1 + j2)))) T n nf (mL T n) R) := hD
    refine lv_aload_n hx hb dL_act_434 rfl (lv_at hl 2 rfl) ?_
    refine lv_iload hx hb dL_act_435 (lv_at hl 6 rfl) ?_
    refine lv_iload hx hb dL_act_437 (lv_at hl 1 rfl) ?_
    refine c_mVi (rest := []) hC hE hP hD hS (ws' := (LW k a tr o fa ba x (sf S 11 (wr 4 (S 11) (nI ch) (nI (1 + j2)))) U (sf G 3 (upd (G 3) ch (nI (1 + j2)))) T n nf (mL T n) R)) lw_same (lx_setRoom l S (nI ch) (nI (1 + j2)) (xch_n hch) ⟨ge1 (by omega) (by omega), le20 (by omega)⟩) gc_RL_55 hd_X4_setRoom ⟨rfl, rfl⟩ ⟨Nat.le_of_ble_eq_true rfl, Nat.le_of_ble_eq_true rfl⟩ 29 lw_29 rfl rfl hl.1 (Nat.le_of_ble_eq_true rfl) ⟨(Nat.le_of_ble_eq_true rfl), (Nat.le_of_ble_eq_true rfl)⟩ dL_act_439 (fun H locs hP hD hS => ?_)
    refine w_top (show rd 4 (S 11) (nI ch) = G 3 ch from (rd_4 hch).trans (hra.roo ch hch)) ?_
    refine lv_iload hx hb dL_act_442 (lv_at hl 0 rfl) ?_
    refine lv_icmp_ne (tgt := 451) hx hb dL_act_444 (by decide) (fun c_ => absurd rfl c_) (fun c_2 => ?_)
    refine lv_iconst (v := 1) hx hb dL_act_447 (by decide) ?_
    refine lv_goto (tgt := 452) hx hb dL_act_448 (by decide) ?_
    have e99 : (LW k a tr o fa ba x (sf S 11 (wr 4 (S 11) (nI ch) (nI (1 + j2)))) U (sf (thr G 0) 3 (upd (G 3) ch (nI (1 + j2)))) T n nf (mL T n) R) = (LW k a tr o fa ba x (sf S 11 (wr 4 (S 11) (nI ch) (nI (1 + j2)))) U (sf G 3 (upd (G 3) ch (nI (1 + j2)))) T n nf (mL T n) R) := rfl
    rw [← e99] at hP hD
    exact g_zret hx hb hr rfl hlk dL_act_452 hP hD hS ⟨rfl, o, fa, ba, (sf S 11 (wr 4 (S 11) (nI ch) (nI (1 + j2)))), U, (sf (thr G 0) 3 (upd (G 3) ch (nI (1 + j2)))), T, n, nf, hnf0, (roo_ra hra hch _), (RB_same hrb rfl rfl rfl rfl rfl rfl rfl rfl), hti, (GI_same hgi rfl rfl rfl rfl rfl), ho, rfl⟩ (Nat.le_of_ble_eq_true rfl) (Nat.le_of_ble_eq_true rfl)
  · refine lv_if_ne (tgt := 408) hx hb dL_act_401 (by decide) (fun c_3 => ?_) (fun c_ => absurd c_ (fun z => z1 (nI_inj (b := 0) (by omega) (by decide) z)))
    refine lv_bipush (v := 20) hx hb dL_act_408 (by decide) ?_
    refine c_pSi (rest := [.int 1]) hC hE hP (metL_below l (v >>> (5 &&& 31)) 20 (by decide) (by decide)) gc_RL_15 hd_L_below ⟨rfl, rfl⟩ ⟨Nat.le_of_ble_eq_true rfl, Nat.le_of_ble_eq_true rfl⟩ rfl hl.1 (Nat.le_of_ble_eq_true rfl) ⟨(Nat.le_of_ble_eq_true rfl), (Nat.le_of_ble_eq_true rfl)⟩ dL_act_410 ?_
    obtain ⟨j2, hj2, ej2⟩ := bel_of (N := 20) (v >>> (5 &&& 31)) (by decide) (by decide)
    refine w_top ej2 ?_
    refine lv_iadd hx hb dL_act_413 ?_
    refine w_top (show 1 + (nI j2) = nI (1 + j2) from (nI_add 1 j2)) ?_
    refine lv_istore (lv' := [(8, .int (nI (1 + j2))), (0, .ref x), (1, .ref (o 0)), (2, .int v), (3, .int (nI f)), (4, .int (nI ch)), (7, .int (-1))]) hx hb dL_act_414 hl (by decide) rfl (fun ls hl => ?_)
    refine lv_aload_n hx hb dL_act_416 rfl (lv_at hl 2 rfl) ?_
    refine va_get (D := D) (ci := 5) (v := .ref (o 1)) (C := RX5) (T := TX5) (N := 6) hx hb hts tu_5 hown hE.1 hP 59 lw_59 rfl 2 (by decide) (hts _ tw_736) (fun _ h9 => h9) rfl dL_act_417 ?_
    refine lv_iload hx hb dL_act_420 (lv_at hl 5 rfl) ?_
    refine k_iald (j := ch) hx hb hE hP 60 lw_60 hch (by decide) dL_act_422 ?_
    refine lv_istore (lv' := [(7, .int (G 3 ch)), (8, .int (nI (1 + j2))), (0, .ref x), (1, .ref (o 0)), (2, .int v), (3, .int (nI f)), (4, .int (nI ch))]) hx hb dL_act_423 hl (by decide) rfl (fun ls hl => ?_)
    refine lv_aload_n hx hb dL_act_425 rfl (lv_at hl 3 rfl) ?_
    refine va_get (D := D) (ci := 5) (v := .ref (o 1)) (C := RX5) (T := TX5) (N := 6) hx hb hts tu_5 hown hE.1 hP 59 lw_59 rfl 2 (by decide) (hts _ tw_736) (fun _ h9 => h9) rfl dL_act_426 ?_
    refine lv_iload hx hb dL_act_429 (lv_at hl 6 rfl) ?_
    refine lv_iload hx hb dL_act_431 (lv_at hl 1 rfl) ?_
    refine k_iast (j := ch) hx hb hE hP hD hS 60 lw_60 hch (by decide) dL_act_433 (fun H locs hP hD hS => ?_)
    rw [lws_rm] at hP hD
    have hP : va_P D vwCl (LW k a tr o fa ba x S U (sf G 3 (upd (G 3) ch (nI (1 + j2)))) T n nf (mL T n) R) H := hP
    have hD : va_D A (LW k a tr o fa ba x S U (sf G 3 (upd (G 3) ch (nI (1 + j2)))) T n nf (mL T n) R) := hD
    refine lv_aload_n hx hb dL_act_434 rfl (lv_at hl 2 rfl) ?_
    refine lv_iload hx hb dL_act_435 (lv_at hl 6 rfl) ?_
    refine lv_iload hx hb dL_act_437 (lv_at hl 1 rfl) ?_
    refine c_mVi (rest := []) hC hE hP hD hS (ws' := (LW k a tr o fa ba x (sf S 11 (wr 4 (S 11) (nI ch) (nI (1 + j2)))) U (sf G 3 (upd (G 3) ch (nI (1 + j2)))) T n nf (mL T n) R)) lw_same (lx_setRoom l S (nI ch) (nI (1 + j2)) (xch_n hch) ⟨ge1 (by omega) (by omega), le20 (by omega)⟩) gc_RL_55 hd_X4_setRoom ⟨rfl, rfl⟩ ⟨Nat.le_of_ble_eq_true rfl, Nat.le_of_ble_eq_true rfl⟩ 29 lw_29 rfl rfl hl.1 (Nat.le_of_ble_eq_true rfl) ⟨(Nat.le_of_ble_eq_true rfl), (Nat.le_of_ble_eq_true rfl)⟩ dL_act_439 (fun H locs hP hD hS => ?_)
    refine w_top (show rd 4 (S 11) (nI ch) = G 3 ch from (rd_4 hch).trans (hra.roo ch hch)) ?_
    refine lv_iload hx hb dL_act_442 (lv_at hl 0 rfl) ?_
    refine lv_icmp_ne (tgt := 451) hx hb dL_act_444 (by decide) (fun c_ => absurd rfl c_) (fun c_4 => ?_)
    refine lv_iconst (v := 1) hx hb dL_act_447 (by decide) ?_
    refine lv_goto (tgt := 452) hx hb dL_act_448 (by decide) ?_
    have e99 : (LW k a tr o fa ba x (sf S 11 (wr 4 (S 11) (nI ch) (nI (1 + j2)))) U (sf (thr G 0) 3 (upd (G 3) ch (nI (1 + j2)))) T n nf (mL T n) R) = (LW k a tr o fa ba x (sf S 11 (wr 4 (S 11) (nI ch) (nI (1 + j2)))) U (sf G 3 (upd (G 3) ch (nI (1 + j2)))) T n nf (mL T n) R) := rfl
    rw [← e99] at hP hD
    exact g_zret hx hb hr rfl hlk dL_act_452 hP hD hS ⟨rfl, o, fa, ba, (sf S 11 (wr 4 (S 11) (nI ch) (nI (1 + j2)))), U, (sf (thr G 0) 3 (upd (G 3) ch (nI (1 + j2)))), T, n, nf, hnf0, (roo_ra hra hch _), (RB_same hrb rfl rfl rfl rfl rfl rfl rfl rfl), hti, (GI_same hgi rfl rfl rfl rfl rfl), ho, rfl⟩ (Nat.le_of_ble_eq_true rfl) (Nat.le_of_ble_eq_true rfl)
set_option maxHeartbeats 1000000 in
set_option maxRecDepth 100000 in
theorem act_6 {p : Program} {l : Launch} {e : Env} {s : State} {m : MethodId} {args : Array Value} {below : List Frame} {meth : Method} {c : Code} {D : va_G} {k : Nat → ClassId} {A : Nat → Prop} {a tr o fa ba : Nat → Nat} {x q0 : Nat} {S U G T : HS} {n nf : Nat} {R : va_W} {ls : Array Slot} {H : Heap} {locs : List Loc} (hfl : l.stackTraces = false) (hC : CallFix p m c cL_act 13 s args lw_all RL) (hr : meth.sig.returnType = some .boolean) (hlk : meth.locks = false) (htab : c.exceptionTable.toList = tableOf actT) (hE : eK D k s) (hX : xK s) (hZ : zA A s s.heap) (hA : ∀ q : Nat, s.heap.size ≤ q → A q) (hnf0 : 0 < nf) (hra : RA S G n nf) (hrb : RB S T n) (hti : TI T n) (hgi : GI G T n nf) (ho : o 0 = q0) {v : Int32} {f ch : Nat} (hf : f < nf) (hch : ch < 4) (hl : lv_has ls 13 [(0, .ref x), (1, .ref (o 0)), (2, .int v), (3, .int (nI f)), (4, .int (nI ch)), (7, .int (-1))]) (hP : va_P D vwCl (LW k a tr o fa ba x S U G T n nf (mL T n) R) H) (hD : va_D A (LW k a tr o fa ba x S U G T n nf (mL T n) R)) (hS : va_S A s.heap H locs) : W p l e ({ frames := 8, cells := 40, slots := 1500, locals := 145 } : Room) s m args below meth c H locs 0 0 (MQ below (gQ D A (fun v9 w1 => v9 = some (.int 1) ∧ AS k a tr x q0 R w1)) args s 40 1500 A) (F0 m 453 ls []) := by
  have hx := hC.1
  have hb := hC.2.1
  have hown : s.vm.findClass RL = some m.cls := hC.2.2.2.1
  have hts := hC.2.2.2.2
  have hn := hra.n40
  have hnf := hra.nf6
  have hLn : mL T n ≤ n := ct_le _ n
  by_cases z1 : G 2 f = 0
  · refine lv_aload_n hx hb dL_act_453 rfl (lv_at hl 1 rfl) ?_
    refine va_get (D := D) (ci := 5) (v := .ref (o 2)) (C := RX5) (T := TX5) (N := 6) hx hb hts tu_5 hown hE.1 hP 59 lw_59 rfl 3 (by decide) (hts _ tw_738) (fun _ h9 => h9) rfl dL_act_454 ?_
    refine lv_iload_n hx hb dL_act_457 rfl (lv_at hl 3 rfl) ?_
    refine k_aald (j := f) hx hb hE hP 61 lw_61 hf (Nat.lt_of_le_of_lt hnf (by decide)) dL_act_458 ?_
    refine lv_iconst (v := 1) hx hb dL_act_459 (by decide) ?_
    refine k_iald (j := 1) hx hb hE hP (64 + f) (lw_f hf) (by decide) (by decide) dL_act_460 ?_
    refine w_top (show flR G f 1 = G 2 f from rfl) ?_
    refine w_top (show G 2 f = 0 from z1) ?_
    refine lv_if_ne (tgt := 572) hx hb dL_act_461 (by decide) (fun c_ => absurd rfl c_) (fun c_1 => ?_)
    refine lv_iload_n hx hb dL_act_464 rfl (lv_at hl 2 rfl) ?_
    refine lv_bipush (v := 7) hx hb dL_act_465 (by decide) ?_
    refine lv_ishr hx hb dL_act_467 ?_
    refine lv_iconst (v := 2) hx hb dL_act_468 (by decide) ?_
    refine c_pSi (rest := []) hC hE hP (metL_below l (v >>> (7 &&& 31)) 2 (by decide) (by decide)) gc_RL_15 hd_L_below ⟨rfl, rfl⟩ ⟨Nat.le_of_ble_eq_true rfl, Nat.le_of_ble_eq_true rfl⟩ rfl hl.1 (Nat.le_of_ble_eq_true rfl) ⟨(Nat.le_of_ble_eq_true rfl), (Nat.le_of_ble_eq_true rfl)⟩ dL_act_469 ?_
    obtain ⟨j1, hj1, ej1⟩ := bel_of (N := 2) (v >>> (7 &&& 31)) (by decide) (by decide)
    refine w_top ej1 ?_
    by_cases z2 : j1 = 0
    · refine lv_if_ne (tgt := 572) hx hb dL_act_472 (by decide) (fun c_ => absurd (by rw [z2]; rfl) c_) (fun c_2 => ?_)
      refine lv_iconst (v := 0) hx hb dL_act_475 (by decide) ?_
      refine lv_istore (lv' := [(7, .int 0), (0, .ref x), (1, .ref (o 0)), (2, .int v), (3, .int (nI f)), (4, .int (nI ch))]) hx hb dL_act_476 hl (by decide) rfl (fun ls hl => ?_)
      refine lv_iconst (v := 0) hx hb dL_act_478 (by decide) ?_
      refine lv_istore (lv' := [(8, .int 0), (7, .int 0), (0, .ref x), (1, .ref (o 0)), (2, .int v), (3, .int (nI f)), (4, .int (nI ch))]) hx hb dL_act_479 hl (by decide) rfl (fun ls hl => ?_)
      refine w_forM (D := D) (A := A) (H0 := s.heap) (nL := 13) (N := n) (fun _ => True) (fun i => [(0, .ref x), (1, .ref (o 0)), (2, .int v), (3, .int (nI f)), (4, .int (nI ch)), (7, .int (nI (mLv G T f i).1)), (8, .int (nI i))]) (fun i => (LW k a tr o fa ba x S U (mLv G T f i).2.1 (mLv G T f i).2.2 n nf (mL T n) R)) (fun ls H locs hI hl hP hD hS => ?_) (fun i hi hI ih ls H locs hl hP hD hS => ?_) 0 (Nat.zero_le _) trivial ?_ ?_ ?_ ?_
      · have hl : lv_has ls 13 [(0, .ref x), (1, .ref (o 0)), (2, .int v), (3, .int (nI f)), (4, .int (nI ch)), (7, .int (nI (mLv G T f n).1)), (8, .int (nI n))] := hl
        have hP : va_P D vwCl (LW k a tr o fa ba x S U (mLv G T f n).2.1 (mLv G T f n).2.2 n nf (mL T n) R) H := hP
        have hD : va_D A (LW k a tr o fa ba x S U (mLv G T f n).2.1 (mLv G T f n).2.2 n nf (mL T n) R) := hD
        refine lv_iload hx hb dL_act_481 (lv_at hl 6 rfl) ?_
        refine lv_aload_n hx hb dL_act_483 rfl (lv_at hl 1 rfl) ?_
        refine va_get (D := D) (ci := 5) (v := .ref (o 3)) (C := RX5) (T := TX5) (N := 6) hx hb hts tu_5 hown hE.1 hP 59 lw_59 rfl 4 (by decide) (hts _ tw_740) (fun _ h9 => h9) rfl dL_act_484 ?_
        refine k_olen hx hb hE hP 62 lw_62 dL_act_487 ?_
        refine lv_icmp_ge (tgt := 560) hx hb dL_act_488 (by decide) (fun c_3 => ?_) (fun c_ => absurd (nI_le (Nat.le_refl n) (Nat.lt_of_le_of_lt hn (by decide))) c_)
        refine lv_aload_n hx hb dL_act_560 rfl (lv_at hl 1 rfl) ?_
        refine va_get (D := D) (ci := 5) (v := .ref (o 2)) (C := RX5) (T := TX5) (N := 6) hx hb hts tu_5 hown hE.1 hP 59 lw_59 rfl 3 (by decide) (hts _ tw_738) (fun _ h9 => h9) rfl dL_act_561 ?_
        refine lv_iload_n hx hb dL_act_564 rfl (lv_at hl 3 rfl) ?_
        refine k_aald (j := f) hx hb hE hP 61 lw_61 hf (Nat.lt_of_le_of_lt hnf (by decide)) dL_act_565 ?_
        refine lv_iconst (v := 1) hx hb dL_act_566 (by decide) ?_
        refine lv_iconst (v := 1) hx hb dL_act_567 (by decide) ?_
        refine k_iast (j := 1) hx hb hE hP hD hS (64 + f) (lw_f hf) (by decide) (by decide) dL_act_568 (fun H locs hP hD hS => ?_)
        have hP := lws_f1P hf hP
        have hD := lws_f1D hf hD
        have hP : va_P D vwCl (LW k a tr o fa ba x S U (sf (mLv G T f n).2.1 2 (upd ((mLv G T f n).2.1 2) f 1)) (mLv G T f n).2.2 n nf (mL T n) R) H := hP
        have hD : va_D A (LW k a tr o fa ba x S U (sf (mLv G T f n).2.1 2 (upd ((mLv G T f n).2.1 2) f 1)) (mLv G T f n).2.2 n nf (mL T n) R) := hD
        refine lv_goto (tgt := 585) hx hb dL_act_569 (by decide) ?_
        refine lv_aload_n hx hb dL_act_585 rfl (lv_at hl 0 rfl) ?_
        refine lv_iload_n hx hb dL_act_586 rfl (lv_at hl 3 rfl) ?_
        obtain ⟨ha9, hb9, hc9⟩ := depart_rel hra hrb (f := f) n (Nat.le_refl n)
        refine c_mVi (rest := []) hC hE hP hD hS (ws' := (LW k a tr o fa ba x (xLeave S (nI f) n) U (sf (mLv G T f n).2.1 2 (upd ((mLv G T f n).2.1 2) f 1)) (mLv G T f n).2.2 n nf (mL T n) R)) lw_same (lx_depart l S (nI f) n hra.sn hn (xflt_n hra hf) ((ng_iff hra (by omega)).mpr z1)) gc_RL_62 hd_X4_depart ⟨rfl, rfl⟩ ⟨Nat.le_of_ble_eq_true rfl, Nat.le_of_ble_eq_true rfl⟩ 29 lw_29 rfl rfl hl.1 (Nat.le_of_ble_eq_true rfl) ⟨(Nat.le_of_ble_eq_true rfl), (Nat.le_of_ble_eq_true rfl)⟩ dL_act_587 (fun H locs hP hD hS => ?_)
        refine w_top (show nI (xLv S (nI f) n).1 = nI (mLv G T f n).1 from congrArg nI hc9) ?_
        refine lv_istore (lv' := [(6, .int (nI (mLv G T f n).1)), (0, .ref x), (1, .ref (o 0)), (2, .int v), (3, .int (nI f)), (4, .int (nI ch)), (7, .int (nI (mLv G T f n).1)), (8, .int (nI n))]) hx hb dL_act_590 hl (by decide) rfl (fun ls hl => ?_)
        refine lv_goto (tgt := 600) hx hb dL_act_592 (by decide) ?_
        refine lv_iload hx hb dL_act_600 (lv_at hl 0 rfl) ?_
        refine lv_iload hx hb dL_act_602 (lv_at hl 6 rfl) ?_
        refine lv_icmp_ne (tgt := 611) hx hb dL_act_604 (by decide) (fun c_ => absurd rfl c_) (fun c_4 => ?_)
        refine lv_iconst (v := 1) hx hb dL_act_607 (by decide) ?_
        refine lv_goto (tgt := 612) hx hb dL_act_608 (by decide) ?_
        obtain ⟨ht9, hd9⟩ := depart_keep hti hgi hf hnf (by rw [z1]; decide) (fun b hb => (hra.fli b hb).2) n (Nat.le_refl n)
        have e99 : (LW k a tr o fa ba x (xLeave S (nI f) n) U (sf (mLv G T f n).2.1 2 (upd ((mLv G T f n).2.1 2) f 1)) (mLv G T f n).2.2 n nf (mL (mLv G T f n).2.2 n) R) = (LW k a tr o fa ba x (xLeave S (nI f) n) U (sf (mLv G T f n).2.1 2 (upd ((mLv G T f n).2.1 2) f 1)) (mLv G T f n).2.2 n nf (mL T n) R) := (by rw [mL_eq hrb hb9 (congrFun (mLv_T0 G T f n) 1)])
        rw [← e99] at hP hD
        exact g_zret hx hb hr rfl hlk dL_act_612 hP hD hS ⟨rfl, o, fa, ba, (xLeave S (nI f) n), U, (sf (mLv G T f n).2.1 2 (upd ((mLv G T f n).2.1 2) f 1)), (mLv G T f n).2.2, n, nf, hnf0, (gon_ra ha9 (by omega)), (RB_same hb9 rfl rfl rfl rfl rfl rfl rfl rfl), ht9, (depart_gi hgi hf hd9 hra.gob), ho, rfl⟩ (Nat.le_of_ble_eq_true rfl) (Nat.le_of_ble_eq_true rfl)
      · have hl : lv_has ls 13 [(0, .ref x), (1, .ref (o 0)), (2, .int v), (3, .int (nI f)), (4, .int (nI ch)), (7, .int (nI (mLv G T f i).1)), (8, .int (nI i))] := hl
        have hP : va_P D vwCl (LW k a tr o fa ba x S U (mLv G T f i).2.1 (mLv G T f i).2.2 n nf (mL T n) R) H := hP
        have hD : va_D A (LW k a tr o fa ba x S U (mLv G T f i).2.1 (mLv G T f i).2.2 n nf (mL T n) R) := hD
        refine lv_iload hx hb dL_act_481 (lv_at hl 6 rfl) ?_
        refine lv_aload_n hx hb dL_act_483 rfl (lv_at hl 1 rfl) ?_
        refine va_get (D := D) (ci := 5) (v := .ref (o 3)) (C := RX5) (T := TX5) (N := 6) hx hb hts tu_5 hown hE.1 hP 59 lw_59 rfl 4 (by decide) (hts _ tw_740) (fun _ h9 => h9) rfl dL_act_484 ?_
        refine k_olen hx hb hE hP 62 lw_62 dL_act_487 ?_
        refine lv_icmp_ge (tgt := 560) hx hb dL_act_488 (by decide) (fun c_ => absurd c_ (nI_ge hi (Nat.lt_of_le_of_lt hn (by decide)))) (fun c_5 => ?_)
        refine lv_aload_n hx hb dL_act_491 rfl (lv_at hl 1 rfl) ?_
        refine va_get (D := D) (ci := 5) (v := .ref (o 3)) (C := RX5) (T := TX5) (N := 6) hx hb hts tu_5 hown hE.1 hP 59 lw_59 rfl 4 (by decide) (hts _ tw_740) (fun _ h9 => h9) rfl dL_act_492 ?_
        refine lv_iload hx hb dL_act_495 (lv_at hl 6 rfl) ?_
        refine k_aald (j := i) hx hb hE hP 62 lw_62 hi (Nat.lt_of_le_of_lt hn (by decide)) dL_act_497 ?_
        refine lv_astore (lv' := [(9, .ref (ba i)), (0, .ref x), (1, .ref (o 0)), (2, .int v), (3, .int (nI f)), (4, .int (nI ch)), (7, .int (nI (mLv G T f i).1)), (8, .int (nI i))]) hx hb dL_act_498 hl (by decide) rfl (fun ls hl => ?_)
        refine lv_aload hx hb dL_act_500 (lv_at hl 0 rfl) ?_
        refine lv_iconst (v := 0) hx hb dL_act_502 (by decide) ?_
        refine k_iald (j := 0) hx hb hE hP (64 + nf + i) (lw_b hi) (by decide) (by decide) dL_act_503 ?_
        refine w_top (show bgR (mLv G T f i).2.1 (mLv G T f i).2.2 i 0 = (mLv G T f i).2.1 4 i from rfl) ?_
        refine lv_iload_n hx hb dL_act_504 rfl (lv_at hl 4 rfl) ?_
        refine lv_icmp_eq (tgt := 511) hx hb dL_act_505 (by decide) (fun c_6 => ?_) (fun c_6 => ?_)
        · have eix : ix ((mLv G T f i).2.1 4 i) = f := by rw [c_6, ix_i (by omega)]
          refine lv_aload hx hb dL_act_511 (lv_at hl 0 rfl) ?_
          refine lv_iconst (v := 3) hx hb dL_act_513 (by decide) ?_
          refine k_iald (j := 3) hx hb hE hP (64 + nf + i) (lw_b hi) (by decide) (by decide) dL_act_514 ?_
          refine w_top (show bgR (mLv G T f i).2.1 (mLv G T f i).2.2 i 3 = (mLv G T f i).2.2 1 i from rfl) ?_
          refine lv_iconst (v := 2) hx hb dL_act_515 (by decide) ?_
          refine lv_icmp_ne (tgt := 548) hx hb dL_act_516 (by decide) (fun c_7 => ?_) (fun c_7 => ?_)
          · refine lv_aload hx hb dL_act_548 (lv_at hl 0 rfl) ?_
            refine lv_bipush (v := 7) hx hb dL_act_550 (by decide) ?_
            refine lv_iconst (v := 1) hx hb dL_act_552 (by decide) ?_
            refine k_iast (j := 7) hx hb hE hP hD hS (64 + nf + i) (lw_b hi) (by decide) (by decide) dL_act_553 (fun H locs hP hD hS => ?_)
            have hP := lws_b7P hi hP
            have hD := lws_b7D hi hD
            have hP : va_P D vwCl (LW k a tr o fa ba x S U (sf (mLv G T f i).2.1 7 (upd ((mLv G T f i).2.1 7) i 1)) (mLv G T f i).2.2 n nf (mL T n) R) H := hP
            have hD : va_D A (LW k a tr o fa ba x S U (sf (mLv G T f i).2.1 7 (upd ((mLv G T f i).2.1 7) i 1)) (mLv G T f i).2.2 n nf (mL T n) R) := hD
            refine lv_iinc (v := nI (i + 1)) (lv' := [(8, .int (nI (i + 1))), (9, .ref (ba i)), (0, .ref x), (1, .ref (o 0)), (2, .int v), (3, .int (nI f)), (4, .int (nI ch)), (7, .int (nI (mLv G T f i).1))]) hx hb dL_act_554 hl (k := 7) rfl (iinc1 _) (by decide) rfl (fun ls hl => ?_)
            refine lv_goto (tgt := 481) hx hb dL_act_557 (by decide) ?_
            have e9 : mLv G T f (i + 1) = ((mLv G T f i).1, sf (mLv G T f i).2.1 7 (upd ((mLv G T f i).2.1 7) i 1), (mLv G T f i).2.2) := (sel_t c_6 _ _).trans (sel_f (fun z => c_7 z.1) _ _)
            have hP9 : va_P D vwCl (LW k a tr o fa ba x S U (mLv G T f (i + 1)).2.1 (mLv G T f (i + 1)).2.2 n nf (mL T n) R) H := by rw [e9]; exact hP
            have hD9 : va_D A (LW k a tr o fa ba x S U (mLv G T f (i + 1)).2.1 (mLv G T f (i + 1)).2.2 n nf (mL T n) R) := by rw [e9]; exact hD
            have h99 := ih ls H locs trivial (by show lv_has ls 13 [(0, .ref x), (1, .ref (o 0)), (2, .int v), (3, .int (nI f)), (4, .int (nI ch)), (7, .int (nI (mLv G T f (i + 1)).1)), (8, .int (nI (i + 1)))]; rw [e9]; exact lv_sub hl [2, 3, 4, 5, 6, 7, 0] rfl)
            exact h99 hP9 hD9 hS
          · refine lv_aload hx hb dL_act_519 (lv_at hl 0 rfl) ?_
            refine lv_iconst (v := 4) hx hb dL_act_521 (by decide) ?_
            refine k_iald (j := 4) hx hb hE hP (64 + nf + i) (lw_b hi) (by decide) (by decide) dL_act_522 ?_
            refine w_top (show bgR (mLv G T f i).2.1 (mLv G T f i).2.2 i 4 = (mLv G T f i).2.2 2 i from rfl) ?_
            refine lv_aload_n hx hb dL_act_523 rfl (lv_at hl 2 rfl) ?_
            refine va_get (D := D) (ci := 5) (v := .ref (o 2)) (C := RX5) (T := TX5) (N := 6) hx hb hts tu_5 hown hE.1 hP 59 lw_59 rfl 3 (by decide) (hts _ tw_738) (fun _ h9 => h9) rfl dL_act_524 ?_
            refine lv_iload_n hx hb dL_act_527 rfl (lv_at hl 4 rfl) ?_
            refine k_aald (j := f) hx hb hE hP 61 lw_61 hf (Nat.lt_of_le_of_lt hnf (by decide)) dL_act_528 ?_
            refine lv_iconst (v := 0) hx hb dL_act_529 (by decide) ?_
            refine k_iald (j := 0) hx hb hE hP (64 + f) (lw_f hf) (by decide) (by decide) dL_act_530 ?_
            refine w_top (show flR (mLv G T f i).2.1 f 0 = (mLv G T f i).2.1 1 f from rfl) ?_
            refine lv_icmp_ne (tgt := 548) hx hb dL_act_531 (by decide) (fun c_8 => ?_) (fun c_8 => ?_)
            · refine lv_aload hx hb dL_act_548 (lv_at hl 0 rfl) ?_
              refine lv_bipush (v := 7) hx hb dL_act_550 (by decide) ?_
              refine lv_iconst (v := 1) hx hb dL_act_552 (by decide) ?_
              refine k_iast (j := 7) hx hb hE hP hD hS (64 + nf + i) (lw_b hi) (by decide) (by decide) dL_act_553 (fun H locs hP hD hS => ?_)
              have hP := lws_b7P hi hP
              have hD := lws_b7D hi hD
              have hP : va_P D vwCl (LW k a tr o fa ba x S U (sf (mLv G T f i).2.1 7 (upd ((mLv G T f i).2.1 7) i 1)) (mLv G T f i).2.2 n nf (mL T n) R) H := hP
              have hD : va_D A (LW k a tr o fa ba x S U (sf (mLv G T f i).2.1 7 (upd ((mLv G T f i).2.1 7) i 1)) (mLv G T f i).2.2 n nf (mL T n) R) := hD
              refine lv_iinc (v := nI (i + 1)) (lv' := [(8, .int (nI (i + 1))), (9, .ref (ba i)), (0, .ref x), (1, .ref (o 0)), (2, .int v), (3, .int (nI f)), (4, .int (nI ch)), (7, .int (nI (mLv G T f i).1))]) hx hb dL_act_554 hl (k := 7) rfl (iinc1 _) (by decide) rfl (fun ls hl => ?_)
              refine lv_goto (tgt := 481) hx hb dL_act_557 (by decide) ?_
              have e9 : mLv G T f (i + 1) = ((mLv G T f i).1, sf (mLv G T f i).2.1 7 (upd ((mLv G T f i).2.1 7) i 1), (mLv G T f i).2.2) := (sel_t c_6 _ _).trans (sel_f (fun z => c_8 (by have z2 := z.2; rw [eix] at z2; exact z2)) _ _)
              have hP9 : va_P D vwCl (LW k a tr o fa ba x S U (mLv G T f (i + 1)).2.1 (mLv G T f (i + 1)).2.2 n nf (mL T n) R) H := by rw [e9]; exact hP
              have hD9 : va_D A (LW k a tr o fa ba x S U (mLv G T f (i + 1)).2.1 (mLv G T f (i + 1)).2.2 n nf (mL T n) R) := by rw [e9]; exact hD
              have h99 := ih ls H locs trivial (by show lv_has ls 13 [(0, .ref x), (1, .ref (o 0)), (2, .int v), (3, .int (nI f)), (4, .int (nI ch)), (7, .int (nI (mLv G T f (i + 1)).1)), (8, .int (nI (i + 1)))]; rw [e9]; exact lv_sub hl [2, 3, 4, 5, 6, 7, 0] rfl)
              exact h99 hP9 hD9 hS
            · refine lv_aload_n hx hb dL_act_534 rfl (lv_at hl 2 rfl) ?_
              refine lv_iload hx hb dL_act_535 (lv_at hl 7 rfl) ?_
              refine lv_iconst (v := 5) hx hb dL_act_537 (by decide) ?_
              refine lv_iconst (v := (-1)) hx hb dL_act_538 (by decide) ?_
              refine c_mVv (rest := []) hC hE hP hD hS lw_same (metX5_put l (mLv G T f i).2.1 (mLv G T f i).2.2 hn hnf i 5 (-1) hi) gc_RL_58 hd_X5_put ⟨rfl, rfl⟩ ⟨Nat.le_of_ble_eq_true rfl, Nat.le_of_ble_eq_true rfl⟩ 59 lw_59 rfl rfl hl.1 (Nat.le_of_ble_eq_true rfl) ⟨Nat.le_of_ble_eq_true rfl, Nat.le_of_ble_eq_true rfl⟩ dL_act_539 (fun H locs hP hD hS => ?_)
              refine lv_iinc (v := nI ((mLv G T f i).1 + 1)) (lv' := [(7, .int (nI ((mLv G T f i).1 + 1))), (9, .ref (ba i)), (0, .ref x), (1, .ref (o 0)), (2, .int v), (3, .int (nI f)), (4, .int (nI ch)), (8, .int (nI i))]) hx hb dL_act_542 hl (k := 6) rfl (iinc1 _) (by decide) rfl (fun ls hl => ?_)
              refine lv_goto (tgt := 554) hx hb dL_act_545 (by decide) ?_
              refine lv_iinc (v := nI (i + 1)) (lv' := [(8, .int (nI (i + 1))), (7, .int (nI ((mLv G T f i).1 + 1))), (9, .ref (ba i)), (0, .ref x), (1, .ref (o 0)), (2, .int v), (3, .int (nI f)), (4, .int (nI ch))]) hx hb dL_act_554 hl (k := 7) rfl (iinc1 _) (by decide) rfl (fun ls hl => ?_)
              refine lv_goto (tgt := 481) hx hb dL_act_557 (by decide) ?_
              have e9 : mLv G T f (i + 1) = ((mLv G T f i).1 + 1, (mLv G T f i).2.1, mPutB (mDec (mLv G T f i).2.2 (ix ((mLv G T f i).2.2 2 i))) i 5 (-1)) := (sel_t c_6 _ _).trans (sel_t ⟨c_7, by rw [eix]; exact c_8⟩ _ _)
              have hP9 : va_P D vwCl (LW k a tr o fa ba x S U (mLv G T f (i + 1)).2.1 (mLv G T f (i + 1)).2.2 n nf (mL T n) R) H := by rw [e9]; exact hP
              have hD9 : va_D A (LW k a tr o fa ba x S U (mLv G T f (i + 1)).2.1 (mLv G T f (i + 1)).2.2 n nf (mL T n) R) := by rw [e9]; exact hD
              have h99 := ih ls H locs trivial (by show lv_has ls 13 [(0, .ref x), (1, .ref (o 0)), (2, .int v), (3, .int (nI f)), (4, .int (nI ch)), (7, .int (nI (mLv G T f (i + 1)).1)), (8, .int (nI (i + 1)))]; rw [e9]; exact lv_sub hl [3, 4, 5, 6, 7, 1, 0] rfl)
              exact h99 hP9 hD9 hS
        · refine lv_goto (tgt := 554) hx hb dL_act_508 (by decide) ?_
          refine lv_iinc (v := nI (i + 1)) (lv' := [(8, .int (nI (i + 1))), (9, .ref (ba i)), (0, .ref x), (1, .ref (o 0)), (2, .int v), (3, .int (nI f)), (4, .int (nI ch)), (7, .int (nI (mLv G T f i).1))]) hx hb dL_act_554 hl (k := 7) rfl (iinc1 _) (by decide) rfl (fun ls hl => ?_)
          refine lv_goto (tgt := 481) hx hb dL_act_557 (by decide) ?_
          have e9 : mLv G T f (i + 1) = (mLv G T f i) := sel_f c_6 _ _
          have hP9 : va_P D vwCl (LW k a tr o fa ba x S U (mLv G T f (i + 1)).2.1 (mLv G T f (i + 1)).2.2 n nf (mL T n) R) H := by rw [e9]; exact hP
          have hD9 : va_D A (LW k a tr o fa ba x S U (mLv G T f (i + 1)).2.1 (mLv G T f (i + 1)).2.2 n nf (mL T n) R) := by rw [e9]; exact hD
          have h99 := ih ls H locs trivial (by show lv_has ls 13 [(0, .ref x), (1, .ref (o 0)), (2, .int v), (3, .int (nI f)), (4, .int (nI ch)), (7, .int (nI (mLv G T f (i + 1)).1)), (8, .int (nI (i + 1)))]; rw [e9]; exact lv_sub hl [2, 3, 4, 5, 6, 7, 0] rfl)
          exact h99 hP9 hD9 hS
      · exact lv_sub hl [2, 3, 4, 5, 6, 1, 0] rfl
      · exact hP
      · exact hD
      · exact hS
    · refine lv_if_ne (tgt := 572) hx hb dL_act_472 (by decide) (fun c_9 => ?_) (fun c_ => absurd c_ (fun z => z2 (nI_inj (b := 0) (by omega) (by decide) z)))
      refine lv_aload_n hx hb dL_act_572 rfl (lv_at hl 1 rfl) ?_
      refine va_get (D := D) (ci := 5) (v := .ref (o 2)) (C := RX5) (T := TX5) (N := 6) hx hb hts tu_5 hown hE.1 hP 59 lw_59 rfl 3 (by decide) (hts _ tw_738) (fun _ h9 => h9) rfl dL_act_573 ?_
      refine lv_iload_n hx hb dL_act_576 rfl (lv_at hl 3 rfl) ?_
      refine k_aald (j := f) hx hb hE hP 61 lw_61 hf (Nat.lt_of_le_of_lt hnf (by decide)) dL_act_577 ?_
      refine lv_iconst (v := 1) hx hb dL_act_578 (by decide) ?_
      refine k_iald (j := 1) hx hb hE hP (64 + f) (lw_f hf) (by decide) (by decide) dL_act_579 ?_
      refine w_top (show flR G f 1 = G 2 f from rfl) ?_
      refine w_top (show G 2 f = 0 from z1) ?_
      refine lv_if_ne (tgt := 585) hx hb dL_act_580 (by decide) (fun c_ => absurd rfl c_) (fun c_10 => ?_)
      refine lv_iconst (v := 1) hx hb dL_act_583 (by decide) ?_
      have e99 : (LW k a tr o fa ba x S U G T n nf (mL T n) R) = (LW k a tr o fa ba x S U G T n nf (mL T n) R) := rfl
      rw [← e99] at hP hD
      exact g_zret hx hb hr rfl hlk dL_act_584 hP hD hS ⟨rfl, o, fa, ba, S, U, G, T, n, nf, hnf0, hra, hrb, hti, hgi, ho, rfl⟩ (Nat.le_of_ble_eq_true rfl) (Nat.le_of_ble_eq_true rfl)
  · refine lv_aload_n hx hb dL_act_453 rfl (lv_at hl 1 rfl) ?_
    refine va_get (D := D) (ci := 5) (v := .ref (o 2)) (C := RX5) (T := TX5) (N := 6) hx hb hts tu_5 hown hE.1 hP 59 lw_59 rfl 3 (by decide) (hts _ tw_738) (fun _ h9 => h9) rfl dL_act_454 ?_
    refine lv_iload_n hx hb dL_act_457 rfl (lv_at hl 3 rfl) ?_
    refine k_aald (j := f) hx hb hE hP 61 lw_61 hf (Nat.lt_of_le_of_lt hnf (by decide)) dL_act_458 ?_
    refine lv_iconst (v := 1) hx hb dL_act_459 (by decide) ?_
    refine k_iald (j := 1) hx hb hE hP (64 + f) (lw_f hf) (by decide) (by decide) dL_act_460 ?_
    refine w_top (show flR G f 1 = G 2 f from rfl) ?_
    refine lv_if_ne (tgt := 572) hx hb dL_act_461 (by decide) (fun c_11 => ?_) (fun c_ => absurd c_ z1)
    refine lv_aload_n hx hb dL_act_572 rfl (lv_at hl 1 rfl) ?_
    refine va_get (D := D) (ci := 5) (v := .ref (o 2)) (C := RX5) (T := TX5) (N := 6) hx hb hts tu_5 hown hE.1 hP 59 lw_59 rfl 3 (by decide) (hts _ tw_738) (fun _ h9 => h9) rfl dL_act_573 ?_
    refine lv_iload_n hx hb dL_act_576 rfl (lv_at hl 3 rfl) ?_
    refine k_aald (j := f) hx hb hE hP 61 lw_61 hf (Nat.lt_of_le_of_lt hnf (by decide)) dL_act_577 ?_
    refine lv_iconst (v := 1) hx hb dL_act_578 (by decide) ?_
    refine k_iald (j := 1) hx hb hE hP (64 + f) (lw_f hf) (by decide) (by decide) dL_act_579 ?_
    refine w_top (show flR G f 1 = G 2 f from rfl) ?_
    refine lv_if_ne (tgt := 585) hx hb dL_act_580 (by decide) (fun c_12 => ?_) (fun c_ => absurd c_ z1)
    refine lv_aload_n hx hb dL_act_585 rfl (lv_at hl 0 rfl) ?_
    refine lv_iload_n hx hb dL_act_586 rfl (lv_at hl 3 rfl) ?_
    refine c_xV (rest := []) (E := "java/lang/IllegalStateException") hC hE hP hX (zA_x hZ hS) (lxb_depart_1 l S (nI f) hfl (xflt_n hra hf) (fun z => z1 ((ng_iff hra (by omega)).mp z))) gc_RL_62 hd_X4_depart ⟨Nat.le_of_ble_eq_true rfl, Nat.le_of_ble_eq_true rfl⟩ 29 lw_29 rfl rfl hl.1 (Nat.le_of_ble_eq_true rfl) ⟨(Nat.le_of_ble_eq_true rfl), (Nat.le_of_ble_eq_true rfl)⟩ dL_act_587 (fun ce q9 H1 h1 h2 h3 hP1 hz1 hk1 => ?_)
    refine vx_catch (own := RL) (E := "java/lang/IllegalStateException") (name := "java/lang/IllegalStateException") hown [⟨180, 186, 189, 34⟩, ⟨320, 329, 332, 34⟩] ⟨585, 592, 595, 34⟩ [⟨892, 900, 903, 34⟩, ⟨982, 991, 994, 34⟩, ⟨1152, 1163, 1166, 34⟩] htab (fun z hz => Or.inl (by
        simp only [List.mem_cons, List.not_mem_nil, or_false] at hz
        rcases hz with rfl | rfl <;> rfl)) rfl (by decide) (hts _ tw_602) (va_Nw.use rfl (hX.2.1 (.castable "java/lang/IllegalStateException" "java/lang/IllegalStateException") (by decide +kernel))) h1 h2 h3 ?_
    have hS := vS_grown hS hz1 hk1
    have hP := hP1
    refine lv_astore (lv' := [(8, .ref q9), (0, .ref x), (1, .ref (o 0)), (2, .int v), (3, .int (nI f)), (4, .int (nI ch)), (7, .int (-1))]) hx hb dL_act_595 hl (by decide) rfl (fun ls hl => ?_)
    refine lv_iconst (v := (-1)) hx hb dL_act_597 (by decide) ?_
    refine lv_istore (lv' := [(6, .int (-1)), (8, .ref q9), (0, .ref x), (1, .ref (o 0)), (2, .int v), (3, .int (nI f)), (4, .int (nI ch)), (7, .int (-1))]) hx hb dL_act_598 hl (by decide) rfl (fun ls hl => ?_)
    refine lv_iload hx hb dL_act_600 (lv_at hl 0 rfl) ?_
    refine lv_iload hx hb dL_act_602 (lv_at hl 7 rfl) ?_
    refine lv_icmp_ne (tgt := 611) hx hb dL_act_604 (by decide) (fun c_ => absurd rfl c_) (fun c_13 => ?_)
    refine lv_iconst (v := 1) hx hb dL_act_607 (by decide) ?_
    refine lv_goto (tgt := 612) hx hb dL_act_608 (by decide) ?_
    have e99 : (LW k a tr o fa ba x S U G T n nf (mL T n) R) = (LW k a tr o fa ba x S U G T n nf (mL T n) R) := rfl
    rw [← e99] at hP hD
    exact g_zret hx hb hr rfl hlk dL_act_612 hP hD hS ⟨rfl, o, fa, ba, S, U, G, T, n, nf, hnf0, hra, hrb, hti, hgi, ho, rfl⟩ (Nat.le_of_ble_eq_true rfl) (Nat.le_of_ble_eq_true rfl)
set_option maxHeartbeats 1000000 in
set_option maxRecDepth 100000 in
theorem act_7 {p : Program} {l : Launch} {e : Env} {s : State} {m : MethodId} {args : Array Value} {below : List Frame} {meth : Method} {c : Code} {D : va_G} {k : Nat → ClassId} {A : Nat → Prop} {a tr o fa ba : Nat → Nat} {x q0 : Nat} {S U G T : HS} {n nf : Nat} {R : va_W} {ls : Array Slot} {H : Heap} {locs : List Loc} (hfl : l.stackTraces = false) (hC : CallFix p m c cL_act 13 s args lw_all RL) (hr : meth.sig.returnType = some .boolean) (hlk : meth.locks = false) (htab : c.exceptionTable.toList = tableOf actT) (hE : eK D k s) (hX : xK s) (hZ : zA A s s.heap) (hA : ∀ q : Nat, s.heap.size ≤ q → A q) (hnf0 : 0 < nf) (hra : RA S G n nf) (hrb : RB S T n) (hti : TI T n) (hgi : GI G T n nf) (ho : o 0 = q0) {v : Int32} {f ch : Nat} (hf : f < nf) (hch : ch < 4) (hl : lv_has ls 13 [(0, .ref x), (1, .ref (o 0)), (2, .int v), (3, .int (nI f)), (4, .int (nI ch)), (7, .int (-1))]) (hP : va_P D vwCl (LW k a tr o fa ba x S U G T n nf (mL T n) R) H) (hD : va_D A (LW k a tr o fa ba x S U G T n nf (mL T n) R)) (hS : va_S A s.heap H locs) : W p l e ({ frames := 8, cells := 40, slots := 1500, locals := 145 } : Room) s m args below meth c H locs 0 0 (MQ below (gQ D A (fun v9 w1 => v9 = some (.int 1) ∧ AS k a tr x q0 R w1)) args s 40 1500 A) (F0 m 613 ls []) := by
  have hx := hC.1
  have hb := hC.2.1
  have hown : s.vm.findClass RL = some m.cls := hC.2.2.2.1
  have hts := hC.2.2.2.2
  have hn := hra.n40
  have hnf := hra.nf6
  have hLn : mL T n ≤ n := ct_le _ n
  refine lv_iconst (v := 0) hx hb dL_act_613 (by decide) ?_
  refine lv_istore (lv' := [(7, .int 0), (0, .ref x), (1, .ref (o 0)), (2, .int v), (3, .int (nI f)), (4, .int (nI ch))]) hx hb dL_act_614 hl (by decide) rfl (fun ls hl => ?_)
  refine lv_iconst (v := 0) hx hb dL_act_616 (by decide) ?_
  refine lv_istore (lv' := [(8, .int 0), (7, .int 0), (0, .ref x), (1, .ref (o 0)), (2, .int v), (3, .int (nI f)), (4, .int (nI ch))]) hx hb dL_act_617 hl (by decide) rfl (fun ls hl => ?_)
  refine w_forM (D := D) (A := A) (H0 := s.heap) (nL := 13) (N := n) (fun _ => True) (fun i => [(0, .ref x), (1, .ref (o 0)), (2, .int v), (3, .int (nI f)), (4, .int (nI ch)), (7, .int (nI (mSw G T ch i).1)), (8, .int (nI i))]) (fun i => (LW k a tr o fa ba x S U (mSw G T ch i).2.1 (mSw G T ch i).2.2 n nf (mL T n) R)) (fun ls H locs hI hl hP hD hS => ?_) (fun i hi hI ih ls H locs hl hP hD hS => ?_) 0 (Nat.zero_le _) trivial ?_ ?_ ?_ ?_
  · have hl : lv_has ls 13 [(0, .ref x), (1, .ref (o 0)), (2, .int v), (3, .int (nI f)), (4, .int (nI ch)), (7, .int (nI (mSw G T ch n).1)), (8, .int (nI n))] := hl
    have hP : va_P D vwCl (LW k a tr o fa ba x S U (mSw G T ch n).2.1 (mSw G T ch n).2.2 n nf (mL T n) R) H := hP
    have hD : va_D A (LW k a tr o fa ba x S U (mSw G T ch n).2.1 (mSw G T ch n).2.2 n nf (mL T n) R) := hD
    refine lv_iload hx hb dL_act_619 (lv_at hl 6 rfl) ?_
    refine lv_aload_n hx hb dL_act_621 rfl (lv_at hl 1 rfl) ?_
    refine va_get (D := D) (ci := 5) (v := .ref (o 3)) (C := RX5) (T := TX5) (N := 6) hx hb hts tu_5 hown hE.1 hP 59 lw_59 rfl 4 (by decide) (hts _ tw_740) (fun _ h9 => h9) rfl dL_act_622 ?_
    refine k_olen hx hb hE hP 62 lw_62 dL_act_625 ?_
    refine lv_icmp_ge (tgt := 697) hx hb dL_act_626 (by decide) (fun c_1 => ?_) (fun c_ => absurd (nI_le (Nat.le_refl n) (Nat.lt_of_le_of_lt hn (by decide))) c_)
    refine lv_aload_n hx hb dL_act_697 rfl (lv_at hl 0 rfl) ?_
    refine lv_iload hx hb dL_act_698 (lv_at hl 4 rfl) ?_
    obtain ⟨ha9, hb9, hc9⟩ := sweep_rel hra hrb hch n (Nat.le_refl n)
    refine c_mVi (rest := []) hC hE hP hD hS (ws' := (LW k a tr o fa ba x (xCl S (nI ch) n).2 U (mSw G T ch n).2.1 (mSw G T ch n).2.2 n nf (mL T n) R)) lw_same (lx_sweep l S (nI ch) n hra.sn hn (xch_n hch)) gc_RL_65 hd_X4_sweep ⟨rfl, rfl⟩ ⟨Nat.le_of_ble_eq_true rfl, Nat.le_of_ble_eq_true rfl⟩ 29 lw_29 rfl rfl hl.1 (Nat.le_of_ble_eq_true rfl) ⟨(Nat.le_of_ble_eq_true rfl), (Nat.le_of_ble_eq_true rfl)⟩ dL_act_700 (fun H locs hP hD hS => ?_)
    refine w_top (show nI (xCl S (nI ch) n).1 = nI (mSw G T ch n).1 from congrArg nI hc9) ?_
    refine lv_iload hx hb dL_act_703 (lv_at hl 5 rfl) ?_
    refine lv_icmp_ne (tgt := 712) hx hb dL_act_705 (by decide) (fun c_ => absurd rfl c_) (fun c_2 => ?_)
    refine lv_iconst (v := 1) hx hb dL_act_708 (by decide) ?_
    refine lv_goto (tgt := 713) hx hb dL_act_709 (by decide) ?_
    obtain ⟨ht9, hg9⟩ := sweep_keep (c := ch) hti hgi n (Nat.le_refl n)
    have e99 : (LW k a tr o fa ba x (xCl S (nI ch) n).2 U (mSw G T ch n).2.1 (mSw G T ch n).2.2 n nf (mL (mSw G T ch n).2.2 n) R) = (LW k a tr o fa ba x (xCl S (nI ch) n).2 U (mSw G T ch n).2.1 (mSw G T ch n).2.2 n nf (mL T n) R) := (by rw [mL_eq hrb hb9 (congrFun (mSw_T0 G T ch n) 1)])
    rw [← e99] at hP hD
    exact g_zret hx hb hr rfl hlk dL_act_713 hP hD hS ⟨rfl, o, fa, ba, (xCl S (nI ch) n).2, U, (mSw G T ch n).2.1, (mSw G T ch n).2.2, n, nf, hnf0, ha9, hb9, ht9, hg9, ho, rfl⟩ (Nat.le_of_ble_eq_true rfl) (Nat.le_of_ble_eq_true rfl)
  · have hl : lv_has ls 13 [(0, .ref x), (1, .ref (o 0)), (2, .int v), (3, .int (nI f)), (4, .int (nI ch)), (7, .int (nI (mSw G T ch i).1)), (8, .int (nI i))] := hl
    have hP : va_P D vwCl (LW k a tr o fa ba x S U (mSw G T ch i).2.1 (mSw G T ch i).2.2 n nf (mL T n) R) H := hP
    have hD : va_D A (LW k a tr o fa ba x S U (mSw G T ch i).2.1 (mSw G T ch i).2.2 n nf (mL T n) R) := hD
    refine lv_iload hx hb dL_act_619 (lv_at hl 6 rfl) ?_
    refine lv_aload_n hx hb dL_act_621 rfl (lv_at hl 1 rfl) ?_
    refine va_get (D := D) (ci := 5) (v := .ref (o 3)) (C := RX5) (T := TX5) (N := 6) hx hb hts tu_5 hown hE.1 hP 59 lw_59 rfl 4 (by decide) (hts _ tw_740) (fun _ h9 => h9) rfl dL_act_622 ?_
    refine k_olen hx hb hE hP 62 lw_62 dL_act_625 ?_
    refine lv_icmp_ge (tgt := 697) hx hb dL_act_626 (by decide) (fun c_ => absurd c_ (nI_ge hi (Nat.lt_of_le_of_lt hn (by decide)))) (fun c_3 => ?_)
    refine lv_aload_n hx hb dL_act_629 rfl (lv_at hl 1 rfl) ?_
    refine lv_iload hx hb dL_act_630 (lv_at hl 6 rfl) ?_
    obtain ⟨hia, hib, -⟩ := sweep_rel hra hrb hch i (by omega)
    obtain ⟨f2, k1, k2, k3, k4, k5⟩ := flight_of hia hi
    refine c_pVi (rest := []) hC hE hP (metX5_isMisrouted l (mSw G T ch i).2.1 (mSw G T ch i).2.2 hn hnf i f2 hi k1 k3) gc_RL_36 hd_X5_isMisrouted ⟨rfl, rfl⟩ ⟨Nat.le_of_ble_eq_true rfl, Nat.le_of_ble_eq_true rfl⟩ 59 lw_59 rfl rfl hl.1 (Nat.le_of_ble_eq_true rfl) ⟨(Nat.le_of_ble_eq_true rfl), (Nat.le_of_ble_eq_true rfl)⟩ dL_act_632 ?_
    refine w_top (bI_cong (smis_iff hia k2 k5).symm) ?_
    refine lv_if_eq (tgt := 691) hx hb dL_act_635 (by decide) (fun c_4 => ?_) (fun c_4 => ?_)
    · have c_4 := bI_0 c_4
      refine lv_iinc (v := nI (i + 1)) (lv' := [(8, .int (nI (i + 1))), (0, .ref x), (1, .ref (o 0)), (2, .int v), (3, .int (nI f)), (4, .int (nI ch)), (7, .int (nI (mSw G T ch i).1))]) hx hb dL_act_691 hl (k := 6) rfl (iinc1 _) (by decide) rfl (fun ls hl => ?_)
      refine lv_goto (tgt := 619) hx hb dL_act_694 (by decide) ?_
      have e9 : mSw G T ch (i + 1) = (mSw G T ch i) := sel_f (fun z => c_4 z.1) _ _
      have hP9 : va_P D vwCl (LW k a tr o fa ba x S U (mSw G T ch (i + 1)).2.1 (mSw G T ch (i + 1)).2.2 n nf (mL T n) R) H := by rw [e9]; exact hP
      have hD9 : va_D A (LW k a tr o fa ba x S U (mSw G T ch (i + 1)).2.1 (mSw G T ch (i + 1)).2.2 n nf (mL T n) R) := by rw [e9]; exact hD
      have h99 := ih ls H locs trivial (by show lv_has ls 13 [(0, .ref x), (1, .ref (o 0)), (2, .int v), (3, .int (nI f)), (4, .int (nI ch)), (7, .int (nI (mSw G T ch (i + 1)).1)), (8, .int (nI (i + 1)))]; rw [e9]; exact lv_sub hl [1, 2, 3, 4, 5, 6, 0] rfl)
      exact h99 hP9 hD9 hS
    · have c_4 := bI_n c_4
      refine lv_aload_n hx hb dL_act_638 rfl (lv_at hl 1 rfl) ?_
      refine va_get (D := D) (ci := 5) (v := .ref (o 3)) (C := RX5) (T := TX5) (N := 6) hx hb hts tu_5 hown hE.1 hP 59 lw_59 rfl 4 (by decide) (hts _ tw_740) (fun _ h9 => h9) rfl dL_act_639 ?_
      refine lv_iload hx hb dL_act_642 (lv_at hl 6 rfl) ?_
      refine k_aald (j := i) hx hb hE hP 62 lw_62 hi (Nat.lt_of_le_of_lt hn (by decide)) dL_act_644 ?_
      refine lv_iconst (v := 4) hx hb dL_act_645 (by decide) ?_
      refine k_iald (j := 4) hx hb hE hP (64 + nf + i) (lw_b hi) (by decide) (by decide) dL_act_646 ?_
      refine w_top (show bgR (mSw G T ch i).2.1 (mSw G T ch i).2.2 i 4 = (mSw G T ch i).2.2 2 i from rfl) ?_
      refine lv_iload hx hb dL_act_647 (lv_at hl 4 rfl) ?_
      refine lv_icmp_eq (tgt := 655) hx hb dL_act_649 (by decide) (fun c_5 => ?_) (fun c_5 => ?_)
      · refine lv_aload_n hx hb dL_act_655 rfl (lv_at hl 1 rfl) ?_
        refine lv_iload hx hb dL_act_656 (lv_at hl 6 rfl) ?_
        refine lv_iconst (v := 3) hx hb dL_act_658 (by decide) ?_
        refine lv_iconst (v := (-1)) hx hb dL_act_659 (by decide) ?_
        refine c_mVv (rest := []) hC hE hP hD hS lw_same (metX5_put l (mSw G T ch i).2.1 (mSw G T ch i).2.2 hn hnf i 3 (-1) hi) gc_RL_58 hd_X5_put ⟨rfl, rfl⟩ ⟨Nat.le_of_ble_eq_true rfl, Nat.le_of_ble_eq_true rfl⟩ 59 lw_59 rfl rfl hl.1 (Nat.le_of_ble_eq_true rfl) ⟨Nat.le_of_ble_eq_true rfl, Nat.le_of_ble_eq_true rfl⟩ dL_act_660 (fun H locs hP hD hS => ?_)
        refine lv_aload_n hx hb dL_act_663 rfl (lv_at hl 1 rfl) ?_
        refine va_get (D := D) (ci := 5) (v := .ref (o 3)) (C := RX5) (T := TX5) (N := 6) hx hb hts tu_5 hown hE.1 hP 59 lw_59 rfl 4 (by decide) (hts _ tw_740) (fun _ h9 => h9) rfl dL_act_664 ?_
        refine lv_iload hx hb dL_act_667 (lv_at hl 6 rfl) ?_
        refine k_aald (j := i) hx hb hE hP 62 lw_62 hi (Nat.lt_of_le_of_lt hn (by decide)) dL_act_669 ?_
        refine lv_bipush (v := 7) hx hb dL_act_670 (by decide) ?_
        refine k_iald (j := 7) hx hb hE hP (64 + nf + i) (lw_b hi) (by decide) (by decide) dL_act_672 ?_
        refine w_top (show bgR (mSw G T ch i).2.1 (mPutB (mSw G T ch i).2.2 i 3 (-1)) i 7 = (mSw G T ch i).2.1 7 i from rfl) ?_
        refine lv_iconst (v := 1) hx hb dL_act_673 (by decide) ?_
        refine lv_icmp_ne (tgt := 688) hx hb dL_act_674 (by decide) (fun c_6 => ?_) (fun c_6 => ?_)
        · refine lv_iinc (v := nI ((mSw G T ch i).1 + 1)) (lv' := [(7, .int (nI ((mSw G T ch i).1 + 1))), (0, .ref x), (1, .ref (o 0)), (2, .int v), (3, .int (nI f)), (4, .int (nI ch)), (8, .int (nI i))]) hx hb dL_act_688 hl (k := 5) rfl (iinc1 _) (by decide) rfl (fun ls hl => ?_)
          refine lv_iinc (v := nI (i + 1)) (lv' := [(8, .int (nI (i + 1))), (7, .int (nI ((mSw G T ch i).1 + 1))), (0, .ref x), (1, .ref (o 0)), (2, .int v), (3, .int (nI f)), (4, .int (nI ch))]) hx hb dL_act_691 hl (k := 6) rfl (iinc1 _) (by decide) rfl (fun ls hl => ?_)
          refine lv_goto (tgt := 619) hx hb dL_act_694 (by decide) ?_
          have e9 : mSw G T ch (i + 1) = ((mSw G T ch i).1 + 1, (mSw G T ch i).2.1, mDec (mPutB (mSw G T ch i).2.2 i 3 (-1)) ch) := (sel_t ⟨c_4, c_5⟩ _ _).trans (by rw [show mClose (mSw G T ch i).2.1 i = (mSw G T ch i).2.1 from sel_f c_6 _ _])
          have hP9 : va_P D vwCl (LW k a tr o fa ba x S U (mSw G T ch (i + 1)).2.1 (mSw G T ch (i + 1)).2.2 n nf (mL T n) R) H := by rw [e9]; exact hP
          have hD9 : va_D A (LW k a tr o fa ba x S U (mSw G T ch (i + 1)).2.1 (mSw G T ch (i + 1)).2.2 n nf (mL T n) R) := by rw [e9]; exact hD
          have h99 := ih ls H locs trivial (by show lv_has ls 13 [(0, .ref x), (1, .ref (o 0)), (2, .int v), (3, .int (nI f)), (4, .int (nI ch)), (7, .int (nI (mSw G T ch (i + 1)).1)), (8, .int (nI (i + 1)))]; rw [e9]; exact lv_sub hl [2, 3, 4, 5, 6, 1, 0] rfl)
          exact h99 hP9 hD9 hS
        · refine lv_aload_n hx hb dL_act_677 rfl (lv_at hl 1 rfl) ?_
          refine va_get (D := D) (ci := 5) (v := .ref (o 3)) (C := RX5) (T := TX5) (N := 6) hx hb hts tu_5 hown hE.1 hP 59 lw_59 rfl 4 (by decide) (hts _ tw_740) (fun _ h9 => h9) rfl dL_act_678 ?_
          refine lv_iload hx hb dL_act_681 (lv_at hl 6 rfl) ?_
          refine k_aald (j := i) hx hb hE hP 62 lw_62 hi (Nat.lt_of_le_of_lt hn (by decide)) dL_act_683 ?_
          refine lv_bipush (v := 7) hx hb dL_act_684 (by decide) ?_
          refine lv_iconst (v := 2) hx hb dL_act_686 (by decide) ?_
          refine k_iast (j := 7) hx hb hE hP hD hS (64 + nf + i) (lw_b hi) (by decide) (by decide) dL_act_687 (fun H locs hP hD hS => ?_)
          have hP := lws_b7P hi hP
          have hD := lws_b7D hi hD
          have hP : va_P D vwCl (LW k a tr o fa ba x S U (sf (mSw G T ch i).2.1 7 (upd ((mSw G T ch i).2.1 7) i 2)) (mPutB (mSw G T ch i).2.2 i 3 (-1)) n nf (mL T n) R) H := hP
          have hD : va_D A (LW k a tr o fa ba x S U (sf (mSw G T ch i).2.1 7 (upd ((mSw G T ch i).2.1 7) i 2)) (mPutB (mSw G T ch i).2.2 i 3 (-1)) n nf (mL T n) R) := hD
          refine lv_iinc (v := nI ((mSw G T ch i).1 + 1)) (lv' := [(7, .int (nI ((mSw G T ch i).1 + 1))), (0, .ref x), (1, .ref (o 0)), (2, .int v), (3, .int (nI f)), (4, .int (nI ch)), (8, .int (nI i))]) hx hb dL_act_688 hl (k := 5) rfl (iinc1 _) (by decide) rfl (fun ls hl => ?_)
          refine lv_iinc (v := nI (i + 1)) (lv' := [(8, .int (nI (i + 1))), (7, .int (nI ((mSw G T ch i).1 + 1))), (0, .ref x), (1, .ref (o 0)), (2, .int v), (3, .int (nI f)), (4, .int (nI ch))]) hx hb dL_act_691 hl (k := 6) rfl (iinc1 _) (by decide) rfl (fun ls hl => ?_)
          refine lv_goto (tgt := 619) hx hb dL_act_694 (by decide) ?_
          have e9 : mSw G T ch (i + 1) = ((mSw G T ch i).1 + 1, sf (mSw G T ch i).2.1 7 (upd ((mSw G T ch i).2.1 7) i 2), mDec (mPutB (mSw G T ch i).2.2 i 3 (-1)) ch) := (sel_t ⟨c_4, c_5⟩ _ _).trans (by rw [show mClose (mSw G T ch i).2.1 i = sf (mSw G T ch i).2.1 7 (upd ((mSw G T ch i).2.1 7) i 2) from sel_t c_6 _ _])
          have hP9 : va_P D vwCl (LW k a tr o fa ba x S U (mSw G T ch (i + 1)).2.1 (mSw G T ch (i + 1)).2.2 n nf (mL T n) R) H := by rw [e9]; exact hP
          have hD9 : va_D A (LW k a tr o fa ba x S U (mSw G T ch (i + 1)).2.1 (mSw G T ch (i + 1)).2.2 n nf (mL T n) R) := by rw [e9]; exact hD
          have h99 := ih ls H locs trivial (by show lv_has ls 13 [(0, .ref x), (1, .ref (o 0)), (2, .int v), (3, .int (nI f)), (4, .int (nI ch)), (7, .int (nI (mSw G T ch (i + 1)).1)), (8, .int (nI (i + 1)))]; rw [e9]; exact lv_sub hl [2, 3, 4, 5, 6, 1, 0] rfl)
          exact h99 hP9 hD9 hS
      · refine lv_goto (tgt := 691) hx hb dL_act_652 (by decide) ?_
        refine lv_iinc (v := nI (i + 1)) (lv' := [(8, .int (nI (i + 1))), (0, .ref x), (1, .ref (o 0)), (2, .int v), (3, .int (nI f)), (4, .int (nI ch)), (7, .int (nI (mSw G T ch i).1))]) hx hb dL_act_691 hl (k := 6) rfl (iinc1 _) (by decide) rfl (fun ls hl => ?_)
        refine lv_goto (tgt := 619) hx hb dL_act_694 (by decide) ?_
        have e9 : mSw G T ch (i + 1) = (mSw G T ch i) := sel_f (fun z => c_5 z.2) _ _
        have hP9 : va_P D vwCl (LW k a tr o fa ba x S U (mSw G T ch (i + 1)).2.1 (mSw G T ch (i + 1)).2.2 n nf (mL T n) R) H := by rw [e9]; exact hP
        have hD9 : va_D A (LW k a tr o fa ba x S U (mSw G T ch (i + 1)).2.1 (mSw G T ch (i + 1)).2.2 n nf (mL T n) R) := by rw [e9]; exact hD
        have h99 := ih ls H locs trivial (by show lv_has ls 13 [(0, .ref x), (1, .ref (o 0)), (2, .int v), (3, .int (nI f)), (4, .int (nI ch)), (7, .int (nI (mSw G T ch (i + 1)).1)), (8, .int (nI (i + 1)))]; rw [e9]; exact lv_sub hl [1, 2, 3, 4, 5, 6, 0] rfl)
        exact h99 hP9 hD9 hS
  · exact lv_sub hl [2, 3, 4, 5, 6, 1, 0] rfl
  · exact hP
  · exact hD
  · exact hS
