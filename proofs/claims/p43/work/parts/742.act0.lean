/-! the law's acts -/
def zA (A : Nat → Prop) (U : State) (H : Heap) : Prop := vx_Zq Bundle.tN "UNASSIGNED_STACK" Bundle.steD A U H ∧ vx_Zq Bundle.tN "SUPPRESSED_SENTINEL" Bundle.listD A U H
theorem zA_x {A : Nat → Prop} {s : State} {H : Heap} {locs : List Loc} (h : zA A s s.heap) (hS : va_S A s.heap H locs) : xZ s H := ⟨(h.1.kept hS.2.1).narrow (fun _ z => z.elim), (h.2.kept hS.2.1).narrow (fun _ z => z.elim)⟩
theorem zA_moved {A : Nat → Prop} {u U : State} {H : Heap} (hvm : u.vm.Alike U.vm) (h : zA A u H) : zA A U H := ⟨vx_Zq.moved hvm h.1, vx_Zq.moved hvm h.2⟩
theorem vS_grown {A : Nat → Prop} {H0 H H1 : Heap} {locs : List Loc} (hS : va_S A H0 H locs) (hz1 : H.size ≤ H1.size) (hk1 : ∀ q : Nat, q < H.size → H1[q]? = H[q]?) : va_S A H0 H1 locs := ⟨Nat.le_trans hS.1 hz1, fun q h1 h2 => (hk1 q (Nat.lt_of_lt_of_le h1 hS.1)).trans (hS.2.1 q h1 h2), hS.2.2⟩
theorem lw_RD {k : Nat → ClassId} {a tr o fa ba : Nat → Nat} {x : Nat} {S U G T : HS} {n nf L : Nat} {R R2 : va_W} {A : Nat → Prop} (hD : va_D A (LW k a tr o fa ba x S U G T n nf L R)) (e : R2.map Prod.fst = R.map Prod.fst) : va_D A (LW k a tr o fa ba x S U G T n nf L R2) := vaD_same hD (by rw [lw_app (R := R2), lw_app (R := R), List.map_append, List.map_append, e])
abbrev actT : List (Nat × Nat × Nat × Nat) := [(180, 186, 189, 34), (320, 329, 332, 34), (585, 592, 595, 34), (892, 900, 903, 34), (982, 991, 994, 34), (1152, 1163, 1166, 34)]
theorem lt_6 {j : Nat} (h : j < 6) : nI j < 6 := Int32.not_le.mp (nI_ge (b := 6) h (by decide))
theorem nlt_6 {j : Nat} (h : ¬ j < 6) (h2 : j < 2 ^ 31) : ¬ nI j < 6 := Int32.not_lt.mpr (nI_le (a := 6) (by omega) h2)
theorem xflt_n {S G : HS} {n nf f : Nat} (ha : RA S G n nf) (hf : f < nf) : xFlt S (nI f) := by
  have := ha.nf6
  refine ⟨nI_pos (by omega), ?_⟩
  rw [ha.sf_, nI_ltI (by omega) (by omega)]
  exact hf
theorem xbag_n {S G : HS} {n nf b : Nat} (ha : RA S G n nf) (hb : b < n) : xBag S (nI b) := by
  have := ha.n40
  refine ⟨nI_pos (by omega), ?_⟩
  rw [ha.sn, nI_ltI (by omega) (by omega)]
  exact hb
theorem xch_n {c : Nat} (hc : c < 4) : xCh (nI c) := ⟨nI_pos (by omega), nI_ge (b := 4) hc (by decide)⟩

set_option maxHeartbeats 1000000 in
set_option maxRecDepth 100000 in
theorem act_0 {p : Program} {l : Launch} {e : Env} {s : State} {m : MethodId} {args : Array Value} {below : List Frame} {meth : Method} {c : Code} {D : va_G} {k : Nat → ClassId} {A : Nat → Prop} {a tr o fa ba : Nat → Nat} {x q0 : Nat} {S U G T : HS} {n nf : Nat} {R : va_W} {ls : Array Slot} {H : Heap} {locs : List Loc} (hfl : l.stackTraces = false) (hC : CallFix p m c cL_act 13 s args lw_all RL) (hr : meth.sig.returnType = some .boolean) (hlk : meth.locks = false) (htab : c.exceptionTable.toList = tableOf actT) (hE : eK D k s) (hX : xK s) (hZ : zA A s s.heap) (hA : ∀ q : Nat, s.heap.size ≤ q → A q) (hnf0 : 0 < nf) (hra : RA S G n nf) (hrb : RB S T n) (hti : TI T n) (hgi : GI G T n nf) (ho : o 0 = q0) {v : Int32} {f ch : Nat} (hf : f < nf) (hch : ch < 4) (hl : lv_has ls 13 [(0, .ref x), (1, .ref (o 0)), (2, .int v), (3, .int (nI f)), (4, .int (nI ch)), (7, .int (-1))]) (hP : va_P D vwCl (LW k a tr o fa ba x S U G T n nf (mL T n) R) H) (hD : va_D A (LW k a tr o fa ba x S U G T n nf (mL T n) R)) (hS : va_S A s.heap H locs) : W p l e ({ frames := 8, cells := 40, slots := 1500, locals := 145 } : Room) s m args below meth c H locs 0 0 (MQ below (gQ D A (fun v9 w1 => v9 = some (.int 1) ∧ AS k a tr x q0 R w1)) args s 40 1500 A) (F0 m 132 ls []) := by
  have hx := hC.1
  have hb := hC.2.1
  have hown : s.vm.findClass RL = some m.cls := hC.2.2.2.1
  have hts := hC.2.2.2.2
  have hn := hra.n40
  have hnf := hra.nf6
  have hLn : mL T n ≤ n := ct_le _ n
  by_cases z1 : nf < 6
  · refine lv_aload_n hx hb dL_act_132 rfl (lv_at hl 1 rfl) ?_
    refine va_get (D := D) (ci := 5) (v := .ref (o 2)) (C := RX5) (T := TX5) (N := 6) hx hb hts tu_5 hown hE.1 hP 59 lw_59 rfl 3 (by decide) (hts _ tw_738) (fun _ h9 => h9) rfl dL_act_133 ?_
    refine k_olen hx hb hE hP 61 lw_61 dL_act_136 ?_
    refine lv_bipush (v := 6) hx hb dL_act_137 (by decide) ?_
    refine lv_icmp_ge (tgt := 150) hx hb dL_act_139 (by decide) (fun c_ => absurd c_ (nI_ge (b := 6) z1 (by decide))) (fun c_1 => ?_)
    refine lv_aload_n hx hb dL_act_142 rfl (lv_at hl 1 rfl) ?_
    refine va_get (D := D) (ci := 5) (v := .ref (o 2)) (C := RX5) (T := TX5) (N := 6) hx hb hts tu_5 hown hE.1 hP 59 lw_59 rfl 3 (by decide) (hts _ tw_738) (fun _ h9 => h9) rfl dL_act_143 ?_
    refine k_olen hx hb hE hP 61 lw_61 dL_act_146 ?_
    refine lv_goto (tgt := 151) hx hb dL_act_147 (by decide) ?_
    refine lv_istore (lv' := [(7, .int (nI nf)), (0, .ref x), (1, .ref (o 0)), (2, .int v), (3, .int (nI f)), (4, .int (nI ch))]) hx hb dL_act_151 hl (by decide) rfl (fun ls hl => ?_)
    refine lv_iload hx hb dL_act_153 (lv_at hl 0 rfl) ?_
    refine lv_if_lt (tgt := 180) hx hb dL_act_155 (by decide) (fun c_ => absurd c_ (nI_pos (by omega))) (fun c_2 => ?_)
    refine lv_aload_n hx hb dL_act_158 rfl (lv_at hl 2 rfl) ?_
    refine lv_aload_n hx hb dL_act_159 rfl (lv_at hl 2 rfl) ?_
    refine va_get (D := D) (ci := 5) (v := .ref (o 2)) (C := RX5) (T := TX5) (N := 6) hx hb hts tu_5 hown hE.1 hP 59 lw_59 rfl 3 (by decide) (hts _ tw_738) (fun _ h9 => h9) rfl dL_act_160 ?_
    refine lv_iconst (v := 2) hx hb dL_act_163 (by decide) ?_
    refine i_newai (N := 2) hx hb (hts _ tw_49) hE hP hD hS hA (by decide) rfl (Nat.le_of_ble_eq_true rfl) (Nat.le_of_ble_eq_true rfl) (Nat.le_of_ble_eq_true rfl) dL_act_164 (fun q1 H hP hD hS => ?_)
    rw [lw_more] at hP hD
    have hP : va_P D vwCl (LW k a tr o fa ba x S U G T n nf (mL T n) (R ++ [(q1, .inl (k 0, 2, .inl (fun _ => 0)))])) H := hP
    have hD : va_D A (LW k a tr o fa ba x S U G T n nf (mL T n) (R ++ [(q1, .inl (k 0, 2, .inl (fun _ => 0)))])) := hD
    refine lv_dup hx hb dL_act_166 rfl ?_
    refine lv_iconst (v := 0) hx hb dL_act_167 (by decide) ?_
    refine lv_iconst (v := (-1)) hx hb dL_act_168 (by decide) ?_
    refine k_iast (j := 0) hx hb hE hP hD hS (64 + nf + n + (R.length + 0)) ((lw_Ri (i := 0)).trans rfl) (by decide) (by decide) dL_act_169 (fun H locs hP hD hS => ?_)
    rw [lw_Riset (i := 0)] at hP hD
    have hP : va_P D vwCl (LW k a tr o fa ba x S U G T n nf (mL T n) (R ++ [(q1, .inl (k 0, 2, .inl (upd (fun _ => 0) 0 (-1))))])) H := hP
    have hD : va_D A (LW k a tr o fa ba x S U G T n nf (mL T n) (R ++ [(q1, .inl (k 0, 2, .inl (upd (fun _ => 0) 0 (-1))))])) := hD
    refine lv_dup hx hb dL_act_170 rfl ?_
    refine lv_iconst (v := 1) hx hb dL_act_171 (by decide) ?_
    refine lv_iconst (v := 0) hx hb dL_act_172 (by decide) ?_
    refine k_iast (j := 1) hx hb hE hP hD hS (64 + nf + n + (R.length + 0)) ((lw_Ri (i := 0)).trans rfl) (by decide) (by decide) dL_act_173 (fun H locs hP hD hS => ?_)
    rw [lw_Riset (i := 0)] at hP hD
    have hP : va_P D vwCl (LW k a tr o fa ba x S U G T n nf (mL T n) (R ++ [(q1, .inl (k 0, 2, .inl (upd (upd (fun _ => 0) 0 (-1)) 1 0)))])) H := hP
    have hD : va_D A (LW k a tr o fa ba x S U G T n nf (mL T n) (R ++ [(q1, .inl (k 0, 2, .inl (upd (upd (fun _ => 0) 0 (-1)) 1 0)))])) := hD
    refine c_gS (rest := [.ref (o 0)]) hC hE hP hD hS hA (metX5_more l 61 (64 + nf + n + (R.length + 0)) (o 2) q1 nf 2 fa (upd (upd (fun _ => 0) 0 (-1)) 1 0) lw_61 ((lw_Ri (i := 0)).trans rfl) (fun j hj => ⟨64 + j, 2, flR G j, lw_f hj⟩) (by omega)) (fun _ _ _ => trivial) (fun _ _ _ _ _ => trivial) gc_RL_24 hd_X5_more ⟨rfl, rfl⟩ ⟨Nat.le_of_ble_eq_true rfl, Nat.le_of_ble_eq_true rfl⟩ rfl hl.1 (Nat.le_of_ble_eq_true rfl) ⟨(Nat.le_of_ble_eq_true rfl), (Nat.le_of_ble_eq_true rfl)⟩ dL_act_174 (fun v9 w9 H locs hp hP hD hS => ?_)
    obtain ⟨q2, rfl, rfl⟩ := hp
    rw [lw_more, List.append_assoc] at hP hD
    have hP : va_P D vwCl (LW k a tr o fa ba x S U G T n nf (mL T n) (R ++ [(q1, .inl (k 0, 2, .inl (upd (upd (fun _ => 0) 0 (-1)) 1 0))), (q2, outA (k 2) (nf + 1) (rfA (oLn fa nf q1)))])) H := hP
    have hD : va_D A (LW k a tr o fa ba x S U G T n nf (mL T n) (R ++ [(q1, .inl (k 0, 2, .inl (upd (upd (fun _ => 0) 0 (-1)) 1 0))), (q2, outA (k 2) (nf + 1) (rfA (oLn fa nf q1)))])) := hD
    have hP := row_cong (i := 64 + nf + n + (R.length + 0)) (g := flR G nf) hP ((lw_Ri (i := 0)).trans rfl) (fun j hj => by
        rcases (show j = 0 ∨ j = 1 by omega) with rfl | rfl
        · exact (hgi.fr nf (Nat.le_refl nf) z1).1.symm
        · exact (hgi.fr nf (Nat.le_refl nf) z1).2.symm)
    rw [lw_Riset (i := 0)] at hP
    have hP : va_P D vwCl (LW k a tr o fa ba x S U G T n nf (mL T n) (R ++ [(q1, .inl (k 0, 2, .inl (flR G nf))), (q2, outA (k 2) (nf + 1) (rfA (oLn fa nf q1)))])) H := hP
    have hD : va_D A (LW k a tr o fa ba x S U G T n nf (mL T n) (R ++ [(q1, .inl (k 0, 2, .inl (flR G nf))), (q2, outA (k 2) (nf + 1) (rfA (oLn fa nf q1)))])) := lw_RD hD (by rw [List.map_append, List.map_append]; rfl)
    refine va_put (D := D) (ci := 5) (v := .ref q2) (ty := tyX5 3) (C := RX5) (T := TX5) (N := 6) hx hb hts tu_5 tyX5 tyX5_ok nmX5 hown hE.1 hP hD hS 59 lw_59 rfl 3 (by decide) (hts _ tw_738) (fun _ h9 => h9) rfl (tyX5_ok 3 (by decide)) rfl rfl (Nat.le_of_ble_eq_true rfl) dL_act_177 (fun H locs hP hD hS => ?_)
    obtain ⟨hP, hD⟩ := lw_newFl (G2 := G) hP hD (fun _ _ => rfl) rfl rfl rfl
    have hP : va_P D vwCl (LW k a tr (oLn o 2 q2) (oLn fa nf q1) ba x S U G T n (nf + 1) (mL T n) R) H := hP
    have hD : va_D A (LW k a tr (oLn o 2 q2) (oLn fa nf q1) ba x S U G T n (nf + 1) (mL T n) R) := hD
    refine lv_aload_n hx hb dL_act_180 rfl (lv_at hl 1 rfl) ?_
    refine c_mVi (rest := []) hC hE hP hD hS (ws' := (LW k a tr (oLn o 2 q2) (oLn fa nf q1) ba x (xAddFl S) U G T n (nf + 1) (mL T n) R)) lw_same (lx_addFlight l S (by rw [hra.sf_]; exact lt_6 z1)) gc_RL_28 hd_X4_addFlight ⟨rfl, rfl⟩ ⟨Nat.le_of_ble_eq_true rfl, Nat.le_of_ble_eq_true rfl⟩ 29 lw_29 rfl rfl hl.1 (Nat.le_of_ble_eq_true rfl) ⟨(Nat.le_of_ble_eq_true rfl), (Nat.le_of_ble_eq_true rfl)⟩ dL_act_181 (fun H locs hP hD hS => ?_)
    refine w_top (show S 0 3 = nI nf from hra.sf_) ?_
    refine lv_istore (lv' := [(6, .int (nI nf)), (7, .int (nI nf)), (0, .ref x), (1, .ref (o 0)), (2, .int v), (3, .int (nI f)), (4, .int (nI ch))]) hx hb dL_act_184 hl (by decide) rfl (fun ls hl => ?_)
    refine lv_goto (tgt := 194) hx hb dL_act_186 (by decide) ?_
    refine lv_iload hx hb dL_act_194 (lv_at hl 0 rfl) ?_
    refine lv_iload hx hb dL_act_196 (lv_at hl 1 rfl) ?_
    refine lv_icmp_ne (tgt := 205) hx hb dL_act_198 (by decide) (fun c_ => absurd rfl c_) (fun c_3 => ?_)
    refine lv_iconst (v := 1) hx hb dL_act_201 (by decide) ?_
    refine lv_goto (tgt := 206) hx hb dL_act_202 (by decide) ?_
    have e99 : (LW k a tr (oLn o 2 q2) (oLn fa nf q1) ba x (xAddFl S) U (sf (thr G 0) 0 (upd ((thr G 0) 0) 1 (G 0 1 + 1))) T n (nf + 1) (mL T n) R) = (LW k a tr (oLn o 2 q2) (oLn fa nf q1) ba x (xAddFl S) U G T n (nf + 1) (mL T n) R) := rfl
    rw [← e99] at hP hD
    exact g_zret hx hb hr rfl hlk dL_act_206 hP hD hS ⟨rfl, (oLn o 2 q2), (oLn fa nf q1), ba, (xAddFl S), U, (sf (thr G 0) 0 (upd ((thr G 0) 0) 1 (G 0 1 + 1))), T, n, (nf + 1), (Nat.succ_pos nf), (add_ra hra z1), (RB_same hrb rfl rfl rfl rfl rfl rfl rfl rfl), hti, ⟨hgi.fi, hgi.op, hgi.ld, fun f h1 h2 => hgi.fr f (by omega) h2⟩, ho, rfl⟩ (Nat.le_of_ble_eq_true rfl) (Nat.le_of_ble_eq_true rfl)
  · refine lv_aload_n hx hb dL_act_132 rfl (lv_at hl 1 rfl) ?_
    refine va_get (D := D) (ci := 5) (v := .ref (o 2)) (C := RX5) (T := TX5) (N := 6) hx hb hts tu_5 hown hE.1 hP 59 lw_59 rfl 3 (by decide) (hts _ tw_738) (fun _ h9 => h9) rfl dL_act_133 ?_
    refine k_olen hx hb hE hP 61 lw_61 dL_act_136 ?_
    refine lv_bipush (v := 6) hx hb dL_act_137 (by decide) ?_
    refine lv_icmp_ge (tgt := 150) hx hb dL_act_139 (by decide) (fun c_4 => ?_) (fun c_ => absurd (nI_le (a := 6) (by omega) (by omega)) c_)
    refine lv_iconst (v := (-1)) hx hb dL_act_150 (by decide) ?_
    refine lv_istore (lv' := [(7, .int (-1)), (0, .ref x), (1, .ref (o 0)), (2, .int v), (3, .int (nI f)), (4, .int (nI ch))]) hx hb dL_act_151 hl (by decide) rfl (fun ls hl => ?_)
    refine lv_iload hx hb dL_act_153 (lv_at hl 0 rfl) ?_
    refine lv_if_lt (tgt := 180) hx hb dL_act_155 (by decide) (fun c_5 => ?_) (fun c_ => absurd (by decide) c_)
    refine lv_aload_n hx hb dL_act_180 rfl (lv_at hl 1 rfl) ?_
    refine c_xV (rest := []) (E := "java/lang/IllegalStateException") hC hE hP hX (zA_x hZ hS) (lxb_addFlight_0 l S hfl (by rw [hra.sf_]; exact nlt_6 z1 (by omega))) gc_RL_28 hd_X4_addFlight ⟨Nat.le_of_ble_eq_true rfl, Nat.le_of_ble_eq_true rfl⟩ 29 lw_29 rfl rfl hl.1 (Nat.le_of_ble_eq_true rfl) ⟨(Nat.le_of_ble_eq_true rfl), (Nat.le_of_ble_eq_true rfl)⟩ dL_act_181 (fun ce q9 H1 h1 h2 h3 hP1 hz1 hk1 => ?_)
    refine vx_catch (own := RL) (E := "java/lang/IllegalStateException") (name := "java/lang/IllegalStateException") hown [] ⟨180, 186, 189, 34⟩ [⟨320, 329, 332, 34⟩, ⟨585, 592, 595, 34⟩, ⟨892, 900, 903, 34⟩, ⟨982, 991, 994, 34⟩, ⟨1152, 1163, 1166, 34⟩] htab (fun z hz => absurd hz List.not_mem_nil) rfl (by decide) (hts _ tw_602) (va_Nw.use rfl (hX.2.1 (.castable "java/lang/IllegalStateException" "java/lang/IllegalStateException") (by decide +kernel))) h1 h2 h3 ?_
    have hS := vS_grown hS hz1 hk1
    have hP := hP1
    refine lv_astore (lv' := [(8, .ref q9), (7, .int (-1)), (0, .ref x), (1, .ref (o 0)), (2, .int v), (3, .int (nI f)), (4, .int (nI ch))]) hx hb dL_act_189 hl (by decide) rfl (fun ls hl => ?_)
    refine lv_iconst (v := (-1)) hx hb dL_act_191 (by decide) ?_
    refine lv_istore (lv' := [(6, .int (-1)), (8, .ref q9), (7, .int (-1)), (0, .ref x), (1, .ref (o 0)), (2, .int v), (3, .int (nI f)), (4, .int (nI ch))]) hx hb dL_act_192 hl (by decide) rfl (fun ls hl => ?_)
    refine lv_iload hx hb dL_act_194 (lv_at hl 0 rfl) ?_
    refine lv_iload hx hb dL_act_196 (lv_at hl 2 rfl) ?_
    refine lv_icmp_ne (tgt := 205) hx hb dL_act_198 (by decide) (fun c_ => absurd rfl c_) (fun c_6 => ?_)
    refine lv_iconst (v := 1) hx hb dL_act_201 (by decide) ?_
    refine lv_goto (tgt := 206) hx hb dL_act_202 (by decide) ?_
    have e99 : (LW k a tr o fa ba x S U G T n nf (mL T n) R) = (LW k a tr o fa ba x S U G T n nf (mL T n) R) := rfl
    rw [← e99] at hP hD
    exact g_zret hx hb hr rfl hlk dL_act_206 hP hD hS ⟨rfl, o, fa, ba, S, U, G, T, n, nf, hnf0, hra, hrb, hti, hgi, ho, rfl⟩ (Nat.le_of_ble_eq_true rfl) (Nat.le_of_ble_eq_true rfl)
