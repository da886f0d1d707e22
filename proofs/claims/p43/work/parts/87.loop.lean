/-! the law's turns -/
theorem lw_C9 {w : Cond} (h : w ∈ lw_all) : GoodIn lw_all (w :: lw_all) := lw_cons h lw_self
theorem gw_RL_104 : GoodIn lw_all (va_wsS RL 104 yL_act wsA) := lw_cons tw_599 (lw_cons tw_600 (lw_cons tw_0 (lw_C9 tw_601)))
section LAWG
variable {p : Program} {l : Launch} {e : Env} {R : Room} {s : State} {m : MethodId} {args : Array Value} {below : List Frame} {meth : Method} {c : Code} {H : Heap} {locs : List Loc} {cells slots : Nat} {Q : State → Prop}
variable {cc bytes : ByteArray} {pc index nL maxL mc ms : Nat} {own C : String} {y : MethodName} {ret : Option FieldType} {rm : Room} {D : va_G} {k : Nat → ClassId} {ws ws' : va_W} {A : Nat → Prop} {H0 : Heap} {ls : Array Slot} {st rest As : List Value} {b a : Nat} {g : JFrame} {post : Option Value → va_W → Prop} {PX : State → Prop}
theorem c_gSW {hh : List (Nat × Nat × Nat × Nat)} (hC : CallFix p m c cc nL s args lw_all own) (hE : eK D k s) (hP : va_P D vwCl ws H) (hD : va_D A ws) (hS : va_S A H0 H locs) (hA : ∀ q : Nat, H0.size ≤ q → A q) (hM : GM l y (Cond.codeWith y bytes maxL ret hh :: lw_all) rm mc ms D k ws H.size As PX post) (hX : ∀ U : State, U.heap = H → s.WarmedH U.vm → PX U) (hXb : ∀ (U : State) (g : JFrame) (mk : MethodId) (a : Array Value), PX U → PX (U.calling g mk a)) (hG : GoodIn lw_all (va_wsS own index y (Cond.codeWith y bytes maxL ret hh :: lw_all))) (hd : y.cls ≠ "java/lang/invoke/MethodHandle" ∧ y.cls ≠ "java/lang/invoke/VarHandle" ∧ (parseMethodDescriptor y.desc).map (fun d => d.parameters.length) = some As.length) (hr0 : rm.cells = mc ∧ rm.slots = ms) (hR : rm.frames + 1 ≤ R.frames ∧ 8 + (maxL + 11) + rm.locals ≤ R.locals) (hst : st = As.reverse ++ rest) (hls : ls.size = nL) (hroom : (rest.map fun v => v.category).sum ≤ 8) (hf : cells + mc ≤ R.cells ∧ slots + ms ≤ R.slots) (hdg : decode cc pc = .ok (.invokestatic index, 3))
    (kk : ∀ (v : Option Value) (w1 : va_W) (H1 : Heap) (locs1 : List Loc), post v w1 → va_P D vwCl w1 H1 → va_D A w1 → va_S A H0 H1 locs1 → W p l e R s m args below meth c H1 locs1 (cells + mc) (slots + ms) Q (F0 m (pc + 3) ls (v.toList ++ rest))) : W p l e R s m args below meth c H locs cells slots Q (F0 m pc ls st) := by
  subst hst
  exact c_gen (vx_runSW (As := As) (rest := rest) hC hM (vx_cwSW _ hC.2.2.2.2 hG rfl hr0.1 hr0.2 hd hR) ⟨gP_blind hXb, fun U hU hW => ⟨rfl, by rw [hU], eK_warm hW hE, by rw [hU]; exact hP, hD.weaken (fun _ _ _ _ => trivial), hX U hU hW⟩⟩ rfl rfl hls rfl (lv_room hroom) hdg hf) hD hS hA kk
end LAWG
theorem vaA_in {A : Nat → Prop} {H0 H : Heap} {locs : List Loc} {w : va_W} (hD : va_D A w) (hS : va_S A H0 H locs) (hA : ∀ q : Nat, H0.size ≤ q → A q) : ∀ q, va_A w H.size q → A q := fun q h => by
  rcases h with ⟨i, e9, h9⟩ | h
  · exact hD.2 i (q, e9) h9
  · exact hA q (Nat.le_trans hS.1 h)
theorem zA_in {A B : Nat → Prop} {s U : State} {H : Heap} {locs : List Loc} (h : zA A s s.heap) (hS : va_S A s.heap H locs) (hB : ∀ q, B q → A q) (hU : U.heap = H) (hW : s.WarmedH U.vm) : zA B U U.heap := by
  rw [hU]
  exact zA_moved hW.alike ⟨(h.1.kept hS.2.1).narrow hB, (h.2.kept hS.2.1).narrow hB⟩
theorem zA_calling {A : Nat → Prop} {U : State} {g : JFrame} {mk : MethodId} {a : Array Value} (h : zA A U U.heap) : zA A (U.calling g mk a) (U.calling g mk a).heap := zA_moved (u := U) (U := U.calling g mk a) (Vm.Alike.refl U.vm) h
set_option maxHeartbeats 1000000 in
set_option maxRecDepth 100000 in
theorem law_rest {p : Program} {l : Launch} {e : Env} {s : State} {m : MethodId} {args : Array Value} {below : List Frame} {meth : Method} {c : Code} {D : va_G} {k : Nat → ClassId} {A : Nat → Prop} {a tr : Nat → Nat} {b x q0 L : Nat} {xs : Nat → Int32} {ls : Array Slot} {H : Heap} {locs : List Loc} {Q : State → Prop} (hfl : l.stackTraces = false) (hC : CallFix p m c cL_law 28 s args lw_all RL) (hE : eK D k s) (hA : ∀ q : Nat, s.heap.size ≤ q → A q) (hXK : xK s) (hZ : zA A s s.heap) (hXs : va_X b L xs s s.heap) (hbl : b < s.heap.size) (hbA : ¬ A b) (hL9 : L ≤ 260) {cc ss t : Nat} {xv : Int32} (hcc : cc + 100 ≤ 600130) (hss : ss + 5000 ≤ 7301080) {w : va_W} (hw9 : AS k a tr x q0 [] w) (hl : lv_has ls 28 [(0, .ref b), (1, .ref x), (2, .ref q0), (3, .int (nI t)), (4, .int xv)]) (hP : va_P D vwCl w H) (hD : va_D A w) (hS : va_S A s.heap H locs) (K : ∀ (ls : Array Slot) (H : Heap) (locs : List Loc) (w : va_W), AS k a tr x q0 [] w → lv_has ls 28 [(0, .ref b), (1, .ref x), (2, .ref q0), (3, .int (nI (t + 1)))] → va_P D vwCl w H → va_D A w → va_S A s.heap H locs → W p l e room_1 s m args below meth c H locs (cc + 40) (ss + 1500) Q (F0 m 22 ls [])) : W p l e room_1 s m args below meth c H locs cc ss Q (F0 m 80 ls []) := by
  have hx := hC.1
  have hb := hC.2.1
  have hown : s.vm.findClass RL = some m.cls := hC.2.2.2.1
  have hts := hC.2.2.2.2
  obtain ⟨o, fa, ba, S, U, G, T, n, nf, hnf0, hra, hrb, hti, hgi, ho, rfl⟩ := hw9
  rw [← ho] at hl
  refine law_B hC hE hA (by omega) (by omega) hnf0 hra hrb hti hgi hl hP hD hS (fun q1 q2 q3 ls H locs hl hP hD hS => ?_)
  refine law_C hC hE hA (by omega) (by omega) hnf0 hra hrb hti hgi hl hP hD hS (fun ls H locs hl hP hD hS => ?_)
  refine law_H hC hE hA (by omega) (by omega) hnf0 hra hrb hti hgi (lv_sub hl [0, 1, 2, 3, 4, 5, 6, 7, 8, 9, 10] rfl) hP hD hS (fun N f q4 q5 q6 q7 q8 U2 hN1 hN9 hf ls H locs hl hP hD hS => ?_)
  refine law_J hC hE hA (by omega) (by omega) hnf0 hra hrb hti hgi hN1 hN9 hl hP hD hS (fun o9 d ho9 hps hti2 ls H locs hl hP hD hS => ?_)
  obtain ⟨hra2, hrb2, -⟩ := go_rel hra hrb N
  have hgi2 := go_gi hgi hps.1
  refine law_K hC hE hA (by omega) (by omega) hnf0 hra2 hrb2 hti2 hgi2 hf hti hps (unf_go hra hrb hti (by omega)) (lv_sub hl [0, 1, 2, 3, 4, 5, 6, 7, 8, 9, 10, 11, 12, 19, 13, 14, 15, 16, 17, 18, 20] rfl) hP hD hS (fun ls H locs hl hP hD hS => ?_)
  have hP := lw_dYP hP
  have hD := lw_dYD hD
  refine law_L (xv := xv) hC hE hA (by omega) (by omega) hnf0 hra2 hrb2 hti2 hgi2 hps hl hP hD hS (fun ls H locs hl hP hD hS => ?_)
  have hP := lw_dYP hP
  have hD := lw_dYD hD
  rw [ho] at hl
  refine lv_iinc (v := nI (t + 1)) (lv' := [(3, .int (nI (t + 1))), (0, .ref b), (1, .ref x), (2, .ref q0)]) hx hb dL_law_1197 hl (k := 3) rfl (iinc1 _) (by decide) rfl (fun ls hl => ?_)
  refine lv_goto (tgt := 22) hx hb dL_law_1200 (by decide) ?_
  refine W.widen (k := cc + 40) (n := ss + 1500) (by omega) (by omega) ?_
  exact K ls H locs _ ⟨o9, fa, ba, _, _, G, _, n, nf, hnf0, hra2, hrb2, hti2, hgi2, ho9.trans ho, rfl⟩ (lv_sub hl [1, 2, 3, 0] rfl) hP hD hS
set_option maxHeartbeats 1000000 in
set_option maxRecDepth 100000 in
theorem law_turn {p : Program} {l : Launch} {e : Env} {s : State} {m : MethodId} {args : Array Value} {below : List Frame} {meth : Method} {c : Code} {D : va_G} {k : Nat → ClassId} {A : Nat → Prop} {a tr : Nat → Nat} {b x q0 L : Nat} {xs : Nat → Int32} {ls : Array Slot} {H : Heap} {locs : List Loc} {Q : State → Prop} (hfl : l.stackTraces = false) (hC : CallFix p m c cL_law 28 s args lw_all RL) (hE : eK D k s) (hA : ∀ q : Nat, s.heap.size ≤ q → A q) (hXK : xK s) (hZ : zA A s s.heap) (hXs : va_X b L xs s s.heap) (hbl : b < s.heap.size) (hbA : ¬ A b) (hL9 : L ≤ 260) {cc ss t : Nat} (ht : t < 14) (hcc : cc + 300 ≤ 600130) (hss : ss + 12000 ≤ 7301080) {w : va_W} (hw9 : AS k a tr x q0 [] w) (hl : lv_has ls 28 [(0, .ref b), (1, .ref x), (2, .ref q0), (3, .int (nI t))]) (hP : va_P D vwCl w H) (hD : va_D A w) (hS : va_S A s.heap H locs) (K : ∀ (ls : Array Slot) (H : Heap) (locs : List Loc) (w : va_W), AS k a tr x q0 [] w → lv_has ls 28 [(0, .ref b), (1, .ref x), (2, .ref q0), (3, .int (nI (t + 1)))] → va_P D vwCl w H → va_D A w → va_S A s.heap H locs → W p l e room_1 s m args below meth c H locs (cc + 200) (ss + 7500) Q (F0 m 22 ls [])) : W p l e room_1 s m args below meth c H locs cc ss Q (F0 m 22 ls []) := by
  have hx := hC.1
  have hb := hC.2.1
  have hown : s.vm.findClass RL = some m.cls := hC.2.2.2.1
  have hts := hC.2.2.2.2
  refine lv_iload_n hx hb dL_law_22 rfl (lv_at hl 3 rfl) ?_
  refine lv_bipush (v := 14) hx hb dL_law_23 (by decide) ?_
  refine lv_icmp_ge (tgt := 1203) hx hb dL_law_25 (by decide) (fun c_ => absurd c_ (nI_ge (b := 14) ht (by decide))) (fun c_1 => ?_)
  refine lv_aload_n hx hb dL_law_28 rfl (lv_at hl 0 rfl) ?_
  refine lv_iload_n hx hb dL_law_29 rfl (lv_at hl 3 rfl) ?_
  refine c_cell (j := t) (rest := []) hC hE (hXs.kept (hS.2.1 b hbl hbA)) (metL_cell l t (by omega) (by omega)) gc_RL_95 ⟨Nat.le_of_ble_eq_true rfl, Nat.le_of_ble_eq_true rfl⟩ rfl hl.1 (Nat.le_of_ble_eq_true rfl) ⟨(by show cc ≤ 600130; omega), (by show ss ≤ 7301080; omega)⟩ dL_law_30 ?_
  refine lv_iconst (v := 2) hx hb dL_law_33 (by decide) ?_
  refine lv_ishr hx hb dL_law_34 ?_
  refine lv_bipush (v := 53) hx hb dL_law_35 (by decide) ?_
  refine lv_iload_n hx hb dL_law_37 rfl (lv_at hl 3 rfl) ?_
  refine lv_imul hx hb dL_law_38 ?_
  refine lv_iadd hx hb dL_law_39 ?_
  refine lv_istore (lv' := [(4, .int (((cellV xs L t) >>> (2 &&& 31)) + (53 * (nI t)))), (0, .ref b), (1, .ref x), (2, .ref q0), (3, .int (nI t))]) hx hb dL_law_40 hl (by decide) rfl (fun ls hl => ?_)
  refine lv_iconst (v := 0) hx hb dL_law_42 (by decide) ?_
  refine lv_istore (lv' := [(5, .int 0), (4, .int (((cellV xs L t) >>> (2 &&& 31)) + (53 * (nI t)))), (0, .ref b), (1, .ref x), (2, .ref q0), (3, .int (nI t))]) hx hb dL_law_43 hl (by decide) rfl (fun ls hl => ?_)
  obtain ⟨xv, hxv⟩ : ∃ z, z = ((cellV xs L t) >>> (2 &&& 31)) + (53 * (nI t)) := ⟨_, rfl⟩
  have hl : lv_has ls 28 [(0, .ref b), (1, .ref x), (2, .ref q0), (3, .int (nI t)), (4, .int xv), (5, .int (nI 0))] := by rw [hxv]; exact lv_sub hl [2, 3, 4, 5, 1, 0] rfl
  refine w_forG (D := D) (A := A) (H0 := s.heap) (nL := 28) (N := 4) (fun i w => AS k a tr x q0 [] w) (fun i => [(0, .ref b), (1, .ref x), (2, .ref q0), (3, .int (nI t)), (4, .int xv), (5, .int (nI i))]) (fun i => cc + 40 * i) (fun i => ss + 1500 * i) ?_ ?_ 0 (Nat.zero_le _) hw9 hl hP hD hS
  · intro ls H locs w hI hl hP hD hS
    have hl : lv_has ls 28 [(0, .ref b), (1, .ref x), (2, .ref q0), (3, .int (nI t)), (4, .int xv), (5, .int (nI 4))] := hl
    refine lv_iload hx hb dL_law_45 (lv_at hl 5 rfl) ?_
    refine lv_iconst (v := 4) hx hb dL_law_47 (by decide) ?_
    refine lv_icmp_ge (tgt := 80) hx hb dL_law_48 (by decide) (fun _ => ?_) (fun c_ => absurd (nI_le (a := 4) (b := 4) (Nat.le_refl 4) (by decide)) c_)
    refine law_rest hfl hC hE hA hXK hZ hXs hbl hbA hL9 (cc := cc + 40 * 4) (ss := ss + 1500 * 4) (by omega) (by omega) hI (lv_sub hl [0, 1, 2, 3, 4] rfl) hP hD hS ?_
    intro ls H locs w hI hl hP hD hS
    have h9 := K ls H locs w hI hl hP hD hS
    rw [show cc + 40 * 4 + 40 = cc + 200 by omega, show ss + 1500 * 4 + 1500 = ss + 7500 by omega]
    exact h9
  · intro i hi ih ls H locs w hI hl hP hD hS
    have hl : lv_has ls 28 [(0, .ref b), (1, .ref x), (2, .ref q0), (3, .int (nI t)), (4, .int xv), (5, .int (nI i))] := hl
    refine lv_iload hx hb dL_law_45 (lv_at hl 5 rfl) ?_
    refine lv_iconst (v := 4) hx hb dL_law_47 (by decide) ?_
    refine lv_icmp_ge (tgt := 80) hx hb dL_law_48 (by decide) (fun c_ => absurd c_ (nI_ge (b := 4) hi (by decide))) (fun _ => ?_)
    refine lv_aload_n hx hb dL_law_51 rfl (lv_at hl 1 rfl) ?_
    refine lv_aload_n hx hb dL_law_52 rfl (lv_at hl 2 rfl) ?_
    refine lv_iload hx hb dL_law_53 (lv_at hl 4 rfl) ?_
    refine lv_iconst (v := 3) hx hb dL_law_55 (by decide) ?_
    refine lv_iload hx hb dL_law_56 (lv_at hl 5 rfl) ?_
    refine lv_imul hx hb dL_law_58 ?_
    refine lv_ishr hx hb dL_law_59 ?_
    refine lv_bipush (v := 29) hx hb dL_law_60 (by decide) ?_
    refine lv_iload hx hb dL_law_62 (lv_at hl 5 rfl) ?_
    refine lv_imul hx hb dL_law_64 ?_
    refine lv_iadd hx hb dL_law_65 ?_
    refine c_gSW (rest := []) hC hE hP hD hS hA (metL_act l hfl _ hI) (fun U hU hW => ⟨xK_warm hW hXK, zA_in hZ hS (vaA_in hD hS hA) hU hW⟩) (fun U g mk a h => ⟨xK_calling h.1, zA_calling h.2⟩) gw_RL_104 hd_L_act ⟨rfl, rfl⟩ ⟨Nat.le_of_ble_eq_true rfl, Nat.le_of_ble_eq_true rfl⟩ rfl hl.1 (Nat.le_of_ble_eq_true rfl) ⟨(by show cc + 40 * i + 40 ≤ 600130; omega), (by show ss + 1500 * i + 1500 ≤ 7301080; omega)⟩ dL_law_66 (fun v9 w9 H locs hp hP hD hS => ?_)
    obtain ⟨rfl, hw9⟩ := hp
    refine lv_if_ne (tgt := 74) hx hb dL_law_69 (by decide) (fun _ => ?_) (fun c_ => absurd c_ (by decide))
    refine lv_iinc (v := nI (i + 1)) (lv' := [(5, .int (nI (i + 1))), (0, .ref b), (1, .ref x), (2, .ref q0), (3, .int (nI t)), (4, .int xv)]) hx hb dL_law_74 hl (k := 5) rfl (iinc1 _) (by decide) rfl (fun ls hl => ?_)
    refine lv_goto (tgt := 45) hx hb dL_law_77 (by decide) ?_
    have h99 := ih ls H locs w9 hw9 (lv_sub hl [1, 2, 3, 4, 5, 0] rfl) hP hD hS
    rw [show cc + 40 * (i + 1) = cc + 40 * i + 40 by omega, show ss + 1500 * (i + 1) = ss + 1500 * i + 1500 by omega] at h99
    exact h99
set_option maxHeartbeats 1000000 in
set_option maxRecDepth 100000 in
theorem law_loop {p : Program} {l : Launch} {e : Env} {s : State} {m : MethodId} {args : Array Value} {below : List Frame} {meth : Method} {c : Code} {D : va_G} {k : Nat → ClassId} {A : Nat → Prop} {a tr : Nat → Nat} {b x q0 L : Nat} {xs : Nat → Int32} {ls : Array Slot} {H : Heap} {locs : List Loc} {Q : State → Prop} (hfl : l.stackTraces = false) (hC : CallFix p m c cL_law 28 s args lw_all RL) (hE : eK D k s) (hA : ∀ q : Nat, s.heap.size ≤ q → A q) (hXK : xK s) (hZ : zA A s s.heap) (hXs : va_X b L xs s s.heap) (hbl : b < s.heap.size) (hbA : ¬ A b) (hL9 : L ≤ 260) {w : va_W} (hw9 : AS k a tr x q0 [] w) (hl : lv_has ls 28 [(0, .ref b), (1, .ref x), (2, .ref q0), (3, .int (nI 0))]) (hP : va_P D vwCl w H) (hD : va_D A w) (hS : va_S A s.heap H locs) (K : ∀ (ls : Array Slot) (H : Heap) (locs : List Loc) (w : va_W), AS k a tr x q0 [] w → lv_has ls 28 [(0, .ref b), (1, .ref x), (2, .ref q0), (3, .int (nI 14))] → va_P D vwCl w H → va_D A w → va_S A s.heap H locs → W p l e room_1 s m args below meth c H locs (129 + 200 * 14) (2544 + 7500 * 14) Q (F0 m 22 ls [])) : W p l e room_1 s m args below meth c H locs (129 + 200 * 0) (2544 + 7500 * 0) Q (F0 m 22 ls []) := by
  refine w_forG (D := D) (A := A) (H0 := s.heap) (nL := 28) (N := 14) (fun i w => AS k a tr x q0 [] w) (fun i => [(0, .ref b), (1, .ref x), (2, .ref q0), (3, .int (nI i))]) (fun i => 129 + 200 * i) (fun i => 2544 + 7500 * i) K ?_ 0 (Nat.zero_le _) hw9 hl hP hD hS
  intro i hi ih ls H locs w hI hl hP hD hS
  refine law_turn hfl hC hE hA hXK hZ hXs hbl hbA hL9 hi (by show 129 + 200 * i + 300 ≤ 600130; omega) (by show 2544 + 7500 * i + 12000 ≤ 7301080; omega) hI hl hP hD hS ?_
  intro ls H locs w hI hl hP hD hS
  have h99 := ih ls H locs w hI hl hP hD hS
  rw [show 129 + 200 * (i + 1) = 129 + 200 * i + 200 by omega, show 2544 + 7500 * (i + 1) = 2544 + 7500 * i + 7500 by omega] at h99
  exact h99
