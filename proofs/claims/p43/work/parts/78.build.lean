/-! the hall that the cells choose -/
def BS (k : Nat → ClassId) (a tr : Nat → Nat) (x q0 n nf : Nat) (w : va_W) : Prop := ∃ (o fa ba : Nat → Nat) (S U G T : HS), RA S G n nf ∧ RB S T n ∧ TI T n ∧ GI G T n nf ∧ o 0 = q0 ∧ w = LW k a tr o fa ba x S U G T n nf (mL T n) []
section BLD
variable {p : Program} {l : Launch} {e : Env} {R : Room} {s : State} {m : MethodId} {args : Array Value} {below : List Frame} {meth : Method} {c : Code} {H : Heap} {locs : List Loc} {cells slots : Nat} {Q : State → Prop}
variable {cc bytes : ByteArray} {pc index nL maxL mc ms : Nat} {own host : String} {y : MethodName} {rm : Room} {D : va_G} {k : Nat → ClassId} {ws : va_W} {A : Nat → Prop} {H0 : Heap} {ls : Array Slot} {st rest As : List Value} {b : Nat} {post : Option Value → va_W → Prop} {PX : State → Prop}
theorem c_gN (hC : CallFix p m c cc nL s args lw_all own) (hE : eK D k s) (hP : va_P D vwCl ws H) (hD : va_D A ws) (hS : va_S A H0 H locs) (hA : ∀ q : Nat, H0.size ≤ q → A q) (hM : GM l y (ws_ y bytes maxL none) rm mc ms D k ws H.size (.ref b :: As) PX post) (hX : ∀ U : State, U.heap = H → s.WarmedH U.vm → PX U) (hXb : ∀ (U : State) (g : JFrame) (mk : MethodId) (a : Array Value), PX U → PX (U.calling g mk a)) (hl : va_Nw (.methodLinkNest own index y host) s) (hcd : Cond.code y bytes maxL none ∈ lw_all) (hini : Cond.initialized y.cls ∈ lw_all) (hin : Cond.instanceMethod y ∈ lw_all) (hy : y.name = "<init>") (hr0 : rm.cells = mc ∧ rm.slots = ms)
    (hd : y.cls ≠ "java/lang/invoke/MethodHandle" ∧ y.cls ≠ "java/lang/invoke/VarHandle" ∧ (parseMethodDescriptor y.desc).map (fun d => d.parameters.length) = some As.length) (hR : rm.frames + 1 ≤ R.frames ∧ 8 + (maxL + 11) + rm.locals ≤ R.locals) (hst : st = As.reverse ++ .ref b :: rest) (hls : ls.size = nL) (hroom : (rest.map fun v => v.category).sum ≤ 8) (hf : cells + mc ≤ R.cells ∧ slots + ms ≤ R.slots) (hdg : decode cc pc = .ok (.invokespecial index, 3))
    (kk : ∀ (v : Option Value) (w1 : va_W) (H1 : Heap) (locs1 : List Loc), post v w1 → va_P D vwCl w1 H1 → va_D A w1 → va_S A H0 H1 locs1 → W p l e R s m args below meth c H1 locs1 (cells + mc) (slots + ms) Q (F0 m (pc + 3) ls (v.toList ++ rest))) : W p l e R s m args below meth c H locs cells slots Q (F0 m pc ls st) := by
  subst hst
  have hts := hC.2.2.2.2
  exact c_gen (va_runIN (As := As) (rest := rest) hC hM ⟨va_cnB _ hts (lw_C hcd) rfl hr0.1 hr0.2 hl (hts _ hini) hd hR, hy, hts _ hin⟩ ⟨gP_blind hXb, fun U hU hW => ⟨rfl, by rw [hU], eK_warm hW hE, by rw [hU]; exact hP, hD.weaken (fun _ _ _ _ => trivial), hX U hU hW⟩⟩ rfl rfl hls rfl (lv_room hroom) hdg hf) hD hS hA kk
end BLD
theorem rem13 {j : Nat} (h : j < 16) : nI j % 13 = nI (j % 13) := by
  have : ∀ j, j < 16 → nI j % 13 = nI (j % 13) := by decide
  exact this j h

def BT (k : Nat → ClassId) (a tr : Nat → Nat) (x q0 n nf : Nat) (w : va_W) : Prop := ∃ (o fa ba : Nat → Nat) (S U G T : HS), RA S G n nf ∧ RB S T n ∧ TI T n ∧ GI G T n nf ∧ o 0 = q0 ∧ (∀ f, f < 6 → G 2 f = 0) ∧ w = LW k a tr o fa ba x S U G T n nf (mL T n) []

set_option maxHeartbeats 1000000 in
set_option maxRecDepth 100000 in
theorem bld_1 {p : Program} {l : Launch} {e : Env} {s : State} {m : MethodId} {args : Array Value} {below : List Frame} {meth : Method} {c : Code} {D : va_G} {k : Nat → ClassId} {A : Nat → Prop} {a tr : Nat → Nat} {x q0 b L : Nat} {xs : Nat → Int32} {ls : Array Slot} {H : Heap} {locs : List Loc} (hC : CallFix p m c cL_build 8 s args lw_all RL) (hr : meth.sig.returnType = some (.object "BagCarouselLaw$Sim")) (hlk : meth.locks = false) (hE : eK D k s) (hA : ∀ q : Nat, s.heap.size ≤ q → A q) (hXs : va_X b L xs s s.heap) (hbl : b < s.heap.size) (hbA : ¬ A b) (hL9 : L ≤ 260) {o fa ba : Nat → Nat} {S U G T : HS} {i F cells slots : Nat} (hi : i < F) (hF : F ≤ 6) (hcl : cells ≤ 30) (hsl : slots ≤ 600) (hra : RA S G 0 i) (hrb : RB S T 0) (hti : TI T 0) (hgi : GI G T 0 i) (ho : o 0 = q0) (hg0 : ∀ f, f < 6 → G 2 f = 0) (hl : lv_has ls 8 [(0, .ref x), (1, .ref b), (2, .ref (o 0)), (3, .int (nI F)), (4, .int (nI i))]) (hP : va_P D vwCl (LW k a tr o fa ba x S U G T 0 i (mL T 0) ([] : va_W)) H) (hD : va_D A (LW k a tr o fa ba x S U G T 0 i (mL T 0) ([] : va_W))) (hS : va_S A s.heap H locs)
    (K : ∀ ls H locs w, BT k a tr x q0 0 (i + 1) w → lv_has ls 8 [(0, .ref x), (1, .ref b), (2, .ref q0), (3, .int (nI F)), (4, .int (nI (i + 1)))] → va_P D vwCl w H → va_D A w → va_S A s.heap H locs → W p l e ({ frames := 8, cells := 70, slots := 1700, locals := 145 } : Room) s m args below meth c H locs (cells + 2) (slots + 44) (MQ below (gQ D A (fun v9 w1 => ∃ q0, v9 = some (.ref q0) ∧ AS k a tr x q0 [] w1)) args s 70 1700 A) (F0 m 24 ls [])) : W p l e ({ frames := 8, cells := 70, slots := 1700, locals := 145 } : Room) s m args below meth c H locs cells slots (MQ below (gQ D A (fun v9 w1 => ∃ q0, v9 = some (.ref q0) ∧ AS k a tr x q0 [] w1)) args s 70 1700 A) (F0 m 30 ls []) := by
  have hx := hC.1
  have hb := hC.2.1
  have hown : s.vm.findClass RL = some m.cls := hC.2.2.2.1
  have hts := hC.2.2.2.2
  have hn : 0 ≤ 40 := by omega
  have hnf : i ≤ 6 := by omega
  have z1 : i < 6 := by omega
  refine lv_aload_n hx hb dL_build_30 rfl (lv_at hl 2 rfl) ?_
  refine lv_aload_n hx hb dL_build_31 rfl (lv_at hl 2 rfl) ?_
  refine va_get (D := D) (ci := 5) (v := .ref (o 2)) (C := RX5) (T := TX5) (N := 6) hx hb hts tu_5 hown hE.1 hP 59 lw_59 rfl 3 (by decide) (hts _ tw_738) (fun _ h9 => h9) rfl dL_build_32 ?_
  refine lv_iconst (v := 2) hx hb dL_build_35 (by decide) ?_
  refine i_newai (N := 2) hx hb (hts _ tw_49) hE hP hD hS hA (by decide) rfl (Nat.le_of_ble_eq_true rfl) (by show cells + 1 ≤ 70; omega) (by show slots + 2 ≤ 1700; omega) dL_build_36 (fun q1 H hP hD hS => ?_)
  rw [lw_more] at hP hD
  have hP : va_P D vwCl (LW k a tr o fa ba x S U G T 0 i (mL T 0) (([] : va_W) ++ [(q1, .inl (k 0, 2, .inl (fun _ => 0)))])) H := hP
  have hD : va_D A (LW k a tr o fa ba x S U G T 0 i (mL T 0) (([] : va_W) ++ [(q1, .inl (k 0, 2, .inl (fun _ => 0)))])) := hD
  refine lv_dup hx hb dL_build_38 rfl ?_
  refine lv_iconst (v := 0) hx hb dL_build_39 (by decide) ?_
  refine lv_iconst (v := (-1)) hx hb dL_build_40 (by decide) ?_
  refine k_iast (j := 0) hx hb hE hP hD hS (64 + i + 0 + (([] : va_W).length + 0)) ((lw_Ri (i := 0)).trans rfl) (by decide) (by decide) dL_build_41 (fun H locs hP hD hS => ?_)
  rw [lw_Riset (i := 0)] at hP hD
  have hP : va_P D vwCl (LW k a tr o fa ba x S U G T 0 i (mL T 0) (([] : va_W) ++ [(q1, .inl (k 0, 2, .inl (upd (fun _ => 0) 0 (-1))))])) H := hP
  have hD : va_D A (LW k a tr o fa ba x S U G T 0 i (mL T 0) (([] : va_W) ++ [(q1, .inl (k 0, 2, .inl (upd (fun _ => 0) 0 (-1))))])) := hD
  refine lv_dup hx hb dL_build_42 rfl ?_
  refine lv_iconst (v := 1) hx hb dL_build_43 (by decide) ?_
  refine lv_iconst (v := 0) hx hb dL_build_44 (by decide) ?_
  refine k_iast (j := 1) hx hb hE hP hD hS (64 + i + 0 + (([] : va_W).length + 0)) ((lw_Ri (i := 0)).trans rfl) (by decide) (by decide) dL_build_45 (fun H locs hP hD hS => ?_)
  rw [lw_Riset (i := 0)] at hP hD
  have hP : va_P D vwCl (LW k a tr o fa ba x S U G T 0 i (mL T 0) (([] : va_W) ++ [(q1, .inl (k 0, 2, .inl (upd (upd (fun _ => 0) 0 (-1)) 1 0)))])) H := hP
  have hD : va_D A (LW k a tr o fa ba x S U G T 0 i (mL T 0) (([] : va_W) ++ [(q1, .inl (k 0, 2, .inl (upd (upd (fun _ => 0) 0 (-1)) 1 0)))])) := hD
  refine c_gS (rest := [.ref (o 0)]) hC hE hP hD hS hA (metX5_more l 61 (64 + i + 0 + (([] : va_W).length + 0)) (o 2) q1 i 2 fa (upd (upd (fun _ => 0) 0 (-1)) 1 0) lw_61 ((lw_Ri (i := 0)).trans rfl) (fun j hj => ⟨64 + j, 2, flR G j, lw_f hj⟩) (by omega)) (fun _ _ _ => trivial) (fun _ _ _ _ _ => trivial) gc_RL_24 hd_X5_more ⟨rfl, rfl⟩ ⟨Nat.le_of_ble_eq_true rfl, Nat.le_of_ble_eq_true rfl⟩ rfl hl.1 (Nat.le_of_ble_eq_true rfl) ⟨(by show cells + 1 + 1 ≤ 70; omega), (by show slots + 2 + 42 ≤ 1700; omega)⟩ dL_build_46 (fun v9 w9 H locs hp hP hD hS => ?_)
  obtain ⟨q2, rfl, rfl⟩ := hp
  rw [lw_more, List.append_assoc] at hP hD
  have hP : va_P D vwCl (LW k a tr o fa ba x S U G T 0 i (mL T 0) (([] : va_W) ++ [(q1, .inl (k 0, 2, .inl (upd (upd (fun _ => 0) 0 (-1)) 1 0))), (q2, outA (k 2) (i + 1) (rfA (oLn fa i q1)))])) H := hP
  have hD : va_D A (LW k a tr o fa ba x S U G T 0 i (mL T 0) (([] : va_W) ++ [(q1, .inl (k 0, 2, .inl (upd (upd (fun _ => 0) 0 (-1)) 1 0))), (q2, outA (k 2) (i + 1) (rfA (oLn fa i q1)))])) := hD
  have hP := row_cong (i := 64 + i + 0 + (([] : va_W).length + 0)) (g := flR G i) hP ((lw_Ri (i := 0)).trans rfl) (fun j hj => by
      rcases (show j = 0 ∨ j = 1 by omega) with rfl | rfl
      · exact (hgi.fr i (Nat.le_refl i) z1).1.symm
      · exact (hgi.fr i (Nat.le_refl i) z1).2.symm)
  rw [lw_Riset (i := 0)] at hP
  have hP : va_P D vwCl (LW k a tr o fa ba x S U G T 0 i (mL T 0) (([] : va_W) ++ [(q1, .inl (k 0, 2, .inl (flR G i))), (q2, outA (k 2) (i + 1) (rfA (oLn fa i q1)))])) H := hP
  have hD : va_D A (LW k a tr o fa ba x S U G T 0 i (mL T 0) (([] : va_W) ++ [(q1, .inl (k 0, 2, .inl (flR G i))), (q2, outA (k 2) (i + 1) (rfA (oLn fa i q1)))])) := lw_RD hD (by rw [List.map_append, List.map_append]; rfl)
  refine va_put (D := D) (ci := 5) (v := .ref q2) (ty := tyX5 3) (C := RX5) (T := TX5) (N := 6) hx hb hts tu_5 tyX5 tyX5_ok nmX5 hown hE.1 hP hD hS 59 lw_59 rfl 3 (by decide) (hts _ tw_738) (fun _ h9 => h9) rfl (tyX5_ok 3 (by decide)) rfl rfl (Nat.le_of_ble_eq_true rfl) dL_build_49 (fun H locs hP hD hS => ?_)
  obtain ⟨hP, hD⟩ := lw_newFl (G2 := G) hP hD (fun _ _ => rfl) rfl rfl rfl
  have hP : va_P D vwCl (LW k a tr (oLn o 2 q2) (oLn fa i q1) ba x S U G T 0 (i + 1) (mL T 0) ([] : va_W)) H := hP
  have hD : va_D A (LW k a tr (oLn o 2 q2) (oLn fa i q1) ba x S U G T 0 (i + 1) (mL T 0) ([] : va_W)) := hD
  refine lv_aload_n hx hb dL_build_52 rfl (lv_at hl 0 rfl) ?_
  refine c_mVi (rest := []) hC hE hP hD hS (ws' := (LW k a tr (oLn o 2 q2) (oLn fa i q1) ba x (xAddFl S) U G T 0 (i + 1) (mL T 0) ([] : va_W))) lw_same (lx_addFlight l S (by rw [hra.sf_]; exact lt_6 z1)) gc_RL_28 hd_X4_addFlight ⟨rfl, rfl⟩ ⟨Nat.le_of_ble_eq_true rfl, Nat.le_of_ble_eq_true rfl⟩ 29 lw_29 rfl rfl hl.1 (Nat.le_of_ble_eq_true rfl) ⟨(by show cells + 1 + 1 ≤ 70; omega), (by show slots + 2 + 42 ≤ 1700; omega)⟩ dL_build_53 (fun H locs hP hD hS => ?_)
  refine w_top (show S 0 3 = nI i from hra.sf_) ?_
  refine lv_iload hx hb dL_build_56 (lv_at hl 4 rfl) ?_
  refine lv_icmp_eq (tgt := 63) hx hb dL_build_58 (by decide) (fun c_1 => ?_) (fun c_ => absurd rfl c_)
  refine lv_aload_n hx hb dL_build_63 rfl (lv_at hl 1 rfl) ?_
  refine lv_iconst (v := 1) hx hb dL_build_64 (by decide) ?_
  refine c_cell (j := 1) (rest := []) hC hE (hXs.kept (hS.2.1 b hbl hbA)) (metL_cell l 1 (by omega) (by omega)) gc_RL_95 ⟨Nat.le_of_ble_eq_true rfl, Nat.le_of_ble_eq_true rfl⟩ rfl hl.1 (Nat.le_of_ble_eq_true rfl) ⟨(by show cells + 1 + 1 ≤ 70; omega), (by show slots + 2 + 42 ≤ 1700; omega)⟩ dL_build_65 ?_
  refine lv_iconst (v := 2) hx hb dL_build_68 (by decide) ?_
  refine lv_iload hx hb dL_build_69 (lv_at hl 4 rfl) ?_
  refine lv_imul hx hb dL_build_71 ?_
  refine lv_ishr hx hb dL_build_72 ?_
  refine lv_iconst (v := 4) hx hb dL_build_73 (by decide) ?_
  refine c_pSi (rest := []) hC hE hP (metL_below l ((cellV xs L 1) >>> ((2 * (nI i)) &&& 31)) 4 (by decide) (by decide)) gc_RL_15 hd_L_below ⟨rfl, rfl⟩ ⟨Nat.le_of_ble_eq_true rfl, Nat.le_of_ble_eq_true rfl⟩ rfl hl.1 (Nat.le_of_ble_eq_true rfl) ⟨(by show cells + 1 + 1 ≤ 70; omega), (by show slots + 2 + 42 ≤ 1700; omega)⟩ dL_build_74 ?_
  obtain ⟨j1, hj1, ej1⟩ := bel_of (N := 4) ((cellV xs L 1) >>> ((2 * (nI i)) &&& 31)) (by decide) (by decide)
  refine w_top ej1 ?_
  by_cases z2 : j1 = 0
  · refine lv_if_ne (tgt := 83) hx hb dL_build_77 (by decide) (fun c_ => absurd (by rw [z2]; rfl) c_) (fun c_2 => ?_)
    refine lv_goto (tgt := 126) hx hb dL_build_80 (by decide) ?_
    refine lv_iinc (v := nI (i + 1)) (lv' := [(4, .int (nI (i + 1))), (0, .ref x), (1, .ref b), (2, .ref (o 0)), (3, .int (nI F))]) hx hb dL_build_126 hl (k := 4) rfl (iinc1 _) (by decide) rfl (fun ls hl => ?_)
    refine lv_goto (tgt := 24) hx hb dL_build_129 (by decide) ?_
    have e99 : (LW k a tr (oLn o 2 q2) (oLn fa i q1) ba x (xAddFl S) U (sf (thr G 0) 0 (upd ((thr G 0) 0) 1 (G 0 1 + 1))) T 0 (i + 1) (mL T 0) ([] : va_W)) = (LW k a tr (oLn o 2 q2) (oLn fa i q1) ba x (xAddFl S) U G T 0 (i + 1) (mL T 0) ([] : va_W)) := rfl
    rw [← e99] at hP hD
    have hl : lv_has ls 8 [(0, .ref x), (1, .ref b), (2, .ref (o 0)), (3, .int (nI F)), (4, .int (nI (i + 1)))] := lv_sub hl [1, 2, 3, 4, 0] rfl
    rw [ho] at hl
    refine W.widen (k := cells + 2) (n := slots + 44) (by omega) (by omega) ?_
    exact K ls H locs _ ⟨oLn o 2 q2, oLn fa i q1, ba, (xAddFl S), U, (sf (thr G 0) 0 (upd ((thr G 0) 0) 1 (G 0 1 + 1))), T, (add_ra hra z1), (RB_same hrb rfl rfl rfl rfl rfl rfl rfl rfl), hti, ⟨hgi.fi, hgi.op, hgi.ld, fun f h1 h2 => hgi.fr f (by omega) h2⟩, ho, hg0, rfl⟩ hl hP hD hS
  · refine lv_if_ne (tgt := 83) hx hb dL_build_77 (by decide) (fun c_3 => ?_) (fun c_ => absurd c_ (fun z => z2 (nI_inj (b := 0) (by omega) (by decide) z)))
    refine lv_aload_n hx hb dL_build_83 rfl (lv_at hl 2 rfl) ?_
    refine va_get (D := D) (ci := 5) (v := .ref ((oLn o 2 q2) 2)) (C := RX5) (T := TX5) (N := 6) hx hb hts tu_5 hown hE.1 hP 59 lw_59 rfl 3 (by decide) (hts _ tw_738) (fun _ h9 => h9) rfl dL_build_84 ?_
    refine lv_iload hx hb dL_build_87 (lv_at hl 4 rfl) ?_
    refine k_aald (j := i) hx hb hE hP 61 lw_61 (Nat.lt_succ_self i) (by omega) dL_build_89 ?_
    refine lv_iconst (v := 0) hx hb dL_build_90 (by decide) ?_
    refine lv_aload_n hx hb dL_build_91 rfl (lv_at hl 1 rfl) ?_
    refine lv_iconst (v := 1) hx hb dL_build_92 (by decide) ?_
    refine c_cell (j := 1) (rest := [.int 0, .ref ((oLn fa i q1) i)]) hC hE (hXs.kept (hS.2.1 b hbl hbA)) (metL_cell l 1 (by omega) (by omega)) gc_RL_95 ⟨Nat.le_of_ble_eq_true rfl, Nat.le_of_ble_eq_true rfl⟩ rfl hl.1 (Nat.le_of_ble_eq_true rfl) ⟨(by show cells + 1 + 1 ≤ 70; omega), (by show slots + 2 + 42 ≤ 1700; omega)⟩ dL_build_93 ?_
    refine lv_iconst (v := 3) hx hb dL_build_96 (by decide) ?_
    refine lv_iload hx hb dL_build_97 (lv_at hl 4 rfl) ?_
    refine lv_imul hx hb dL_build_99 ?_
    refine lv_ishr hx hb dL_build_100 ?_
    refine lv_iconst (v := 4) hx hb dL_build_101 (by decide) ?_
    refine c_pSi (rest := [.int 0, .ref ((oLn fa i q1) i)]) hC hE hP (metL_below l ((cellV xs L 1) >>> ((3 * (nI i)) &&& 31)) 4 (by decide) (by decide)) gc_RL_15 hd_L_below ⟨rfl, rfl⟩ ⟨Nat.le_of_ble_eq_true rfl, Nat.le_of_ble_eq_true rfl⟩ rfl hl.1 (Nat.le_of_ble_eq_true rfl) ⟨(by show cells + 1 + 1 ≤ 70; omega), (by show slots + 2 + 42 ≤ 1700; omega)⟩ dL_build_102 ?_
    obtain ⟨j2, hj2, ej2⟩ := bel_of (N := 4) ((cellV xs L 1) >>> ((3 * (nI i)) &&& 31)) (by decide) (by decide)
    refine w_top ej2 ?_
    refine k_iast (j := 0) hx hb hE hP hD hS (64 + i) (lw_f (Nat.lt_succ_self i)) (by decide) (by decide) dL_build_105 (fun H locs hP hD hS => ?_)
    rw [lws_f0 (Nat.lt_succ_self i)] at hP hD
    have hP : va_P D vwCl (LW k a tr (oLn o 2 q2) (oLn fa i q1) ba x (xAddFl S) U (sf G 1 (upd (G 1) i (nI j2))) T 0 (i + 1) (mL T 0) ([] : va_W)) H := hP
    have hD : va_D A (LW k a tr (oLn o 2 q2) (oLn fa i q1) ba x (xAddFl S) U (sf G 1 (upd (G 1) i (nI j2))) T 0 (i + 1) (mL T 0) ([] : va_W)) := hD
    refine lv_aload_n hx hb dL_build_106 rfl (lv_at hl 0 rfl) ?_
    refine lv_iload hx hb dL_build_107 (lv_at hl 4 rfl) ?_
    refine lv_aload_n hx hb dL_build_109 rfl (lv_at hl 2 rfl) ?_
    refine va_get (D := D) (ci := 5) (v := .ref ((oLn o 2 q2) 2)) (C := RX5) (T := TX5) (N := 6) hx hb hts tu_5 hown hE.1 hP 59 lw_59 rfl 3 (by decide) (hts _ tw_738) (fun _ h9 => h9) rfl dL_build_110 ?_
    refine lv_iload hx hb dL_build_113 (lv_at hl 4 rfl) ?_
    refine k_aald (j := i) hx hb hE hP 61 lw_61 (Nat.lt_succ_self i) (by omega) dL_build_115 ?_
    refine lv_iconst (v := 0) hx hb dL_build_116 (by decide) ?_
    refine k_iald (j := 0) hx hb hE hP (64 + i) (lw_f (Nat.lt_succ_self i)) (by decide) (by decide) dL_build_117 ?_
    refine w_top (show flR (sf G 1 (upd (G 1) i (nI j2))) i 0 = (sf G 1 (upd (G 1) i (nI j2))) 1 i from rfl) ?_
    refine w_top (show (sf G 1 (upd (G 1) i (nI j2))) 1 i = nI j2 from upd_e _ _ _) ?_
    have hra2 := add_ra hra z1
    refine c_mVi (rest := []) hC hE hP hD hS (ws' := (LW k a tr (oLn o 2 q2) (oLn fa i q1) ba x (xChg (xAddFl S) (nI i) (nI j2)) U (sf G 1 (upd (G 1) i (nI j2))) T 0 (i + 1) (mL T 0) ([] : va_W))) lw_same (lx_giveChute l (xAddFl S) (nI i) (nI j2) 0 hra.sn (by omega) (xflt_n hra2 (Nat.lt_succ_self i)) (xch_n hj2) ((ng_iff hra2 z1).mpr (hgi.fr i (Nat.le_refl i) z1).2)) gc_RL_40 hd_X4_giveChute ⟨rfl, rfl⟩ ⟨Nat.le_of_ble_eq_true rfl, Nat.le_of_ble_eq_true rfl⟩ 29 lw_29 rfl rfl hl.1 (Nat.le_of_ble_eq_true rfl) ⟨(by show cells + 1 + 1 ≤ 70; omega), (by show slots + 2 + 42 ≤ 1700; omega)⟩ dL_build_118 (fun H locs hP hD hS => ?_)
    refine w_top (show nI (xChgN (xAddFl S) (nI i) (nI j2) 0) = 0 from rfl) ?_
    refine lv_if_eq (tgt := 126) hx hb dL_build_121 (by decide) (fun c_4 => ?_) (fun c_ => absurd rfl c_)
    refine lv_iinc (v := nI (i + 1)) (lv' := [(4, .int (nI (i + 1))), (0, .ref x), (1, .ref b), (2, .ref (o 0)), (3, .int (nI F))]) hx hb dL_build_126 hl (k := 4) rfl (iinc1 _) (by decide) rfl (fun ls hl => ?_)
    refine lv_goto (tgt := 24) hx hb dL_build_129 (by decide) ?_
    have e99 : (LW k a tr (oLn o 2 q2) (oLn fa i q1) ba x (xChg (xAddFl S) (nI i) (nI j2)) U (mSetC (sf (thr G 0) 0 (upd ((thr G 0) 0) 1 (G 0 1 + 1))) i j2) T 0 (i + 1) (mL T 0) ([] : va_W)) = (LW k a tr (oLn o 2 q2) (oLn fa i q1) ba x (xChg (xAddFl S) (nI i) (nI j2)) U (sf G 1 (upd (G 1) i (nI j2))) T 0 (i + 1) (mL T 0) ([] : va_W)) := rfl
    rw [← e99] at hP hD
    have hl : lv_has ls 8 [(0, .ref x), (1, .ref b), (2, .ref (o 0)), (3, .int (nI F)), (4, .int (nI (i + 1)))] := lv_sub hl [1, 2, 3, 4, 0] rfl
    rw [ho] at hl
    refine W.widen (k := cells + 2) (n := slots + 44) (by omega) (by omega) ?_
    exact K ls H locs _ ⟨oLn o 2 q2, oLn fa i q1, ba, (xChg (xAddFl S) (nI i) (nI j2)), U, (mSetC (sf (thr G 0) 0 (upd ((thr G 0) 0) 1 (G 0 1 + 1))) i j2), T, (chg_ra (add_ra hra z1) (by omega) hj2), (RB_same hrb rfl rfl rfl rfl rfl rfl rfl rfl), hti, ⟨hgi.fi, hgi.op, hgi.ld, fun f9 h1 h2 => ⟨(upd_n (by omega)).trans (hgi.fr f9 (by omega) h2).1, (hgi.fr f9 (by omega) h2).2⟩⟩, ho, hg0, rfl⟩ hl hP hD hS
set_option maxHeartbeats 1000000 in
set_option maxRecDepth 100000 in
theorem bld_2 {p : Program} {l : Launch} {e : Env} {s : State} {m : MethodId} {args : Array Value} {below : List Frame} {meth : Method} {c : Code} {D : va_G} {k : Nat → ClassId} {A : Nat → Prop} {a tr : Nat → Nat} {x q0 b L : Nat} {xs : Nat → Int32} {ls : Array Slot} {H : Heap} {locs : List Loc} (hC : CallFix p m c cL_build 8 s args lw_all RL) (hr : meth.sig.returnType = some (.object "BagCarouselLaw$Sim")) (hlk : meth.locks = false) (hE : eK D k s) (hA : ∀ q : Nat, s.heap.size ≤ q → A q) (hXs : va_X b L xs s s.heap) (hbl : b < s.heap.size) (hbA : ¬ A b) (hL9 : L ≤ 260) {o fa ba : Nat → Nat} {S U G T : HS} {i F N cells slots : Nat} (hi : i < N) (hN : N < 16) (hF0 : 0 < F) (hF : F ≤ 6) (hcl : cells ≤ 65) (hsl : slots ≤ 1600) (hra : RA S G i F) (hrb : RB S T i) (hti : TI T i) (hgi : GI G T i F) (ho : o 0 = q0) (hg0 : ∀ f, f < 6 → G 2 f = 0) (hl : lv_has ls 8 [(0, .ref x), (1, .ref b), (2, .ref (o 0)), (3, .int (nI F)), (4, .int (nI N)), (5, .int (nI i))]) (hP : va_P D vwCl (LW k a tr o fa ba x S U G T i F (mL T i) ([] : va_W)) H) (hD : va_D A (LW k a tr o fa ba x S U G T i F (mL T i) ([] : va_W))) (hS : va_S A s.heap H locs)
    (K : ∀ ls H locs w, BT k a tr x q0 (i + 1) F w → lv_has ls 8 [(0, .ref x), (1, .ref b), (2, .ref q0), (3, .int (nI F)), (4, .int (nI N)), (5, .int (nI (i + 1)))] → va_P D vwCl w H → va_D A w → va_S A s.heap H locs → W p l e ({ frames := 8, cells := 70, slots := 1700, locals := 145 } : Room) s m args below meth c H locs (cells + 3) (slots + 91) (MQ below (gQ D A (fun v9 w1 => ∃ q0, v9 = some (.ref q0) ∧ AS k a tr x q0 [] w1)) args s 70 1700 A) (F0 m 147 ls [])) : W p l e ({ frames := 8, cells := 70, slots := 1700, locals := 145 } : Room) s m args below meth c H locs cells slots (MQ below (gQ D A (fun v9 w1 => ∃ q0, v9 = some (.ref q0) ∧ AS k a tr x q0 [] w1)) args s 70 1700 A) (F0 m 154 ls []) := by
  have hx := hC.1
  have hb := hC.2.1
  have hown : s.vm.findClass RL = some m.cls := hC.2.2.2.1
  have hts := hC.2.2.2.2
  have hn : i ≤ 40 := by omega
  have hnf : F ≤ 6 := hF
  have z1 : i < 40 := by omega
  have hLn : mL T i ≤ i := ct_le _ i
  have hng : ∀ {j : Nat}, j < F → ¬ xGone S (nI j) := fun {j} h => (ng_iff hra (by omega)).mpr (hg0 j (by omega))
  refine lv_aload_n hx hb dL_build_154 rfl (lv_at hl 1 rfl) ?_
  refine lv_iconst (v := 3) hx hb dL_build_155 (by decide) ?_
  refine lv_iload hx hb dL_build_156 (lv_at hl 5 rfl) ?_
  refine lv_bipush (v := 13) hx hb dL_build_158 (by decide) ?_
  refine lv_irem hx hb dL_build_160 (by decide) ?_
  refine w_top (irem_eq_mod _ _) ?_
  refine w_top (show (nI i) % 13 = nI (i % 13) from rem13 (by omega)) ?_
  refine lv_iadd hx hb dL_build_161 ?_
  refine w_top (show 3 + (nI (i % 13)) = nI (3 + i % 13) from (nI_add 3 (i % 13))) ?_
  refine c_cell (j := (3 + i % 13)) (rest := []) hC hE (hXs.kept (hS.2.1 b hbl hbA)) (metL_cell l (3 + i % 13) (by omega) (by omega)) gc_RL_95 ⟨Nat.le_of_ble_eq_true rfl, Nat.le_of_ble_eq_true rfl⟩ rfl hl.1 (Nat.le_of_ble_eq_true rfl) ⟨(by show cells ≤ 70; omega), (by show slots ≤ 1700; omega)⟩ dL_build_162 ?_
  refine lv_iconst (v := 2) hx hb dL_build_165 (by decide) ?_
  refine lv_ishr hx hb dL_build_166 ?_
  refine lv_bipush (v := 17) hx hb dL_build_167 (by decide) ?_
  refine lv_iload hx hb dL_build_169 (lv_at hl 5 rfl) ?_
  refine lv_imul hx hb dL_build_171 ?_
  refine lv_iadd hx hb dL_build_172 ?_
  refine lv_istore (lv' := [(6, .int (((cellV xs L (3 + i % 13)) >>> (2 &&& 31)) + (17 * (nI i)))), (0, .ref x), (1, .ref b), (2, .ref (o 0)), (3, .int (nI F)), (4, .int (nI N)), (5, .int (nI i))]) hx hb dL_build_173 hl (by decide) rfl (fun ls hl => ?_)
  refine lv_bipush (v := 8) hx hb dL_build_175 (by decide) ?_
  refine i_newai (N := 8) hx hb (hts _ tw_49) hE hP hD hS hA (by decide) rfl (Nat.le_of_ble_eq_true rfl) (by show cells + 1 ≤ 70; omega) (by show slots + 8 ≤ 1700; omega) dL_build_177 (fun q1 H hP hD hS => ?_)
  rw [lw_more] at hP hD
  have hP : va_P D vwCl (LW k a tr o fa ba x S U G T i F (mL T i) (([] : va_W) ++ [(q1, .inl (k 0, 8, .inl (fun _ => 0)))])) H := hP
  have hD : va_D A (LW k a tr o fa ba x S U G T i F (mL T i) (([] : va_W) ++ [(q1, .inl (k 0, 8, .inl (fun _ => 0)))])) := hD
  refine lv_dup hx hb dL_build_179 rfl ?_
  refine lv_iconst (v := 0) hx hb dL_build_180 (by decide) ?_
  refine lv_iload hx hb dL_build_181 (lv_at hl 0 rfl) ?_
  refine lv_iload_n hx hb dL_build_183 rfl (lv_at hl 4 rfl) ?_
  refine c_pSi (rest := [.int 0, .ref q1, .ref q1]) hC hE hP (metL_below l (((cellV xs L (3 + i % 13)) >>> (2 &&& 31)) + (17 * (nI i))) F (by omega) (by omega)) gc_RL_15 hd_L_below ⟨rfl, rfl⟩ ⟨Nat.le_of_ble_eq_true rfl, Nat.le_of_ble_eq_true rfl⟩ rfl hl.1 (Nat.le_of_ble_eq_true rfl) ⟨(by show cells + 1 ≤ 70; omega), (by show slots + 8 ≤ 1700; omega)⟩ dL_build_184 ?_
  obtain ⟨j1, hj1, ej1⟩ := bel_of (N := F) (((cellV xs L (3 + i % 13)) >>> (2 &&& 31)) + (17 * (nI i))) (by omega) (by omega)
  refine w_top ej1 ?_
  refine k_iast (j := 0) hx hb hE hP hD hS (64 + F + i + (([] : va_W).length + 0)) ((lw_Ri (i := 0)).trans rfl) (by decide) (by decide) dL_build_187 (fun H locs hP hD hS => ?_)
  rw [lw_Riset (i := 0)] at hP hD
  have hP : va_P D vwCl (LW k a tr o fa ba x S U G T i F (mL T i) (([] : va_W) ++ [(q1, .inl (k 0, 8, .inl (upd (fun _ => 0) 0 (nI j1))))])) H := hP
  have hD : va_D A (LW k a tr o fa ba x S U G T i F (mL T i) (([] : va_W) ++ [(q1, .inl (k 0, 8, .inl (upd (fun _ => 0) 0 (nI j1))))])) := hD
  refine lv_dup hx hb dL_build_188 rfl ?_
  refine lv_iconst (v := 1) hx hb dL_build_189 (by decide) ?_
  refine lv_iconst (v := 1) hx hb dL_build_190 (by decide) ?_
  refine lv_iload hx hb dL_build_191 (lv_at hl 0 rfl) ?_
  refine lv_iconst (v := 2) hx hb dL_build_193 (by decide) ?_
  refine lv_ishr hx hb dL_build_194 ?_
  refine lv_bipush (v := 9) hx hb dL_build_195 (by decide) ?_
  refine c_pSi (rest := [.int 1, .int 1, .ref q1, .ref q1]) hC hE hP (metL_below l ((((cellV xs L (3 + i % 13)) >>> (2 &&& 31)) + (17 * (nI i))) >>> (2 &&& 31)) 9 (by decide) (by decide)) gc_RL_15 hd_L_below ⟨rfl, rfl⟩ ⟨Nat.le_of_ble_eq_true rfl, Nat.le_of_ble_eq_true rfl⟩ rfl hl.1 (Nat.le_of_ble_eq_true rfl) ⟨(by show cells + 1 ≤ 70; omega), (by show slots + 8 ≤ 1700; omega)⟩ dL_build_197 ?_
  obtain ⟨j2, hj2, ej2⟩ := bel_of (N := 9) ((((cellV xs L (3 + i % 13)) >>> (2 &&& 31)) + (17 * (nI i))) >>> (2 &&& 31)) (by decide) (by decide)
  refine w_top ej2 ?_
  refine lv_iadd hx hb dL_build_200 ?_
  refine w_top (show 1 + (nI j2) = nI (1 + j2) from (nI_add 1 j2)) ?_
  refine k_iast (j := 1) hx hb hE hP hD hS (64 + F + i + (([] : va_W).length + 0)) ((lw_Ri (i := 0)).trans rfl) (by decide) (by decide) dL_build_201 (fun H locs hP hD hS => ?_)
  rw [lw_Riset (i := 0)] at hP hD
  have hP : va_P D vwCl (LW k a tr o fa ba x S U G T i F (mL T i) (([] : va_W) ++ [(q1, .inl (k 0, 8, .inl (upd (upd (fun _ => 0) 0 (nI j1)) 1 (nI (1 + j2)))))])) H := hP
  have hD : va_D A (LW k a tr o fa ba x S U G T i F (mL T i) (([] : va_W) ++ [(q1, .inl (k 0, 8, .inl (upd (upd (fun _ => 0) 0 (nI j1)) 1 (nI (1 + j2)))))])) := hD
  refine lv_dup hx hb dL_build_202 rfl ?_
  refine lv_iconst (v := 2) hx hb dL_build_203 (by decide) ?_
  refine lv_iload hx hb dL_build_204 (lv_at hl 0 rfl) ?_
  refine lv_iconst (v := 4) hx hb dL_build_206 (by decide) ?_
  refine lv_ishr hx hb dL_build_207 ?_
  refine lv_bipush (v := 9) hx hb dL_build_208 (by decide) ?_
  refine c_pSi (rest := [.int 2, .ref q1, .ref q1]) hC hE hP (metL_below l ((((cellV xs L (3 + i % 13)) >>> (2 &&& 31)) + (17 * (nI i))) >>> (4 &&& 31)) 9 (by decide) (by decide)) gc_RL_15 hd_L_below ⟨rfl, rfl⟩ ⟨Nat.le_of_ble_eq_true rfl, Nat.le_of_ble_eq_true rfl⟩ rfl hl.1 (Nat.le_of_ble_eq_true rfl) ⟨(by show cells + 1 ≤ 70; omega), (by show slots + 8 ≤ 1700; omega)⟩ dL_build_210 ?_
  obtain ⟨j3, hj3, ej3⟩ := bel_of (N := 9) ((((cellV xs L (3 + i % 13)) >>> (2 &&& 31)) + (17 * (nI i))) >>> (4 &&& 31)) (by decide) (by decide)
  refine w_top ej3 ?_
  refine k_iast (j := 2) hx hb hE hP hD hS (64 + F + i + (([] : va_W).length + 0)) ((lw_Ri (i := 0)).trans rfl) (by decide) (by decide) dL_build_213 (fun H locs hP hD hS => ?_)
  rw [lw_Riset (i := 0)] at hP hD
  have hP : va_P D vwCl (LW k a tr o fa ba x S U G T i F (mL T i) (([] : va_W) ++ [(q1, .inl (k 0, 8, .inl (upd (upd (upd (fun _ => 0) 0 (nI j1)) 1 (nI (1 + j2))) 2 (nI j3))))])) H := hP
  have hD : va_D A (LW k a tr o fa ba x S U G T i F (mL T i) (([] : va_W) ++ [(q1, .inl (k 0, 8, .inl (upd (upd (upd (fun _ => 0) 0 (nI j1)) 1 (nI (1 + j2))) 2 (nI j3))))])) := hD
  refine lv_dup hx hb dL_build_214 rfl ?_
  refine lv_iconst (v := 3) hx hb dL_build_215 (by decide) ?_
  refine lv_iconst (v := 0) hx hb dL_build_216 (by decide) ?_
  refine k_iast (j := 3) hx hb hE hP hD hS (64 + F + i + (([] : va_W).length + 0)) ((lw_Ri (i := 0)).trans rfl) (by decide) (by decide) dL_build_217 (fun H locs hP hD hS => ?_)
  rw [lw_Riset (i := 0)] at hP hD
  have hP : va_P D vwCl (LW k a tr o fa ba x S U G T i F (mL T i) (([] : va_W) ++ [(q1, .inl (k 0, 8, .inl (upd (upd (upd (upd (fun _ => 0) 0 (nI j1)) 1 (nI (1 + j2))) 2 (nI j3)) 3 0)))])) H := hP
  have hD : va_D A (LW k a tr o fa ba x S U G T i F (mL T i) (([] : va_W) ++ [(q1, .inl (k 0, 8, .inl (upd (upd (upd (upd (fun _ => 0) 0 (nI j1)) 1 (nI (1 + j2))) 2 (nI j3)) 3 0)))])) := hD
  refine lv_dup hx hb dL_build_218 rfl ?_
  refine lv_iconst (v := 4) hx hb dL_build_219 (by decide) ?_
  refine lv_iconst (v := (-1)) hx hb dL_build_220 (by decide) ?_
  refine k_iast (j := 4) hx hb hE hP hD hS (64 + F + i + (([] : va_W).length + 0)) ((lw_Ri (i := 0)).trans rfl) (by decide) (by decide) dL_build_221 (fun H locs hP hD hS => ?_)
  rw [lw_Riset (i := 0)] at hP hD
  have hP : va_P D vwCl (LW k a tr o fa ba x S U G T i F (mL T i) (([] : va_W) ++ [(q1, .inl (k 0, 8, .inl (upd (upd (upd (upd (upd (fun _ => 0) 0 (nI j1)) 1 (nI (1 + j2))) 2 (nI j3)) 3 0) 4 (-1))))])) H := hP
  have hD : va_D A (LW k a tr o fa ba x S U G T i F (mL T i) (([] : va_W) ++ [(q1, .inl (k 0, 8, .inl (upd (upd (upd (upd (upd (fun _ => 0) 0 (nI j1)) 1 (nI (1 + j2))) 2 (nI j3)) 3 0) 4 (-1))))])) := hD
  refine lv_dup hx hb dL_build_222 rfl ?_
  refine lv_iconst (v := 5) hx hb dL_build_223 (by decide) ?_
  refine lv_iconst (v := (-1)) hx hb dL_build_224 (by decide) ?_
  refine k_iast (j := 5) hx hb hE hP hD hS (64 + F + i + (([] : va_W).length + 0)) ((lw_Ri (i := 0)).trans rfl) (by decide) (by decide) dL_build_225 (fun H locs hP hD hS => ?_)
  rw [lw_Riset (i := 0)] at hP hD
  have hP : va_P D vwCl (LW k a tr o fa ba x S U G T i F (mL T i) (([] : va_W) ++ [(q1, .inl (k 0, 8, .inl (upd (upd (upd (upd (upd (upd (fun _ => 0) 0 (nI j1)) 1 (nI (1 + j2))) 2 (nI j3)) 3 0) 4 (-1)) 5 (-1))))])) H := hP
  have hD : va_D A (LW k a tr o fa ba x S U G T i F (mL T i) (([] : va_W) ++ [(q1, .inl (k 0, 8, .inl (upd (upd (upd (upd (upd (upd (fun _ => 0) 0 (nI j1)) 1 (nI (1 + j2))) 2 (nI j3)) 3 0) 4 (-1)) 5 (-1))))])) := hD
  refine lv_dup hx hb dL_build_226 rfl ?_
  refine lv_bipush (v := 6) hx hb dL_build_227 (by decide) ?_
  refine lv_iconst (v := 0) hx hb dL_build_229 (by decide) ?_
  refine k_iast (j := 6) hx hb hE hP hD hS (64 + F + i + (([] : va_W).length + 0)) ((lw_Ri (i := 0)).trans rfl) (by decide) (by decide) dL_build_230 (fun H locs hP hD hS => ?_)
  rw [lw_Riset (i := 0)] at hP hD
  have hP : va_P D vwCl (LW k a tr o fa ba x S U G T i F (mL T i) (([] : va_W) ++ [(q1, .inl (k 0, 8, .inl (upd (upd (upd (upd (upd (upd (upd (fun _ => 0) 0 (nI j1)) 1 (nI (1 + j2))) 2 (nI j3)) 3 0) 4 (-1)) 5 (-1)) 6 0)))])) H := hP
  have hD : va_D A (LW k a tr o fa ba x S U G T i F (mL T i) (([] : va_W) ++ [(q1, .inl (k 0, 8, .inl (upd (upd (upd (upd (upd (upd (upd (fun _ => 0) 0 (nI j1)) 1 (nI (1 + j2))) 2 (nI j3)) 3 0) 4 (-1)) 5 (-1)) 6 0)))])) := hD
  refine lv_dup hx hb dL_build_231 rfl ?_
  refine lv_bipush (v := 7) hx hb dL_build_232 (by decide) ?_
  refine lv_iconst (v := 0) hx hb dL_build_234 (by decide) ?_
  refine k_iast (j := 7) hx hb hE hP hD hS (64 + F + i + (([] : va_W).length + 0)) ((lw_Ri (i := 0)).trans rfl) (by decide) (by decide) dL_build_235 (fun H locs hP hD hS => ?_)
  rw [lw_Riset (i := 0)] at hP hD
  have hP : va_P D vwCl (LW k a tr o fa ba x S U G T i F (mL T i) (([] : va_W) ++ [(q1, .inl (k 0, 8, .inl (upd (upd (upd (upd (upd (upd (upd (upd (fun _ => 0) 0 (nI j1)) 1 (nI (1 + j2))) 2 (nI j3)) 3 0) 4 (-1)) 5 (-1)) 6 0) 7 0)))])) H := hP
  have hD : va_D A (LW k a tr o fa ba x S U G T i F (mL T i) (([] : va_W) ++ [(q1, .inl (k 0, 8, .inl (upd (upd (upd (upd (upd (upd (upd (upd (fun _ => 0) 0 (nI j1)) 1 (nI (1 + j2))) 2 (nI j3)) 3 0) 4 (-1)) 5 (-1)) 6 0) 7 0)))])) := hD
  refine lv_astore (lv' := [(7, .ref q1), (6, .int (((cellV xs L (3 + i % 13)) >>> (2 &&& 31)) + (17 * (nI i)))), (0, .ref x), (1, .ref b), (2, .ref (o 0)), (3, .int (nI F)), (4, .int (nI N)), (5, .int (nI i))]) hx hb dL_build_236 hl (by decide) rfl (fun ls hl => ?_)
  refine lv_aload_n hx hb dL_build_238 rfl (lv_at hl 4 rfl) ?_
  refine lv_aload_n hx hb dL_build_239 rfl (lv_at hl 4 rfl) ?_
  refine va_get (D := D) (ci := 5) (v := .ref (o 3)) (C := RX5) (T := TX5) (N := 6) hx hb hts tu_5 hown hE.1 hP 59 lw_59 rfl 4 (by decide) (hts _ tw_740) (fun _ h9 => h9) rfl dL_build_240 ?_
  refine lv_aload hx hb dL_build_243 (lv_at hl 0 rfl) ?_
  refine c_gS (rest := [.ref (o 0)]) hC hE hP hD hS hA (metX5_more l 62 (64 + F + i + (([] : va_W).length + 0)) (o 3) q1 i 8 ba (upd (upd (upd (upd (upd (upd (upd (upd (fun _ => 0) 0 (nI j1)) 1 (nI (1 + j2))) 2 (nI j3)) 3 0) 4 (-1)) 5 (-1)) 6 0) 7 0) lw_62 ((lw_Ri (i := 0)).trans rfl) (fun j hj => ⟨64 + F + j, 8, bgR G T j, lw_b hj⟩) (by omega)) (fun _ _ _ => trivial) (fun _ _ _ _ _ => trivial) gc_RL_24 hd_X5_more ⟨rfl, rfl⟩ ⟨Nat.le_of_ble_eq_true rfl, Nat.le_of_ble_eq_true rfl⟩ rfl hl.1 (Nat.le_of_ble_eq_true rfl) ⟨(by show cells + 1 + 1 ≤ 70; omega), (by show slots + 8 + 42 ≤ 1700; omega)⟩ dL_build_245 (fun v9 w9 H locs hp hP hD hS => ?_)
  obtain ⟨q2, rfl, rfl⟩ := hp
  rw [lw_more, List.append_assoc] at hP hD
  have hP : va_P D vwCl (LW k a tr o fa ba x S U G T i F (mL T i) (([] : va_W) ++ [(q1, .inl (k 0, 8, .inl (upd (upd (upd (upd (upd (upd (upd (upd (fun _ => 0) 0 (nI j1)) 1 (nI (1 + j2))) 2 (nI j3)) 3 0) 4 (-1)) 5 (-1)) 6 0) 7 0))), (q2, outA (k 2) (i + 1) (rfA (oLn ba i q1)))])) H := hP
  have hD : va_D A (LW k a tr o fa ba x S U G T i F (mL T i) (([] : va_W) ++ [(q1, .inl (k 0, 8, .inl (upd (upd (upd (upd (upd (upd (upd (upd (fun _ => 0) 0 (nI j1)) 1 (nI (1 + j2))) 2 (nI j3)) 3 0) 4 (-1)) 5 (-1)) 6 0) 7 0))), (q2, outA (k 2) (i + 1) (rfA (oLn ba i q1)))])) := hD
  have hP := row_cong (i := 64 + F + i + (([] : va_W).length + 0)) (g := bgR (chkG G i j1 (nI (1 + j2)) (nI j3)) (nwT T i) i) hP ((lw_Ri (i := 0)).trans rfl) (row8 rfl)
  rw [lw_Riset (i := 0)] at hP
  have hP : va_P D vwCl (LW k a tr o fa ba x S U G T i F (mL T i) (([] : va_W) ++ [(q1, .inl (k 0, 8, .inl (bgR (chkG G i j1 (nI (1 + j2)) (nI j3)) (nwT T i) i))), (q2, outA (k 2) (i + 1) (rfA (oLn ba i q1)))])) H := hP
  have hD : va_D A (LW k a tr o fa ba x S U G T i F (mL T i) (([] : va_W) ++ [(q1, .inl (k 0, 8, .inl (bgR (chkG G i j1 (nI (1 + j2)) (nI j3)) (nwT T i) i))), (q2, outA (k 2) (i + 1) (rfA (oLn ba i q1)))])) := lw_RD hD (by rw [List.map_append, List.map_append]; rfl)
  refine va_put (D := D) (ci := 5) (v := .ref q2) (ty := tyX5 4) (C := RX5) (T := TX5) (N := 6) hx hb hts tu_5 tyX5 tyX5_ok nmX5 hown hE.1 hP hD hS 59 lw_59 rfl 4 (by decide) (hts _ tw_740) (fun _ h9 => h9) rfl (tyX5_ok 4 (by decide)) rfl rfl (Nat.le_of_ble_eq_true rfl) dL_build_248 (fun H locs hP hD hS => ?_)
  obtain ⟨hP, hD⟩ := lw_newBg (G2 := (chkG G i j1 (nI (1 + j2)) (nI j3))) (T2 := (nwT T i)) hP hD old8 rfl rfl rfl rfl rfl
  have hP : va_P D vwCl (LW k a tr (oLn o 3 q2) fa (oLn ba i q1) x S U (chkG G i j1 (nI (1 + j2)) (nI j3)) (nwT T i) (i + 1) F (mL T i) ([] : va_W)) H := hP
  have hD : va_D A (LW k a tr (oLn o 3 q2) fa (oLn ba i q1) x S U (chkG G i j1 (nI (1 + j2)) (nI j3)) (nwT T i) (i + 1) F (mL T i) ([] : va_W)) := hD
  refine lv_aload_n hx hb dL_build_251 rfl (lv_at hl 4 rfl) ?_
  refine lv_iload hx hb dL_build_252 (lv_at hl 7 rfl) ?_
  rw [show o 0 = oLn o 3 q2 0 from rfl] at hl
  show W _ _ _ _ _ _ _ _ _ _ _ _ _ _ _ (F0 m 254 ls [.int (nI i), .ref (oLn o 3 q2 0)])
  refine c_gV (rest := []) hC hE hP hD hS hA (metX5_begin l (chkG G i j1 (nI (1 + j2)) (nI j3)) (nwT T i) (show i + 1 ≤ 40 from z1) hnf i (Nat.lt_succ_self i) (by omega) hrb.len) (fun _ _ _ => trivial) (fun _ _ _ _ _ => trivial) gc_RL_74 hd_X5_begin ⟨rfl, rfl⟩ ⟨Nat.le_of_ble_eq_true rfl, Nat.le_of_ble_eq_true rfl⟩ 59 lw_59 rfl rfl hl.1 (Nat.le_of_ble_eq_true rfl) ⟨(by show cells + 1 + 1 + 1 ≤ 70; omega), (by show slots + 8 + 42 + 41 ≤ 1700; omega)⟩ dL_build_254 (fun v9 w9 H locs hp hP hD hS => ?_)
  obtain ⟨rfl, o9, ho9, rfl⟩ := hp
  have hP : va_P D vwCl (LW k a tr o9 fa (oLn ba i q1) x S U (chkG G i j1 (nI (1 + j2)) (nI j3)) (mBegin (chkG G i j1 (nI (1 + j2)) (nI j3)) (nwT T i) i) (i + 1) F (ix (mBegin (chkG G i j1 (nI (1 + j2)) (nI j3)) (nwT T i) i 0 1)) ([] : va_W)) H := hP
  have hD : va_D A (LW k a tr o9 fa (oLn ba i q1) x S U (chkG G i j1 (nI (1 + j2)) (nI j3)) (mBegin (chkG G i j1 (nI (1 + j2)) (nI j3)) (nwT T i) i) (i + 1) F (ix (mBegin (chkG G i j1 (nI (1 + j2)) (nI j3)) (nwT T i) i 0 1)) ([] : va_W)) := hD
  rw [show (oLn o 3 q2 0) = o9 0 from ho9.symm] at hl
  have eq1 : q1 = (oLn ba i q1) i := (if_pos rfl).symm
  rw [eq1] at hl
  have hl : lv_has ls 8 [(7, .ref ((oLn ba i q1) i)), (6, .int (((cellV xs L (3 + i % 13)) >>> (2 &&& 31)) + (17 * (nI i)))), (0, .ref x), (1, .ref b), (2, .ref (o9 0)), (3, .int (nI F)), (4, .int (nI N)), (5, .int (nI i))] := hl
  refine lv_aload_n hx hb dL_build_257 rfl (lv_at hl 2 rfl) ?_
  refine lv_aload hx hb dL_build_258 (lv_at hl 0 rfl) ?_
  refine lv_iconst (v := 0) hx hb dL_build_260 (by decide) ?_
  refine k_iald (j := 0) hx hb hE hP (64 + F + i) (lw_b (Nat.lt_succ_self i)) (by decide) (by decide) dL_build_261 ?_
  refine w_top (show bgR (chkG G i j1 (nI (1 + j2)) (nI j3)) (mBegin (chkG G i j1 (nI (1 + j2)) (nI j3)) (nwT T i) i) i 0 = (chkG G i j1 (nI (1 + j2)) (nI j3)) 4 i from rfl) ?_
  refine w_top (show (chkG G i j1 (nI (1 + j2)) (nI j3)) 4 i = nI j1 from upd_e _ _ _) ?_
  refine lv_aload hx hb dL_build_262 (lv_at hl 0 rfl) ?_
  refine lv_iconst (v := 1) hx hb dL_build_264 (by decide) ?_
  refine k_iald (j := 1) hx hb hE hP (64 + F + i) (lw_b (Nat.lt_succ_self i)) (by decide) (by decide) dL_build_265 ?_
  refine w_top (show bgR (chkG G i j1 (nI (1 + j2)) (nI j3)) (mBegin (chkG G i j1 (nI (1 + j2)) (nI j3)) (nwT T i) i) i 1 = (chkG G i j1 (nI (1 + j2)) (nI j3)) 5 i from rfl) ?_
  refine w_top (show (chkG G i j1 (nI (1 + j2)) (nI j3)) 5 i = nI (1 + j2) from upd_e _ _ _) ?_
  refine lv_aload hx hb dL_build_266 (lv_at hl 0 rfl) ?_
  refine lv_iconst (v := 2) hx hb dL_build_268 (by decide) ?_
  refine k_iald (j := 2) hx hb hE hP (64 + F + i) (lw_b (Nat.lt_succ_self i)) (by decide) (by decide) dL_build_269 ?_
  refine w_top (show bgR (chkG G i j1 (nI (1 + j2)) (nI j3)) (mBegin (chkG G i j1 (nI (1 + j2)) (nI j3)) (nwT T i) i) i 2 = (chkG G i j1 (nI (1 + j2)) (nI j3)) 6 i from rfl) ?_
  refine w_top (show (chkG G i j1 (nI (1 + j2)) (nI j3)) 6 i = nI j3 from upd_e _ _ _) ?_
  refine c_mVi (rest := []) hC hE hP hD hS (ws' := (LW k a tr o9 fa (oLn ba i q1) x (xTakeIn (xAddBg S (nI j1) (nI (1 + j2)) (nI j3)) (S 0 4)) U (chkG G i j1 (nI (1 + j2)) (nI j3)) (mBegin (chkG G i j1 (nI (1 + j2)) (nI j3)) (nwT T i) i) (i + 1) F (ix (mBegin (chkG G i j1 (nI (1 + j2)) (nI j3)) (nwT T i) i 0 1)) ([] : va_W))) lw_same (lx_checkIn l S (nI j1) (nI (1 + j2)) (nI j3) (xflt_n hra hj1) ⟨ge1 (by omega) (by omega), le9 (by omega), nI_pos (by omega), le9 (by omega)⟩ (by rw [hra.sn]; exact lt_40 z1) (hng hj1)) gc_RL_84 hd_X4_checkIn ⟨rfl, rfl⟩ ⟨Nat.le_of_ble_eq_true rfl, Nat.le_of_ble_eq_true rfl⟩ 29 lw_29 rfl rfl hl.1 (Nat.le_of_ble_eq_true rfl) ⟨(by show cells + 1 + 1 + 1 ≤ 70; omega), (by show slots + 8 + 42 + 41 ≤ 1700; omega)⟩ dL_build_270 (fun H locs hP hD hS => ?_)
  refine w_top (show S 0 4 = nI i from hra.sn) ?_
  refine lv_iload hx hb dL_build_273 (lv_at hl 7 rfl) ?_
  refine lv_icmp_eq (tgt := 280) hx hb dL_build_275 (by decide) (fun c_1 => ?_) (fun c_ => absurd rfl c_)
  refine lv_iinc (v := nI (i + 1)) (lv' := [(5, .int (nI (i + 1))), (7, .ref ((oLn ba i q1) i)), (6, .int (((cellV xs L (3 + i % 13)) >>> (2 &&& 31)) + (17 * (nI i)))), (0, .ref x), (1, .ref b), (2, .ref (o9 0)), (3, .int (nI F)), (4, .int (nI N))]) hx hb dL_build_280 hl (k := 7) rfl (iinc1 _) (by decide) rfl (fun ls hl => ?_)
  refine lv_goto (tgt := 147) hx hb dL_build_283 (by decide) ?_
  obtain ⟨ha9, hb9⟩ := chk_rel hra hrb z1 hj1 (nI (1 + j2)) (nI j3)
  have eL2 : ix (mBegin (chkG G i j1 (nI (1 + j2)) (nI j3)) (nwT T i) i 0 1) = mL (mBegin (chkG G i j1 (nI (1 + j2)) (nI j3)) T i) (i + 1) := by rw [nwB_01, hb9.len, ix_i (by have : mL (mBegin (chkG G i j1 (nI (1 + j2)) (nI j3)) T i) (i + 1) ≤ i + 1 := ct_le _ _; omega)]
  have e99 : (LW k a tr o9 fa (oLn ba i q1) x (xTakeIn (xAddBg S (nI j1) (nI (1 + j2)) (nI j3)) (S 0 4)) U (sf (chkG G i j1 (nI (1 + j2)) (nI j3)) 0 (upd (chkG G i j1 (nI (1 + j2)) (nI j3) 0) 3 (G 0 3 + 1))) (mBegin (chkG G i j1 (nI (1 + j2)) (nI j3)) T i) (i + 1) F (mL (mBegin (chkG G i j1 (nI (1 + j2)) (nI j3)) T i) (i + 1)) ([] : va_W)) = (LW k a tr o9 fa (oLn ba i q1) x (xTakeIn (xAddBg S (nI j1) (nI (1 + j2)) (nI j3)) (S 0 4)) U (chkG G i j1 (nI (1 + j2)) (nI j3)) (mBegin (chkG G i j1 (nI (1 + j2)) (nI j3)) (nwT T i) i) (i + 1) F (ix (mBegin (chkG G i j1 (nI (1 + j2)) (nI j3)) (nwT T i) i 0 1)) ([] : va_W)) := (by rw [eL2, newT_w (V := nwT T i) rfl rfl]; rfl)
  rw [← e99] at hP hD
  have hl : lv_has ls 8 [(0, .ref x), (1, .ref b), (2, .ref (o9 0)), (3, .int (nI F)), (4, .int (nI N)), (5, .int (nI (i + 1)))] := lv_sub hl [3, 4, 5, 6, 7, 0] rfl
  have ho9 : o9 0 = q0 := ho9.trans ho
  rw [ho9] at hl
  refine W.widen (k := cells + 3) (n := slots + 91) (by omega) (by omega) ?_
  exact K ls H locs _ ⟨o9, fa, oLn ba i q1, _, U, _, _, ha9, hb9, begin_ti1 hti, chk_gi hgi (nI (1 + j2)) (nI j3), ho9, hg0, rfl⟩ hl hP hD hS
set_option maxRecDepth 100000 in
theorem bld_4 {p : Program} {l : Launch} {e : Env} {s : State} {m : MethodId} {args : Array Value} {below : List Frame} {meth : Method} {c : Code} {D : va_G} {k : Nat → ClassId} {A : Nat → Prop} {a tr : Nat → Nat} {x q0 b L : Nat} {xs : Nat → Int32} {ls : Array Slot} {H : Heap} {locs : List Loc} (hC : CallFix p m c cL_build 8 s args lw_all RL) (hr : meth.sig.returnType = some (.object "BagCarouselLaw$Sim")) (hlk : meth.locks = false) (hE : eK D k s) (hA : ∀ q : Nat, s.heap.size ≤ q → A q) (hXs : va_X b L xs s s.heap) (hbl : b < s.heap.size) (hbA : ¬ A b) (hL9 : L ≤ 260) {F N : Nat} (hN : N < 16) (hF0 : 0 < F) (hF : F ≤ 6) {w : va_W} (hw9 : BT k a tr x q0 0 F w) (hl : lv_has ls 8 [(0, .ref x), (1, .ref b), (2, .ref q0), (3, .int (nI F)), (4, .int (nI N)), (5, .int (nI 0))]) (hP : va_P D vwCl w H) (hD : va_D A w) (hS : va_S A s.heap H locs) : W p l e ({ frames := 8, cells := 70, slots := 1700, locals := 145 } : Room) s m args below meth c H locs (17 + 3 * 0) (274 + 91 * 0) (MQ below (gQ D A (fun v9 w1 => ∃ q0, v9 = some (.ref q0) ∧ AS k a tr x q0 [] w1)) args s 70 1700 A) (F0 m 147 ls []) := by
  have hx := hC.1
  have hb := hC.2.1
  have hown : s.vm.findClass RL = some m.cls := hC.2.2.2.1
  have hts := hC.2.2.2.2
  refine w_forG (D := D) (A := A) (H0 := s.heap) (nL := 8) (N := N) (fun i w => BT k a tr x q0 i F w) (fun i => [(0, .ref x), (1, .ref b), (2, .ref q0), (3, .int (nI F)), (4, .int (nI N)), (5, .int (nI i))]) (fun i => 17 + 3 * i) (fun i => 274 + 91 * i) ?_ ?_ 0 (Nat.zero_le _) hw9 hl hP hD hS
  · intro ls H locs w hI hl hP hD hS
    obtain ⟨o, fa, ba, S, U, G, T, hra, hrb, hti, hgi, ho, hg0, rfl⟩ := hI
    have hl : lv_has ls 8 [(0, .ref x), (1, .ref b), (2, .ref q0), (3, .int (nI F)), (4, .int (nI N)), (5, .int (nI N))] := hl
    refine lv_iload hx hb dL_build_147 (lv_at hl 5 rfl) ?_
    refine lv_iload hx hb dL_build_149 (lv_at hl 4 rfl) ?_
    refine lv_icmp_ge (tgt := 286) hx hb dL_build_151 (by decide) (fun _ => ?_) (fun c_ => absurd (nI_le (Nat.le_refl N) (by omega)) c_)
    refine lv_aload_n hx hb dL_build_286 rfl (lv_at hl 2 rfl) ?_
    exact g_aret hx hb hr (Or.inl ⟨_, rfl⟩) hlk dL_build_287 hP hD hS ⟨q0, rfl, o, fa, ba, S, U, G, T, N, F, hF0, hra, hrb, hti, hgi, ho, rfl⟩ (by show 17 + 3 * N ≤ 70; omega) (by show 274 + 91 * N ≤ 1700; omega)
  · intro i hi ih ls H locs w hI hl hP hD hS
    obtain ⟨o, fa, ba, S, U, G, T, hra, hrb, hti, hgi, ho, hg0, rfl⟩ := hI
    have hl : lv_has ls 8 [(0, .ref x), (1, .ref b), (2, .ref q0), (3, .int (nI F)), (4, .int (nI N)), (5, .int (nI i))] := hl
    refine lv_iload hx hb dL_build_147 (lv_at hl 5 rfl) ?_
    refine lv_iload hx hb dL_build_149 (lv_at hl 4 rfl) ?_
    refine lv_icmp_ge (tgt := 286) hx hb dL_build_151 (by decide) (fun c_ => absurd c_ (nI_ge hi (by omega))) (fun _ => ?_)
    refine bld_2 hC hr hlk hE hA hXs hbl hbA hL9 hi hN hF0 hF (by show 17 + 3 * i ≤ 65; omega) (by show 274 + 91 * i ≤ 1600; omega) hra hrb hti hgi ho hg0 (by rw [ho]; exact hl) hP hD hS ?_
    intro ls H locs w hw hl hP hD hS
    have h99 := ih ls H locs w hw hl hP hD hS
    rw [show 17 + 3 * (i + 1) = 17 + 3 * i + 3 by omega, show 274 + 91 * (i + 1) = 274 + 91 * i + 91 by omega] at h99
    exact h99

set_option maxRecDepth 100000 in
theorem bld_3 {p : Program} {l : Launch} {e : Env} {s : State} {m : MethodId} {args : Array Value} {below : List Frame} {meth : Method} {c : Code} {D : va_G} {k : Nat → ClassId} {A : Nat → Prop} {a tr : Nat → Nat} {x q0 b L : Nat} {xs : Nat → Int32} {ls : Array Slot} {H : Heap} {locs : List Loc} (hC : CallFix p m c cL_build 8 s args lw_all RL) (hr : meth.sig.returnType = some (.object "BagCarouselLaw$Sim")) (hlk : meth.locks = false) (hE : eK D k s) (hA : ∀ q : Nat, s.heap.size ≤ q → A q) (hXs : va_X b L xs s s.heap) (hbl : b < s.heap.size) (hbA : ¬ A b) (hL9 : L ≤ 260) {F : Nat} (hF0 : 0 < F) (hF : F ≤ 6) {w : va_W} (hw9 : BT k a tr x q0 0 0 w) (hl : lv_has ls 8 [(0, .ref x), (1, .ref b), (2, .ref q0), (3, .int (nI F)), (4, .int (nI 0))]) (hP : va_P D vwCl w H) (hD : va_D A w) (hS : va_S A s.heap H locs) : W p l e ({ frames := 8, cells := 70, slots := 1700, locals := 145 } : Room) s m args below meth c H locs (5 + 2 * 0) (10 + 44 * 0) (MQ below (gQ D A (fun v9 w1 => ∃ q0, v9 = some (.ref q0) ∧ AS k a tr x q0 [] w1)) args s 70 1700 A) (F0 m 24 ls []) := by
  have hx := hC.1
  have hb := hC.2.1
  have hown : s.vm.findClass RL = some m.cls := hC.2.2.2.1
  have hts := hC.2.2.2.2
  refine w_forG (D := D) (A := A) (H0 := s.heap) (nL := 8) (N := F) (fun i w => BT k a tr x q0 0 i w) (fun i => [(0, .ref x), (1, .ref b), (2, .ref q0), (3, .int (nI F)), (4, .int (nI i))]) (fun i => 5 + 2 * i) (fun i => 10 + 44 * i) ?_ ?_ 0 (Nat.zero_le _) hw9 hl hP hD hS
  · intro ls H locs w hI hl hP hD hS
    have hI9 := hI
    obtain ⟨o, fa, ba, S, U, G, T, hra, hrb, hti, hgi, ho, hg0, rfl⟩ := hI
    have hl : lv_has ls 8 [(0, .ref x), (1, .ref b), (2, .ref q0), (3, .int (nI F)), (4, .int (nI F))] := hl
    refine W.widen (k := 17) (n := 274) (by show 5 + 2 * F ≤ 17; omega) (by show 10 + 44 * F ≤ 274; omega) ?_
    refine lv_iload hx hb dL_build_24 (lv_at hl 4 rfl) ?_
    refine lv_iload_n hx hb dL_build_26 rfl (lv_at hl 3 rfl) ?_
    refine lv_icmp_ge (tgt := 132) hx hb dL_build_27 (by decide) (fun _ => ?_) (fun c_ => absurd (nI_le (Nat.le_refl F) (by omega)) c_)
    refine lv_aload_n hx hb dL_build_132 rfl (lv_at hl 1 rfl) ?_
    refine lv_iconst (v := 2) hx hb dL_build_133 (by decide) ?_
    refine c_cell (j := 2) (rest := []) hC hE (hXs.kept (hS.2.1 b hbl hbA)) (metL_cell l 2 (by omega) (by omega)) gc_RL_95 ⟨Nat.le_of_ble_eq_true rfl, Nat.le_of_ble_eq_true rfl⟩ rfl hl.1 (Nat.le_of_ble_eq_true rfl) ⟨Nat.le_of_ble_eq_true rfl, Nat.le_of_ble_eq_true rfl⟩ dL_build_134 ?_
    refine lv_bipush (v := 16) hx hb dL_build_137 (by decide) ?_
    refine c_pSi (rest := []) hC hE hP (metL_below l (cellV xs L 2) 16 (by decide) (by decide)) gc_RL_15 hd_L_below ⟨rfl, rfl⟩ ⟨Nat.le_of_ble_eq_true rfl, Nat.le_of_ble_eq_true rfl⟩ rfl hl.1 (Nat.le_of_ble_eq_true rfl) ⟨Nat.le_of_ble_eq_true rfl, Nat.le_of_ble_eq_true rfl⟩ dL_build_139 ?_
    obtain ⟨j2, hj2, ej2⟩ := bel_of (N := 16) (cellV xs L 2) (by decide) (by decide)
    refine w_top ej2 ?_
    refine lv_istore (lv' := [(4, .int (nI j2)), (0, .ref x), (1, .ref b), (2, .ref q0), (3, .int (nI F))]) hx hb dL_build_142 hl (by decide) rfl (fun ls hl => ?_)
    refine lv_iconst (v := 0) hx hb dL_build_144 (by decide) ?_
    refine lv_istore (lv' := [(5, .int 0), (4, .int (nI j2)), (0, .ref x), (1, .ref b), (2, .ref q0), (3, .int (nI F))]) hx hb dL_build_145 hl (by decide) rfl (fun ls hl => ?_)
    exact bld_4 hC hr hlk hE hA hXs hbl hbA hL9 hj2 hF0 hF hI9 (lv_sub hl [2, 3, 4, 5, 1, 0] rfl) hP hD hS
  · intro i hi ih ls H locs w hI hl hP hD hS
    obtain ⟨o, fa, ba, S, U, G, T, hra, hrb, hti, hgi, ho, hg0, rfl⟩ := hI
    have hl : lv_has ls 8 [(0, .ref x), (1, .ref b), (2, .ref q0), (3, .int (nI F)), (4, .int (nI i))] := hl
    refine lv_iload hx hb dL_build_24 (lv_at hl 4 rfl) ?_
    refine lv_iload_n hx hb dL_build_26 rfl (lv_at hl 3 rfl) ?_
    refine lv_icmp_ge (tgt := 132) hx hb dL_build_27 (by decide) (fun c_ => absurd c_ (nI_ge hi (by omega))) (fun _ => ?_)
    refine bld_1 hC hr hlk hE hA hXs hbl hbA hL9 hi hF (by show 5 + 2 * i ≤ 30; omega) (by show 10 + 44 * i ≤ 600; omega) hra hrb hti hgi ho hg0 (by rw [ho]; exact hl) hP hD hS ?_
    intro ls H locs w hw hl hP hD hS
    have h99 := ih ls H locs w hw hl hP hD hS
    rw [show 5 + 2 * (i + 1) = 5 + 2 * i + 2 by omega, show 10 + 44 * (i + 1) = 10 + 44 * i + 44 by omega] at h99
    exact h99

set_option maxHeartbeats 1000000 in
set_option maxRecDepth 100000 in
theorem metL_build (l : Launch) {D : va_G} {k : Nat → ClassId} {a tr : Nat → Nat} {x b L sz : Nat} {xs : Nat → Int32} {U0 : HS} (hL9 : L ≤ 260) : GM l yL_build (ws_ yL_build cL_build 8 (some (FieldType.object "BagCarouselLaw$Sim"))) ({ frames := 8, cells := 70, slots := 1700, locals := 145 } : Room) 70 1700 D k (hw k a s0 ++ ((x, .inr (4, [.ref (a 0), .ref (tr 0)])) :: (hw k tr U0 ++ []))) sz [.ref x, .ref b] (fun U => va_X b L xs U U.heap ∧ ¬ va_A (hw k a s0 ++ ((x, .inr (4, [.ref (a 0), .ref (tr 0)])) :: (hw k tr U0 ++ []))) U.heap.size b) (fun v9 w1 => ∃ q0, v9 = some (.ref q0) ∧ AS k a tr x q0 [] w1) := by
  refine GM_of rfl (Nat.le_of_ble_eq_true rfl) ?_
  intro p e s m below meth c A hC hr hlk hE hP hD hA hAe hX hS ls hl
  have hC : CallFix p m c cL_build 8 s _ lw_all RL := hC
  have hx := hC.1
  have hb := hC.2.1
  have hown : s.vm.findClass RL = some m.cls := hC.2.2.2.1
  have hts := hC.2.2.2.2
  obtain ⟨hXs, hbA⟩ := hX
  have hbl : b < s.heap.size := by
    obtain ⟨scr, h1, -⟩ := hXs
    exact (Array.getElem?_eq_some_iff.mp h1).1
  have hl : lv_has ls 8 [(0, .ref x), (1, .ref b)] := hl
  refine va_new (ci := 5) (fs := [.int 0, .int 0, .null, .null, .null, .null]) (C := RX5) (T := TX5) (N := 6) hx hb hts tu_5 tyX5 tyX5_ok hown (hts _ tw_726) (hts _ tw_727) (hts _ tw_7) hE.1 hP hD hS hA rfl (fun j hj => by rcases (show j = 0 ∨ j = 1 ∨ j = 2 ∨ j = 3 ∨ j = 4 ∨ j = 5 by omega) with rfl | rfl | rfl | rfl | rfl | rfl <;> rfl) (Nat.le_of_ble_eq_true rfl) (Nat.le_of_ble_eq_true rfl) dL_build_0 (fun z H hP hD hS => ?_)
  have hP : va_P D vwCl (iw k a tr x z s0 U0 [.int 0, .int 0, .null, .null, .null, .null] []) H := hP
  have hD : va_D A (iw k a tr x z s0 U0 [.int 0, .int 0, .null, .null, .null, .null] []) := hD
  refine lv_dup hx hb dL_build_3 rfl ?_
  refine c_gN (rest := [.ref z]) hC hE hP hD hS hA (metX5_init l) (fun _ _ _ => trivial) (fun _ _ _ _ _ => trivial) hE.2.2 tw_730 tw_7 tw_729 rfl ⟨rfl, rfl⟩ hd_X5_init.2 ⟨Nat.le_of_ble_eq_true rfl, Nat.le_of_ble_eq_true rfl⟩ rfl hl.1 (Nat.le_of_ble_eq_true rfl) ⟨Nat.le_of_ble_eq_true rfl, Nat.le_of_ble_eq_true rfl⟩ dL_build_4 (fun v9 w9 H locs hp hP hD hS => ?_)
  obtain ⟨rfl, q1, q2, q3, q4, rfl⟩ := hp
  have hw9 : BT k a tr x z 0 0 (LW k a tr (o5 z q1 q2 q3 q4) id id x s0 U0 g0 t0 0 0 0 []) := ⟨o5 z q1 q2 q3 q4, id, id, s0, U0, g0, t0, ra_0, rb_0, ti_0, gi_0, rfl, fun _ _ => rfl, rfl⟩
  refine lv_astore_n (lv' := [(2, .ref z), (0, .ref x), (1, .ref b)]) hx hb dL_build_7 rfl hl (by decide) rfl (fun ls hl => ?_)
  refine lv_iconst (v := 1) hx hb dL_build_8 (by decide) ?_
  refine lv_aload_n hx hb dL_build_9 rfl (lv_at hl 2 rfl) ?_
  refine lv_iconst (v := 0) hx hb dL_build_10 (by decide) ?_
  have hbA9 : ¬ A b := by rw [hAe]; exact hbA
  refine c_cell (j := 0) (rest := [.int 1]) hC hE (hXs.kept (hS.2.1 b hbl hbA9)) (metL_cell l 0 (by omega) (by omega)) gc_RL_95 ⟨Nat.le_of_ble_eq_true rfl, Nat.le_of_ble_eq_true rfl⟩ rfl hl.1 (Nat.le_of_ble_eq_true rfl) ⟨Nat.le_of_ble_eq_true rfl, Nat.le_of_ble_eq_true rfl⟩ dL_build_11 ?_
  refine lv_bipush (v := 6) hx hb dL_build_14 (by decide) ?_
  refine c_pSi (rest := [.int 1]) hC hE hP (metL_below l (cellV xs L 0) 6 (by decide) (by decide)) gc_RL_15 hd_L_below ⟨rfl, rfl⟩ ⟨Nat.le_of_ble_eq_true rfl, Nat.le_of_ble_eq_true rfl⟩ rfl hl.1 (Nat.le_of_ble_eq_true rfl) ⟨Nat.le_of_ble_eq_true rfl, Nat.le_of_ble_eq_true rfl⟩ dL_build_16 ?_
  obtain ⟨j1, hj1, ej1⟩ := bel_of (N := 6) (cellV xs L 0) (by decide) (by decide)
  refine w_top ej1 ?_
  refine lv_iadd hx hb dL_build_19 ?_
  refine w_top (show (1 : Int32) + nI j1 = nI (1 + j1) from nI_add 1 j1) ?_
  refine lv_istore_n (lv' := [(3, .int (nI (1 + j1))), (2, .ref z), (0, .ref x), (1, .ref b)]) hx hb dL_build_20 rfl hl (by decide) rfl (fun ls hl => ?_)
  refine lv_iconst (v := 0) hx hb dL_build_21 (by decide) ?_
  refine lv_istore (lv' := [(4, .int 0), (3, .int (nI (1 + j1))), (2, .ref z), (0, .ref x), (1, .ref b)]) hx hb dL_build_22 hl (by decide) rfl (fun ls hl => ?_)
  refine W.widen (k := 5 + 2 * 0) (n := 10 + 44 * 0) (Nat.le_of_ble_eq_true rfl) (Nat.le_of_ble_eq_true rfl) ?_
  exact bld_3 hC hr hlk hE hA hXs hbl hbA9 hL9 (F := 1 + j1) (by omega) (by omega) hw9 (lv_sub hl [3, 4, 2, 1, 0] rfl) hP hD hS

