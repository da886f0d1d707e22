/-! the law: what its start gives, and how it calls -/
set_option maxRecDepth 100000 in
theorem lw_known {s : State} {args : Array Value} (hts0 : ∀ w ∈ lw_tbl, w.before args s = true) : ∃ (D : va_G) (k : Nat → ClassId), eK D k s ∧ iN s := by
  have hts : ∀ w ∈ lw_all, w.before args s = true := fun w h => hts0 w (lw_all_tbl h)
  obtain ⟨c0, i0, h0⟩ := u_known (C := RX0) (T := TX0) (N := 9) hts tu_0 (hts _ tw_66)
  obtain ⟨c1, i1, h1⟩ := u_known (C := RX1) (T := TX1) (N := 3) hts tu_1 (hts _ tw_32)
  obtain ⟨c2, i2, h2⟩ := u_known (C := RX2) (T := TX2) (N := 8) hts tu_2 (hts _ tw_26)
  obtain ⟨c3, i3, h3⟩ := u_known (C := RX3) (T := TX3) (N := 1) hts tu_3 (hts _ tw_38)
  obtain ⟨c4, i4, h4⟩ := u_known (C := RX4) (T := TX4) (N := 2) hts tu_4 (hts _ tw_18)
  obtain ⟨c5, i5, h5⟩ := u_known (C := RX5) (T := TX5) (N := 9) hts tu_5 (hts _ tw_743)
  obtain ⟨c6, i6, h6⟩ := u_known (C := RX6) (T := TX6) (N := 13) hts tu_6 (hts _ tw_737)
  obtain ⟨a0, q0, p0, x0, y0, z0⟩ := Cond.arrayClass_spec (args := args) (first := s) (o := none) (s := s) (idx := []) (hts _ tw_50)
  obtain ⟨a1, q1, p1, x1, y1, z1⟩ := Cond.arrayClass_spec (args := args) (first := s) (o := none) (s := s) (idx := []) (hts _ tw_784)
  obtain ⟨a2, q2, p2, x2, y2, z2⟩ := Cond.arrayClass_spec (args := args) (first := s) (o := none) (s := s) (idx := []) (hts _ tw_1124)
  refine ⟨(fun c => match c with | 0 => c0 | 1 => c1 | 2 => c2 | 3 => c3 | 4 => c4 | 5 => c5 | _ => c6, fun c => match c with | 0 => i0 | 1 => i1 | 2 => i2 | 3 => i3 | 4 => i4 | 5 => i5 | _ => i6), fun i => match i with | 0 => a0 | 1 => a1 | _ => a2, ⟨⟨?_, ?_⟩, ?_⟩, ?_⟩
  · intro c q hq
    match c, hq with
    | 0, hq => cases hq; exact h0
    | 1, hq => cases hq; exact h1
    | 2, hq => cases hq; exact h2
    | 3, hq => cases hq; exact h3
    | 4, hq => cases hq; exact h4
    | 5, hq => cases hq; exact h5
    | 6, hq => cases hq; exact h6
    | c + 7, hq => exact absurd (List.getElem?_eq_some_iff.mp hq).1 (by show ¬ c + 7 < 7; omega)
  · intro i q hq
    match i, hq with
    | 0, hq => cases hq; exact ⟨fun n z => ⟨fun k h => (by cases h), q0, y0, p0, z0⟩, x0⟩
    | 1, hq => cases hq; exact ⟨fun n z => ⟨fun k h => (by cases h), q1, y1, p1, z1⟩, x1⟩
    | 2, hq => cases hq; exact ⟨fun n z => ⟨fun k h => (by cases h), q2, y2, p2, z2⟩, x2⟩
    | i + 3, hq => exact absurd (List.getElem?_eq_some_iff.mp hq).1 (by show ¬ i + 3 < 3; omega)
  · exact ⟨va_Nw.of rfl (hts0 _ (List.mem_of_getElem? (i := 782) (by decide +kernel))), va_Nw.of rfl (hts0 _ (List.mem_of_getElem? (i := 784) (by decide +kernel))), va_Nw.of rfl (hts0 _ (List.mem_of_getElem? (i := 786) (by decide +kernel))), va_Nw.of rfl (hts0 _ (List.mem_of_getElem? (i := 788) (by decide +kernel))), va_Nw.of rfl (hts0 _ (List.mem_of_getElem? (i := 790) (by decide +kernel))), va_Nw.of rfl (hts0 _ (List.mem_of_getElem? (i := 792) (by decide +kernel))), va_Nw.of rfl (hts0 _ (List.mem_of_getElem? (i := 795) (by decide +kernel))), va_Nw.of rfl (hts0 _ (List.mem_of_getElem? (i := 797) (by decide +kernel)))⟩
  · exact ⟨va_Nw.of rfl (hts0 _ (List.mem_of_getElem? (i := 60) (by decide +kernel))), va_Nw.of rfl (hts0 _ (List.mem_of_getElem? (i := 66) (by decide +kernel))), va_Nw.of rfl (hts0 _ (List.mem_of_getElem? (i := 100) (by decide +kernel)))⟩
set_option maxRecDepth 100000 in
theorem lw_xK {s : State} {args : Array Value} (hts0 : ∀ w ∈ lw_tbl, w.before args s = true) (hgv : (Jvm.Cond.and given_1 narrow_1).before args s = true) : xK s := by
  have hs := flat_of_before _ hgv
  have str : ∀ (k : Nat) (tx : String), Cond.stringRef RX4 k tx ∈ lw_tbl → Cond.exactly (.string RX4 k) "java/lang/String" ∈ flatC (Jvm.Cond.and given_1 narrow_1) → ∃ a, vk_R RX4 k tx a s := by
    intro k tx h1 h2
    obtain ⟨a, c, cA, kA, q1, -⟩ := Cond.exactly_spec (args := args) (first := s) (o := none) (s := s) (idx := []) (hs _ h2)
    exact ⟨a, vk_R.of (A := args) (hts0 _ h1) q1⟩
  refine ⟨fun q hq => ?_, fun w hw => va_Nw.of (xB_ot w hw) (hts0 w ?_), va_Nc.of (hs _ (List.mem_of_getElem? (i := 22) (by decide +kernel))), va_Nc.of (hs _ (List.mem_of_getElem? (i := 23) (by decide +kernel))), va_Nc.of (hs _ (List.mem_of_getElem? (i := 31) (by decide +kernel)))⟩
  · unfold xStr at hq
    simp only [List.mem_cons, List.not_mem_nil, or_false] at hq
    rcases hq with rfl | rfl | rfl | rfl | rfl | rfl | rfl | rfl | rfl | rfl | rfl | rfl | rfl | rfl
    · exact str _ _ (List.mem_of_getElem? (i := 359) (by decide +kernel)) (List.mem_of_getElem? (i := 33) (by decide +kernel))
    · exact str _ _ (List.mem_of_getElem? (i := 411) (by decide +kernel)) (List.mem_of_getElem? (i := 70) (by decide +kernel))
    · exact str _ _ (List.mem_of_getElem? (i := 424) (by decide +kernel)) (List.mem_of_getElem? (i := 98) (by decide +kernel))
    · exact str _ _ (List.mem_of_getElem? (i := 429) (by decide +kernel)) (List.mem_of_getElem? (i := 126) (by decide +kernel))
    · exact str _ _ (List.mem_of_getElem? (i := 455) (by decide +kernel)) (List.mem_of_getElem? (i := 151) (by decide +kernel))
    · exact str _ _ (List.mem_of_getElem? (i := 469) (by decide +kernel)) (List.mem_of_getElem? (i := 185) (by decide +kernel))
    · exact str _ _ (List.mem_of_getElem? (i := 478) (by decide +kernel)) (List.mem_of_getElem? (i := 217) (by decide +kernel))
    · exact str _ _ (List.mem_of_getElem? (i := 479) (by decide +kernel)) (List.mem_of_getElem? (i := 275) (by decide +kernel))
    · exact str _ _ (List.mem_of_getElem? (i := 500) (by decide +kernel)) (List.mem_of_getElem? (i := 316) (by decide +kernel))
    · exact str _ _ (List.mem_of_getElem? (i := 505) (by decide +kernel)) (List.mem_of_getElem? (i := 348) (by decide +kernel))
    · exact str _ _ (List.mem_of_getElem? (i := 510) (by decide +kernel)) (List.mem_of_getElem? (i := 420) (by decide +kernel))
    · exact str _ _ (List.mem_of_getElem? (i := 522) (by decide +kernel)) (List.mem_of_getElem? (i := 479) (by decide +kernel))
    · exact str _ _ (List.mem_of_getElem? (i := 569) (by decide +kernel)) (List.mem_of_getElem? (i := 522) (by decide +kernel))
    · exact str _ _ (List.mem_of_getElem? (i := 669) (by decide +kernel)) (List.mem_of_getElem? (i := 565) (by decide +kernel))
  · unfold xB at hw
    simp only [List.mem_cons, List.not_mem_nil, or_false] at hw
    rcases hw with rfl | rfl | rfl | rfl | rfl | rfl
    · exact List.mem_of_getElem? (i := 320) (by decide +kernel)
    · exact List.mem_of_getElem? (i := 404) (by decide +kernel)
    · exact List.mem_of_getElem? (i := 448) (by decide +kernel)
    · exact List.mem_of_getElem? (i := 322) (by decide +kernel)
    · exact List.mem_of_getElem? (i := 324) (by decide +kernel)
    · exact List.mem_of_getElem? (i := 326) (by decide +kernel)
set_option maxRecDepth 100000 in
theorem lw_xZ {s : State} {args : Array Value} (hts0 : ∀ w ∈ lw_tbl, w.before args s = true) (hgv : (Jvm.Cond.and given_1 narrow_1).before args s = true) : vx_Zq Bundle.tN "UNASSIGNED_STACK" Bundle.steD (fun q => s.heap.size ≤ q) s s.heap ∧ vx_Zq Bundle.tN "SUPPRESSED_SENTINEL" Bundle.listD (fun q => s.heap.size ≤ q) s s.heap := by
  have hs := flat_of_before _ hgv
  have hA : ∀ a : Nat, a < s.heap.size → ¬ s.heap.size ≤ a := fun a h => Nat.not_le.mpr h
  exact ⟨vx_Zqof (hts0 _ (List.mem_of_getElem? (i := 345) (by decide +kernel))) (hts0 _ (List.mem_of_getElem? (i := 42) (by decide +kernel))) (hs _ (List.mem_of_getElem? (i := 4) (by decide +kernel))) hA, vx_Zqof (hts0 _ (List.mem_of_getElem? (i := 347) (by decide +kernel))) (hts0 _ (List.mem_of_getElem? (i := 42) (by decide +kernel))) (hs _ (List.mem_of_getElem? (i := 5) (by decide +kernel))) hA⟩
theorem lw_flag {l : Launch} (h : l.flags = flags0) : l.stackTraces = false := by
  unfold Launch.stackTraces
  rw [h]
  decide +kernel
theorem eK_drawn {D : va_G} {k : Nat → ClassId} {s : State} (h : eK D k s) (d : Drawn) : eK D k (s.setDrawn d) := ⟨va_K.moved (u := s) (U := s.setDrawn d) (Vm.Alike.refl s.vm) h.1, nestK_same (u := s) (U := s.setDrawn d) rfl h.2⟩
theorem iN_drawn {s : State} (h : iN s) (d : Drawn) : iN (s.setDrawn d) := ⟨va_Nw.same (u := s) (U := s.setDrawn d) rfl rfl h.1, va_Nw.same (u := s) (U := s.setDrawn d) rfl rfl h.2.1, va_Nw.same (u := s) (U := s.setDrawn d) rfl rfl h.2.2⟩
theorem xK_drawn {s : State} (h : xK s) (d : Drawn) : xK (s.setDrawn d) := by
  obtain ⟨h1, h2, h3, h4, h5⟩ := h
  exact ⟨fun q hq => (h1 q hq).elim (fun a ha => ⟨a, vk_R.same (u := s) (U := s.setDrawn d) rfl ha⟩), fun w hw => va_Nw.same (u := s) (U := s.setDrawn d) (xB_ot w hw) rfl (h2 w hw), va_Nc.moved (u := s) (U := s.setDrawn d) (Vm.Alike.refl s.vm) h3, va_Nc.moved (u := s) (U := s.setDrawn d) (Vm.Alike.refl s.vm) h4, va_Nc.moved (u := s) (U := s.setDrawn d) (Vm.Alike.refl s.vm) h5⟩
abbrev aZ (s : State) : Prop := vx_Zq Bundle.tN "UNASSIGNED_STACK" Bundle.steD (fun q => s.heap.size ≤ q) s s.heap ∧ vx_Zq Bundle.tN "SUPPRESSED_SENTINEL" Bundle.listD (fun q => s.heap.size ≤ q) s s.heap
theorem xZ_drawn {s : State} {H : Heap} {locs : List Loc} (h : aZ s) (hS : va_S (fun q => s.heap.size ≤ q) s.heap H locs) (d : Drawn) : xZ (s.setDrawn d) H :=
  ⟨vx_Zq.moved (u := s) (U := s.setDrawn d) (Vm.Alike.refl s.vm) ((h.1.kept hS.2.1).narrow (fun _ z => z.elim)), vx_Zq.moved (u := s) (U := s.setDrawn d) (Vm.Alike.refl s.vm) ((h.2.kept hS.2.1).narrow (fun _ z => z.elim))⟩
theorem xw_app {k : Nat → ClassId} {a tr : Nat → Nat} {x o : Nat} {S T : HS} {og : Nat → Int64} {R : va_W} : xwW k a tr x o S T og R = xwW k a tr x o S T og [] ++ R := by
  unfold xwW
  simp only [List.append_assoc, List.cons_append, List.nil_append]
theorem mw_app {k : Nat → ClassId} {g t u : Nat → Nat} {G T U : HS} {R : va_W} : mW k g t u G T U R = mW k g t u G T U [] ++ R := by
  show gw k g (t 0) (u 0) G ++ (tw k t T ++ (tw k u U ++ R)) = (gw k g (t 0) (u 0) G ++ (tw k t T ++ (tw k u U ++ []))) ++ R
  simp only [List.append_assoc, List.nil_append]
theorem to_mP {D : va_G} {k : Nat → ClassId} {a tr g t u : Nat → Nat} {x o : Nat} {S T0 G T U : HS} {og : Nat → Int64} {H : Heap} (h : va_P D vwCl (xwW k a tr x o S T0 og (mW k g t u G T U [])) H) : va_P D vwCl (mW k g t u G T U (xwW k a tr x o S T0 og [])) H := by
  rw [xw_app] at h
  rw [mw_app]
  exact vaP_swap h
theorem to_mD {A : Nat → Prop} {k : Nat → ClassId} {a tr g t u : Nat → Nat} {x o : Nat} {S T0 G T U : HS} {og : Nat → Int64} (h : va_D A (xwW k a tr x o S T0 og (mW k g t u G T U []))) : va_D A (mW k g t u G T U (xwW k a tr x o S T0 og [])) := by
  rw [xw_app] at h
  rw [mw_app]
  exact vaD_swap h
theorem to_xP {D : va_G} {k : Nat → ClassId} {a tr g t u : Nat → Nat} {x o : Nat} {S T0 G T U : HS} {og : Nat → Int64} {H : Heap} (h : va_P D vwCl (mW k g t u G T U (xwW k a tr x o S T0 og [])) H) : va_P D vwCl (xwW k a tr x o S T0 og (mW k g t u G T U [])) H := by
  rw [mw_app] at h
  rw [xw_app]
  exact vaP_swap h
theorem to_xD {A : Nat → Prop} {k : Nat → ClassId} {a tr g t u : Nat → Nat} {x o : Nat} {S T0 G T U : HS} {og : Nat → Int64} (h : va_D A (mW k g t u G T U (xwW k a tr x o S T0 og []))) : va_D A (xwW k a tr x o S T0 og (mW k g t u G T U [])) := by
  rw [mw_app] at h
  rw [xw_app]
  exact vaD_swap h
theorem mw_same {k : Nat → ClassId} {g t u : Nat → Nat} {G T U G2 T2 U2 : HS} {R : va_W} : (mW k g t u G2 T2 U2 R).map Prod.fst = (mW k g t u G T U R).map Prod.fst := rfl
section LAWK
variable {p : Program} {l : Launch} {e : Env} {R : Room} {s : State} {m : MethodId} {args : Array Value} {below : List Frame} {meth : Method} {c : Code} {H : Heap} {locs : List Loc} {cells slots : Nat} {Q : State → Prop}
variable {cc bytes : ByteArray} {pc index nL maxL : Nat} {own C : String} {y : MethodName} {rm : Room} {D : va_G} {k : Nat → ClassId} {ws ws' : va_W} {A : Nat → Prop} {H0 : Heap} {ls : Array Slot} {st rest As : List Value} {b a : Nat} {g : JFrame}
theorem c_mutX {mc ms : Nat} {v : Option Value} {ar : Array Value} (hr : va_Run p l e R s m args below meth c H locs cells slots mc ms g rest (mQ D v ws' (va_in ws) ar) (va_in ws)) (hD : va_D A ws) (hS : va_S A H0 H locs) (hs : ws'.map Prod.fst = ws.map Prod.fst)
    (kk : ∀ (H1 : Heap) (locs1 : List Loc), va_P D vwCl ws' H1 → va_D A ws' → va_S A H0 H1 locs1 → W p l e R s m args below meth c H1 locs1 (cells + mc) (slots + ms) Q { g with pc := g.pc + 3, stack := v.toList ++ rest }) : W p l e R s m args below meth c H locs cells slots Q g := by
  intro T hT X
  obtain ⟨v', st₀, t, T', L, h0, X', hL, e1, e2, ⟨hv, hp, hz, hk⟩, st⟩ := hr T hT X
  cases hv
  rw [h0] at hz hk
  have hin : ∀ q, va_in ws q → A q := fun q h => by
    obtain ⟨i, e9, h9⟩ := h
    exact hD.2 i (q, e9) h9
  obtain ⟨t2, a1, b1⟩ := kk T'.heap (locs ++ L) (by rw [e1]; exact hp) (vaD_same hD hs)
    ⟨Nat.le_trans hS.1 (by rw [e1]; exact hz), fun q h1 h2 => by rw [e1, hk q (Nat.lt_of_lt_of_le h1 hS.1) (fun z => h2 (hin q z))]; exact hS.2.1 q h1 h2, fun q hq => by
      rcases List.mem_append.mp hq with h | h
      · exact hS.2.2 q h
      · exact hin _ (hL q h)⟩ T' rfl X'
  exact ⟨t2, st t2 a1, b1⟩
/-- a helper is called -/
theorem c_lS {kc : Int32} {hh : List (Nat × Nat × Nat × Nat)} (hC : CallFix p m c cc nL s args lw_all own) (hE : eK D k s) (hX : xK s) (hZ : xZ s H) (hP : va_P D vwCl ws H) (hD : va_D A ws) (hS : va_S A H0 H locs) (hs : ws'.map Prod.fst = ws.map Prod.fst) (hM : LM l y bytes maxL hh rm D k ws As kc ws') (hG : GoodIn lw_all (va_wsS own index y (wsW_ y bytes maxL hh)))
    (hd : y.cls ≠ "java/lang/invoke/MethodHandle" ∧ y.cls ≠ "java/lang/invoke/VarHandle" ∧ (parseMethodDescriptor y.desc).map (fun d => d.parameters.length) = some As.length) (hR : rm.frames + 1 ≤ R.frames ∧ 8 + (maxL + 11) + rm.locals ≤ R.locals) (hst : st = As.reverse ++ rest) (hls : ls.size = nL) (hroom : (rest.map fun v => v.category).sum ≤ 8) (hf : cells + 1 ≤ R.cells ∧ slots + 6 ≤ R.slots) (hdg : decode cc pc = .ok (.invokestatic index, 3))
    (kk : ∀ (H1 : Heap) (locs1 : List Loc), va_P D vwCl ws' H1 → va_D A ws' → va_S A H0 H1 locs1 → W p l e R s m args below meth c H1 locs1 (cells + 1) (slots + 6) Q (F0 m (pc + 3) ls (.int kc :: rest))) : W p l e R s m args below meth c H locs cells slots Q (F0 m pc ls st) := by
  subst hst
  exact c_mutX (vx_runSW (As := As) (rest := rest) hC hM (vx_cwSW _ hC.2.2.2.2 hG rfl rfl rfl hd hR) ⟨lP_blind, fun U hU hW => ⟨rfl, eK_warm hW hE, by rw [hU]; exact hP, hD.weaken (fun _ _ _ _ => trivial), xK_warm hW hX, by rw [hU]; exact xZ_moved hW.alike hZ⟩⟩ rfl rfl hls rfl (lv_room hroom) hdg hf) hD hS hs kk
end LAWK
section LAWD
variable {p : Program} {l : Launch} {e : Env} {R : Room} {s : State} {m : MethodId} {args : Array Value} {below : List Frame} {meth : Method} {c : Code} {H : Heap} {locs : List Loc} {cells slots : Nat} {Q : State → Prop}
variable {cc bytes : ByteArray} {pc index nL maxL : Nat} {own C : String} {y : MethodName} {rm : Room} {D : va_G} {k : Nat → ClassId} {ws ws' : va_W} {A : Nat → Prop} {H0 : Heap} {ls : Array Slot} {st rest As : List Value} {b a : Nat} {g : JFrame} {d0 : Drawn}
/-- a method that answers a double is called -/
theorem c_dV {z : UInt64} (hd0 : s.drawn.sameBut d0 lw_cs) (hC : CallFix p m c cc nL (s.setDrawn d0) args lw_all own) (hE : eK D k (s.setDrawn d0)) (hP : va_P D vwCl ws H) (hD : va_D A ws) (hS : va_S A H0 H locs) (hs : ws'.map Prod.fst = ws.map Prod.fst) (hM : DM l y bytes maxL rm D k ws (.ref b :: As) z ws') (hG : GoodIn lw_all (wsV own index C y (ws_ y bytes maxL (some .double))))
    (hd : y.cls = C ∧ y.cls ≠ "java/lang/invoke/MethodHandle" ∧ y.cls ≠ "java/lang/invoke/VarHandle" ∧ (parseMethodDescriptor y.desc).map (fun d => d.parameters.length) = some As.length) (hr0 : rm.cells = 0 ∧ rm.slots = 0) (hR : rm.frames + 1 ≤ R.frames ∧ 8 + (maxL + 11) + rm.locals ≤ R.locals) (q0 : Nat) {ci : Nat} {fs : List Value} {T0 : u_T} {N0 : Nat} (hrc : ws[q0]? = some (b, .inr (ci, fs))) (hcl : vwCl[ci]? = some (C, T0, N0)) (hst : st = As.reverse ++ .ref b :: rest) (hls : ls.size = nL) (hroom : (rest.map fun v => v.category).sum ≤ 8) (hf : cells ≤ R.cells ∧ slots ≤ R.slots) (hdg : decode cc pc = .ok (.invokevirtual index, 3))
    (kk : ∀ (r : UInt64) (H1 : Heap) (locs1 : List Loc) (d1 : Drawn), alike64 r z = true → s.drawn.sameBut d1 lw_cs → va_P D vwCl ws' H1 → va_D A ws' → va_S A H0 H1 locs1 → W p l e R (s.setDrawn d1) m args below meth c H1 locs1 cells slots Q (F0 m (pc + 3) ls (.double r :: rest))) : W p l e R (s.setDrawn d0) m args below meth c H locs cells slots Q (F0 m pc ls st) := by
  subst hst
  have hin : ∀ q, va_in ws q → A q := fun q h => by
    obtain ⟨i, e9, h9⟩ := h
    exact hD.2 i (q, e9) h9
  refine va_calldD hd0 (va_runV_D (As := As) (rest := rest) hC hM (cwV _ hC.2.2.2.2 hG rfl hr0.1 hr0.2 hd hR) ⟨mP_blind, va_recv hE.1 hP hcl hrc, fun U hU hW => ⟨rfl, eK_warm hW hE, by rw [hU]; exact hP, hD.weaken (fun _ _ _ _ => trivial)⟩⟩ rfl rfl hls rfl (lv_room hroom) hdg hf) hS (fun q _ h => hin q h) hin (fun r u t H1 locs1 ht hvm hal hPt hz hk hS1 d1 hd1 => ?_)
  exact kk r H1 locs1 d1 hal hd1 (by rw [← ht]; exact hPt) (vaD_same hD hs) hS1
end LAWD
theorem lg_self {x y : Int64} (h : x = y) : lg_cmp x y = 0 := (lg_cmp_eq x y).mpr h

theorem lw_C9 {w : Cond} (h : w ∈ lw_all) : GoodIn lw_all (w :: lw_all) := lw_cons h lw_self
theorem gw_RL_111 : GoodIn lw_all (va_wsS RL 111 yL_addFlight (wsW_ yL_addFlight cL_addFlight 3 [(0, 8, 11, 13)])) := lw_cons tw_277 (lw_cons tw_278 (lw_cons tw_0 (lw_C9 tw_279)))
theorem gw_RL_120 : GoodIn lw_all (va_wsS RL 120 yL_giveChute (wsW_ yL_giveChute cL_giveChute 5 [(0, 10, 13, 19), (0, 10, 17, 13)])) := lw_cons tw_357 (lw_cons tw_358 (lw_cons tw_0 (lw_C9 tw_359)))
theorem gw_RL_124 : GoodIn lw_all (va_wsS RL 124 yL_setReader (wsW_ yL_setReader cL_setReader 4 [(0, 9, 12, 25)])) := lw_cons tw_405 (lw_cons tw_406 (lw_cons tw_0 (lw_C9 tw_407)))
theorem gw_RL_128 : GoodIn lw_all (va_wsS RL 128 yL_setRoom (wsW_ yL_setRoom cL_setRoom 5 [(0, 10, 13, 19), (0, 10, 17, 25)])) := lw_cons tw_429 (lw_cons tw_430 (lw_cons tw_0 (lw_C9 tw_431)))
theorem gw_RL_131 : GoodIn lw_all (va_wsS RL 131 yL_checkIn (wsW_ yL_checkIn cL_checkIn 6 [(0, 12, 15, 19), (0, 12, 19, 25), (0, 12, 23, 13)])) := lw_cons tw_438 (lw_cons tw_439 (lw_cons tw_0 (lw_C9 tw_440)))
theorem gw_RL_135 : GoodIn lw_all (va_wsS RL 135 yL_carry (wsW_ yL_carry cL_carry 4 [(0, 9, 12, 19), (0, 9, 15, 13)])) := lw_cons tw_456 (lw_cons tw_457 (lw_cons tw_0 (lw_C9 tw_458)))
theorem gw_RL_138 : GoodIn lw_all (va_wsS RL 138 yL_forward (wsW_ yL_forward cL_forward 5 [(0, 10, 13, 19), (0, 10, 17, 13)])) := lw_cons tw_482 (lw_cons tw_483 (lw_cons tw_0 (lw_C9 tw_484)))
theorem gw_RL_141 : GoodIn lw_all (va_wsS RL 141 yL_sweep (wsW_ yL_sweep cL_sweep 4 [(0, 9, 12, 19)])) := lw_cons tw_499 (lw_cons tw_500 (lw_cons tw_0 (lw_C9 tw_501)))
theorem gw_RL_144 : GoodIn lw_all (va_wsS RL 144 yL_depart (wsW_ yL_depart cL_depart 4 [(0, 9, 12, 19), (0, 9, 15, 13)])) := lw_cons tw_515 (lw_cons tw_516 (lw_cons tw_0 (lw_C9 tw_517)))
theorem gw_RL_147 : GoodIn lw_all (va_wsS RL 147 yL_pass (wsW_ yL_pass cL_pass 4 [(0, 9, 12, 25)])) := lw_cons tw_526 (lw_cons tw_527 (lw_cons tw_0 (lw_C9 tw_528)))
theorem gw_RL_150 : GoodIn lw_all (va_wsS RL 150 yL_flightOf (wsW_ yL_flightOf cL_flightOf 4 [(0, 9, 12, 19)])) := lw_cons tw_573 (lw_cons tw_574 (lw_cons tw_0 (lw_C9 tw_575)))
theorem gw_RL_153 : GoodIn lw_all (va_wsS RL 153 yL_whereIs (wsW_ yL_whereIs cL_whereIs 4 [(0, 9, 12, 19)])) := lw_cons tw_580 (lw_cons tw_581 (lw_cons tw_0 (lw_C9 tw_582)))
theorem gw_RL_156 : GoodIn lw_all (va_wsS RL 156 yL_placeOf (wsW_ yL_placeOf cL_placeOf 4 [(0, 9, 12, 19)])) := lw_cons tw_587 (lw_cons tw_588 (lw_cons tw_0 (lw_C9 tw_589)))
theorem gw_RL_159 : GoodIn lw_all (va_wsS RL 159 yL_chuteOf (wsW_ yL_chuteOf cL_chuteOf 4 [(0, 9, 12, 19)])) := lw_cons tw_594 (lw_cons tw_595 (lw_cons tw_0 (lw_C9 tw_596)))
theorem gw_RL_162 : GoodIn lw_all (va_wsS RL 162 yL_readFor (wsW_ yL_readFor cL_readFor 4 [(0, 9, 12, 19)])) := lw_cons tw_601 (lw_cons tw_602 (lw_cons tw_0 (lw_C9 tw_603)))
theorem gw_RL_165 : GoodIn lw_all (va_wsS RL 165 yL_missesOf (wsW_ yL_missesOf cL_missesOf 4 [(0, 9, 12, 19)])) := lw_cons tw_608 (lw_cons tw_609 (lw_cons tw_0 (lw_C9 tw_610)))
theorem gw_RL_168 : GoodIn lw_all (va_wsS RL 168 yL_isMisrouted (wsW_ yL_isMisrouted cL_isMisrouted 4 [(0, 16, 19, 19)])) := lw_cons tw_615 (lw_cons tw_616 (lw_cons tw_0 (lw_C9 tw_617)))
theorem gw_RL_171 : GoodIn lw_all (va_wsS RL 171 yL_hasOpenFile (wsW_ yL_hasOpenFile cL_hasOpenFile 4 [(0, 16, 19, 19)])) := lw_cons tw_622 (lw_cons tw_623 (lw_cons tw_0 (lw_C9 tw_624)))
theorem gw_RL_174 : GoodIn lw_all (va_wsS RL 174 yL_bagAt (wsW_ yL_bagAt cL_bagAt 4 [(0, 9, 12, 19)])) := lw_cons tw_629 (lw_cons tw_630 (lw_cons tw_0 (lw_C9 tw_631)))
theorem gw_RL_177 : GoodIn lw_all (va_wsS RL 177 yL_bagsIn (wsW_ yL_bagsIn cL_bagsIn 4 [(0, 9, 12, 19)])) := lw_cons tw_637 (lw_cons tw_638 (lw_cons tw_0 (lw_C9 tw_639)))
theorem gw_RL_180 : GoodIn lw_all (va_wsS RL 180 yL_misroutedIn (wsW_ yL_misroutedIn cL_misroutedIn 4 [(0, 9, 12, 19)])) := lw_cons tw_644 (lw_cons tw_645 (lw_cons tw_0 (lw_C9 tw_646)))
theorem gw_RL_183 : GoodIn lw_all (va_wsS RL 183 yL_roomOf (wsW_ yL_roomOf cL_roomOf 4 [(0, 9, 12, 19)])) := lw_cons tw_651 (lw_cons tw_652 (lw_cons tw_0 (lw_C9 tw_653)))
theorem gw_RL_186 : GoodIn lw_all (va_wsS RL 186 yL_chuteOfFlight (wsW_ yL_chuteOfFlight cL_chuteOfFlight 4 [(0, 9, 12, 19)])) := lw_cons tw_658 (lw_cons tw_659 (lw_cons tw_0 (lw_C9 tw_660)))
theorem gw_RL_189 : GoodIn lw_all (va_wsS RL 189 yL_isGone (wsW_ yL_isGone cL_isGone 4 [(0, 16, 19, 19)])) := lw_cons tw_665 (lw_cons tw_666 (lw_cons tw_0 (lw_C9 tw_667)))
theorem gw_RL_192 : GoodIn lw_all (va_wsS RL 192 yL_readyOf (wsW_ yL_readyOf cL_readyOf 4 [(0, 9, 12, 19)])) := lw_cons tw_672 (lw_cons tw_673 (lw_cons tw_0 (lw_C9 tw_674)))
theorem gw_RL_195 : GoodIn lw_all (va_wsS RL 195 yL_missingOf (wsW_ yL_missingOf cL_missingOf 4 [(0, 9, 12, 19)])) := lw_cons tw_679 (lw_cons tw_680 (lw_cons tw_0 (lw_C9 tw_681)))
theorem gw_RL_234 : GoodIn lw_all (va_wsS RL 234 yL_minutesUntilChute (wsW_ yL_minutesUntilChute cL_minutesUntilChute 4 [(0, 9, 12, 19)])) := lw_cons tw_686 (lw_cons tw_687 (lw_cons tw_0 (lw_C9 tw_688)))
theorem gw_RL_237 : GoodIn lw_all (va_wsS RL 237 yL_readyAfter (wsW_ yL_readyAfter cL_readyAfter 5 [(0, 10, 13, 19), (0, 10, 17, 25)])) := lw_cons tw_718 (lw_cons tw_719 (lw_cons tw_0 (lw_C9 tw_720)))
theorem gw_RL_240 : GoodIn lw_all (va_wsS RL 240 yL_bestChute (wsW_ yL_bestChute cL_bestChute 5 [(0, 10, 13, 19), (0, 10, 17, 25), (0, 10, 21, 13)])) := lw_cons tw_729 (lw_cons tw_730 (lw_cons tw_0 (lw_C9 tw_731)))
