/-! what the law's start gives -/
set_option maxRecDepth 100000 in
theorem lw_known {s : State} {args : Array Value} (hts0 : ∀ w ∈ lw_tbl, w.before args s = true) : ∃ (D : va_G) (k : Nat → ClassId), eK D k s ∧ iN s := by
  have hts : ∀ w ∈ lw_all, w.before args s = true := fun w h => hts0 w (lw_all_tbl h)
  obtain ⟨c0, i0, h0⟩ := u_known (C := RX0) (T := TX0) (N := 9) hts tu_0 (hts _ tw_65)
  obtain ⟨c1, i1, h1⟩ := u_known (C := RX1) (T := TX1) (N := 3) hts tu_1 (hts _ tw_31)
  obtain ⟨c2, i2, h2⟩ := u_known (C := RX2) (T := TX2) (N := 8) hts tu_2 (hts _ tw_25)
  obtain ⟨c3, i3, h3⟩ := u_known (C := RX3) (T := TX3) (N := 1) hts tu_3 (hts _ tw_37)
  obtain ⟨c4, i4, h4⟩ := u_known (C := RX4) (T := TX4) (N := 2) hts tu_4 (hts _ tw_17)
  obtain ⟨c5, i5, h5⟩ := u_known (C := RX5) (T := TX5) (N := 6) hts tu_5 (hts _ tw_727)
  obtain ⟨a0, q0, p0, x0, y0, z0⟩ := Cond.arrayClass_spec (args := args) (first := s) (o := none) (s := s) (idx := []) (hts _ tw_49)
  obtain ⟨a1, q1, p1, x1, y1, z1⟩ := Cond.arrayClass_spec (args := args) (first := s) (o := none) (s := s) (idx := []) (hts _ tw_756)
  have hov : (Cond.arrayOver (.array .int)).before args s = true := hts0 _ (List.mem_of_getElem? (i := 617) (by decide +kernel))
  obtain ⟨m2, a2, q2, h21, -, h23, h24, h25⟩ := arrayOverA_spec hov
  refine ⟨(fun c => match c with | 0 => c0 | 1 => c1 | 2 => c2 | 3 => c3 | 4 => c4 | _ => c5, fun c => match c with | 0 => i0 | 1 => i1 | 2 => i2 | 3 => i3 | 4 => i4 | _ => i5), fun i => match i with | 0 => a0 | 1 => a1 | _ => a2, ⟨⟨?_, ?_⟩, ?_⟩, ?_⟩
  · intro c q hq
    match c, hq with
    | 0, hq => cases hq; exact h0
    | 1, hq => cases hq; exact h1
    | 2, hq => cases hq; exact h2
    | 3, hq => cases hq; exact h3
    | 4, hq => cases hq; exact h4
    | 5, hq => cases hq; exact h5
    | c + 6, hq => exact absurd (List.getElem?_eq_some_iff.mp hq).1 (by show ¬ c + 6 < 6; omega)
  · intro i q hq
    match i, hq with
    | 0, hq => cases hq; exact ⟨fun n z => ⟨fun k h => (by cases h), q0, y0, p0, z0⟩, x0⟩
    | 1, hq => cases hq; exact ⟨fun n z => ⟨fun k h => (by cases h), q1, y1, p1, z1⟩, x1⟩
    | 2, hq => cases hq; exact ⟨fun n z => ⟨fun k h => (by cases h), q2, h23, m2, h24⟩, h25⟩
    | i + 3, hq => exact absurd (List.getElem?_eq_some_iff.mp hq).1 (by show ¬ i + 3 < 3; omega)
  · exact ⟨over_moved (Vm.Alike.refl s.vm) hov, va_Nw.of rfl (hts0 _ (List.mem_of_getElem? (i := 738) (by decide +kernel)))⟩
  · exact ⟨va_Nw.of rfl (hts0 _ (List.mem_of_getElem? (i := 36) (by decide +kernel))), va_Nw.of rfl (hts0 _ (List.mem_of_getElem? (i := 42) (by decide +kernel))), va_Nw.of rfl (hts0 _ (List.mem_of_getElem? (i := 76) (by decide +kernel)))⟩
set_option maxRecDepth 100000 in
theorem lw_xK {s : State} {args : Array Value} (hts0 : ∀ w ∈ lw_tbl, w.before args s = true) (hgv : (Jvm.Cond.and given_1 narrow_1).before args s = true) : xK s := by
  have hs := flat_of_before _ hgv
  have str : ∀ (k : Nat) (tx : String), Cond.stringRef RX4 k tx ∈ lw_tbl → Cond.exactly (.string RX4 k) "java/lang/String" ∈ flatC (Jvm.Cond.and given_1 narrow_1) → ∃ a, vk_R RX4 k tx a s := by
    intro k tx h1 h2
    obtain ⟨a, c, cA, kA, q1, -⟩ := Cond.exactly_spec (args := args) (first := s) (o := none) (s := s) (idx := []) (hs _ h2)
    exact ⟨a, vk_R.of (A := args) (hts0 _ h1) q1⟩
  refine ⟨fun q hq => ?_, fun w hw => va_Nw.of (xB_ot w hw) (hts0 w ?_), trivial⟩
  · unfold xStr at hq
    simp only [List.mem_cons, List.not_mem_nil, or_false] at hq
    rcases hq with rfl | rfl | rfl | rfl | rfl | rfl | rfl | rfl | rfl | rfl | rfl | rfl | rfl | rfl
    · exact str _ _ (List.mem_of_getElem? (i := 215) (by decide +kernel)) (List.mem_of_getElem? (i := 14) (by decide +kernel))
    · exact str _ _ (List.mem_of_getElem? (i := 314) (by decide +kernel)) (List.mem_of_getElem? (i := 45) (by decide +kernel))
    · exact str _ _ (List.mem_of_getElem? (i := 375) (by decide +kernel)) (List.mem_of_getElem? (i := 70) (by decide +kernel))
    · exact str _ _ (List.mem_of_getElem? (i := 386) (by decide +kernel)) (List.mem_of_getElem? (i := 98) (by decide +kernel))
    · exact str _ _ (List.mem_of_getElem? (i := 409) (by decide +kernel)) (List.mem_of_getElem? (i := 127) (by decide +kernel))
    · exact str _ _ (List.mem_of_getElem? (i := 631) (by decide +kernel)) (List.mem_of_getElem? (i := 158) (by decide +kernel))
    · exact str _ _ (List.mem_of_getElem? (i := 651) (by decide +kernel)) (List.mem_of_getElem? (i := 200) (by decide +kernel))
    · exact str _ _ (List.mem_of_getElem? (i := 660) (by decide +kernel)) (List.mem_of_getElem? (i := 228) (by decide +kernel))
    · exact str _ _ (List.mem_of_getElem? (i := 665) (by decide +kernel)) (List.mem_of_getElem? (i := 265) (by decide +kernel))
    · exact str _ _ (List.mem_of_getElem? (i := 701) (by decide +kernel)) (List.mem_of_getElem? (i := 300) (by decide +kernel))
    · exact str _ _ (List.mem_of_getElem? (i := 703) (by decide +kernel)) (List.mem_of_getElem? (i := 372) (by decide +kernel))
    · exact str _ _ (List.mem_of_getElem? (i := 713) (by decide +kernel)) (List.mem_of_getElem? (i := 431) (by decide +kernel))
    · exact str _ _ (List.mem_of_getElem? (i := 727) (by decide +kernel)) (List.mem_of_getElem? (i := 474) (by decide +kernel))
    · exact str _ _ (List.mem_of_getElem? (i := 728) (by decide +kernel)) (List.mem_of_getElem? (i := 538) (by decide +kernel))
  · unfold xB at hw
    simp only [List.mem_cons, List.not_mem_nil, or_false] at hw
    rcases hw with rfl | rfl | rfl | rfl | rfl | rfl
    · exact List.mem_of_getElem? (i := 624) (by decide +kernel)
    · exact List.mem_of_getElem? (i := 307) (by decide +kernel)
    · exact List.mem_of_getElem? (i := 176) (by decide +kernel)
    · exact List.mem_of_getElem? (i := 178) (by decide +kernel)
    · exact List.mem_of_getElem? (i := 180) (by decide +kernel)
    · exact List.mem_of_getElem? (i := 182) (by decide +kernel)
set_option maxRecDepth 100000 in
theorem lw_xZ {s : State} {args : Array Value} (hts0 : ∀ w ∈ lw_tbl, w.before args s = true) (hgv : (Jvm.Cond.and given_1 narrow_1).before args s = true) : zA (fun q => s.heap.size ≤ q) s s.heap := by
  have hs := flat_of_before _ hgv
  have hA : ∀ a : Nat, a < s.heap.size → ¬ s.heap.size ≤ a := fun a h => Nat.not_le.mpr h
  exact ⟨vx_Zqof (hts0 _ (List.mem_of_getElem? (i := 201) (by decide +kernel))) (hts0 _ (List.mem_of_getElem? (i := 18) (by decide +kernel))) (hs _ (List.mem_of_getElem? (i := 4) (by decide +kernel))) hA, vx_Zqof (hts0 _ (List.mem_of_getElem? (i := 203) (by decide +kernel))) (hts0 _ (List.mem_of_getElem? (i := 18) (by decide +kernel))) (hs _ (List.mem_of_getElem? (i := 5) (by decide +kernel))) hA⟩
