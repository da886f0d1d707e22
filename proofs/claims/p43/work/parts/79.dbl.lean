/-! the means are numbers -/
set_option maxRecDepth 100000 in
theorem dd_ok : ∀ n, n < 41 → n ≠ 0 → ∀ M, M < 121 → (Op.cmpValue (FP.dcmp (FP.ddiv (FP.i2d (nI M)) (FP.i2d (nI n))) (FP.ddiv (FP.i2d (nI M)) (FP.i2d (nI n)))) CmpOp.l = 0 ∧ isNaN64 (FP.ddiv (FP.i2d (nI M)) (FP.i2d (nI n))) = false) := by decide +kernel
theorem dd_0 : Op.cmpValue (FP.dcmp FP.dconst0 FP.dconst0) CmpOp.l = 0 ∧ isNaN64 FP.dconst0 = false := by decide +kernel
theorem alike_is {r z : UInt64} (h : alike64 r z = true) (hz : isNaN64 z = false) : r = z := by
  unfold alike64 at h
  rw [hz, Bool.and_false, Bool.or_false] at h
  exact of_decide_eq_true h
theorem sm_nI {f : Nat → Int32} : ∀ {n : Nat}, (∀ b, b < n → ∃ m, m ≤ 3 ∧ f b = nI m) → ∃ M, M ≤ 3 * n ∧ sm f n = nI M
  | 0, _ => ⟨0, Nat.le_refl _, rfl⟩
  | n + 1, h => by
    obtain ⟨M, h1, h2⟩ := sm_nI (f := f) (n := n) (fun b hb => h b (by omega))
    obtain ⟨m, h3, h4⟩ := h n (Nat.lt_succ_self n)
    refine ⟨M + m, by omega, ?_⟩
    show sm f n + f n = nI (M + m)
    rw [h2, h4, nI_add]
theorem mean_num {T : HS} {n : Nat} (ht : ∀ b, b < n → ∃ m, m ≤ 3 ∧ T 4 b = nI m) (hn : n ≤ 40) (h0 : n ≠ 0) : Op.cmpValue (FP.dcmp (FP.ddiv (FP.i2d (sm (T 4) n)) (FP.i2d (nI n))) (FP.ddiv (FP.i2d (sm (T 4) n)) (FP.i2d (nI n)))) CmpOp.l = 0 ∧ isNaN64 (FP.ddiv (FP.i2d (sm (T 4) n)) (FP.i2d (nI n))) = false := by
  obtain ⟨M, h1, h2⟩ := sm_nI ht
  rw [h2]
  exact dd_ok n (by omega) h0 M (by omega)
