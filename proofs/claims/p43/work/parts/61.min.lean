/-! a minute: both sides go on alike -/
theorem upd_e (f : Nat → Int32) (i : Nat) (v : Int32) : upd f i v i = v := if_pos rfl
theorem upd_n {f : Nat → Int32} {i j : Nat} {v : Int32} (h : j ≠ i) : upd f i v j = f j := if_neg h
theorem upd_id {f : Nat → Int32} {i : Nat} {v : Int32} (h : f i = v) : upd f i v = f := by
  funext j
  by_cases e : j = i
  · rw [e, upd_e, h]
  · rw [upd_n e]
theorem atL_no {f at_ : Nat → Int32} {b : Nat} : ∀ {k : Nat}, (∀ j, j < k → ¬ f j = -1 → ¬ ix (f j) = b) → mAtL f at_ k b = at_ b
  | 0, _ => rfl
  | k + 1, h => by
    have ih := atL_no (f := f) (at_ := at_) (b := b) (k := k) (fun j hj => h j (by omega))
    by_cases e : f k = -1
    · rw [mAtL_s1 e]; exact ih
    · rw [mAtL_s2 e, upd_n (fun z => h k (by omega) e z.symm)]; exact ih
theorem atL_at {f at_ : Nat → Int32} {b j : Nat} (hb : b < 2 ^ 31) (hj : f j = nI b) : ∀ {k : Nat}, j < k → (∀ i, i < k → f i = nI b → i = j) → (∀ i, i < k → ¬ f i = -1 → f i = nI (ix (f i))) → mAtL f at_ k b = nI j
  | 0, h, _, _ => absurd h (Nat.not_lt_zero j)
  | k + 1, h, hu, hi => by
    by_cases e : j = k
    · subst e
      have e1 : ¬ f j = -1 := by rw [hj]; exact nI_neg hb
      rw [mAtL_s2 e1, hj, ix_i hb, upd_e]
    · have ih := atL_at (at_ := at_) hb hj (k := k) (by omega) (fun i hi' => hu i (by omega)) (fun i hi' => hi i (by omega))
      by_cases e1 : f k = -1
      · rw [mAtL_s1 e1]; exact ih
      · rw [mAtL_s2 e1, upd_n (fun z => e (hu k (by omega) (by rw [hi k (by omega) e1, ← z]) ).symm)]; exact ih
section MINUTE
variable {S G T : HS} {n nf : Nat}
theorem RA_same {S' : HS} (ha : RA S G n nf) (e1 : S' 0 1 = S 0 1) (e3 : S' 0 3 = S 0 3) (e4 : S' 0 4 = S 0 4) (r1 : S' 1 = S 1) (r2 : S' 2 = S 2) (r3 : S' 3 = S 3) (r4 : S' 4 = S 4) (r5 : S' 5 = S 5) (r10 : S' 10 = S 10) (r11 : S' 11 = S 11) : RA S' G n nf := by
  refine ⟨ha.n40, ha.nf6, e4.trans ha.sn, ha.gn, e3.trans ha.sf_, ha.gf_, e1.trans ha.str, ?_, ha.chr, ?_, ha.gob, ?_, ?_, ha.fl6, ?_, ?_, ?_, ?_⟩
  · rw [r1]; exact ha.chu
  · rw [r2]; exact ha.gon
  · rw [r11]; exact ha.roo
  · rw [r3]; exact ha.fli
  · rw [r4]; exact ha.siz
  · rw [r5]; exact ha.smu
  · rw [r10]; exact ha.fil
  · rw [r3, r10]; exact ha.oua
/-- the belt goes round -/
theorem turn_rb (hb : RB S T n) : RB (xTrn S) (mTrn T) n := by
  have h4 := hb.n40
  have pre : ∀ j, j < 12 → ∃ i, i < 12 ∧ (j = 0 → i = 11) ∧ (j ≠ 0 → i = j - 1) ∧ xturn 12 (T 5) j = T 5 i := by
    intro j hj
    unfold xturn
    by_cases e : j = 0
    · exact ⟨11, by omega, fun _ => rfl, fun z => absurd e z, by rw [if_pos hj, if_pos e]⟩
    · exact ⟨j - 1, by omega, fun z => absurd z e, fun _ => rfl, by rw [if_pos hj, if_neg e]⟩
  have un : ∀ i j b, i < 12 → j < 12 → b < n → xturn 12 (T 5) i = nI b → xturn 12 (T 5) j = nI b → i = j := by
    intro i j b hi hj hbn e1 e2
    obtain ⟨i', h1, h2, h3, h5⟩ := pre i hi
    obtain ⟨j', g1, g2, g3, g5⟩ := pre j hj
    obtain ⟨b1, q1, q2, q3, q4⟩ := hb.bl1 i' h1 (by rw [← h5, e1]; exact nI_neg (by omega))
    obtain ⟨b2, r1, r2, r3, r4⟩ := hb.bl1 j' g1 (by rw [← g5, e2]; exact nI_neg (by omega))
    have w1 : b1 = b := nI_inj (by omega) (by omega) (q2.symm.trans (h5.symm.trans e1))
    have w2 : b2 = b := nI_inj (by omega) (by omega) (r2.symm.trans (g5.symm.trans e2))
    subst w1
    subst w2
    have w3 : i' = j' := nI_inj (by omega) (by omega) (q4.symm.trans r4)
    omega
  have on : ∀ j, j < 12 → ¬ xturn 12 (T 5) j = -1 → ∃ b, b < n ∧ xturn 12 (T 5) j = nI b ∧ T 1 b = 1 := by
    intro j hj e
    obtain ⟨i, h1, -, -, h5⟩ := pre j hj
    rw [h5] at e
    obtain ⟨b, q1, q2, q3, q4⟩ := hb.bl1 i h1 e
    exact ⟨b, q1, by rw [h5]; exact q2, q3⟩
  have at2 : ∀ j b, j < 12 → b < n → xturn 12 (T 5) j = nI b → mTrn T 2 b = nI j := by
    intro j b hj hbn e
    refine atL_at (by omega) e hj (fun i hi e2 => un i j b hi hj hbn e2 e) (fun i hi e2 => ?_)
    obtain ⟨b2, q1, q2, -⟩ := on i hi e2
    rw [q2, ix_i (by omega)]
  have at0 : ∀ b, b < n → ¬ T 1 b = 1 → mTrn T 2 b = T 2 b := by
    intro b hbn e
    refine atL_no (fun j hj e2 e3 => e ?_)
    obtain ⟨b2, q1, q2, q3⟩ := on j hj e2
    rw [q2, ix_i (by omega)] at e3
    rw [← e3]
    exact q3
  refine ⟨hb.n40, hb.mnt, hb.lin, hb.len, hb.whr, hb.rdd, hb.mis, ?_, hb.cno, hb.out, ?_, ?_, ?_, ?_, hb.lns, hb.lnd⟩
  · intro b hbn e
    have e2 : mTrn T 2 b = T 2 b := at0 b hbn (by rw [show T 1 b = 2 from e]; decide)
    rw [e2]
    exact hb.cin b hbn e
  · intro c hc
    refine (hb.inn c hc).trans (congrArg nI (ct_cong (fun b hbn => ?_)))
    refine and_congr_right (fun e => ?_)
    rw [at0 b hbn (by rw [e]; decide)]
  · intro j hj
    show xturn 12 (S 12) j = xturn 12 (T 5) j
    unfold xturn
    rw [if_pos hj, if_pos hj]
    by_cases e : j = 0
    · rw [if_pos e, if_pos e]; exact hb.bel 11 (by omega)
    · rw [if_neg e, if_neg e]; exact hb.bel (j - 1) (by omega)
  · intro j hj e
    obtain ⟨b, q1, q2, q3⟩ := on j hj e
    exact ⟨b, q1, q2, q3, at2 j b hj q1 q2⟩
  · intro b hbn e
    obtain ⟨j, hj, e1, e2⟩ := hb.bl2 b hbn e
    have hk : ∃ i, i < 12 ∧ xturn 12 (T 5) i = nI b := by
      by_cases w : j = 11
      · refine ⟨0, by omega, ?_⟩
        unfold xturn
        rw [if_pos (by omega), if_pos rfl, ← e2, w]
      · refine ⟨j + 1, by omega, ?_⟩
        unfold xturn
        rw [if_pos (by omega), if_neg (by omega), ← e2]
        rfl
    obtain ⟨i, hi, e3⟩ := hk
    exact ⟨i, hi, at2 i b hi hbn e3, e3⟩
/-- how many lie in the chutes, when a bag moves -/
theorem in_keep (hb : RB S T n) {b : Nat} {w p : Int32} (q : ¬ T 1 b = 2) (qw : ¬ w = 2) : ∀ c, c < 4 → T 7 c = nI (ct (fun i => upd (T 1) b w i = 2 ∧ upd (T 2) b p i = nI c) n) := by
  intro c hc
  refine (hb.inn c hc).trans (congrArg nI (ct_cong (fun i hi => ?_)))
  by_cases e : i = b
  · subst e
    rw [upd_e]
    exact ⟨fun z => absurd z.1 q, fun z => absurd z.1 qw⟩
  · rw [upd_n e, upd_n e]
theorem in_add (hb : RB S T n) {b c0 : Nat} (h : b < n) (hc0 : c0 < 4) (q : ¬ T 1 b = 2) : ∀ c, c < 4 → upd (T 7) c0 (T 7 c0 + 1) c = nI (ct (fun i => upd (T 1) b 2 i = 2 ∧ upd (T 2) b (nI c0) i = nI c) n) := by
  intro c hc
  have h1 := ct_one (p := fun i => upd (T 1) b 2 i = 2 ∧ upd (T 2) b (nI c0) i = nI c) (q := fun i => T 1 i = 2 ∧ T 2 i = nI c) h (fun j hj e => by rw [upd_n e, upd_n e])
  rw [bN_f (show ¬ (T 1 b = 2 ∧ T 2 b = nI c) from fun z => q z.1)] at h1
  by_cases e : c = c0
  · subst e
    rw [upd_e, hb.inn c hc, nI_1]
    rw [bN_t (show (upd (T 1) b 2 b = 2 ∧ upd (T 2) b (nI c) b = nI c) from ⟨upd_e _ _ _, upd_e _ _ _⟩)] at h1
    exact congrArg nI (by omega)
  · rw [upd_n e, hb.inn c hc]
    rw [bN_f (show ¬ (upd (T 1) b 2 b = 2 ∧ upd (T 2) b (nI c0) b = nI c) from fun z => e (nI_inj (by omega) (by omega) ((upd_e (T 2) b (nI c0)).symm.trans z.2)).symm)] at h1
    exact congrArg nI (by omega)
theorem in_sub (hb : RB S T n) {b c0 : Nat} {w p : Int32} (h : b < n) (hc0 : c0 < 4) (q : T 1 b = 2) (q2 : T 2 b = nI c0) (qw : ¬ w = 2) : ∀ c, c < 4 → upd (T 7) c0 (T 7 c0 - 1) c = nI (ct (fun i => upd (T 1) b w i = 2 ∧ upd (T 2) b p i = nI c) n) := by
  intro c hc
  have h4 := hb.n40
  have h1 := ct_one (p := fun i => upd (T 1) b w i = 2 ∧ upd (T 2) b p i = nI c) (q := fun i => T 1 i = 2 ∧ T 2 i = nI c) h (fun j hj e => by rw [upd_n e, upd_n e])
  rw [bN_f (show ¬ (upd (T 1) b w b = 2 ∧ upd (T 2) b p b = nI c) from fun z => qw ((upd_e (T 1) b w).symm.trans z.1))] at h1
  by_cases e : c = c0
  · subst e
    rw [bN_t (show (T 1 b = 2 ∧ T 2 b = nI c) from ⟨q, q2⟩)] at h1
    rw [upd_e, hb.inn c hc, isub1 (by omega)]
    exact congrArg nI (by omega)
  · rw [upd_n e, hb.inn c hc]
    rw [bN_f (show ¬ (T 1 b = 2 ∧ T 2 b = nI c) from fun z => e (nI_inj (by omega) (by omega) (q2.symm.trans z.2)).symm)] at h1
    exact congrArg nI (by omega)
/-- a bag that was not in the line moves to where there is no line and no belt -/
theorem rb_move (hb : RB S T n) {b : Nat} (h : b < n) {S' T' : HS} {w p q : Int32} (h0 : ¬ T 1 b = 0) (w0 : ¬ w = 0) (w1 : ¬ w = 1)
    (e00 : S' 0 0 = T' 0 0) (e02 : S' 0 2 = S 0 2) (t01 : T' 0 1 = T 0 1)
    (e6 : S' 6 = upd (S 6) b w) (e7 : S' 7 = upd (S 7) b q) (e8 : ∀ i, i < n → S' 8 i = T' 3 i) (e9 : ∀ i, i < n → S' 9 i = T' 4 i) (eo : ∀ i, n ≤ i → S' 8 i = S 8 i ∧ S' 9 i = S 9 i)
    (e12 : ∀ j, j < 12 → S' 12 j = T' 5 j) (e13 : S' 13 = S 13)
    (t1 : T' 1 = upd (T 1) b w) (t2 : T' 2 = upd (T 2) b p) (t6 : T' 6 = T 6)
    (t7 : ∀ c, c < 4 → T' 7 c = nI (ct (fun i => upd (T 1) b w i = 2 ∧ upd (T 2) b p i = nI c) n))
    (hq2 : w = 2 → q = p ∧ ∃ c, c < 4 ∧ p = nI c) (hqn : ¬ w = 2 → q = -1)
    (hB1 : ∀ j, j < 12 → ¬ T' 5 j = -1 → T' 5 j = T 5 j ∧ ¬ T 5 j = nI b) (hB2 : ∀ i j, i < n → i ≠ b → j < 12 → T 5 j = nI i → T' 5 j = nI i) : RB S' T' n := by
  have hL : mL T' n = mL T n := by
    refine ct_cong (fun i hi => ?_)
    rw [t1]
    by_cases e : i = b
    · subst e
      rw [upd_e]
      exact ⟨fun z => absurd z w0, fun z => absurd z h0⟩
    · rw [upd_n e]
  refine ⟨hb.n40, e00, (e02.trans hb.lin).trans t01.symm, ?_, ?_, e8, e9, ?_, ?_, ?_, ?_, e12, ?_, ?_, ?_, ?_⟩
  · rw [hL]; exact t01.trans hb.len
  · intro i hi
    rw [e6, t1]
    by_cases e : i = b
    · rw [e, upd_e, upd_e]
    · rw [upd_n e, upd_n e]; exact hb.whr i hi
  · intro i hi h2
    rw [t1] at h2
    rw [e7, t2]
    by_cases e : i = b
    · subst e
      rw [upd_e] at h2
      rw [upd_e, upd_e]
      exact hq2 h2
    · rw [upd_n e] at h2
      rw [upd_n e, upd_n e]
      exact hb.cin i hi h2
  · intro i hi h2
    rw [t1] at h2
    rw [e7]
    by_cases e : i = b
    · subst e
      rw [upd_e] at h2
      rw [upd_e]
      exact hqn h2
    · rw [upd_n e] at h2
      rw [upd_n e]
      exact hb.cno i hi h2
  · intro i h1 h2
    obtain ⟨g1, g2, g3, g4, g5⟩ := hb.out i h1 h2
    have e : i ≠ b := by omega
    rw [e6, e7, t1, upd_n e, upd_n e, upd_n e, (eo i h1).1, (eo i h1).2]
    exact ⟨g1, g2, g3, g4, g5⟩
  · intro c hc
    rw [t1, t2]
    exact t7 c hc
  · intro j hj e
    obtain ⟨e1, e2⟩ := hB1 j hj e
    rw [e1] at e ⊢
    obtain ⟨i, g1, g2, g3, g4⟩ := hb.bl1 j hj e
    have e3 : i ≠ b := fun z => e2 (z ▸ g2)
    exact ⟨i, g1, g2, by rw [t1, upd_n e3]; exact g3, by rw [t2, upd_n e3]; exact g4⟩
  · intro i hi h1
    rw [t1] at h1
    by_cases e : i = b
    · subst e
      rw [upd_e] at h1
      exact absurd h1 w1
    · rw [upd_n e] at h1
      obtain ⟨j, hj, g1, g2⟩ := hb.bl2 i hi h1
      exact ⟨j, hj, by rw [t2, upd_n e]; exact g1, hB2 i j hi e hj g2⟩
  · rw [hL]
    intro j hj
    obtain ⟨g1, i, g2, g3, g4⟩ := hb.lns j hj
    have e3 : i ≠ b := fun z => h0 (z ▸ g4)
    rw [e13, t6]
    exact ⟨g1, i, g2, g3, by rw [t1, upd_n e3]; exact g4⟩
  · rw [hL, t6]
    exact hb.lnd
/-- what lies on the belt lies there once -/
theorem belt_one (hb : RB S T n) {b j0 j : Nat} (h : b < n) (hj0 : j0 < 12) (hj : j < 12) (e0 : T 5 j0 = nI b) (e : T 5 j = nI b) : j = j0 := by
  have h4 := hb.n40
  obtain ⟨b1, q1, q2, q3, q4⟩ := hb.bl1 j0 hj0 (by rw [e0]; exact nI_neg (by omega))
  obtain ⟨b2, r1, r2, r3, r4⟩ := hb.bl1 j hj (by rw [e]; exact nI_neg (by omega))
  have w1 : b1 = b := nI_inj (by omega) (by omega) (q2.symm.trans e0)
  have w2 : b2 = b := nI_inj (by omega) (by omega) (r2.symm.trans e)
  subst w1
  subst w2
  exact nI_inj (by omega) (by omega) (r4.symm.trans q4)
/-- off the belt, at j0 -/
theorem off_1 (hb : RB S T n) {b j0 : Nat} (h : b < n) (hj0 : j0 < 12) (e0 : T 5 j0 = nI b) : ∀ j, j < 12 → ¬ upd (T 5) j0 (-1) j = -1 → upd (T 5) j0 (-1) j = T 5 j ∧ ¬ T 5 j = nI b := by
  intro j hj e
  have e1 : j ≠ j0 := fun z => e (by rw [z, upd_e])
  rw [upd_n e1]
  exact ⟨rfl, fun z => e1 (belt_one hb h hj0 hj e0 z)⟩
theorem off_2 (hb : RB S T n) {b j0 : Nat} (h : b < n) (hj0 : j0 < 12) (e0 : T 5 j0 = nI b) : ∀ i j, i < n → i ≠ b → j < 12 → T 5 j = nI i → upd (T 5) j0 (-1) j = nI i := by
  intro i j hin hi hj e
  have h4 := hb.n40
  have e1 : j ≠ j0 := fun z => by
    subst z
    exact hi (nI_inj (by omega) (by omega) (e.symm.trans e0))
  rw [upd_n e1]
  exact e
/-- not on the belt -/
theorem on_1 (hb : RB S T n) {b : Nat} (h : b < n) (e0 : ¬ T 1 b = 1) : ∀ j, j < 12 → ¬ T 5 j = -1 → T 5 j = T 5 j ∧ ¬ T 5 j = nI b := by
  intro j hj e
  have h4 := hb.n40
  refine ⟨rfl, fun z => e0 ?_⟩
  obtain ⟨b1, q1, q2, q3, -⟩ := hb.bl1 j hj e
  have w1 : b1 = b := nI_inj (by omega) (by omega) (q2.symm.trans z)
  rw [← w1]
  exact q3
end MINUTE
