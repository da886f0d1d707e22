section MIN2
variable {S G T : HS} {n nf : Nat}
theorem read_bag (hb : RB S T n) (h : ¬ T 5 2 = -1) : ∃ b, b < n ∧ b < 40 ∧ T 5 2 = nI b ∧ S 12 2 = nI b ∧ ix (T 5 2) = b ∧ T 1 b = 1 := by
  have h4 := hb.n40
  obtain ⟨b, q1, q2, q3, q4⟩ := hb.bl1 2 (by omega) h
  exact ⟨b, q1, by omega, q2, (hb.bel 2 (by omega)).trans q2, by rw [q2, ix_i (by omega)], q3⟩
theorem three_iff (x : Int32) : x < 3 ↔ ¬ 3 ≤ x := ⟨fun h => Int32.not_le.mpr h, Int32.not_le.mp⟩
/-- the reader misses a bag -/
theorem miss_rb (hb : RB S T n) {b : Nat} (h : b < n) (e5 : T 5 2 = nI b) (e1 : T 1 b = 1) : RB (xMiss S (nI b)) (mMiss T b) n := by
  have h4 := hb.n40
  have h40 : b < 40 := by omega
  have k1 : ¬ T 1 b = 2 := by rw [e1]; decide
  unfold xMiss mMiss
  rw [rd_40 h40, wr_40 h40, wr_40 h40, hb.mis b h]
  have r9 : ∀ i, i < n → upd (S 9) b (T 4 b + 1) i = upd (T 4) b (T 4 b + 1) i := by
    intro i hi
    by_cases e : i = b
    · rw [e, upd_e, upd_e]
    · rw [upd_n e, upd_n e]; exact hb.mis i hi
  have o9 : ∀ i, n ≤ i → upd (S 9) b (T 4 b + 1) i = S 9 i := fun i hi => upd_n (by omega)
  by_cases q : 3 ≤ T 4 b + 1
  · rw [sel_t q, sel_f (show ¬ T 4 b + 1 < 3 from Int32.not_lt.mpr q)]
    refine rb_move hb h (w := 3) (p := -1) (q := -1) (by rw [e1]; decide) (by decide) (by decide) hb.mnt rfl rfl rfl (upd_id (hb.cno b h k1)).symm hb.rdd r9 (fun i hi => ⟨rfl, o9 i hi⟩) ?_ rfl rfl rfl rfl
      (in_keep hb k1 (by decide)) (fun z => absurd z (by decide)) (fun _ => rfl) (off_1 hb h (by omega) e5) (off_2 hb h (by omega) e5)
    intro j hj
    show upd (S 12) 2 (-1) j = upd (T 5) 2 (-1) j
    by_cases e : j = 2
    · rw [e, upd_e, upd_e]
    · rw [upd_n e, upd_n e]; exact hb.bel j hj
  · rw [sel_f q, sel_t (show T 4 b + 1 < 3 from Int32.not_le.mp q)]
    exact ⟨hb.n40, hb.mnt, hb.lin, hb.len, hb.whr, hb.rdd, r9, hb.cin, hb.cno, fun i h1 h2 => ⟨(hb.out i h1 h2).1, (hb.out i h1 h2).2.1, (hb.out i h1 h2).2.2.1, (o9 i h1).trans (hb.out i h1 h2).2.2.2.1, (hb.out i h1 h2).2.2.2.2⟩, hb.inn, hb.bel, hb.bl1, hb.bl2, hb.lns, hb.lnd⟩
theorem tag_rb (ha : RA S G n nf) (hb : RB S T n) : RB (xTag S) (mTag G T) n := by
  have h4 := hb.n40
  unfold xTag mTag
  by_cases q : T 5 2 = -1
  · rw [sel_t q, sel_t (show S 12 2 = -1 from (hb.bel 2 (by omega)).trans q)]
    exact hb
  · obtain ⟨b, h, h40, e5, e12, ei, e1⟩ := read_bag hb q
    obtain ⟨f, g1, g2, g3, g4, g5⟩ := flight_of ha h
    rw [sel_f q, sel_f (show ¬ S 12 2 = -1 from by rw [e12]; exact nI_neg (by omega)), e12, rd_40 h40, rd_40 h40, rd_40 h40, wr_40 h40, ei, hb.rdd b h, g4, rd_6 g2, g5, ha.smu b h, ha.str, ha.chu f g2]
    by_cases q2 : T 3 b = -1
    · rw [sel_t q2, sel_t q2]
      by_cases q3 : ¬ G 0 2 < G 6 b ∧ ¬ G 1 f = -1
      · rw [sel_t q3, sel_t q3]
        refine ⟨hb.n40, hb.mnt, hb.lin, hb.len, hb.whr, ?_, hb.mis, hb.cin, hb.cno, ?_, hb.inn, hb.bel, hb.bl1, hb.bl2, hb.lns, hb.lnd⟩
        · intro i hi
          show upd (S 8) b (G 1 f) i = upd (T 3) b (G 1 f) i
          by_cases e : i = b
          · rw [e, upd_e, upd_e]
          · rw [upd_n e, upd_n e]; exact hb.rdd i hi
        · intro i h1 h2
          obtain ⟨o1, o2, o3, o4, o5⟩ := hb.out i h1 h2
          exact ⟨o1, o2, (upd_n (f := S 8) (by omega)).trans o3, o4, o5⟩
      · rw [sel_f q3, sel_f q3]
        exact miss_rb hb h e5 e1
    · rw [sel_f q2, sel_f q2]
      exact hb
theorem tag_ra (ha : RA S G n nf) : RA (xTag S) G n nf := by
  have h0 := xTag_0 S
  have hr : ∀ j, j ≠ 6 → j ≠ 8 → j ≠ 9 → j ≠ 12 → xTag S j = S j := by
    intro j j6 j8 j9 j12
    unfold xTag
    by_cases q1 : S 12 2 = -1
    · rw [sel_t q1]
    · rw [sel_f q1]
      by_cases q2 : rd 40 (S 8) (S 12 2) = -1
      · rw [sel_t q2]
        by_cases q3 : ¬ S 0 1 < rd 40 (S 5) (S 12 2) ∧ ¬ rd 6 (S 1) (rd 40 (S 3) (S 12 2)) = -1
        · rw [sel_t q3]; exact sf_ne _ _ j8
        · rw [sel_f q3]
          unfold xMiss
          by_cases q4 : rd 40 (S 9) (S 12 2) + 1 < 3
          · rw [sel_t q4]; exact sf_ne _ _ j9
          · rw [sel_f q4, sf_ne _ _ j6, sf_ne _ _ j12, sf_ne _ _ j9]
      · rw [sel_f q2]
  exact RA_same ha (by rw [h0]) (by rw [h0]) (by rw [h0]) (hr 1 (by decide) (by decide) (by decide) (by decide)) (hr 2 (by decide) (by decide) (by decide) (by decide)) (hr 3 (by decide) (by decide) (by decide) (by decide)) (hr 4 (by decide) (by decide) (by decide) (by decide)) (hr 5 (by decide) (by decide) (by decide) (by decide)) (hr 10 (by decide) (by decide) (by decide) (by decide)) (hr 11 (by decide) (by decide) (by decide) (by decide))
/-- one chute, and one bag into it -/
theorem slide_rel (ha : RA S G n nf) (hb : RB S T n) {c : Nat} (hc : c < 4) {k : Nat} : RA (xFlS c (k, S)).2 G n nf ∧ RB (xFlS c (k, S)).2 (mSlT G T c) n ∧ (xFlS c (k, S)).1 = k + bN (mSlP G T c) := by
  have h4 := hb.n40
  have hp : 4 + 2 * c < 12 := by omega
  by_cases q : T 5 (4 + 2 * c) = -1
  · have q1 : ¬ mSlP G T c := fun z => z.1 q
    have q2 : ¬ (¬ S 12 (4 + 2 * c) = -1 ∧ rd 40 (S 8) (S 12 (4 + 2 * c)) = nI c ∧ xRoom S (nI c)) := fun z => z.1 ((hb.bel _ hp).trans q)
    unfold xFlS mSlT
    rw [sel_f q1, bN_f q1, sel_f q2]
    exact ⟨ha, hb, rfl⟩
  · obtain ⟨b, h, e5, e1, e2⟩ := hb.bl1 _ hp q
    have h40 : b < 40 := by omega
    have e12 : S 12 (4 + 2 * c) = nI b := (hb.bel _ hp).trans e5
    have ei : ix (T 5 (4 + 2 * c)) = b := by rw [e5, ix_i (by omega)]
    have hiff : (¬ S 12 (4 + 2 * c) = -1 ∧ rd 40 (S 8) (S 12 (4 + 2 * c)) = nI c ∧ xRoom S (nI c)) ↔ mSlP G T c := by
      unfold mSlP
      rw [hb.bel _ hp, e5, rd_40 h40, ix_i (by omega), hb.rdd b h, propext (room_iff ha hb hc)]
    unfold xFlS mSlT
    by_cases q1 : mSlP G T c
    · have q2 := hiff.mpr q1
      rw [sel_t q1, bN_t q1, sel_t q2, ei]
      show RA (xPut (sf S 12 (upd (S 12) (4 + 2 * c) (-1))) (S 12 (4 + 2 * c)) (nI c)) G n nf ∧ RB (xPut (sf S 12 (upd (S 12) (4 + 2 * c) (-1))) (S 12 (4 + 2 * c)) (nI c)) (mToCh (sf T 5 (upd (T 5) (4 + 2 * c) (-1))) b c) n ∧ k + 1 = k + 1
      rw [e12]
      have k1 : ¬ T 1 b = 2 := by rw [e1]; decide
      refine ⟨RA_same ha rfl rfl rfl rfl rfl rfl rfl rfl rfl rfl, ?_, rfl⟩
      show RB (xPut (sf S 12 (upd (S 12) (4 + 2 * c) (-1))) (nI b) (nI c)) (mToCh (sf T 5 (upd (T 5) (4 + 2 * c) (-1))) b c) n
      refine rb_move hb h (w := 2) (p := nI c) (q := nI c) (by rw [e1]; decide) (by decide) (by decide) hb.mnt rfl rfl (wr_40 h40) (wr_40 h40) hb.rdd hb.mis (fun i hi => ⟨rfl, rfl⟩) ?_ rfl rfl rfl rfl
        (in_add hb h hc k1) (fun _ => ⟨rfl, c, hc, rfl⟩) (fun z => absurd rfl z) (off_1 hb h hp e5) (off_2 hb h hp e5)
      intro j hj
      show upd (S 12) (4 + 2 * c) (-1) j = upd (T 5) (4 + 2 * c) (-1) j
      by_cases e : j = 4 + 2 * c
      · rw [e, upd_e, upd_e]
      · rw [upd_n e, upd_n e]; exact hb.bel j hj
    · have q2 := fun z => q1 (hiff.mp z)
      rw [sel_f q1, bN_f q1, sel_f q2]
      exact ⟨ha, hb, rfl⟩
theorem fill_rel (ha : RA S G n nf) (hb : RB S T n) : ∀ i, i ≤ 4 → RA (xFl S i).2 G n nf ∧ RB (xFl S i).2 (mSl G T i).2 n ∧ (xFl S i).1 = (mSl G T i).1
  | 0, _ => ⟨ha, hb, rfl⟩
  | i + 1, hi => by
    obtain ⟨h1, h2, h3⟩ := fill_rel ha hb i (by omega)
    have h5 := slide_rel h1 h2 (c := i) (by omega) (k := (xFl S i).1)
    refine ⟨h5.1, h5.2.1, h5.2.2.trans ?_⟩
    rw [h3]
    rfl
/-- the first in line comes onto the belt -/
theorem feed_rb (hb : RB S T n) : RB (xFeed S) (mFeed T) n := by
  have h4 := hb.n40
  have hiff : (S 12 0 = -1 ∧ 0 < S 0 2) ↔ (T 5 0 = -1 ∧ 0 < T 0 1) := by rw [hb.bel 0 (by omega), hb.lin]
  unfold xFeed mFeed
  by_cases q : T 5 0 = -1 ∧ 0 < T 0 1
  · rw [sel_t q, sel_t (hiff.mpr q)]
    obtain ⟨l1, l2, l3⟩ := hb.okL
    obtain ⟨l4, -, -⟩ := l3 q.2
    have hle : mL T n ≤ n := ct_le _ n
    have eL : ix (T 0 1) = mL T n := by rw [hb.len, ix_i (by omega)]
    have hL : 0 < mL T n := by rw [← eL]; exact l4
    obtain ⟨s13, b, h, e6, eb⟩ := hb.lns 0 hL
    have h40 : b < 40 := by omega
    have e13 : S 13 0 = nI b := s13.trans e6
    have ei : ix (T 6 0) = b := by rw [e6, ix_i (by omega)]
    rw [e13, wr_40 h40, ei]
    show RB (sf (sf (sf (sf S 13 (xfront 40 (S 13))) 0 (upd (S 0) 2 (S 0 2 - 1))) 12 (upd (S 12) 0 (nI b))) 6 (upd (S 6) b 1)) (mPutB (sf (mFirst T) 5 (upd (T 5) 0 (nI b))) b 1 0) n
    have k2 : ¬ T 1 b = 2 := by rw [eb]; decide
    have hL2 : ct (fun i => upd (T 1) b 1 i = 0) n + 1 = mL T n := by
      have h1 := ct_one (p := fun i => upd (T 1) b 1 i = 0) (q := fun i => T 1 i = 0) h (fun j hj e => by rw [upd_n e])
      rw [bN_t (show T 1 b = 0 from eb), bN_f (show ¬ upd (T 1) b 1 b = 0 from by rw [upd_e]; decide)] at h1
      exact h1
    have hL3 : mL (mPutB (sf (mFirst T) 5 (upd (T 5) 0 (nI b))) b 1 0) n + 1 = mL T n := hL2
    refine ⟨hb.n40, hb.mnt, ?_, ?_, ?_, hb.rdd, hb.mis, ?_, ?_, ?_, ?_, ?_, ?_, ?_, ?_, ?_⟩
    · show S 0 2 - 1 = T 0 1 - 1
      rw [hb.lin]
    · show T 0 1 - 1 = _
      rw [hb.len, isub1 hL]
      exact congrArg nI (by omega)
    · intro i hi
      show upd (S 6) b 1 i = upd (T 1) b 1 i
      by_cases e : i = b
      · rw [e, upd_e, upd_e]
      · rw [upd_n e, upd_n e]; exact hb.whr i hi
    · intro i hi e2
      have e2 : upd (T 1) b 1 i = 2 := e2
      show S 7 i = upd (T 2) b 0 i ∧ ∃ c, c < 4 ∧ upd (T 2) b 0 i = nI c
      by_cases e : i = b
      · rw [e, upd_e] at e2
        exact absurd e2 (by decide)
      · rw [upd_n e] at e2
        rw [upd_n e]
        exact hb.cin i hi e2
    · intro i hi e2
      have e2 : ¬ upd (T 1) b 1 i = 2 := e2
      show S 7 i = -1
      by_cases e : i = b
      · rw [e]; exact hb.cno b h k2
      · rw [upd_n e] at e2
        exact hb.cno i hi e2
    · intro i h1 h2
      obtain ⟨o1, o2, o3, o4, o5⟩ := hb.out i h1 h2
      have e : i ≠ b := by omega
      exact ⟨(upd_n (f := S 6) e).trans o1, o2, o3, o4, (upd_n (f := T 1) e).trans o5⟩
    · exact in_keep hb k2 (by decide)
    · intro j hj
      show upd (S 12) 0 (nI b) j = upd (T 5) 0 (nI b) j
      by_cases e : j = 0
      · rw [e, upd_e, upd_e]
      · rw [upd_n e, upd_n e]; exact hb.bel j hj
    · intro j hj e
      have e : ¬ upd (T 5) 0 (nI b) j = -1 := e
      show ∃ i, i < n ∧ upd (T 5) 0 (nI b) j = nI i ∧ upd (T 1) b 1 i = 1 ∧ upd (T 2) b 0 i = nI j
      by_cases e0 : j = 0
      · rw [e0, upd_e]
        exact ⟨b, h, rfl, upd_e _ _ _, upd_e _ _ _⟩
      · rw [upd_n e0] at e ⊢
        obtain ⟨i, g1, g2, g3, g4⟩ := hb.bl1 j hj e
        have e3 : i ≠ b := fun z => by rw [z, eb] at g3; exact absurd g3 (by decide)
        exact ⟨i, g1, g2, by rw [upd_n e3]; exact g3, by rw [upd_n e3]; exact g4⟩
    · intro i hi e1
      have e1 : upd (T 1) b 1 i = 1 := e1
      show ∃ j, j < 12 ∧ upd (T 2) b 0 i = nI j ∧ upd (T 5) 0 (nI b) j = nI i
      by_cases e : i = b
      · rw [e]
        exact ⟨0, by omega, upd_e _ _ _, upd_e _ _ _⟩
      · rw [upd_n e] at e1
        obtain ⟨j, hj, g1, g2⟩ := hb.bl2 i hi e1
        have j0 : j ≠ 0 := fun z => by rw [z, q.1] at g2; exact nI_neg (by omega) g2.symm
        exact ⟨j, hj, by rw [upd_n e]; exact g1, by rw [upd_n j0]; exact g2⟩
    · intro j hj
      have hj1 : j + 1 < mL T n := by omega
      obtain ⟨g1, i, g2, g3, g4⟩ := hb.lns (j + 1) hj1
      have e3 : i ≠ b := fun z => by
        have := hb.lnd 0 (j + 1) hL hj1 (by rw [e6, g3, z])
        omega
      have f1 : xfront 40 (S 13) j = S 13 (j + 1) := if_pos (by omega)
      have f2 : mFr (ix (T 0 1) - 1) (T 6) j = T 6 (j + 1) := by
        rw [eL]
        exact if_pos (by omega)
      show xfront 40 (S 13) j = mFr (ix (T 0 1) - 1) (T 6) j ∧ ∃ i, i < n ∧ mFr (ix (T 0 1) - 1) (T 6) j = nI i ∧ upd (T 1) b 1 i = 0
      rw [f1, f2]
      exact ⟨g1, i, g2, g3, by rw [upd_n e3]; exact g4⟩
    · intro i j hi hj e
      have f2 : ∀ j, j + 1 < mL T n → mFr (ix (T 0 1) - 1) (T 6) j = T 6 (j + 1) := fun j hj => by
        rw [eL]
        exact if_pos (by omega)
      have e : mFr (ix (T 0 1) - 1) (T 6) i = mFr (ix (T 0 1) - 1) (T 6) j := e
      rw [f2 i (by omega), f2 j (by omega)] at e
      have := hb.lnd (i + 1) (j + 1) (by omega) (by omega) e
      omega
  · rw [sel_f q, sel_f (fun z => q (hiff.mp z))]
    exact hb
theorem feed_ra (ha : RA S G n nf) : RA (xFeed S) G n nf := by
  unfold xFeed
  by_cases q : S 12 0 = -1 ∧ 0 < S 0 2
  · rw [sel_t q]
    exact RA_same ha rfl rfl rfl rfl rfl rfl rfl rfl rfl rfl
  · rw [sel_f q]
    exact ha
theorem tick_rb (hb : RB S T n) : RB (xTick S) (mTick T) n :=
  ⟨hb.n40, by show S 0 0 + 1 = T 0 0 + 1; rw [hb.mnt], hb.lin, hb.len, hb.whr, hb.rdd, hb.mis, hb.cin, hb.cno, hb.out, hb.inn, hb.bel, hb.bl1, hb.bl2, hb.lns, hb.lnd⟩
/-- a minute -/
theorem min_rel (ha : RA S G n nf) (hb : RB S T n) : RA (xMin S).2 G n nf ∧ RB (xMin S).2 (mMin G T).2 n ∧ (xMin S).1 = (mMin G T).1 := by
  have a1 : RA (xTrn S) G n nf := RA_same ha rfl rfl rfl rfl rfl rfl rfl rfl rfl rfl
  have b1 := turn_rb hb
  obtain ⟨a3, b3, k3⟩ := fill_rel (tag_ra a1) (tag_rb a1 b1) 4 (Nat.le_refl 4)
  exact ⟨RA_same (feed_ra a3) rfl rfl rfl rfl rfl rfl rfl rfl rfl rfl, tick_rb (feed_rb b3), k3⟩
theorem go_rel (ha : RA S G n nf) (hb : RB S T n) : ∀ i, RA (xGo S i).2 G n nf ∧ RB (xGo S i).2 (mGo G T i).2 n ∧ (xGo S i).1 = (mGo G T i).1
  | 0 => ⟨ha, hb, rfl⟩
  | i + 1 => by
    obtain ⟨h1, h2, h3⟩ := go_rel ha hb i
    obtain ⟨g1, g2, g3⟩ := min_rel h1 h2
    refine ⟨g1, g2, ?_⟩
    show (xGo S i).1 + nI (xMin (xGo S i).2).1 = (mGo G T i).1 + nI (mMin G (mGo G T i).2).1
    rw [h3, g3]
theorem un_rel (ha : RA S G n nf) (hb : RB S T n) : ∀ i, RA (xUn S i) G n nf ∧ RB (xUn S i) (mUn G T i) n
  | 0 => ⟨ha, hb⟩
  | i + 1 => by
    obtain ⟨h1, h2⟩ := un_rel ha hb i
    obtain ⟨g1, g2, -⟩ := min_rel h1 h2
    exact ⟨g1, g2⟩
end MIN2
