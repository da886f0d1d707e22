/-! what every act keeps -/
def GI (G T : HS) (n nf : Nat) : Prop := (∀ b, b < n → G 7 b = 0 ∨ G 7 b = 1 ∨ G 7 b = 2) ∧ (∀ b, b < n → G 7 b = 1 → G 2 (ix (G 4 b)) = 1 ∧ ¬ T 1 b = 5) ∧ (∀ b, b < n → T 1 b = 5 → G 2 (ix (G 4 b)) = 1) ∧ (∀ f, nf ≤ f → f < 6 → G 1 f = -1 ∧ G 2 f = 0)
theorem GI.fi {G T : HS} {n nf : Nat} (h : GI G T n nf) : ∀ b, b < n → G 7 b = 0 ∨ G 7 b = 1 ∨ G 7 b = 2 := h.1
theorem GI.op {G T : HS} {n nf : Nat} (h : GI G T n nf) : ∀ b, b < n → G 7 b = 1 → G 2 (ix (G 4 b)) = 1 ∧ ¬ T 1 b = 5 := h.2.1
theorem GI.ld {G T : HS} {n nf : Nat} (h : GI G T n nf) : ∀ b, b < n → T 1 b = 5 → G 2 (ix (G 4 b)) = 1 := h.2.2.1
theorem GI.fr {G T : HS} {n nf : Nat} (h : GI G T n nf) : ∀ f, nf ≤ f → f < 6 → G 1 f = -1 ∧ G 2 f = 0 := h.2.2.2
theorem gi_0 : GI g0 t0 0 0 := ⟨fun b h => absurd h (Nat.not_lt_zero b), fun b h => absurd h (Nat.not_lt_zero b), fun b h => absurd h (Nat.not_lt_zero b), fun _ _ _ => ⟨rfl, rfl⟩⟩
theorem GI_same {G T V K : HS} {n nf : Nat} (h : GI G T n nf) (e2 : K 2 = G 2) (e4 : K 4 = G 4) (e7 : K 7 = G 7) (e1 : K 1 = G 1) (v1 : V 1 = T 1) : GI K V n nf := by
  unfold GI at h ⊢
  rw [e2, e4, e7, e1, v1]
  exact h
theorem TI_w {T V : HS} {n : Nat} (h : TI T n) (e3 : V 3 = T 3) (e4 : V 4 = T 4) (e1 : ∀ b, b < n → V 1 b = T 1 b ∨ ∃ w, 2 ≤ w ∧ w ≤ 5 ∧ V 1 b = nI w) : TI V n := by
  refine ⟨by rw [e3]; exact h.rd, by rw [e4]; exact h.ms, fun b hb hw => ?_, fun b hb => ?_⟩
  · rw [e4]
    rcases e1 b hb with q | ⟨w, w1, w2, q⟩
    · exact h.on b hb (by unfold onW at hw ⊢; rw [q] at hw; exact hw)
    · unfold onW at hw
      rw [q] at hw
      rcases hw with z | z
      · have := nI_inj (b := 0) (by omega) (by decide) z; omega
      · have := nI_inj (b := 1) (by omega) (by decide) z; omega
  · rcases e1 b hb with q | ⟨w, w1, w2, q⟩
    · rw [q]; exact h.wh b hb
    · exact ⟨w, w2, q⟩
theorem mClose_ne (G : HS) (b : Nat) {j : Nat} (h : j ≠ 7) : mClose G b j = G j := by
  unfold mClose
  by_cases e : G 7 b = 1
  · rw [sel_t e]; exact sf_ne _ _ h
  · rw [sel_f e]
theorem mClose_7n {G : HS} {b i : Nat} (h : i ≠ b) : mClose G b 7 i = G 7 i := by
  unfold mClose
  by_cases e : G 7 b = 1
  · rw [sel_t e]; exact upd_n h
  · rw [sel_f e]
theorem mClose_7 {G : HS} {b : Nat} (h : G 7 b = 0 ∨ G 7 b = 1 ∨ G 7 b = 2) : mClose G b 7 b = 0 ∨ mClose G b 7 b = 2 := by
  unfold mClose
  by_cases e : G 7 b = 1
  · rw [sel_t e]; exact Or.inr (upd_e _ _ _)
  · rw [sel_f e]
    rcases h with q | q | q
    · exact Or.inl q
    · exact absurd q e
    · exact Or.inr q
/-- a bag's file is closed, its place is another: not the hold -/
theorem GI_one {G T K V : HS} {n nf b0 : Nat} (h : GI G T n nf) (e2 : K 2 = G 2) (e1 : K 1 = G 1) (o4 : ∀ b, b ≠ b0 → K 4 b = G 4 b) (o7 : ∀ b, b ≠ b0 → K 7 b = G 7 b) (o1 : ∀ b, b < n → b ≠ b0 → V 1 b = T 1 b) (k7 : K 7 b0 = 0 ∨ K 7 b0 = 2) (v1 : ¬ V 1 b0 = 5) : GI K V n nf := by
  refine ⟨fun b hb => ?_, fun b hb q => ?_, fun b hb q => ?_, by rw [e1, e2]; exact h.fr⟩
  · by_cases e : b = b0
    · rw [e]; rcases k7 with q | q
      · exact Or.inl q
      · exact Or.inr (Or.inr q)
    · rw [o7 b e]; exact h.fi b hb
  · by_cases e : b = b0
    · rw [e] at q; rcases k7 with z | z <;> (rw [z] at q; exact absurd q (by decide))
    · rw [o7 b e] at q
      rw [e2, o4 b e, o1 b hb e]; exact h.op b hb q
  · by_cases e : b = b0
    · rw [e] at q; exact absurd q v1
    · rw [o1 b hb e] at q
      rw [e2, o4 b e]; exact h.ld b hb q
theorem sweep_keep {G T : HS} {n nf c : Nat} (ht : TI T n) (hg : GI G T n nf) : ∀ i, i ≤ n → TI (mSw G T c i).2.2 n ∧ GI (mSw G T c i).2.1 (mSw G T c i).2.2 n nf
  | 0, _ => ⟨ht, hg⟩
  | i + 1, hi => by
    obtain ⟨h1, h2⟩ := sweep_keep ht hg i (by omega)
    show TI (mSwS c i (mSw G T c i)).2.2 n ∧ GI (mSwS c i (mSw G T c i)).2.1 (mSwS c i (mSw G T c i)).2.2 n nf
    unfold mSwS
    by_cases q : mMis (mSw G T c i).2.1 (mSw G T c i).2.2 i ∧ (mSw G T c i).2.2 2 i = nI c
    · rw [sel_t q]
      have w1 : mDec (mPutB (mSw G T c i).2.2 i 3 (-1)) c 1 i = 3 := upd_e _ _ _
      refine ⟨TI_w h1 rfl rfl (fun b hb => ?_), GI_one (b0 := i) h2 (mClose_ne _ _ (by decide)) (mClose_ne _ _ (by decide)) (fun b e => congrFun (mClose_ne _ _ (by decide)) b) (fun b e => mClose_7n e) (fun b _ e => upd_n e) (mClose_7 (h2.fi i (by omega))) ?_⟩
      · by_cases e : b = i
        · rw [e]; exact Or.inr ⟨3, by omega, by omega, w1⟩
        · exact Or.inl (upd_n e)
      · show ¬ mDec (mPutB (mSw G T c i).2.2 i 3 (-1)) c 1 i = 5
        rw [w1]; decide
    · rw [sel_f q]
      exact ⟨h1, h2⟩
/-- a departing flight, bag by bag -/
def DI (G0 T0 G T : HS) (f n i : Nat) : Prop := (∀ b, b < n → G 7 b = 0 ∨ G 7 b = 1 ∨ G 7 b = 2) ∧ (∀ b, b < n → G 7 b = 1 → (G0 2 (ix (G0 4 b)) = 1 ∨ ix (G0 4 b) = f) ∧ ¬ T 1 b = 5) ∧ (∀ b, b < n → T 1 b = 5 → (G0 2 (ix (G0 4 b)) = 1 ∨ ix (G0 4 b) = f)) ∧ (∀ b, b < n → i ≤ b → G 7 b = G0 7 b ∧ T 1 b = T0 1 b) ∧ (∀ j, j ≠ 7 → G j = G0 j)
theorem depart_keep {G T : HS} {n nf f : Nat} (ht : TI T n) (hg : GI G T n nf) (hf : f < nf) (hnf : nf ≤ 6) (hng : ¬ G 2 f = 1) (hfl : ∀ b, b < n → ∃ f2, f2 < nf ∧ G 4 b = nI f2) : ∀ i, i ≤ n → TI (mLv G T f i).2.2 n ∧ DI G T (mLv G T f i).2.1 (mLv G T f i).2.2 f n i
  | 0, _ => ⟨ht, hg.fi, fun b hb q => ⟨Or.inl (hg.op b hb q).1, (hg.op b hb q).2⟩, fun b hb q => Or.inl (hg.ld b hb q), fun _ _ _ => ⟨rfl, rfl⟩, fun _ _ => rfl⟩
  | i + 1, hi => by
    obtain ⟨h1, d1, d2, d3, d4, d5⟩ := depart_keep ht hg hf hnf hng hfl i (by omega)
    have hin : i < n := by omega
    show TI (mLvS f i (mLv G T f i)).2.2 n ∧ DI G T (mLvS f i (mLv G T f i)).2.1 (mLvS f i (mLv G T f i)).2.2 f n (i + 1)
    unfold mLvS
    by_cases q : (mLv G T f i).2.1 4 i = nI f
    · rw [sel_t q]
      have ef : ix (G 4 i) = f := by rw [← d5 4 (by decide), q, ix_i (by omega)]
      have n7 : ¬ G 7 i = 1 := fun z => hng (by have := (hg.op i hin z).1; rw [ef] at this; exact this)
      have n5 : ¬ T 1 i = 5 := fun z => hng (by have := hg.ld i hin z; rw [ef] at this; exact this)
      obtain ⟨e7, e1⟩ := d4 i hin (Nat.le_refl i)
      by_cases q2 : mOwn (mLv G T f i).2.1 (mLv G T f i).2.2 i
      · rw [sel_t q2]
        have w1 : ∀ z, mPutB (mDec (mLv G T f i).2.2 z) i 5 (-1) 1 i = 5 := fun z => upd_e _ _ _
        refine ⟨TI_w h1 rfl rfl (fun b hb => ?_), d1, fun b hb z => ?_, fun b hb z => ?_, fun b hb z => ⟨(d4 b hb (by omega)).1, ?_⟩, d5⟩
        · by_cases e : b = i
          · rw [e]; exact Or.inr ⟨5, by omega, by omega, w1 _⟩
          · exact Or.inl (upd_n e)
        · by_cases e : b = i
          · rw [e] at z
            exact absurd (e7.symm.trans z) n7
          · refine ⟨(d2 b hb z).1, ?_⟩
            show ¬ upd ((mLv G T f i).2.2 1) i 5 b = 5
            rw [upd_n e]; exact (d2 b hb z).2
        · by_cases e : b = i
          · rw [e]; exact Or.inr ef
          · exact d3 b hb (by
              have z2 : upd ((mLv G T f i).2.2 1) i 5 b = 5 := z
              rw [upd_n e] at z2; exact z2)
        · show upd ((mLv G T f i).2.2 1) i 5 b = T 1 b
          rw [upd_n (by omega)]; exact (d4 b hb (by omega)).2
      · rw [sel_f q2]
        refine ⟨h1, fun b hb => ?_, fun b hb z => ?_, d3, fun b hb z => ⟨?_, (d4 b hb (by omega)).2⟩, fun j hj => (sf_ne _ _ hj).trans (d5 j hj)⟩
        · show upd ((mLv G T f i).2.1 7) i 1 b = 0 ∨ upd ((mLv G T f i).2.1 7) i 1 b = 1 ∨ upd ((mLv G T f i).2.1 7) i 1 b = 2
          by_cases e : b = i
          · rw [e, upd_e]; exact Or.inr (Or.inl rfl)
          · rw [upd_n e]; exact d1 b hb
        · by_cases e : b = i
          · rw [e]
            exact ⟨Or.inr ef, by rw [e1]; exact n5⟩
          · have z2 : upd ((mLv G T f i).2.1 7) i 1 b = 1 := z
            rw [upd_n e] at z2
            exact d2 b hb z2
        · show upd ((mLv G T f i).2.1 7) i 1 b = G 7 b
          rw [upd_n (by omega)]; exact (d4 b hb (by omega)).1
    · rw [sel_f q]
      exact ⟨h1, d1, d2, d3, fun b hb z => d4 b hb (by omega), d5⟩
theorem depart_gi {G T K V : HS} {n nf f : Nat} (hg : GI G T n nf) (hf : f < nf) (h : DI G T K V f n n) (hgob : ∀ f, f < 6 → G 2 f = 0 ∨ G 2 f = 1) : GI (sf K 2 (upd (K 2) f 1)) V n nf := by
  obtain ⟨d1, d2, d3, -, d5⟩ := h
  have e2 : ∀ j, upd (K 2) f 1 j = 1 ↔ (G 2 j = 1 ∨ j = f) := by
    intro j
    rw [d5 2 (by decide)]
    by_cases e : j = f
    · rw [e, upd_e]; exact ⟨fun _ => Or.inr rfl, fun _ => rfl⟩
    · rw [upd_n e]; exact ⟨Or.inl, fun z => z.elim id (fun y => absurd y e)⟩
  refine ⟨d1, fun b hb q => ⟨?_, (d2 b hb q).2⟩, fun b hb q => ?_, fun j h1 h2 => ⟨?_, ?_⟩⟩
  · show upd (K 2) f 1 (ix (K 4 b)) = 1
    rw [e2, d5 4 (by decide)]; exact (d2 b hb q).1
  · show upd (K 2) f 1 (ix (K 4 b)) = 1
    rw [e2, d5 4 (by decide)]; exact d3 b hb q
  · show K 1 j = -1
    rw [d5 1 (by decide)]; exact (hg.fr j h1 h2).1
  · show upd (K 2) f 1 j = 0
    rw [upd_n (by omega), d5 2 (by decide)]; exact (hg.fr j h1 h2).2
theorem smis_iff {S G T : HS} {n nf b f : Nat} (ha : RA S G n nf) (hf : f < 6) (e : ix (G 4 b) = f) : mMis G T b ↔ sMis G T f b := by
  unfold mMis sMis
  rw [e]
  refine and_congr_right (fun _ => or_congr_left ?_)
  rcases ha.gob f hf with q | q
  · rw [q]; decide
  · rw [q]; decide
theorem st_5 {T V : HS} {n b : Nat} (h : ST T V n) (hb : b < n) (e : V 1 b = 5) : T 1 b = 5 := by
  by_cases q : onW T b
  · rcases (h b hb).2.2.2.2.2.2 q with z | z | z
    · rcases z with z | z <;> (rw [z] at e; exact absurd e (by decide))
    · rw [z] at e; exact absurd e (by decide)
    · rw [z] at e; exact absurd e (by decide)
  · rw [← ((h b hb).1 q).1]; exact e
theorem go_gi {G T V : HS} {n nf : Nat} (hg : GI G T n nf) (h : ST T V n) : GI G V n nf := ⟨hg.fi, fun b hb q => ⟨(hg.op b hb q).1, fun e => (hg.op b hb q).2 (st_5 h hb e)⟩, fun b hb q => hg.ld b hb (st_5 h hb q), hg.fr⟩
/-- a bag begins -/
theorem begin_1 {G T : HS} {b : Nat} : (mBegin G T b 1 b = 0 ∨ mBegin G T b 1 b = 4) ∧ (∀ i, i ≠ b → mBegin G T b 1 i = T 1 i ∧ mBegin G T b 3 i = T 3 i ∧ mBegin G T b 4 i = T 4 i) ∧ mBegin G T b 3 b = -1 ∧ mBegin G T b 4 b = 0 := by
  unfold mBegin
  by_cases q : G 5 b ≤ 7
  · rw [sel_t q]
    exact ⟨Or.inl (upd_e _ _ _), fun i hi => ⟨upd_n hi, upd_n hi, upd_n hi⟩, upd_e _ _ _, upd_e _ _ _⟩
  · rw [sel_f q]
    exact ⟨Or.inr (upd_e _ _ _), fun i hi => ⟨upd_n hi, upd_n hi, upd_n hi⟩, upd_e _ _ _, upd_e _ _ _⟩
theorem begin_ti {G T : HS} {n b : Nat} (h : TI T n) : TI (mBegin G T b) n := by
  obtain ⟨q1, q2, q3, q4⟩ := begin_1 (G := G) (T := T) (b := b)
  refine TI_one (b0 := b) h (fun i _ hi => q2 i hi) (Or.inl q3) ⟨0, by omega, q4, fun _ => by omega⟩ ?_
  rcases q1 with q | q
  · exact ⟨0, by omega, q⟩
  · exact ⟨4, by omega, q⟩
theorem begin_ti1 {G T : HS} {n : Nat} (h : TI T n) : TI (mBegin G T n) (n + 1) := by
  obtain ⟨q1, q2, q3, q4⟩ := begin_1 (G := G) (T := T) (b := n)
  have w : ∃ w, w ≤ 5 ∧ mBegin G T n 1 n = nI w := by
    rcases q1 with q | q
    · exact ⟨0, by omega, q⟩
    · exact ⟨4, by omega, q⟩
  refine ⟨fun b hb => ?_, fun b hb => ?_, fun b hb hw => ?_, fun b hb => ?_⟩
  · by_cases e : b = n
    · rw [e]; exact Or.inl q3
    · rw [(q2 b e).2.1]; exact h.rd b (by omega)
  · by_cases e : b = n
    · rw [e]; exact ⟨0, by omega, q4⟩
    · rw [(q2 b e).2.2]; exact h.ms b (by omega)
  · by_cases e : b = n
    · rw [e]; exact ⟨0, by omega, q4⟩
    · rw [(q2 b e).2.2]; exact h.on b (by omega) (by unfold onW at hw ⊢; rw [(q2 b e).1] at hw; exact hw)
  · by_cases e : b = n
    · rw [e]; exact w
    · rw [(q2 b e).1]; exact h.wh b (by omega)
theorem begin_n5 {G T : HS} {b : Nat} : ¬ mBegin G T b 1 b = 5 := by
  rcases (begin_1 (G := G) (T := T) (b := b)).1 with q | q <;> (rw [q]; decide)
/-- a new bag -/
theorem chk_gi {G T : HS} {n nf f : Nat} (hg : GI G T n nf) (z v : Int32) : GI (sf (chkG G n f z v) 0 (upd (chkG G n f z v 0) 3 (G 0 3 + 1))) (mBegin (chkG G n f z v) T n) (n + 1) nf := by
  obtain ⟨q1, q2, q3, q4⟩ := begin_1 (G := chkG G n f z v) (T := T) (b := n)
  have w7 : sf (chkG G n f z v) 0 (upd (chkG G n f z v 0) 3 (G 0 3 + 1)) 7 n = 0 := upd_e _ _ _
  refine ⟨fun b hb => ?_, fun b hb q => ?_, fun b hb q => ?_, hg.fr⟩
  · by_cases e : b = n
    · rw [e, w7]; exact Or.inl rfl
    · show upd (G 7) n 0 b = 0 ∨ upd (G 7) n 0 b = 1 ∨ upd (G 7) n 0 b = 2
      rw [upd_n e]; exact hg.fi b (by omega)
  · by_cases e : b = n
    · rw [e, w7] at q; exact absurd q (by decide)
    · have q9 : upd (G 7) n 0 b = 1 := q
      rw [upd_n e] at q9
      show G 2 (ix (upd (G 4) n (nI f) b)) = 1 ∧ ¬ mBegin (chkG G n f z v) T n 1 b = 5
      rw [upd_n e, (q2 b e).1]; exact hg.op b (by omega) q9
  · by_cases e : b = n
    · rw [e] at q; exact absurd q begin_n5
    · rw [(q2 b e).1] at q
      show G 2 (ix (upd (G 4) n (nI f) b)) = 1
      rw [upd_n e]; exact hg.ld b (by omega) q
/-- the whole state, and how it stands in the cells -/
def AS (k : Nat → ClassId) (a tr : Nat → Nat) (x q0 : Nat) (R w : va_W) : Prop := ∃ (o fa ba : Nat → Nat) (S U G T : HS) (n nf : Nat), 0 < nf ∧ RA S G n nf ∧ RB S T n ∧ TI T n ∧ GI G T n nf ∧ o 0 = q0 ∧ w = LW k a tr o fa ba x S U G T n nf (mL T n) R
