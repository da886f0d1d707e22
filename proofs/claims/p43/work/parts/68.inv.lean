/-! what a minute leaves as it was, and what it keeps -/
abbrev onW (T : HS) (b : Nat) : Prop := T 1 b = 0 ∨ T 1 b = 1
/-- what holds of each bag -/
def TI (T : HS) (n : Nat) : Prop := (∀ b, b < n → T 3 b = -1 ∨ ∃ c, c < 4 ∧ T 3 b = nI c) ∧ (∀ b, b < n → ∃ m, m ≤ 3 ∧ T 4 b = nI m) ∧ (∀ b, b < n → onW T b → ∃ m, m ≤ 2 ∧ T 4 b = nI m) ∧ (∀ b, b < n → ∃ w, w ≤ 5 ∧ T 1 b = nI w)
theorem TI.rd {T : HS} {n : Nat} (h : TI T n) : ∀ b, b < n → T 3 b = -1 ∨ ∃ c, c < 4 ∧ T 3 b = nI c := h.1
theorem TI.ms {T : HS} {n : Nat} (h : TI T n) : ∀ b, b < n → ∃ m, m ≤ 3 ∧ T 4 b = nI m := h.2.1
theorem TI.on {T : HS} {n : Nat} (h : TI T n) : ∀ b, b < n → onW T b → ∃ m, m ≤ 2 ∧ T 4 b = nI m := h.2.2.1
theorem TI.wh {T : HS} {n : Nat} (h : TI T n) : ∀ b, b < n → ∃ w, w ≤ 5 ∧ T 1 b = nI w := h.2.2.2
theorem TI_one {T V : HS} {n b0 : Nat} (h : TI T n) (ho : ∀ b, b < n → b ≠ b0 → V 1 b = T 1 b ∧ V 3 b = T 3 b ∧ V 4 b = T 4 b) (h3 : V 3 b0 = -1 ∨ ∃ c, c < 4 ∧ V 3 b0 = nI c) (h4 : ∃ m, m ≤ 3 ∧ V 4 b0 = nI m ∧ (onW V b0 → m ≤ 2)) (h1 : ∃ w, w ≤ 5 ∧ V 1 b0 = nI w) : TI V n := by
  refine ⟨fun b hb => ?_, fun b hb => ?_, fun b hb hw => ?_, fun b hb => ?_⟩
  · by_cases e : b = b0
    · rw [e]; exact h3
    · rw [(ho b hb e).2.1]; exact h.rd b hb
  · by_cases e : b = b0
    · obtain ⟨m, m1, m2, -⟩ := h4
      rw [e]; exact ⟨m, m1, m2⟩
    · rw [(ho b hb e).2.2]; exact h.ms b hb
  · by_cases e : b = b0
    · obtain ⟨m, m1, m2, m3⟩ := h4
      rw [e] at hw ⊢; exact ⟨m, m3 hw, m2⟩
    · rw [(ho b hb e).2.2]; exact h.on b hb (by unfold onW at hw ⊢; rw [(ho b hb e).1] at hw; exact hw)
  · by_cases e : b = b0
    · rw [e]; exact h1
    · rw [(ho b hb e).1]; exact h.wh b hb
theorem TI_same {T V : HS} {n : Nat} (h : TI T n) (e1 : V 1 = T 1) (e3 : V 3 = T 3) (e4 : V 4 = T 4) : TI V n := by
  unfold TI onW at h ⊢
  rw [e1, e3, e4]
  exact h
noncomputable abbrev c2 (T : HS) (n : Nat) : Nat := ct (fun b => T 1 b = 2) n
noncomputable abbrev inC (T : HS) (n c : Nat) : Nat := ct (fun b => T 1 b = 2 ∧ T 2 b = nI c) n
/-- what minutes do to each bag -/
def ST (T V : HS) (n : Nat) : Prop := ∀ b, b < n → (¬ onW T b → V 1 b = T 1 b ∧ V 2 b = T 2 b ∧ V 3 b = T 3 b ∧ V 4 b = T 4 b) ∧ (V 1 b = 0 → T 1 b = 0) ∧ (¬ T 3 b = -1 → V 3 b = T 3 b) ∧ T 4 b ≤ V 4 b ∧ (onW T b → V 1 b = 2 → V 2 b = V 3 b) ∧ (onW T b → V 1 b = 3 → V 4 b = 3) ∧ (onW T b → onW V b ∨ V 1 b = 2 ∨ V 1 b = 3)
theorem ST_refl (T : HS) (n : Nat) : ST T T n := fun b _ => ⟨fun _ => ⟨rfl, rfl, rfl, rfl⟩, id, fun _ => rfl, Int32.le_refl _, fun h e => by rcases h with q | q <;> (rw [q] at e; exact absurd e (by decide)), fun h e => by rcases h with q | q <;> (rw [q] at e; exact absurd e (by decide)), fun h => Or.inl h⟩
theorem ST_trans {T V W : HS} {n : Nat} (h : ST T V n) (g : ST V W n) : ST T W n := by
  intro b hb
  obtain ⟨a1, a2, a3, a4, a5, a6, a7⟩ := h b hb
  obtain ⟨b1, b2, b3, b4, b5, b6, b7⟩ := g b hb
  have off2 : V 1 b = 2 → ¬ onW V b := fun e z => by rcases z with q | q <;> (rw [q] at e; exact absurd e (by decide))
  have off3 : V 1 b = 3 → ¬ onW V b := fun e z => by rcases z with q | q <;> (rw [q] at e; exact absurd e (by decide))
  refine ⟨fun z => ?_, fun z => a2 (b2 z), fun z => ?_, Int32.le_trans a4 b4, fun z e => ?_, fun z e => ?_, fun z => ?_⟩
  · obtain ⟨q1, q2, q3, q4⟩ := a1 z
    have zv : ¬ onW V b := fun y => z (by unfold onW at y ⊢; rw [q1] at y; exact y)
    obtain ⟨p1, p2, p3, p4⟩ := b1 zv
    exact ⟨p1.trans q1, p2.trans q2, p3.trans q3, p4.trans q4⟩
  · have e := a3 z
    rw [b3 (by rw [e]; exact z), e]
  · rcases a7 z with q | q | q
    · exact b5 q e
    · obtain ⟨p1, p2, p3, p4⟩ := b1 (off2 q)
      rw [p2, p3]; exact a5 z q
    · obtain ⟨p1, p2, p3, p4⟩ := b1 (off3 q)
      rw [p1, q] at e; exact absurd e (by decide)
  · rcases a7 z with q | q | q
    · exact b6 q e
    · obtain ⟨p1, p2, p3, p4⟩ := b1 (off2 q)
      rw [p1, q] at e; exact absurd e (by decide)
    · obtain ⟨p1, p2, p3, p4⟩ := b1 (off3 q)
      rw [p4]; exact a6 z q
  · rcases a7 z with q | q | q
    · exact b7 q
    · rw [(b1 (off2 q)).1]; exact Or.inr (Or.inl q)
    · rw [(b1 (off3 q)).1]; exact Or.inr (Or.inr q)
theorem ST_one {T V : HS} {n b0 : Nat} (h0 : onW T b0) (ho : ∀ b, b < n → b ≠ b0 → V 1 b = T 1 b ∧ V 2 b = T 2 b ∧ V 3 b = T 3 b ∧ V 4 b = T 4 b) (z : V 1 b0 = 0 → T 1 b0 = 0) (r : ¬ T 3 b0 = -1 → V 3 b0 = T 3 b0) (m : T 4 b0 ≤ V 4 b0) (k2 : V 1 b0 = 2 → V 2 b0 = V 3 b0) (k3 : V 1 b0 = 3 → V 4 b0 = 3) (k7 : onW V b0 ∨ V 1 b0 = 2 ∨ V 1 b0 = 3) : ST T V n := by
  intro b hb
  by_cases e : b = b0
  · subst e
    exact ⟨fun q => absurd h0 q, z, r, m, fun _ => k2, fun _ => k3, fun _ => k7⟩
  · obtain ⟨p1, p2, p3, p4⟩ := ho b hb e
    refine ⟨fun _ => ⟨p1, p2, p3, p4⟩, fun q => p1.symm.trans q, fun _ => p3, by rw [p4]; exact Int32.le_refl _, fun q y => ?_, fun q y => ?_, fun q => Or.inl (by unfold onW; rw [p1]; exact q)⟩
    · rw [p1] at y; rcases q with q | q <;> (rw [q] at y; exact absurd y (by decide))
    · rw [p1] at y; rcases q with q | q <;> (rw [q] at y; exact absurd y (by decide))
def PS (G T V : HS) (n d : Nat) : Prop := ST T V n ∧ c2 V n = c2 T n + d ∧ ∀ c, c < 4 → inC T n c ≤ inC V n c ∧ (inC V n c ≤ inC T n c ∨ nI (inC V n c) ≤ G 3 c)
theorem PS_refl (G T : HS) (n : Nat) : PS G T T n 0 := ⟨ST_refl T n, rfl, fun _ _ => ⟨Nat.le_refl _, Or.inl (Nat.le_refl _)⟩⟩
theorem PS_trans {G T V W : HS} {n d e : Nat} (h : PS G T V n d) (g : PS G V W n e) : PS G T W n (d + e) := by
  refine ⟨ST_trans h.1 g.1, by rw [g.2.1, h.2.1]; omega, fun c hc => ?_⟩
  obtain ⟨a1, a2⟩ := h.2.2 c hc
  obtain ⟨b1, b2⟩ := g.2.2 c hc
  refine ⟨Nat.le_trans a1 b1, ?_⟩
  rcases b2 with q | q
  · have e : inC W n c = inC V n c := Nat.le_antisymm q b1
    rw [e]
    exact a2
  · exact Or.inr q
/-- nothing goes into a chute -/
theorem PS_none {G T V : HS} {n : Nat} (h : ST T V n) (h2 : ∀ b, b < n → V 1 b = 2 → T 1 b = 2) : PS G T V n 0 := by
  have key : ∀ b, b < n → (V 1 b = 2 ↔ T 1 b = 2) := fun b hb => ⟨h2 b hb, fun e => by
    have := (h b hb).1 (fun z => by rcases z with q | q <;> (rw [q] at e; exact absurd e (by decide)))
    rw [this.1]; exact e⟩
  refine ⟨h, ct_cong key, fun c hc => ?_⟩
  have e : inC V n c = inC T n c := ct_cong (fun b hb => by
    rw [key b hb]
    refine and_congr_right (fun e => ?_)
    have := (h b hb).1 (fun z => by rcases z with q | q <;> (rw [q] at e; exact absurd e (by decide)))
    rw [this.2.1])
  rw [e]
  exact ⟨Nat.le_refl _, Or.inl (Nat.le_refl _)⟩
theorem le_p1 {m : Nat} (h : m ≤ 3) : nI m ≤ nI m + 1 := by
  rw [nI_1]
  have : m = 0 ∨ m = 1 ∨ m = 2 ∨ m = 3 := by omega
  rcases this with e | e | e | e <;> (subst e; decide)
section INV
variable {S G T : HS} {n nf : Nat}
theorem turn_src (hb : RB S T n) {j : Nat} (hj : j < 12) : ∃ i, i < 12 ∧ (j = 0 → i = 11) ∧ (j ≠ 0 → i = j - 1) ∧ xturn 12 (T 5) j = T 5 i := by
  unfold xturn
  by_cases e : j = 0
  · exact ⟨11, by omega, fun _ => rfl, fun z => absurd e z, by rw [if_pos hj, if_pos e]⟩
  · exact ⟨j - 1, by omega, fun z => absurd z e, fun _ => rfl, by rw [if_pos hj, if_neg e]⟩
theorem turn_off (hb : RB S T n) {b : Nat} (h : b < n) (h1 : ¬ T 1 b = 1) : mTrn T 2 b = T 2 b := by
  have h40 := hb.n40
  refine atL_no (fun j hj q e => h1 ?_)
  obtain ⟨i, i1, i2, i3, i4⟩ := turn_src hb hj
  rw [i4] at q e
  obtain ⟨b2, g1, g2, g3, g4⟩ := hb.bl1 i i1 q
  rw [g2, ix_i (by omega)] at e
  rw [← e]
  exact g3
theorem mod12 : ∀ j, j < 12 → (nI j + 1) % 12 = nI ((j + 1) % 12) := by decide
theorem turn_on (hb : RB S T n) {b : Nat} (h : b < n) (h1 : T 1 b = 1) : mTrn T 2 b = (T 2 b + 1) % 12 := by
  have h40 := hb.n40
  obtain ⟨j2, q1, q2, q3⟩ := (turn_rb hb).bl2 b h h1
  obtain ⟨j, p1, p2, p3⟩ := hb.bl2 b h h1
  obtain ⟨i, i1, i2, i3, i4⟩ := turn_src hb q1
  have e : i = j := belt_one hb h p1 i1 p3 (i4.symm.trans q3)
  rw [q2, p2, mod12 j p1]
  congr 1
  by_cases z : j2 = 0
  · have := i2 z; omega
  · have := i3 z; omega
theorem turn_ps (hb : RB S T n) : PS G T (mTrn T) n 0 := by
  refine PS_none (fun b h => ⟨fun z => ⟨rfl, turn_off hb h (fun e => z (Or.inr e)), rfl, rfl⟩, id, fun _ => rfl, Int32.le_refl _, fun z e => ?_, fun z e => ?_, fun z => Or.inl z⟩) (fun _ _ e => e)
  · have e : T 1 b = 2 := e
    rcases z with q | q <;> (rw [q] at e; exact absurd e (by decide))
  · have e : T 1 b = 3 := e
    rcases z with q | q <;> (rw [q] at e; exact absurd e (by decide))
theorem turn_ti (h : TI T n) : TI (mTrn T) n := TI_same h rfl rfl rfl
theorem miss_three {m : Nat} (h : m ≤ 2) : 3 ≤ nI m + 1 ↔ m = 2 := by
  have : m = 0 ∨ m = 1 ∨ m = 2 := by omega
  rcases this with e | e | e <;> (subst e; decide)
/-- the reader -/
theorem tag_ps (ha : RA S G n nf) (hb : RB S T n) (ht : TI T n) : PS G T (mTag G T) n 0 ∧ TI (mTag G T) n := by
  have h40 := hb.n40
  unfold mTag
  by_cases q : T 5 2 = -1
  · rw [sel_t q]
    exact ⟨PS_refl G T n, ht⟩
  · obtain ⟨b, h, b40, e5, e12, ei, e1⟩ := read_bag hb q
    obtain ⟨f, g1, g2, g3, g4, g5⟩ := flight_of ha h
    rw [sel_f q, ei, g5]
    obtain ⟨m, m1, m2⟩ := ht.on b h (Or.inr e1)
    by_cases q2 : T 3 b = -1
    · rw [sel_t q2]
      by_cases q3 : ¬ G 0 2 < G 6 b ∧ ¬ G 1 f = -1
      · rw [sel_t q3]
        have ho : ∀ i, i < n → i ≠ b → sf T 3 (upd (T 3) b (G 1 f)) 1 i = T 1 i ∧ sf T 3 (upd (T 3) b (G 1 f)) 2 i = T 2 i ∧ sf T 3 (upd (T 3) b (G 1 f)) 3 i = T 3 i ∧ sf T 3 (upd (T 3) b (G 1 f)) 4 i = T 4 i := fun i _ hi => ⟨rfl, rfl, upd_n hi, rfl⟩
        obtain ⟨c, hc, ec⟩ := ha.chr f g2 q3.2
        refine ⟨PS_none (ST_one (b0 := b) (Or.inr e1) ho (fun z => z) (fun z => absurd q2 z) (Int32.le_refl _) (fun z => ?_) (fun z => ?_) (Or.inl (Or.inr e1))) (fun _ _ z => z), TI_one (b0 := b) ht (fun i h1 h2 => ⟨rfl, upd_n h2, rfl⟩) (Or.inr ⟨c, hc, (upd_e _ _ _).trans ec⟩) ⟨m, by omega, m2, fun _ => m1⟩ (ht.wh b h)⟩
        · have z : T 1 b = 2 := z
          rw [e1] at z; exact absurd z (by decide)
        · have z : T 1 b = 3 := z
          rw [e1] at z; exact absurd z (by decide)
      · rw [sel_f q3]
        unfold mMiss
        have e4 : T 4 b + 1 = nI (m + 1) := by rw [m2]; exact nI_1 m
        by_cases q4 : 3 ≤ T 4 b + 1
        · have em : m = 2 := (miss_three m1).mp (by rw [← m2]; exact q4)
          rw [sel_t q4]
          have ho : ∀ i, i < n → i ≠ b → mPutB (sf (sf T 4 (upd (T 4) b (T 4 b + 1))) 5 (upd (T 5) 2 (-1))) b 3 (-1) 1 i = T 1 i ∧ mPutB (sf (sf T 4 (upd (T 4) b (T 4 b + 1))) 5 (upd (T 5) 2 (-1))) b 3 (-1) 2 i = T 2 i ∧ mPutB (sf (sf T 4 (upd (T 4) b (T 4 b + 1))) 5 (upd (T 5) 2 (-1))) b 3 (-1) 3 i = T 3 i ∧ mPutB (sf (sf T 4 (upd (T 4) b (T 4 b + 1))) 5 (upd (T 5) 2 (-1))) b 3 (-1) 4 i = T 4 i := fun i _ hi => ⟨upd_n hi, upd_n hi, rfl, upd_n hi⟩
          have w1 : mPutB (sf (sf T 4 (upd (T 4) b (T 4 b + 1))) 5 (upd (T 5) 2 (-1))) b 3 (-1) 1 b = 3 := upd_e _ _ _
          have w4 : mPutB (sf (sf T 4 (upd (T 4) b (T 4 b + 1))) 5 (upd (T 5) 2 (-1))) b 3 (-1) 4 b = nI 3 := (upd_e _ _ _).trans (by rw [e4, em])
          refine ⟨PS_none (ST_one (b0 := b) (Or.inr e1) ho (fun z => ?_) (fun z => absurd q2 z) ?_ (fun z => ?_) (fun _ => w4) (Or.inr (Or.inr w1))) (fun i hi z => ?_), TI_one (b0 := b) ht (fun i h1 h2 => ⟨(ho i h1 h2).1, rfl, (ho i h1 h2).2.2.2⟩) (Or.inl q2) ⟨3, by omega, w4, fun z => ?_⟩ ⟨3, by omega, w1⟩⟩
          · rw [w1] at z; exact absurd z (by decide)
          · rw [w4, m2, em]; decide
          · rw [w1] at z; exact absurd z (by decide)
          · by_cases hi2 : i = b
            · rw [hi2, w1] at z; exact absurd z (by decide)
            · rw [(ho i hi hi2).1] at z; exact z
          · unfold onW at z
            rw [w1] at z
            rcases z with z | z <;> exact absurd z (by decide)
        · have em : m ≠ 2 := fun z => q4 (by rw [m2]; exact (miss_three m1).mpr z)
          rw [sel_f q4]
          have ho : ∀ i, i < n → i ≠ b → sf T 4 (upd (T 4) b (T 4 b + 1)) 1 i = T 1 i ∧ sf T 4 (upd (T 4) b (T 4 b + 1)) 2 i = T 2 i ∧ sf T 4 (upd (T 4) b (T 4 b + 1)) 3 i = T 3 i ∧ sf T 4 (upd (T 4) b (T 4 b + 1)) 4 i = T 4 i := fun i _ hi => ⟨rfl, rfl, rfl, upd_n hi⟩
          have w4 : sf T 4 (upd (T 4) b (T 4 b + 1)) 4 b = T 4 b + 1 := upd_e _ _ _
          refine ⟨PS_none (ST_one (b0 := b) (Or.inr e1) ho (fun z => z) (fun z => rfl) ?_ (fun z => ?_) (fun z => ?_) (Or.inl (Or.inr e1))) (fun _ _ z => z), TI_one (b0 := b) ht (fun i h1 h2 => ⟨rfl, rfl, upd_n h2⟩) (ht.rd b h) ⟨m + 1, by omega, w4.trans e4, fun _ => by omega⟩ (ht.wh b h)⟩
          · rw [w4, m2]; exact le_p1 (by omega)
          · have z : T 1 b = 2 := z
            rw [e1] at z; exact absurd z (by decide)
          · have z : T 1 b = 3 := z
            rw [e1] at z; exact absurd z (by decide)
    · rw [sel_f q2]
      exact ⟨PS_refl G T n, ht⟩
/-- one chute -/
theorem slide_ps (hb : RB S T n) (ht : TI T n) {c : Nat} (hc : c < 4) : PS G T (mSlT G T c) n (bN (mSlP G T c)) ∧ TI (mSlT G T c) n := by
  have h40 := hb.n40
  have hp : 4 + 2 * c < 12 := by omega
  unfold mSlT
  by_cases q1 : mSlP G T c
  · rw [sel_t q1, bN_t q1]
    obtain ⟨b, h, e5, e1, e2⟩ := hb.bl1 _ hp q1.1
    have ei : ix (T 5 (4 + 2 * c)) = b := by rw [e5, ix_i (by omega)]
    have q2 := q1.2.1
    have q3 := q1.2.2
    rw [ei] at q2 ⊢
    obtain ⟨m, m1, m2⟩ := ht.on b h (Or.inr e1)
    have ho : ∀ i, i < n → i ≠ b → mToCh (sf T 5 (upd (T 5) (4 + 2 * c) (-1))) b c 1 i = T 1 i ∧ mToCh (sf T 5 (upd (T 5) (4 + 2 * c) (-1))) b c 2 i = T 2 i ∧ mToCh (sf T 5 (upd (T 5) (4 + 2 * c) (-1))) b c 3 i = T 3 i ∧ mToCh (sf T 5 (upd (T 5) (4 + 2 * c) (-1))) b c 4 i = T 4 i := fun i _ hi => ⟨upd_n hi, upd_n hi, rfl, rfl⟩
    have w1 : mToCh (sf T 5 (upd (T 5) (4 + 2 * c) (-1))) b c 1 b = 2 := upd_e _ _ _
    have w2 : mToCh (sf T 5 (upd (T 5) (4 + 2 * c) (-1))) b c 2 b = nI c := upd_e _ _ _
    have n2 : ¬ T 1 b = 2 := by rw [e1]; decide
    refine ⟨⟨ST_one (b0 := b) (Or.inr e1) ho (fun z => ?_) (fun z => rfl) (Int32.le_refl _) (fun _ => w2.trans q2.symm) (fun z => ?_) (Or.inr (Or.inl w1)), ?_, fun c9 hc9 => ?_⟩, TI_one (b0 := b) ht (fun i h1 h2 => ⟨(ho i h1 h2).1, rfl, rfl⟩) (ht.rd b h) ⟨m, by omega, m2, fun _ => m1⟩ ⟨2, by omega, w1⟩⟩
    · rw [w1] at z; exact absurd z (by decide)
    · rw [w1] at z; exact absurd z (by decide)
    · have h9 := ct_one (p := fun i => mToCh (sf T 5 (upd (T 5) (4 + 2 * c) (-1))) b c 1 i = 2) (q := fun i => T 1 i = 2) h (fun i hi hi2 => by rw [(ho i hi hi2).1])
      rw [bN_t (show mToCh (sf T 5 (upd (T 5) (4 + 2 * c) (-1))) b c 1 b = 2 from w1), bN_f (show ¬ T 1 b = 2 from n2)] at h9
      exact h9
    · have h9 := ct_one (p := fun i => mToCh (sf T 5 (upd (T 5) (4 + 2 * c) (-1))) b c 1 i = 2 ∧ mToCh (sf T 5 (upd (T 5) (4 + 2 * c) (-1))) b c 2 i = nI c9) (q := fun i => T 1 i = 2 ∧ T 2 i = nI c9) h (fun i hi hi2 => by rw [(ho i hi hi2).1, (ho i hi hi2).2.1])
      rw [bN_f (show ¬ (T 1 b = 2 ∧ T 2 b = nI c9) from fun z => n2 z.1)] at h9
      by_cases ec : c9 = c
      · subst ec
        rw [bN_t (show mToCh (sf T 5 (upd (T 5) (4 + 2 * c9) (-1))) b c9 1 b = 2 ∧ mToCh (sf T 5 (upd (T 5) (4 + 2 * c9) (-1))) b c9 2 b = nI c9 from ⟨w1, w2⟩)] at h9
        refine ⟨by show ct _ n ≤ ct _ n; omega, Or.inr ?_⟩
        have e9 : inC (mToCh (sf T 5 (upd (T 5) (4 + 2 * c9) (-1))) b c9) n c9 = inC T n c9 + 1 := h9
        rw [e9]
        rw [hb.inn c9 hc] at q3
        have l40 : inC T n c9 ≤ n := ct_le _ n
        have q4 : nI (inC T n c9) < G 3 c9 := q3
        rw [Int32.le_iff_toInt_le, nI_toInt (by omega)]
        rw [Int32.lt_iff_toInt_lt, nI_toInt (by omega)] at q4
        omega
      · rw [bN_f (show ¬ (mToCh (sf T 5 (upd (T 5) (4 + 2 * c) (-1))) b c 1 b = 2 ∧ mToCh (sf T 5 (upd (T 5) (4 + 2 * c) (-1))) b c 2 b = nI c9) from fun z => ec (nI_inj (by omega) (by omega) (z.2.symm.trans w2)))] at h9
        have e9 : inC (mToCh (sf T 5 (upd (T 5) (4 + 2 * c) (-1))) b c) n c9 = inC T n c9 := h9
        rw [e9]
        exact ⟨Nat.le_refl _, Or.inl (Nat.le_refl _)⟩
  · rw [sel_f q1, bN_f q1]
    exact ⟨PS_refl G T n, ht⟩
theorem fill_ps (ha : RA S G n nf) (hb : RB S T n) (ht : TI T n) : ∀ i, i ≤ 4 → PS G T (mSl G T i).2 n (mSl G T i).1 ∧ TI (mSl G T i).2 n
  | 0, _ => ⟨PS_refl G T n, ht⟩
  | i + 1, hi => by
    obtain ⟨h1, h2⟩ := fill_ps ha hb ht i (by omega)
    obtain ⟨g1, g2⟩ := slide_ps (G := G) (fill_rel ha hb i (by omega)).2.1 h2 (c := i) (by omega)
    exact ⟨PS_trans h1 g1, g2⟩
/-- the first in line -/
theorem feed_ps (hb : RB S T n) (ht : TI T n) : PS G T (mFeed T) n 0 ∧ TI (mFeed T) n := by
  have h40 := hb.n40
  unfold mFeed
  by_cases q : T 5 0 = -1 ∧ 0 < T 0 1
  · rw [sel_t q]
    have hL : 0 < mL T n := by
      rcases Nat.eq_zero_or_pos (mL T n) with z | z
      · have := q.2
        rw [hb.len, z] at this
        exact absurd this (by decide)
      · exact z
    obtain ⟨-, b, h, e6, e1⟩ := hb.lns 0 hL
    have ei : ix (T 6 0) = b := by rw [e6, ix_i (by omega)]
    rw [ei]
    obtain ⟨m, m1, m2⟩ := ht.on b h (Or.inl e1)
    have w1 : mPutB (sf (mFirst T) 5 (upd (T 5) 0 (nI b))) b 1 0 1 b = 1 := upd_e _ _ _
    have ho : ∀ i, i < n → i ≠ b → mPutB (sf (mFirst T) 5 (upd (T 5) 0 (nI b))) b 1 0 1 i = T 1 i ∧ mPutB (sf (mFirst T) 5 (upd (T 5) 0 (nI b))) b 1 0 2 i = T 2 i ∧ mPutB (sf (mFirst T) 5 (upd (T 5) 0 (nI b))) b 1 0 3 i = T 3 i ∧ mPutB (sf (mFirst T) 5 (upd (T 5) 0 (nI b))) b 1 0 4 i = T 4 i := fun i _ hi => ⟨upd_n hi, upd_n hi, rfl, rfl⟩
    refine ⟨PS_none (ST_one (b0 := b) (Or.inl e1) ho (fun z => ?_) (fun z => rfl) (Int32.le_refl _) (fun z => ?_) (fun z => ?_) (Or.inl (Or.inr w1))) (fun i hi z => ?_), TI_one (b0 := b) ht (fun i h1 h2 => ⟨(ho i h1 h2).1, rfl, rfl⟩) (ht.rd b h) ⟨m, by omega, m2, fun _ => m1⟩ ⟨1, by omega, w1⟩⟩
    · rw [w1] at z; exact absurd z (by decide)
    · rw [w1] at z; exact absurd z (by decide)
    · rw [w1] at z; exact absurd z (by decide)
    · by_cases hi2 : i = b
      · rw [hi2, w1] at z; exact absurd z (by decide)
      · rw [(ho i hi hi2).1] at z; exact z
  · rw [sel_f q]
    exact ⟨PS_refl G T n, ht⟩
theorem min_ps (ha : RA S G n nf) (hb : RB S T n) (ht : TI T n) : PS G T (mMin G T).2 n (mMin G T).1 ∧ TI (mMin G T).2 n := by
  have a1 : RA (xTrn S) G n nf := RA_same ha rfl rfl rfl rfl rfl rfl rfl rfl rfl rfl
  have b1 := turn_rb hb
  obtain ⟨p2, t2⟩ := tag_ps a1 b1 (turn_ti ht)
  have b2 := tag_rb a1 b1
  obtain ⟨p3, t3⟩ := fill_ps (tag_ra a1) b2 t2 4 (Nat.le_refl 4)
  have b3 := (fill_rel (tag_ra a1) b2 4 (Nat.le_refl 4)).2.1
  obtain ⟨p4, t4⟩ := feed_ps (G := G) b3 t3
  have h9 := PS_trans (PS_trans (PS_trans (turn_ps hb) p2) p3) p4
  rw [show 0 + 0 + (mSl G (mTag G (mTrn T)) 4).1 + 0 = (mMin G T).1 by show _ = (mSl G (mTag G (mTrn T)) 4).1; omega] at h9
  exact ⟨h9, TI_same t4 rfl rfl rfl⟩
theorem go_ps (ha : RA S G n nf) (hb : RB S T n) (ht : TI T n) : ∀ i, ∃ d, PS G T (mGo G T i).2 n d ∧ TI (mGo G T i).2 n ∧ (mGo G T i).1 = nI d
  | 0 => ⟨0, PS_refl G T n, ht, rfl⟩
  | i + 1 => by
    obtain ⟨d, h1, h2, h3⟩ := go_ps ha hb ht i
    obtain ⟨g1, g2, -⟩ := go_rel ha hb i
    obtain ⟨p1, p2⟩ := min_ps g1 g2 h2
    refine ⟨d + (mMin G (mGo G T i).2).1, PS_trans h1 p1, p2, ?_⟩
    show (mGo G T i).1 + nI (mMin G (mGo G T i).2).1 = _
    rw [h3, nI_add]
theorem un_go : ∀ i, mUn G T i = (mGo G T i).2
  | 0 => rfl
  | i + 1 => by
    show (mMin G (mUn G T i)).2 = (mMin G (mGo G T i).2).2
    rw [un_go i]
end INV
