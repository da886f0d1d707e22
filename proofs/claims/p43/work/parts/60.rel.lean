/-! both sides: how the carousel's hall (S) stands to the reference (G, T) -/
theorem ct_cut {p : Nat → Prop} {n N : Nat} (h : n ≤ N) (hf : ∀ j, n ≤ j → j < N → ¬ p j) : ct p N = ct p n := by
  induction N with
  | zero => rw [Nat.le_zero.mp h]
  | succ N ih =>
    rcases Nat.lt_or_ge N n with q | q
    · rw [show n = N + 1 by omega]
    · rw [ct_f (hf N q (Nat.lt_succ_self N)), ih q (fun j h1 h2 => hf j h1 (by omega))]
theorem sm_cut {f : Nat → Int32} {n N : Nat} (h : n ≤ N) (hf : ∀ j, n ≤ j → j < N → f j = 0) : sm f N = sm f n := by
  induction N with
  | zero => rw [Nat.le_zero.mp h]
  | succ N ih =>
    rcases Nat.lt_or_ge N n with q | q
    · rw [show n = N + 1 by omega]
    · show sm f N + f N = sm f n
      rw [hf N q (Nat.lt_succ_self N), ih q (fun j h1 h2 => hf j h1 (by omega)), Int32.add_zero]
theorem sm_cong {f g : Nat → Int32} : ∀ {n : Nat}, (∀ j, j < n → f j = g j) → sm f n = sm g n
  | 0, _ => rfl
  | n + 1, h => by
    show sm f n + f n = sm g n + g n
    rw [sm_cong (fun j hj => h j (Nat.lt_succ_of_lt hj)), h n (Nat.lt_succ_self n)]
theorem bN_t {P : Prop} (h : P) : bN P = 1 := sel_t h _ _
theorem bN_f {P : Prop} (h : ¬ P) : bN P = 0 := sel_f h _ _
theorem ct_one {p q : Nat → Prop} {b n : Nat} (hb : b < n) (h : ∀ j, j < n → j ≠ b → (p j ↔ q j)) : ct p n + bN (q b) = ct q n + bN (p b) := by
  induction n with
  | zero => exact absurd hb (Nat.not_lt_zero b)
  | succ n ih =>
    show ct p n + bN (p n) + bN (q b) = ct q n + bN (q n) + bN (p b)
    rcases Nat.lt_or_ge b n with hlt | hge
    · have i1 := ih hlt (fun j hj => h j (by omega))
      rw [propext (h n (by omega) (by omega))]
      omega
    · have e : b = n := by omega
      subst e
      rw [ct_cong (p := p) (q := q) (fun j hj => h j (by omega) (by omega))]
      omega
theorem ct_lt {p : Nat → Prop} {b n : Nat} (hb : b < n) (hp : ¬ p b) : ct p n < n := by
  have h := ct_one (p := p) (q := fun j => p j ∨ j = b) hb (fun j _ hj => ⟨Or.inl, fun h => h.elim id (fun e => absurd e hj)⟩)
  rw [bN_t (show (p b ∨ b = b) from Or.inr rfl), bN_f hp] at h
  have := ct_le (fun j => p j ∨ j = b) n
  omega
theorem ct_pos {p : Nat → Prop} {b n : Nat} (hb : b < n) (hp : p b) : 0 < ct p n := by
  have h := ct_one (p := p) (q := fun j => p j ∧ j ≠ b) hb (fun j _ hj => ⟨fun z => ⟨z, hj⟩, And.left⟩)
  rw [bN_t hp, bN_f (show ¬ (p b ∧ b ≠ b) from fun z => z.2 rfl)] at h
  omega
theorem ct_none {p : Nat → Prop} {n : Nat} (h : ∀ j, j < n → ¬ p j) : ct p n = 0 := (ct_cut (n := 0) (Nat.zero_le n) (fun j _ hj => h j hj)).trans rfl
theorem nI_neg {b : Nat} (h : b < 2 ^ 31) : ¬ nI b = -1 := fun e => nI_pos h (by rw [e]; decide)
theorem nI_inj {a b : Nat} (ha : a < 2 ^ 31) (hb : b < 2 ^ 31) (h : nI a = nI b) : a = b := (nI_eq ha hb).mp h
/-- what no minute changes -/
abbrev RA (S G : HS) (n nf : Nat) : Prop := (n ≤ 40) ∧ (nf ≤ 6) ∧ (S 0 4 = nI n) ∧ (G 0 3 = nI n) ∧ (S 0 3 = nI nf) ∧ (G 0 1 = nI nf) ∧ (S 0 1 = G 0 2) ∧ (∀ f, f < 6 → S 1 f = G 1 f) ∧ (∀ f, f < 6 → ¬ G 1 f = -1 → ∃ c, c < 4 ∧ G 1 f = nI c) ∧ (∀ f, f < 6 → S 2 f = G 2 f) ∧ (∀ f, f < 6 → G 2 f = 0 ∨ G 2 f = 1) ∧ (∀ c, c < 4 → S 11 c = G 3 c) ∧ (∀ b, b < n → S 3 b = G 4 b ∧ ∃ f, f < nf ∧ G 4 b = nI f) ∧ (∀ b, b < 40 → ∃ f, f < 6 ∧ G 4 b = nI f) ∧ (∀ b, b < n → S 4 b = G 5 b) ∧ (∀ b, b < n → S 5 b = G 6 b) ∧ (∀ b, b < n → S 10 b = G 7 b) ∧ (∀ b, n ≤ b → b < 40 → S 3 b = -1 ∧ S 10 b = 0)
theorem RA.n40 {S G : HS} {n nf : Nat} (h : RA S G n nf) : n ≤ 40 := h.1
theorem RA.nf6 {S G : HS} {n nf : Nat} (h : RA S G n nf) : nf ≤ 6 := h.2.1
theorem RA.sn {S G : HS} {n nf : Nat} (h : RA S G n nf) : S 0 4 = nI n := h.2.2.1
theorem RA.gn {S G : HS} {n nf : Nat} (h : RA S G n nf) : G 0 3 = nI n := h.2.2.2.1
theorem RA.sf_ {S G : HS} {n nf : Nat} (h : RA S G n nf) : S 0 3 = nI nf := h.2.2.2.2.1
theorem RA.gf_ {S G : HS} {n nf : Nat} (h : RA S G n nf) : G 0 1 = nI nf := h.2.2.2.2.2.1
theorem RA.str {S G : HS} {n nf : Nat} (h : RA S G n nf) : S 0 1 = G 0 2 := h.2.2.2.2.2.2.1
theorem RA.chu {S G : HS} {n nf : Nat} (h : RA S G n nf) : ∀ f, f < 6 → S 1 f = G 1 f := h.2.2.2.2.2.2.2.1
theorem RA.chr {S G : HS} {n nf : Nat} (h : RA S G n nf) : ∀ f, f < 6 → ¬ G 1 f = -1 → ∃ c, c < 4 ∧ G 1 f = nI c := h.2.2.2.2.2.2.2.2.1
theorem RA.gon {S G : HS} {n nf : Nat} (h : RA S G n nf) : ∀ f, f < 6 → S 2 f = G 2 f := h.2.2.2.2.2.2.2.2.2.1
theorem RA.gob {S G : HS} {n nf : Nat} (h : RA S G n nf) : ∀ f, f < 6 → G 2 f = 0 ∨ G 2 f = 1 := h.2.2.2.2.2.2.2.2.2.2.1
theorem RA.roo {S G : HS} {n nf : Nat} (h : RA S G n nf) : ∀ c, c < 4 → S 11 c = G 3 c := h.2.2.2.2.2.2.2.2.2.2.2.1
theorem RA.fli {S G : HS} {n nf : Nat} (h : RA S G n nf) : ∀ b, b < n → S 3 b = G 4 b ∧ ∃ f, f < nf ∧ G 4 b = nI f := h.2.2.2.2.2.2.2.2.2.2.2.2.1
theorem RA.fl6 {S G : HS} {n nf : Nat} (h : RA S G n nf) : ∀ b, b < 40 → ∃ f, f < 6 ∧ G 4 b = nI f := h.2.2.2.2.2.2.2.2.2.2.2.2.2.1
theorem RA.siz {S G : HS} {n nf : Nat} (h : RA S G n nf) : ∀ b, b < n → S 4 b = G 5 b := h.2.2.2.2.2.2.2.2.2.2.2.2.2.2.1
theorem RA.smu {S G : HS} {n nf : Nat} (h : RA S G n nf) : ∀ b, b < n → S 5 b = G 6 b := h.2.2.2.2.2.2.2.2.2.2.2.2.2.2.2.1
theorem RA.fil {S G : HS} {n nf : Nat} (h : RA S G n nf) : ∀ b, b < n → S 10 b = G 7 b := h.2.2.2.2.2.2.2.2.2.2.2.2.2.2.2.2.1
theorem RA.oua {S G : HS} {n nf : Nat} (h : RA S G n nf) : ∀ b, n ≤ b → b < 40 → S 3 b = -1 ∧ S 10 b = 0 := h.2.2.2.2.2.2.2.2.2.2.2.2.2.2.2.2.2
/-- how many stand in the line -/
noncomputable abbrev mL (T : HS) (n : Nat) : Nat := ct (fun b => T 1 b = 0) n
/-- what a minute may change -/
abbrev RB (S T : HS) (n : Nat) : Prop := (n ≤ 40) ∧ (S 0 0 = T 0 0) ∧ (S 0 2 = T 0 1) ∧ (T 0 1 = nI (mL T n)) ∧ (∀ b, b < n → S 6 b = T 1 b) ∧ (∀ b, b < n → S 8 b = T 3 b) ∧ (∀ b, b < n → S 9 b = T 4 b) ∧ (∀ b, b < n → T 1 b = 2 → S 7 b = T 2 b ∧ ∃ c, c < 4 ∧ T 2 b = nI c) ∧ (∀ b, b < n → ¬ T 1 b = 2 → S 7 b = -1) ∧ (∀ b, n ≤ b → b < 40 → S 6 b = -1 ∧ S 7 b = -1 ∧ S 8 b = -1 ∧ S 9 b = 0 ∧ T 1 b = 0) ∧ (∀ c, c < 4 → T 7 c = nI (ct (fun b => T 1 b = 2 ∧ T 2 b = nI c) n)) ∧ (∀ j, j < 12 → S 12 j = T 5 j) ∧ (∀ j, j < 12 → ¬ T 5 j = -1 → ∃ b, b < n ∧ T 5 j = nI b ∧ T 1 b = 1 ∧ T 2 b = nI j) ∧ (∀ b, b < n → T 1 b = 1 → ∃ j, j < 12 ∧ T 2 b = nI j ∧ T 5 j = nI b) ∧ (∀ j, j < mL T n → S 13 j = T 6 j ∧ ∃ b, b < n ∧ T 6 j = nI b ∧ T 1 b = 0) ∧ (∀ i j, i < mL T n → j < mL T n → T 6 i = T 6 j → i = j)
theorem RB.n40 {S T : HS} {n : Nat} (h : RB S T n) : n ≤ 40 := h.1
theorem RB.mnt {S T : HS} {n : Nat} (h : RB S T n) : S 0 0 = T 0 0 := h.2.1
theorem RB.lin {S T : HS} {n : Nat} (h : RB S T n) : S 0 2 = T 0 1 := h.2.2.1
theorem RB.len {S T : HS} {n : Nat} (h : RB S T n) : T 0 1 = nI (mL T n) := h.2.2.2.1
theorem RB.whr {S T : HS} {n : Nat} (h : RB S T n) : ∀ b, b < n → S 6 b = T 1 b := h.2.2.2.2.1
theorem RB.rdd {S T : HS} {n : Nat} (h : RB S T n) : ∀ b, b < n → S 8 b = T 3 b := h.2.2.2.2.2.1
theorem RB.mis {S T : HS} {n : Nat} (h : RB S T n) : ∀ b, b < n → S 9 b = T 4 b := h.2.2.2.2.2.2.1
theorem RB.cin {S T : HS} {n : Nat} (h : RB S T n) : ∀ b, b < n → T 1 b = 2 → S 7 b = T 2 b ∧ ∃ c, c < 4 ∧ T 2 b = nI c := h.2.2.2.2.2.2.2.1
theorem RB.cno {S T : HS} {n : Nat} (h : RB S T n) : ∀ b, b < n → ¬ T 1 b = 2 → S 7 b = -1 := h.2.2.2.2.2.2.2.2.1
theorem RB.out {S T : HS} {n : Nat} (h : RB S T n) : ∀ b, n ≤ b → b < 40 → S 6 b = -1 ∧ S 7 b = -1 ∧ S 8 b = -1 ∧ S 9 b = 0 ∧ T 1 b = 0 := h.2.2.2.2.2.2.2.2.2.1
theorem RB.inn {S T : HS} {n : Nat} (h : RB S T n) : ∀ c, c < 4 → T 7 c = nI (ct (fun b => T 1 b = 2 ∧ T 2 b = nI c) n) := h.2.2.2.2.2.2.2.2.2.2.1
theorem RB.bel {S T : HS} {n : Nat} (h : RB S T n) : ∀ j, j < 12 → S 12 j = T 5 j := h.2.2.2.2.2.2.2.2.2.2.2.1
theorem RB.bl1 {S T : HS} {n : Nat} (h : RB S T n) : ∀ j, j < 12 → ¬ T 5 j = -1 → ∃ b, b < n ∧ T 5 j = nI b ∧ T 1 b = 1 ∧ T 2 b = nI j := h.2.2.2.2.2.2.2.2.2.2.2.2.1
theorem RB.bl2 {S T : HS} {n : Nat} (h : RB S T n) : ∀ b, b < n → T 1 b = 1 → ∃ j, j < 12 ∧ T 2 b = nI j ∧ T 5 j = nI b := h.2.2.2.2.2.2.2.2.2.2.2.2.2.1
theorem RB.lns {S T : HS} {n : Nat} (h : RB S T n) : ∀ j, j < mL T n → S 13 j = T 6 j ∧ ∃ b, b < n ∧ T 6 j = nI b ∧ T 1 b = 0 := h.2.2.2.2.2.2.2.2.2.2.2.2.2.2.1
theorem RB.lnd {S T : HS} {n : Nat} (h : RB S T n) : ∀ i j, i < mL T n → j < mL T n → T 6 i = T 6 j → i = j := h.2.2.2.2.2.2.2.2.2.2.2.2.2.2.2
theorem ix_i {j : Nat} (h : j < 2 ^ 31) : ix (nI j) = j := nI_clamp h
theorem RB.okB {S T : HS} {n : Nat} (h : RB S T n) : okB (T 5) := fun j hj h1 => by
  obtain ⟨b, hb, e, -⟩ := h.bl1 j hj h1
  have := h.n40
  rw [e, ix_i (by omega)]
  exact ⟨rfl, by omega⟩
theorem RB.okL {S T : HS} {n : Nat} (h : RB S T n) : okL T := by
  have h4 := h.n40
  have hl : mL T n ≤ n := ct_le _ n
  have e : ix (T 0 1) = mL T n := by rw [h.len]; exact ix_i (by omega)
  refine ⟨by rw [e]; exact h.len, by rw [e]; omega, fun hp => ?_⟩
  rw [e]
  have h0 : 0 < mL T n := by
    rcases Nat.eq_zero_or_pos (mL T n) with q | q
    · rw [h.len, q] at hp
      exact absurd hp (by decide)
    · exact q
  obtain ⟨-, b, hb, e2, -⟩ := h.lns 0 h0
  rw [e2, ix_i (by omega)]
  exact ⟨h0, rfl, by omega⟩
theorem RB.okA {S T : HS} {n : Nat} (h : RB S T n) : okA T := fun b hb h2 => by
  rcases Nat.lt_or_ge b n with q | q
  · obtain ⟨-, c, hc, e⟩ := h.cin b q h2
    rw [e, ix_i (by omega)]
    exact ⟨rfl, hc⟩
  · rw [(h.out b q hb).2.2.2.2] at h2
    exact absurd h2 (by decide)
theorem RA.okF {S G : HS} {n nf : Nat} (h : RA S G n nf) : okF G := fun b hb => by
  obtain ⟨f, hf, e⟩ := h.fl6 b hb
  rw [e, ix_i (by omega)]
  exact ⟨rfl, hf⟩
theorem RA.okC {S G : HS} {n nf : Nat} (h : RA S G n nf) : okC G := fun f hf h1 => by
  obtain ⟨c, hc, e⟩ := h.chr f hf h1
  rw [e, ix_i (by omega)]
  exact ⟨rfl, hc⟩
theorem rd_40 {f : Nat → Int32} {b : Nat} (h : b < 40) : rd 40 f (nI b) = f b := rd_n h (by decide)
theorem rd_6 {f : Nat → Int32} {b : Nat} (h : b < 6) : rd 6 f (nI b) = f b := rd_n h (by decide)
theorem rd_4 {f : Nat → Int32} {b : Nat} (h : b < 4) : rd 4 f (nI b) = f b := rd_n h (by decide)
theorem rd_12 {f : Nat → Int32} {b : Nat} (h : b < 12) : rd 12 f (nI b) = f b := rd_n h (by decide)
theorem wr_40 {f : Nat → Int32} {b : Nat} {v : Int32} (h : b < 40) : wr 40 f (nI b) v = upd f b v := wr_n h (by decide)
theorem wr_6 {f : Nat → Int32} {b : Nat} {v : Int32} (h : b < 6) : wr 6 f (nI b) v = upd f b v := wr_n h (by decide)
theorem wr_4 {f : Nat → Int32} {b : Nat} {v : Int32} (h : b < 4) : wr 4 f (nI b) v = upd f b v := wr_n h (by decide)
section REL
variable {S G T : HS} {n nf : Nat}
/-- the flight of a bag -/
theorem flight_of (ha : RA S G n nf) {b : Nat} (hb : b < n) : ∃ f, f < nf ∧ f < 6 ∧ G 4 b = nI f ∧ S 3 b = nI f ∧ ix (G 4 b) = f := by
  obtain ⟨e, f, hf, e2⟩ := ha.fli b hb
  have := ha.nf6
  exact ⟨f, hf, by omega, e2, e.trans e2, by rw [e2, ix_i (by omega)]⟩
theorem own_iff (ha : RA S G n nf) (hb : RB S T n) {b : Nat} (h : b < n) : xOwn S (nI b) ↔ mOwn G T b := by
  have := hb.n40
  obtain ⟨f, h1, h2, h3, h4, h5⟩ := flight_of ha h
  unfold xOwn mOwn
  rw [rd_40 (by omega), rd_40 (by omega), rd_40 (by omega), h4, rd_6 h2, h5, hb.whr b h, ha.chu f h2]
  constructor
  · rintro ⟨q1, q2⟩
    exact ⟨q1, by rw [← (hb.cin b h q1).1]; exact q2⟩
  · rintro ⟨q1, q2⟩
    exact ⟨q1, by rw [(hb.cin b h q1).1]; exact q2⟩
theorem gone_iff (ha : RA S G n nf) {f : Nat} (h : f < 6) : xGone S (nI f) ↔ ¬ G 2 f = 0 := by
  unfold xGone
  rw [rd_6 h, ha.gon f h]
  rcases ha.gob f h with e | e
  · rw [e]; decide
  · rw [e]; decide
theorem ast_iff (ha : RA S G n nf) (hb : RB S T n) {b : Nat} (h : b < n) : xAst S (nI b) ↔ mMis G T b := by
  have := hb.n40
  obtain ⟨f, h1, h2, h3, h4, h5⟩ := flight_of ha h
  unfold xAst mMis
  rw [propext (own_iff ha hb h), rd_40 (by omega), rd_40 (by omega), h4, propext (gone_iff ha h2), h5, hb.whr b h]
  unfold mOwn
  rw [h5]
  constructor
  · rintro ⟨q1, q2⟩
    refine ⟨q1, ?_⟩
    rcases q2 with q | q
    · exact Or.inr (fun e => q ⟨q1, e.symm⟩)
    · exact Or.inl q
  · rintro ⟨q1, q2⟩
    refine ⟨q1, ?_⟩
    rcases q2 with q | q
    · exact Or.inr q
    · exact Or.inl (fun e => q e.2.symm)
theorem rdy_iff (ha : RA S G n nf) (hb : RB S T n) {b f : Nat} (h : b < n) (hf : f < nf) : (S 3 b = nI f ∧ xRdy S (nI b)) ↔ (G 4 b = nI f ∧ mRdy G T f b) := by
  have := hb.n40
  have := ha.nf6
  obtain ⟨f2, h1, h2, h3, h4, h5⟩ := flight_of ha h
  rw [h3, h4]
  refine and_congr_right (fun e => ?_)
  have e2 : f2 = f := nI_inj (by omega) (by omega) e
  subst e2
  unfold xRdy mRdy
  rw [propext (own_iff ha hb h), rd_40 (by omega), rd_40 (by omega), h4, propext (gone_iff ha h2), hb.whr b h]
  unfold mOwn
  rw [h5]
  refine or_congr_right ?_
  constructor
  · rintro ⟨⟨q1, q2⟩, q3⟩
    exact ⟨Classical.not_not.mp q3, q1, q2⟩
  · rintro ⟨q1, q2, q3⟩
    exact ⟨⟨q2, q3⟩, fun z => z q1⟩
theorem in_iff (hb : RB S T n) {b c : Nat} (h : b < n) (hc : c < 4) : S 7 b = nI c ↔ (T 1 b = 2 ∧ T 2 b = nI c) := by
  by_cases q : T 1 b = 2
  · rw [(hb.cin b h q).1]
    exact ⟨fun e => ⟨q, e⟩, And.right⟩
  · rw [hb.cno b h q]
    exact ⟨fun e => absurd e.symm (nI_neg (by omega)), fun e => absurd e.1 q⟩
/-- how many lie in a chute -/
theorem in_ct (hb : RB S T n) {c : Nat} (hc : c < 4) : nI (ct (fun j_ => S 7 j_ = nI c) 40) = T 7 c := by
  rw [hb.inn c hc, ct_cut hb.n40 (fun j h1 h2 e => nI_neg (b := c) (by omega) (e.symm.trans (hb.out j h1 h2).2.1)), ct_cong (fun j hj => in_iff hb hj hc)]
theorem room_iff (ha : RA S G n nf) (hb : RB S T n) {c : Nat} (hc : c < 4) : xRoom S (nI c) ↔ T 7 c < G 3 c := by
  unfold xRoom
  rw [in_ct hb hc, rd_4 hc, ha.roo c hc]
theorem mis_ct (ha : RA S G n nf) (hb : RB S T n) {c : Nat} (hc : c < 4) : xMisN S (nI c) n = mBad G T (nI c) n := by
  refine ct_cong (fun b h => ?_)
  rw [propext (in_iff hb h hc), propext (ast_iff ha hb h)]
  constructor
  · rintro ⟨⟨-, q2⟩, q3⟩; exact ⟨q3, q2⟩
  · rintro ⟨q1, q2⟩; exact ⟨⟨q1.1, q2⟩, q1⟩
theorem rdy_ct (ha : RA S G n nf) (hb : RB S T n) {f : Nat} (hf : f < nf) : xRdyN S (nI f) n = mRdyN G T f n := ct_cong (fun b h => rdy_iff ha hb h hf)
theorem of_ct (ha : RA S G n nf) {f : Nat} (hf : f < nf) : ct (fun j_ => S 3 j_ = nI f) 40 = mOf G (nI f) n := by
  have := ha.nf6
  rw [ct_cut ha.n40 (fun j h1 h2 e => nI_neg (b := f) (by omega) (e.symm.trans (ha.oua j h1 h2).1))]
  exact ct_cong (fun b h => by rw [(ha.fli b h).1])
theorem where_ct (hb : RB S T n) {w : Int32} (hw : ¬ w = -1) : ct (fun j_ => S 6 j_ = w) 40 = mCnt T w n := by
  rw [ct_cut hb.n40 (fun j h1 h2 e => hw (e.symm.trans (hb.out j h1 h2).1))]
  exact ct_cong (fun b h => by rw [hb.whr b h])
theorem file_ct (ha : RA S G n nf) {w : Int32} (hw : ¬ w = 0) : ct (fun j_ => S 10 j_ = w) 40 = mFil G w n := by
  rw [ct_cut ha.n40 (fun j h1 h2 e => hw (e.symm.trans (ha.oua j h1 h2).2))]
  exact ct_cong (fun b h => by rw [ha.fil b h])
theorem chg_ct (ha : RA S G n nf) (hb : RB S T n) {f c : Nat} (hf : f < nf) (hc : c < 4) : xChgN S (nI f) (nI c) n = mGiveN G T f (nI c) n := by
  have := ha.nf6
  refine ct_cong (fun b h => ?_)
  obtain ⟨f2, h1, h2, h3, h4, h5⟩ := flight_of ha h
  rw [h3, h4]
  refine and_congr_right (fun e => ?_)
  have e2 : f2 = f := nI_inj (by omega) (by omega) e
  subst e2
  rw [propext (own_iff ha hb h)]
  unfold mOwn
  rw [h5]
  constructor
  · rintro ⟨⟨q1, q2⟩, q3⟩
    refine ⟨q1, q2, fun z => q3 ?_⟩
    rw [(hb.cin b h q1).1, q2, z]
  · rintro ⟨q1, q2, q3⟩
    refine ⟨⟨q1, q2⟩, fun z => q3 ?_⟩
    rw [(hb.cin b h q1).1, q2] at z
    exact z.symm
theorem miss_sum (hb : RB S T n) : sm (S 9) 40 = sm (T 4) n := by
  rw [sm_cut hb.n40 (fun j h1 h2 => (hb.out j h1 h2).2.2.2.1)]
  exact sm_cong (fun j hj => hb.mis j hj)
theorem fnd_at {f : Nat → Int32} {v : Int32} : ∀ {d i : Nat}, ∀ j, i ≤ j → j < i + d → f j = v → (∀ k, i ≤ k → k < j → ¬ f k = v) → fnd f v i d = nI j
  | 0, i, j, h1, h2, _, _ => absurd h2 (by omega)
  | d + 1, i, j, h1, h2, h3, h4 => by
    unfold fnd
    by_cases e : j = i
    · subst e
      rw [sel_t h3]
    · rw [sel_f (h4 i (Nat.le_refl i) (by omega))]
      exact fnd_at j (by omega) (by omega) h3 (fun k hk hk2 => h4 k (by omega) hk2)
theorem fnd_no {f : Nat → Int32} {v : Int32} : ∀ {d i : Nat}, (∀ j, i ≤ j → j < i + d → ¬ f j = v) → fnd f v i d = -1
  | 0, _, _ => rfl
  | d + 1, i, h => by
    unfold fnd
    rw [sel_f (h i (Nat.le_refl i) (by omega))]
    exact fnd_no (fun j h1 h2 => h j (by omega) (by omega))
theorem place_eq (hb : RB S T n) {b : Nat} (h : b < n) : fnd (S 12) (nI b) 0 12 = mPl T b 1 := by
  have := hb.n40
  unfold mPl
  by_cases q : T 1 b = 1
  · rw [sel_t q]
    obtain ⟨j, hj, e1, e2⟩ := hb.bl2 b h q
    rw [e1]
    refine fnd_at j (Nat.zero_le j) (by omega) ((hb.bel j hj).trans e2) (fun k _ hk e => ?_)
    rw [hb.bel k (by omega)] at e
    obtain ⟨b2, g1, g2, g3, g4⟩ := hb.bl1 k (by omega) (by rw [e]; exact nI_neg (by omega))
    have e3 : b2 = b := nI_inj (by omega) (by omega) (g2.symm.trans e)
    subst e3
    have := nI_inj (by omega) (by omega) (g4.symm.trans e1)
    omega
  · rw [sel_f q]
    refine fnd_no (fun j _ hj e => q ?_)
    rw [hb.bel j (by omega)] at e
    obtain ⟨b2, g1, g2, g3, g4⟩ := hb.bl1 j (by omega) (by rw [e]; exact nI_neg (by omega))
    have e3 : b2 = b := nI_inj (by omega) (by omega) (g2.symm.trans e)
    subst e3
    exact g3
theorem chute_eq (hb : RB S T n) {b : Nat} (h : b < n) : S 7 b = mPl T b 2 := by
  unfold mPl
  by_cases q : T 1 b = 2
  · rw [sel_t q]; exact (hb.cin b h q).1
  · rw [sel_f q]; exact hb.cno b h q
end REL
