/-! the law: what is true of the hand's hall before and after the minutes -/
theorem lg_self {x y : Int64} (h : x = y) : lg_cmp x y = 0 := (lg_cmp_eq x y).mpr h
theorem ct_mono {p q : Nat → Prop} (h : ∀ b, p b → q b) : ∀ n, ct p n ≤ ct q n
  | 0 => Nat.le_refl _
  | n + 1 => by
    have h1 := ct_mono h n
    by_cases e : p n
    · rw [ct_t e, ct_t (h n e)]; omega
    · rw [ct_f e]
      by_cases e2 : q n
      · rw [ct_t e2]; omega
      · rw [ct_f e2]; exact h1
theorem ct_two {p q : Nat → Prop} (h : ∀ b, p b → ¬ q b) : ∀ n, ct p n + ct q n ≤ n
  | 0 => Nat.le_refl _
  | n + 1 => by
    have h1 := ct_two h n
    by_cases e : p n
    · rw [ct_t e, ct_f (h n e)]; omega
    · rw [ct_f e]
      by_cases e2 : q n
      · rw [ct_t e2]; omega
      · rw [ct_f e2]; omega
theorem ct_split {p q : Nat → Prop} : ∀ n, (∀ b, b < n → q b → p b) → ct (fun b => p b ∧ ¬ q b) n + ct q n = ct p n
  | 0, _ => rfl
  | n + 1, h => by
    have h1 := ct_split n (fun b hb => h b (Nat.lt_succ_of_lt hb))
    by_cases e : q n
    · rw [ct_f (p := fun b => p b ∧ ¬ q b) (fun z => z.2 e), ct_t e, ct_t (h n (Nat.lt_succ_self n) e)]; omega
    · rw [ct_f e]
      by_cases e2 : p n
      · rw [ct_t (p := fun b => p b ∧ ¬ q b) ⟨e2, e⟩, ct_t e2]; omega
      · rw [ct_f (p := fun b => p b ∧ ¬ q b) (fun z => e2 z.1), ct_f e2]; exact h1
theorem ct_only {p : Nat → Prop} {n b0 : Nat} (hb : b0 < n) (hp : p b0) (h : ∀ b, b < n → p b → b = b0) : ct p n = 1 := by
  have h9 := ct_one (p := p) (q := fun _ => False) hb (fun j hj e => ⟨fun z => e (h j hj z), fun z => z.elim⟩)
  rw [bN_f (fun z => z), bN_t hp, ct_none (p := fun _ => False) (fun _ _ z => z)] at h9
  omega
def cts (f : Nat → Nat) : Nat → Nat
  | 0 => 0
  | n + 1 => cts f n + f n
theorem cts_cong {f g : Nat → Nat} : ∀ {n : Nat}, (∀ b, b < n → f b = g b) → cts f n = cts g n
  | 0, _ => rfl
  | n + 1, h => by
    show cts f n + f n = cts g n + g n
    rw [cts_cong (fun b hb => h b (Nat.lt_succ_of_lt hb)), h n (Nat.lt_succ_self n)]
theorem cts_ct (p : Nat → Prop) : ∀ n, cts (fun b => bN (p b)) n = ct p n
  | 0 => rfl
  | n + 1 => by
    show cts (fun b => bN (p b)) n + bN (p n) = ct p n + bN (p n)
    rw [cts_ct p n]
theorem cts_add (f g : Nat → Nat) : ∀ n, cts (fun b => f b + g b) n = cts f n + cts g n
  | 0 => rfl
  | n + 1 => by
    show cts (fun b => f b + g b) n + (f n + g n) = (cts f n + f n) + (cts g n + g n)
    rw [cts_add f g n]; omega
theorem cts_k (v : Nat) : ∀ n, cts (fun _ => v) n = n * v
  | 0 => (Nat.zero_mul v).symm
  | n + 1 => by
    show cts (fun _ => v) n + v = (n + 1) * v
    rw [cts_k v n, Nat.succ_mul]
theorem cts_swap (r : Nat → Nat → Prop) (n : Nat) : ∀ N, cts (fun j => ct (fun b => r j b) n) N = cts (fun b => ct (fun j => r j b) N) n
  | 0 => by
    show 0 = cts (fun _ => 0) n
    rw [cts_k]; rfl
  | N + 1 => by
    show cts (fun j => ct (fun b => r j b) n) N + ct (fun b => r N b) n = cts (fun b => ct (fun j => r j b) N + bN (r N b)) n
    rw [cts_swap r n N, cts_add, cts_ct]
noncomputable def onN (T : HS) (i : Nat) : Nat := ct (fun j => ¬ T 5 j = -1) i
theorem on_ct {S T : HS} {n : Nat} (hb : RB S T n) : onN T 12 = mCnt T 1 n := by
  have h40 := hb.n40
  have h1 := cts_swap (fun j b => T 5 j = nI b) n 12
  have e1 : cts (fun j => ct (fun b => T 5 j = nI b) n) 12 = onN T 12 := by
    unfold onN
    rw [← cts_ct]
    refine cts_cong (fun j hj => ?_)
    by_cases z : T 5 j = -1
    · rw [bN_f (fun q => q z)]
      exact ct_none (fun b hb9 q => nI_neg (b := b) (by omega) (q.symm.trans z))
    · obtain ⟨b, g1, g2, g3, g4⟩ := hb.bl1 j hj z
      rw [bN_t z]
      exact ct_only (b0 := b) g1 g2 (fun b2 h2 e => nI_inj (by omega) (by omega) (e.symm.trans g2))
  have e2 : cts (fun b => ct (fun j => T 5 j = nI b) 12) n = mCnt T 1 n := by
    unfold mCnt
    rw [← cts_ct]
    refine cts_cong (fun b hb9 => ?_)
    by_cases z : T 1 b = 1
    · obtain ⟨j, g1, g2, g3⟩ := hb.bl2 b hb9 z
      rw [bN_t z]
      exact ct_only (b0 := j) g1 g3 (fun j2 h2 e => belt_one hb hb9 g1 h2 g3 e)
    · rw [bN_f z]
      refine ct_none (fun j hj q => z ?_)
      obtain ⟨b2, g1, g2, g3, g4⟩ := hb.bl1 j hj (fun y => nI_neg (b := b) (by omega) (q.symm.trans y))
      have e : b = b2 := nI_inj (by omega) (by omega) (q.symm.trans g2)
      rw [e]; exact g3
  rw [e1, e2] at h1
  exact h1
noncomputable def sF (G : HS) (n i : Nat) : Nat := cts (fun f => mOf G (nI f) n) i
theorem sF_le {S G : HS} {n nf : Nat} (ha : RA S G n nf) : sF G n nf = n := by
  have h6 := ha.nf6
  have h1 := cts_swap (fun f b => G 4 b = nI f) n nf
  have e2 : cts (fun b => ct (fun f => G 4 b = nI f) nf) n = n := by
    rw [cts_cong (g := fun _ => 1) (fun b hb => ?_), cts_k, Nat.mul_one]
    obtain ⟨f, g1, g2, g3, g4, g5⟩ := flight_of ha hb
    exact ct_only (b0 := f) g1 g3 (fun f2 h2 e => nI_inj (by omega) (by omega) (e.symm.trans g3))
  exact h1.trans e2
theorem rdy_le (G T : HS) (f n : Nat) : mRdyN G T f n ≤ mOf G (nI f) n := ct_mono (fun _ z => z.1) n
theorem of_le (G : HS) (f : Int32) (n : Nat) : mOf G f n ≤ n := ct_le _ n
theorem nI_sub {a b : Nat} (h : b ≤ a) : nI a - nI b = nI (a - b) := by
  have e : nI a = nI (a - b) + nI b := by rw [nI_add]; congr 1; omega
  rw [e, Int32.add_sub_cancel]
theorem bad_le (G T : HS) (c n : Nat) : mBad G T (nI c) n ≤ inC T n c := ct_mono (fun _ z => ⟨z.1.1, z.2⟩) n
theorem fil_le (G : HS) (n : Nat) : mFil G 1 n + mFil G 2 n ≤ n := ct_two (fun b z q => absurd (z.symm.trans q) (by decide)) n
theorem rd_le3 {x : Int32} (h : x = -1 ∨ ∃ c, c < 4 ∧ x = nI c) : x ≤ 3 := by
  rcases h with e | ⟨c, hc, e⟩
  · rw [e]; decide
  · rw [e]
    rcases (show c = 0 ∨ c = 1 ∨ c = 2 ∨ c = 3 by omega) with q | q | q | q <;> (subst q; decide)
theorem le3 {j : Nat} (h : j ≤ 3) : ¬ 3 < nI j := Int32.not_lt.mpr (nI_le (a := j) (b := 3) h (by decide))
theorem le5 {j : Nat} (h : j ≤ 5) : ¬ 5 < nI j := Int32.not_lt.mpr (nI_le (a := j) (b := 5) h (by decide))
noncomputable def inG (T : HS) (i : Nat) : Nat → Int32 := fun j => nI (ct (fun b => j < 4 ∧ T 1 b = 2 ∧ T 2 b = nI j) i)
noncomputable def baG (G T : HS) (i : Nat) : Nat → Int32 := fun j => nI (ct (fun b => j < 4 ∧ mMis G T b ∧ T 2 b = nI j) i)
theorem inG_0 (T : HS) : inG T 0 = fun _ => 0 := rfl
theorem baG_0 (G T : HS) : baG G T 0 = fun _ => 0 := rfl
theorem inG_s0 {T : HS} {i : Nat} (h : ¬ T 1 i = 2) : inG T (i + 1) = inG T i := by
  funext j
  simp only [inG]
  rw [ct_f (p := fun b => j < 4 ∧ T 1 b = 2 ∧ T 2 b = nI j) (fun z => h z.2.1)]
theorem inG_s1 {T : HS} {i c : Nat} (h : T 1 i = 2) (e : T 2 i = nI c) (hc : c < 4) : inG T (i + 1) = upd (inG T i) c ((inG T i) c + 1) := by
  funext j
  simp only [inG, upd]
  by_cases q : j = c
  · subst q
    rw [if_pos rfl, ct_t (p := fun b => j < 4 ∧ T 1 b = 2 ∧ T 2 b = nI j) ⟨hc, h, e⟩, nI_1]
  · rw [if_neg q, ct_f (p := fun b => j < 4 ∧ T 1 b = 2 ∧ T 2 b = nI j) (fun z => q (nI_inj (by omega) (by omega) (z.2.2.symm.trans e)))]
theorem baG_s0 {G T : HS} {i : Nat} (h : ¬ mMis G T i) : baG G T (i + 1) = baG G T i := by
  funext j
  simp only [baG]
  rw [ct_f (p := fun b => j < 4 ∧ mMis G T b ∧ T 2 b = nI j) (fun z => h z.2.1)]
theorem baG_s1 {G T : HS} {i c : Nat} (h : mMis G T i) (e : T 2 i = nI c) (hc : c < 4) : baG G T (i + 1) = upd (baG G T i) c ((baG G T i) c + 1) := by
  funext j
  simp only [baG, upd]
  by_cases q : j = c
  · subst q
    rw [if_pos rfl, ct_t (p := fun b => j < 4 ∧ mMis G T b ∧ T 2 b = nI j) ⟨hc, h, e⟩, nI_1]
  · rw [if_neg q, ct_f (p := fun b => j < 4 ∧ mMis G T b ∧ T 2 b = nI j) (fun z => q (nI_inj (by omega) (by omega) (z.2.2.symm.trans e)))]
theorem inG_c {T : HS} {n j : Nat} (hj : j < 4) : (inG T n) j = nI (inC T n j) := congrArg nI (ct_cong (fun b _ => ⟨fun z => z.2, fun z => ⟨hj, z⟩⟩))
theorem baG_c {G T : HS} {n j : Nat} (hj : j < 4) : (baG G T n) j = nI (mBad G T (nI j) n) := congrArg nI (ct_cong (fun b _ => ⟨fun z => z.2, fun z => ⟨hj, z⟩⟩))
theorem T7_c {S T : HS} {n c : Nat} (hb : RB S T n) (hc : c < 4) : T 7 c = nI (inC T n c) := hb.inn c hc
/-- an array that is filled from the front -/
noncomputable def hd_ (g : Nat → Int32) (i : Nat) : Nat → Int32 := fun j => sel (j < i) (g j) 0
theorem hd_0 (g : Nat → Int32) : hd_ g 0 = fun _ => 0 := funext fun j => sel_f (Nat.not_lt_zero j) _ _
theorem hd_at {g : Nat → Int32} {i j : Nat} (h : j < i) : (hd_ g i) j = g j := sel_t h _ _
theorem hd_s (g : Nat → Int32) (i : Nat) : hd_ g (i + 1) = upd (hd_ g i) i (g i) := by
  funext j
  simp only [hd_, upd]
  by_cases e : j = i
  · subst e
    rw [if_pos rfl, sel_t (Nat.lt_succ_self j)]
  · rw [if_neg e]
    by_cases q : j < i
    · rw [sel_t q, sel_t (Nat.lt_succ_of_lt q)]
    · rw [sel_f q, sel_f (by omega)]
noncomputable def opG (G : HS) : Nat → Int32 := fun b => bI (G 7 b = 1)
/-! until the chute -/
theorem unt_spec (P : Nat → Prop) : ∀ N, (unt P N = N ∧ ∀ j, j < N → ¬ P j) ∨ (unt P N < N ∧ P (unt P N) ∧ ∀ j, j < unt P N → ¬ P j)
  | 0 => Or.inl ⟨rfl, fun j h => absurd h (Nat.not_lt_zero j)⟩
  | N + 1 => by
    rcases unt_spec P N with ⟨h1, h2⟩ | ⟨h1, h2, h3⟩
    · by_cases e : P N
      · right
        have e9 : unt P (N + 1) = N := unt_at h2 e (Nat.lt_succ_self N)
        rw [e9]
        exact ⟨Nat.lt_succ_self N, e, h2⟩
      · left
        have h4 : ∀ j, j < N + 1 → ¬ P j := fun j hj => by
          rcases Nat.lt_or_ge j N with q | q
          · exact h2 j q
          · rw [show j = N by omega]; exact e
        exact ⟨unt_end h4, h4⟩
    · right
      have e9 : unt P (N + 1) = unt P N := unt_at h3 h2 (by omega)
      rw [e9]
      exact ⟨by omega, h2, h3⟩
section UN
variable {S G T : HS} {n nf : Nat}
theorem two_off {V : HS} {b : Nat} (e : V 1 b = 2) : ¬ onW V b := fun z => by rcases z with q | q <;> (rw [q] at e; exact absurd e (by decide))
theorem un_keep (ha : RA S G n nf) (hb : RB S T n) (ht : TI T n) {b j : Nat} (h : b < n) (hp : mUnP G T b j) : ∀ k, j ≤ k → mUnP G T b k := by
  intro k hk
  induction k with
  | zero => rw [show j = 0 by omega] at hp; exact hp
  | succ k ih =>
    rcases Nat.lt_or_ge k j with q | q
    · rw [show k + 1 = j by omega]; exact hp
    · have h2 := ih q
      obtain ⟨d, h3, h4, -⟩ := go_ps ha hb ht k
      obtain ⟨g1, g2, -⟩ := go_rel ha hb k
      obtain ⟨p1, -⟩ := min_ps g1 g2 h4
      have h2 : (mGo G T k).2 1 b = 2 := by rw [← un_go]; exact h2
      have h5 := ((p1.1 b h).1 (two_off h2)).1
      show (mMin G (mUn G T k)).2 1 b = 2
      rw [un_go, h5]; exact h2
theorem un_two {b : Nat} (h : T 1 b = 2) : mUnA G T b = 0 := (mUnA_at (G := G) (i := 0) (fun j hj => absurd hj (Nat.not_lt_zero j)) h (by decide)).2
theorem un_off (ha : RA S G n nf) (hb : RB S T n) (ht : TI T n) {b : Nat} (h : b < n) (h1 : ¬ onW T b) (h2 : ¬ T 1 b = 2) : mUnA G T b = -1 := by
  refine (mUnA_end (fun j _ e => h2 ?_)).2
  obtain ⟨d, h3, -, -⟩ := go_ps ha hb ht j
  have h5 := ((h3.1 b h).1 h1).1
  have e : mUn G T j 1 b = 2 := e
  rw [un_go, h5] at e
  exact e
theorem un_zero {b : Nat} (h : ¬ T 1 b = 2) : ¬ mUnA G T b = 0 := by
  rcases unt_spec (mUnP G T b) 121 with ⟨h1, h2⟩ | ⟨h1, h2, h3⟩
  · rw [(mUnA_end h2).2]; decide
  · rw [(mUnA_at h3 h2 h1).2]
    intro e
    have e0 : unt (mUnP G T b) 121 = 0 := nI_inj (b := 0) (by omega) (by decide) e
    rw [e0] at h2
    exact h h2
theorem un_in {b N : Nat} (h : ¬ T 1 b = 2) (h2 : (mGo G T N).2 1 b = 2) (hN : N < 121) : ¬ mUnA G T b ≤ 0 ∧ ¬ nI N < mUnA G T b := by
  have hp : mUnP G T b N := by
    show mUn G T N 1 b = 2
    rw [un_go]; exact h2
  rcases unt_spec (mUnP G T b) 121 with ⟨h3, h4⟩ | ⟨h3, h4, h5⟩
  · exact absurd hp (h4 N hN)
  · rw [(mUnA_at h5 h4 h3).2]
    have h6 : unt (mUnP G T b) 121 ≤ N := by
      rcases Nat.lt_or_ge N (unt (mUnP G T b) 121) with q | q
      · exact absurd hp (h5 N q)
      · exact q
    have h7 : unt (mUnP G T b) 121 ≠ 0 := fun e => by rw [e] at h4; exact h h4
    refine ⟨fun q => ?_, Int32.not_lt.mpr (nI_le h6 (by omega))⟩
    rw [Int32.le_iff_toInt_le, nI_toInt (by omega)] at q
    have : (0 : Int32).toInt = 0 := rfl
    omega
theorem un_out (ha : RA S G n nf) (hb : RB S T n) (ht : TI T n) {b N : Nat} (h : b < n) (h2 : ¬ (mGo G T N).2 1 b = 2) (hN : N < 121) (h0 : ¬ mUnA G T b ≤ 0) : nI N < mUnA G T b := by
  rcases unt_spec (mUnP G T b) 121 with ⟨h3, h4⟩ | ⟨h3, h4, h5⟩
  · rw [(mUnA_end h4).2] at h0; exact absurd (by decide) h0
  · rw [(mUnA_at h5 h4 h3).2]
    refine Int32.not_le.mp (nI_ge (a := N) (b := unt (mUnP G T b) 121) ?_ (by omega))
    rcases Nat.lt_or_ge N (unt (mUnP G T b) 121) with q | q
    · exact q
    · have h9 := un_keep ha hb ht h h4 N q
      have h9 : mUn G T N 1 b = 2 := h9
      rw [un_go] at h9
      exact absurd h9 h2
end UN
/-- what is told before the minutes of where a bag comes, and where it is behind them -/
def UNF (G V T : HS) (n N : Nat) : Prop := ∀ b, b < n → (V 1 b = 2 → mUnA G V b = 0) ∧ (¬ onW V b → ¬ V 1 b = 2 → mUnA G V b = -1) ∧ (onW V b → T 1 b = 2 → ¬ mUnA G V b ≤ 0 ∧ ¬ nI N < mUnA G V b) ∧ (onW V b → ¬ T 1 b = 2 → ¬ mUnA G V b ≤ 0 → nI N < mUnA G V b)
theorem on_two {V : HS} {b : Nat} (h : onW V b) : ¬ V 1 b = 2 := fun e => two_off e h
theorem unf_go {S G V : HS} {n nf N : Nat} (ha : RA S G n nf) (hb : RB S V n) (ht : TI V n) (hN : N < 121) : UNF G V (mGo G V N).2 n N := fun b h => ⟨un_two, un_off ha hb ht h, fun q e => un_in (on_two q) e hN, fun _ e => un_out ha hb ht h e hN⟩
theorem case11 {V T : HS} {n b : Nat} (ht : TI V n) (hs : ST V T n) (h : b < n) : (V 1 b = 2 ∧ T 1 b = 2) ∨ (V 1 b = 3 ∧ T 1 b = 3) ∨ (V 1 b = 4 ∧ T 1 b = 4) ∨ (V 1 b = 5 ∧ T 1 b = 5) ∨ (V 1 b = 0 ∧ T 1 b = 0) ∨ (V 1 b = 0 ∧ T 1 b = 1) ∨ (V 1 b = 0 ∧ T 1 b = 2) ∨ (V 1 b = 0 ∧ T 1 b = 3) ∨ (V 1 b = 1 ∧ T 1 b = 1) ∨ (V 1 b = 1 ∧ T 1 b = 2) ∨ (V 1 b = 1 ∧ T 1 b = 3) := by
  obtain ⟨a1, a2, -, -, -, -, a7⟩ := hs b h
  obtain ⟨w, hw, e⟩ := ht.wh b h
  have off : ∀ v : Int32, V 1 b = v → v ≠ 0 → v ≠ 1 → T 1 b = v := fun v e0 n0 n1 => (a1 (fun z => by rcases z with q | q <;> (rw [q] at e0; first | exact n0 e0.symm | exact n1 e0.symm))).1.trans e0
  rcases (show w = 0 ∨ w = 1 ∨ w = 2 ∨ w = 3 ∨ w = 4 ∨ w = 5 by omega) with q | q | q | q | q | q <;> subst q
  · have e : V 1 b = 0 := e
    rcases a7 (Or.inl e) with (z | z) | z | z
    · exact Or.inr (Or.inr (Or.inr (Or.inr (Or.inl ⟨e, z⟩))))
    · exact Or.inr (Or.inr (Or.inr (Or.inr (Or.inr (Or.inl ⟨e, z⟩)))))
    · exact Or.inr (Or.inr (Or.inr (Or.inr (Or.inr (Or.inr (Or.inl ⟨e, z⟩))))))
    · exact Or.inr (Or.inr (Or.inr (Or.inr (Or.inr (Or.inr (Or.inr (Or.inl ⟨e, z⟩)))))))
  · have e : V 1 b = 1 := e
    rcases a7 (Or.inr e) with (z | z) | z | z
    · have := a2 z; rw [e] at this; exact absurd this (by decide)
    · exact Or.inr (Or.inr (Or.inr (Or.inr (Or.inr (Or.inr (Or.inr (Or.inr (Or.inl ⟨e, z⟩))))))))
    · exact Or.inr (Or.inr (Or.inr (Or.inr (Or.inr (Or.inr (Or.inr (Or.inr (Or.inr (Or.inl ⟨e, z⟩)))))))))
    · exact Or.inr (Or.inr (Or.inr (Or.inr (Or.inr (Or.inr (Or.inr (Or.inr (Or.inr (Or.inr ⟨e, z⟩)))))))))
  · exact Or.inl ⟨e, off 2 e (by decide) (by decide)⟩
  · exact Or.inr (Or.inl ⟨e, off 3 e (by decide) (by decide)⟩)
  · exact Or.inr (Or.inr (Or.inl ⟨e, off 4 e (by decide) (by decide)⟩))
  · exact Or.inr (Or.inr (Or.inr (Or.inl ⟨e, off 5 e (by decide) (by decide)⟩)))
noncomputable def moN (V T : HS) (i : Nat) : Nat := ct (fun b => T 1 b = 2 ∧ ¬ V 1 b = 2) i
theorem moN_t {V T : HS} {i : Nat} (h : T 1 i = 2) (h2 : ¬ V 1 i = 2) : moN V T (i + 1) = moN V T i + 1 := ct_t (p := fun b => T 1 b = 2 ∧ ¬ V 1 b = 2) ⟨h, h2⟩
theorem moN_f {V T : HS} {i : Nat} (h : ¬ (T 1 i = 2 ∧ ¬ V 1 i = 2)) : moN V T (i + 1) = moN V T i := ct_f (p := fun b => T 1 b = 2 ∧ ¬ V 1 b = 2) h
theorem more_ct {G V T : HS} {n d : Nat} (hp : PS G V T n d) : moN V T n = d := by
  have h1 := ct_split (p := fun b => T 1 b = 2) (q := fun b => V 1 b = 2) n (fun b hb e => ((hp.1 b hb).1 (two_off e)).1.trans e)
  have h2 := hp.2.1
  have h1 : moN V T n + c2 V n = c2 T n := h1
  omega
