/-! what the reference does, in pure words. Rows of G: 0 thrown, flights, strength, bags; 1 chuteOf, 2 isGone, 3 room, 4 flight, 5 size, 6 smudge, 7 file. Rows of T: 0 minute, inLine; 1 where, 2 at, 3 read, 4 missed, 5 belt, 6 line, 7 in -/
abbrev ix (x : Int32) : Nat := x.toNatClampNeg
theorem ix_n {j : Nat} (h : j < 2 ^ 31) : ix (nI j) = j := nI_clamp h
abbrev mIn (v lo hi : Int32) : Prop := ¬ v < lo ∧ ¬ hi < v
abbrev mOwn (G T : HS) (b : Nat) : Prop := T 1 b = 2 ∧ T 2 b = G 1 (ix (G 4 b))
abbrev mMis (G T : HS) (b : Nat) : Prop := T 1 b = 2 ∧ (¬ G 2 (ix (G 4 b)) = 0 ∨ ¬ G 1 (ix (G 4 b)) = T 2 b)
abbrev mAside (T : HS) (b : Nat) : Prop := T 1 b = 3 ∨ T 1 b = 4
abbrev mRdy (G T : HS) (f i : Nat) : Prop := T 1 i = 5 ∨ (G 2 f = 0 ∧ T 1 i = 2 ∧ T 2 i = G 1 f)
noncomputable def thr (G : HS) (v : Int32) : HS := sf G 0 (upd (G 0) 0 v)
noncomputable def mPutB (T : HS) (b : Nat) (w p : Int32) : HS := sf (sf T 1 (upd (T 1) b w)) 2 (upd (T 2) b p)
noncomputable def mLine (T : HS) (b : Nat) : HS := sf (sf (mPutB T b 0 (-1)) 6 (upd (T 6) (ix (T 0 1)) (nI b))) 0 (upd (T 0) 1 (T 0 1 + 1))
noncomputable def mToCh (T : HS) (b c : Nat) : HS := sf (mPutB T b 2 (nI c)) 7 (upd (T 7) c (T 7 c + 1))
noncomputable def mDec (T : HS) (c : Nat) : HS := sf T 7 (upd (T 7) c (T 7 c - 1))
noncomputable def mAtL (f at_ : Nat → Int32) : Nat → (Nat → Int32)
  | 0 => at_
  | i + 1 => sel (f i = -1) (mAtL f at_ i) (upd (mAtL f at_ i) (ix (f i)) (nI i))
noncomputable def mTrn (T : HS) : HS := sf (sf T 5 (xturn 12 (T 5))) 2 (mAtL (xturn 12 (T 5)) (T 2) 12)
def mFr (L : Nat) (f : Nat → Int32) : Nat → Int32 := fun j => if j < L then f (j + 1) else f j
noncomputable def mFirst (T : HS) : HS := sf (sf T 0 (upd (T 0) 1 (T 0 1 - 1))) 6 (mFr (ix (T 0 1) - 1) (T 6))
noncomputable def mMiss (T : HS) (b : Nat) : HS := sel (3 ≤ T 4 b + 1) (mPutB (sf (sf T 4 (upd (T 4) b (T 4 b + 1))) 5 (upd (T 5) 2 (-1))) b 3 (-1)) (sf T 4 (upd (T 4) b (T 4 b + 1)))
noncomputable def mTag (G T : HS) : HS := sel (T 5 2 = -1) T (sel (T 3 (ix (T 5 2)) = -1) (sel (¬ G 0 2 < G 6 (ix (T 5 2)) ∧ ¬ G 1 (ix (G 4 (ix (T 5 2)))) = -1) (sf T 3 (upd (T 3) (ix (T 5 2)) (G 1 (ix (G 4 (ix (T 5 2))))))) (mMiss T (ix (T 5 2)))) T)
abbrev mSlP (G T : HS) (c : Nat) : Prop := ¬ T 5 (4 + 2 * c) = -1 ∧ T 3 (ix (T 5 (4 + 2 * c))) = nI c ∧ T 7 c < G 3 c
noncomputable def mSlT (G T : HS) (c : Nat) : HS := sel (mSlP G T c) (mToCh (sf T 5 (upd (T 5) (4 + 2 * c) (-1))) (ix (T 5 (4 + 2 * c))) c) T
noncomputable def mSl (G T : HS) : Nat → Nat × HS
  | 0 => (0, T)
  | i + 1 => ((mSl G T i).1 + bN (mSlP G (mSl G T i).2 i), mSlT G (mSl G T i).2 i)
noncomputable def mFeed (T : HS) : HS := sel (T 5 0 = -1 ∧ 0 < T 0 1) (mPutB (sf (mFirst T) 5 (upd (T 5) 0 (nI (ix (T 6 0))))) (ix (T 6 0)) 1 0) T
noncomputable def mTick (T : HS) : HS := sf T 0 (upd (T 0) 0 (T 0 0 + 1))
noncomputable def mMin (G T : HS) : Nat × HS := ((mSl G (mTag G (mTrn T)) 4).1, mTick (mFeed (mSl G (mTag G (mTrn T)) 4).2))
noncomputable def mGo (G T : HS) : Nat → Int32 × HS
  | 0 => (0, T)
  | i + 1 => ((mGo G T i).1 + nI (mMin G (mGo G T i).2).1, (mMin G (mGo G T i).2).2)
noncomputable def mClose (G : HS) (b : Nat) : HS := sel (G 7 b = 1) (sf G 7 (upd (G 7) b 2)) G
noncomputable def mBegin (G T : HS) (b : Nat) : HS := sel (G 5 b ≤ 7) (mLine (sf (sf T 3 (upd (T 3) b (-1))) 4 (upd (T 4) b 0)) b) (mPutB (sf (sf T 3 (upd (T 3) b (-1))) 4 (upd (T 4) b 0)) b 4 (-1))
noncomputable def mCnt (T : HS) (w : Int32) (n : Nat) : Nat := ct (fun i => T 1 i = w) n
noncomputable def mFil (G : HS) (w : Int32) (n : Nat) : Nat := ct (fun i => G 7 i = w) n
noncomputable def mBad (G T : HS) (c : Int32) (n : Nat) : Nat := ct (fun i => mMis G T i ∧ T 2 i = c) n
noncomputable def mRdyN (G T : HS) (f n : Nat) : Nat := ct (fun i => G 4 i = nI f ∧ mRdy G T f i) n
noncomputable def mOf (G : HS) (f : Int32) (n : Nat) : Nat := ct (fun i => G 4 i = f) n
noncomputable def mMissing (G T : HS) (f n : Nat) : Int32 := nI (mOf G (nI f) n) - nI (mRdyN G T f n)
noncomputable def mPl (T : HS) (b : Nat) (w : Int32) : Int32 := sel (T 1 b = w) (T 2 b) (-1)
noncomputable def mGiveN (G T : HS) (f : Nat) (c : Int32) (n : Nat) : Nat := ct (fun i => G 4 i = nI f ∧ T 1 i = 2 ∧ T 2 i = G 1 f ∧ ¬ c = G 1 f) n
noncomputable def mSwS (c i : Nat) (q : Nat × HS × HS) : Nat × HS × HS := sel (mMis q.2.1 q.2.2 i ∧ q.2.2 2 i = nI c) (q.1 + 1, mClose q.2.1 i, mDec (mPutB q.2.2 i 3 (-1)) c) q
noncomputable def mSw (G T : HS) (c : Nat) : Nat → Nat × HS × HS
  | 0 => (0, G, T)
  | i + 1 => mSwS c i (mSw G T c i)
noncomputable def mLvS (f i : Nat) (q : Nat × HS × HS) : Nat × HS × HS := sel (q.2.1 4 i = nI f) (sel (mOwn q.2.1 q.2.2 i) (q.1 + 1, q.2.1, mPutB (mDec q.2.2 (ix (q.2.2 2 i))) i 5 (-1)) (q.1, sf q.2.1 7 (upd (q.2.1 7) i 1), q.2.2)) q
noncomputable def mLv (G T : HS) (f : Nat) : Nat → Nat × HS × HS
  | 0 => (0, G, T)
  | i + 1 => mLvS f i (mLv G T f i)
noncomputable def mUn (G U : HS) : Nat → HS
  | 0 => U
  | i + 1 => (mMin G (mUn G U i)).2
/-- which minute, from i on, within d: where the bag b is in a chute -/
noncomputable def mUnF (G U : HS) (b : Nat) : Nat → Nat → Int32
  | _, 0 => -1
  | i, d + 1 => sel (mUn G U i 1 b = 2) (nI i) (mUnF G U b (i + 1) d)
noncomputable def mSetC (G : HS) (f c : Nat) : HS := sf G 1 (upd (G 1) f (nI c))
noncomputable def mBeh (G T : HS) (f N n : Nat) : Nat := mRdyN G (mGo G T N).2 f n
noncomputable def mBest (G T : HS) (f N n : Nat) : Nat → Int32 × Int32
  | 0 => (-1, -1)
  | i + 1 => sel ((mBest G T f N n i).2 < nI (mBeh (mSetC G f i) T f N n)) (nI i, nI (mBeh (mSetC G f i) T f N n)) (mBest G T f N n i)
noncomputable def mOn (d : Int64) (x : Int32) : Int64 := d * 31 + x.toInt64
noncomputable def mDgB (G T : HS) (b : Nat) (d : Int64) : Int64 := mOn (mOn (mOn (mOn (mOn (mOn (mOn (mOn d (G 4 b)) (T 1 b)) (mPl T b 1)) (mPl T b 2)) (T 3 b)) (T 4 b)) (bI (mMis G T b))) (bI (G 7 b = 1))
noncomputable def mDgBs (G T : HS) (d : Int64) : Nat → Int64
  | 0 => d
  | i + 1 => mDgB G T i (mDgBs G T d i)
noncomputable def mDgC (G T : HS) (n c : Nat) (d : Int64) : Int64 := mOn (mOn (mOn d (T 7 c)) (nI (mBad G T (nI c) n))) (G 3 c)
noncomputable def mDgCs (G T : HS) (n : Nat) (d : Int64) : Nat → Int64
  | 0 => d
  | i + 1 => mDgC G T n i (mDgCs G T n d i)
noncomputable def mDgF (G T : HS) (n f : Nat) (d : Int64) : Int64 := mOn (mOn (mOn (mOn d (G 1 f)) (bI (¬ G 2 f = 0))) (nI (mRdyN G T f n))) (mMissing G T f n)
noncomputable def mDgFs (G T : HS) (n : Nat) (d : Int64) : Nat → Int64
  | 0 => d
  | i + 1 => mDgF G T n i (mDgFs G T n d i)
noncomputable def mDg0 (G T : HS) (n : Nat) : Int64 := mOn (mOn (mOn (mOn (mOn (mOn (mOn (mOn (mOn 1867 (T 0 0)) (G 0 1)) (G 0 3)) (T 0 1)) (nI (mCnt T 1 n))) (nI (mCnt T 3 n))) (nI (mFil G 1 n))) (nI (mFil G 2 n))) (G 0 2)
noncomputable def mDig (G T : HS) (n nf : Nat) : Int64 := mDgFs G T n (mDgCs G T n (mDgBs G T (mDg0 G T n) n) 4) nf
/-- what the reference's walks need of its state -/
abbrev okB (f : Nat → Int32) : Prop := ∀ j, j < 12 → ¬ f j = -1 → f j = nI (ix (f j)) ∧ ix (f j) < 40
abbrev okF (G : HS) : Prop := ∀ b, b < 40 → G 4 b = nI (ix (G 4 b)) ∧ ix (G 4 b) < 6
abbrev okC (G : HS) : Prop := ∀ f, f < 6 → ¬ G 1 f = -1 → G 1 f = nI (ix (G 1 f)) ∧ ix (G 1 f) < 4
abbrev okL (T : HS) : Prop := T 0 1 = nI (ix (T 0 1)) ∧ ix (T 0 1) ≤ 40 ∧ (0 < T 0 1 → 0 < ix (T 0 1) ∧ T 6 0 = nI (ix (T 6 0)) ∧ ix (T 6 0) < 40)
abbrev okA (T : HS) : Prop := ∀ b, b < 40 → T 1 b = 2 → T 2 b = nI (ix (T 2 b)) ∧ ix (T 2 b) < 4
abbrev okN (G : HS) (n nf : Nat) : Prop := G 0 3 = nI n ∧ n ≤ 40 ∧ G 0 1 = nI nf ∧ nf ≤ 6
theorem okB_turn {f : Nat → Int32} (h : okB f) : okB (xturn 12 f) := by
  intro j hj h1
  unfold xturn at h1 ⊢
  rw [if_pos hj] at h1 ⊢
  by_cases h0 : j = 0
  · rw [if_pos h0] at h1 ⊢
    exact h 11 (by omega) h1
  · rw [if_neg h0] at h1 ⊢
    exact h (j - 1) (by omega) h1
theorem okB_off {f : Nat → Int32} (h : okB f) (i : Nat) : okB (upd f i (-1)) := by
  intro j hj h1
  unfold upd at h1 ⊢
  by_cases h0 : j = i
  · rw [if_pos h0] at h1
    exact absurd rfl h1
  · rw [if_neg h0] at h1 ⊢
    exact h j hj h1
theorem mMiss_5 {T : HS} {b : Nat} (h : okB (T 5)) : okB (mMiss T b 5) := by
  unfold mMiss
  by_cases h1 : 3 ≤ T 4 b + 1
  · rw [sel_t h1]; exact okB_off h 2
  · rw [sel_f h1]; exact h
theorem mTag_5 {G T : HS} (h : okB (T 5)) : okB (mTag G T 5) := by
  unfold mTag
  by_cases h1 : T 5 2 = -1
  · rw [sel_t h1]; exact h
  · rw [sel_f h1]
    by_cases h2 : T 3 (ix (T 5 2)) = -1
    · rw [sel_t h2]
      by_cases h3 : ¬ G 0 2 < G 6 (ix (T 5 2)) ∧ ¬ G 1 (ix (G 4 (ix (T 5 2)))) = -1
      · rw [sel_t h3]; exact h
      · rw [sel_f h3]; exact mMiss_5 h
    · rw [sel_f h2]; exact h
theorem mSlT_5 {G T : HS} {c : Nat} (h : okB (T 5)) : okB (mSlT G T c 5) := by
  unfold mSlT
  by_cases h1 : mSlP G T c
  · rw [sel_t h1]; exact okB_off h _
  · rw [sel_f h1]; exact h
theorem mSl_5 {G T : HS} (h : okB (T 5)) : ∀ i, okB ((mSl G T i).2 5)
  | 0 => h
  | i + 1 => mSlT_5 (mSl_5 h i)
theorem mTag_0 (G T : HS) : mTag G T 0 = T 0 := by
  unfold mTag
  by_cases h1 : T 5 2 = -1
  · rw [sel_t h1]
  · rw [sel_f h1]
    by_cases h2 : T 3 (ix (T 5 2)) = -1
    · rw [sel_t h2]
      by_cases h3 : ¬ G 0 2 < G 6 (ix (T 5 2)) ∧ ¬ G 1 (ix (G 4 (ix (T 5 2)))) = -1
      · rw [sel_t h3]; rfl
      · rw [sel_f h3]
        unfold mMiss
        by_cases h4 : 3 ≤ T 4 (ix (T 5 2)) + 1
        · rw [sel_t h4]; rfl
        · rw [sel_f h4]; rfl
    · rw [sel_f h2]
theorem mTag_6 (G T : HS) : mTag G T 6 = T 6 := by
  unfold mTag
  by_cases h1 : T 5 2 = -1
  · rw [sel_t h1]
  · rw [sel_f h1]
    by_cases h2 : T 3 (ix (T 5 2)) = -1
    · rw [sel_t h2]
      by_cases h3 : ¬ G 0 2 < G 6 (ix (T 5 2)) ∧ ¬ G 1 (ix (G 4 (ix (T 5 2)))) = -1
      · rw [sel_t h3]; rfl
      · rw [sel_f h3]
        unfold mMiss
        by_cases h4 : 3 ≤ T 4 (ix (T 5 2)) + 1
        · rw [sel_t h4]; rfl
        · rw [sel_f h4]; rfl
    · rw [sel_f h2]
theorem mSlT_0 (G T : HS) (c : Nat) : mSlT G T c 0 = T 0 := by
  unfold mSlT
  by_cases h1 : mSlP G T c
  · rw [sel_t h1]; rfl
  · rw [sel_f h1]
theorem mSlT_6 (G T : HS) (c : Nat) : mSlT G T c 6 = T 6 := by
  unfold mSlT
  by_cases h1 : mSlP G T c
  · rw [sel_t h1]; rfl
  · rw [sel_f h1]
theorem mSl_0 (G T : HS) : ∀ i, (mSl G T i).2 0 = T 0
  | 0 => rfl
  | i + 1 => (mSlT_0 G _ i).trans (mSl_0 G T i)
theorem mSl_6 (G T : HS) : ∀ i, (mSl G T i).2 6 = T 6
  | 0 => rfl
  | i + 1 => (mSlT_6 G _ i).trans (mSl_6 G T i)
theorem okL_sl {G T : HS} (h : okL T) : okL (mSl G (mTag G (mTrn T)) 4).2 := by
  have e0 : (mSl G (mTag G (mTrn T)) 4).2 0 = T 0 := (mSl_0 G _ 4).trans (mTag_0 G _)
  have e6 : (mSl G (mTag G (mTrn T)) 4).2 6 = T 6 := (mSl_6 G _ 4).trans (mTag_6 G _)
  unfold okL
  rw [e0, e6]
  exact h
theorem nI_bI (n : Nat) (P : Prop) : nI n + bI P = nI (n + bN P) := by
  by_cases h : P
  · rw [bI_t h, bN, sel_t h]; exact nI_1 n
  · rw [bI_f h, bN, sel_f h, Int32.add_zero]; rfl
theorem mIn_n {x : Int32} {n : Nat} (hn : n ≤ 40) (h : mIn x 0 (nI n - 1)) : x = nI (ix x) ∧ ix x < n := by
  obtain ⟨h1, h2⟩ := h
  obtain ⟨j, hj, rfl⟩ := nI_of h1
  rw [ix_n hj]
  refine ⟨rfl, ?_⟩
  rcases Nat.eq_zero_or_pos n with q | q
  · subst q
    exact absurd (show nI 0 - 1 < nI j by rw [show nI 0 - 1 = -1 from rfl]; rw [Int32.lt_iff_toInt_lt, nI_toInt hj]; show (-1 : Int) < _; omega) h2
  · rw [isub1 q] at h2
    rw [nI_ltI (by omega) hj] at h2
    omega
theorem mIn_k {x : Int32} {n : Nat} (hn : n < 2 ^ 31) (h : mIn x 0 (nI n)) : x = nI (ix x) ∧ ix x ≤ n := by
  obtain ⟨h1, h2⟩ := h
  obtain ⟨j, hj, rfl⟩ := nI_of h1
  rw [ix_n hj]
  rw [nI_ltI hn hj] at h2
  exact ⟨rfl, by omega⟩
theorem mAtL_s1 {f at_ : Nat → Int32} {i : Nat} (h : f i = -1) : mAtL f at_ (i + 1) = mAtL f at_ i := sel_t h _ _
theorem mAtL_s2 {f at_ : Nat → Int32} {i : Nat} (h : ¬ f i = -1) : mAtL f at_ (i + 1) = upd (mAtL f at_ i) (ix (f i)) (nI i) := sel_f h _ _
