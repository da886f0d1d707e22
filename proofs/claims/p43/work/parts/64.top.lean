section TOP
variable {S G T : HS} {n nf : Nat}
/-- the two sides' tests of a number -/
theorem in_iff_n {x : Int32} {k : Nat} (hk : k ≤ 40) : (¬ x < 0 ∧ x < nI k) ↔ mIn x 0 (nI k - 1) := by
  unfold mIn
  refine and_congr_right (fun h => ?_)
  obtain ⟨j, hj, rfl⟩ := nI_of h
  rcases Nat.eq_zero_or_pos k with q | q
  · subst q
    refine ⟨fun e => absurd e h, fun e => absurd ?_ e⟩
    show nI 0 - 1 < nI j
    rw [show nI 0 - 1 = (-1 : Int32) from rfl, Int32.lt_iff_toInt_lt, nI_toInt hj]
    show (-1 : Int) < j
    omega
  · rw [isub1 q, nI_ltI hj (by omega), nI_ltI (by omega) hj]
    omega
theorem bag_iff (ha : RA S G n nf) {b : Int32} : xBag S b ↔ mIn b 0 (nI n - 1) := by
  unfold xBag
  rw [ha.sn]
  exact in_iff_n ha.n40
theorem flt_iff (ha : RA S G n nf) {f : Int32} : xFlt S f ↔ mIn f 0 (nI nf - 1) := by
  unfold xFlt
  rw [ha.sf_]
  exact in_iff_n (Nat.le_trans ha.nf6 (by decide))
theorem le_iff_k {x : Int32} {k : Nat} (hk : k < 2 ^ 30) (h : ¬ x < 0) : x < nI (k + 1) ↔ ¬ nI k < x := by
  obtain ⟨j, hj, rfl⟩ := nI_of h
  rw [nI_ltI hj (by omega), nI_ltI (by omega) hj]
  omega
theorem ch_iff {c : Int32} : xCh c ↔ mIn c 0 3 := by
  unfold xCh mIn
  refine and_congr_right (fun h => ?_)
  rw [Int32.not_le]
  exact le_iff_k (k := 3) (by decide) h
theorem pl_iff {q : Int32} : (¬ q < 0 ∧ q < 12) ↔ mIn q 0 11 := by
  unfold mIn
  exact and_congr_right (fun h => le_iff_k (k := 11) (by decide) h)
theorem m60_iff {z : Int32} : xM60 z ↔ mIn z 1 60 := Iff.rfl
theorem bag_of (ha : RA S G n nf) {b : Int32} (h : xBag S b) : ∃ j, j < n ∧ b = nI j ∧ ix b = j := by
  have := ha.n40
  obtain ⟨h1, h2⟩ := mIn_n ha.n40 ((bag_iff ha).mp h)
  exact ⟨ix b, h2, h1, rfl⟩
theorem flt_of (ha : RA S G n nf) {f : Int32} (h : xFlt S f) : ∃ j, j < nf ∧ f = nI j ∧ ix f = j := by
  have := ha.nf6
  obtain ⟨h1, h2⟩ := mIn_n (by omega) ((flt_iff ha).mp h)
  exact ⟨ix f, h2, h1, rfl⟩
theorem ch_of {c : Int32} (h : xCh c) : ∃ j, j < 4 ∧ c = nI j ∧ ix c = j := by
  obtain ⟨h1, h2⟩ := mIn_k (n := 3) (by decide) (ch_iff.mp h)
  exact ⟨ix c, by omega, h1, rfl⟩
theorem pl_of {q : Int32} (h : ¬ q < 0 ∧ q < 12) : ∃ j, j < 12 ∧ q = nI j ∧ ix q = j := by
  obtain ⟨h1, h2⟩ := mIn_k (n := 11) (by decide) (pl_iff.mp h)
  exact ⟨ix q, by omega, h1, rfl⟩
theorem m60_of {z : Int32} (h : xM60 z) : ∃ j, j < 2 ^ 31 ∧ z = nI j ∧ ix z = j := by
  obtain ⟨h1, h2⟩ := mIn_1 (m60_iff.mp h)
  exact ⟨ix z, by omega, h1, rfl⟩
theorem hand_iff (hb : RB S T n) {b : Nat} (h : b < n) : xHand S (nI b) ↔ mAside T b := by
  have := hb.n40
  unfold xHand mAside
  rw [rd_40 (by omega), hb.whr b h]
theorem full_iff (ha : RA S G n nf) : S 0 4 < 40 ↔ ¬ nI n = 40 := by
  have := ha.n40
  rw [ha.sn, show (40 : Int32) = nI 40 from rfl, nI_ltI (by omega) (by decide), nI_eq (by omega) (by decide)]
  omega
theorem six_iff (ha : RA S G n nf) : S 0 3 < 6 ↔ ¬ G 0 1 = 6 := by
  have := ha.nf6
  rw [ha.sf_, ha.gf_, show (6 : Int32) = nI 6 from rfl, nI_ltI (by omega) (by decide), nI_eq (by omega) (by decide)]
  omega
theorem full_of (ha : RA S G n nf) (h : S 0 4 < 40) : n < 40 := by
  have := ha.n40
  rw [ha.sn, show (40 : Int32) = nI 40 from rfl, nI_ltI (by omega) (by decide)] at h
  exact h
theorem six_of (ha : RA S G n nf) (h : S 0 3 < 6) : nf < 6 := by
  have := ha.nf6
  rw [ha.sf_, show (6 : Int32) = nI 6 from rfl, nI_ltI (by omega) (by decide)] at h
  exact h
theorem ng_iff (ha : RA S G n nf) {f : Nat} (h : f < 6) : (¬ xGone S (nI f)) ↔ G 2 f = 0 := by
  rw [propext (gone_iff ha h)]
  exact Classical.not_not
/-- a bag comes in -/
theorem take_rb (hb : RB S T n) {b : Nat} (h : b < n) (h3 : T 1 b = 3 ∨ T 1 b = 4) : RB (xTakeIn S (nI b)) (sel (S 4 b ≤ 7) (mLine T b) (mPutB T b 4 (-1))) n := by
  have := hb.n40
  unfold xTakeIn
  rw [rd_40 (by omega), wr_40 (by omega), wr_40 (by omega)]
  by_cases q : S 4 b ≤ 7
  · rw [sel_t q, sel_t q]; exact line_rb hb h h3
  · rw [sel_f q, sel_f q]; exact big_rb hb h h3
theorem take_ra (ha : RA S G n nf) (b : Int32) : RA (xTakeIn S b) G n nf := by
  unfold xTakeIn
  by_cases q : rd 40 (S 4) b ≤ 7
  · rw [sel_t q]; exact RA_same ha rfl rfl rfl rfl rfl rfl rfl rfl rfl rfl
  · rw [sel_f q]; exact RA_same ha rfl rfl rfl rfl rfl rfl rfl rfl rfl rfl
noncomputable abbrev chkG (G : HS) (n f : Nat) (z v : Int32) : HS := sf (sf (sf (sf (thr G 0) 4 (upd (G 4) n (nI f))) 5 (upd (G 5) n z)) 6 (upd (G 6) n v)) 7 (upd (G 7) n 0)
theorem chk_ra (ha : RA S G n nf) (h : n < 40) {f : Nat} (hf : f < nf) (z v : Int32) : RA (xAddBg S (nI f) z v) (sf (chkG G n f z v) 0 (upd (chkG G n f z v 0) 3 (G 0 3 + 1))) (n + 1) nf := by
  have h6 := ha.nf6
  have w3 : wr 40 (S 3) (S 0 4) (nI f) = upd (S 3) n (nI f) := by rw [ha.sn]; exact wr_40 h
  have w4 : wr 40 (S 4) (S 0 4) z = upd (S 4) n z := by rw [ha.sn]; exact wr_40 h
  have w5 : wr 40 (S 5) (S 0 4) v = upd (S 5) n v := by rw [ha.sn]; exact wr_40 h
  refine ⟨by omega, h6, ?_, ?_, ha.sf_, ha.gf_, ha.str, ha.chu, ha.chr, ha.gon, ha.gob, ha.roo, ?_, ?_, ?_, ?_, ?_, ?_⟩
  · show S 0 4 + 1 = _
    rw [ha.sn, nI_1]
  · show G 0 3 + 1 = _
    rw [ha.gn, nI_1]
  · intro i hi
    show wr 40 (S 3) (S 0 4) (nI f) i = upd (G 4) n (nI f) i ∧ ∃ f2, f2 < nf ∧ upd (G 4) n (nI f) i = nI f2
    rw [w3]
    by_cases e : i = n
    · rw [e, upd_e, upd_e]
      exact ⟨rfl, f, hf, rfl⟩
    · rw [upd_n e, upd_n e]; exact ha.fli i (by omega)
  · intro i hi
    show ∃ f2, f2 < 6 ∧ upd (G 4) n (nI f) i = nI f2
    by_cases e : i = n
    · rw [e, upd_e]
      exact ⟨f, by omega, rfl⟩
    · rw [upd_n e]; exact ha.fl6 i hi
  · intro i hi
    show wr 40 (S 4) (S 0 4) z i = upd (G 5) n z i
    rw [w4]
    by_cases e : i = n
    · rw [e, upd_e, upd_e]
    · rw [upd_n e, upd_n e]; exact ha.siz i (by omega)
  · intro i hi
    show wr 40 (S 5) (S 0 4) v i = upd (G 6) n v i
    rw [w5]
    by_cases e : i = n
    · rw [e, upd_e, upd_e]
    · rw [upd_n e, upd_n e]; exact ha.smu i (by omega)
  · intro i hi
    show S 10 i = upd (G 7) n 0 i
    by_cases e : i = n
    · rw [e, upd_e]; exact (ha.oua n (Nat.le_refl n) h).2
    · rw [upd_n e]; exact ha.fil i (by omega)
  · intro i h1 h2
    show wr 40 (S 3) (S 0 4) (nI f) i = -1 ∧ S 10 i = 0
    rw [w3, upd_n (by omega)]
    exact ha.oua i (by omega) h2
/-- a bag is checked in -/
theorem chk_rel (ha : RA S G n nf) (hb : RB S T n) (h : n < 40) {f : Nat} (hf : f < nf) (z v : Int32) : RA (xTakeIn (xAddBg S (nI f) z v) (S 0 4)) (sf (chkG G n f z v) 0 (upd (chkG G n f z v 0) 3 (G 0 3 + 1))) (n + 1) nf ∧ RB (xTakeIn (xAddBg S (nI f) z v) (S 0 4)) (mBegin (chkG G n f z v) T n) (n + 1) := by
  refine ⟨take_ra (chk_ra ha h hf z v) _, ?_⟩
  have w4 : wr 40 (S 4) (S 0 4) z = upd (S 4) n z := by rw [ha.sn]; exact wr_40 h
  have X4 : xAddBg S (nI f) z v 4 n = z := by
    show wr 40 (S 4) (S 0 4) z n = z
    rw [w4, upd_e]
  have G5 : chkG G n f z v 5 n = z := upd_e (G 5) n z
  have hx := ext_rb hb h
  rw [ha.sn]
  unfold mBegin
  rw [G5]
  unfold xTakeIn
  rw [rd_40 h, wr_40 h, wr_40 h, X4]
  by_cases q : z ≤ 7
  · rw [sel_t q, sel_t q]
    have hl := line_rb hx (b := n) (by omega) (Or.inr (upd_e (T 1) n 4))
    refine rb_tsame (RB_same hl rfl rfl ?_ rfl rfl rfl rfl rfl) rfl ?_ ?_ rfl rfl rfl rfl rfl
    · show upd (S 6) n 0 = upd (upd (S 6) n 4) n 0
      rw [upd_upd]
    · show upd (T 1) n 0 = upd (upd (T 1) n 4) n 0
      rw [upd_upd]
    · show upd (T 2) n (-1) = upd (upd (T 2) n (-1)) n (-1)
      rw [upd_upd]
  · rw [sel_f q, sel_f q]
    exact RB_same hx rfl rfl rfl rfl rfl rfl rfl rfl
theorem fwd_ra (ha : RA S G n nf) {b f : Nat} (h : b < n) (hf : f < nf) : RA (sf S 3 (upd (S 3) b (nI f))) (sf G 4 (upd (G 4) b (nI f))) n nf := by
  have h6 := ha.nf6
  refine ⟨ha.n40, h6, ha.sn, ha.gn, ha.sf_, ha.gf_, ha.str, ha.chu, ha.chr, ha.gon, ha.gob, ha.roo, ?_, ?_, ha.siz, ha.smu, ha.fil, ?_⟩
  · intro i hi
    show upd (S 3) b (nI f) i = upd (G 4) b (nI f) i ∧ ∃ f2, f2 < nf ∧ upd (G 4) b (nI f) i = nI f2
    by_cases e : i = b
    · rw [e, upd_e, upd_e]
      exact ⟨rfl, f, hf, rfl⟩
    · rw [upd_n e, upd_n e]; exact ha.fli i hi
  · intro i hi
    show ∃ f2, f2 < 6 ∧ upd (G 4) b (nI f) i = nI f2
    by_cases e : i = b
    · rw [e, upd_e]
      exact ⟨f, by omega, rfl⟩
    · rw [upd_n e]; exact ha.fl6 i hi
  · intro i h1 h2
    exact ⟨(upd_n (f := S 3) (by omega)).trans (ha.oua i h1 h2).1, (ha.oua i h1 h2).2⟩
/-- a bag is given another flight -/
theorem fwd_rel (ha : RA S G n nf) (hb : RB S T n) {b f : Nat} (h : b < n) (hf : f < nf) (h3 : T 1 b = 3 ∨ T 1 b = 4) :
    RA (xTakeIn (xRenew S (nI b) (nI f)) (nI b)) (mClose (sf (thr G 0) 4 (upd (G 4) b (nI f))) b) n nf ∧ RB (xTakeIn (xRenew S (nI b) (nI f)) (nI b)) (mBegin (sf (thr G 0) 4 (upd (G 4) b (nI f))) T b) n := by
  have h40 := hb.n40
  have e0 : xRenew S (nI b) (nI f) = xClose (sf (sf (sf S 3 (upd (S 3) b (nI f))) 8 (upd (S 8) b (-1))) 9 (upd (S 9) b 0)) (nI b) := by
    unfold xRenew
    rw [wr_40 (by omega), wr_40 (by omega), wr_40 (by omega)]
  rw [e0]
  have a1 : RA (sf (sf (sf S 3 (upd (S 3) b (nI f))) 8 (upd (S 8) b (-1))) 9 (upd (S 9) b 0)) (sf (thr G 0) 4 (upd (G 4) b (nI f))) n nf := RA_same (fwd_ra (RA_thr ha 0) h hf) rfl rfl rfl rfl rfl rfl rfl rfl rfl rfl
  refine ⟨take_ra (close_ra a1 h) _, ?_⟩
  have b1 : RB (xClose (sf (sf (sf S 3 (upd (S 3) b (nI f))) 8 (upd (S 8) b (-1))) 9 (upd (S 9) b 0)) (nI b)) (sf (sf T 3 (upd (T 3) b (-1))) 4 (upd (T 4) b 0)) n := close_rb (RB_same (S' := sf (sf (sf S 3 (upd (S 3) b (nI f))) 8 (upd (S 8) b (-1))) 9 (upd (S 9) b 0)) (reset_rb hb h) rfl rfl rfl rfl rfl rfl rfl rfl) _
  have b2 := take_rb b1 h h3
  have e4 : xClose (sf (sf (sf S 3 (upd (S 3) b (nI f))) 8 (upd (S 8) b (-1))) 9 (upd (S 9) b 0)) (nI b) 4 b = G 5 b := (congrFun (xClose_r _ _ (by decide)) b).trans (ha.siz b h)
  rw [e4] at b2
  exact b2
/-- a bag is carried into a chute -/
theorem carry_rel (ha : RA S G n nf) (hb : RB S T n) {b c : Nat} (h : b < n) (hc : c < 4) (h3 : T 1 b = 3 ∨ T 1 b = 4) : RA (xPut S (nI b) (nI c)) (thr G 0) n nf ∧ RB (xPut S (nI b) (nI c)) (mToCh T b c) n := by
  have h40 := hb.n40
  have k0 : ¬ T 1 b = 0 ∧ ¬ T 1 b = 1 ∧ ¬ T 1 b = 2 := by
    rcases h3 with e | e <;> (rw [e]; decide)
  refine ⟨RA_same (RA_thr ha 0) rfl rfl rfl rfl rfl rfl rfl rfl rfl rfl, ?_⟩
  exact rb_move hb h (w := 2) (p := nI c) (q := nI c) k0.1 (by decide) (by decide) hb.mnt rfl rfl (wr_40 (by omega)) (wr_40 (by omega)) hb.rdd hb.mis (fun i hi => ⟨rfl, rfl⟩) hb.bel rfl rfl rfl rfl
    (in_add hb h hc k0.2.2) (fun _ => ⟨rfl, c, hc, rfl⟩) (fun z => absurd rfl z) (on_1 hb h k0.2.1) (fun i j _ _ _ e => e)
/-- the trials -/
theorem un_eq (ha : RA S G n nf) (hb : RB S T n) {b : Nat} (h : b < n) : xUnA S (nI b) = mUnA G T b := by
  have h40 := hb.n40
  have e : xUnN S (nI b) = mUnN G T b := by
    refine unt_cong (fun j _ => ?_)
    obtain ⟨-, g2⟩ := un_rel ha hb j
    show rd 40 (xUn S j 6) (nI b) = 2 ↔ mUn G T j 1 b = 2
    rw [rd_40 (by omega), g2.whr b h]
  unfold xUnA mUnA
  rw [e]
theorem beh_eq (ha : RA S G n nf) (hb : RB S T n) {f c N : Nat} (hf : f < nf) (hc : c < 4) : xBeh S (nI f) (nI c) N n = mBeh (mSetC G f c) T f N n := by
  have h6 := ha.nf6
  obtain ⟨g1, g2, -⟩ := go_rel (chg_ra ha (f := f) (c := c) (by omega) hc) (S := xChg S (nI f) (nI c)) (T := T) (RB_same hb rfl rfl rfl rfl rfl rfl rfl rfl) N
  exact rdy_ct g1 g2 hf
/-- with the chute that the flight has -/
theorem chg_self (ha : RA S G n nf) {f : Nat} (hf : f < 6) : xChg S (nI f) (rd 6 (S 1) (nI f)) = S := by
  unfold xChg
  rw [rd_6 hf, wr_6 hf, upd_id rfl]
  exact sf_self S 1
theorem beh_self (ha : RA S G n nf) (hb : RB S T n) {f N : Nat} (hf : f < nf) : xBeh S (nI f) (rd 6 (S 1) (nI f)) N n = mBeh G T f N n := by
  have h6 := ha.nf6
  unfold xBeh mBeh
  rw [chg_self ha (by omega)]
  obtain ⟨g1, g2, -⟩ := go_rel ha hb N
  exact rdy_ct g1 g2 hf
theorem best_eq (ha : RA S G n nf) (hb : RB S T n) {f N : Nat} (hf : f < nf) : ∀ i, i < 4 → xBest S (nI f) N n (i + 1) = mBest G T f N n (i + 1)
  | 0, _ => by
    have e := beh_eq ha hb (N := N) hf (c := 0) (by omega)
    have hle : mBeh (mSetC G f 0) T f N n ≤ n := ct_le _ n
    have h40 := hb.n40
    have q : (-1 : Int32) < nI (mBeh (mSetC G f 0) T f N n) := by
      rw [Int32.lt_iff_toInt_lt, nI_toInt (by omega)]
      show (-1 : Int) < _
      omega
    have q1 : (xBest S (nI f) N n 0).2 < nI (xBeh S (nI f) (nI 0) N n) := by rw [e]; exact q
    rw [xBest_t q1, mBest_t (show (mBest G T f N n 0).2 < nI (mBeh (mSetC G f 0) T f N n) from q), e]
  | i + 1, hi => by
    have ih := best_eq ha hb (N := N) hf i (by omega)
    have e := beh_eq ha hb (N := N) hf (c := i + 1) hi
    by_cases q : (mBest G T f N n (i + 1)).2 < nI (mBeh (mSetC G f (i + 1)) T f N n)
    · have q1 : (xBest S (nI f) N n (i + 1)).2 < nI (xBeh S (nI f) (nI (i + 1)) N n) := by rw [ih, e]; exact q
      rw [xBest_t q1, mBest_t q, e]
    · have q1 : ¬ (xBest S (nI f) N n (i + 1)).2 < nI (xBeh S (nI f) (nI (i + 1)) N n) := by rw [ih, e]; exact q
      rw [xBest_f q1, mBest_f q, ih]
/-- the digests -/
theorem dgB_eq (ha : RA S G n nf) (hb : RB S T n) {b : Nat} (h : b < n) (d : Int64) : xDgB S (nI b) d = mDgB G T b d := by
  have h40 := hb.n40
  unfold xDgB mDgB
  rw [rd_40 (by omega), rd_40 (by omega), rd_40 (by omega), rd_40 (by omega), rd_40 (by omega), rd_40 (by omega), place_eq hb h, chute_eq hb h, (ha.fli b h).1, hb.whr b h, hb.rdd b h, hb.mis b h, ha.fil b h, propext (ast_iff ha hb h)]
theorem dgC_eq (ha : RA S G n nf) (hb : RB S T n) {c : Nat} (h : c < 4) (d : Int64) : xDgC S n (nI c) d = mDgC G T n c d := by
  unfold xDgC mDgC
  rw [in_ct hb h, mis_ct ha hb h, rd_4 h, ha.roo c h]
theorem dgF_eq (ha : RA S G n nf) (hb : RB S T n) {f : Nat} (h : f < nf) (d : Int64) : xDgF S n (nI f) d = mDgF G T n f d := by
  have h6 := ha.nf6
  unfold xDgF mDgF mMissing
  rw [rd_6 (by omega), ha.chu f (by omega), propext (gone_iff ha (by omega)), rdy_ct ha hb h, of_ct ha h]
theorem dig_eq (ha : RA S G n nf) (hb : RB S T n) : xDig S n nf = mDig G T n nf := by
  have e0 : xDgH S 1867 = mDg0 G T n := by
    unfold xDgH mDg0
    rw [hb.mnt, ha.sf_, ha.gf_, ha.sn, ha.gn, where_ct hb (by decide), where_ct hb (by decide), where_ct hb (by decide), file_ct ha (by decide), file_ct ha (by decide), ha.str, show nI (mCnt T 0 n) = T 0 1 from hb.len.symm]
  have e1 : ∀ d i, i ≤ n → xDgBs S d i = mDgBs G T d i := by
    intro d i
    induction i with
    | zero => intro _; rfl
    | succ i ih =>
      intro hi
      show xDgB S (nI i) (xDgBs S d i) = mDgB G T i (mDgBs G T d i)
      rw [ih (by omega), dgB_eq ha hb (by omega)]
  have e2 : ∀ d i, i ≤ 4 → xDgCs S n d i = mDgCs G T n d i := by
    intro d i
    induction i with
    | zero => intro _; rfl
    | succ i ih =>
      intro hi
      show xDgC S n (nI i) (xDgCs S n d i) = mDgC G T n i (mDgCs G T n d i)
      rw [ih (by omega), dgC_eq ha hb (by omega)]
  have e3 : ∀ d i, i ≤ nf → xDgFs S n d i = mDgFs G T n d i := by
    intro d i
    induction i with
    | zero => intro _; rfl
    | succ i ih =>
      intro hi
      show xDgF S n (nI i) (xDgFs S n d i) = mDgF G T n i (mDgFs G T n d i)
      rw [ih (by omega), dgF_eq ha hb (by omega)]
  unfold xDig mDig
  rw [e0, e1 _ n (Nat.le_refl n), e2 _ 4 (Nat.le_refl 4), e3 _ nf (Nat.le_refl nf)]
theorem mean_eq (ha : RA S G n nf) (hb : RB S T n) : xMean S = mMean (T 4) n := by
  have h40 := hb.n40
  unfold xMean mMean
  rw [ha.sn, miss_sum hb]
  rcases Nat.eq_zero_or_pos n with q | q
  · rw [sel_t (show nI n ≤ 0 from by rw [q]; decide), sel_t (show nI n = 0 from by rw [q]; rfl)]
  · rw [sel_f (nI_nle q (by omega)), sel_f (nI_ne0 q (by omega))]
end TOP
