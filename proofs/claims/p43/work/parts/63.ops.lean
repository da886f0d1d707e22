section OPS
variable {S G T : HS} {n nf : Nat}
theorem upd_upd (f : Nat → Int32) (i : Nat) (v w : Int32) : upd (upd f i v) i w = upd f i w := by
  funext j
  by_cases e : j = i
  · rw [e, upd_e, upd_e]
  · rw [upd_n e, upd_n e, upd_n e]
theorem RB_same {S' : HS} (hb : RB S T n) (e0 : S' 0 0 = S 0 0) (e2 : S' 0 2 = S 0 2) (e6 : S' 6 = S 6) (e7 : S' 7 = S 7) (e8 : S' 8 = S 8) (e9 : S' 9 = S 9) (e12 : S' 12 = S 12) (e13 : S' 13 = S 13) : RB S' T n := by
  refine ⟨hb.n40, e0.trans hb.mnt, e2.trans hb.lin, hb.len, ?_, ?_, ?_, ?_, ?_, ?_, hb.inn, ?_, hb.bl1, hb.bl2, ?_, hb.lnd⟩
  · rw [e6]; exact hb.whr
  · rw [e8]; exact hb.rdd
  · rw [e9]; exact hb.mis
  · rw [e7]; exact hb.cin
  · rw [e7]; exact hb.cno
  · rw [e6, e7, e8, e9]; exact hb.out
  · rw [e12]; exact hb.bel
  · rw [e13]; exact hb.lns
theorem rb_tsame {T' : HS} (hb : RB S T n) (e0 : T' 0 = T 0) (e1 : T' 1 = T 1) (e2 : T' 2 = T 2) (e3 : T' 3 = T 3) (e4 : T' 4 = T 4) (e5 : T' 5 = T 5) (e6 : T' 6 = T 6) (e7 : T' 7 = T 7) : RB S T' n := by
  have hL : mL T' n = mL T n := by
    show ct (fun b => T' 1 b = 0) n = _
    rw [e1]
  refine ⟨hb.n40, by rw [e0]; exact hb.mnt, by rw [e0]; exact hb.lin, by rw [e0, hL]; exact hb.len, by rw [e1]; exact hb.whr, by rw [e3]; exact hb.rdd, by rw [e4]; exact hb.mis, by rw [e1, e2]; exact hb.cin, by rw [e1]; exact hb.cno, by rw [e1]; exact hb.out, by rw [e1, e2, e7]; exact hb.inn, by rw [e5]; exact hb.bel, by rw [e1, e2, e5]; exact hb.bl1, by rw [e1, e2, e5]; exact hb.bl2, ?_, ?_⟩
  · rw [hL, e1, e6]; exact hb.lns
  · rw [hL, e6]; exact hb.lnd
theorem RA_thr (ha : RA S G n nf) (v : Int32) : RA S (thr G v) n nf := ha
theorem add_ra (ha : RA S G n nf) (h : nf < 6) : RA (xAddFl S) (sf (thr G 0) 0 (upd ((thr G 0) 0) 1 (G 0 1 + 1))) n (nf + 1) :=
  ⟨ha.n40, by omega, ha.sn, ha.gn, by show S 0 3 + 1 = _; rw [ha.sf_, nI_1], by show G 0 1 + 1 = _; rw [ha.gf_, nI_1], ha.str, ha.chu, ha.chr, ha.gon, ha.gob, ha.roo, fun b hb => ⟨(ha.fli b hb).1, (ha.fli b hb).2.elim (fun f hf => ⟨f, by omega, hf.2⟩)⟩, ha.fl6, ha.siz, ha.smu, ha.fil, ha.oua⟩
theorem chg_ra (ha : RA S G n nf) {f c : Nat} (hf : f < 6) (hc : c < 4) : RA (xChg S (nI f) (nI c)) (mSetC G f c) n nf := by
  have e : ∀ i, i < 6 → wr 6 (S 1) (nI f) (nI c) i = upd (G 1) f (nI c) i := by
    intro i hi
    rw [wr_6 hf]
    by_cases q : i = f
    · rw [q, upd_e, upd_e]
    · rw [upd_n q, upd_n q]; exact ha.chu i hi
  refine ⟨ha.n40, ha.nf6, ha.sn, ha.gn, ha.sf_, ha.gf_, ha.str, e, ?_, ha.gon, ha.gob, ha.roo, ha.fli, ha.fl6, ha.siz, ha.smu, ha.fil, ha.oua⟩
  intro i hi h1
  show ∃ c2, c2 < 4 ∧ upd (G 1) f (nI c) i = nI c2
  have h1 : ¬ upd (G 1) f (nI c) i = -1 := h1
  by_cases q : i = f
  · exact ⟨c, hc, by rw [q, upd_e]⟩
  · rw [upd_n q] at h1
    obtain ⟨c2, g1, g2⟩ := ha.chr i hi h1
    exact ⟨c2, g1, by rw [upd_n q]; exact g2⟩
theorem set_ra (ha : RA S G n nf) (z : Int32) : RA (sf S 0 (upd (S 0) 1 z)) (sf (thr G 0) 0 (upd ((thr G 0) 0) 2 z)) n nf :=
  ⟨ha.n40, ha.nf6, ha.sn, ha.gn, ha.sf_, ha.gf_, rfl, ha.chu, ha.chr, ha.gon, ha.gob, ha.roo, ha.fli, ha.fl6, ha.siz, ha.smu, ha.fil, ha.oua⟩
theorem roo_ra (ha : RA S G n nf) {c : Nat} (hc : c < 4) (z : Int32) : RA (sf S 11 (wr 4 (S 11) (nI c) z)) (sf (thr G 0) 3 (upd (G 3) c z)) n nf := by
  refine ⟨ha.n40, ha.nf6, ha.sn, ha.gn, ha.sf_, ha.gf_, ha.str, ha.chu, ha.chr, ha.gon, ha.gob, ?_, ha.fli, ha.fl6, ha.siz, ha.smu, ha.fil, ha.oua⟩
  intro i hi
  show wr 4 (S 11) (nI c) z i = upd (G 3) c z i
  rw [wr_4 hc]
  by_cases q : i = c
  · rw [q, upd_e, upd_e]
  · rw [upd_n q, upd_n q]; exact ha.roo i hi
theorem gon_ra (ha : RA S G n nf) {f : Nat} (hf : f < 6) : RA (sf S 2 (wr 6 (S 2) (nI f) 1)) (sf G 2 (upd (G 2) f 1)) n nf := by
  refine ⟨ha.n40, ha.nf6, ha.sn, ha.gn, ha.sf_, ha.gf_, ha.str, ha.chu, ha.chr, ?_, ?_, ha.roo, ha.fli, ha.fl6, ha.siz, ha.smu, ha.fil, ha.oua⟩
  · intro i hi
    show wr 6 (S 2) (nI f) 1 i = upd (G 2) f 1 i
    rw [wr_6 hf]
    by_cases q : i = f
    · rw [q, upd_e, upd_e]
    · rw [upd_n q, upd_n q]; exact ha.gon i hi
  · intro i hi
    show upd (G 2) f 1 i = 0 ∨ upd (G 2) f 1 i = 1
    by_cases q : i = f
    · rw [q, upd_e]; exact Or.inr rfl
    · rw [upd_n q]; exact ha.gob i hi
theorem fil_ra (ha : RA S G n nf) {b : Nat} (h : b < n) (v : Int32) : RA (sf S 10 (upd (S 10) b v)) (sf G 7 (upd (G 7) b v)) n nf := by
  refine ⟨ha.n40, ha.nf6, ha.sn, ha.gn, ha.sf_, ha.gf_, ha.str, ha.chu, ha.chr, ha.gon, ha.gob, ha.roo, ha.fli, ha.fl6, ha.siz, ha.smu, ?_, ?_⟩
  · intro i hi
    show upd (S 10) b v i = upd (G 7) b v i
    by_cases q : i = b
    · rw [q, upd_e, upd_e]
    · rw [upd_n q, upd_n q]; exact ha.fil i hi
  · intro i h1 h2
    exact ⟨(ha.oua i h1 h2).1, (upd_n (f := S 10) (by omega)).trans (ha.oua i h1 h2).2⟩
theorem close_ra (ha : RA S G n nf) {b : Nat} (h : b < n) : RA (xClose S (nI b)) (mClose G b) n nf := by
  have := ha.n40
  unfold xClose mClose
  rw [rd_40 (by omega), wr_40 (by omega), ha.fil b h]
  by_cases q : G 7 b = 1
  · rw [sel_t q, sel_t q]; exact fil_ra ha h 2
  · rw [sel_f q, sel_f q]; exact ha
theorem xClose_r (S : HS) (b : Int32) {j : Nat} (h : j ≠ 10) : xClose S b j = S j := by
  unfold xClose
  by_cases q : rd 40 (S 10) b = 1
  · rw [sel_t q]; exact sf_ne _ _ h
  · rw [sel_f q]
theorem close_rb (hb : RB S T n) (b : Int32) : RB (xClose S b) T n :=
  RB_same hb (congrFun (xClose_r S b (by decide)) 0) (congrFun (xClose_r S b (by decide)) 2) (xClose_r S b (by decide)) (xClose_r S b (by decide)) (xClose_r S b (by decide)) (xClose_r S b (by decide)) (xClose_r S b (by decide)) (xClose_r S b (by decide))
/-- out of a chute -/
theorem off_rb (hb : RB S T n) {b c0 : Nat} {w : Int32} (h : b < n) (hc0 : c0 < 4) (q : T 1 b = 2) (q2 : T 2 b = nI c0) (w0 : ¬ w = 0) (w1 : ¬ w = 1) (w2 : ¬ w = 2) : RB (xOff S (nI b) w) (mDec (mPutB T b w (-1)) c0) n := by
  have h4 := hb.n40
  exact rb_move hb h (w := w) (p := -1) (q := -1) (by rw [q]; decide) w0 w1 hb.mnt rfl rfl (wr_40 (by omega)) (wr_40 (by omega)) hb.rdd hb.mis (fun i hi => ⟨rfl, rfl⟩) hb.bel rfl rfl rfl rfl
    (in_sub hb h hc0 q q2 w2) (fun z => absurd z w2) (fun _ => rfl) (on_1 hb h (by rw [q]; decide)) (fun i j _ _ _ e => e)
theorem sweep_rel (ha : RA S G n nf) (hb : RB S T n) {c : Nat} (hc : c < 4) : ∀ i, i ≤ n → RA (xCl S (nI c) i).2 (mSw G T c i).2.1 n nf ∧ RB (xCl S (nI c) i).2 (mSw G T c i).2.2 n ∧ (xCl S (nI c) i).1 = (mSw G T c i).1
  | 0, _ => ⟨ha, hb, rfl⟩
  | i + 1, hi => by
    obtain ⟨h1, h2, h3⟩ := sweep_rel ha hb hc i (by omega)
    have h : i < n := by omega
    have hiff : ((xCl S (nI c) i).2 7 i = nI c ∧ xAst (xCl S (nI c) i).2 (nI i)) ↔ (mMis (mSw G T c i).2.1 (mSw G T c i).2.2 i ∧ (mSw G T c i).2.2 2 i = nI c) := by
      rw [propext (in_iff h2 h hc), propext (ast_iff h1 h2 h)]
      exact ⟨fun z => ⟨z.2, z.1.2⟩, fun z => ⟨⟨z.1.1, z.2⟩, z.1⟩⟩
    show RA (xClS (nI c) i (xCl S (nI c) i)).2 (mSwS c i (mSw G T c i)).2.1 n nf ∧ RB (xClS (nI c) i (xCl S (nI c) i)).2 (mSwS c i (mSw G T c i)).2.2 n ∧ (xClS (nI c) i (xCl S (nI c) i)).1 = (mSwS c i (mSw G T c i)).1
    unfold xClS mSwS
    by_cases q : mMis (mSw G T c i).2.1 (mSw G T c i).2.2 i ∧ (mSw G T c i).2.2 2 i = nI c
    · rw [sel_t q, sel_t (hiff.mpr q)]
      refine ⟨close_ra (RA_same (S' := xOff (xCl S (nI c) i).2 (nI i) 3) h1 rfl rfl rfl rfl rfl rfl rfl rfl rfl rfl) h, close_rb (off_rb h2 h hc q.1.1 q.2 (by decide) (by decide) (by decide)) _, ?_⟩
      show (xCl S (nI c) i).1 + 1 = (mSw G T c i).1 + 1
      rw [h3]
    · rw [sel_f q, sel_f (fun z => q (hiff.mp z))]
      exact ⟨h1, h2, h3⟩
theorem depart_rel (ha : RA S G n nf) (hb : RB S T n) {f : Nat} : ∀ i, i ≤ n → RA (xLv S (nI f) i).2 (mLv G T f i).2.1 n nf ∧ RB (xLv S (nI f) i).2 (mLv G T f i).2.2 n ∧ (xLv S (nI f) i).1 = (mLv G T f i).1
  | 0, _ => ⟨ha, hb, rfl⟩
  | i + 1, hi => by
    obtain ⟨h1, h2, h3⟩ := depart_rel ha hb i (by omega)
    have h : i < n := by omega
    show RA (xLvS (nI f) i (xLv S (nI f) i)).2 (mLvS f i (mLv G T f i)).2.1 n nf ∧ RB (xLvS (nI f) i (xLv S (nI f) i)).2 (mLvS f i (mLv G T f i)).2.2 n ∧ (xLvS (nI f) i (xLv S (nI f) i)).1 = (mLvS f i (mLv G T f i)).1
    unfold xLvS mLvS
    rw [(h1.fli i h).1]
    by_cases q : (mLv G T f i).2.1 4 i = nI f
    · rw [sel_t q, sel_t q, propext (own_iff h1 h2 h)]
      by_cases q2 : mOwn (mLv G T f i).2.1 (mLv G T f i).2.2 i
      · rw [sel_t q2, sel_t q2]
        obtain ⟨-, c0, hc0, e0⟩ := h2.cin i h q2.1
        refine ⟨RA_same h1 rfl rfl rfl rfl rfl rfl rfl rfl rfl rfl, ?_, ?_⟩
        · show RB (xOff (xLv S (nI f) i).2 (nI i) 5) (mPutB (mDec (mLv G T f i).2.2 (ix ((mLv G T f i).2.2 2 i))) i 5 (-1)) n
          rw [e0, ix_i (by omega)]
          exact rb_tsame (off_rb h2 h hc0 q2.1 e0 (w := 5) (by decide) (by decide) (by decide)) rfl rfl rfl rfl rfl rfl rfl rfl
        · show (xLv S (nI f) i).1 + 1 = (mLv G T f i).1 + 1
          rw [h3]
      · rw [sel_f q2, sel_f q2]
        exact ⟨fil_ra h1 h 1, RB_same h2 rfl rfl rfl rfl rfl rfl rfl rfl, h3⟩
    · rw [sel_f q, sel_f q]
      exact ⟨h1, h2, h3⟩
/-- begun anew: not read, not missed -/
theorem reset_rb (hb : RB S T n) {b : Nat} (h : b < n) : RB (sf (sf S 8 (upd (S 8) b (-1))) 9 (upd (S 9) b 0)) (sf (sf T 3 (upd (T 3) b (-1))) 4 (upd (T 4) b 0)) n := by
  refine ⟨hb.n40, hb.mnt, hb.lin, hb.len, hb.whr, ?_, ?_, hb.cin, hb.cno, ?_, hb.inn, hb.bel, hb.bl1, hb.bl2, hb.lns, hb.lnd⟩
  · intro i hi
    show upd (S 8) b (-1) i = upd (T 3) b (-1) i
    by_cases e : i = b
    · rw [e, upd_e, upd_e]
    · rw [upd_n e, upd_n e]; exact hb.rdd i hi
  · intro i hi
    show upd (S 9) b 0 i = upd (T 4) b 0 i
    by_cases e : i = b
    · rw [e, upd_e, upd_e]
    · rw [upd_n e, upd_n e]; exact hb.mis i hi
  · intro i h1 h2
    obtain ⟨o1, o2, o3, o4, o5⟩ := hb.out i h1 h2
    exact ⟨o1, o2, (upd_n (f := S 8) (by omega)).trans o3, (upd_n (f := S 9) (by omega)).trans o4, o5⟩
/-- too big for the belt -/
theorem big_rb (hb : RB S T n) {b : Nat} (h : b < n) (h3 : T 1 b = 3 ∨ T 1 b = 4) : RB (sf S 6 (upd (S 6) b 4)) (mPutB T b 4 (-1)) n := by
  have k0 : ¬ T 1 b = 0 ∧ ¬ T 1 b = 1 ∧ ¬ T 1 b = 2 := by
    rcases h3 with e | e <;> (rw [e]; decide)
  exact rb_move hb h (w := 4) (p := -1) (q := -1) k0.1 (by decide) (by decide) hb.mnt rfl rfl rfl (upd_id (hb.cno b h k0.2.2)).symm hb.rdd hb.mis (fun i hi => ⟨rfl, rfl⟩) hb.bel rfl rfl rfl rfl
    (in_keep hb k0.2.2 (by decide)) (fun z => absurd z (by decide)) (fun _ => rfl) (on_1 hb h k0.2.1) (fun i j _ _ _ e => e)
/-- into the line -/
theorem line_rb (hb : RB S T n) {b : Nat} (h : b < n) (h3 : T 1 b = 3 ∨ T 1 b = 4) : RB (sf (sf (sf S 6 (upd (S 6) b 0)) 13 (wr 40 (S 13) (S 0 2) (nI b))) 0 (upd (S 0) 2 (S 0 2 + 1))) (mLine T b) n := by
  have h4 := hb.n40
  have k0 : ¬ T 1 b = 0 ∧ ¬ T 1 b = 1 ∧ ¬ T 1 b = 2 := by
    rcases h3 with e | e <;> (rw [e]; decide)
  have hL : mL T n < n := ct_lt h k0.1
  have eS : S 0 2 = nI (mL T n) := hb.lin.trans hb.len
  have eL : ix (T 0 1) = mL T n := by rw [hb.len, ix_i (by omega)]
  have w13 : wr 40 (S 13) (S 0 2) (nI b) = upd (S 13) (mL T n) (nI b) := by rw [eS]; exact wr_40 (by omega)
  have hL2 : ct (fun i => upd (T 1) b 0 i = 0) n = mL T n + 1 := by
    have h1 := ct_one (p := fun i => upd (T 1) b 0 i = 0) (q := fun i => T 1 i = 0) h (fun j hj e => by rw [upd_n e])
    rw [bN_f (show ¬ T 1 b = 0 from k0.1), bN_t (show upd (T 1) b 0 b = 0 from upd_e _ _ _)] at h1
    exact h1
  have hL3 : mL (mLine T b) n = mL T n + 1 := hL2
  have t6 : mLine T b 6 = upd (T 6) (mL T n) (nI b) := by
    show upd (T 6) (ix (T 0 1)) (nI b) = _
    rw [eL]
  refine ⟨hb.n40, hb.mnt, ?_, ?_, ?_, hb.rdd, hb.mis, ?_, ?_, ?_, ?_, hb.bel, ?_, ?_, ?_, ?_⟩
  · show S 0 2 + 1 = T 0 1 + 1
    rw [hb.lin]
  · rw [hL3]
    show T 0 1 + 1 = _
    rw [hb.len, nI_1]
  · intro i hi
    show upd (S 6) b 0 i = upd (T 1) b 0 i
    by_cases e : i = b
    · rw [e, upd_e, upd_e]
    · rw [upd_n e, upd_n e]; exact hb.whr i hi
  · intro i hi e2
    have e2 : upd (T 1) b 0 i = 2 := e2
    show S 7 i = upd (T 2) b (-1) i ∧ ∃ c, c < 4 ∧ upd (T 2) b (-1) i = nI c
    by_cases e : i = b
    · rw [e, upd_e] at e2
      exact absurd e2 (by decide)
    · rw [upd_n e] at e2
      rw [upd_n e]
      exact hb.cin i hi e2
  · intro i hi e2
    have e2 : ¬ upd (T 1) b 0 i = 2 := e2
    show S 7 i = -1
    by_cases e : i = b
    · rw [e]; exact hb.cno b h k0.2.2
    · rw [upd_n e] at e2
      exact hb.cno i hi e2
  · intro i h1 h2
    obtain ⟨o1, o2, o3, o4, o5⟩ := hb.out i h1 h2
    have e : i ≠ b := by omega
    exact ⟨(upd_n (f := S 6) e).trans o1, o2, o3, o4, (upd_n (f := T 1) e).trans o5⟩
  · exact in_keep hb k0.2.2 (by decide)
  · intro j hj e
    obtain ⟨i, g1, g2, g3, g4⟩ := hb.bl1 j hj e
    have e3 : i ≠ b := fun z => k0.2.1 (z ▸ g3)
    exact ⟨i, g1, g2, (upd_n (f := T 1) e3).trans g3, (upd_n (f := T 2) e3).trans g4⟩
  · intro i hi e1
    have e1 : upd (T 1) b 0 i = 1 := e1
    by_cases e : i = b
    · rw [e, upd_e] at e1
      exact absurd e1 (by decide)
    · rw [upd_n e] at e1
      obtain ⟨j, hj, g1, g2⟩ := hb.bl2 i hi e1
      exact ⟨j, hj, (upd_n (f := T 2) e).trans g1, g2⟩
  · rw [hL3, t6]
    intro j hj
    show wr 40 (S 13) (S 0 2) (nI b) j = upd (T 6) (mL T n) (nI b) j ∧ ∃ i, i < n ∧ upd (T 6) (mL T n) (nI b) j = nI i ∧ upd (T 1) b 0 i = 0
    rw [w13]
    by_cases e : j = mL T n
    · rw [e, upd_e, upd_e]
      exact ⟨rfl, b, h, rfl, upd_e _ _ _⟩
    · rw [upd_n e, upd_n e]
      obtain ⟨g1, i, g2, g3, g4⟩ := hb.lns j (by omega)
      have e3 : i ≠ b := fun z => k0.1 (z ▸ g4)
      exact ⟨g1, i, g2, g3, by rw [upd_n e3]; exact g4⟩
  · rw [hL3, t6]
    have other : ∀ j, j < mL T n → ¬ T 6 j = nI b := by
      intro j hj e
      obtain ⟨-, i, g2, g3, g4⟩ := hb.lns j hj
      have : i = b := nI_inj (by omega) (by omega) (g3.symm.trans e)
      exact k0.1 (this ▸ g4)
    intro i j hi hj e
    by_cases e1 : i = mL T n
    · by_cases e2 : j = mL T n
      · rw [e1, e2]
      · rw [e1, upd_e, upd_n e2] at e
        exact absurd e.symm (other j (by omega))
    · by_cases e2 : j = mL T n
      · rw [e2, upd_e, upd_n e1] at e
        exact absurd e (other i (by omega))
      · rw [upd_n e1, upd_n e2] at e
        exact hb.lnd i j (by omega) (by omega) e
/-- a new bag, set aside first -/
theorem ext_rb (hb : RB S T n) (h : n < 40) : RB (sf S 6 (upd (S 6) n 4)) (mPutB (sf (sf T 3 (upd (T 3) n (-1))) 4 (upd (T 4) n 0)) n 4 (-1)) (n + 1) := by
  obtain ⟨o1, o2, o3, o4, o5⟩ := hb.out n (Nat.le_refl n) h
  have hL : ct (fun i => upd (T 1) n 4 i = 0) (n + 1) = mL T n := by
    rw [ct_f (show ¬ upd (T 1) n 4 n = 0 from by rw [upd_e]; decide)]
    exact ct_cong (fun i hi => by rw [upd_n (by omega)])
  have hL3 : mL (mPutB (sf (sf T 3 (upd (T 3) n (-1))) 4 (upd (T 4) n 0)) n 4 (-1)) (n + 1) = mL T n := hL
  refine ⟨by omega, hb.mnt, hb.lin, by rw [hL3]; exact hb.len, ?_, ?_, ?_, ?_, ?_, ?_, ?_, hb.bel, ?_, ?_, ?_, ?_⟩
  · intro i hi
    show upd (S 6) n 4 i = upd (T 1) n 4 i
    by_cases e : i = n
    · rw [e, upd_e, upd_e]
    · rw [upd_n e, upd_n e]; exact hb.whr i (by omega)
  · intro i hi
    show S 8 i = upd (T 3) n (-1) i
    by_cases e : i = n
    · rw [e, upd_e]; exact o3
    · rw [upd_n e]; exact hb.rdd i (by omega)
  · intro i hi
    show S 9 i = upd (T 4) n 0 i
    by_cases e : i = n
    · rw [e, upd_e]; exact o4
    · rw [upd_n e]; exact hb.mis i (by omega)
  · intro i hi e2
    have e2 : upd (T 1) n 4 i = 2 := e2
    show S 7 i = upd (T 2) n (-1) i ∧ ∃ c, c < 4 ∧ upd (T 2) n (-1) i = nI c
    by_cases e : i = n
    · rw [e, upd_e] at e2
      exact absurd e2 (by decide)
    · rw [upd_n e] at e2
      rw [upd_n e]
      exact hb.cin i (by omega) e2
  · intro i hi e2
    have e2 : ¬ upd (T 1) n 4 i = 2 := e2
    show S 7 i = -1
    by_cases e : i = n
    · rw [e]; exact o2
    · rw [upd_n e] at e2
      exact hb.cno i (by omega) e2
  · intro i h1 h2
    obtain ⟨p1, p2, p3, p4, p5⟩ := hb.out i (by omega) h2
    have e : i ≠ n := by omega
    exact ⟨(upd_n (f := S 6) e).trans p1, p2, p3, p4, (upd_n (f := T 1) e).trans p5⟩
  · intro c hc
    show T 7 c = nI (ct (fun i => upd (T 1) n 4 i = 2 ∧ upd (T 2) n (-1) i = nI c) (n + 1))
    rw [ct_f (show ¬ (upd (T 1) n 4 n = 2 ∧ upd (T 2) n (-1) n = nI c) from fun z => absurd ((upd_e (T 1) n 4).symm.trans z.1) (by decide)), hb.inn c hc]
    exact congrArg nI (ct_cong (fun i hi => by rw [upd_n (by omega), upd_n (by omega)]))
  · intro j hj e
    obtain ⟨i, g1, g2, g3, g4⟩ := hb.bl1 j hj e
    have e3 : i ≠ n := by omega
    exact ⟨i, by omega, g2, (upd_n (f := T 1) e3).trans g3, (upd_n (f := T 2) e3).trans g4⟩
  · intro i hi e1
    have e1 : upd (T 1) n 4 i = 1 := e1
    by_cases e : i = n
    · rw [e, upd_e] at e1
      exact absurd e1 (by decide)
    · rw [upd_n e] at e1
      obtain ⟨j, hj, g1, g2⟩ := hb.bl2 i (by omega) e1
      exact ⟨j, hj, (upd_n (f := T 2) e).trans g1, g2⟩
  · rw [hL3]
    intro j hj
    obtain ⟨g1, i, g2, g3, g4⟩ := hb.lns j hj
    exact ⟨g1, i, by omega, g3, (upd_n (f := T 1) (by omega)).trans g4⟩
  · rw [hL3]
    exact hb.lnd
end OPS
