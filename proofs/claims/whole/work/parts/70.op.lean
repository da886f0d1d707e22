/-! each call of the law: the helper's contract and the reference's, and that they agree -/
abbrev mW (k : Nat → ClassId) (g t u : Nat → Nat) (G T U : HS) (R : va_W) : va_W := gw k g (t 0) (u 0) G ++ (tw k t T ++ (tw k u U ++ R))
theorem nI_any (z : Int32) : ∃ N : Nat, z = nI N := ⟨z.toBitVec.toNat, by
  apply Int32.toBitVec_inj.mp
  show z.toBitVec = BitVec.ofNat 32 z.toBitVec.toNat
  rw [BitVec.ofNat_toNat, BitVec.setWidth_eq]⟩
theorem bI_law (P : Prop) : (bI P = 0 → (bI P).toInt64 = 0) ∧ (¬ bI P = 0 → (bI P).toInt64 = 1) := by
  by_cases h : P
  · rw [bI_t h]; exact ⟨fun z => absurd z (by decide), fun _ => rfl⟩
  · rw [bI_f h]; exact ⟨fun _ => rfl, fun z => absurd rfl z⟩
theorem RB.hLn {S T : HS} {n : Nat} (h : RB S T n) : n < 40 → T 0 1 = nI (ix (T 0 1)) ∧ ix (T 0 1) < 40 := fun hn => by
  have hl : mL T n ≤ n := ct_le _ n
  rw [h.len, ix_i (by omega)]
  exact ⟨rfl, by omega⟩
theorem RB.hLs {S T : HS} {n : Nat} (h : RB S T n) : ∀ b, b < n → mAside T b → T 0 1 = nI (ix (T 0 1)) ∧ ix (T 0 1) < 40 := fun b hb h3 => by
  have h4 := h.n40
  have k0 : ¬ T 1 b = 0 := by
    rcases h3 with e | e <;> (rw [e]; decide)
  have hl : mL T n < n := ct_lt hb k0
  rw [h.len, ix_i (by omega)]
  exact ⟨rfl, by omega⟩
theorem hgz_of {S G T : HS} {n nf : Nat} (ha : RA S G n nf) (hb : RB S T n) : ∀ i, okB ((mGo G T i).2 5) ∧ okL (mGo G T i).2 := fun i => ⟨(go_rel ha hb i).2.1.okB, (go_rel ha hb i).2.1.okL⟩
theorem hun_of {S G T : HS} {n nf : Nat} (ha : RA S G n nf) (hb : RB S T n) : ∀ i, okB (mUn G T i 5) ∧ okL (mUn G T i) := fun i => ⟨(un_rel ha hb i).2.okB, (un_rel ha hb i).2.okL⟩
theorem hgs_of {S G T : HS} {n nf : Nat} (ha : RA S G n nf) (hb : RB S T n) (f : Nat) : ∀ c, c < 4 → ∀ i, okB ((mGo (mSetC G f c) T i).2 5) ∧ okL (mGo (mSetC G f c) T i).2 := fun c hc i => by
  rcases Nat.lt_or_ge f 6 with q | q
  · exact hgz_of (S := xChg S (nI f) (nI c)) (chg_ra ha q hc) (RB_same hb rfl rfl rfl rfl rfl rfl rfl rfl) i
  · have e : ∀ j, j < 6 → mSetC G f c 1 j = G 1 j := fun j hj => upd_n (f := G 1) (by omega)
    have ha2 : RA S (mSetC G f c) n nf := ⟨ha.n40, ha.nf6, ha.sn, ha.gn, ha.sf_, ha.gf_, ha.str, fun j hj => (ha.chu j hj).trans (e j hj).symm, fun j hj => by rw [e j hj]; exact ha.chr j hj, ha.gon, ha.gob, ha.roo, ha.fli, ha.fl6, ha.siz, ha.smu, ha.fil, ha.oua⟩
    exact hgz_of ha2 hb i

theorem carry_bad {S G T : HS} {n nf jx : Nat} (ha : RA S G n nf) (hb : RB S T n) (hx2 : jx < 6) (h : ¬ (xCh (G 1 jx) ∧ xRoom S (G 1 jx))) (hm : ¬ G 1 jx = -1) : ¬ T 7 (ix (G 1 jx)) < G 3 (ix (G 1 jx)) := by
  obtain ⟨c, hc, e⟩ := ha.chr jx hx2 hm
  rw [e] at h ⊢
  rw [ix_i (by omega)]
  exact fun z => h ⟨⟨nI_pos (by omega), nI_ge (b := 4) hc (by decide)⟩, (room_iff ha hb hc).mpr z⟩
theorem mClose_0 (G : HS) (b : Nat) : mClose G b 0 = G 0 := by
  unfold mClose
  by_cases q : G 7 b = 1
  · rw [sel_t q]; rfl
  · rw [sel_f q]
theorem gone_val {S G : HS} {n nf f : Nat} (ha : RA S G n nf) (h : f < 6) : bI (xGone S (nI f)) = G 2 f := by
  rw [propext (gone_iff ha h)]
  rcases ha.gob f h with e | e
  · rw [e, bI_f (fun z => z rfl)]
  · rw [e, bI_t (by decide)]
theorem op_addFlight (l : Launch) (hfl : l.stackTraces = false) {D : va_G} {k : Nat → ClassId} {a tr g t u : Nat → Nat} {x o : Nat} {S G T : HS} {n nf : Nat} (ha : RA S G n nf) (hb : RB S T n) (T0 U : HS) (og : Nat → Int64) : ∃ (kc bb : Int32) (S1 G1 T1 T2 U1 : HS) (og1 : Nat → Int64) (n1 nf1 : Nat), (∀ R, LM l yL_addFlight cL_addFlight 3 [(0, 8, 11, 13)] rmL_addFlight D k (xwW k a tr x o S T0 og R) [.ref x, .ref o] kc (xwW k a tr x o S1 T2 og1 R)) ∧ (∀ R, MM l yX6_addFlight cX6_addFlight 1 (some FieldType.int) rmX6_addFlight D k (mW k g t u G T U R) [.ref (g 0)] (some (.int bb)) (mW k g t u G1 T1 U1 R)) ∧ G1 0 0 = kc ∧ (kc = 0 → og1 0 = bb.toInt64) ∧ RA S1 G1 n1 nf1 ∧ RB S1 T1 n1 := by
  have h40 := ha.n40
  have h6 := ha.nf6
  by_cases c0 : S 0 3 < 6
  · have c0_ := c0
    refine ⟨0, _, xAddFl S, _, T, T0, U, _, n, (nf + 1), fun R => wokL_addFlight l S T0 og  c0, fun R => metX6_addFlight l G T  n ha.gn ha.n40 nf ha.gf_ ha.nf6 ha.okF ha.gob , ?_, ?_, ?_, ?_⟩
    · rw [qaddFlight_g, sel_f (show ¬ (G 0 1 = 6) from ((six_iff ha).mp c0))]; first | done | rfl | exact rfl
    · intro _
      rw [qaddFlight_r, sel_f (show ¬ (G 0 1 = 6) from ((six_iff ha).mp c0))]
      have er : S 0 3 = G 0 1 + 1 - 1 := by rw [ha.sf_, ha.gf_, nI_1, isub1 (Nat.succ_pos nf)]; rfl
      exact congrArg Int32.toInt64 er
    · rw [qaddFlight_g, sel_f (show ¬ (G 0 1 = 6) from ((six_iff ha).mp c0))]; exact add_ra ha (six_of ha c0)
    · exact RB_same hb rfl rfl rfl rfl rfl rfl rfl rfl
  · have h9_ := h40
    refine ⟨1, _, S, _, T, T0, U, og, n, nf, fun R => wbdL_addFlight_0 l S T0 og  hfl c0, fun R => metX6_addFlight l G T  n ha.gn ha.n40 nf ha.gf_ ha.nf6 ha.okF ha.gob , ?_, fun h9 => absurd h9 (by decide), ?_, hb⟩
    · rw [qaddFlight_g, sel_t (show G 0 1 = 6 from (Classical.not_not.mp (fun z9 => c0 ((six_iff ha).mpr z9))))]; rfl
    · rw [qaddFlight_g, sel_t (show G 0 1 = 6 from (Classical.not_not.mp (fun z9 => c0 ((six_iff ha).mpr z9))))]; exact RA_thr (RA_thr ha 0) 1
theorem op_giveChute (l : Launch) (hfl : l.stackTraces = false) {D : va_G} {k : Nat → ClassId} {a tr g t u : Nat → Nat} {x o : Nat} {S G T : HS} {n nf : Nat} (ha : RA S G n nf) (hb : RB S T n) (T0 U : HS) (og : Nat → Int64) (f : Int32) (ch : Int32) : ∃ (kc bb : Int32) (S1 G1 T1 T2 U1 : HS) (og1 : Nat → Int64) (n1 nf1 : Nat), (∀ R, LM l yL_giveChute cL_giveChute 5 [(0, 10, 13, 19), (0, 10, 17, 13)] rmL_giveChute D k (xwW k a tr x o S T0 og R) [.ref x, .int f, .int ch, .ref o] kc (xwW k a tr x o S1 T2 og1 R)) ∧ (∀ R, MM l yX6_giveChute cX6_giveChute 5 (some FieldType.int) rmX6_giveChute D k (mW k g t u G T U R) [.ref (g 0), .int f, .int ch] (some (.int bb)) (mW k g t u G1 T1 U1 R)) ∧ G1 0 0 = kc ∧ (kc = 0 → og1 0 = bb.toInt64) ∧ RA S1 G1 n1 nf1 ∧ RB S1 T1 n1 := by
  have h40 := ha.n40
  have h6 := ha.nf6
  by_cases c0 : xFlt S f
  · have c0_ := c0
    obtain ⟨jf, hjf, rfl, eif⟩ := flt_of ha c0
    by_cases c1 : xCh ch
    · have c1_ := c1
      obtain ⟨jch, hjch, rfl, eich⟩ := ch_of c1
      by_cases c2 : ¬ xGone S (nI jf)
      · have c2_ := c2
        refine ⟨0, _, xChg S (nI jf) (nI jch), _, T, T0, U, _, n, nf, fun R => wokL_giveChute l S T0 og (nI jf) (nI jch) n ha.sn ha.n40 c0 c1 c2, fun R => metX6_giveChute l G T (nI jf) (nI jch) n ha.gn ha.n40 nf ha.gf_ ha.nf6 ha.okF ha.gob , ?_, ?_, ?_, ?_⟩
        · rw [qgiveChute_g, sel_t (show mIn (nI jf) 0 (nI nf - 1) from ((flt_iff ha).mp c0)), sel_t (show mIn (nI jch) 0 3 from (ch_iff.mp c1)), sel_t (show G 2 (ix (nI jf)) = 0 from (by rw [eif]; exact (ng_iff ha (by omega)).mp c2))]; first | done | rfl | exact rfl
        · intro _
          rw [qgiveChute_r, sel_t (show mIn (nI jf) 0 (nI nf - 1) from ((flt_iff ha).mp c0)), sel_t (show mIn (nI jch) 0 3 from (ch_iff.mp c1)), sel_t (show G 2 (ix (nI jf)) = 0 from (by rw [eif]; exact (ng_iff ha (by omega)).mp c2))]
          have er : nI (xChgN S (nI jf) (nI jch) n) = nI (mGiveN G T (ix (nI jf)) (nI (ix (nI jch))) n) := by rw [eif, eich, chg_ct ha hb hjf hjch]
          exact congrArg Int32.toInt64 er
        · rw [qgiveChute_g, sel_t (show mIn (nI jf) 0 (nI nf - 1) from ((flt_iff ha).mp c0)), sel_t (show mIn (nI jch) 0 3 from (ch_iff.mp c1)), sel_t (show G 2 (ix (nI jf)) = 0 from (by rw [eif]; exact (ng_iff ha (by omega)).mp c2))]; exact (by rw [eif, eich]; exact chg_ra (RA_thr ha 0) (by omega) hjch)
        · exact RB_same hb rfl rfl rfl rfl rfl rfl rfl rfl
      · have h9_ := h40
        refine ⟨2, _, S, _, T, T0, U, og, n, nf, fun R => wbdL_giveChute_2 l S T0 og (nI jf) (nI jch) hfl c0 c1 c2, fun R => metX6_giveChute l G T (nI jf) (nI jch) n ha.gn ha.n40 nf ha.gf_ ha.nf6 ha.okF ha.gob , ?_, fun h9 => absurd h9 (by decide), ?_, hb⟩
        · rw [qgiveChute_g, sel_t (show mIn (nI jf) 0 (nI nf - 1) from ((flt_iff ha).mp c0)), sel_t (show mIn (nI jch) 0 3 from (ch_iff.mp c1)), sel_f (show ¬ (G 2 (ix (nI jf)) = 0) from (by rw [eif]; exact fun z9 => c2 ((ng_iff ha (by omega)).mpr z9)))]; rfl
        · rw [qgiveChute_g, sel_t (show mIn (nI jf) 0 (nI nf - 1) from ((flt_iff ha).mp c0)), sel_t (show mIn (nI jch) 0 3 from (ch_iff.mp c1)), sel_f (show ¬ (G 2 (ix (nI jf)) = 0) from (by rw [eif]; exact fun z9 => c2 ((ng_iff ha (by omega)).mpr z9)))]; exact RA_thr (RA_thr ha 0) 2
    · have h9_ := h40
      refine ⟨1, _, S, _, T, T0, U, og, n, nf, fun R => wbdL_giveChute_1 l S T0 og (nI jf) ch hfl c0 c1, fun R => metX6_giveChute l G T (nI jf) ch n ha.gn ha.n40 nf ha.gf_ ha.nf6 ha.okF ha.gob , ?_, fun h9 => absurd h9 (by decide), ?_, hb⟩
      · rw [qgiveChute_g, sel_t (show mIn (nI jf) 0 (nI nf - 1) from ((flt_iff ha).mp c0)), sel_f (show ¬ (mIn ch 0 3) from (fun z9 => c1 (ch_iff.mpr z9)))]; rfl
      · rw [qgiveChute_g, sel_t (show mIn (nI jf) 0 (nI nf - 1) from ((flt_iff ha).mp c0)), sel_f (show ¬ (mIn ch 0 3) from (fun z9 => c1 (ch_iff.mpr z9)))]; exact RA_thr (RA_thr ha 0) 1
  · have h9_ := h40
    refine ⟨1, _, S, _, T, T0, U, og, n, nf, fun R => wbdL_giveChute_0 l S T0 og f ch hfl c0, fun R => metX6_giveChute l G T f ch n ha.gn ha.n40 nf ha.gf_ ha.nf6 ha.okF ha.gob , ?_, fun h9 => absurd h9 (by decide), ?_, hb⟩
    · rw [qgiveChute_g, sel_f (show ¬ (mIn f 0 (nI nf - 1)) from (fun z9 => c0 ((flt_iff ha).mpr z9)))]; rfl
    · rw [qgiveChute_g, sel_f (show ¬ (mIn f 0 (nI nf - 1)) from (fun z9 => c0 ((flt_iff ha).mpr z9)))]; exact RA_thr (RA_thr ha 0) 1
theorem op_setReader (l : Launch) (hfl : l.stackTraces = false) {D : va_G} {k : Nat → ClassId} {a tr g t u : Nat → Nat} {x o : Nat} {S G T : HS} {n nf : Nat} (ha : RA S G n nf) (hb : RB S T n) (T0 U : HS) (og : Nat → Int64) (z : Int32) : ∃ (kc bb : Int32) (S1 G1 T1 T2 U1 : HS) (og1 : Nat → Int64) (n1 nf1 : Nat), (∀ R, LM l yL_setReader cL_setReader 4 [(0, 9, 12, 25)] rmL_setReader D k (xwW k a tr x o S T0 og R) [.ref x, .int z, .ref o] kc (xwW k a tr x o S1 T2 og1 R)) ∧ (∀ R, MM l yX6_setReader cX6_setReader 3 (some FieldType.int) rmX6_setReader D k (mW k g t u G T U R) [.ref (g 0), .int z] (some (.int bb)) (mW k g t u G1 T1 U1 R)) ∧ G1 0 0 = kc ∧ (kc = 0 → og1 0 = bb.toInt64) ∧ RA S1 G1 n1 nf1 ∧ RB S1 T1 n1 := by
  have h40 := ha.n40
  have h6 := ha.nf6
  by_cases c0 : ¬ z < 0 ∧ ¬ 9 < z
  · have c0_ := c0
    refine ⟨0, _, sf S 0 (upd (S 0) 1 z), _, T, T0, U, _, n, nf, fun R => wokL_setReader l S T0 og z c0, fun R => metX6_setReader l G T z n ha.gn ha.n40 nf ha.gf_ ha.nf6 ha.okF ha.gob , ?_, ?_, ?_, ?_⟩
    · rw [qsetReader_g, sel_t (show mIn z 0 9 from c0)]; first | done | rfl | exact rfl
    · intro _
      rw [qsetReader_r, sel_t (show mIn z 0 9 from c0)]
      have er : S 0 1 = G 0 2 := ha.str
      exact congrArg Int32.toInt64 er
    · rw [qsetReader_g, sel_t (show mIn z 0 9 from c0)]; exact set_ra ha z
    · exact RB_same hb rfl rfl rfl rfl rfl rfl rfl rfl
  · have h9_ := h40
    refine ⟨1, _, S, _, T, T0, U, og, n, nf, fun R => wbdL_setReader_0 l S T0 og z hfl c0, fun R => metX6_setReader l G T z n ha.gn ha.n40 nf ha.gf_ ha.nf6 ha.okF ha.gob , ?_, fun h9 => absurd h9 (by decide), ?_, hb⟩
    · rw [qsetReader_g, sel_f (show ¬ (mIn z 0 9) from c0)]; rfl
    · rw [qsetReader_g, sel_f (show ¬ (mIn z 0 9) from c0)]; exact RA_thr (RA_thr ha 0) 1
theorem op_setRoom (l : Launch) (hfl : l.stackTraces = false) {D : va_G} {k : Nat → ClassId} {a tr g t u : Nat → Nat} {x o : Nat} {S G T : HS} {n nf : Nat} (ha : RA S G n nf) (hb : RB S T n) (T0 U : HS) (og : Nat → Int64) (ch : Int32) (z : Int32) : ∃ (kc bb : Int32) (S1 G1 T1 T2 U1 : HS) (og1 : Nat → Int64) (n1 nf1 : Nat), (∀ R, LM l yL_setRoom cL_setRoom 5 [(0, 10, 13, 19), (0, 10, 17, 25)] rmL_setRoom D k (xwW k a tr x o S T0 og R) [.ref x, .int ch, .int z, .ref o] kc (xwW k a tr x o S1 T2 og1 R)) ∧ (∀ R, MM l yX6_setRoom cX6_setRoom 4 (some FieldType.int) rmX6_setRoom D k (mW k g t u G T U R) [.ref (g 0), .int ch, .int z] (some (.int bb)) (mW k g t u G1 T1 U1 R)) ∧ G1 0 0 = kc ∧ (kc = 0 → og1 0 = bb.toInt64) ∧ RA S1 G1 n1 nf1 ∧ RB S1 T1 n1 := by
  have h40 := ha.n40
  have h6 := ha.nf6
  by_cases c0 : xCh ch
  · have c0_ := c0
    obtain ⟨jch, hjch, rfl, eich⟩ := ch_of c0
    by_cases c1 : ¬ z < 1 ∧ ¬ 20 < z
    · have c1_ := c1
      refine ⟨0, _, sf S 11 (wr 4 (S 11) (nI jch) z), _, T, T0, U, _, n, nf, fun R => wokL_setRoom l S T0 og (nI jch) z c0 c1, fun R => metX6_setRoom l G T (nI jch) z n ha.gn ha.n40 nf ha.gf_ ha.nf6 ha.okF ha.gob , ?_, ?_, ?_, ?_⟩
      · rw [qsetRoom_g, sel_t (show mIn (nI jch) 0 3 from (ch_iff.mp c0)), sel_t (show mIn z 1 20 from c1)]; first | done | rfl | exact rfl
      · intro _
        rw [qsetRoom_r, sel_t (show mIn (nI jch) 0 3 from (ch_iff.mp c0)), sel_t (show mIn z 1 20 from c1)]
        have er : rd 4 (S 11) (nI jch) = G 3 (ix (nI jch)) := by rw [eich, rd_4 hjch, ha.roo jch hjch]
        exact congrArg Int32.toInt64 er
      · rw [qsetRoom_g, sel_t (show mIn (nI jch) 0 3 from (ch_iff.mp c0)), sel_t (show mIn z 1 20 from c1)]; exact (by rw [eich]; exact roo_ra ha hjch z)
      · exact RB_same hb rfl rfl rfl rfl rfl rfl rfl rfl
    · have h9_ := h40
      refine ⟨2, _, S, _, T, T0, U, og, n, nf, fun R => wbdL_setRoom_1 l S T0 og (nI jch) z hfl c0 c1, fun R => metX6_setRoom l G T (nI jch) z n ha.gn ha.n40 nf ha.gf_ ha.nf6 ha.okF ha.gob , ?_, fun h9 => absurd h9 (by decide), ?_, hb⟩
      · rw [qsetRoom_g, sel_t (show mIn (nI jch) 0 3 from (ch_iff.mp c0)), sel_f (show ¬ (mIn z 1 20) from c1)]; rfl
      · rw [qsetRoom_g, sel_t (show mIn (nI jch) 0 3 from (ch_iff.mp c0)), sel_f (show ¬ (mIn z 1 20) from c1)]; exact RA_thr (RA_thr ha 0) 2
  · have h9_ := h40
    refine ⟨1, _, S, _, T, T0, U, og, n, nf, fun R => wbdL_setRoom_0 l S T0 og ch z hfl c0, fun R => metX6_setRoom l G T ch z n ha.gn ha.n40 nf ha.gf_ ha.nf6 ha.okF ha.gob , ?_, fun h9 => absurd h9 (by decide), ?_, hb⟩
    · rw [qsetRoom_g, sel_f (show ¬ (mIn ch 0 3) from (fun z9 => c0 (ch_iff.mpr z9)))]; rfl
    · rw [qsetRoom_g, sel_f (show ¬ (mIn ch 0 3) from (fun z9 => c0 (ch_iff.mpr z9)))]; exact RA_thr (RA_thr ha 0) 1
theorem op_checkIn (l : Launch) (hfl : l.stackTraces = false) {D : va_G} {k : Nat → ClassId} {a tr g t u : Nat → Nat} {x o : Nat} {S G T : HS} {n nf : Nat} (ha : RA S G n nf) (hb : RB S T n) (T0 U : HS) (og : Nat → Int64) (f : Int32) (z : Int32) (v : Int32) : ∃ (kc bb : Int32) (S1 G1 T1 T2 U1 : HS) (og1 : Nat → Int64) (n1 nf1 : Nat), (∀ R, LM l yL_checkIn cL_checkIn 6 [(0, 12, 15, 19), (0, 12, 19, 25), (0, 12, 23, 13)] rmL_checkIn D k (xwW k a tr x o S T0 og R) [.ref x, .int f, .int z, .int v, .ref o] kc (xwW k a tr x o S1 T2 og1 R)) ∧ (∀ R, MM l yX6_checkIn cX6_checkIn 4 (some FieldType.int) rmX6_checkIn D k (mW k g t u G T U R) [.ref (g 0), .int f, .int z, .int v] (some (.int bb)) (mW k g t u G1 T1 U1 R)) ∧ G1 0 0 = kc ∧ (kc = 0 → og1 0 = bb.toInt64) ∧ RA S1 G1 n1 nf1 ∧ RB S1 T1 n1 := by
  have h40 := ha.n40
  have h6 := ha.nf6
  by_cases c0 : xFlt S f
  · have c0_ := c0
    obtain ⟨jf, hjf, rfl, eif⟩ := flt_of ha c0
    by_cases c1 : ¬ z < 1 ∧ ¬ 9 < z ∧ ¬ v < 0 ∧ ¬ 9 < v
    · have c1_ := c1
      by_cases c2 : S 0 4 < 40
      · have c2_ := c2
        by_cases c3 : ¬ xGone S (nI jf)
        · have c3_ := c3
          refine ⟨0, _, xTakeIn (xAddBg S (nI jf) z v) (S 0 4), _, _, T0, U, _, (n + 1), nf, fun R => wokL_checkIn l S T0 og (nI jf) z v c0 c1 c2 c3, fun R => metX6_checkIn l G T (nI jf) z v n ha.gn ha.n40 nf ha.gf_ ha.nf6 ha.okF ha.gob hb.hLn, ?_, ?_, ?_, ?_⟩
          · rw [qcheckIn_g, sel_t (show mIn (nI jf) 0 (nI nf - 1) from ((flt_iff ha).mp c0)), sel_t (show mIn z 1 9 from ⟨(c1).1, (c1).2.1⟩), sel_t (show mIn v 0 9 from (c1).2.2), sel_f (show ¬ (nI n = 40) from ((full_iff ha).mp c2)), sel_t (show G 2 (ix (nI jf)) = 0 from (by rw [eif]; exact (ng_iff ha (by omega)).mp c3))]; first | done | rfl | exact rfl
          · intro _
            rw [qcheckIn_r, sel_t (show mIn (nI jf) 0 (nI nf - 1) from ((flt_iff ha).mp c0)), sel_t (show mIn z 1 9 from ⟨(c1).1, (c1).2.1⟩), sel_t (show mIn v 0 9 from (c1).2.2), sel_f (show ¬ (nI n = 40) from ((full_iff ha).mp c2)), sel_t (show G 2 (ix (nI jf)) = 0 from (by rw [eif]; exact (ng_iff ha (by omega)).mp c3))]
            have er : S 0 4 = nI n := ha.sn
            exact congrArg Int32.toInt64 er
          · rw [qcheckIn_g, sel_t (show mIn (nI jf) 0 (nI nf - 1) from ((flt_iff ha).mp c0)), sel_t (show mIn z 1 9 from ⟨(c1).1, (c1).2.1⟩), sel_t (show mIn v 0 9 from (c1).2.2), sel_f (show ¬ (nI n = 40) from ((full_iff ha).mp c2)), sel_t (show G 2 (ix (nI jf)) = 0 from (by rw [eif]; exact (ng_iff ha (by omega)).mp c3))]; exact (by rw [eif]; exact (chk_rel ha hb (full_of ha c2) hjf z v).1)
          · rw [qcheckIn_t, sel_t (show mIn (nI jf) 0 (nI nf - 1) from ((flt_iff ha).mp c0)), sel_t (show mIn z 1 9 from ⟨(c1).1, (c1).2.1⟩), sel_t (show mIn v 0 9 from (c1).2.2), sel_f (show ¬ (nI n = 40) from ((full_iff ha).mp c2)), sel_t (show G 2 (ix (nI jf)) = 0 from (by rw [eif]; exact (ng_iff ha (by omega)).mp c3))]; exact (by rw [eif]; exact (chk_rel ha hb (full_of ha c2) hjf z v).2)
        · have h9_ := h40
          refine ⟨3, _, S, _, _, T0, U, og, n, nf, fun R => wbdL_checkIn_3 l S T0 og (nI jf) z v hfl c0 c1 c2 c3, fun R => metX6_checkIn l G T (nI jf) z v n ha.gn ha.n40 nf ha.gf_ ha.nf6 ha.okF ha.gob hb.hLn, ?_, fun h9 => absurd h9 (by decide), ?_, ?_⟩
          · rw [qcheckIn_g, sel_t (show mIn (nI jf) 0 (nI nf - 1) from ((flt_iff ha).mp c0)), sel_t (show mIn z 1 9 from ⟨(c1).1, (c1).2.1⟩), sel_t (show mIn v 0 9 from (c1).2.2), sel_f (show ¬ (nI n = 40) from ((full_iff ha).mp c2)), sel_f (show ¬ (G 2 (ix (nI jf)) = 0) from (by rw [eif]; exact fun z9 => c3 ((ng_iff ha (by omega)).mpr z9)))]; rfl
          · rw [qcheckIn_g, sel_t (show mIn (nI jf) 0 (nI nf - 1) from ((flt_iff ha).mp c0)), sel_t (show mIn z 1 9 from ⟨(c1).1, (c1).2.1⟩), sel_t (show mIn v 0 9 from (c1).2.2), sel_f (show ¬ (nI n = 40) from ((full_iff ha).mp c2)), sel_f (show ¬ (G 2 (ix (nI jf)) = 0) from (by rw [eif]; exact fun z9 => c3 ((ng_iff ha (by omega)).mpr z9)))]; exact RA_thr (RA_thr ha 0) 3
          · rw [qcheckIn_t, sel_t (show mIn (nI jf) 0 (nI nf - 1) from ((flt_iff ha).mp c0)), sel_t (show mIn z 1 9 from ⟨(c1).1, (c1).2.1⟩), sel_t (show mIn v 0 9 from (c1).2.2), sel_f (show ¬ (nI n = 40) from ((full_iff ha).mp c2)), sel_f (show ¬ (G 2 (ix (nI jf)) = 0) from (by rw [eif]; exact fun z9 => c3 ((ng_iff ha (by omega)).mpr z9)))]; exact hb
      · have h9_ := h40
        refine ⟨3, _, S, _, _, T0, U, og, n, nf, fun R => wbdL_checkIn_2 l S T0 og (nI jf) z v hfl c0 c1 c2, fun R => metX6_checkIn l G T (nI jf) z v n ha.gn ha.n40 nf ha.gf_ ha.nf6 ha.okF ha.gob hb.hLn, ?_, fun h9 => absurd h9 (by decide), ?_, ?_⟩
        · rw [qcheckIn_g, sel_t (show mIn (nI jf) 0 (nI nf - 1) from ((flt_iff ha).mp c0)), sel_t (show mIn z 1 9 from ⟨(c1).1, (c1).2.1⟩), sel_t (show mIn v 0 9 from (c1).2.2), sel_t (show nI n = 40 from (Classical.not_not.mp (fun z9 => c2 ((full_iff ha).mpr z9))))]; rfl
        · rw [qcheckIn_g, sel_t (show mIn (nI jf) 0 (nI nf - 1) from ((flt_iff ha).mp c0)), sel_t (show mIn z 1 9 from ⟨(c1).1, (c1).2.1⟩), sel_t (show mIn v 0 9 from (c1).2.2), sel_t (show nI n = 40 from (Classical.not_not.mp (fun z9 => c2 ((full_iff ha).mpr z9))))]; exact RA_thr (RA_thr ha 0) 3
        · rw [qcheckIn_t, sel_t (show mIn (nI jf) 0 (nI nf - 1) from ((flt_iff ha).mp c0)), sel_t (show mIn z 1 9 from ⟨(c1).1, (c1).2.1⟩), sel_t (show mIn v 0 9 from (c1).2.2), sel_t (show nI n = 40 from (Classical.not_not.mp (fun z9 => c2 ((full_iff ha).mpr z9))))]; exact hb
    · by_cases c_m : mIn z 1 9
      · have h9_ := h40
        refine ⟨2, _, S, _, _, T0, U, og, n, nf, fun R => wbdL_checkIn_1 l S T0 og (nI jf) z v hfl c0 c1, fun R => metX6_checkIn l G T (nI jf) z v n ha.gn ha.n40 nf ha.gf_ ha.nf6 ha.okF ha.gob hb.hLn, ?_, fun h9 => absurd h9 (by decide), ?_, ?_⟩
        · rw [qcheckIn_g, sel_t (show mIn (nI jf) 0 (nI nf - 1) from ((flt_iff ha).mp c0)), sel_t (show mIn z 1 9 from c_m), sel_f (show ¬ (mIn v 0 9) from (fun z9 => c1 ⟨c_m.1, c_m.2, z9⟩))]; rfl
        · rw [qcheckIn_g, sel_t (show mIn (nI jf) 0 (nI nf - 1) from ((flt_iff ha).mp c0)), sel_t (show mIn z 1 9 from c_m), sel_f (show ¬ (mIn v 0 9) from (fun z9 => c1 ⟨c_m.1, c_m.2, z9⟩))]; exact RA_thr (RA_thr ha 0) 2
        · rw [qcheckIn_t, sel_t (show mIn (nI jf) 0 (nI nf - 1) from ((flt_iff ha).mp c0)), sel_t (show mIn z 1 9 from c_m), sel_f (show ¬ (mIn v 0 9) from (fun z9 => c1 ⟨c_m.1, c_m.2, z9⟩))]; exact hb
      · have h9_ := h40
        refine ⟨2, _, S, _, _, T0, U, og, n, nf, fun R => wbdL_checkIn_1 l S T0 og (nI jf) z v hfl c0 c1, fun R => metX6_checkIn l G T (nI jf) z v n ha.gn ha.n40 nf ha.gf_ ha.nf6 ha.okF ha.gob hb.hLn, ?_, fun h9 => absurd h9 (by decide), ?_, ?_⟩
        · rw [qcheckIn_g, sel_t (show mIn (nI jf) 0 (nI nf - 1) from ((flt_iff ha).mp c0)), sel_f (show ¬ (mIn z 1 9) from c_m)]; rfl
        · rw [qcheckIn_g, sel_t (show mIn (nI jf) 0 (nI nf - 1) from ((flt_iff ha).mp c0)), sel_f (show ¬ (mIn z 1 9) from c_m)]; exact RA_thr (RA_thr ha 0) 2
        · rw [qcheckIn_t, sel_t (show mIn (nI jf) 0 (nI nf - 1) from ((flt_iff ha).mp c0)), sel_f (show ¬ (mIn z 1 9) from c_m)]; exact hb
  · have h9_ := h40
    refine ⟨1, _, S, _, _, T0, U, og, n, nf, fun R => wbdL_checkIn_0 l S T0 og f z v hfl c0, fun R => metX6_checkIn l G T f z v n ha.gn ha.n40 nf ha.gf_ ha.nf6 ha.okF ha.gob hb.hLn, ?_, fun h9 => absurd h9 (by decide), ?_, ?_⟩
    · rw [qcheckIn_g, sel_f (show ¬ (mIn f 0 (nI nf - 1)) from (fun z9 => c0 ((flt_iff ha).mpr z9)))]; rfl
    · rw [qcheckIn_g, sel_f (show ¬ (mIn f 0 (nI nf - 1)) from (fun z9 => c0 ((flt_iff ha).mpr z9)))]; exact RA_thr (RA_thr ha 0) 1
    · rw [qcheckIn_t, sel_f (show ¬ (mIn f 0 (nI nf - 1)) from (fun z9 => c0 ((flt_iff ha).mpr z9)))]; exact hb
theorem op_sweep (l : Launch) (hfl : l.stackTraces = false) {D : va_G} {k : Nat → ClassId} {a tr g t u : Nat → Nat} {x o : Nat} {S G T : HS} {n nf : Nat} (ha : RA S G n nf) (hb : RB S T n) (T0 U : HS) (og : Nat → Int64) (ch : Int32) : ∃ (kc bb : Int32) (S1 G1 T1 T2 U1 : HS) (og1 : Nat → Int64) (n1 nf1 : Nat), (∀ R, LM l yL_sweep cL_sweep 4 [(0, 9, 12, 19)] rmL_sweep D k (xwW k a tr x o S T0 og R) [.ref x, .int ch, .ref o] kc (xwW k a tr x o S1 T2 og1 R)) ∧ (∀ R, MM l yX6_sweep cX6_sweep 4 (some FieldType.int) rmX6_sweep D k (mW k g t u G T U R) [.ref (g 0), .int ch] (some (.int bb)) (mW k g t u G1 T1 U1 R)) ∧ G1 0 0 = kc ∧ (kc = 0 → og1 0 = bb.toInt64) ∧ RA S1 G1 n1 nf1 ∧ RB S1 T1 n1 := by
  have h40 := ha.n40
  have h6 := ha.nf6
  by_cases c0 : xCh ch
  · have c0_ := c0
    obtain ⟨jch, hjch, rfl, eich⟩ := ch_of c0
    refine ⟨0, _, (xCl S (nI jch) n).2, _, _, T0, U, _, n, nf, fun R => wokL_sweep l S T0 og (nI jch) n ha.sn ha.n40 c0, fun R => metX6_sweep l G T (nI jch) n ha.gn ha.n40 nf ha.gf_ ha.nf6 ha.okF ha.gob , ?_, ?_, ?_, ?_⟩
    · rw [qsweep_g, sel_t (show mIn (nI jch) 0 3 from (ch_iff.mp c0))]; first | done | rfl | exact (congrFun (mSw_g (thr G 0) T _ (j := 0) (by decide) n) 0)
    · intro _
      rw [qsweep_r, sel_t (show mIn (nI jch) 0 3 from (ch_iff.mp c0))]
      have er : nI (xCl S (nI jch) n).1 = nI (mSw (thr G 0) T (ix (nI jch)) n).1 := by rw [eich, (sweep_rel (RA_thr ha 0) hb hjch n (Nat.le_refl n)).2.2]
      exact congrArg Int32.toInt64 er
    · rw [qsweep_g, sel_t (show mIn (nI jch) 0 3 from (ch_iff.mp c0))]; exact (by rw [eich]; exact (sweep_rel (RA_thr ha 0) hb hjch n (Nat.le_refl n)).1)
    · rw [qsweep_t, sel_t (show mIn (nI jch) 0 3 from (ch_iff.mp c0))]; exact (by rw [eich]; exact (sweep_rel (RA_thr ha 0) hb hjch n (Nat.le_refl n)).2.1)
  · have h9_ := h40
    refine ⟨1, _, S, _, _, T0, U, og, n, nf, fun R => wbdL_sweep_0 l S T0 og ch hfl c0, fun R => metX6_sweep l G T ch n ha.gn ha.n40 nf ha.gf_ ha.nf6 ha.okF ha.gob , ?_, fun h9 => absurd h9 (by decide), ?_, ?_⟩
    · rw [qsweep_g, sel_f (show ¬ (mIn ch 0 3) from (fun z9 => c0 (ch_iff.mpr z9)))]; rfl
    · rw [qsweep_g, sel_f (show ¬ (mIn ch 0 3) from (fun z9 => c0 (ch_iff.mpr z9)))]; exact RA_thr (RA_thr ha 0) 1
    · rw [qsweep_t, sel_f (show ¬ (mIn ch 0 3) from (fun z9 => c0 (ch_iff.mpr z9)))]; exact hb
theorem op_depart (l : Launch) (hfl : l.stackTraces = false) {D : va_G} {k : Nat → ClassId} {a tr g t u : Nat → Nat} {x o : Nat} {S G T : HS} {n nf : Nat} (ha : RA S G n nf) (hb : RB S T n) (T0 U : HS) (og : Nat → Int64) (f : Int32) : ∃ (kc bb : Int32) (S1 G1 T1 T2 U1 : HS) (og1 : Nat → Int64) (n1 nf1 : Nat), (∀ R, LM l yL_depart cL_depart 4 [(0, 9, 12, 19), (0, 9, 15, 13)] rmL_depart D k (xwW k a tr x o S T0 og R) [.ref x, .int f, .ref o] kc (xwW k a tr x o S1 T2 og1 R)) ∧ (∀ R, MM l yX6_depart cX6_depart 4 (some FieldType.int) rmX6_depart D k (mW k g t u G T U R) [.ref (g 0), .int f] (some (.int bb)) (mW k g t u G1 T1 U1 R)) ∧ G1 0 0 = kc ∧ (kc = 0 → og1 0 = bb.toInt64) ∧ RA S1 G1 n1 nf1 ∧ RB S1 T1 n1 := by
  have h40 := ha.n40
  have h6 := ha.nf6
  by_cases c0 : xFlt S f
  · have c0_ := c0
    obtain ⟨jf, hjf, rfl, eif⟩ := flt_of ha c0
    by_cases c1 : ¬ xGone S (nI jf)
    · have c1_ := c1
      refine ⟨0, _, xLeave S (nI jf) n, _, _, T0, U, _, n, nf, fun R => wokL_depart l S T0 og (nI jf) n ha.sn ha.n40 c0 c1, fun R => metX6_depart l G T (nI jf) n ha.gn ha.n40 nf ha.gf_ ha.nf6 ha.okF ha.gob hb.okA, ?_, ?_, ?_, ?_⟩
      · rw [qdepart_g, sel_t (show mIn (nI jf) 0 (nI nf - 1) from ((flt_iff ha).mp c0)), sel_t (show G 2 (ix (nI jf)) = 0 from (by rw [eif]; exact (ng_iff ha (by omega)).mp c1))]; first | done | rfl | exact (congrFun (mLv_g (thr G 0) T _ (j := 0) (by decide) n) 0)
      · intro _
        rw [qdepart_r, sel_t (show mIn (nI jf) 0 (nI nf - 1) from ((flt_iff ha).mp c0)), sel_t (show G 2 (ix (nI jf)) = 0 from (by rw [eif]; exact (ng_iff ha (by omega)).mp c1))]
        have er : nI (xLv S (nI jf) n).1 = nI (mLv (thr G 0) T (ix (nI jf)) n).1 := by rw [eif, (depart_rel (RA_thr ha 0) hb n (Nat.le_refl n)).2.2]
        exact congrArg Int32.toInt64 er
      · rw [qdepart_g, sel_t (show mIn (nI jf) 0 (nI nf - 1) from ((flt_iff ha).mp c0)), sel_t (show G 2 (ix (nI jf)) = 0 from (by rw [eif]; exact (ng_iff ha (by omega)).mp c1))]; exact (by rw [eif]; exact gon_ra (depart_rel (RA_thr ha 0) hb n (Nat.le_refl n)).1 (by omega))
      · rw [qdepart_t, sel_t (show mIn (nI jf) 0 (nI nf - 1) from ((flt_iff ha).mp c0)), sel_t (show G 2 (ix (nI jf)) = 0 from (by rw [eif]; exact (ng_iff ha (by omega)).mp c1))]; exact (by rw [eif]; exact RB_same (depart_rel (RA_thr ha 0) hb n (Nat.le_refl n)).2.1 rfl rfl rfl rfl rfl rfl rfl rfl)
    · have h9_ := h40
      refine ⟨2, _, S, _, _, T0, U, og, n, nf, fun R => wbdL_depart_1 l S T0 og (nI jf) hfl c0 c1, fun R => metX6_depart l G T (nI jf) n ha.gn ha.n40 nf ha.gf_ ha.nf6 ha.okF ha.gob hb.okA, ?_, fun h9 => absurd h9 (by decide), ?_, ?_⟩
      · rw [qdepart_g, sel_t (show mIn (nI jf) 0 (nI nf - 1) from ((flt_iff ha).mp c0)), sel_f (show ¬ (G 2 (ix (nI jf)) = 0) from (by rw [eif]; exact fun z9 => c1 ((ng_iff ha (by omega)).mpr z9)))]; rfl
      · rw [qdepart_g, sel_t (show mIn (nI jf) 0 (nI nf - 1) from ((flt_iff ha).mp c0)), sel_f (show ¬ (G 2 (ix (nI jf)) = 0) from (by rw [eif]; exact fun z9 => c1 ((ng_iff ha (by omega)).mpr z9)))]; exact RA_thr (RA_thr ha 0) 2
      · rw [qdepart_t, sel_t (show mIn (nI jf) 0 (nI nf - 1) from ((flt_iff ha).mp c0)), sel_f (show ¬ (G 2 (ix (nI jf)) = 0) from (by rw [eif]; exact fun z9 => c1 ((ng_iff ha (by omega)).mpr z9)))]; exact hb
  · have h9_ := h40
    refine ⟨1, _, S, _, _, T0, U, og, n, nf, fun R => wbdL_depart_0 l S T0 og f hfl c0, fun R => metX6_depart l G T f n ha.gn ha.n40 nf ha.gf_ ha.nf6 ha.okF ha.gob hb.okA, ?_, fun h9 => absurd h9 (by decide), ?_, ?_⟩
    · rw [qdepart_g, sel_f (show ¬ (mIn f 0 (nI nf - 1)) from (fun z9 => c0 ((flt_iff ha).mpr z9)))]; rfl
    · rw [qdepart_g, sel_f (show ¬ (mIn f 0 (nI nf - 1)) from (fun z9 => c0 ((flt_iff ha).mpr z9)))]; exact RA_thr (RA_thr ha 0) 1
    · rw [qdepart_t, sel_f (show ¬ (mIn f 0 (nI nf - 1)) from (fun z9 => c0 ((flt_iff ha).mpr z9)))]; exact hb
theorem op_pass (l : Launch) (hfl : l.stackTraces = false) {D : va_G} {k : Nat → ClassId} {a tr g t u : Nat → Nat} {x o : Nat} {S G T : HS} {n nf : Nat} (ha : RA S G n nf) (hb : RB S T n) (T0 U : HS) (og : Nat → Int64) (z : Int32) : ∃ (kc bb : Int32) (S1 G1 T1 T2 U1 : HS) (og1 : Nat → Int64) (n1 nf1 : Nat), (∀ R, LM l yL_pass cL_pass 4 [(0, 9, 12, 25)] rmL_pass D k (xwW k a tr x o S T0 og R) [.ref x, .int z, .ref o] kc (xwW k a tr x o S1 T2 og1 R)) ∧ (∀ R, MM l yX6_pass cX6_pass 2 (some FieldType.int) rmX6_pass D k (mW k g t u G T U R) [.ref (g 0), .int z] (some (.int bb)) (mW k g t u G1 T1 U1 R)) ∧ G1 0 0 = kc ∧ (kc = 0 → og1 0 = bb.toInt64) ∧ RA S1 G1 n1 nf1 ∧ RB S1 T1 n1 := by
  have h40 := ha.n40
  have h6 := ha.nf6
  by_cases c0 : xM60 z
  · have c0_ := c0
    obtain ⟨jz, hjz, rfl, eiz⟩ := m60_of c0
    refine ⟨0, _, (xGo S jz).2, _, _, T0, U, _, n, nf, fun R => wokL_pass l S T0 og jz hjz c0, fun R => metX6_pass l G T (nI jz) n ha.gn ha.n40 nf ha.gf_ ha.nf6 ha.okF ha.gob (fun _ i9 _ => hgz_of (RA_thr ha 0) hb i9), ?_, ?_, ?_, ?_⟩
    · rw [qpass_g, sel_t (show mIn (nI jz) 1 60 from c0)]; first | done | rfl | exact rfl
    · intro _
      rw [qpass_r, sel_t (show mIn (nI jz) 1 60 from c0)]
      have er : (xGo S jz).1 = (mGo (thr G 0) T (ix (nI jz))).1 := by rw [eiz, (go_rel (RA_thr ha 0) hb jz).2.2]
      exact congrArg Int32.toInt64 er
    · rw [qpass_g, sel_t (show mIn (nI jz) 1 60 from c0)]; exact RA_thr (go_rel ha hb jz).1 0
    · rw [qpass_t, sel_t (show mIn (nI jz) 1 60 from c0)]; exact (by rw [eiz]; exact (go_rel (RA_thr ha 0) hb jz).2.1)
  · obtain ⟨jz, rfl⟩ := nI_any z
    refine ⟨1, _, S, _, _, T0, U, og, n, nf, fun R => wbdL_pass_0 l S T0 og jz hfl c0, fun R => metX6_pass l G T (nI jz) n ha.gn ha.n40 nf ha.gf_ ha.nf6 ha.okF ha.gob (fun _ i9 _ => hgz_of (RA_thr ha 0) hb i9), ?_, fun h9 => absurd h9 (by decide), ?_, ?_⟩
    · rw [qpass_g, sel_f (show ¬ (mIn (nI jz) 1 60) from c0)]; rfl
    · rw [qpass_g, sel_f (show ¬ (mIn (nI jz) 1 60) from c0)]; exact RA_thr (RA_thr ha 0) 1
    · rw [qpass_t, sel_f (show ¬ (mIn (nI jz) 1 60) from c0)]; exact hb
theorem op_flightOf (l : Launch) (hfl : l.stackTraces = false) {D : va_G} {k : Nat → ClassId} {a tr g t u : Nat → Nat} {x o : Nat} {S G T : HS} {n nf : Nat} (ha : RA S G n nf) (hb : RB S T n) (T0 U : HS) (og : Nat → Int64) (b : Int32) : ∃ (kc bb : Int32) (S1 G1 T1 T2 U1 : HS) (og1 : Nat → Int64) (n1 nf1 : Nat), (∀ R, LM l yL_flightOf cL_flightOf 4 [(0, 9, 12, 19)] rmL_flightOf D k (xwW k a tr x o S T0 og R) [.ref x, .int b, .ref o] kc (xwW k a tr x o S1 T2 og1 R)) ∧ (∀ R, MM l yX6_flightOf cX6_flightOf 2 (some FieldType.int) rmX6_flightOf D k (mW k g t u G T U R) [.ref (g 0), .int b] (some (.int bb)) (mW k g t u G1 T1 U1 R)) ∧ G1 0 0 = kc ∧ (kc = 0 → og1 0 = bb.toInt64) ∧ RA S1 G1 n1 nf1 ∧ RB S1 T1 n1 := by
  have h40 := ha.n40
  have h6 := ha.nf6
  by_cases c0 : xBag S b
  · have c0_ := c0
    obtain ⟨jb, hjb, rfl, eib⟩ := bag_of ha c0
    refine ⟨0, _, S, _, T, T0, U, _, n, nf, fun R => wokL_flightOf l S T0 og (nI jb) c0, fun R => metX6_flightOf l G T (nI jb) n ha.gn ha.n40 nf ha.gf_ ha.nf6 ha.okF ha.gob , ?_, ?_, ?_, ?_⟩
    · rw [qflightOf_g, sel_t (show mIn (nI jb) 0 (nI n - 1) from ((bag_iff ha).mp c0))]; first | done | rfl | exact rfl
    · intro _
      rw [qflightOf_r, sel_t (show mIn (nI jb) 0 (nI n - 1) from ((bag_iff ha).mp c0))]
      have er : rd 40 (S 3) (nI jb) = G 4 (ix (nI jb)) := by rw [eib, rd_40 (by omega), (ha.fli jb hjb).1]
      exact congrArg Int32.toInt64 er
    · rw [qflightOf_g, sel_t (show mIn (nI jb) 0 (nI n - 1) from ((bag_iff ha).mp c0))]; exact RA_thr ha 0
    · exact hb
  · have h9_ := h40
    refine ⟨1, _, S, _, T, T0, U, og, n, nf, fun R => wbdL_flightOf_0 l S T0 og b hfl c0, fun R => metX6_flightOf l G T b n ha.gn ha.n40 nf ha.gf_ ha.nf6 ha.okF ha.gob , ?_, fun h9 => absurd h9 (by decide), ?_, hb⟩
    · rw [qflightOf_g, sel_f (show ¬ (mIn b 0 (nI n - 1)) from (fun z9 => c0 ((bag_iff ha).mpr z9)))]; rfl
    · rw [qflightOf_g, sel_f (show ¬ (mIn b 0 (nI n - 1)) from (fun z9 => c0 ((bag_iff ha).mpr z9)))]; exact RA_thr (RA_thr ha 0) 1
theorem op_whereIs (l : Launch) (hfl : l.stackTraces = false) {D : va_G} {k : Nat → ClassId} {a tr g t u : Nat → Nat} {x o : Nat} {S G T : HS} {n nf : Nat} (ha : RA S G n nf) (hb : RB S T n) (T0 U : HS) (og : Nat → Int64) (b : Int32) : ∃ (kc bb : Int32) (S1 G1 T1 T2 U1 : HS) (og1 : Nat → Int64) (n1 nf1 : Nat), (∀ R, LM l yL_whereIs cL_whereIs 4 [(0, 9, 12, 19)] rmL_whereIs D k (xwW k a tr x o S T0 og R) [.ref x, .int b, .ref o] kc (xwW k a tr x o S1 T2 og1 R)) ∧ (∀ R, MM l yX6_whereIs cX6_whereIs 2 (some FieldType.int) rmX6_whereIs D k (mW k g t u G T U R) [.ref (g 0), .int b] (some (.int bb)) (mW k g t u G1 T1 U1 R)) ∧ G1 0 0 = kc ∧ (kc = 0 → og1 0 = bb.toInt64) ∧ RA S1 G1 n1 nf1 ∧ RB S1 T1 n1 := by
  have h40 := ha.n40
  have h6 := ha.nf6
  by_cases c0 : xBag S b
  · have c0_ := c0
    obtain ⟨jb, hjb, rfl, eib⟩ := bag_of ha c0
    refine ⟨0, _, S, _, T, T0, U, _, n, nf, fun R => wokL_whereIs l S T0 og (nI jb) c0, fun R => metX6_whereIs l G T (nI jb) n ha.gn ha.n40 nf ha.gf_ ha.nf6 ha.okF ha.gob , ?_, ?_, ?_, ?_⟩
    · rw [qwhereIs_g, sel_t (show mIn (nI jb) 0 (nI n - 1) from ((bag_iff ha).mp c0))]; first | done | rfl | exact rfl
    · intro _
      rw [qwhereIs_r, sel_t (show mIn (nI jb) 0 (nI n - 1) from ((bag_iff ha).mp c0))]
      have er : rd 40 (S 6) (nI jb) = T 1 (ix (nI jb)) := by rw [eib, rd_40 (by omega), hb.whr jb hjb]
      exact congrArg Int32.toInt64 er
    · rw [qwhereIs_g, sel_t (show mIn (nI jb) 0 (nI n - 1) from ((bag_iff ha).mp c0))]; exact RA_thr ha 0
    · exact hb
  · have h9_ := h40
    refine ⟨1, _, S, _, T, T0, U, og, n, nf, fun R => wbdL_whereIs_0 l S T0 og b hfl c0, fun R => metX6_whereIs l G T b n ha.gn ha.n40 nf ha.gf_ ha.nf6 ha.okF ha.gob , ?_, fun h9 => absurd h9 (by decide), ?_, hb⟩
    · rw [qwhereIs_g, sel_f (show ¬ (mIn b 0 (nI n - 1)) from (fun z9 => c0 ((bag_iff ha).mpr z9)))]; rfl
    · rw [qwhereIs_g, sel_f (show ¬ (mIn b 0 (nI n - 1)) from (fun z9 => c0 ((bag_iff ha).mpr z9)))]; exact RA_thr (RA_thr ha 0) 1
theorem op_placeOf (l : Launch) (hfl : l.stackTraces = false) {D : va_G} {k : Nat → ClassId} {a tr g t u : Nat → Nat} {x o : Nat} {S G T : HS} {n nf : Nat} (ha : RA S G n nf) (hb : RB S T n) (T0 U : HS) (og : Nat → Int64) (b : Int32) : ∃ (kc bb : Int32) (S1 G1 T1 T2 U1 : HS) (og1 : Nat → Int64) (n1 nf1 : Nat), (∀ R, LM l yL_placeOf cL_placeOf 4 [(0, 9, 12, 19)] rmL_placeOf D k (xwW k a tr x o S T0 og R) [.ref x, .int b, .ref o] kc (xwW k a tr x o S1 T2 og1 R)) ∧ (∀ R, MM l yX6_placeOf cX6_placeOf 2 (some FieldType.int) rmX6_placeOf D k (mW k g t u G T U R) [.ref (g 0), .int b] (some (.int bb)) (mW k g t u G1 T1 U1 R)) ∧ G1 0 0 = kc ∧ (kc = 0 → og1 0 = bb.toInt64) ∧ RA S1 G1 n1 nf1 ∧ RB S1 T1 n1 := by
  have h40 := ha.n40
  have h6 := ha.nf6
  by_cases c0 : xBag S b
  · have c0_ := c0
    obtain ⟨jb, hjb, rfl, eib⟩ := bag_of ha c0
    refine ⟨0, _, S, _, T, T0, U, _, n, nf, fun R => wokL_placeOf l S T0 og (nI jb) c0, fun R => metX6_placeOf l G T (nI jb) n ha.gn ha.n40 nf ha.gf_ ha.nf6 ha.okF ha.gob , ?_, ?_, ?_, ?_⟩
    · rw [qplaceOf_g, sel_t (show mIn (nI jb) 0 (nI n - 1) from ((bag_iff ha).mp c0))]; first | done | rfl | exact rfl
    · intro _
      rw [qplaceOf_r, sel_t (show mIn (nI jb) 0 (nI n - 1) from ((bag_iff ha).mp c0))]
      have er : fnd (S 12) (nI jb) 0 12 = mPl T (ix (nI jb)) 1 := by rw [eib, place_eq hb hjb]
      exact congrArg Int32.toInt64 er
    · rw [qplaceOf_g, sel_t (show mIn (nI jb) 0 (nI n - 1) from ((bag_iff ha).mp c0))]; exact RA_thr ha 0
    · exact hb
  · have h9_ := h40
    refine ⟨1, _, S, _, T, T0, U, og, n, nf, fun R => wbdL_placeOf_0 l S T0 og b hfl c0, fun R => metX6_placeOf l G T b n ha.gn ha.n40 nf ha.gf_ ha.nf6 ha.okF ha.gob , ?_, fun h9 => absurd h9 (by decide), ?_, hb⟩
    · rw [qplaceOf_g, sel_f (show ¬ (mIn b 0 (nI n - 1)) from (fun z9 => c0 ((bag_iff ha).mpr z9)))]; rfl
    · rw [qplaceOf_g, sel_f (show ¬ (mIn b 0 (nI n - 1)) from (fun z9 => c0 ((bag_iff ha).mpr z9)))]; exact RA_thr (RA_thr ha 0) 1
theorem op_chuteOf (l : Launch) (hfl : l.stackTraces = false) {D : va_G} {k : Nat → ClassId} {a tr g t u : Nat → Nat} {x o : Nat} {S G T : HS} {n nf : Nat} (ha : RA S G n nf) (hb : RB S T n) (T0 U : HS) (og : Nat → Int64) (b : Int32) : ∃ (kc bb : Int32) (S1 G1 T1 T2 U1 : HS) (og1 : Nat → Int64) (n1 nf1 : Nat), (∀ R, LM l yL_chuteOf cL_chuteOf 4 [(0, 9, 12, 19)] rmL_chuteOf D k (xwW k a tr x o S T0 og R) [.ref x, .int b, .ref o] kc (xwW k a tr x o S1 T2 og1 R)) ∧ (∀ R, MM l yX6_chuteOf cX6_chuteOf 2 (some FieldType.int) rmX6_chuteOf D k (mW k g t u G T U R) [.ref (g 0), .int b] (some (.int bb)) (mW k g t u G1 T1 U1 R)) ∧ G1 0 0 = kc ∧ (kc = 0 → og1 0 = bb.toInt64) ∧ RA S1 G1 n1 nf1 ∧ RB S1 T1 n1 := by
  have h40 := ha.n40
  have h6 := ha.nf6
  by_cases c0 : xBag S b
  · have c0_ := c0
    obtain ⟨jb, hjb, rfl, eib⟩ := bag_of ha c0
    refine ⟨0, _, S, _, T, T0, U, _, n, nf, fun R => wokL_chuteOf l S T0 og (nI jb) c0, fun R => metX6_chuteOf l G T (nI jb) n ha.gn ha.n40 nf ha.gf_ ha.nf6 ha.okF ha.gob , ?_, ?_, ?_, ?_⟩
    · rw [qchuteOf_g, sel_t (show mIn (nI jb) 0 (nI n - 1) from ((bag_iff ha).mp c0))]; first | done | rfl | exact rfl
    · intro _
      rw [qchuteOf_r, sel_t (show mIn (nI jb) 0 (nI n - 1) from ((bag_iff ha).mp c0))]
      have er : rd 40 (S 7) (nI jb) = mPl T (ix (nI jb)) 2 := by rw [eib, rd_40 (by omega), chute_eq hb hjb]
      exact congrArg Int32.toInt64 er
    · rw [qchuteOf_g, sel_t (show mIn (nI jb) 0 (nI n - 1) from ((bag_iff ha).mp c0))]; exact RA_thr ha 0
    · exact hb
  · have h9_ := h40
    refine ⟨1, _, S, _, T, T0, U, og, n, nf, fun R => wbdL_chuteOf_0 l S T0 og b hfl c0, fun R => metX6_chuteOf l G T b n ha.gn ha.n40 nf ha.gf_ ha.nf6 ha.okF ha.gob , ?_, fun h9 => absurd h9 (by decide), ?_, hb⟩
    · rw [qchuteOf_g, sel_f (show ¬ (mIn b 0 (nI n - 1)) from (fun z9 => c0 ((bag_iff ha).mpr z9)))]; rfl
    · rw [qchuteOf_g, sel_f (show ¬ (mIn b 0 (nI n - 1)) from (fun z9 => c0 ((bag_iff ha).mpr z9)))]; exact RA_thr (RA_thr ha 0) 1
theorem op_readFor (l : Launch) (hfl : l.stackTraces = false) {D : va_G} {k : Nat → ClassId} {a tr g t u : Nat → Nat} {x o : Nat} {S G T : HS} {n nf : Nat} (ha : RA S G n nf) (hb : RB S T n) (T0 U : HS) (og : Nat → Int64) (b : Int32) : ∃ (kc bb : Int32) (S1 G1 T1 T2 U1 : HS) (og1 : Nat → Int64) (n1 nf1 : Nat), (∀ R, LM l yL_readFor cL_readFor 4 [(0, 9, 12, 19)] rmL_readFor D k (xwW k a tr x o S T0 og R) [.ref x, .int b, .ref o] kc (xwW k a tr x o S1 T2 og1 R)) ∧ (∀ R, MM l yX6_readFor cX6_readFor 2 (some FieldType.int) rmX6_readFor D k (mW k g t u G T U R) [.ref (g 0), .int b] (some (.int bb)) (mW k g t u G1 T1 U1 R)) ∧ G1 0 0 = kc ∧ (kc = 0 → og1 0 = bb.toInt64) ∧ RA S1 G1 n1 nf1 ∧ RB S1 T1 n1 := by
  have h40 := ha.n40
  have h6 := ha.nf6
  by_cases c0 : xBag S b
  · have c0_ := c0
    obtain ⟨jb, hjb, rfl, eib⟩ := bag_of ha c0
    refine ⟨0, _, S, _, T, T0, U, _, n, nf, fun R => wokL_readFor l S T0 og (nI jb) c0, fun R => metX6_readFor l G T (nI jb) n ha.gn ha.n40 nf ha.gf_ ha.nf6 ha.okF ha.gob , ?_, ?_, ?_, ?_⟩
    · rw [qreadFor_g, sel_t (show mIn (nI jb) 0 (nI n - 1) from ((bag_iff ha).mp c0))]; first | done | rfl | exact rfl
    · intro _
      rw [qreadFor_r, sel_t (show mIn (nI jb) 0 (nI n - 1) from ((bag_iff ha).mp c0))]
      have er : rd 40 (S 8) (nI jb) = T 3 (ix (nI jb)) := by rw [eib, rd_40 (by omega), hb.rdd jb hjb]
      exact congrArg Int32.toInt64 er
    · rw [qreadFor_g, sel_t (show mIn (nI jb) 0 (nI n - 1) from ((bag_iff ha).mp c0))]; exact RA_thr ha 0
    · exact hb
  · have h9_ := h40
    refine ⟨1, _, S, _, T, T0, U, og, n, nf, fun R => wbdL_readFor_0 l S T0 og b hfl c0, fun R => metX6_readFor l G T b n ha.gn ha.n40 nf ha.gf_ ha.nf6 ha.okF ha.gob , ?_, fun h9 => absurd h9 (by decide), ?_, hb⟩
    · rw [qreadFor_g, sel_f (show ¬ (mIn b 0 (nI n - 1)) from (fun z9 => c0 ((bag_iff ha).mpr z9)))]; rfl
    · rw [qreadFor_g, sel_f (show ¬ (mIn b 0 (nI n - 1)) from (fun z9 => c0 ((bag_iff ha).mpr z9)))]; exact RA_thr (RA_thr ha 0) 1
theorem op_missesOf (l : Launch) (hfl : l.stackTraces = false) {D : va_G} {k : Nat → ClassId} {a tr g t u : Nat → Nat} {x o : Nat} {S G T : HS} {n nf : Nat} (ha : RA S G n nf) (hb : RB S T n) (T0 U : HS) (og : Nat → Int64) (b : Int32) : ∃ (kc bb : Int32) (S1 G1 T1 T2 U1 : HS) (og1 : Nat → Int64) (n1 nf1 : Nat), (∀ R, LM l yL_missesOf cL_missesOf 4 [(0, 9, 12, 19)] rmL_missesOf D k (xwW k a tr x o S T0 og R) [.ref x, .int b, .ref o] kc (xwW k a tr x o S1 T2 og1 R)) ∧ (∀ R, MM l yX6_missesOf cX6_missesOf 2 (some FieldType.int) rmX6_missesOf D k (mW k g t u G T U R) [.ref (g 0), .int b] (some (.int bb)) (mW k g t u G1 T1 U1 R)) ∧ G1 0 0 = kc ∧ (kc = 0 → og1 0 = bb.toInt64) ∧ RA S1 G1 n1 nf1 ∧ RB S1 T1 n1 := by
  have h40 := ha.n40
  have h6 := ha.nf6
  by_cases c0 : xBag S b
  · have c0_ := c0
    obtain ⟨jb, hjb, rfl, eib⟩ := bag_of ha c0
    refine ⟨0, _, S, _, T, T0, U, _, n, nf, fun R => wokL_missesOf l S T0 og (nI jb) c0, fun R => metX6_missesOf l G T (nI jb) n ha.gn ha.n40 nf ha.gf_ ha.nf6 ha.okF ha.gob , ?_, ?_, ?_, ?_⟩
    · rw [qmissesOf_g, sel_t (show mIn (nI jb) 0 (nI n - 1) from ((bag_iff ha).mp c0))]; first | done | rfl | exact rfl
    · intro _
      rw [qmissesOf_r, sel_t (show mIn (nI jb) 0 (nI n - 1) from ((bag_iff ha).mp c0))]
      have er : rd 40 (S 9) (nI jb) = T 4 (ix (nI jb)) := by rw [eib, rd_40 (by omega), hb.mis jb hjb]
      exact congrArg Int32.toInt64 er
    · rw [qmissesOf_g, sel_t (show mIn (nI jb) 0 (nI n - 1) from ((bag_iff ha).mp c0))]; exact RA_thr ha 0
    · exact hb
  · have h9_ := h40
    refine ⟨1, _, S, _, T, T0, U, og, n, nf, fun R => wbdL_missesOf_0 l S T0 og b hfl c0, fun R => metX6_missesOf l G T b n ha.gn ha.n40 nf ha.gf_ ha.nf6 ha.okF ha.gob , ?_, fun h9 => absurd h9 (by decide), ?_, hb⟩
    · rw [qmissesOf_g, sel_f (show ¬ (mIn b 0 (nI n - 1)) from (fun z9 => c0 ((bag_iff ha).mpr z9)))]; rfl
    · rw [qmissesOf_g, sel_f (show ¬ (mIn b 0 (nI n - 1)) from (fun z9 => c0 ((bag_iff ha).mpr z9)))]; exact RA_thr (RA_thr ha 0) 1
theorem op_isMisrouted (l : Launch) (hfl : l.stackTraces = false) {D : va_G} {k : Nat → ClassId} {a tr g t u : Nat → Nat} {x o : Nat} {S G T : HS} {n nf : Nat} (ha : RA S G n nf) (hb : RB S T n) (T0 U : HS) (og : Nat → Int64) (b : Int32) : ∃ (kc bb : Int32) (S1 G1 T1 T2 U1 : HS) (og1 : Nat → Int64) (n1 nf1 : Nat), (∀ R, LM l yL_isMisrouted cL_isMisrouted 4 [(0, 16, 19, 19)] rmL_isMisrouted D k (xwW k a tr x o S T0 og R) [.ref x, .int b, .ref o] kc (xwW k a tr x o S1 T2 og1 R)) ∧ (∀ R, MM l yX6_isMisrouted cX6_isMisrouted 2 (some FieldType.boolean) rmX6_isMisrouted D k (mW k g t u G T U R) [.ref (g 0), .int b] (some (.int bb)) (mW k g t u G1 T1 U1 R)) ∧ G1 0 0 = kc ∧ (kc = 0 → (bb = 0 → og1 0 = 0) ∧ (¬ bb = 0 → og1 0 = 1)) ∧ RA S1 G1 n1 nf1 ∧ RB S1 T1 n1 := by
  have h40 := ha.n40
  have h6 := ha.nf6
  by_cases c0 : xBag S b
  · have c0_ := c0
    obtain ⟨jb, hjb, rfl, eib⟩ := bag_of ha c0
    refine ⟨0, _, S, _, T, T0, U, _, n, nf, fun R => wokL_isMisrouted l S T0 og (nI jb) c0, fun R => metX6_isMisrouted l G T (nI jb) n ha.gn ha.n40 nf ha.gf_ ha.nf6 ha.okF ha.gob , ?_, ?_, ?_, ?_⟩
    · rw [qisMisrouted_g, sel_t (show mIn (nI jb) 0 (nI n - 1) from ((bag_iff ha).mp c0))]; first | done | rfl | exact rfl
    · intro _
      rw [qisMisrouted_r, sel_t (show mIn (nI jb) 0 (nI n - 1) from ((bag_iff ha).mp c0))]
      have er : bI (xAst S (nI jb)) = (bI (mMis (thr G 0) T (ix (nI jb)))) := by rw [eib]; exact bI_cong (ast_iff (RA_thr ha 0) hb hjb)
      rw [← er]
      exact bI_law _
    · rw [qisMisrouted_g, sel_t (show mIn (nI jb) 0 (nI n - 1) from ((bag_iff ha).mp c0))]; exact RA_thr ha 0
    · exact hb
  · have h9_ := h40
    refine ⟨1, _, S, _, T, T0, U, og, n, nf, fun R => wbdL_isMisrouted_0 l S T0 og b hfl c0, fun R => metX6_isMisrouted l G T b n ha.gn ha.n40 nf ha.gf_ ha.nf6 ha.okF ha.gob , ?_, fun h9 => absurd h9 (by decide), ?_, hb⟩
    · rw [qisMisrouted_g, sel_f (show ¬ (mIn b 0 (nI n - 1)) from (fun z9 => c0 ((bag_iff ha).mpr z9)))]; rfl
    · rw [qisMisrouted_g, sel_f (show ¬ (mIn b 0 (nI n - 1)) from (fun z9 => c0 ((bag_iff ha).mpr z9)))]; exact RA_thr (RA_thr ha 0) 1
theorem op_hasOpenFile (l : Launch) (hfl : l.stackTraces = false) {D : va_G} {k : Nat → ClassId} {a tr g t u : Nat → Nat} {x o : Nat} {S G T : HS} {n nf : Nat} (ha : RA S G n nf) (hb : RB S T n) (T0 U : HS) (og : Nat → Int64) (b : Int32) : ∃ (kc bb : Int32) (S1 G1 T1 T2 U1 : HS) (og1 : Nat → Int64) (n1 nf1 : Nat), (∀ R, LM l yL_hasOpenFile cL_hasOpenFile 4 [(0, 16, 19, 19)] rmL_hasOpenFile D k (xwW k a tr x o S T0 og R) [.ref x, .int b, .ref o] kc (xwW k a tr x o S1 T2 og1 R)) ∧ (∀ R, MM l yX6_hasOpenFile cX6_hasOpenFile 2 (some FieldType.boolean) rmX6_hasOpenFile D k (mW k g t u G T U R) [.ref (g 0), .int b] (some (.int bb)) (mW k g t u G1 T1 U1 R)) ∧ G1 0 0 = kc ∧ (kc = 0 → (bb = 0 → og1 0 = 0) ∧ (¬ bb = 0 → og1 0 = 1)) ∧ RA S1 G1 n1 nf1 ∧ RB S1 T1 n1 := by
  have h40 := ha.n40
  have h6 := ha.nf6
  by_cases c0 : xBag S b
  · have c0_ := c0
    obtain ⟨jb, hjb, rfl, eib⟩ := bag_of ha c0
    refine ⟨0, _, S, _, T, T0, U, _, n, nf, fun R => wokL_hasOpenFile l S T0 og (nI jb) c0, fun R => metX6_hasOpenFile l G T (nI jb) n ha.gn ha.n40 nf ha.gf_ ha.nf6 ha.okF ha.gob , ?_, ?_, ?_, ?_⟩
    · rw [qhasOpenFile_g, sel_t (show mIn (nI jb) 0 (nI n - 1) from ((bag_iff ha).mp c0))]; first | done | rfl | exact rfl
    · intro _
      rw [qhasOpenFile_r, sel_t (show mIn (nI jb) 0 (nI n - 1) from ((bag_iff ha).mp c0))]
      have er : bI (rd 40 (S 10) (nI jb) = 1) = (bI (G 7 (ix (nI jb)) = 1)) := by rw [eib, rd_40 (by omega), ha.fil jb hjb]
      rw [← er]
      exact bI_law _
    · rw [qhasOpenFile_g, sel_t (show mIn (nI jb) 0 (nI n - 1) from ((bag_iff ha).mp c0))]; exact RA_thr ha 0
    · exact hb
  · have h9_ := h40
    refine ⟨1, _, S, _, T, T0, U, og, n, nf, fun R => wbdL_hasOpenFile_0 l S T0 og b hfl c0, fun R => metX6_hasOpenFile l G T b n ha.gn ha.n40 nf ha.gf_ ha.nf6 ha.okF ha.gob , ?_, fun h9 => absurd h9 (by decide), ?_, hb⟩
    · rw [qhasOpenFile_g, sel_f (show ¬ (mIn b 0 (nI n - 1)) from (fun z9 => c0 ((bag_iff ha).mpr z9)))]; rfl
    · rw [qhasOpenFile_g, sel_f (show ¬ (mIn b 0 (nI n - 1)) from (fun z9 => c0 ((bag_iff ha).mpr z9)))]; exact RA_thr (RA_thr ha 0) 1
theorem op_bagAt (l : Launch) (hfl : l.stackTraces = false) {D : va_G} {k : Nat → ClassId} {a tr g t u : Nat → Nat} {x o : Nat} {S G T : HS} {n nf : Nat} (ha : RA S G n nf) (hb : RB S T n) (T0 U : HS) (og : Nat → Int64) (q : Int32) : ∃ (kc bb : Int32) (S1 G1 T1 T2 U1 : HS) (og1 : Nat → Int64) (n1 nf1 : Nat), (∀ R, LM l yL_bagAt cL_bagAt 4 [(0, 9, 12, 19)] rmL_bagAt D k (xwW k a tr x o S T0 og R) [.ref x, .int q, .ref o] kc (xwW k a tr x o S1 T2 og1 R)) ∧ (∀ R, MM l yX6_bagAt cX6_bagAt 2 (some FieldType.int) rmX6_bagAt D k (mW k g t u G T U R) [.ref (g 0), .int q] (some (.int bb)) (mW k g t u G1 T1 U1 R)) ∧ G1 0 0 = kc ∧ (kc = 0 → og1 0 = bb.toInt64) ∧ RA S1 G1 n1 nf1 ∧ RB S1 T1 n1 := by
  have h40 := ha.n40
  have h6 := ha.nf6
  by_cases c0 : ¬ q < 0 ∧ q < 12
  · have c0_ := c0
    obtain ⟨jq, hjq, rfl, eiq⟩ := pl_of c0
    refine ⟨0, _, S, _, T, T0, U, _, n, nf, fun R => wokL_bagAt l S T0 og (nI jq) c0, fun R => metX6_bagAt l G T (nI jq) n ha.gn ha.n40 nf ha.gf_ ha.nf6 ha.okF ha.gob , ?_, ?_, ?_, ?_⟩
    · rw [qbagAt_g, sel_t (show mIn (nI jq) 0 11 from (pl_iff.mp c0))]; first | done | rfl | exact rfl
    · intro _
      rw [qbagAt_r, sel_t (show mIn (nI jq) 0 11 from (pl_iff.mp c0))]
      have er : rd 12 (S 12) (nI jq) = T 5 (ix (nI jq)) := by rw [eiq, rd_12 hjq, hb.bel jq hjq]
      exact congrArg Int32.toInt64 er
    · rw [qbagAt_g, sel_t (show mIn (nI jq) 0 11 from (pl_iff.mp c0))]; exact RA_thr ha 0
    · exact hb
  · have h9_ := h40
    refine ⟨1, _, S, _, T, T0, U, og, n, nf, fun R => wbdL_bagAt_0 l S T0 og q hfl c0, fun R => metX6_bagAt l G T q n ha.gn ha.n40 nf ha.gf_ ha.nf6 ha.okF ha.gob , ?_, fun h9 => absurd h9 (by decide), ?_, hb⟩
    · rw [qbagAt_g, sel_f (show ¬ (mIn q 0 11) from (fun z9 => c0 (pl_iff.mpr z9)))]; rfl
    · rw [qbagAt_g, sel_f (show ¬ (mIn q 0 11) from (fun z9 => c0 (pl_iff.mpr z9)))]; exact RA_thr (RA_thr ha 0) 1
theorem op_bagsIn (l : Launch) (hfl : l.stackTraces = false) {D : va_G} {k : Nat → ClassId} {a tr g t u : Nat → Nat} {x o : Nat} {S G T : HS} {n nf : Nat} (ha : RA S G n nf) (hb : RB S T n) (T0 U : HS) (og : Nat → Int64) (ch : Int32) : ∃ (kc bb : Int32) (S1 G1 T1 T2 U1 : HS) (og1 : Nat → Int64) (n1 nf1 : Nat), (∀ R, LM l yL_bagsIn cL_bagsIn 4 [(0, 9, 12, 19)] rmL_bagsIn D k (xwW k a tr x o S T0 og R) [.ref x, .int ch, .ref o] kc (xwW k a tr x o S1 T2 og1 R)) ∧ (∀ R, MM l yX6_bagsIn cX6_bagsIn 2 (some FieldType.int) rmX6_bagsIn D k (mW k g t u G T U R) [.ref (g 0), .int ch] (some (.int bb)) (mW k g t u G1 T1 U1 R)) ∧ G1 0 0 = kc ∧ (kc = 0 → og1 0 = bb.toInt64) ∧ RA S1 G1 n1 nf1 ∧ RB S1 T1 n1 := by
  have h40 := ha.n40
  have h6 := ha.nf6
  by_cases c0 : xCh ch
  · have c0_ := c0
    obtain ⟨jch, hjch, rfl, eich⟩ := ch_of c0
    refine ⟨0, _, S, _, T, T0, U, _, n, nf, fun R => wokL_bagsIn l S T0 og (nI jch) c0, fun R => metX6_bagsIn l G T (nI jch) n ha.gn ha.n40 nf ha.gf_ ha.nf6 ha.okF ha.gob , ?_, ?_, ?_, ?_⟩
    · rw [qbagsIn_g, sel_t (show mIn (nI jch) 0 3 from (ch_iff.mp c0))]; first | done | rfl | exact rfl
    · intro _
      rw [qbagsIn_r, sel_t (show mIn (nI jch) 0 3 from (ch_iff.mp c0))]
      have er : nI (ct (fun j_ => S 7 j_ = (nI jch)) 40) = T 7 (ix (nI jch)) := by rw [eich, in_ct hb hjch]
      exact congrArg Int32.toInt64 er
    · rw [qbagsIn_g, sel_t (show mIn (nI jch) 0 3 from (ch_iff.mp c0))]; exact RA_thr ha 0
    · exact hb
  · have h9_ := h40
    refine ⟨1, _, S, _, T, T0, U, og, n, nf, fun R => wbdL_bagsIn_0 l S T0 og ch hfl c0, fun R => metX6_bagsIn l G T ch n ha.gn ha.n40 nf ha.gf_ ha.nf6 ha.okF ha.gob , ?_, fun h9 => absurd h9 (by decide), ?_, hb⟩
    · rw [qbagsIn_g, sel_f (show ¬ (mIn ch 0 3) from (fun z9 => c0 (ch_iff.mpr z9)))]; rfl
    · rw [qbagsIn_g, sel_f (show ¬ (mIn ch 0 3) from (fun z9 => c0 (ch_iff.mpr z9)))]; exact RA_thr (RA_thr ha 0) 1
theorem op_misroutedIn (l : Launch) (hfl : l.stackTraces = false) {D : va_G} {k : Nat → ClassId} {a tr g t u : Nat → Nat} {x o : Nat} {S G T : HS} {n nf : Nat} (ha : RA S G n nf) (hb : RB S T n) (T0 U : HS) (og : Nat → Int64) (ch : Int32) : ∃ (kc bb : Int32) (S1 G1 T1 T2 U1 : HS) (og1 : Nat → Int64) (n1 nf1 : Nat), (∀ R, LM l yL_misroutedIn cL_misroutedIn 4 [(0, 9, 12, 19)] rmL_misroutedIn D k (xwW k a tr x o S T0 og R) [.ref x, .int ch, .ref o] kc (xwW k a tr x o S1 T2 og1 R)) ∧ (∀ R, MM l yX6_misroutedIn cX6_misroutedIn 2 (some FieldType.int) rmX6_misroutedIn D k (mW k g t u G T U R) [.ref (g 0), .int ch] (some (.int bb)) (mW k g t u G1 T1 U1 R)) ∧ G1 0 0 = kc ∧ (kc = 0 → og1 0 = bb.toInt64) ∧ RA S1 G1 n1 nf1 ∧ RB S1 T1 n1 := by
  have h40 := ha.n40
  have h6 := ha.nf6
  by_cases c0 : xCh ch
  · have c0_ := c0
    obtain ⟨jch, hjch, rfl, eich⟩ := ch_of c0
    refine ⟨0, _, S, _, T, T0, U, _, n, nf, fun R => wokL_misroutedIn l S T0 og (nI jch) n ha.sn ha.n40 c0, fun R => metX6_misroutedIn l G T (nI jch) n ha.gn ha.n40 nf ha.gf_ ha.nf6 ha.okF ha.gob , ?_, ?_, ?_, ?_⟩
    · rw [qmisroutedIn_g, sel_t (show mIn (nI jch) 0 3 from (ch_iff.mp c0))]; first | done | rfl | exact rfl
    · intro _
      rw [qmisroutedIn_r, sel_t (show mIn (nI jch) 0 3 from (ch_iff.mp c0))]
      have er : nI (xMisN S (nI jch) n) = nI (mBad (thr G 0) T (nI (ix (nI jch))) n) := by rw [eich, mis_ct (RA_thr ha 0) hb hjch]
      exact congrArg Int32.toInt64 er
    · rw [qmisroutedIn_g, sel_t (show mIn (nI jch) 0 3 from (ch_iff.mp c0))]; exact RA_thr ha 0
    · exact hb
  · have h9_ := h40
    refine ⟨1, _, S, _, T, T0, U, og, n, nf, fun R => wbdL_misroutedIn_0 l S T0 og ch hfl c0, fun R => metX6_misroutedIn l G T ch n ha.gn ha.n40 nf ha.gf_ ha.nf6 ha.okF ha.gob , ?_, fun h9 => absurd h9 (by decide), ?_, hb⟩
    · rw [qmisroutedIn_g, sel_f (show ¬ (mIn ch 0 3) from (fun z9 => c0 (ch_iff.mpr z9)))]; rfl
    · rw [qmisroutedIn_g, sel_f (show ¬ (mIn ch 0 3) from (fun z9 => c0 (ch_iff.mpr z9)))]; exact RA_thr (RA_thr ha 0) 1
theorem op_roomOf (l : Launch) (hfl : l.stackTraces = false) {D : va_G} {k : Nat → ClassId} {a tr g t u : Nat → Nat} {x o : Nat} {S G T : HS} {n nf : Nat} (ha : RA S G n nf) (hb : RB S T n) (T0 U : HS) (og : Nat → Int64) (ch : Int32) : ∃ (kc bb : Int32) (S1 G1 T1 T2 U1 : HS) (og1 : Nat → Int64) (n1 nf1 : Nat), (∀ R, LM l yL_roomOf cL_roomOf 4 [(0, 9, 12, 19)] rmL_roomOf D k (xwW k a tr x o S T0 og R) [.ref x, .int ch, .ref o] kc (xwW k a tr x o S1 T2 og1 R)) ∧ (∀ R, MM l yX6_roomOf cX6_roomOf 2 (some FieldType.int) rmX6_roomOf D k (mW k g t u G T U R) [.ref (g 0), .int ch] (some (.int bb)) (mW k g t u G1 T1 U1 R)) ∧ G1 0 0 = kc ∧ (kc = 0 → og1 0 = bb.toInt64) ∧ RA S1 G1 n1 nf1 ∧ RB S1 T1 n1 := by
  have h40 := ha.n40
  have h6 := ha.nf6
  by_cases c0 : xCh ch
  · have c0_ := c0
    obtain ⟨jch, hjch, rfl, eich⟩ := ch_of c0
    refine ⟨0, _, S, _, T, T0, U, _, n, nf, fun R => wokL_roomOf l S T0 og (nI jch) c0, fun R => metX6_roomOf l G T (nI jch) n ha.gn ha.n40 nf ha.gf_ ha.nf6 ha.okF ha.gob , ?_, ?_, ?_, ?_⟩
    · rw [qroomOf_g, sel_t (show mIn (nI jch) 0 3 from (ch_iff.mp c0))]; first | done | rfl | exact rfl
    · intro _
      rw [qroomOf_r, sel_t (show mIn (nI jch) 0 3 from (ch_iff.mp c0))]
      have er : rd 4 (S 11) (nI jch) = G 3 (ix (nI jch)) := by rw [eich, rd_4 hjch, ha.roo jch hjch]
      exact congrArg Int32.toInt64 er
    · rw [qroomOf_g, sel_t (show mIn (nI jch) 0 3 from (ch_iff.mp c0))]; exact RA_thr ha 0
    · exact hb
  · have h9_ := h40
    refine ⟨1, _, S, _, T, T0, U, og, n, nf, fun R => wbdL_roomOf_0 l S T0 og ch hfl c0, fun R => metX6_roomOf l G T ch n ha.gn ha.n40 nf ha.gf_ ha.nf6 ha.okF ha.gob , ?_, fun h9 => absurd h9 (by decide), ?_, hb⟩
    · rw [qroomOf_g, sel_f (show ¬ (mIn ch 0 3) from (fun z9 => c0 (ch_iff.mpr z9)))]; rfl
    · rw [qroomOf_g, sel_f (show ¬ (mIn ch 0 3) from (fun z9 => c0 (ch_iff.mpr z9)))]; exact RA_thr (RA_thr ha 0) 1
theorem op_chuteOfFlight (l : Launch) (hfl : l.stackTraces = false) {D : va_G} {k : Nat → ClassId} {a tr g t u : Nat → Nat} {x o : Nat} {S G T : HS} {n nf : Nat} (ha : RA S G n nf) (hb : RB S T n) (T0 U : HS) (og : Nat → Int64) (f : Int32) : ∃ (kc bb : Int32) (S1 G1 T1 T2 U1 : HS) (og1 : Nat → Int64) (n1 nf1 : Nat), (∀ R, LM l yL_chuteOfFlight cL_chuteOfFlight 4 [(0, 9, 12, 19)] rmL_chuteOfFlight D k (xwW k a tr x o S T0 og R) [.ref x, .int f, .ref o] kc (xwW k a tr x o S1 T2 og1 R)) ∧ (∀ R, MM l yX6_chuteOfFlight cX6_chuteOfFlight 2 (some FieldType.int) rmX6_chuteOfFlight D k (mW k g t u G T U R) [.ref (g 0), .int f] (some (.int bb)) (mW k g t u G1 T1 U1 R)) ∧ G1 0 0 = kc ∧ (kc = 0 → og1 0 = bb.toInt64) ∧ RA S1 G1 n1 nf1 ∧ RB S1 T1 n1 := by
  have h40 := ha.n40
  have h6 := ha.nf6
  by_cases c0 : xFlt S f
  · have c0_ := c0
    obtain ⟨jf, hjf, rfl, eif⟩ := flt_of ha c0
    refine ⟨0, _, S, _, T, T0, U, _, n, nf, fun R => wokL_chuteOfFlight l S T0 og (nI jf) c0, fun R => metX6_chuteOfFlight l G T (nI jf) n ha.gn ha.n40 nf ha.gf_ ha.nf6 ha.okF ha.gob , ?_, ?_, ?_, ?_⟩
    · rw [qchuteOfFlight_g, sel_t (show mIn (nI jf) 0 (nI nf - 1) from ((flt_iff ha).mp c0))]; first | done | rfl | exact rfl
    · intro _
      rw [qchuteOfFlight_r, sel_t (show mIn (nI jf) 0 (nI nf - 1) from ((flt_iff ha).mp c0))]
      have er : rd 6 (S 1) (nI jf) = G 1 (ix (nI jf)) := by rw [eif, rd_6 (by omega), ha.chu jf (by omega)]
      exact congrArg Int32.toInt64 er
    · rw [qchuteOfFlight_g, sel_t (show mIn (nI jf) 0 (nI nf - 1) from ((flt_iff ha).mp c0))]; exact RA_thr ha 0
    · exact hb
  · have h9_ := h40
    refine ⟨1, _, S, _, T, T0, U, og, n, nf, fun R => wbdL_chuteOfFlight_0 l S T0 og f hfl c0, fun R => metX6_chuteOfFlight l G T f n ha.gn ha.n40 nf ha.gf_ ha.nf6 ha.okF ha.gob , ?_, fun h9 => absurd h9 (by decide), ?_, hb⟩
    · rw [qchuteOfFlight_g, sel_f (show ¬ (mIn f 0 (nI nf - 1)) from (fun z9 => c0 ((flt_iff ha).mpr z9)))]; rfl
    · rw [qchuteOfFlight_g, sel_f (show ¬ (mIn f 0 (nI nf - 1)) from (fun z9 => c0 ((flt_iff ha).mpr z9)))]; exact RA_thr (RA_thr ha 0) 1
theorem op_isGone (l : Launch) (hfl : l.stackTraces = false) {D : va_G} {k : Nat → ClassId} {a tr g t u : Nat → Nat} {x o : Nat} {S G T : HS} {n nf : Nat} (ha : RA S G n nf) (hb : RB S T n) (T0 U : HS) (og : Nat → Int64) (f : Int32) : ∃ (kc bb : Int32) (S1 G1 T1 T2 U1 : HS) (og1 : Nat → Int64) (n1 nf1 : Nat), (∀ R, LM l yL_isGone cL_isGone 4 [(0, 16, 19, 19)] rmL_isGone D k (xwW k a tr x o S T0 og R) [.ref x, .int f, .ref o] kc (xwW k a tr x o S1 T2 og1 R)) ∧ (∀ R, MM l yX6_isGone cX6_isGone 2 (some FieldType.boolean) rmX6_isGone D k (mW k g t u G T U R) [.ref (g 0), .int f] (some (.int bb)) (mW k g t u G1 T1 U1 R)) ∧ G1 0 0 = kc ∧ (kc = 0 → (bb = 0 → og1 0 = 0) ∧ (¬ bb = 0 → og1 0 = 1)) ∧ RA S1 G1 n1 nf1 ∧ RB S1 T1 n1 := by
  have h40 := ha.n40
  have h6 := ha.nf6
  by_cases c0 : xFlt S f
  · have c0_ := c0
    obtain ⟨jf, hjf, rfl, eif⟩ := flt_of ha c0
    refine ⟨0, _, S, _, T, T0, U, _, n, nf, fun R => wokL_isGone l S T0 og (nI jf) c0, fun R => metX6_isGone l G T (nI jf) n ha.gn ha.n40 nf ha.gf_ ha.nf6 ha.okF ha.gob , ?_, ?_, ?_, ?_⟩
    · rw [qisGone_g, sel_t (show mIn (nI jf) 0 (nI nf - 1) from ((flt_iff ha).mp c0))]; first | done | rfl | exact rfl
    · intro _
      rw [qisGone_r, sel_t (show mIn (nI jf) 0 (nI nf - 1) from ((flt_iff ha).mp c0))]
      have er : bI (xGone S (nI jf)) = G 2 (ix (nI jf)) := by rw [eif]; exact gone_val ha (by omega)
      rw [← er]
      exact bI_law _
    · rw [qisGone_g, sel_t (show mIn (nI jf) 0 (nI nf - 1) from ((flt_iff ha).mp c0))]; exact RA_thr ha 0
    · exact hb
  · have h9_ := h40
    refine ⟨1, _, S, _, T, T0, U, og, n, nf, fun R => wbdL_isGone_0 l S T0 og f hfl c0, fun R => metX6_isGone l G T f n ha.gn ha.n40 nf ha.gf_ ha.nf6 ha.okF ha.gob , ?_, fun h9 => absurd h9 (by decide), ?_, hb⟩
    · rw [qisGone_g, sel_f (show ¬ (mIn f 0 (nI nf - 1)) from (fun z9 => c0 ((flt_iff ha).mpr z9)))]; rfl
    · rw [qisGone_g, sel_f (show ¬ (mIn f 0 (nI nf - 1)) from (fun z9 => c0 ((flt_iff ha).mpr z9)))]; exact RA_thr (RA_thr ha 0) 1
theorem op_readyOf (l : Launch) (hfl : l.stackTraces = false) {D : va_G} {k : Nat → ClassId} {a tr g t u : Nat → Nat} {x o : Nat} {S G T : HS} {n nf : Nat} (ha : RA S G n nf) (hb : RB S T n) (T0 U : HS) (og : Nat → Int64) (f : Int32) : ∃ (kc bb : Int32) (S1 G1 T1 T2 U1 : HS) (og1 : Nat → Int64) (n1 nf1 : Nat), (∀ R, LM l yL_readyOf cL_readyOf 4 [(0, 9, 12, 19)] rmL_readyOf D k (xwW k a tr x o S T0 og R) [.ref x, .int f, .ref o] kc (xwW k a tr x o S1 T2 og1 R)) ∧ (∀ R, MM l yX6_readyOf cX6_readyOf 2 (some FieldType.int) rmX6_readyOf D k (mW k g t u G T U R) [.ref (g 0), .int f] (some (.int bb)) (mW k g t u G1 T1 U1 R)) ∧ G1 0 0 = kc ∧ (kc = 0 → og1 0 = bb.toInt64) ∧ RA S1 G1 n1 nf1 ∧ RB S1 T1 n1 := by
  have h40 := ha.n40
  have h6 := ha.nf6
  by_cases c0 : xFlt S f
  · have c0_ := c0
    obtain ⟨jf, hjf, rfl, eif⟩ := flt_of ha c0
    refine ⟨0, _, S, _, T, T0, U, _, n, nf, fun R => wokL_readyOf l S T0 og (nI jf) n ha.sn ha.n40 c0, fun R => metX6_readyOf l G T (nI jf) n ha.gn ha.n40 nf ha.gf_ ha.nf6 ha.okF ha.gob , ?_, ?_, ?_, ?_⟩
    · rw [qreadyOf_g, sel_t (show mIn (nI jf) 0 (nI nf - 1) from ((flt_iff ha).mp c0))]; first | done | rfl | exact rfl
    · intro _
      rw [qreadyOf_r, sel_t (show mIn (nI jf) 0 (nI nf - 1) from ((flt_iff ha).mp c0))]
      have er : nI (xRdyN S (nI jf) n) = nI (mRdyN (thr G 0) T (ix (nI jf)) n) := by rw [eif, rdy_ct (RA_thr ha 0) hb hjf]
      exact congrArg Int32.toInt64 er
    · rw [qreadyOf_g, sel_t (show mIn (nI jf) 0 (nI nf - 1) from ((flt_iff ha).mp c0))]; exact RA_thr ha 0
    · exact hb
  · have h9_ := h40
    refine ⟨1, _, S, _, T, T0, U, og, n, nf, fun R => wbdL_readyOf_0 l S T0 og f hfl c0, fun R => metX6_readyOf l G T f n ha.gn ha.n40 nf ha.gf_ ha.nf6 ha.okF ha.gob , ?_, fun h9 => absurd h9 (by decide), ?_, hb⟩
    · rw [qreadyOf_g, sel_f (show ¬ (mIn f 0 (nI nf - 1)) from (fun z9 => c0 ((flt_iff ha).mpr z9)))]; rfl
    · rw [qreadyOf_g, sel_f (show ¬ (mIn f 0 (nI nf - 1)) from (fun z9 => c0 ((flt_iff ha).mpr z9)))]; exact RA_thr (RA_thr ha 0) 1
theorem op_missingOf (l : Launch) (hfl : l.stackTraces = false) {D : va_G} {k : Nat → ClassId} {a tr g t u : Nat → Nat} {x o : Nat} {S G T : HS} {n nf : Nat} (ha : RA S G n nf) (hb : RB S T n) (T0 U : HS) (og : Nat → Int64) (f : Int32) : ∃ (kc bb : Int32) (S1 G1 T1 T2 U1 : HS) (og1 : Nat → Int64) (n1 nf1 : Nat), (∀ R, LM l yL_missingOf cL_missingOf 4 [(0, 9, 12, 19)] rmL_missingOf D k (xwW k a tr x o S T0 og R) [.ref x, .int f, .ref o] kc (xwW k a tr x o S1 T2 og1 R)) ∧ (∀ R, MM l yX6_missingOf cX6_missingOf 2 (some FieldType.int) rmX6_missingOf D k (mW k g t u G T U R) [.ref (g 0), .int f] (some (.int bb)) (mW k g t u G1 T1 U1 R)) ∧ G1 0 0 = kc ∧ (kc = 0 → og1 0 = bb.toInt64) ∧ RA S1 G1 n1 nf1 ∧ RB S1 T1 n1 := by
  have h40 := ha.n40
  have h6 := ha.nf6
  by_cases c0 : xFlt S f
  · have c0_ := c0
    obtain ⟨jf, hjf, rfl, eif⟩ := flt_of ha c0
    refine ⟨0, _, S, _, T, T0, U, _, n, nf, fun R => wokL_missingOf l S T0 og (nI jf) n ha.sn ha.n40 c0, fun R => metX6_missingOf l G T (nI jf) n ha.gn ha.n40 nf ha.gf_ ha.nf6 ha.okF ha.gob , ?_, ?_, ?_, ?_⟩
    · rw [qmissingOf_g, sel_t (show mIn (nI jf) 0 (nI nf - 1) from ((flt_iff ha).mp c0))]; first | done | rfl | exact rfl
    · intro _
      rw [qmissingOf_r, sel_t (show mIn (nI jf) 0 (nI nf - 1) from ((flt_iff ha).mp c0))]
      have er : nI (ct (fun j_ => S 3 j_ = (nI jf)) 40) - nI (xRdyN S (nI jf) n) = mMissing (thr G 0) T (ix (nI jf)) n := by rw [eif, of_ct ha hjf, rdy_ct (RA_thr ha 0) hb hjf]; rfl
      exact congrArg Int32.toInt64 er
    · rw [qmissingOf_g, sel_t (show mIn (nI jf) 0 (nI nf - 1) from ((flt_iff ha).mp c0))]; exact RA_thr ha 0
    · exact hb
  · have h9_ := h40
    refine ⟨1, _, S, _, T, T0, U, og, n, nf, fun R => wbdL_missingOf_0 l S T0 og f hfl c0, fun R => metX6_missingOf l G T f n ha.gn ha.n40 nf ha.gf_ ha.nf6 ha.okF ha.gob , ?_, fun h9 => absurd h9 (by decide), ?_, hb⟩
    · rw [qmissingOf_g, sel_f (show ¬ (mIn f 0 (nI nf - 1)) from (fun z9 => c0 ((flt_iff ha).mpr z9)))]; rfl
    · rw [qmissingOf_g, sel_f (show ¬ (mIn f 0 (nI nf - 1)) from (fun z9 => c0 ((flt_iff ha).mpr z9)))]; exact RA_thr (RA_thr ha 0) 1
theorem op_minutesUntilChute (l : Launch) (hfl : l.stackTraces = false) {D : va_G} {k : Nat → ClassId} {a tr g t u : Nat → Nat} {x o : Nat} {S G T : HS} {n nf : Nat} (ha : RA S G n nf) (hb : RB S T n) (T0 U : HS) (og : Nat → Int64) (b : Int32) : ∃ (kc bb : Int32) (S1 G1 T1 T2 U1 : HS) (og1 : Nat → Int64) (n1 nf1 : Nat), (∀ R, LM l yL_minutesUntilChute cL_minutesUntilChute 4 [(0, 9, 12, 19)] rmL_minutesUntilChute D k (xwW k a tr x o S T0 og R) [.ref x, .int b, .ref o] kc (xwW k a tr x o S1 T2 og1 R)) ∧ (∀ R, MM l yX6_minutesUntilChute cX6_minutesUntilChute 2 (some FieldType.int) rmX6_minutesUntilChute D k (mW k g t u G T U R) [.ref (g 0), .int b] (some (.int bb)) (mW k g t u G1 T1 U1 R)) ∧ G1 0 0 = kc ∧ (kc = 0 → og1 0 = bb.toInt64) ∧ RA S1 G1 n1 nf1 ∧ RB S1 T1 n1 := by
  have h40 := ha.n40
  have h6 := ha.nf6
  by_cases c0 : xBag S b
  · have c0_ := c0
    obtain ⟨jb, hjb, rfl, eib⟩ := bag_of ha c0
    refine ⟨0, _, S, _, T, xUn S (xUnN S (nI jb)), _, _, n, nf, fun R => wokL_minutesUntilChute l S T0 og (nI jb) c0, fun R => metX6_minutesUntilChute l G T U (nI jb) n ha.gn ha.n40 nf ha.gf_ ha.nf6 ha.okF ha.gob (fun i9 _ => hun_of (RA_thr ha 0) hb i9), ?_, ?_, ?_, ?_⟩
    · rw [qminutesUntilChute_g, sel_t (show mIn (nI jb) 0 (nI n - 1) from ((bag_iff ha).mp c0))]; first | done | rfl | exact rfl
    · intro _
      rw [qminutesUntilChute_r, sel_t (show mIn (nI jb) 0 (nI n - 1) from ((bag_iff ha).mp c0))]
      have er : xUnA S (nI jb) = mUnA (thr G 0) T (ix (nI jb)) := by rw [eib, un_eq (RA_thr ha 0) hb hjb]
      exact congrArg Int32.toInt64 er
    · rw [qminutesUntilChute_g, sel_t (show mIn (nI jb) 0 (nI n - 1) from ((bag_iff ha).mp c0))]; exact RA_thr ha 0
    · exact hb
  · have h9_ := h40
    refine ⟨1, _, S, _, T, T0, _, og, n, nf, fun R => wbdL_minutesUntilChute_0 l S T0 og b hfl c0, fun R => metX6_minutesUntilChute l G T U b n ha.gn ha.n40 nf ha.gf_ ha.nf6 ha.okF ha.gob (fun i9 _ => hun_of (RA_thr ha 0) hb i9), ?_, fun h9 => absurd h9 (by decide), ?_, hb⟩
    · rw [qminutesUntilChute_g, sel_f (show ¬ (mIn b 0 (nI n - 1)) from (fun z9 => c0 ((bag_iff ha).mpr z9)))]; rfl
    · rw [qminutesUntilChute_g, sel_f (show ¬ (mIn b 0 (nI n - 1)) from (fun z9 => c0 ((bag_iff ha).mpr z9)))]; exact RA_thr (RA_thr ha 0) 1
theorem op_readyAfter (l : Launch) (hfl : l.stackTraces = false) {D : va_G} {k : Nat → ClassId} {a tr g t u : Nat → Nat} {x o : Nat} {S G T : HS} {n nf : Nat} (ha : RA S G n nf) (hb : RB S T n) (T0 U : HS) (og : Nat → Int64) (f : Int32) (z : Int32) : ∃ (kc bb : Int32) (S1 G1 T1 T2 U1 : HS) (og1 : Nat → Int64) (n1 nf1 : Nat), (∀ R, LM l yL_readyAfter cL_readyAfter 5 [(0, 10, 13, 19), (0, 10, 17, 25)] rmL_readyAfter D k (xwW k a tr x o S T0 og R) [.ref x, .int f, .int z, .ref o] kc (xwW k a tr x o S1 T2 og1 R)) ∧ (∀ R, MM l yX6_readyAfter cX6_readyAfter 3 (some FieldType.int) rmX6_readyAfter D k (mW k g t u G T U R) [.ref (g 0), .int f, .int z] (some (.int bb)) (mW k g t u G1 T1 U1 R)) ∧ G1 0 0 = kc ∧ (kc = 0 → og1 0 = bb.toInt64) ∧ RA S1 G1 n1 nf1 ∧ RB S1 T1 n1 := by
  have h40 := ha.n40
  have h6 := ha.nf6
  by_cases c0 : xFlt S f
  · have c0_ := c0
    obtain ⟨jf, hjf, rfl, eif⟩ := flt_of ha c0
    by_cases c1 : xM60 z
    · have c1_ := c1
      obtain ⟨jz, hjz, rfl, eiz⟩ := m60_of c1
      refine ⟨0, _, S, _, T, (xGo (xChg S (nI jf) (rd 6 (S 1) (nI jf))) jz).2, _, _, n, nf, fun R => wokL_readyAfter l S T0 og (nI jf) jz n ha.sn ha.n40 hjz c0 c1, fun R => metX6_readyAfter l G T U (nI jf) (nI jz) n ha.gn ha.n40 nf ha.gf_ ha.nf6 ha.okF ha.gob (fun _ i9 _ => hgz_of (RA_thr ha 0) hb i9), ?_, ?_, ?_, ?_⟩
      · rw [qreadyAfter_g, sel_t (show mIn (nI jf) 0 (nI nf - 1) from ((flt_iff ha).mp c0)), sel_t (show mIn (nI jz) 1 60 from c1)]; first | done | rfl | exact rfl
      · intro _
        rw [qreadyAfter_r, sel_t (show mIn (nI jf) 0 (nI nf - 1) from ((flt_iff ha).mp c0)), sel_t (show mIn (nI jz) 1 60 from c1)]
        have er : nI (xBeh S (nI jf) (rd 6 (S 1) (nI jf)) jz n) = nI (mBeh (thr G 0) T (ix (nI jf)) (ix (nI jz)) n) := by rw [eif, eiz, beh_self (RA_thr ha 0) hb hjf]
        exact congrArg Int32.toInt64 er
      · rw [qreadyAfter_g, sel_t (show mIn (nI jf) 0 (nI nf - 1) from ((flt_iff ha).mp c0)), sel_t (show mIn (nI jz) 1 60 from c1)]; exact RA_thr ha 0
      · exact hb
    · obtain ⟨jz, rfl⟩ := nI_any z
      refine ⟨2, _, S, _, T, T0, _, og, n, nf, fun R => wbdL_readyAfter_1 l S T0 og (nI jf) jz hfl c0 c1, fun R => metX6_readyAfter l G T U (nI jf) (nI jz) n ha.gn ha.n40 nf ha.gf_ ha.nf6 ha.okF ha.gob (fun _ i9 _ => hgz_of (RA_thr ha 0) hb i9), ?_, fun h9 => absurd h9 (by decide), ?_, hb⟩
      · rw [qreadyAfter_g, sel_t (show mIn (nI jf) 0 (nI nf - 1) from ((flt_iff ha).mp c0)), sel_f (show ¬ (mIn (nI jz) 1 60) from c1)]; rfl
      · rw [qreadyAfter_g, sel_t (show mIn (nI jf) 0 (nI nf - 1) from ((flt_iff ha).mp c0)), sel_f (show ¬ (mIn (nI jz) 1 60) from c1)]; exact RA_thr (RA_thr ha 0) 2
  · obtain ⟨jz, rfl⟩ := nI_any z
    refine ⟨1, _, S, _, T, T0, _, og, n, nf, fun R => wbdL_readyAfter_0 l S T0 og f jz hfl c0, fun R => metX6_readyAfter l G T U f (nI jz) n ha.gn ha.n40 nf ha.gf_ ha.nf6 ha.okF ha.gob (fun _ i9 _ => hgz_of (RA_thr ha 0) hb i9), ?_, fun h9 => absurd h9 (by decide), ?_, hb⟩
    · rw [qreadyAfter_g, sel_f (show ¬ (mIn f 0 (nI nf - 1)) from (fun z9 => c0 ((flt_iff ha).mpr z9)))]; rfl
    · rw [qreadyAfter_g, sel_f (show ¬ (mIn f 0 (nI nf - 1)) from (fun z9 => c0 ((flt_iff ha).mpr z9)))]; exact RA_thr (RA_thr ha 0) 1
theorem op_bestChute (l : Launch) (hfl : l.stackTraces = false) {D : va_G} {k : Nat → ClassId} {a tr g t u : Nat → Nat} {x o : Nat} {S G T : HS} {n nf : Nat} (ha : RA S G n nf) (hb : RB S T n) (T0 U : HS) (og : Nat → Int64) (f : Int32) (z : Int32) : ∃ (kc bb : Int32) (S1 G1 T1 T2 U1 : HS) (og1 : Nat → Int64) (n1 nf1 : Nat), (∀ R, LM l yL_bestChute cL_bestChute 5 [(0, 10, 13, 19), (0, 10, 17, 25), (0, 10, 21, 13)] rmL_bestChute D k (xwW k a tr x o S T0 og R) [.ref x, .int f, .int z, .ref o] kc (xwW k a tr x o S1 T2 og1 R)) ∧ (∀ R, MM l yX6_bestChute cX6_bestChute 3 (some FieldType.int) rmX6_bestChute D k (mW k g t u G T U R) [.ref (g 0), .int f, .int z] (some (.int bb)) (mW k g t u G1 T1 U1 R)) ∧ G1 0 0 = kc ∧ (kc = 0 → og1 0 = bb.toInt64) ∧ RA S1 G1 n1 nf1 ∧ RB S1 T1 n1 := by
  have h40 := ha.n40
  have h6 := ha.nf6
  by_cases c0 : xFlt S f
  · have c0_ := c0
    obtain ⟨jf, hjf, rfl, eif⟩ := flt_of ha c0
    by_cases c1 : xM60 z
    · have c1_ := c1
      obtain ⟨jz, hjz, rfl, eiz⟩ := m60_of c1
      by_cases c2 : ¬ xGone S (nI jf)
      · have c2_ := c2
        refine ⟨0, _, S, _, T, xbT S T0 (nI jf) jz 4, _, _, n, nf, fun R => wokL_bestChute l S T0 og (nI jf) jz n ha.sn ha.n40 hjz c0 c1 c2, fun R => metX6_bestChute l G T U (nI jf) (nI jz) n ha.gn ha.n40 nf ha.gf_ ha.nf6 ha.okF ha.gob (fun _ c9 hc9 i9 _ => hgs_of (RA_thr ha 0) hb _ c9 hc9 i9), ?_, ?_, ?_, ?_⟩
        · rw [qbestChute_g, sel_t (show mIn (nI jf) 0 (nI nf - 1) from ((flt_iff ha).mp c0)), sel_t (show mIn (nI jz) 1 60 from c1), sel_t (show G 2 (ix (nI jf)) = 0 from (by rw [eif]; exact (ng_iff ha (by omega)).mp c2))]; first | done | rfl | exact rfl
        · intro _
          rw [qbestChute_r, sel_t (show mIn (nI jf) 0 (nI nf - 1) from ((flt_iff ha).mp c0)), sel_t (show mIn (nI jz) 1 60 from c1), sel_t (show G 2 (ix (nI jf)) = 0 from (by rw [eif]; exact (ng_iff ha (by omega)).mp c2))]
          have er : (xBest S (nI jf) jz n 4).1 = (mBest (thr G 0) T (ix (nI jf)) (ix (nI jz)) n 4).1 := by rw [eif, eiz, best_eq (RA_thr ha 0) hb hjf 3 (by omega)]
          exact congrArg Int32.toInt64 er
        · rw [qbestChute_g, sel_t (show mIn (nI jf) 0 (nI nf - 1) from ((flt_iff ha).mp c0)), sel_t (show mIn (nI jz) 1 60 from c1), sel_t (show G 2 (ix (nI jf)) = 0 from (by rw [eif]; exact (ng_iff ha (by omega)).mp c2))]; exact RA_thr ha 0
        · exact hb
      · have h9_ := h40
        refine ⟨3, _, S, _, T, T0, _, og, n, nf, fun R => wbdL_bestChute_2 l S T0 og (nI jf) jz hfl c0 c1 c2, fun R => metX6_bestChute l G T U (nI jf) (nI jz) n ha.gn ha.n40 nf ha.gf_ ha.nf6 ha.okF ha.gob (fun _ c9 hc9 i9 _ => hgs_of (RA_thr ha 0) hb _ c9 hc9 i9), ?_, fun h9 => absurd h9 (by decide), ?_, hb⟩
        · rw [qbestChute_g, sel_t (show mIn (nI jf) 0 (nI nf - 1) from ((flt_iff ha).mp c0)), sel_t (show mIn (nI jz) 1 60 from c1), sel_f (show ¬ (G 2 (ix (nI jf)) = 0) from (by rw [eif]; exact fun z9 => c2 ((ng_iff ha (by omega)).mpr z9)))]; rfl
        · rw [qbestChute_g, sel_t (show mIn (nI jf) 0 (nI nf - 1) from ((flt_iff ha).mp c0)), sel_t (show mIn (nI jz) 1 60 from c1), sel_f (show ¬ (G 2 (ix (nI jf)) = 0) from (by rw [eif]; exact fun z9 => c2 ((ng_iff ha (by omega)).mpr z9)))]; exact RA_thr (RA_thr ha 0) 3
    · obtain ⟨jz, rfl⟩ := nI_any z
      refine ⟨2, _, S, _, T, T0, _, og, n, nf, fun R => wbdL_bestChute_1 l S T0 og (nI jf) jz hfl c0 c1, fun R => metX6_bestChute l G T U (nI jf) (nI jz) n ha.gn ha.n40 nf ha.gf_ ha.nf6 ha.okF ha.gob (fun _ c9 hc9 i9 _ => hgs_of (RA_thr ha 0) hb _ c9 hc9 i9), ?_, fun h9 => absurd h9 (by decide), ?_, hb⟩
      · rw [qbestChute_g, sel_t (show mIn (nI jf) 0 (nI nf - 1) from ((flt_iff ha).mp c0)), sel_f (show ¬ (mIn (nI jz) 1 60) from c1)]; rfl
      · rw [qbestChute_g, sel_t (show mIn (nI jf) 0 (nI nf - 1) from ((flt_iff ha).mp c0)), sel_f (show ¬ (mIn (nI jz) 1 60) from c1)]; exact RA_thr (RA_thr ha 0) 2
  · obtain ⟨jz, rfl⟩ := nI_any z
    refine ⟨1, _, S, _, T, T0, _, og, n, nf, fun R => wbdL_bestChute_0 l S T0 og f jz hfl c0, fun R => metX6_bestChute l G T U f (nI jz) n ha.gn ha.n40 nf ha.gf_ ha.nf6 ha.okF ha.gob (fun _ c9 hc9 i9 _ => hgs_of (RA_thr ha 0) hb _ c9 hc9 i9), ?_, fun h9 => absurd h9 (by decide), ?_, hb⟩
    · rw [qbestChute_g, sel_f (show ¬ (mIn f 0 (nI nf - 1)) from (fun z9 => c0 ((flt_iff ha).mpr z9)))]; rfl
    · rw [qbestChute_g, sel_f (show ¬ (mIn f 0 (nI nf - 1)) from (fun z9 => c0 ((flt_iff ha).mpr z9)))]; exact RA_thr (RA_thr ha 0) 1
theorem op_carry (l : Launch) (hfl : l.stackTraces = false) {D : va_G} {k : Nat → ClassId} {a tr g t u : Nat → Nat} {x o : Nat} {S G T : HS} {n nf : Nat} (ha : RA S G n nf) (hb : RB S T n) (T0 U : HS) (og : Nat → Int64) (b : Int32) : ∃ (kc bb : Int32) (S1 G1 T1 T2 U1 : HS) (og1 : Nat → Int64) (n1 nf1 : Nat), (∀ R, LM l yL_carry cL_carry 4 [(0, 9, 12, 19), (0, 9, 15, 13)] rmL_carry D k (xwW k a tr x o S T0 og R) [.ref x, .int b, .ref o] kc (xwW k a tr x o S1 T2 og1 R)) ∧ (∀ R, MM l yX6_carry cX6_carry 4 (some FieldType.int) rmX6_carry D k (mW k g t u G T U R) [.ref (g 0), .int b] (some (.int bb)) (mW k g t u G1 T1 U1 R)) ∧ G1 0 0 = kc ∧ (kc = 0 → og1 0 = bb.toInt64) ∧ RA S1 G1 n1 nf1 ∧ RB S1 T1 n1 := by
  have h40 := ha.n40
  have h6 := ha.nf6
  by_cases c0 : xBag S b
  · have c0_ := c0
    obtain ⟨jb, hjb, rfl, eib⟩ := bag_of ha c0
    by_cases c1 : xHand S (nI jb)
    · have c1_ := c1
      obtain ⟨jx, hx1, hx2, hx3, hx4, hx5⟩ := flight_of ha hjb
      have hFe : rd 40 (S 3) (nI jb) = nI jx := by rw [rd_40 (by omega)]; exact hx4
      have h3 := (hand_iff hb hjb).mp c1
      by_cases c2 : ¬ xGone S (rd 40 (S 3) (nI jb))
      · have c2_ := c2
        by_cases c3 : xCh (rd 6 (S 1) (rd 40 (S 3) (nI jb))) ∧ xRoom S (rd 6 (S 1) (rd 40 (S 3) (nI jb)))
        · have c3_ := c3
          have hCe : rd 6 (S 1) (rd 40 (S 3) (nI jb)) = G 1 jx := by rw [hFe, rd_6 hx2]; exact ha.chu jx hx2
          obtain ⟨jc, hjc, hc1, hc2⟩ := ch_of c3.1
          have hG1 : G 1 jx = nI jc := hCe.symm.trans hc1
          have hr : T 7 jc < G 3 jc := (room_iff ha hb hjc).mp (by have z9 := c3.2; rw [hc1] at z9; exact z9)
          refine ⟨0, _, xPut S (nI jb) (rd 6 (S 1) (rd 40 (S 3) (nI jb))), _, _, T0, U, _, n, nf, fun R => wokL_carry l S T0 og (nI jb) c0 c1 c2 c3, fun R => metX6_carry l G T (nI jb) n ha.gn ha.n40 nf ha.gf_ ha.nf6 ha.okF ha.gob ha.okC, ?_, ?_, ?_, ?_⟩
          · rw [qcarry_g, sel_t (show mIn (nI jb) 0 (nI n - 1) from ((bag_iff ha).mp c0)), sel_t (show mAside T (ix (nI jb)) from (by rw [eib]; exact (hand_iff hb hjb).mp c1)), sel_t (show G 2 (ix (G 4 (ix (nI jb)))) = 0 from (by rw [eib, hx5]; rw [hFe] at c2; exact (ng_iff ha hx2).mp c2)), sel_f (show ¬ (G 1 (ix (G 4 (ix (nI jb)))) = (-1)) from (by rw [eib, hx5, hG1]; exact nI_neg (by omega))), sel_t (show T 7 (ix (G 1 (ix (G 4 (ix (nI jb)))))) < G 3 (ix (G 1 (ix (G 4 (ix (nI jb)))))) from (by rw [eib, hx5, hG1, ix_i (by omega)]; exact hr))]; first | done | rfl | exact rfl
          · intro _
            rw [qcarry_r, sel_t (show mIn (nI jb) 0 (nI n - 1) from ((bag_iff ha).mp c0)), sel_t (show mAside T (ix (nI jb)) from (by rw [eib]; exact (hand_iff hb hjb).mp c1)), sel_t (show G 2 (ix (G 4 (ix (nI jb)))) = 0 from (by rw [eib, hx5]; rw [hFe] at c2; exact (ng_iff ha hx2).mp c2)), sel_f (show ¬ (G 1 (ix (G 4 (ix (nI jb)))) = (-1)) from (by rw [eib, hx5, hG1]; exact nI_neg (by omega))), sel_t (show T 7 (ix (G 1 (ix (G 4 (ix (nI jb)))))) < G 3 (ix (G 1 (ix (G 4 (ix (nI jb)))))) from (by rw [eib, hx5, hG1, ix_i (by omega)]; exact hr))]
            have er : rd 6 (S 1) (rd 40 (S 3) (nI jb)) = nI (ix (G 1 (ix (G 4 (ix (nI jb)))))) := by rw [hCe, eib, hx5, hG1, ix_i (by omega)]
            exact congrArg Int32.toInt64 er
          · rw [qcarry_g, sel_t (show mIn (nI jb) 0 (nI n - 1) from ((bag_iff ha).mp c0)), sel_t (show mAside T (ix (nI jb)) from (by rw [eib]; exact (hand_iff hb hjb).mp c1)), sel_t (show G 2 (ix (G 4 (ix (nI jb)))) = 0 from (by rw [eib, hx5]; rw [hFe] at c2; exact (ng_iff ha hx2).mp c2)), sel_f (show ¬ (G 1 (ix (G 4 (ix (nI jb)))) = (-1)) from (by rw [eib, hx5, hG1]; exact nI_neg (by omega))), sel_t (show T 7 (ix (G 1 (ix (G 4 (ix (nI jb)))))) < G 3 (ix (G 1 (ix (G 4 (ix (nI jb)))))) from (by rw [eib, hx5, hG1, ix_i (by omega)]; exact hr))]; exact (by rw [hCe, hG1]; exact (carry_rel ha hb hjb hjc h3).1)
          · rw [qcarry_t, sel_t (show mIn (nI jb) 0 (nI n - 1) from ((bag_iff ha).mp c0)), sel_t (show mAside T (ix (nI jb)) from (by rw [eib]; exact (hand_iff hb hjb).mp c1)), sel_t (show G 2 (ix (G 4 (ix (nI jb)))) = 0 from (by rw [eib, hx5]; rw [hFe] at c2; exact (ng_iff ha hx2).mp c2)), sel_f (show ¬ (G 1 (ix (G 4 (ix (nI jb)))) = (-1)) from (by rw [eib, hx5, hG1]; exact nI_neg (by omega))), sel_t (show T 7 (ix (G 1 (ix (G 4 (ix (nI jb)))))) < G 3 (ix (G 1 (ix (G 4 (ix (nI jb)))))) from (by rw [eib, hx5, hG1, ix_i (by omega)]; exact hr))]; exact (by rw [hCe, eib, hx5, hG1, ix_i (by omega)]; exact (carry_rel ha hb hjb hjc h3).2)
        · by_cases c_m : ¬ G 1 (ix (G 4 (ix (nI jb)))) = (-1)
          · have h9_ := h40
            refine ⟨2, _, S, _, _, T0, U, og, n, nf, fun R => wbdL_carry_3 l S T0 og (nI jb) hfl c0 c1 c2 c3, fun R => metX6_carry l G T (nI jb) n ha.gn ha.n40 nf ha.gf_ ha.nf6 ha.okF ha.gob ha.okC, ?_, fun h9 => absurd h9 (by decide), ?_, ?_⟩
            · rw [qcarry_g, sel_t (show mIn (nI jb) 0 (nI n - 1) from ((bag_iff ha).mp c0)), sel_t (show mAside T (ix (nI jb)) from (by rw [eib]; exact (hand_iff hb hjb).mp c1)), sel_t (show G 2 (ix (G 4 (ix (nI jb)))) = 0 from (by rw [eib, hx5]; rw [hFe] at c2; exact (ng_iff ha hx2).mp c2)), sel_f (show ¬ (G 1 (ix (G 4 (ix (nI jb)))) = (-1)) from c_m), sel_f (show ¬ (T 7 (ix (G 1 (ix (G 4 (ix (nI jb)))))) < G 3 (ix (G 1 (ix (G 4 (ix (nI jb))))))) from (by rw [eib, hx5]; exact carry_bad ha hb hx2 (by rw [← show rd 6 (S 1) (rd 40 (S 3) (nI jb)) = G 1 jx from by rw [hFe, rd_6 hx2]; exact ha.chu jx hx2]; exact c3) (by have z9 := c_m; rw [eib, hx5] at z9; exact z9)))]; rfl
            · rw [qcarry_g, sel_t (show mIn (nI jb) 0 (nI n - 1) from ((bag_iff ha).mp c0)), sel_t (show mAside T (ix (nI jb)) from (by rw [eib]; exact (hand_iff hb hjb).mp c1)), sel_t (show G 2 (ix (G 4 (ix (nI jb)))) = 0 from (by rw [eib, hx5]; rw [hFe] at c2; exact (ng_iff ha hx2).mp c2)), sel_f (show ¬ (G 1 (ix (G 4 (ix (nI jb)))) = (-1)) from c_m), sel_f (show ¬ (T 7 (ix (G 1 (ix (G 4 (ix (nI jb)))))) < G 3 (ix (G 1 (ix (G 4 (ix (nI jb))))))) from (by rw [eib, hx5]; exact carry_bad ha hb hx2 (by rw [← show rd 6 (S 1) (rd 40 (S 3) (nI jb)) = G 1 jx from by rw [hFe, rd_6 hx2]; exact ha.chu jx hx2]; exact c3) (by have z9 := c_m; rw [eib, hx5] at z9; exact z9)))]; exact RA_thr (RA_thr ha 0) 2
            · rw [qcarry_t, sel_t (show mIn (nI jb) 0 (nI n - 1) from ((bag_iff ha).mp c0)), sel_t (show mAside T (ix (nI jb)) from (by rw [eib]; exact (hand_iff hb hjb).mp c1)), sel_t (show G 2 (ix (G 4 (ix (nI jb)))) = 0 from (by rw [eib, hx5]; rw [hFe] at c2; exact (ng_iff ha hx2).mp c2)), sel_f (show ¬ (G 1 (ix (G 4 (ix (nI jb)))) = (-1)) from c_m), sel_f (show ¬ (T 7 (ix (G 1 (ix (G 4 (ix (nI jb)))))) < G 3 (ix (G 1 (ix (G 4 (ix (nI jb))))))) from (by rw [eib, hx5]; exact carry_bad ha hb hx2 (by rw [← show rd 6 (S 1) (rd 40 (S 3) (nI jb)) = G 1 jx from by rw [hFe, rd_6 hx2]; exact ha.chu jx hx2]; exact c3) (by have z9 := c_m; rw [eib, hx5] at z9; exact z9)))]; exact hb
          · have h9_ := h40
            refine ⟨2, _, S, _, _, T0, U, og, n, nf, fun R => wbdL_carry_3 l S T0 og (nI jb) hfl c0 c1 c2 c3, fun R => metX6_carry l G T (nI jb) n ha.gn ha.n40 nf ha.gf_ ha.nf6 ha.okF ha.gob ha.okC, ?_, fun h9 => absurd h9 (by decide), ?_, ?_⟩
            · rw [qcarry_g, sel_t (show mIn (nI jb) 0 (nI n - 1) from ((bag_iff ha).mp c0)), sel_t (show mAside T (ix (nI jb)) from (by rw [eib]; exact (hand_iff hb hjb).mp c1)), sel_t (show G 2 (ix (G 4 (ix (nI jb)))) = 0 from (by rw [eib, hx5]; rw [hFe] at c2; exact (ng_iff ha hx2).mp c2)), sel_t (show G 1 (ix (G 4 (ix (nI jb)))) = (-1) from (Classical.not_not.mp c_m))]; rfl
            · rw [qcarry_g, sel_t (show mIn (nI jb) 0 (nI n - 1) from ((bag_iff ha).mp c0)), sel_t (show mAside T (ix (nI jb)) from (by rw [eib]; exact (hand_iff hb hjb).mp c1)), sel_t (show G 2 (ix (G 4 (ix (nI jb)))) = 0 from (by rw [eib, hx5]; rw [hFe] at c2; exact (ng_iff ha hx2).mp c2)), sel_t (show G 1 (ix (G 4 (ix (nI jb)))) = (-1) from (Classical.not_not.mp c_m))]; exact RA_thr (RA_thr ha 0) 2
            · rw [qcarry_t, sel_t (show mIn (nI jb) 0 (nI n - 1) from ((bag_iff ha).mp c0)), sel_t (show mAside T (ix (nI jb)) from (by rw [eib]; exact (hand_iff hb hjb).mp c1)), sel_t (show G 2 (ix (G 4 (ix (nI jb)))) = 0 from (by rw [eib, hx5]; rw [hFe] at c2; exact (ng_iff ha hx2).mp c2)), sel_t (show G 1 (ix (G 4 (ix (nI jb)))) = (-1) from (Classical.not_not.mp c_m))]; exact hb
      · have h9_ := h40
        refine ⟨2, _, S, _, _, T0, U, og, n, nf, fun R => wbdL_carry_2 l S T0 og (nI jb) hfl c0 c1 c2, fun R => metX6_carry l G T (nI jb) n ha.gn ha.n40 nf ha.gf_ ha.nf6 ha.okF ha.gob ha.okC, ?_, fun h9 => absurd h9 (by decide), ?_, ?_⟩
        · rw [qcarry_g, sel_t (show mIn (nI jb) 0 (nI n - 1) from ((bag_iff ha).mp c0)), sel_t (show mAside T (ix (nI jb)) from (by rw [eib]; exact (hand_iff hb hjb).mp c1)), sel_f (show ¬ (G 2 (ix (G 4 (ix (nI jb)))) = 0) from (by rw [eib, hx5]; rw [hFe] at c2; exact fun z9 => c2 ((ng_iff ha hx2).mpr z9)))]; rfl
        · rw [qcarry_g, sel_t (show mIn (nI jb) 0 (nI n - 1) from ((bag_iff ha).mp c0)), sel_t (show mAside T (ix (nI jb)) from (by rw [eib]; exact (hand_iff hb hjb).mp c1)), sel_f (show ¬ (G 2 (ix (G 4 (ix (nI jb)))) = 0) from (by rw [eib, hx5]; rw [hFe] at c2; exact fun z9 => c2 ((ng_iff ha hx2).mpr z9)))]; exact RA_thr (RA_thr ha 0) 2
        · rw [qcarry_t, sel_t (show mIn (nI jb) 0 (nI n - 1) from ((bag_iff ha).mp c0)), sel_t (show mAside T (ix (nI jb)) from (by rw [eib]; exact (hand_iff hb hjb).mp c1)), sel_f (show ¬ (G 2 (ix (G 4 (ix (nI jb)))) = 0) from (by rw [eib, hx5]; rw [hFe] at c2; exact fun z9 => c2 ((ng_iff ha hx2).mpr z9)))]; exact hb
    · have h9_ := h40
      refine ⟨2, _, S, _, _, T0, U, og, n, nf, fun R => wbdL_carry_1 l S T0 og (nI jb) hfl c0 c1, fun R => metX6_carry l G T (nI jb) n ha.gn ha.n40 nf ha.gf_ ha.nf6 ha.okF ha.gob ha.okC, ?_, fun h9 => absurd h9 (by decide), ?_, ?_⟩
      · rw [qcarry_g, sel_t (show mIn (nI jb) 0 (nI n - 1) from ((bag_iff ha).mp c0)), sel_f (show ¬ (mAside T (ix (nI jb))) from (by rw [eib]; exact fun z9 => c1 ((hand_iff hb hjb).mpr z9)))]; rfl
      · rw [qcarry_g, sel_t (show mIn (nI jb) 0 (nI n - 1) from ((bag_iff ha).mp c0)), sel_f (show ¬ (mAside T (ix (nI jb))) from (by rw [eib]; exact fun z9 => c1 ((hand_iff hb hjb).mpr z9)))]; exact RA_thr (RA_thr ha 0) 2
      · rw [qcarry_t, sel_t (show mIn (nI jb) 0 (nI n - 1) from ((bag_iff ha).mp c0)), sel_f (show ¬ (mAside T (ix (nI jb))) from (by rw [eib]; exact fun z9 => c1 ((hand_iff hb hjb).mpr z9)))]; exact hb
  · have h9_ := h40
    refine ⟨1, _, S, _, _, T0, U, og, n, nf, fun R => wbdL_carry_0 l S T0 og b hfl c0, fun R => metX6_carry l G T b n ha.gn ha.n40 nf ha.gf_ ha.nf6 ha.okF ha.gob ha.okC, ?_, fun h9 => absurd h9 (by decide), ?_, ?_⟩
    · rw [qcarry_g, sel_f (show ¬ (mIn b 0 (nI n - 1)) from (fun z9 => c0 ((bag_iff ha).mpr z9)))]; rfl
    · rw [qcarry_g, sel_f (show ¬ (mIn b 0 (nI n - 1)) from (fun z9 => c0 ((bag_iff ha).mpr z9)))]; exact RA_thr (RA_thr ha 0) 1
    · rw [qcarry_t, sel_f (show ¬ (mIn b 0 (nI n - 1)) from (fun z9 => c0 ((bag_iff ha).mpr z9)))]; exact hb
theorem op_forward (l : Launch) (hfl : l.stackTraces = false) {D : va_G} {k : Nat → ClassId} {a tr g t u : Nat → Nat} {x o : Nat} {S G T : HS} {n nf : Nat} (ha : RA S G n nf) (hb : RB S T n) (T0 U : HS) (og : Nat → Int64) (b : Int32) (f : Int32) : ∃ (kc bb : Int32) (S1 G1 T1 T2 U1 : HS) (og1 : Nat → Int64) (n1 nf1 : Nat), (∀ R, LM l yL_forward cL_forward 5 [(0, 10, 13, 19), (0, 10, 17, 13)] rmL_forward D k (xwW k a tr x o S T0 og R) [.ref x, .int b, .int f, .ref o] kc (xwW k a tr x o S1 T2 og1 R)) ∧ (∀ R, MM l yX6_forward cX6_forward 3 (some FieldType.int) rmX6_forward D k (mW k g t u G T U R) [.ref (g 0), .int b, .int f] (some (.int bb)) (mW k g t u G1 T1 U1 R)) ∧ G1 0 0 = kc ∧ (kc = 0 → og1 0 = bb.toInt64) ∧ RA S1 G1 n1 nf1 ∧ RB S1 T1 n1 := by
  have h40 := ha.n40
  have h6 := ha.nf6
  by_cases c0 : xBag S b
  · have c0_ := c0
    obtain ⟨jb, hjb, rfl, eib⟩ := bag_of ha c0
    by_cases c1 : xFlt S f
    · have c1_ := c1
      obtain ⟨jf, hjf, rfl, eif⟩ := flt_of ha c1
      by_cases c2 : xHand S (nI jb)
      · have c2_ := c2
        obtain ⟨jx, hx1, hx2, hx3, hx4, hx5⟩ := flight_of ha hjb
        have hFe : rd 40 (S 3) (nI jb) = nI jx := by rw [rd_40 (by omega)]; exact hx4
        have h3 := (hand_iff hb hjb).mp c2
        by_cases c3 : xGone S (rd 40 (S 3) (nI jb))
        · have c3_ := c3
          by_cases c4 : ¬ xGone S (nI jf)
          · have c4_ := c4
            refine ⟨0, _, xTakeIn (xRenew S (nI jb) (nI jf)) (nI jb), _, _, T0, U, _, n, nf, fun R => wokL_forward l S T0 og (nI jb) (nI jf) c0 c1 c2 c3 c4, fun R => metX6_forward l G T (nI jb) (nI jf) n ha.gn ha.n40 nf ha.gf_ ha.nf6 ha.okF ha.gob hb.hLs, ?_, ?_, ?_, ?_⟩
            · rw [qforward_g, sel_t (show mIn (nI jb) 0 (nI n - 1) from ((bag_iff ha).mp c0)), sel_t (show mIn (nI jf) 0 (nI nf - 1) from ((flt_iff ha).mp c1)), sel_t (show mAside T (ix (nI jb)) from (by rw [eib]; exact (hand_iff hb hjb).mp c2)), sel_t (show (¬ (G 2 (ix (G 4 (ix (nI jb)))) = 0)) from (by rw [eib, hx5]; rw [hFe] at c3; exact (gone_iff ha hx2).mp c3)), sel_t (show G 2 (ix (nI jf)) = 0 from (by rw [eif]; exact (ng_iff ha (by omega)).mp c4))]; first | done | rfl | exact (congrFun (mClose_0 _ _) 0)
            · intro _
              rw [qforward_r, sel_t (show mIn (nI jb) 0 (nI n - 1) from ((bag_iff ha).mp c0)), sel_t (show mIn (nI jf) 0 (nI nf - 1) from ((flt_iff ha).mp c1)), sel_t (show mAside T (ix (nI jb)) from (by rw [eib]; exact (hand_iff hb hjb).mp c2)), sel_t (show (¬ (G 2 (ix (G 4 (ix (nI jb)))) = 0)) from (by rw [eib, hx5]; rw [hFe] at c3; exact (gone_iff ha hx2).mp c3)), sel_t (show G 2 (ix (nI jf)) = 0 from (by rw [eif]; exact (ng_iff ha (by omega)).mp c4))]
              have er : (xTakeIn (xRenew S (nI jb) (nI jf)) (nI jb)) 0 2 = mBegin (sf (thr G 0) 4 (upd (G 4) (ix (nI jb)) (nI (ix (nI jf))))) T (ix (nI jb)) 0 1 := by rw [eib, eif]; exact (fwd_rel ha hb hjb hjf h3).2.lin
              exact congrArg Int32.toInt64 er
            · rw [qforward_g, sel_t (show mIn (nI jb) 0 (nI n - 1) from ((bag_iff ha).mp c0)), sel_t (show mIn (nI jf) 0 (nI nf - 1) from ((flt_iff ha).mp c1)), sel_t (show mAside T (ix (nI jb)) from (by rw [eib]; exact (hand_iff hb hjb).mp c2)), sel_t (show (¬ (G 2 (ix (G 4 (ix (nI jb)))) = 0)) from (by rw [eib, hx5]; rw [hFe] at c3; exact (gone_iff ha hx2).mp c3)), sel_t (show G 2 (ix (nI jf)) = 0 from (by rw [eif]; exact (ng_iff ha (by omega)).mp c4))]; exact (by rw [eib, eif]; exact (fwd_rel ha hb hjb hjf h3).1)
            · rw [qforward_t, sel_t (show mIn (nI jb) 0 (nI n - 1) from ((bag_iff ha).mp c0)), sel_t (show mIn (nI jf) 0 (nI nf - 1) from ((flt_iff ha).mp c1)), sel_t (show mAside T (ix (nI jb)) from (by rw [eib]; exact (hand_iff hb hjb).mp c2)), sel_t (show (¬ (G 2 (ix (G 4 (ix (nI jb)))) = 0)) from (by rw [eib, hx5]; rw [hFe] at c3; exact (gone_iff ha hx2).mp c3)), sel_t (show G 2 (ix (nI jf)) = 0 from (by rw [eif]; exact (ng_iff ha (by omega)).mp c4))]; exact (by rw [eib, eif]; exact (fwd_rel ha hb hjb hjf h3).2)
          · have h9_ := h40
            refine ⟨2, _, S, _, _, T0, U, og, n, nf, fun R => wbdL_forward_4 l S T0 og (nI jb) (nI jf) hfl c0 c1 c2 c3 c4, fun R => metX6_forward l G T (nI jb) (nI jf) n ha.gn ha.n40 nf ha.gf_ ha.nf6 ha.okF ha.gob hb.hLs, ?_, fun h9 => absurd h9 (by decide), ?_, ?_⟩
            · rw [qforward_g, sel_t (show mIn (nI jb) 0 (nI n - 1) from ((bag_iff ha).mp c0)), sel_t (show mIn (nI jf) 0 (nI nf - 1) from ((flt_iff ha).mp c1)), sel_t (show mAside T (ix (nI jb)) from (by rw [eib]; exact (hand_iff hb hjb).mp c2)), sel_t (show (¬ (G 2 (ix (G 4 (ix (nI jb)))) = 0)) from (by rw [eib, hx5]; rw [hFe] at c3; exact (gone_iff ha hx2).mp c3)), sel_f (show ¬ (G 2 (ix (nI jf)) = 0) from (by rw [eif]; exact fun z9 => c4 ((ng_iff ha (by omega)).mpr z9)))]; rfl
            · rw [qforward_g, sel_t (show mIn (nI jb) 0 (nI n - 1) from ((bag_iff ha).mp c0)), sel_t (show mIn (nI jf) 0 (nI nf - 1) from ((flt_iff ha).mp c1)), sel_t (show mAside T (ix (nI jb)) from (by rw [eib]; exact (hand_iff hb hjb).mp c2)), sel_t (show (¬ (G 2 (ix (G 4 (ix (nI jb)))) = 0)) from (by rw [eib, hx5]; rw [hFe] at c3; exact (gone_iff ha hx2).mp c3)), sel_f (show ¬ (G 2 (ix (nI jf)) = 0) from (by rw [eif]; exact fun z9 => c4 ((ng_iff ha (by omega)).mpr z9)))]; exact RA_thr (RA_thr ha 0) 2
            · rw [qforward_t, sel_t (show mIn (nI jb) 0 (nI n - 1) from ((bag_iff ha).mp c0)), sel_t (show mIn (nI jf) 0 (nI nf - 1) from ((flt_iff ha).mp c1)), sel_t (show mAside T (ix (nI jb)) from (by rw [eib]; exact (hand_iff hb hjb).mp c2)), sel_t (show (¬ (G 2 (ix (G 4 (ix (nI jb)))) = 0)) from (by rw [eib, hx5]; rw [hFe] at c3; exact (gone_iff ha hx2).mp c3)), sel_f (show ¬ (G 2 (ix (nI jf)) = 0) from (by rw [eif]; exact fun z9 => c4 ((ng_iff ha (by omega)).mpr z9)))]; exact hb
        · have h9_ := h40
          refine ⟨2, _, S, _, _, T0, U, og, n, nf, fun R => wbdL_forward_3 l S T0 og (nI jb) (nI jf) hfl c0 c1 c2 c3, fun R => metX6_forward l G T (nI jb) (nI jf) n ha.gn ha.n40 nf ha.gf_ ha.nf6 ha.okF ha.gob hb.hLs, ?_, fun h9 => absurd h9 (by decide), ?_, ?_⟩
          · rw [qforward_g, sel_t (show mIn (nI jb) 0 (nI n - 1) from ((bag_iff ha).mp c0)), sel_t (show mIn (nI jf) 0 (nI nf - 1) from ((flt_iff ha).mp c1)), sel_t (show mAside T (ix (nI jb)) from (by rw [eib]; exact (hand_iff hb hjb).mp c2)), sel_f (show ¬ (¬ (G 2 (ix (G 4 (ix (nI jb)))) = 0)) from (fun h_ => h_ (by rw [eib, hx5]; rw [hFe] at c3; exact Classical.not_not.mp (fun z9 => c3 ((gone_iff ha hx2).mpr z9)))))]; rfl
          · rw [qforward_g, sel_t (show mIn (nI jb) 0 (nI n - 1) from ((bag_iff ha).mp c0)), sel_t (show mIn (nI jf) 0 (nI nf - 1) from ((flt_iff ha).mp c1)), sel_t (show mAside T (ix (nI jb)) from (by rw [eib]; exact (hand_iff hb hjb).mp c2)), sel_f (show ¬ (¬ (G 2 (ix (G 4 (ix (nI jb)))) = 0)) from (fun h_ => h_ (by rw [eib, hx5]; rw [hFe] at c3; exact Classical.not_not.mp (fun z9 => c3 ((gone_iff ha hx2).mpr z9)))))]; exact RA_thr (RA_thr ha 0) 2
          · rw [qforward_t, sel_t (show mIn (nI jb) 0 (nI n - 1) from ((bag_iff ha).mp c0)), sel_t (show mIn (nI jf) 0 (nI nf - 1) from ((flt_iff ha).mp c1)), sel_t (show mAside T (ix (nI jb)) from (by rw [eib]; exact (hand_iff hb hjb).mp c2)), sel_f (show ¬ (¬ (G 2 (ix (G 4 (ix (nI jb)))) = 0)) from (fun h_ => h_ (by rw [eib, hx5]; rw [hFe] at c3; exact Classical.not_not.mp (fun z9 => c3 ((gone_iff ha hx2).mpr z9)))))]; exact hb
      · have h9_ := h40
        refine ⟨2, _, S, _, _, T0, U, og, n, nf, fun R => wbdL_forward_2 l S T0 og (nI jb) (nI jf) hfl c0 c1 c2, fun R => metX6_forward l G T (nI jb) (nI jf) n ha.gn ha.n40 nf ha.gf_ ha.nf6 ha.okF ha.gob hb.hLs, ?_, fun h9 => absurd h9 (by decide), ?_, ?_⟩
        · rw [qforward_g, sel_t (show mIn (nI jb) 0 (nI n - 1) from ((bag_iff ha).mp c0)), sel_t (show mIn (nI jf) 0 (nI nf - 1) from ((flt_iff ha).mp c1)), sel_f (show ¬ (mAside T (ix (nI jb))) from (by rw [eib]; exact fun z9 => c2 ((hand_iff hb hjb).mpr z9)))]; rfl
        · rw [qforward_g, sel_t (show mIn (nI jb) 0 (nI n - 1) from ((bag_iff ha).mp c0)), sel_t (show mIn (nI jf) 0 (nI nf - 1) from ((flt_iff ha).mp c1)), sel_f (show ¬ (mAside T (ix (nI jb))) from (by rw [eib]; exact fun z9 => c2 ((hand_iff hb hjb).mpr z9)))]; exact RA_thr (RA_thr ha 0) 2
        · rw [qforward_t, sel_t (show mIn (nI jb) 0 (nI n - 1) from ((bag_iff ha).mp c0)), sel_t (show mIn (nI jf) 0 (nI nf - 1) from ((flt_iff ha).mp c1)), sel_f (show ¬ (mAside T (ix (nI jb))) from (by rw [eib]; exact fun z9 => c2 ((hand_iff hb hjb).mpr z9)))]; exact hb
    · have h9_ := h40
      refine ⟨1, _, S, _, _, T0, U, og, n, nf, fun R => wbdL_forward_1 l S T0 og (nI jb) f hfl c0 c1, fun R => metX6_forward l G T (nI jb) f n ha.gn ha.n40 nf ha.gf_ ha.nf6 ha.okF ha.gob hb.hLs, ?_, fun h9 => absurd h9 (by decide), ?_, ?_⟩
      · rw [qforward_g, sel_t (show mIn (nI jb) 0 (nI n - 1) from ((bag_iff ha).mp c0)), sel_f (show ¬ (mIn f 0 (nI nf - 1)) from (fun z9 => c1 ((flt_iff ha).mpr z9)))]; rfl
      · rw [qforward_g, sel_t (show mIn (nI jb) 0 (nI n - 1) from ((bag_iff ha).mp c0)), sel_f (show ¬ (mIn f 0 (nI nf - 1)) from (fun z9 => c1 ((flt_iff ha).mpr z9)))]; exact RA_thr (RA_thr ha 0) 1
      · rw [qforward_t, sel_t (show mIn (nI jb) 0 (nI n - 1) from ((bag_iff ha).mp c0)), sel_f (show ¬ (mIn f 0 (nI nf - 1)) from (fun z9 => c1 ((flt_iff ha).mpr z9)))]; exact hb
  · have h9_ := h40
    refine ⟨1, _, S, _, _, T0, U, og, n, nf, fun R => wbdL_forward_0 l S T0 og b f hfl c0, fun R => metX6_forward l G T b f n ha.gn ha.n40 nf ha.gf_ ha.nf6 ha.okF ha.gob hb.hLs, ?_, fun h9 => absurd h9 (by decide), ?_, ?_⟩
    · rw [qforward_g, sel_f (show ¬ (mIn b 0 (nI n - 1)) from (fun z9 => c0 ((bag_iff ha).mpr z9)))]; rfl
    · rw [qforward_g, sel_f (show ¬ (mIn b 0 (nI n - 1)) from (fun z9 => c0 ((bag_iff ha).mpr z9)))]; exact RA_thr (RA_thr ha 0) 1
    · rw [qforward_t, sel_f (show ¬ (mIn b 0 (nI n - 1)) from (fun z9 => c0 ((bag_iff ha).mpr z9)))]; exact hb
