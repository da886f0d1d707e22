set_option maxHeartbeats 4000000 in
set_option maxRecDepth 100000 in
theorem law_loop {p : Program} {e : Env} {s : State} {m : MethodId} {below : List Frame} {meth : Method} {c : Code} {l : Launch} {b L : Nat} {xs : Nat → Int32} {D : va_G} {k : Nat → ClassId} {a tr g t u : Nat → Nat} {x o : Nat} {Q : State → Prop} (hfl : l.stackTraces = false) (hCd : ∀ d : Drawn, CallFix p m c cL_law 9 (s.setDrawn d) #[Value.ref b] lw_all RL) (hE0 : eK D k s) (hX0 : xK s) (hAZ : aZ s) (hX9 : va_X b L xs s s.heap) (hbl : b < s.heap.size) (hL : L ≤ 2048) (hEnd : ∀ (d0 : Drawn), s.drawn.sameBut d0 lw_cs → ∀ (ls : Array Slot) (H : Heap) (locs : List Loc), (∀ q ∈ locs, s.heap.size ≤ q.base) → W p l e room_1 (s.setDrawn d0) m #[Value.ref b] below meth c H locs 1122 9760 Q (F0 m 2107 ls [])) : ∀ (d j : Nat), j + d = 513 → ∀ (d0 : Drawn), s.drawn.sameBut d0 lw_cs → ∀ (ls : Array Slot) (H : Heap) (locs : List Loc) (S G T T0 U : HS) (og : Nat → Int64) (n nf : Nat), RA S G n nf → RB S T n → lv_has ls 9 [(0, .ref b), (1, .ref x), (2, .ref (g 0)), (3, .ref o), (4, .int (nI (4 * j)))] → va_P D vwCl (xwW k a tr x o S T0 og (mW k g t u G T U [])) H → va_D (fun q : Nat => s.heap.size ≤ q) (xwW k a tr x o S T0 og (mW k g t u G T U [])) → va_S (fun q : Nat => s.heap.size ≤ q) s.heap H locs → W p l e room_1 (s.setDrawn d0) m #[Value.ref b] below meth c H locs (84 + j) (1484 + 6 * j) Q (F0 m 23 ls []) := by
  intro d
  induction d with
  | zero =>
    intro j hj d0 hd0 ls H locs S G T T0 U og n nf hA9 hB9 hl hP hD hS
    have hC := hCd d0
    have hx := hC.1
    have hb := hC.2.1
    have hE := eK_drawn hE0 d0
    have hX := xK_drawn hX0 d0
    have hXs : va_X b L xs (s.setDrawn d0) s.heap := va_X.moved (u := s) (U := s.setDrawn d0) (Vm.Alike.refl s.vm) hX9
    have hl : lv_has ls 9 [(0, .ref b), (1, .ref x), (2, .ref (g 0)), (3, .ref o), (4, .int (nI (4 * j)))] := hl
    refine lv_iload hx hb dL_law_23 (lv_at hl 4 rfl) ?_
    refine lv_aload_n hx hb dL_law_25 rfl (lv_at hl 0 rfl) ?_
    refine va_slen (A := (fun q : Nat => s.heap.size ≤ q)) hx hb hXs hbl (Nat.not_le.mpr hbl) hS dL_law_26 ?_
    refine lv_iconst (v := 4) hx hb dL_law_27 (by decide) ?_
    refine lv_isub hx hb dL_law_28 ?_
    have hsub : (nI L - 4 : Int32).toInt = (L : Int) - 4 := pk_sub_toInt (a := L) (b := 4) (by omega) (by decide)
    refine lv_icmp_gt (tgt := 2107) hx hb dL_law_29 (by decide) (fun _ => ?_) (fun c_1 => ?_)
    · refine W.widen (k := 1122) (n := 9760) (by omega) (by omega) ?_
      exact hEnd d0 hd0 ls H locs hS.2.2
    · have hi : 4 * j + 4 ≤ L := by
        have h9 : ¬ (nI L - 4 : Int32) < nI (4 * j) := c_1
        rw [Int32.lt_iff_toInt_lt, hsub, nI_toInt (by omega)] at h9
        omega
      exact absurd hi (by omega)
  | succ d ih =>
    intro j hj d0 hd0 ls H locs S G T T0 U og n nf hA9 hB9 hl hP hD hS
    have hC := hCd d0
    have hx := hC.1
    have hb := hC.2.1
    have hE := eK_drawn hE0 d0
    have hX := xK_drawn hX0 d0
    have hXs : va_X b L xs (s.setDrawn d0) s.heap := va_X.moved (u := s) (U := s.setDrawn d0) (Vm.Alike.refl s.vm) hX9
    have hl : lv_has ls 9 [(0, .ref b), (1, .ref x), (2, .ref (g 0)), (3, .ref o), (4, .int (nI (4 * j)))] := hl
    refine lv_iload hx hb dL_law_23 (lv_at hl 4 rfl) ?_
    refine lv_aload_n hx hb dL_law_25 rfl (lv_at hl 0 rfl) ?_
    refine va_slen (A := (fun q : Nat => s.heap.size ≤ q)) hx hb hXs hbl (Nat.not_le.mpr hbl) hS dL_law_26 ?_
    refine lv_iconst (v := 4) hx hb dL_law_27 (by decide) ?_
    refine lv_isub hx hb dL_law_28 ?_
    have hsub : (nI L - 4 : Int32).toInt = (L : Int) - 4 := pk_sub_toInt (a := L) (b := 4) (by omega) (by decide)
    refine lv_icmp_gt (tgt := 2107) hx hb dL_law_29 (by decide) (fun _ => ?_) (fun c_1 => ?_)
    · refine W.widen (k := 1122) (n := 9760) (by omega) (by omega) ?_
      exact hEnd d0 hd0 ls H locs hS.2.2
    · have hi : 4 * j + 4 ≤ L := by
        have h9 : ¬ (nI L - 4 : Int32) < nI (4 * j) := c_1
        rw [Int32.lt_iff_toInt_lt, hsub, nI_toInt (by omega)] at h9
        omega
      have hcs : 84 + j + 1 ≤ room_1.cells ∧ 1484 + 6 * j + 6 ≤ room_1.slots := ⟨by show 84 + j + 1 ≤ 1122; omega, by show 1484 + 6 * j + 6 ≤ 9760; omega⟩
      have K : ∀ (d0 : Drawn), s.drawn.sameBut d0 lw_cs → ∀ (ls : Array Slot) (H : Heap) (locs : List Loc) (S G T T0 U : HS) (og : Nat → Int64) (n nf : Nat), RA S G n nf → RB S T n → lv_has ls 9 [(0, .ref b), (1, .ref x), (2, .ref (g 0)), (3, .ref o), (4, .int (nI (4 * j)))] → va_P D vwCl (xwW k a tr x o S T0 og (mW k g t u G T U [])) H → va_D (fun q : Nat => s.heap.size ≤ q) (xwW k a tr x o S T0 og (mW k g t u G T U [])) → va_S (fun q : Nat => s.heap.size ≤ q) s.heap H locs → W p l e room_1 (s.setDrawn d0) m #[Value.ref b] below meth c H locs (84 + j + 1) (1484 + 6 * j + 6) Q (F0 m 2101 ls []) := by
        intro d0 hd0 ls H locs S G T T0 U og n nf hA9 hB9 hl hP hD hS
        have hC := hCd d0
        have hx := hC.1
        have hb := hC.2.1
        have hl : lv_has ls 9 [(0, .ref b), (1, .ref x), (2, .ref (g 0)), (3, .ref o), (4, .int (nI (4 * j)))] := hl
        refine lv_iinc (v := nI (4 * (j + 1))) (lv' := [(4, .int (nI (4 * (j + 1)))), (0, .ref b), (1, .ref x), (2, .ref (g 0)), (3, .ref o)]) hx hb dL_law_2101 hl (k := 4) rfl (by rw [show 4 * (j + 1) = 4 * j + 4 by omega]; exact nI_add (4 * j) 4) (by decide) rfl (fun ls hl => ?_)
        refine lv_goto (tgt := 23) hx hb dL_law_2104 (by decide) ?_
        exact ih (j + 1) (by omega) d0 hd0 ls H locs S G T T0 U og n nf hA9 hB9 (lv_sub hl [1, 2, 3, 4, 0] rfl) hP hD hS
      refine lv_aload_n hx hb dL_law_32 rfl (lv_at hl 0 rfl) ?_
      refine lv_iload hx hb dL_law_33 (lv_at hl 4 rfl) ?_
      refine va_sld (A := (fun q : Nat => s.heap.size ≤ q)) hx hb hXs hbl (Nat.not_le.mpr hbl) hS (i := nI (4 * j)) (vp_in_nI (by omega) (by omega)) dL_law_35 ?_
      refine lv_bipush (v := 63) hx hb dL_law_36 (by decide) ?_
      refine lv_iand hx hb dL_law_38 ?_
      obtain ⟨v, hv, ev⟩ := pk_andE (xs (nI (4 * j)).toNatClampNeg) (m := 63) 6 (by decide)
      refine w_top ev ?_
      by_cases h40 : v < 40
      · rcases (show v = 0 ∨ v = 1 ∨ v = 2 ∨ v = 3 ∨ v = 4 ∨ v = 5 ∨ v = 6 ∨ v = 7 ∨ v = 8 ∨ v = 9 ∨ v = 10 ∨ v = 11 ∨ v = 12 ∨ v = 13 ∨ v = 14 ∨ v = 15 ∨ v = 16 ∨ v = 17 ∨ v = 18 ∨ v = 19 ∨ v = 20 ∨ v = 21 ∨ v = 22 ∨ v = 23 ∨ v = 24 ∨ v = 25 ∨ v = 26 ∨ v = 27 ∨ v = 28 ∨ v = 29 ∨ v = 30 ∨ v = 31 ∨ v = 32 ∨ v = 33 ∨ v = 34 ∨ v = 35 ∨ v = 36 ∨ v = 37 ∨ v = 38 ∨ v = 39 by omega) with rfl | rfl | rfl | rfl | rfl | rfl | rfl | rfl | rfl | rfl | rfl | rfl | rfl | rfl | rfl | rfl | rfl | rfl | rfl | rfl | rfl | rfl | rfl | rfl | rfl | rfl | rfl | rfl | rfl | rfl | rfl | rfl | rfl | rfl | rfl | rfl | rfl | rfl | rfl | rfl
        · refine lv_tableIn (x := nI 0) (off := 173) (tgt := 212) hx hb dL_law_39 (by decide) (by decide) rfl (by decide) ?_
          exact case_0 hfl hCd hE0 hX0 hAZ hX9 hbl hL (i := 4 * j) hi hcs K hd0 hA9 hB9 hl hP hD hS
        · refine lv_tableIn (x := nI 1) (off := 217) (tgt := 256) hx hb dL_law_39 (by decide) (by decide) rfl (by decide) ?_
          exact case_1 hfl hCd hE0 hX0 hAZ hX9 hbl hL (i := 4 * j) hi hcs K hd0 hA9 hB9 hl hP hD hS
        · refine lv_tableIn (x := nI 2) (off := 285) (tgt := 324) hx hb dL_law_39 (by decide) (by decide) rfl (by decide) ?_
          exact case_2 hfl hCd hE0 hX0 hAZ hX9 hbl hL (i := 4 * j) hi hcs K hd0 hA9 hB9 hl hP hD hS
        · refine lv_tableIn (x := nI 3) (off := 341) (tgt := 380) hx hb dL_law_39 (by decide) (by decide) rfl (by decide) ?_
          exact case_3 hfl hCd hE0 hX0 hAZ hX9 hbl hL (i := 4 * j) hi hcs K hd0 hA9 hB9 hl hP hD hS
        · refine lv_tableIn (x := nI 4) (off := 409) (tgt := 448) hx hb dL_law_39 (by decide) (by decide) rfl (by decide) ?_
          exact case_4 hfl hCd hE0 hX0 hAZ hX9 hbl hL (i := 4 * j) hi hcs K hd0 hA9 hB9 hl hP hD hS
        · refine lv_tableIn (x := nI 5) (off := 489) (tgt := 528) hx hb dL_law_39 (by decide) (by decide) rfl (by decide) ?_
          exact case_5 hfl hCd hE0 hX0 hAZ hX9 hbl hL (i := 4 * j) hi hcs K hd0 hA9 hB9 hl hP hD hS
        · refine lv_tableIn (x := nI 6) (off := 545) (tgt := 584) hx hb dL_law_39 (by decide) (by decide) rfl (by decide) ?_
          exact case_6 hfl hCd hE0 hX0 hAZ hX9 hbl hL (i := 4 * j) hi hcs K hd0 hA9 hB9 hl hP hD hS
        · refine lv_tableIn (x := nI 7) (off := 613) (tgt := 652) hx hb dL_law_39 (by decide) (by decide) rfl (by decide) ?_
          exact case_7 hfl hCd hE0 hX0 hAZ hX9 hbl hL (i := 4 * j) hi hcs K hd0 hA9 hB9 hl hP hD hS
        · refine lv_tableIn (x := nI 8) (off := 669) (tgt := 708) hx hb dL_law_39 (by decide) (by decide) rfl (by decide) ?_
          exact case_8 hfl hCd hE0 hX0 hAZ hX9 hbl hL (i := 4 * j) hi hcs K hd0 hA9 hB9 hl hP hD hS
        · refine lv_tableIn (x := nI 9) (off := 725) (tgt := 764) hx hb dL_law_39 (by decide) (by decide) rfl (by decide) ?_
          exact case_9 hfl hCd hE0 hX0 hAZ hX9 hbl hL (i := 4 * j) hi hcs K hd0 hA9 hB9 hl hP hD hS
        · refine lv_tableIn (x := nI 10) (off := 781) (tgt := 820) hx hb dL_law_39 (by decide) (by decide) rfl (by decide) ?_
          exact case_10 hfl hCd hE0 hX0 hAZ hX9 hbl hL (i := 4 * j) hi hcs K hd0 hA9 hB9 hl hP hD hS
        · refine lv_tableIn (x := nI 11) (off := 837) (tgt := 876) hx hb dL_law_39 (by decide) (by decide) rfl (by decide) ?_
          exact case_11 hfl hCd hE0 hX0 hAZ hX9 hbl hL (i := 4 * j) hi hcs K hd0 hA9 hB9 hl hP hD hS
        · refine lv_tableIn (x := nI 12) (off := 893) (tgt := 932) hx hb dL_law_39 (by decide) (by decide) rfl (by decide) ?_
          exact case_12 hfl hCd hE0 hX0 hAZ hX9 hbl hL (i := 4 * j) hi hcs K hd0 hA9 hB9 hl hP hD hS
        · refine lv_tableIn (x := nI 13) (off := 949) (tgt := 988) hx hb dL_law_39 (by decide) (by decide) rfl (by decide) ?_
          exact case_13 hfl hCd hE0 hX0 hAZ hX9 hbl hL (i := 4 * j) hi hcs K hd0 hA9 hB9 hl hP hD hS
        · refine lv_tableIn (x := nI 14) (off := 1005) (tgt := 1044) hx hb dL_law_39 (by decide) (by decide) rfl (by decide) ?_
          exact case_14 hfl hCd hE0 hX0 hAZ hX9 hbl hL (i := 4 * j) hi hcs K hd0 hA9 hB9 hl hP hD hS
        · refine lv_tableIn (x := nI 15) (off := 1061) (tgt := 1100) hx hb dL_law_39 (by decide) (by decide) rfl (by decide) ?_
          exact case_15 hfl hCd hE0 hX0 hAZ hX9 hbl hL (i := 4 * j) hi hcs K hd0 hA9 hB9 hl hP hD hS
        · refine lv_tableIn (x := nI 16) (off := 1117) (tgt := 1156) hx hb dL_law_39 (by decide) (by decide) rfl (by decide) ?_
          exact case_16 hfl hCd hE0 hX0 hAZ hX9 hbl hL (i := 4 * j) hi hcs K hd0 hA9 hB9 hl hP hD hS
        · refine lv_tableIn (x := nI 17) (off := 1180) (tgt := 1219) hx hb dL_law_39 (by decide) (by decide) rfl (by decide) ?_
          exact case_17 hfl hCd hE0 hX0 hAZ hX9 hbl hL (i := 4 * j) hi hcs K hd0 hA9 hB9 hl hP hD hS
        · refine lv_tableIn (x := nI 18) (off := 1243) (tgt := 1282) hx hb dL_law_39 (by decide) (by decide) rfl (by decide) ?_
          exact case_18 hfl hCd hE0 hX0 hAZ hX9 hbl hL (i := 4 * j) hi hcs K hd0 hA9 hB9 hl hP hD hS
        · refine lv_tableIn (x := nI 19) (off := 1299) (tgt := 1338) hx hb dL_law_39 (by decide) (by decide) rfl (by decide) ?_
          exact case_19 hfl hCd hE0 hX0 hAZ hX9 hbl hL (i := 4 * j) hi hcs K hd0 hA9 hB9 hl hP hD hS
        · refine lv_tableIn (x := nI 20) (off := 1355) (tgt := 1394) hx hb dL_law_39 (by decide) (by decide) rfl (by decide) ?_
          exact case_20 hfl hCd hE0 hX0 hAZ hX9 hbl hL (i := 4 * j) hi hcs K hd0 hA9 hB9 hl hP hD hS
        · refine lv_tableIn (x := nI 21) (off := 1411) (tgt := 1450) hx hb dL_law_39 (by decide) (by decide) rfl (by decide) ?_
          exact case_21 hfl hCd hE0 hX0 hAZ hX9 hbl hL (i := 4 * j) hi hcs K hd0 hA9 hB9 hl hP hD hS
        · refine lv_tableIn (x := nI 22) (off := 1467) (tgt := 1506) hx hb dL_law_39 (by decide) (by decide) rfl (by decide) ?_
          exact case_22 hfl hCd hE0 hX0 hAZ hX9 hbl hL (i := 4 * j) hi hcs K hd0 hA9 hB9 hl hP hD hS
        · refine lv_tableIn (x := nI 23) (off := 1523) (tgt := 1562) hx hb dL_law_39 (by decide) (by decide) rfl (by decide) ?_
          exact case_23 hfl hCd hE0 hX0 hAZ hX9 hbl hL (i := 4 * j) hi hcs K hd0 hA9 hB9 hl hP hD hS
        · refine lv_tableIn (x := nI 24) (off := 1586) (tgt := 1625) hx hb dL_law_39 (by decide) (by decide) rfl (by decide) ?_
          exact case_24 hfl hCd hE0 hX0 hAZ hX9 hbl hL (i := 4 * j) hi hcs K hd0 hA9 hB9 hl hP hD hS
        · refine lv_tableIn (x := nI 25) (off := 1642) (tgt := 1681) hx hb dL_law_39 (by decide) (by decide) rfl (by decide) ?_
          exact case_25 hfl hCd hE0 hX0 hAZ hX9 hbl hL (i := 4 * j) hi hcs K hd0 hA9 hB9 hl hP hD hS
        · refine lv_tableIn (x := nI 26) (off := 1698) (tgt := 1737) hx hb dL_law_39 (by decide) (by decide) rfl (by decide) ?_
          exact case_26 hfl hCd hE0 hX0 hAZ hX9 hbl hL (i := 4 * j) hi hcs K hd0 hA9 hB9 hl hP hD hS
        · refine lv_tableIn (x := nI 27) (off := 1711) (tgt := 1750) hx hb dL_law_39 (by decide) (by decide) rfl (by decide) ?_
          exact case_27 hfl hCd hE0 hX0 hAZ hX9 hbl hL (i := 4 * j) hi hcs K hd0 hA9 hB9 hl hP hD hS
        · refine lv_tableIn (x := nI 28) (off := 1724) (tgt := 1763) hx hb dL_law_39 (by decide) (by decide) rfl (by decide) ?_
          exact case_28 hfl hCd hE0 hX0 hAZ hX9 hbl hL (i := 4 * j) hi hcs K hd0 hA9 hB9 hl hP hD hS
        · refine lv_tableIn (x := nI 29) (off := 1737) (tgt := 1776) hx hb dL_law_39 (by decide) (by decide) rfl (by decide) ?_
          exact case_29 hfl hCd hE0 hX0 hAZ hX9 hbl hL (i := 4 * j) hi hcs K hd0 hA9 hB9 hl hP hD hS
        · refine lv_tableIn (x := nI 30) (off := 1750) (tgt := 1789) hx hb dL_law_39 (by decide) (by decide) rfl (by decide) ?_
          exact case_30 hfl hCd hE0 hX0 hAZ hX9 hbl hL (i := 4 * j) hi hcs K hd0 hA9 hB9 hl hP hD hS
        · refine lv_tableIn (x := nI 31) (off := 1763) (tgt := 1802) hx hb dL_law_39 (by decide) (by decide) rfl (by decide) ?_
          exact case_31 hfl hCd hE0 hX0 hAZ hX9 hbl hL (i := 4 * j) hi hcs K hd0 hA9 hB9 hl hP hD hS
        · refine lv_tableIn (x := nI 32) (off := 1776) (tgt := 1815) hx hb dL_law_39 (by decide) (by decide) rfl (by decide) ?_
          exact case_32 hfl hCd hE0 hX0 hAZ hX9 hbl hL (i := 4 * j) hi hcs K hd0 hA9 hB9 hl hP hD hS
        · refine lv_tableIn (x := nI 33) (off := 1789) (tgt := 1828) hx hb dL_law_39 (by decide) (by decide) rfl (by decide) ?_
          exact case_33 hfl hCd hE0 hX0 hAZ hX9 hbl hL (i := 4 * j) hi hcs K hd0 hA9 hB9 hl hP hD hS
        · refine lv_tableIn (x := nI 34) (off := 1802) (tgt := 1841) hx hb dL_law_39 (by decide) (by decide) rfl (by decide) ?_
          exact case_34 hfl hCd hE0 hX0 hAZ hX9 hbl hL (i := 4 * j) hi hcs K hd0 hA9 hB9 hl hP hD hS
        · refine lv_tableIn (x := nI 35) (off := 1815) (tgt := 1854) hx hb dL_law_39 (by decide) (by decide) rfl (by decide) ?_
          exact case_35 hfl hCd hE0 hX0 hAZ hX9 hbl hL (i := 4 * j) hi hcs K hd0 hA9 hB9 hl hP hD hS
        · refine lv_tableIn (x := nI 36) (off := 1871) (tgt := 1910) hx hb dL_law_39 (by decide) (by decide) rfl (by decide) ?_
          exact case_36 hfl hCd hE0 hX0 hAZ hX9 hbl hL (i := 4 * j) hi hcs K hd0 hA9 hB9 hl hP hD hS
        · refine lv_tableIn (x := nI 37) (off := 1939) (tgt := 1978) hx hb dL_law_39 (by decide) (by decide) rfl (by decide) ?_
          exact case_37 hfl hCd hE0 hX0 hAZ hX9 hbl hL (i := 4 * j) hi hcs K hd0 hA9 hB9 hl hP hD hS
        · refine lv_tableIn (x := nI 38) (off := 2007) (tgt := 2046) hx hb dL_law_39 (by decide) (by decide) rfl (by decide) ?_
          exact case_38 hfl hCd hE0 hX0 hAZ hX9 hbl hL (i := 4 * j) hi hcs K hd0 hA9 hB9 hl hP hD hS
        · refine lv_tableIn (x := nI 39) (off := 2048) (tgt := 2087) hx hb dL_law_39 (by decide) (by decide) rfl (by decide) ?_
          exact case_39 hfl hCd hE0 hX0 hAZ hX9 hbl hL (i := 4 * j) hi hcs K hd0 hA9 hB9 hl hP hD hS
      · refine lv_tableOut (x := nI v) (tgt := 2101) hx hb dL_law_39 (Or.inr (by rw [nI_toInt (by omega)]; omega)) (by decide) ?_
        refine W.widen (k := 84 + j + 1) (n := 1484 + 6 * j + 6) (by omega) (by omega) ?_
        exact K d0 hd0 ls H locs S G T T0 U og n nf hA9 hB9 hl hP hD hS
