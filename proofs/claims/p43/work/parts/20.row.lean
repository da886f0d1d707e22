/-! class BagCarousel$Row: a row that looks at each index -/
/-- turned by one place -/
def xturn (n : Nat) (f : Nat → Int32) : Nat → Int32 := fun j => if j < n then (if j = 0 then f (n - 1) else f (j - 1)) else f j
def xtG (n : Nat) (f : Nat → Int32) (i : Nat) : Nat → Int32 := fun j => if n - i ≤ j ∧ j < n then f (j - 1) else f j
/-- the first one taken out -/
def xfront (n : Nat) (f : Nat → Int32) : Nat → Int32 := fun j => if j + 1 < n then f (j + 1) else if j + 1 = n then -1 else f j
def xfG (f : Nat → Int32) (i : Nat) : Nat → Int32 := fun j => if j < i then f (j + 1) else f j
def xflG (f : Nat → Int32) (x : Int32) (i : Nat) : Nat → Int32 := fun j => if j < i then x else f j
theorem row_in {n : Nat} {i : Int32} (h1 : ¬ i < 0) (h2 : ¬ nI n ≤ i) (hn : n < 2 ^ 31) : vp_in i n := by
  rcases pk_ix i hn with h | h | ⟨j, hj, rfl⟩
  · exact absurd h h1
  · exact absurd h h2
  · exact vp_in_nI hj hn
theorem idec {m : Nat} (h : 0 < m) : nI m + Int32.ofInt (-1) = nI (m - 1) := by
  obtain ⟨q, rfl⟩ : ∃ q, m = q + 1 := ⟨m - 1, by omega⟩
  exact pk_m1 q
theorem isub1 {m : Nat} (h : 0 < m) : nI m - 1 = nI (m - 1) := pk_sub (b := 1) h
theorem xtG_0 (n : Nat) (f : Nat → Int32) : xtG n f 0 = f := by
  funext j
  unfold xtG
  rw [if_neg (by omega)]
theorem xtG_s {n i : Nat} {f : Nat → Int32} (h : i < n - 1) : xtG n f (i + 1) = upd (xtG n f i) (n - 1 - i) (xtG n f i (n - 1 - i - 1)) := by
  funext j
  unfold upd xtG
  by_cases h1 : j = n - 1 - i
  · rw [if_pos h1, if_pos (by omega), if_neg (by omega), h1]
  · rw [if_neg h1]
    by_cases h2 : n - i ≤ j ∧ j < n
    · rw [if_pos h2, if_pos (by omega)]
    · rw [if_neg h2, if_neg (by omega)]
theorem xtG_e {n : Nat} {f : Nat → Int32} (h : 0 < n) : upd (xtG n f (n - 1)) 0 (f (n - 1)) = xturn n f := by
  funext j
  unfold upd xtG xturn
  by_cases h1 : j = 0
  · rw [if_pos h1, if_pos (by omega), if_pos h1]
  · rw [if_neg h1]
    by_cases h2 : j < n
    · rw [if_pos (by omega), if_pos h2, if_neg h1]
    · rw [if_neg (by omega), if_neg h2]
theorem xfG_0 (f : Nat → Int32) : xfG f 0 = f := by
  funext j
  unfold xfG
  rw [if_neg (by omega)]
theorem xfG_s {i : Nat} {f : Nat → Int32} : xfG f (i + 1) = upd (xfG f i) i (xfG f i (i + 1)) := by
  funext j
  unfold upd xfG
  by_cases h1 : j = i
  · rw [if_pos h1, if_pos (by omega), if_neg (by omega), h1]
  · rw [if_neg h1]
    by_cases h2 : j < i
    · rw [if_pos h2, if_pos (by omega)]
    · rw [if_neg h2, if_neg (by omega)]
theorem xfG_e {n : Nat} {f : Nat → Int32} (h : 0 < n) : upd (xfG f (n - 1)) (n - 1) (-1) = xfront n f := by
  funext j
  unfold upd xfG xfront
  by_cases h1 : j = n - 1
  · rw [if_pos h1, if_neg (by omega), if_pos (by omega)]
  · rw [if_neg h1]
    by_cases h2 : j < n - 1
    · rw [if_pos h2, if_pos (by omega)]
    · rw [if_neg h2, if_neg (by omega), if_neg (by omega)]
theorem xflG_0 (f : Nat → Int32) (x : Int32) : xflG f x 0 = f := by
  funext j
  unfold xflG
  rw [if_neg (by omega)]
theorem xflG_s {i : Nat} {f : Nat → Int32} {x : Int32} : xflG f x (i + 1) = upd (xflG f x i) i x := by
  funext j
  unfold upd xflG
  by_cases h1 : j = i
  · rw [if_pos h1, if_pos (by omega)]
  · rw [if_neg h1]
    by_cases h2 : j < i
    · rw [if_pos h2, if_pos (by omega)]
    · rw [if_neg h2, if_neg (by omega)]
theorem fnd_hit {f : Nat → Int32} {v : Int32} {i n : Nat} (hi : i < n) (h : f i = v) : fnd f v i (n - i) = nI i := by
  obtain ⟨d, hd⟩ : ∃ d, n - i = d + 1 := ⟨n - i - 1, by omega⟩
  rw [hd]
  exact sel_t h _ _
theorem fnd_miss {f : Nat → Int32} {v : Int32} {i n : Nat} (hi : i < n) (h : ¬ f i = v) : fnd f v i (n - i) = fnd f v (i + 1) (n - (i + 1)) := by
  obtain ⟨d, hd⟩ : ∃ d, n - i = d + 1 := ⟨n - i - 1, by omega⟩
  rw [hd, show n - (i + 1) = d by omega]
  exact sel_f h _ _
theorem fnd_end {f : Nat → Int32} {v : Int32} {n : Nat} : fnd f v n (n - n) = -1 := by
  rw [Nat.sub_self]
  rfl
theorem fap_upd {f : Nat → Int32} {i : Nat} {x : Int32} : upd f i x i = x := if_pos rfl

set_option maxHeartbeats 4000000 in
set_option maxRecDepth 100000 in
/-- what lies at i -/
theorem metX3_at (l : Launch) {D : va_G} {k : Nat → ClassId} {ws : va_W} {q0 q1 r a n : Nat} {f : Nat → Int32} (he : ws[q0]? = some (r, .inr (3, [.ref a]))) (ha : ws[q1]? = some (a, .inl (k 0, n, .inl f))) (hn : n < 2 ^ 31) (i : Int32) : PM l yX3_at cX3_at 2 (some FieldType.int) rmX3_at D k ws [.ref r, .int i] (some (.int (rd n f i))) := by
  refine PM_of rfl (Nat.le_of_ble_eq_true rfl) ?_
  intro p e s m below meth c hC hr hlk hin hE hP ls hl
  have hC : CallFix p m c cX3_at 2 s _ lw_all RX3 := hC
  have hx := hC.1
  have hb := hC.2.1
  have hown : s.vm.findClass RX3 = some m.cls := hC.2.2.2.1
  have hts := hC.2.2.2.2
  have hl : lv_has ls 2 [(0, .ref r), (1, .int i)] := hl
  refine lv_iload_n hx hb dX3_at_0 rfl (lv_at hl 1 rfl) ?_
  refine lv_if_lt (tgt := 22) hx hb dX3_at_1 (by decide) (fun c_1 => ?_) (fun c_1 => ?_)
  · refine lv_iconst (v := (-1)) hx hb dX3_at_22 (by decide) ?_
    exact p_iret hx hb hr hlk dX3_at_23 (by rw [rd, sel_t (show i < 0 from c_1)]; first | done | rfl)
  · refine lv_iload_n hx hb dX3_at_4 rfl (lv_at hl 1 rfl) ?_
    refine lv_aload_n hx hb dX3_at_5 rfl (lv_at hl 0 rfl) ?_
    refine va_get (D := D) (ci := 3) (v := .ref a) (C := RX3) (T := TX3) (N := 1) hx hb hts tu_3 hown hE.1 hP q0 he rfl 0 (by decide) (hts _ tw_45) (fun _ h9 => h9) rfl dX3_at_6 ?_
    refine k_alen hx hb hE hP q1 ha dX3_at_9 ?_
    refine lv_icmp_ge (tgt := 22) hx hb dX3_at_10 (by decide) (fun c_2 => ?_) (fun c_2 => ?_)
    · refine lv_iconst (v := (-1)) hx hb dX3_at_22 (by decide) ?_
      exact p_iret hx hb hr hlk dX3_at_23 (by rw [rd, sel_f (show ¬ (i < 0) from c_1), sel_t (show nI n ≤ i from c_2)]; first | done | rfl)
    · refine lv_aload_n hx hb dX3_at_13 rfl (lv_at hl 0 rfl) ?_
      refine va_get (D := D) (ci := 3) (v := .ref a) (C := RX3) (T := TX3) (N := 1) hx hb hts tu_3 hown hE.1 hP q0 he rfl 0 (by decide) (hts _ tw_45) (fun _ h9 => h9) rfl dX3_at_14 ?_
      refine lv_iload_n hx hb dX3_at_17 rfl (lv_at hl 1 rfl) ?_
      refine va_iald hx hb hE.1 hP q1 0 ha rfl (row_in c_1 c_2 hn) dX3_at_18 ?_
      refine lv_goto (tgt := 23) hx hb dX3_at_19 (by decide) ?_
      exact p_iret hx hb hr hlk dX3_at_23 (by rw [rd, sel_f (show ¬ (i < 0) from c_1), sel_f (show ¬ (nI n ≤ i) from c_2)]; first | done | rfl)

set_option maxHeartbeats 4000000 in
set_option maxRecDepth 100000 in
/-- x is laid at i -/
theorem metX3_put (l : Launch) {D : va_G} {k : Nat → ClassId} {ws ws' : va_W} {q0 q1 r a n : Nat} {f : Nat → Int32} (he : ws[q0]? = some (r, .inr (3, [.ref a]))) (ha : ws[q1]? = some (a, .inl (k 0, n, .inl f))) (hn : n < 2 ^ 31) (i x : Int32) (hset : ws.set q1 (a, .inl (k 0, n, .inl (wr n f i x))) = ws') : MM l yX3_put cX3_put 3 none rmX3_put D k ws [.ref r, .int i, .int x] none ws' := by
  subst hset
  refine MM_of rfl (Nat.le_of_ble_eq_true rfl) ?_
  intro p e s m below meth c hC hr hlk hin hE hP hD hS ls hl
  have hC : CallFix p m c cX3_put 3 s _ lw_all RX3 := hC
  have hx := hC.1
  have hb := hC.2.1
  have hown : s.vm.findClass RX3 = some m.cls := hC.2.2.2.1
  have hts := hC.2.2.2.2
  have hl : lv_has ls 3 [(0, .ref r), (1, .int i), (2, .int x)] := hl
  refine lv_iload_n hx hb dX3_put_0 rfl (lv_at hl 1 rfl) ?_
  refine lv_if_lt (tgt := 20) hx hb dX3_put_1 (by decide) (fun c_1 => ?_) (fun c_1 => ?_)
  · have e9 : wr n f i x = f := by rw [wr, sel_t (show i < 0 from c_1)]; first | done | rfl
    exact m_vret hx hb hr hlk dX3_put_20 (by rw [e9]; first | exact hP | (rw [rs_0 ha]; exact hP)) hS
  · refine lv_iload_n hx hb dX3_put_4 rfl (lv_at hl 1 rfl) ?_
    refine lv_aload_n hx hb dX3_put_5 rfl (lv_at hl 0 rfl) ?_
    refine va_get (D := D) (ci := 3) (v := .ref a) (C := RX3) (T := TX3) (N := 1) hx hb hts tu_3 hown hE.1 hP q0 he rfl 0 (by decide) (hts _ tw_45) (fun _ h9 => h9) rfl dX3_put_6 ?_
    refine k_alen hx hb hE hP q1 ha dX3_put_9 ?_
    refine lv_icmp_ge (tgt := 20) hx hb dX3_put_10 (by decide) (fun c_2 => ?_) (fun c_2 => ?_)
    · have e9 : wr n f i x = f := by rw [wr, sel_f (show ¬ (i < 0) from c_1), sel_t (show nI n ≤ i from c_2)]; first | done | rfl
      exact m_vret hx hb hr hlk dX3_put_20 (by rw [e9]; first | exact hP | (rw [rs_0 ha]; exact hP)) hS
    · refine lv_aload_n hx hb dX3_put_13 rfl (lv_at hl 0 rfl) ?_
      refine va_get (D := D) (ci := 3) (v := .ref a) (C := RX3) (T := TX3) (N := 1) hx hb hts tu_3 hown hE.1 hP q0 he rfl 0 (by decide) (hts _ tw_45) (fun _ h9 => h9) rfl dX3_put_14 ?_
      refine lv_iload_n hx hb dX3_put_17 rfl (lv_at hl 1 rfl) ?_
      refine lv_iload_n hx hb dX3_put_18 rfl (lv_at hl 2 rfl) ?_
      refine va_iast hx hb hE.1 hP hD hS q1 0 ha rfl (row_in c_1 c_2 hn) dX3_put_19 (fun H locs hP hD hS => ?_)
      have hP : va_P D vwCl (ws.set q1 (a, .inl (k 0, n, .inl (upd f i.toNatClampNeg x)))) H := hP
      have hD : va_D (va_in ws) (ws.set q1 (a, .inl (k 0, n, .inl (upd f i.toNatClampNeg x)))) := hD
      have e9 : wr n f i x = upd f i.toNatClampNeg x := by rw [wr, sel_f (show ¬ (i < 0) from c_1), sel_f (show ¬ (nI n ≤ i) from c_2)]; first | done | rfl
      exact m_vret hx hb hr hlk dX3_put_20 (by rw [e9]; first | exact hP | (rw [rs_0 ha]; exact hP)) hS

set_option maxHeartbeats 4000000 in
set_option maxRecDepth 100000 in
/-- turned by one -/
theorem metX3_turn (l : Launch) {D : va_G} {k : Nat → ClassId} {ws ws' : va_W} {q0 q1 r a n : Nat} {f : Nat → Int32} (he : ws[q0]? = some (r, .inr (3, [.ref a]))) (ha : ws[q1]? = some (a, .inl (k 0, n, .inl f))) (hn : n < 2 ^ 31) (hpos : 0 < n) (hset : ws.set q1 (a, .inl (k 0, n, .inl (xturn n f))) = ws') : MM l yX3_turn cX3_turn 3 none rmX3_turn D k ws [.ref r] none ws' := by
  subst hset
  refine MM_of rfl (Nat.le_of_ble_eq_true rfl) ?_
  intro p e s m below meth c hC hr hlk hin hE hP hD hS ls hl
  have hC : CallFix p m c cX3_turn 3 s _ lw_all RX3 := hC
  have hx := hC.1
  have hb := hC.2.1
  have hown : s.vm.findClass RX3 = some m.cls := hC.2.2.2.1
  have hts := hC.2.2.2.2
  have hl : lv_has ls 3 [(0, .ref r)] := hl
  refine lv_aload_n hx hb dX3_turn_0 rfl (lv_at hl 0 rfl) ?_
  refine lv_aload_n hx hb dX3_turn_1 rfl (lv_at hl 0 rfl) ?_
  refine va_get (D := D) (ci := 3) (v := .ref a) (C := RX3) (T := TX3) (N := 1) hx hb hts tu_3 hown hE.1 hP q0 he rfl 0 (by decide) (hts _ tw_45) (fun _ h9 => h9) rfl dX3_turn_2 ?_
  refine k_alen hx hb hE hP q1 ha dX3_turn_5 ?_
  refine lv_iconst (v := 1) hx hb dX3_turn_6 (by decide) ?_
  refine lv_isub hx hb dX3_turn_7 ?_
  refine w_top (isub1 hpos) ?_
  refine c_pVi (rest := []) hC hE hP (metX3_at l he ha hn (nI (n - 1))) gc_RX3_33 hd_X3_at ⟨rfl, rfl⟩ ⟨Nat.le_of_ble_eq_true rfl, Nat.le_of_ble_eq_true rfl⟩ q0 he rfl rfl hl.1 (Nat.le_of_ble_eq_true rfl) ⟨Nat.le_of_ble_eq_true rfl, Nat.le_of_ble_eq_true rfl⟩ dX3_turn_8 ?_
  refine w_top (rd_n (n := n) (j := (n - 1)) (by omega) hn) ?_
  refine lv_istore_n (lv' := [(1, .int (f (n - 1))), (0, .ref r)]) hx hb dX3_turn_11 rfl hl (by decide) rfl (fun ls hl => ?_)
  refine lv_aload_n hx hb dX3_turn_12 rfl (lv_at hl 1 rfl) ?_
  refine va_get (D := D) (ci := 3) (v := .ref a) (C := RX3) (T := TX3) (N := 1) hx hb hts tu_3 hown hE.1 hP q0 he rfl 0 (by decide) (hts _ tw_45) (fun _ h9 => h9) rfl dX3_turn_13 ?_
  refine k_alen hx hb hE hP q1 ha dX3_turn_16 ?_
  refine lv_iconst (v := 1) hx hb dX3_turn_17 (by decide) ?_
  refine lv_isub hx hb dX3_turn_18 ?_
  refine w_top (isub1 hpos) ?_
  refine lv_istore_n (lv' := [(2, .int (nI (n - 1))), (1, .int (f (n - 1))), (0, .ref r)]) hx hb dX3_turn_19 rfl hl (by decide) rfl (fun ls hl => ?_)
  have hP : va_P D vwCl (ws.set q1 (a, .inl (k 0, n, .inl (xtG n f 0)))) s.heap := by rw [xtG_0, rs_0 ha]; exact hP
  have hD : va_D (va_in ws) (ws.set q1 (a, .inl (k 0, n, .inl (xtG n f 0)))) := by rw [xtG_0, rs_0 ha]; exact hD
  refine w_forM (N := n - 1) (fun _ => True) (fun i => [(0, .ref r), (1, .int (f (n - 1))), (2, .int (nI (n - 1 - i)))]) (fun i => (ws.set q1 (a, .inl (k 0, n, .inl (xtG n f i))))) (fun ls H locs hI hl hP hD hS => ?_) (fun i hi hI ih ls H locs hl hP hD hS => ?_) 0 (Nat.zero_le _) trivial (lv_sub hl [2, 1, 0] rfl) hP hD hS
  · have hl : lv_has ls 3 [(0, .ref r), (1, .int (f (n - 1))), (2, .int (nI (n - 1 - (n - 1))))] := hl
    have hP : va_P D vwCl (ws.set q1 (a, .inl (k 0, n, .inl (xtG n f (n - 1))))) H := hP
    have hD : va_D (va_in ws) (ws.set q1 (a, .inl (k 0, n, .inl (xtG n f (n - 1))))) := hD
    refine lv_iload_n hx hb dX3_turn_20 rfl (lv_at hl 2 rfl) ?_
    refine lv_if_le (tgt := 42) hx hb dX3_turn_21 (by decide) (fun c_1 => ?_) (fun c_ => absurd (by rw [Nat.sub_self]; decide) c_)
    refine lv_aload_n hx hb dX3_turn_42 rfl (lv_at hl 0 rfl) ?_
    refine lv_iconst (v := 0) hx hb dX3_turn_43 (by decide) ?_
    refine lv_iload_n hx hb dX3_turn_44 rfl (lv_at hl 1 rfl) ?_
    refine c_mVv (rest := []) hC hE hP hD hS (by rw [set_same ha, set_same ha]) (metX3_put l (ws' := (ws.set q1 (a, .inl (k 0, n, .inl (upd (xtG n f (n - 1)) 0 (f (n - 1))))))) (rs_n he ha) (rs_a ha) hn 0 (f (n - 1)) (by rw [show wr n (xtG n f (n - 1)) 0 (f (n - 1)) = upd (xtG n f (n - 1)) 0 (f (n - 1)) from wr_n (j := 0) hpos hn]; exact rs_s)) gc_RX3_37 hd_X3_put ⟨rfl, rfl⟩ ⟨Nat.le_of_ble_eq_true rfl, Nat.le_of_ble_eq_true rfl⟩ q0 (rs_n he ha) rfl rfl hl.1 (Nat.le_of_ble_eq_true rfl) ⟨Nat.le_of_ble_eq_true rfl, Nat.le_of_ble_eq_true rfl⟩ dX3_turn_45 (fun H locs hP hD hS => ?_)
    rw [xtG_e hpos] at hP
    exact m_vret hx hb hr hlk dX3_turn_48 hP hS
  · have hl : lv_has ls 3 [(0, .ref r), (1, .int (f (n - 1))), (2, .int (nI (n - 1 - i)))] := hl
    have hP : va_P D vwCl (ws.set q1 (a, .inl (k 0, n, .inl (xtG n f i)))) H := hP
    have hD : va_D (va_in ws) (ws.set q1 (a, .inl (k 0, n, .inl (xtG n f i)))) := hD
    refine lv_iload_n hx hb dX3_turn_20 rfl (lv_at hl 2 rfl) ?_
    refine lv_if_le (tgt := 42) hx hb dX3_turn_21 (by decide) (fun c_ => absurd c_ (nI_nle (by omega) (by omega))) (fun c_2 => ?_)
    refine lv_aload_n hx hb dX3_turn_24 rfl (lv_at hl 0 rfl) ?_
    refine lv_iload_n hx hb dX3_turn_25 rfl (lv_at hl 2 rfl) ?_
    refine lv_aload_n hx hb dX3_turn_26 rfl (lv_at hl 0 rfl) ?_
    refine lv_iload_n hx hb dX3_turn_27 rfl (lv_at hl 2 rfl) ?_
    refine lv_iconst (v := 1) hx hb dX3_turn_28 (by decide) ?_
    refine lv_isub hx hb dX3_turn_29 ?_
    refine w_top (isub1 (by omega)) ?_
    refine c_pVi (rest := [.int (nI (n - 1 - i)), .ref r]) hC hE hP (metX3_at l (rs_n he ha) (rs_a ha) hn (nI (n - 1 - i - 1))) gc_RX3_33 hd_X3_at ⟨rfl, rfl⟩ ⟨Nat.le_of_ble_eq_true rfl, Nat.le_of_ble_eq_true rfl⟩ q0 (rs_n he ha) rfl rfl hl.1 (Nat.le_of_ble_eq_true rfl) ⟨Nat.le_of_ble_eq_true rfl, Nat.le_of_ble_eq_true rfl⟩ dX3_turn_30 ?_
    refine w_top (rd_n (n := n) (j := (n - 1 - i - 1)) (by omega) hn) ?_
    refine c_mVv (rest := []) hC hE hP hD hS (by rw [set_same ha, set_same ha]) (metX3_put l (ws' := (ws.set q1 (a, .inl (k 0, n, .inl (upd (xtG n f i) (n - 1 - i) ((xtG n f i) (n - 1 - i - 1))))))) (rs_n he ha) (rs_a ha) hn (nI (n - 1 - i)) ((xtG n f i) (n - 1 - i - 1)) (by rw [show wr n (xtG n f i) (nI (n - 1 - i)) ((xtG n f i) (n - 1 - i - 1)) = upd (xtG n f i) (n - 1 - i) ((xtG n f i) (n - 1 - i - 1)) from wr_n (j := (n - 1 - i)) (by omega) hn]; exact rs_s)) gc_RX3_37 hd_X3_put ⟨rfl, rfl⟩ ⟨Nat.le_of_ble_eq_true rfl, Nat.le_of_ble_eq_true rfl⟩ q0 (rs_n he ha) rfl rfl hl.1 (Nat.le_of_ble_eq_true rfl) ⟨Nat.le_of_ble_eq_true rfl, Nat.le_of_ble_eq_true rfl⟩ dX3_turn_33 (fun H locs hP hD hS => ?_)
    refine lv_iinc (v := nI (n - 1 - (i + 1))) (lv' := [(2, .int (nI (n - 1 - (i + 1)))), (0, .ref r), (1, .int (f (n - 1)))]) hx hb dX3_turn_36 hl (k := 2) rfl (by rw [show n - 1 - (i + 1) = n - 1 - i - 1 from by omega]; exact idec (by omega)) (by decide) rfl (fun ls hl => ?_)
    refine lv_goto (tgt := 20) hx hb dX3_turn_39 (by decide) ?_
    have e9 : xtG n f (i + 1) = (upd (xtG n f i) (n - 1 - i) ((xtG n f i) (n - 1 - i - 1))) := xtG_s hi
    exact ih ls H locs trivial (lv_sub hl [1, 2, 0] rfl) (by show va_P D vwCl (ws.set q1 (a, .inl (k 0, n, .inl (xtG n f (i + 1))))) H; rw [e9]; exact hP) (by show va_D (va_in ws) (ws.set q1 (a, .inl (k 0, n, .inl (xtG n f (i + 1))))); rw [e9]; exact hD) hS

set_option maxHeartbeats 4000000 in
set_option maxRecDepth 100000 in
/-- the front one -/
theorem metX3_takeFront (l : Launch) {D : va_G} {k : Nat → ClassId} {ws ws' : va_W} {q0 q1 r a n : Nat} {f : Nat → Int32} (he : ws[q0]? = some (r, .inr (3, [.ref a]))) (ha : ws[q1]? = some (a, .inl (k 0, n, .inl f))) (hn : n < 2 ^ 31) (hpos : 0 < n) (hset : ws.set q1 (a, .inl (k 0, n, .inl (xfront n f))) = ws') : MM l yX3_takeFront cX3_takeFront 3 (some FieldType.int) rmX3_takeFront D k ws [.ref r] (some (.int (f 0))) ws' := by
  subst hset
  refine MM_of rfl (Nat.le_of_ble_eq_true rfl) ?_
  intro p e s m below meth c hC hr hlk hin hE hP hD hS ls hl
  have hC : CallFix p m c cX3_takeFront 3 s _ lw_all RX3 := hC
  have hx := hC.1
  have hb := hC.2.1
  have hown : s.vm.findClass RX3 = some m.cls := hC.2.2.2.1
  have hts := hC.2.2.2.2
  have hl : lv_has ls 3 [(0, .ref r)] := hl
  refine lv_aload_n hx hb dX3_takeFront_0 rfl (lv_at hl 0 rfl) ?_
  refine lv_iconst (v := 0) hx hb dX3_takeFront_1 (by decide) ?_
  refine c_pVi (rest := []) hC hE hP (metX3_at l he ha hn 0) gc_RX3_33 hd_X3_at ⟨rfl, rfl⟩ ⟨Nat.le_of_ble_eq_true rfl, Nat.le_of_ble_eq_true rfl⟩ q0 he rfl rfl hl.1 (Nat.le_of_ble_eq_true rfl) ⟨Nat.le_of_ble_eq_true rfl, Nat.le_of_ble_eq_true rfl⟩ dX3_takeFront_2 ?_
  refine w_top (rd_n (n := n) (j := 0) hpos hn) ?_
  refine lv_istore_n (lv' := [(1, .int (f 0)), (0, .ref r)]) hx hb dX3_takeFront_5 rfl hl (by decide) rfl (fun ls hl => ?_)
  refine lv_iconst (v := 1) hx hb dX3_takeFront_6 (by decide) ?_
  refine lv_istore_n (lv' := [(2, .int 1), (1, .int (f 0)), (0, .ref r)]) hx hb dX3_takeFront_7 rfl hl (by decide) rfl (fun ls hl => ?_)
  have hP : va_P D vwCl (ws.set q1 (a, .inl (k 0, n, .inl (xfG f 0)))) s.heap := by rw [xfG_0, rs_0 ha]; exact hP
  have hD : va_D (va_in ws) (ws.set q1 (a, .inl (k 0, n, .inl (xfG f 0)))) := by rw [xfG_0, rs_0 ha]; exact hD
  refine w_forM (N := n - 1) (fun _ => True) (fun i => [(0, .ref r), (1, .int (f 0)), (2, .int (nI (i + 1)))]) (fun i => (ws.set q1 (a, .inl (k 0, n, .inl (xfG f i))))) (fun ls H locs hI hl hP hD hS => ?_) (fun i hi hI ih ls H locs hl hP hD hS => ?_) 0 (Nat.zero_le _) trivial (lv_sub hl [2, 1, 0] rfl) hP hD hS
  · have hl : lv_has ls 3 [(0, .ref r), (1, .int (f 0)), (2, .int (nI ((n - 1) + 1)))] := hl
    have hP : va_P D vwCl (ws.set q1 (a, .inl (k 0, n, .inl (xfG f (n - 1))))) H := hP
    have hD : va_D (va_in ws) (ws.set q1 (a, .inl (k 0, n, .inl (xfG f (n - 1))))) := hD
    refine lv_iload_n hx hb dX3_takeFront_8 rfl (lv_at hl 2 rfl) ?_
    refine lv_aload_n hx hb dX3_takeFront_9 rfl (lv_at hl 0 rfl) ?_
    refine va_get (D := D) (ci := 3) (v := .ref a) (C := RX3) (T := TX3) (N := 1) hx hb hts tu_3 hown hE.1 hP q0 (rs_n he ha) rfl 0 (by decide) (hts _ tw_45) (fun _ h9 => h9) rfl dX3_takeFront_10 ?_
    refine k_alen hx hb hE hP q1 (rs_a ha) dX3_takeFront_13 ?_
    refine lv_icmp_ge (tgt := 35) hx hb dX3_takeFront_14 (by decide) (fun c_1 => ?_) (fun c_ => absurd (nI_le (by omega) (by omega)) c_)
    refine lv_aload_n hx hb dX3_takeFront_35 rfl (lv_at hl 0 rfl) ?_
    refine lv_aload_n hx hb dX3_takeFront_36 rfl (lv_at hl 0 rfl) ?_
    refine va_get (D := D) (ci := 3) (v := .ref a) (C := RX3) (T := TX3) (N := 1) hx hb hts tu_3 hown hE.1 hP q0 (rs_n he ha) rfl 0 (by decide) (hts _ tw_45) (fun _ h9 => h9) rfl dX3_takeFront_37 ?_
    refine k_alen hx hb hE hP q1 (rs_a ha) dX3_takeFront_40 ?_
    refine lv_iconst (v := 1) hx hb dX3_takeFront_41 (by decide) ?_
    refine lv_isub hx hb dX3_takeFront_42 ?_
    refine w_top (isub1 hpos) ?_
    refine lv_iconst (v := (-1)) hx hb dX3_takeFront_43 (by decide) ?_
    refine c_mVv (rest := []) hC hE hP hD hS (by rw [set_same ha, set_same ha]) (metX3_put l (ws' := (ws.set q1 (a, .inl (k 0, n, .inl (upd (xfG f (n - 1)) (n - 1) (-1)))))) (rs_n he ha) (rs_a ha) hn (nI (n - 1)) (-1) (by rw [show wr n (xfG f (n - 1)) (nI (n - 1)) (-1) = upd (xfG f (n - 1)) (n - 1) (-1) from wr_n (j := (n - 1)) (by omega) hn]; exact rs_s)) gc_RX3_37 hd_X3_put ⟨rfl, rfl⟩ ⟨Nat.le_of_ble_eq_true rfl, Nat.le_of_ble_eq_true rfl⟩ q0 (rs_n he ha) rfl rfl hl.1 (Nat.le_of_ble_eq_true rfl) ⟨Nat.le_of_ble_eq_true rfl, Nat.le_of_ble_eq_true rfl⟩ dX3_takeFront_44 (fun H locs hP hD hS => ?_)
    refine lv_iload_n hx hb dX3_takeFront_47 rfl (lv_at hl 1 rfl) ?_
    rw [xfG_e hpos] at hP
    exact m_iret hx hb hr hlk dX3_takeFront_48 hP hS (rfl)
  · have hl : lv_has ls 3 [(0, .ref r), (1, .int (f 0)), (2, .int (nI (i + 1)))] := hl
    have hP : va_P D vwCl (ws.set q1 (a, .inl (k 0, n, .inl (xfG f i)))) H := hP
    have hD : va_D (va_in ws) (ws.set q1 (a, .inl (k 0, n, .inl (xfG f i)))) := hD
    refine lv_iload_n hx hb dX3_takeFront_8 rfl (lv_at hl 2 rfl) ?_
    refine lv_aload_n hx hb dX3_takeFront_9 rfl (lv_at hl 0 rfl) ?_
    refine va_get (D := D) (ci := 3) (v := .ref a) (C := RX3) (T := TX3) (N := 1) hx hb hts tu_3 hown hE.1 hP q0 (rs_n he ha) rfl 0 (by decide) (hts _ tw_45) (fun _ h9 => h9) rfl dX3_takeFront_10 ?_
    refine k_alen hx hb hE hP q1 (rs_a ha) dX3_takeFront_13 ?_
    refine lv_icmp_ge (tgt := 35) hx hb dX3_takeFront_14 (by decide) (fun c_ => absurd c_ (nI_ge (by omega) hn)) (fun c_2 => ?_)
    refine lv_aload_n hx hb dX3_takeFront_17 rfl (lv_at hl 0 rfl) ?_
    refine lv_iload_n hx hb dX3_takeFront_18 rfl (lv_at hl 2 rfl) ?_
    refine lv_iconst (v := 1) hx hb dX3_takeFront_19 (by decide) ?_
    refine lv_isub hx hb dX3_takeFront_20 ?_
    refine w_top (isub1 (Nat.succ_pos i)) ?_
    refine lv_aload_n hx hb dX3_takeFront_21 rfl (lv_at hl 0 rfl) ?_
    refine lv_iload_n hx hb dX3_takeFront_22 rfl (lv_at hl 2 rfl) ?_
    refine c_pVi (rest := [.int (nI i), .ref r]) hC hE hP (metX3_at l (rs_n he ha) (rs_a ha) hn (nI (i + 1))) gc_RX3_33 hd_X3_at ⟨rfl, rfl⟩ ⟨Nat.le_of_ble_eq_true rfl, Nat.le_of_ble_eq_true rfl⟩ q0 (rs_n he ha) rfl rfl hl.1 (Nat.le_of_ble_eq_true rfl) ⟨Nat.le_of_ble_eq_true rfl, Nat.le_of_ble_eq_true rfl⟩ dX3_takeFront_23 ?_
    refine w_top (rd_n (n := n) (j := (i + 1)) (by omega) hn) ?_
    refine c_mVv (rest := []) hC hE hP hD hS (by rw [set_same ha, set_same ha]) (metX3_put l (ws' := (ws.set q1 (a, .inl (k 0, n, .inl (upd (xfG f i) i ((xfG f i) (i + 1))))))) (rs_n he ha) (rs_a ha) hn (nI i) ((xfG f i) (i + 1)) (by rw [show wr n (xfG f i) (nI i) ((xfG f i) (i + 1)) = upd (xfG f i) i ((xfG f i) (i + 1)) from wr_n (j := i) (by omega) hn]; exact rs_s)) gc_RX3_37 hd_X3_put ⟨rfl, rfl⟩ ⟨Nat.le_of_ble_eq_true rfl, Nat.le_of_ble_eq_true rfl⟩ q0 (rs_n he ha) rfl rfl hl.1 (Nat.le_of_ble_eq_true rfl) ⟨Nat.le_of_ble_eq_true rfl, Nat.le_of_ble_eq_true rfl⟩ dX3_takeFront_26 (fun H locs hP hD hS => ?_)
    refine lv_iinc (v := nI ((i + 1) + 1)) (lv' := [(2, .int (nI ((i + 1) + 1))), (0, .ref r), (1, .int (f 0))]) hx hb dX3_takeFront_29 hl (k := 2) rfl (iinc1 _) (by decide) rfl (fun ls hl => ?_)
    refine lv_goto (tgt := 8) hx hb dX3_takeFront_32 (by decide) ?_
    have e9 : xfG f (i + 1) = (upd (xfG f i) i ((xfG f i) (i + 1))) := xfG_s
    exact ih ls H locs trivial (lv_sub hl [1, 2, 0] rfl) (by show va_P D vwCl (ws.set q1 (a, .inl (k 0, n, .inl (xfG f (i + 1))))) H; rw [e9]; exact hP) (by show va_D (va_in ws) (ws.set q1 (a, .inl (k 0, n, .inl (xfG f (i + 1))))); rw [e9]; exact hD) hS

set_option maxHeartbeats 4000000 in
set_option maxRecDepth 100000 in
/-- how many places hold v -/
theorem metX3_count (l : Launch) {D : va_G} {k : Nat → ClassId} {ws : va_W} {q0 q1 r a n : Nat} {f : Nat → Int32} (he : ws[q0]? = some (r, .inr (3, [.ref a]))) (ha : ws[q1]? = some (a, .inl (k 0, n, .inl f))) (hn : n < 2 ^ 31) (v : Int32) : PM l yX3_count cX3_count 7 (some FieldType.int) rmX3_count D k ws [.ref r, .int v] (some (.int (nI (ct (fun j_ => f j_ = v) n)))) := by
  refine PM_of rfl (Nat.le_of_ble_eq_true rfl) ?_
  intro p e s m below meth c hC hr hlk hin hE hP ls hl
  have hC : CallFix p m c cX3_count 7 s _ lw_all RX3 := hC
  have hx := hC.1
  have hb := hC.2.1
  have hown : s.vm.findClass RX3 = some m.cls := hC.2.2.2.1
  have hts := hC.2.2.2.2
  have hl : lv_has ls 7 [(0, .ref r), (1, .int v)] := hl
  refine lv_iconst (v := 0) hx hb dX3_count_0 (by decide) ?_
  refine lv_istore_n (lv' := [(2, .int 0), (0, .ref r), (1, .int v)]) hx hb dX3_count_1 rfl hl (by decide) rfl (fun ls hl => ?_)
  refine lv_aload_n hx hb dX3_count_2 rfl (lv_at hl 1 rfl) ?_
  refine va_get (D := D) (ci := 3) (v := .ref a) (C := RX3) (T := TX3) (N := 1) hx hb hts tu_3 hown hE.1 hP q0 he rfl 0 (by decide) (hts _ tw_45) (fun _ h9 => h9) rfl dX3_count_3 ?_
  refine lv_astore_n (lv' := [(3, .ref a), (2, .int 0), (0, .ref r), (1, .int v)]) hx hb dX3_count_6 rfl hl (by decide) rfl (fun ls hl => ?_)
  refine lv_aload_n hx hb dX3_count_7 rfl (lv_at hl 0 rfl) ?_
  refine k_alen hx hb hE hP q1 ha dX3_count_8 ?_
  refine lv_istore (lv' := [(4, .int (nI n)), (3, .ref a), (2, .int 0), (0, .ref r), (1, .int v)]) hx hb dX3_count_9 hl (by decide) rfl (fun ls hl => ?_)
  refine lv_iconst (v := 0) hx hb dX3_count_11 (by decide) ?_
  refine lv_istore (lv' := [(5, .int 0), (4, .int (nI n)), (3, .ref a), (2, .int 0), (0, .ref r), (1, .int v)]) hx hb dX3_count_12 hl (by decide) rfl (fun ls hl => ?_)
  refine w_for (N := n) (fun _ => True) (fun i => [(0, .ref r), (1, .int v), (2, .int (nI (ct (fun j_ => f j_ = v) i))), (3, .ref a), (4, .int (nI n)), (5, .int (nI i))]) (fun ls hI hl => ?_) (fun i hi hI ih ls hl => ?_) 0 (Nat.zero_le _) trivial (lv_sub hl [4, 5, 3, 2, 1, 0] rfl)
  · have hl : lv_has ls 7 [(0, .ref r), (1, .int v), (2, .int (nI (ct (fun j_ => f j_ = v) n))), (3, .ref a), (4, .int (nI n)), (5, .int (nI n))] := hl
    refine lv_iload hx hb dX3_count_14 (lv_at hl 5 rfl) ?_
    refine lv_iload hx hb dX3_count_16 (lv_at hl 4 rfl) ?_
    refine lv_icmp_ge (tgt := 42) hx hb dX3_count_18 (by decide) (fun c_1 => ?_) (fun c_ => absurd (nI_le (Nat.le_refl n) hn) c_)
    refine lv_iload_n hx hb dX3_count_42 rfl (lv_at hl 2 rfl) ?_
    exact p_iret hx hb hr hlk dX3_count_43 (rfl)
  · have hl : lv_has ls 7 [(0, .ref r), (1, .int v), (2, .int (nI (ct (fun j_ => f j_ = v) i))), (3, .ref a), (4, .int (nI n)), (5, .int (nI i))] := hl
    refine lv_iload hx hb dX3_count_14 (lv_at hl 5 rfl) ?_
    refine lv_iload hx hb dX3_count_16 (lv_at hl 4 rfl) ?_
    refine lv_icmp_ge (tgt := 42) hx hb dX3_count_18 (by decide) (fun c_ => absurd c_ (nI_ge hi hn)) (fun c_2 => ?_)
    refine lv_aload_n hx hb dX3_count_21 rfl (lv_at hl 3 rfl) ?_
    refine lv_iload hx hb dX3_count_22 (lv_at hl 5 rfl) ?_
    refine k_iald (j := i) hx hb hE hP q1 ha hi hn dX3_count_24 ?_
    refine lv_istore (lv' := [(6, .int (f i)), (0, .ref r), (1, .int v), (2, .int (nI (ct (fun j_ => f j_ = v) i))), (3, .ref a), (4, .int (nI n)), (5, .int (nI i))]) hx hb dX3_count_25 hl (by decide) rfl (fun ls hl => ?_)
    refine lv_iload hx hb dX3_count_27 (lv_at hl 0 rfl) ?_
    refine lv_iload_n hx hb dX3_count_29 rfl (lv_at hl 2 rfl) ?_
    refine lv_icmp_ne (tgt := 36) hx hb dX3_count_30 (by decide) (fun c_3 => ?_) (fun c_3 => ?_)
    · refine lv_iinc (v := nI (i + 1)) (lv' := [(5, .int (nI (i + 1))), (6, .int (f i)), (0, .ref r), (1, .int v), (2, .int (nI (ct (fun j_ => f j_ = v) i))), (3, .ref a), (4, .int (nI n))]) hx hb dX3_count_36 hl (k := 6) rfl (iinc1 _) (by decide) rfl (fun ls hl => ?_)
      refine lv_goto (tgt := 14) hx hb dX3_count_39 (by decide) ?_
      have e9 : ct (fun j_ => f j_ = v) (i + 1) = ct (fun j_ => f j_ = v) i := ct_f (p := (fun j_ => f j_ = v)) c_3
      exact ih ls trivial (by show lv_has ls 7 [(0, .ref r), (1, .int v), (2, .int (nI (ct (fun j_ => f j_ = v) (i + 1)))), (3, .ref a), (4, .int (nI n)), (5, .int (nI (i + 1)))]; rw [e9]; exact lv_sub hl [2, 3, 4, 5, 6, 0] rfl)
    · refine lv_iinc (v := nI ((ct (fun j_ => f j_ = v) i) + 1)) (lv' := [(2, .int (nI ((ct (fun j_ => f j_ = v) i) + 1))), (6, .int (f i)), (0, .ref r), (1, .int v), (3, .ref a), (4, .int (nI n)), (5, .int (nI i))]) hx hb dX3_count_33 hl (k := 3) rfl (iinc1 _) (by decide) rfl (fun ls hl => ?_)
      refine lv_iinc (v := nI (i + 1)) (lv' := [(5, .int (nI (i + 1))), (2, .int (nI ((ct (fun j_ => f j_ = v) i) + 1))), (6, .int (f i)), (0, .ref r), (1, .int v), (3, .ref a), (4, .int (nI n))]) hx hb dX3_count_36 hl (k := 6) rfl (iinc1 _) (by decide) rfl (fun ls hl => ?_)
      refine lv_goto (tgt := 14) hx hb dX3_count_39 (by decide) ?_
      have e9 : ct (fun j_ => f j_ = v) (i + 1) = ct (fun j_ => f j_ = v) i + 1 := ct_t (p := (fun j_ => f j_ = v)) c_3
      exact ih ls trivial (by show lv_has ls 7 [(0, .ref r), (1, .int v), (2, .int (nI (ct (fun j_ => f j_ = v) (i + 1)))), (3, .ref a), (4, .int (nI n)), (5, .int (nI (i + 1)))]; rw [e9]; exact lv_sub hl [3, 4, 1, 5, 6, 0] rfl)

set_option maxHeartbeats 4000000 in
set_option maxRecDepth 100000 in
/-- the sum -/
theorem metX3_sum (l : Launch) {D : va_G} {k : Nat → ClassId} {ws : va_W} {q0 q1 r a n : Nat} {f : Nat → Int32} (he : ws[q0]? = some (r, .inr (3, [.ref a]))) (ha : ws[q1]? = some (a, .inl (k 0, n, .inl f))) (hn : n < 2 ^ 31) : PM l yX3_sum cX3_sum 6 (some FieldType.int) rmX3_sum D k ws [.ref r] (some (.int (sm f n))) := by
  refine PM_of rfl (Nat.le_of_ble_eq_true rfl) ?_
  intro p e s m below meth c hC hr hlk hin hE hP ls hl
  have hC : CallFix p m c cX3_sum 6 s _ lw_all RX3 := hC
  have hx := hC.1
  have hb := hC.2.1
  have hown : s.vm.findClass RX3 = some m.cls := hC.2.2.2.1
  have hts := hC.2.2.2.2
  have hl : lv_has ls 6 [(0, .ref r)] := hl
  refine lv_iconst (v := 0) hx hb dX3_sum_0 (by decide) ?_
  refine lv_istore_n (lv' := [(1, .int 0), (0, .ref r)]) hx hb dX3_sum_1 rfl hl (by decide) rfl (fun ls hl => ?_)
  refine lv_aload_n hx hb dX3_sum_2 rfl (lv_at hl 1 rfl) ?_
  refine va_get (D := D) (ci := 3) (v := .ref a) (C := RX3) (T := TX3) (N := 1) hx hb hts tu_3 hown hE.1 hP q0 he rfl 0 (by decide) (hts _ tw_45) (fun _ h9 => h9) rfl dX3_sum_3 ?_
  refine lv_astore_n (lv' := [(2, .ref a), (1, .int 0), (0, .ref r)]) hx hb dX3_sum_6 rfl hl (by decide) rfl (fun ls hl => ?_)
  refine lv_aload_n hx hb dX3_sum_7 rfl (lv_at hl 0 rfl) ?_
  refine k_alen hx hb hE hP q1 ha dX3_sum_8 ?_
  refine lv_istore_n (lv' := [(3, .int (nI n)), (2, .ref a), (1, .int 0), (0, .ref r)]) hx hb dX3_sum_9 rfl hl (by decide) rfl (fun ls hl => ?_)
  refine lv_iconst (v := 0) hx hb dX3_sum_10 (by decide) ?_
  refine lv_istore (lv' := [(4, .int 0), (3, .int (nI n)), (2, .ref a), (1, .int 0), (0, .ref r)]) hx hb dX3_sum_11 hl (by decide) rfl (fun ls hl => ?_)
  refine w_for (N := n) (fun _ => True) (fun i => [(0, .ref r), (1, .int (sm f i)), (2, .ref a), (3, .int (nI n)), (4, .int (nI i))]) (fun ls hI hl => ?_) (fun i hi hI ih ls hl => ?_) 0 (Nat.zero_le _) trivial (lv_sub hl [4, 3, 2, 1, 0] rfl)
  · have hl : lv_has ls 6 [(0, .ref r), (1, .int (sm f n)), (2, .ref a), (3, .int (nI n)), (4, .int (nI n))] := hl
    refine lv_iload hx hb dX3_sum_13 (lv_at hl 4 rfl) ?_
    refine lv_iload_n hx hb dX3_sum_15 rfl (lv_at hl 3 rfl) ?_
    refine lv_icmp_ge (tgt := 36) hx hb dX3_sum_16 (by decide) (fun c_1 => ?_) (fun c_ => absurd (nI_le (Nat.le_refl n) hn) c_)
    refine lv_iload_n hx hb dX3_sum_36 rfl (lv_at hl 1 rfl) ?_
    exact p_iret hx hb hr hlk dX3_sum_37 (rfl)
  · have hl : lv_has ls 6 [(0, .ref r), (1, .int (sm f i)), (2, .ref a), (3, .int (nI n)), (4, .int (nI i))] := hl
    refine lv_iload hx hb dX3_sum_13 (lv_at hl 4 rfl) ?_
    refine lv_iload_n hx hb dX3_sum_15 rfl (lv_at hl 3 rfl) ?_
    refine lv_icmp_ge (tgt := 36) hx hb dX3_sum_16 (by decide) (fun c_ => absurd c_ (nI_ge hi hn)) (fun c_2 => ?_)
    refine lv_aload_n hx hb dX3_sum_19 rfl (lv_at hl 2 rfl) ?_
    refine lv_iload hx hb dX3_sum_20 (lv_at hl 4 rfl) ?_
    refine k_iald (j := i) hx hb hE hP q1 ha hi hn dX3_sum_22 ?_
    refine lv_istore (lv' := [(5, .int (f i)), (0, .ref r), (1, .int (sm f i)), (2, .ref a), (3, .int (nI n)), (4, .int (nI i))]) hx hb dX3_sum_23 hl (by decide) rfl (fun ls hl => ?_)
    refine lv_iload_n hx hb dX3_sum_25 rfl (lv_at hl 2 rfl) ?_
    refine lv_iload hx hb dX3_sum_26 (lv_at hl 0 rfl) ?_
    refine lv_iadd hx hb dX3_sum_28 ?_
    refine lv_istore_n (lv' := [(1, .int ((sm f i) + (f i))), (5, .int (f i)), (0, .ref r), (2, .ref a), (3, .int (nI n)), (4, .int (nI i))]) hx hb dX3_sum_29 rfl hl (by decide) rfl (fun ls hl => ?_)
    refine lv_iinc (v := nI (i + 1)) (lv' := [(4, .int (nI (i + 1))), (1, .int ((sm f i) + (f i))), (5, .int (f i)), (0, .ref r), (2, .ref a), (3, .int (nI n))]) hx hb dX3_sum_30 hl (k := 5) rfl (iinc1 _) (by decide) rfl (fun ls hl => ?_)
    refine lv_goto (tgt := 13) hx hb dX3_sum_33 (by decide) ?_
    exact ih ls trivial (lv_sub hl [3, 1, 4, 5, 0] rfl)

set_option maxHeartbeats 4000000 in
set_option maxRecDepth 100000 in
/-- the first place that holds v -/
theorem metX3_find (l : Launch) {D : va_G} {k : Nat → ClassId} {ws : va_W} {q0 q1 r a n : Nat} {f : Nat → Int32} (he : ws[q0]? = some (r, .inr (3, [.ref a]))) (ha : ws[q1]? = some (a, .inl (k 0, n, .inl f))) (hn : n < 2 ^ 31) (v : Int32) : PM l yX3_find cX3_find 3 (some FieldType.int) rmX3_find D k ws [.ref r, .int v] (some (.int (fnd f v 0 n))) := by
  refine PM_of rfl (Nat.le_of_ble_eq_true rfl) ?_
  intro p e s m below meth c hC hr hlk hin hE hP ls hl
  have hC : CallFix p m c cX3_find 3 s _ lw_all RX3 := hC
  have hx := hC.1
  have hb := hC.2.1
  have hown : s.vm.findClass RX3 = some m.cls := hC.2.2.2.1
  have hts := hC.2.2.2.2
  have hl : lv_has ls 3 [(0, .ref r), (1, .int v)] := hl
  refine lv_iconst (v := 0) hx hb dX3_find_0 (by decide) ?_
  refine lv_istore_n (lv' := [(2, .int 0), (0, .ref r), (1, .int v)]) hx hb dX3_find_1 rfl hl (by decide) rfl (fun ls hl => ?_)
  refine w_for (N := n) (fun i => fnd f v 0 n = fnd f v i (n - i)) (fun i => [(0, .ref r), (1, .int v), (2, .int (nI i))]) (fun ls hI hl => ?_) (fun i hi hI ih ls hl => ?_) 0 (Nat.zero_le _) rfl (lv_sub hl [1, 2, 0] rfl)
  · have hl : lv_has ls 3 [(0, .ref r), (1, .int v), (2, .int (nI n))] := hl
    have hI : fnd f v 0 n = fnd f v n (n - n) := hI
    refine lv_iload_n hx hb dX3_find_2 rfl (lv_at hl 2 rfl) ?_
    refine lv_aload_n hx hb dX3_find_3 rfl (lv_at hl 0 rfl) ?_
    refine va_get (D := D) (ci := 3) (v := .ref a) (C := RX3) (T := TX3) (N := 1) hx hb hts tu_3 hown hE.1 hP q0 he rfl 0 (by decide) (hts _ tw_45) (fun _ h9 => h9) rfl dX3_find_4 ?_
    refine k_alen hx hb hE hP q1 ha dX3_find_7 ?_
    refine lv_icmp_ge (tgt := 29) hx hb dX3_find_8 (by decide) (fun c_1 => ?_) (fun c_ => absurd (nI_le (Nat.le_refl n) hn) c_)
    refine lv_iconst (v := (-1)) hx hb dX3_find_29 (by decide) ?_
    exact p_iret hx hb hr hlk dX3_find_30 (hI.trans fnd_end)
  · have hl : lv_has ls 3 [(0, .ref r), (1, .int v), (2, .int (nI i))] := hl
    have hI : fnd f v 0 n = fnd f v i (n - i) := hI
    refine lv_iload_n hx hb dX3_find_2 rfl (lv_at hl 2 rfl) ?_
    refine lv_aload_n hx hb dX3_find_3 rfl (lv_at hl 0 rfl) ?_
    refine va_get (D := D) (ci := 3) (v := .ref a) (C := RX3) (T := TX3) (N := 1) hx hb hts tu_3 hown hE.1 hP q0 he rfl 0 (by decide) (hts _ tw_45) (fun _ h9 => h9) rfl dX3_find_4 ?_
    refine k_alen hx hb hE hP q1 ha dX3_find_7 ?_
    refine lv_icmp_ge (tgt := 29) hx hb dX3_find_8 (by decide) (fun c_ => absurd c_ (nI_ge hi hn)) (fun c_2 => ?_)
    refine lv_aload_n hx hb dX3_find_11 rfl (lv_at hl 0 rfl) ?_
    refine va_get (D := D) (ci := 3) (v := .ref a) (C := RX3) (T := TX3) (N := 1) hx hb hts tu_3 hown hE.1 hP q0 he rfl 0 (by decide) (hts _ tw_45) (fun _ h9 => h9) rfl dX3_find_12 ?_
    refine lv_iload_n hx hb dX3_find_15 rfl (lv_at hl 2 rfl) ?_
    refine k_iald (j := i) hx hb hE hP q1 ha hi hn dX3_find_16 ?_
    refine lv_iload_n hx hb dX3_find_17 rfl (lv_at hl 1 rfl) ?_
    refine lv_icmp_ne (tgt := 23) hx hb dX3_find_18 (by decide) (fun c_3 => ?_) (fun c_3 => ?_)
    · refine lv_iinc (v := nI (i + 1)) (lv' := [(2, .int (nI (i + 1))), (0, .ref r), (1, .int v)]) hx hb dX3_find_23 hl (k := 2) rfl (iinc1 _) (by decide) rfl (fun ls hl => ?_)
      refine lv_goto (tgt := 2) hx hb dX3_find_26 (by decide) ?_
      exact ih ls (hI.trans (fnd_miss hi c_3)) (lv_sub hl [1, 2, 0] rfl)
    · refine lv_iload_n hx hb dX3_find_21 rfl (lv_at hl 2 rfl) ?_
      exact p_iret hx hb hr hlk dX3_find_22 (hI.trans (fnd_hit hi c_3))

set_option maxHeartbeats 4000000 in
set_option maxRecDepth 100000 in
/-- all places x -/
theorem metJ7_fill_53178 (l : Launch) {D : va_G} {k : Nat → ClassId} {ws ws' : va_W} {q1 a n : Nat} {f : Nat → Int32} (ha : ws[q1]? = some (a, .inl (k 0, n, .inl f))) (hn : n < 2 ^ 31) (x : Int32) (hset : ws.set q1 (a, .inl (k 0, n, .inl (fun _ => x))) = ws') : MM l yJ7_fill_53178 cJ7_fill_53178 4 none rmJ7_fill_53178 D k ws [.ref a, .int x] none ws' := by
  subst hset
  refine MM_of rfl (Nat.le_of_ble_eq_true rfl) ?_
  intro p e s m below meth c hC hr hlk hin hE hP hD hS ls hl
  have hC : CallFix p m c cJ7_fill_53178 4 s _ lw_all RJ7 := hC
  have hx := hC.1
  have hb := hC.2.1
  have hown : s.vm.findClass RJ7 = some m.cls := hC.2.2.2.1
  have hts := hC.2.2.2.2
  have hl : lv_has ls 4 [(0, .ref a), (1, .int x)] := hl
  refine lv_iconst (v := 0) hx hb dJ7_fill_53178_0 (by decide) ?_
  refine lv_istore_n (lv' := [(2, .int 0), (0, .ref a), (1, .int x)]) hx hb dJ7_fill_53178_1 rfl hl (by decide) rfl (fun ls hl => ?_)
  refine lv_aload_n hx hb dJ7_fill_53178_2 rfl (lv_at hl 1 rfl) ?_
  refine k_alen hx hb hE hP q1 ha dJ7_fill_53178_3 ?_
  refine lv_istore_n (lv' := [(3, .int (nI n)), (2, .int 0), (0, .ref a), (1, .int x)]) hx hb dJ7_fill_53178_4 rfl hl (by decide) rfl (fun ls hl => ?_)
  have hP : va_P D vwCl (ws.set q1 (a, .inl (k 0, n, .inl (xflG f x 0)))) s.heap := by rw [xflG_0, rs_0 ha]; exact hP
  have hD : va_D (va_in ws) (ws.set q1 (a, .inl (k 0, n, .inl (xflG f x 0)))) := by rw [xflG_0, rs_0 ha]; exact hD
  refine w_forM (N := n) (fun _ => True) (fun i => [(0, .ref a), (1, .int x), (2, .int (nI i)), (3, .int (nI n))]) (fun i => (ws.set q1 (a, .inl (k 0, n, .inl (xflG f x i))))) (fun ls H locs hI hl hP hD hS => ?_) (fun i hi hI ih ls H locs hl hP hD hS => ?_) 0 (Nat.zero_le _) trivial (lv_sub hl [2, 3, 1, 0] rfl) hP hD hS
  · have hl : lv_has ls 4 [(0, .ref a), (1, .int x), (2, .int (nI n)), (3, .int (nI n))] := hl
    have hP : va_P D vwCl (ws.set q1 (a, .inl (k 0, n, .inl (xflG f x n)))) H := hP
    have hD : va_D (va_in ws) (ws.set q1 (a, .inl (k 0, n, .inl (xflG f x n)))) := hD
    refine lv_iload_n hx hb dJ7_fill_53178_5 rfl (lv_at hl 2 rfl) ?_
    refine lv_iload_n hx hb dJ7_fill_53178_6 rfl (lv_at hl 3 rfl) ?_
    refine lv_icmp_ge (tgt := 20) hx hb dJ7_fill_53178_7 (by decide) (fun c_1 => ?_) (fun c_ => absurd (nI_le (Nat.le_refl n) hn) c_)
    have hP := row_cong (g := fun _ => x) hP (rs_a ha) (fun j hj => if_pos hj)
    rw [rs_s] at hP
    exact m_vret hx hb hr hlk dJ7_fill_53178_20 hP hS
  · have hl : lv_has ls 4 [(0, .ref a), (1, .int x), (2, .int (nI i)), (3, .int (nI n))] := hl
    have hP : va_P D vwCl (ws.set q1 (a, .inl (k 0, n, .inl (xflG f x i)))) H := hP
    have hD : va_D (va_in ws) (ws.set q1 (a, .inl (k 0, n, .inl (xflG f x i)))) := hD
    refine lv_iload_n hx hb dJ7_fill_53178_5 rfl (lv_at hl 2 rfl) ?_
    refine lv_iload_n hx hb dJ7_fill_53178_6 rfl (lv_at hl 3 rfl) ?_
    refine lv_icmp_ge (tgt := 20) hx hb dJ7_fill_53178_7 (by decide) (fun c_ => absurd c_ (nI_ge hi hn)) (fun c_2 => ?_)
    refine lv_aload_n hx hb dJ7_fill_53178_10 rfl (lv_at hl 0 rfl) ?_
    refine lv_iload_n hx hb dJ7_fill_53178_11 rfl (lv_at hl 2 rfl) ?_
    refine lv_iload_n hx hb dJ7_fill_53178_12 rfl (lv_at hl 1 rfl) ?_
    refine k_iast (j := i) hx hb hE hP hD hS q1 (rs_a ha) hi hn dJ7_fill_53178_13 (fun H locs hP hD hS => ?_)
    rw [rs_s] at hP hD
    have hP : va_P D vwCl (ws.set q1 (a, .inl (k 0, n, .inl (upd (xflG f x i) i x)))) H := hP
    have hD : va_D (va_in ws) (ws.set q1 (a, .inl (k 0, n, .inl (upd (xflG f x i) i x)))) := hD
    refine lv_iinc (v := nI (i + 1)) (lv' := [(2, .int (nI (i + 1))), (0, .ref a), (1, .int x), (3, .int (nI n))]) hx hb dJ7_fill_53178_14 hl (k := 2) rfl (iinc1 _) (by decide) rfl (fun ls hl => ?_)
    refine lv_goto (tgt := 5) hx hb dJ7_fill_53178_17 (by decide) ?_
    have e9 : xflG f x (i + 1) = (upd (xflG f x i) i x) := xflG_s
    exact ih ls H locs trivial (lv_sub hl [1, 2, 0, 3] rfl) (by show va_P D vwCl (ws.set q1 (a, .inl (k 0, n, .inl (xflG f x (i + 1))))) H; rw [e9]; exact hP) (by show va_D (va_in ws) (ws.set q1 (a, .inl (k 0, n, .inl (xflG f x (i + 1))))); rw [e9]; exact hD) hS

set_option maxHeartbeats 4000000 in
set_option maxRecDepth 100000 in
/-- all places as the other row has them -/
theorem metX3_takeAll (l : Launch) {D : va_G} {k : Nat → ClassId} {ws ws' : va_W} {q0 q1 q2 q3 r a r2 a2 n : Nat} {f g : Nat → Int32} (he : ws[q0]? = some (r, .inr (3, [.ref a]))) (ha : ws[q1]? = some (a, .inl (k 0, n, .inl f))) (hn : n < 2 ^ 31) (he2 : ws[q2]? = some (r2, .inr (3, [.ref a2]))) (hb2 : ws[q3]? = some (a2, .inl (k 0, n, .inl g))) (hset : ws.set q1 (a, .inl (k 0, n, .inl g)) = ws') : MM l yX3_takeAll cX3_takeAll 2 none rmX3_takeAll D k ws [.ref r, .ref r2] none ws' := by
  subst hset
  refine MM_of rfl (Nat.le_of_ble_eq_true rfl) ?_
  intro p e s m below meth c hC hr hlk hin hE hP hD hS ls hl
  have hC : CallFix p m c cX3_takeAll 2 s _ lw_all RX3 := hC
  have hx := hC.1
  have hb := hC.2.1
  have hown : s.vm.findClass RX3 = some m.cls := hC.2.2.2.1
  have hts := hC.2.2.2.2
  have hl : lv_has ls 2 [(0, .ref r), (1, .ref r2)] := hl
  refine lv_aload_n hx hb dX3_takeAll_0 rfl (lv_at hl 1 rfl) ?_
  refine va_get (D := D) (ci := 3) (v := .ref a2) (C := RX3) (T := TX3) (N := 1) hx hb hts tu_3 hown hE.1 hP q2 he2 rfl 0 (by decide) (hts _ tw_45) (fun _ h9 => h9) rfl dX3_takeAll_1 ?_
  refine lv_iconst (v := 0) hx hb dX3_takeAll_4 (by decide) ?_
  refine lv_aload_n hx hb dX3_takeAll_5 rfl (lv_at hl 0 rfl) ?_
  refine va_get (D := D) (ci := 3) (v := .ref a) (C := RX3) (T := TX3) (N := 1) hx hb hts tu_3 hown hE.1 hP q0 he rfl 0 (by decide) (hts _ tw_45) (fun _ h9 => h9) rfl dX3_takeAll_6 ?_
  refine lv_iconst (v := 0) hx hb dX3_takeAll_9 (by decide) ?_
  refine lv_aload_n hx hb dX3_takeAll_10 rfl (lv_at hl 0 rfl) ?_
  refine va_get (D := D) (ci := 3) (v := .ref a) (C := RX3) (T := TX3) (N := 1) hx hb hts tu_3 hown hE.1 hP q0 he rfl 0 (by decide) (hts _ tw_45) (fun _ h9 => h9) rfl dX3_takeAll_11 ?_
  refine k_alen hx hb hE hP q1 ha dX3_takeAll_14 ?_
  refine lv_aload_n hx hb dX3_takeAll_15 rfl (lv_at hl 1 rfl) ?_
  refine va_get (D := D) (ci := 3) (v := .ref a2) (C := RX3) (T := TX3) (N := 1) hx hb hts tu_3 hown hE.1 hP q2 he2 rfl 0 (by decide) (hts _ tw_45) (fun _ h9 => h9) rfl dX3_takeAll_16 ?_
  refine k_alen hx hb hE hP q3 hb2 dX3_takeAll_19 ?_
  refine va_mmin hx hb (hC.2.2.1.trans hl.1.symm) hown (hts _ tw_466) (hts _ tw_467) (hts _ tw_14) (hts _ tw_468) (Nat.le_of_ble_eq_true rfl) (Nat.le_of_ble_eq_true rfl) (Nat.le_of_ble_eq_true rfl) (Nat.le_of_ble_eq_true rfl) dX3_takeAll_20 ?_
  refine w_top (if_neg Int32.lt_irrefl) ?_
  refine va_copyi hx hb (hC.2.2.1.trans hl.1.symm) hown (hts _ tw_469) (hts _ tw_471) (hts _ tw_470) (hts _ tw_15) hE.1 hP hD hS q3 q1 0 0 hb2 ha rfl rfl rfl (by decide) (by decide) (nI_pos hn) (by rw [nI_clamp hn]; show 0 + n ≤ n; omega) (by rw [nI_clamp hn]; show 0 + n ≤ n; omega) (fun _ _ => rfl) (Nat.le_of_ble_eq_true rfl) (Nat.le_of_ble_eq_true rfl) dX3_takeAll_23 (fun H locs hP hD hS => ?_)
  rw [nI_clamp hn] at hP
  have hP := row_cong (g := g) hP (rs_a ha) (fun j hj => sb_cpy0 hj)
  rw [rs_s] at hP
  exact m_vret hx hb hr hlk dX3_takeAll_26 hP hS

