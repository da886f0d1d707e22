/-! the hand's methods that make cells -/
theorem app_at {ws Z : va_W} {i : Nat} {y : Nat × va_E} (h : ws[i]? = some y) : (ws ++ Z)[i]? = some y := by
  rw [List.getElem?_append_left (List.getElem?_eq_some_iff.mp h).1]
  exact h
theorem app_new {ws : va_W} {y : Nat × va_E} : (ws ++ [y])[ws.length]? = some y := by
  rw [List.getElem?_append_right (Nat.le_refl _), Nat.sub_self]
  rfl
theorem app_set {ws : va_W} {y z : Nat × va_E} : (ws ++ [y]).set ws.length z = ws ++ [z] := by
  rw [List.set_append_right _ _ (Nat.le_refl _), Nat.sub_self]
  rfl
def mrG (ad : Nat → Nat) (i : Nat) : Nat → Option Nat := fun j => if j < i then some (ad j) else none
theorem mrG_0 (ad : Nat → Nat) : mrG ad 0 = fun _ => none := funext fun j => if_neg (Nat.not_lt_zero j)
theorem mrG_s (ad : Nat → Nat) (i : Nat) : mrG ad (i + 1) = va_up (mrG ad i) i (some (ad i)) := by
  funext j
  simp only [mrG, va_up]
  by_cases h : j = i
  · rw [if_pos (by omega), if_pos h, h]
  · rw [if_neg h]
    by_cases h2 : j < i
    · rw [if_pos h2, if_pos (by omega)]
    · rw [if_neg h2, if_neg (by omega)]
theorem mrG_e {ad : Nat → Nat} {N v j : Nat} (h : j < N + 1) : va_up (mrG ad N) N (some v) j = rfA (oLn ad N v) j := by
  simp only [mrG, va_up, rfA, oLn]
  by_cases e : j = N
  · rw [if_pos e, if_pos e]
  · rw [if_neg e, if_neg e, if_pos (by omega)]
def cpG (f : Nat → Int32) (i : Nat) : Nat → Int32 := fun j => if j < i then f j else 0
theorem cpG_0 (f : Nat → Int32) : cpG f 0 = fun _ => 0 := funext fun j => if_neg (Nat.not_lt_zero j)
theorem cpG_s (f : Nat → Int32) (i : Nat) : cpG f (i + 1) = upd (cpG f i) i (f i) := by
  funext j
  simp only [cpG, upd]
  by_cases h : j = i
  · rw [if_pos (by omega), if_pos h, h]
  · rw [if_neg h]
    by_cases h2 : j < i
    · rw [if_pos h2, if_pos (by omega)]
    · rw [if_neg h2, if_neg (by omega)]
theorem cpG_e {f : Nat → Int32} {L j : Nat} {v : Int32} (h : j < L + 1) : upd (cpG f L) L v j = upd f L v j := by
  simp only [cpG, upd]
  by_cases e : j = L
  · rw [if_pos e, if_pos e]
  · rw [if_neg e, if_neg e, if_pos (by omega)]
def csG (f : Nat → Int32) (i : Nat) : Nat → Int32 := fun j => if j < i then f (j + 1) else 0
theorem csG_0 (f : Nat → Int32) : csG f 0 = fun _ => 0 := funext fun j => if_neg (Nat.not_lt_zero j)
theorem csG_s (f : Nat → Int32) (i : Nat) : csG f (i + 1) = upd (csG f i) i (f (i + 1)) := by
  funext j
  simp only [csG, upd]
  by_cases h : j = i
  · rw [if_pos (by omega), if_pos h, h]
  · rw [if_neg h]
    by_cases h2 : j < i
    · rw [if_pos h2, if_pos (by omega)]
    · rw [if_neg h2, if_neg (by omega)]
theorem csG_e {f : Nat → Int32} {L j : Nat} (h : j < L) : csG f L j = mFr L f j := by
  simp only [csG, mFr]
  rw [if_pos h, if_pos h]

set_option maxHeartbeats 1000000 in
set_option maxRecDepth 100000 in
/-- a row of rows, and one more -/
theorem metX5_more (l : Launch) {D : va_G} {k : Nat → ClassId} {ws : va_W} {sz : Nat} (q0 q1 r v N N1 : Nat) (ad : Nat → Nat) (x1 : Nat → Int32) (hr : ws[q0]? = some (r, outA (k 2) N (rfA ad))) (hv : ws[q1]? = some (v, .inl (k 0, N1, .inl x1))) (hrow : ∀ j, j < N → ∃ (qj Nj : Nat) (xj : Nat → Int32), ws[qj]? = some (ad j, .inl (k 0, Nj, .inl xj))) (hN : N ≤ 41) : GM l yX5_more (ws_ yX5_more cX5_more 4 (some (FieldType.array (FieldType.array FieldType.int)))) ({ frames := 0, cells := 1, slots := 42, locals := 0 } : Room) 1 42 D k ws sz [.ref r, .ref v] (fun _ => True) (fun o9 w1 => ∃ q, o9 = some (.ref q) ∧ w1 = ws ++ [(q, outA (k 2) (N + 1) (rfA (oLn ad N v)))]) := by
  refine GM_of rfl (Nat.le_of_ble_eq_true rfl) ?_
  intro p e s m below meth c A hC hr9 hlk hE hP hD hA hAe hX hS ls hl
  have hC : CallFix p m c cX5_more 4 s _ lw_all RX5 := hC
  have hx := hC.1
  have hb := hC.2.1
  have hown : s.vm.findClass RX5 = some m.cls := hC.2.2.2.1
  have hts := hC.2.2.2.2
  have hl : lv_has ls 4 [(0, .ref r), (1, .ref v)] := hl
  refine lv_aload_n hx hb dX5_more_0 rfl (lv_at hl 0 rfl) ?_
  refine k_olen hx hb hE hP q0 hr dX5_more_1 ?_
  refine lv_iconst (v := 1) hx hb dX5_more_2 (by decide) ?_
  refine lv_iadd hx hb dX5_more_3 ?_
  refine w_top (show (nI N) + 1 = nI (N + 1) from (nI_1 N)) ?_
  refine k_anew (n := N + 1) hx hb hown (hts _ tw_606) hE hP hD hS hA (by omega) (Nat.le_of_ble_eq_true rfl) (by show 0 + (N + 1) ≤ 42; omega) dX5_more_4 (fun q H hP hD hS => ?_)
  rw [← mrG_0 ad] at hP hD
  have hP : va_P D vwCl (ws ++ [(q, outA (k 2) (N + 1) (mrG ad 0))]) H := hP
  have hD : va_D A (ws ++ [(q, outA (k 2) (N + 1) (mrG ad 0))]) := hD
  refine lv_astore_n (lv' := [(2, .ref q), (0, .ref r), (1, .ref v)]) hx hb dX5_more_7 rfl hl (by decide) rfl (fun ls hl => ?_)
  refine lv_iconst (v := 0) hx hb dX5_more_8 (by decide) ?_
  refine lv_istore_n (lv' := [(3, .int 0), (2, .ref q), (0, .ref r), (1, .ref v)]) hx hb dX5_more_9 rfl hl (by decide) rfl (fun ls hl => ?_)
  refine w_forM (D := D) (A := A) (H0 := s.heap) (nL := 4) (N := N) (fun _ => True) (fun i => [(0, .ref r), (1, .ref v), (2, .ref q), (3, .int (nI i))]) (fun i => (ws ++ [(q, outA (k 2) (N + 1) (mrG ad i))])) (fun ls H locs hI hl hP hD hS => ?_) (fun i hi hI ih ls H locs hl hP hD hS => ?_) 0 (Nat.zero_le _) trivial ?_ ?_ ?_ ?_
  · have hl : lv_has ls 4 [(0, .ref r), (1, .ref v), (2, .ref q), (3, .int (nI N))] := hl
    have hP : va_P D vwCl (ws ++ [(q, outA (k 2) (N + 1) (mrG ad N))]) H := hP
    have hD : va_D A (ws ++ [(q, outA (k 2) (N + 1) (mrG ad N))]) := hD
    refine lv_iload_n hx hb dX5_more_10 rfl (lv_at hl 3 rfl) ?_
    refine lv_aload_n hx hb dX5_more_11 rfl (lv_at hl 0 rfl) ?_
    refine k_olen hx hb hE hP q0 (app_at hr) dX5_more_12 ?_
    refine lv_icmp_ge (tgt := 28) hx hb dX5_more_13 (by decide) (fun c_1 => ?_) (fun c_ => absurd (nI_le (Nat.le_refl N) (by omega)) c_)
    refine lv_aload_n hx hb dX5_more_28 rfl (lv_at hl 2 rfl) ?_
    refine lv_aload_n hx hb dX5_more_29 rfl (lv_at hl 0 rfl) ?_
    refine k_olen hx hb hE hP q0 (app_at hr) dX5_more_30 ?_
    refine lv_aload_n hx hb dX5_more_31 rfl (lv_at hl 1 rfl) ?_
    refine k_aast (j := N) hx hb hE hP hD hS ws.length q1 app_new (app_at hv) (Nat.lt_succ_self N) (by omega) dX5_more_32 (fun H locs hP hD hS => ?_)
    rw [app_set] at hP hD
    have hP : va_P D vwCl (ws ++ [(q, outA (k 2) (N + 1) (va_up (mrG ad N) N (some v)))]) H := hP
    have hD : va_D A (ws ++ [(q, outA (k 2) (N + 1) (va_up (mrG ad N) N (some v)))]) := hD
    refine lv_aload_n hx hb dX5_more_33 rfl (lv_at hl 2 rfl) ?_
    have hP := out_cong (g := rfA (oLn ad N v)) hP app_new (fun j hj => mrG_e hj)
    rw [app_set] at hP
    have hD : va_D A (ws ++ [(q, outA (k 2) (N + 1) (rfA (oLn ad N v)))]) := vaD_same hD (by rw [List.map_append, List.map_append]; rfl)
    exact g_aret hx hb hr9 (Or.inr ⟨_, rfl⟩) hlk dX5_more_34 hP hD hS ⟨q, rfl, rfl⟩ (Nat.le_of_ble_eq_true rfl) (by omega)
  · have hl : lv_has ls 4 [(0, .ref r), (1, .ref v), (2, .ref q), (3, .int (nI i))] := hl
    have hP : va_P D vwCl (ws ++ [(q, outA (k 2) (N + 1) (mrG ad i))]) H := hP
    have hD : va_D A (ws ++ [(q, outA (k 2) (N + 1) (mrG ad i))]) := hD
    refine lv_iload_n hx hb dX5_more_10 rfl (lv_at hl 3 rfl) ?_
    refine lv_aload_n hx hb dX5_more_11 rfl (lv_at hl 0 rfl) ?_
    refine k_olen hx hb hE hP q0 (app_at hr) dX5_more_12 ?_
    refine lv_icmp_ge (tgt := 28) hx hb dX5_more_13 (by decide) (fun c_ => absurd c_ (nI_ge hi (by omega))) (fun c_2 => ?_)
    refine lv_aload_n hx hb dX5_more_16 rfl (lv_at hl 2 rfl) ?_
    refine lv_iload_n hx hb dX5_more_17 rfl (lv_at hl 3 rfl) ?_
    refine lv_aload_n hx hb dX5_more_18 rfl (lv_at hl 0 rfl) ?_
    refine lv_iload_n hx hb dX5_more_19 rfl (lv_at hl 3 rfl) ?_
    refine k_aald (j := i) hx hb hE hP q0 (app_at hr) hi (by omega) dX5_more_20 ?_
    obtain ⟨qj, Nj, xj, hj9⟩ := hrow i hi
    refine k_aast (j := i) hx hb hE hP hD hS ws.length qj app_new (app_at hj9) (by omega) (by omega) dX5_more_21 (fun H locs hP hD hS => ?_)
    rw [app_set] at hP hD
    have hP : va_P D vwCl (ws ++ [(q, outA (k 2) (N + 1) (va_up (mrG ad i) i (some (ad i))))]) H := hP
    have hD : va_D A (ws ++ [(q, outA (k 2) (N + 1) (va_up (mrG ad i) i (some (ad i))))]) := hD
    refine lv_iinc (v := nI (i + 1)) (lv' := [(3, .int (nI (i + 1))), (0, .ref r), (1, .ref v), (2, .ref q)]) hx hb dX5_more_22 hl (k := 3) rfl (iinc1 _) (by decide) rfl (fun ls hl => ?_)
    refine lv_goto (tgt := 10) hx hb dX5_more_25 (by decide) ?_
    have e9 : mrG ad (i + 1) = va_up (mrG ad i) i (some (ad i)) := mrG_s ad i
    have hP9 : va_P D vwCl (ws ++ [(q, outA (k 2) (N + 1) (mrG ad (i + 1)))]) H := by rw [e9]; exact hP
    have hD9 : va_D A (ws ++ [(q, outA (k 2) (N + 1) (mrG ad (i + 1)))]) := by rw [e9]; exact hD
    have h99 := ih ls H locs trivial (lv_sub hl [1, 2, 3, 0] rfl)
    exact h99 hP9 hD9 hS
  · exact lv_sub hl [2, 3, 1, 0] rfl
  · exact hP
  · exact hD
  · exact hS

set_option maxHeartbeats 1000000 in
set_option maxRecDepth 100000 in
/-- a bag begins -/
theorem metX5_begin (l : Launch) {D : va_G} {k : Nat → ClassId} {a tr o fa ba : Nat → Nat} {x : Nat} {S U : HS} {R : va_W} (G T : HS) {n nf L : Nat} (hn : n ≤ 40) (hnf : nf ≤ 6) {sz : Nat} (b : Nat) (hbn : b < n) (hL : L ≤ 40) (hT : T 0 1 = nI L) : GM l yX5_begin (ws_ yX5_begin cX5_begin 4 none) ({ frames := 1, cells := 1, slots := 41, locals := 23 } : Room) 1 41 D k (LW k a tr o fa ba x S U G T n nf L R) sz [.ref (o 0), .int (nI b)] (fun _ => True) (fun v9 w1 => v9 = none ∧ ∃ o9 : Nat → Nat, o9 0 = o 0 ∧ w1 = LW k a tr o9 fa ba x S U G (mBegin G T b) n nf (ix (mBegin G T b 0 1)) R) := by
  refine GM_of rfl (Nat.le_of_ble_eq_true rfl) ?_
  intro p e s m below meth c A hC hr hlk hE hP hD hA hAe hX hS ls hl
  have hC : CallFix p m c cX5_begin 4 s _ lw_all RX5 := hC
  have hx := hC.1
  have hb := hC.2.1
  have hown : s.vm.findClass RX5 = some m.cls := hC.2.2.2.1
  have hts := hC.2.2.2.2
  have hLT : ix (T 0 1) = L := by rw [hT, ix_i (by omega)]
  have hl : lv_has ls 4 [(0, .ref (o 0)), (1, .int (nI b))] := hl
  refine lv_aload_n hx hb dX5_begin_0 rfl (lv_at hl 0 rfl) ?_
  refine va_get (D := D) (ci := 5) (v := .ref (o 3)) (C := RX5) (T := TX5) (N := 6) hx hb hts tu_5 hown hE.1 hP 59 lw_59 rfl 4 (by decide) (hts _ tw_739) (fun _ h9 => h9) rfl dX5_begin_1 ?_
  refine lv_iload_n hx hb dX5_begin_4 rfl (lv_at hl 1 rfl) ?_
  refine k_aald (j := b) hx hb hE hP 62 lw_62 hbn (Nat.lt_of_le_of_lt hn (by decide)) dX5_begin_5 ?_
  refine lv_iconst (v := 5) hx hb dX5_begin_6 (by decide) ?_
  refine lv_iconst (v := (-1)) hx hb dX5_begin_7 (by decide) ?_
  refine k_iast (j := 5) hx hb hE hP hD hS (64 + nf + b) (lw_b hbn) (by decide) (by decide) dX5_begin_8 (fun H locs hP hD hS => ?_)
  rw [lws_b5 hbn] at hP hD
  have hP : va_P D vwCl (LW k a tr o fa ba x S U G (sf T 3 (upd (T 3) b (-1))) n nf L R) H := hP
  have hD : va_D A (LW k a tr o fa ba x S U G (sf T 3 (upd (T 3) b (-1))) n nf L R) := hD
  refine lv_aload_n hx hb dX5_begin_9 rfl (lv_at hl 0 rfl) ?_
  refine va_get (D := D) (ci := 5) (v := .ref (o 3)) (C := RX5) (T := TX5) (N := 6) hx hb hts tu_5 hown hE.1 hP 59 lw_59 rfl 4 (by decide) (hts _ tw_739) (fun _ h9 => h9) rfl dX5_begin_10 ?_
  refine lv_iload_n hx hb dX5_begin_13 rfl (lv_at hl 1 rfl) ?_
  refine k_aald (j := b) hx hb hE hP 62 lw_62 hbn (Nat.lt_of_le_of_lt hn (by decide)) dX5_begin_14 ?_
  refine lv_bipush (v := 6) hx hb dX5_begin_15 (by decide) ?_
  refine lv_iconst (v := 0) hx hb dX5_begin_17 (by decide) ?_
  refine k_iast (j := 6) hx hb hE hP hD hS (64 + nf + b) (lw_b hbn) (by decide) (by decide) dX5_begin_18 (fun H locs hP hD hS => ?_)
  rw [lws_b6 hbn] at hP hD
  rw [show (sf T 3 (upd (T 3) b (-1))) 4 = T 4 from rfl] at hP hD
  have hP : va_P D vwCl (LW k a tr o fa ba x S U G (sf (sf T 3 (upd (T 3) b (-1))) 4 (upd (T 4) b 0)) n nf L R) H := hP
  have hD : va_D A (LW k a tr o fa ba x S U G (sf (sf T 3 (upd (T 3) b (-1))) 4 (upd (T 4) b 0)) n nf L R) := hD
  refine lv_aload_n hx hb dX5_begin_19 rfl (lv_at hl 0 rfl) ?_
  refine va_get (D := D) (ci := 5) (v := .ref (o 3)) (C := RX5) (T := TX5) (N := 6) hx hb hts tu_5 hown hE.1 hP 59 lw_59 rfl 4 (by decide) (hts _ tw_739) (fun _ h9 => h9) rfl dX5_begin_20 ?_
  refine lv_iload_n hx hb dX5_begin_23 rfl (lv_at hl 1 rfl) ?_
  refine k_aald (j := b) hx hb hE hP 62 lw_62 hbn (Nat.lt_of_le_of_lt hn (by decide)) dX5_begin_24 ?_
  refine lv_iconst (v := 1) hx hb dX5_begin_25 (by decide) ?_
  refine k_iald (j := 1) hx hb hE hP (64 + nf + b) (lw_b hbn) (by decide) (by decide) dX5_begin_26 ?_
  refine w_top (show bgR G (sf (sf T 3 (upd (T 3) b (-1))) 4 (upd (T 4) b 0)) b 1 = G 5 b from rfl) ?_
  refine lv_bipush (v := 7) hx hb dX5_begin_27 (by decide) ?_
  refine lv_icmp_le (tgt := 40) hx hb dX5_begin_29 (by decide) (fun c_1 => ?_) (fun c_1 => ?_)
  · refine lv_aload_n hx hb dX5_begin_40 rfl (lv_at hl 0 rfl) ?_
    refine lv_iload_n hx hb dX5_begin_41 rfl (lv_at hl 1 rfl) ?_
    refine lv_iconst (v := 0) hx hb dX5_begin_42 (by decide) ?_
    refine lv_iconst (v := (-1)) hx hb dX5_begin_43 (by decide) ?_
    refine c_mVv (rest := []) hC hE hP hD hS lw_same (metX5_put l G (sf (sf T 3 (upd (T 3) b (-1))) 4 (upd (T 4) b 0)) hn hnf b 0 (-1) hbn) gc_RX5_36 hd_X5_put ⟨rfl, rfl⟩ ⟨Nat.le_of_ble_eq_true rfl, Nat.le_of_ble_eq_true rfl⟩ 59 lw_59 rfl rfl hl.1 (Nat.le_of_ble_eq_true rfl) ⟨Nat.le_of_ble_eq_true rfl, Nat.le_of_ble_eq_true rfl⟩ dX5_begin_44 (fun H locs hP hD hS => ?_)
    refine lv_aload_n hx hb dX5_begin_47 rfl (lv_at hl 0 rfl) ?_
    refine va_get (D := D) (ci := 5) (v := .ref (o 4)) (C := RX5) (T := TX5) (N := 6) hx hb hts tu_5 hown hE.1 hP 59 lw_59 rfl 5 (by decide) (hts _ tw_741) (fun _ h9 => h9) rfl dX5_begin_48 ?_
    refine k_alen hx hb hE hP 63 lw_63 dX5_begin_51 ?_
    refine lv_iconst (v := 1) hx hb dX5_begin_52 (by decide) ?_
    refine lv_iadd hx hb dX5_begin_53 ?_
    refine w_top (show (nI L) + 1 = nI (L + 1) from (nI_1 L)) ?_
    refine i_newai (N := (L + 1)) hx hb (hts _ tw_49) hE hP hD hS hA (nI_pos (by omega)) (nI_clamp (by omega)) (by show (L + 1) * 4 ≤ 536870912; omega) (Nat.le_of_ble_eq_true rfl) (by show 0 + (L + 1) ≤ 41; omega) dX5_begin_54 (fun q1 H hP hD hS => ?_)
    rw [lw_more] at hP hD
    have hP : va_P D vwCl (LW k a tr o fa ba x S U G (mPutB (sf (sf T 3 (upd (T 3) b (-1))) 4 (upd (T 4) b 0)) b 0 (-1)) n nf L (R ++ [(q1, .inl (k 0, (L + 1), .inl (fun _ => 0)))])) H := hP
    have hD : va_D A (LW k a tr o fa ba x S U G (mPutB (sf (sf T 3 (upd (T 3) b (-1))) 4 (upd (T 4) b 0)) b 0 (-1)) n nf L (R ++ [(q1, .inl (k 0, (L + 1), .inl (fun _ => 0)))])) := hD
    refine lv_astore_n (lv' := [(2, .ref q1), (0, .ref (o 0)), (1, .int (nI b))]) hx hb dX5_begin_56 rfl hl (by decide) rfl (fun ls hl => ?_)
    refine lv_iconst (v := 0) hx hb dX5_begin_57 (by decide) ?_
    refine lv_istore_n (lv' := [(3, .int 0), (2, .ref q1), (0, .ref (o 0)), (1, .int (nI b))]) hx hb dX5_begin_58 rfl hl (by decide) rfl (fun ls hl => ?_)
    have hP : va_P D vwCl (LW k a tr o fa ba x S U G (mPutB (sf (sf T 3 (upd (T 3) b (-1))) 4 (upd (T 4) b 0)) b 0 (-1)) n nf L (R ++ [(q1, .inl (k 0, (L + 1), .inl (cpG (T 6) 0)))])) H := by rw [cpG_0]; exact hP
    have hD : va_D A (LW k a tr o fa ba x S U G (mPutB (sf (sf T 3 (upd (T 3) b (-1))) 4 (upd (T 4) b 0)) b 0 (-1)) n nf L (R ++ [(q1, .inl (k 0, (L + 1), .inl (cpG (T 6) 0)))])) := by rw [cpG_0]; exact hD
    refine w_forM (D := D) (A := A) (H0 := s.heap) (nL := 4) (N := L) (fun _ => True) (fun i => [(0, .ref (o 0)), (1, .int (nI b)), (2, .ref q1), (3, .int (nI i))]) (fun i => (LW k a tr o fa ba x S U G (mPutB (sf (sf T 3 (upd (T 3) b (-1))) 4 (upd (T 4) b 0)) b 0 (-1)) n nf L (R ++ [(q1, .inl (k 0, (L + 1), .inl (cpG (T 6) i)))]))) (fun ls H locs hI hl hP hD hS => ?_) (fun i hi hI ih ls H locs hl hP hD hS => ?_) 0 (Nat.zero_le _) trivial ?_ ?_ ?_ ?_
    · have hl : lv_has ls 4 [(0, .ref (o 0)), (1, .int (nI b)), (2, .ref q1), (3, .int (nI L))] := hl
      have hP : va_P D vwCl (LW k a tr o fa ba x S U G (mPutB (sf (sf T 3 (upd (T 3) b (-1))) 4 (upd (T 4) b 0)) b 0 (-1)) n nf L (R ++ [(q1, .inl (k 0, (L + 1), .inl (cpG (T 6) L)))])) H := hP
      have hD : va_D A (LW k a tr o fa ba x S U G (mPutB (sf (sf T 3 (upd (T 3) b (-1))) 4 (upd (T 4) b 0)) b 0 (-1)) n nf L (R ++ [(q1, .inl (k 0, (L + 1), .inl (cpG (T 6) L)))])) := hD
      refine lv_iload_n hx hb dX5_begin_59 rfl (lv_at hl 3 rfl) ?_
      refine lv_aload_n hx hb dX5_begin_60 rfl (lv_at hl 0 rfl) ?_
      refine va_get (D := D) (ci := 5) (v := .ref (o 4)) (C := RX5) (T := TX5) (N := 6) hx hb hts tu_5 hown hE.1 hP 59 lw_59 rfl 5 (by decide) (hts _ tw_741) (fun _ h9 => h9) rfl dX5_begin_61 ?_
      refine k_alen hx hb hE hP 63 lw_63 dX5_begin_64 ?_
      refine lv_icmp_ge (tgt := 83) hx hb dX5_begin_65 (by decide) (fun c_2 => ?_) (fun c_ => absurd (nI_le (Nat.le_refl L) (by omega)) c_)
      refine lv_aload_n hx hb dX5_begin_83 rfl (lv_at hl 2 rfl) ?_
      refine lv_aload_n hx hb dX5_begin_84 rfl (lv_at hl 0 rfl) ?_
      refine va_get (D := D) (ci := 5) (v := .ref (o 4)) (C := RX5) (T := TX5) (N := 6) hx hb hts tu_5 hown hE.1 hP 59 lw_59 rfl 5 (by decide) (hts _ tw_741) (fun _ h9 => h9) rfl dX5_begin_85 ?_
      refine k_alen hx hb hE hP 63 lw_63 dX5_begin_88 ?_
      refine lv_iload_n hx hb dX5_begin_89 rfl (lv_at hl 1 rfl) ?_
      refine k_iast (j := L) hx hb hE hP hD hS (64 + nf + n + (R.length + 0)) ((lw_Ri (i := 0)).trans rfl) (Nat.lt_succ_self L) (by omega) dX5_begin_90 (fun H locs hP hD hS => ?_)
      rw [lw_Riset (i := 0)] at hP hD
      have hP : va_P D vwCl (LW k a tr o fa ba x S U G (mPutB (sf (sf T 3 (upd (T 3) b (-1))) 4 (upd (T 4) b 0)) b 0 (-1)) n nf L (R ++ [(q1, .inl (k 0, (L + 1), .inl (upd (cpG (T 6) L) L (nI b))))])) H := hP
      have hD : va_D A (LW k a tr o fa ba x S U G (mPutB (sf (sf T 3 (upd (T 3) b (-1))) 4 (upd (T 4) b 0)) b 0 (-1)) n nf L (R ++ [(q1, .inl (k 0, (L + 1), .inl (upd (cpG (T 6) L) L (nI b))))])) := hD
      refine lv_aload_n hx hb dX5_begin_91 rfl (lv_at hl 0 rfl) ?_
      refine lv_aload_n hx hb dX5_begin_92 rfl (lv_at hl 2 rfl) ?_
      refine va_put (D := D) (ci := 5) (v := .ref q1) (ty := tyX5 5) (C := RX5) (T := TX5) (N := 6) hx hb hts tu_5 tyX5 tyX5_ok nmX5 hown hE.1 hP hD hS 59 lw_59 rfl 5 (by decide) (hts _ tw_741) (fun _ h9 => h9) rfl (tyX5_ok 5 (by decide)) rfl rfl (Nat.le_of_ble_eq_true rfl) dX5_begin_93 (fun H locs hP hD hS => ?_)
      rw [← lw_more] at hP hD
      obtain ⟨hP, hD⟩ := lw_newLn hP hD
      have hP : va_P D vwCl (LW k a tr (oLn o 4 q1) fa ba x S U G (sf (mPutB (sf (sf T 3 (upd (T 3) b (-1))) 4 (upd (T 4) b 0)) b 0 (-1)) 6 (upd (cpG (T 6) L) L (nI b))) n nf (L + 1) R) H := hP
      have hD : va_D A (LW k a tr (oLn o 4 q1) fa ba x S U G (sf (mPutB (sf (sf T 3 (upd (T 3) b (-1))) 4 (upd (T 4) b 0)) b 0 (-1)) 6 (upd (cpG (T 6) L) L (nI b))) n nf (L + 1) R) := hD
      have hP := lw_lnP (f := upd (T 6) L (nI b)) hP (fun j hj => cpG_e hj)
      have hD := lw_lnD (f := upd (T 6) L (nI b)) hD
      refine g_vret hx hb hr hlk dX5_begin_96 hP hD hS ⟨rfl, oLn o 4 q1, rfl, ?_⟩ (Nat.le_of_ble_eq_true rfl) (by show 0 + (L + 1) ≤ 41; omega)
      unfold mBegin
      rw [sel_t (show G 5 b ≤ 7 from c_1)]
      have eL : ix (mLine (sf (sf T 3 (upd (T 3) b (-1))) 4 (upd (T 4) b 0)) b 0 1) = L + 1 := by show ix (T 0 1 + 1) = L + 1; rw [hT, nI_1, ix_i (by omega)]
      rw [eL]
      unfold mLine
      rw [show ix ((sf (sf T 3 (upd (T 3) b (-1))) 4 (upd (T 4) b 0)) 0 1) = L from hLT]
      rfl
    · have hl : lv_has ls 4 [(0, .ref (o 0)), (1, .int (nI b)), (2, .ref q1), (3, .int (nI i))] := hl
      have hP : va_P D vwCl (LW k a tr o fa ba x S U G (mPutB (sf (sf T 3 (upd (T 3) b (-1))) 4 (upd (T 4) b 0)) b 0 (-1)) n nf L (R ++ [(q1, .inl (k 0, (L + 1), .inl (cpG (T 6) i)))])) H := hP
      have hD : va_D A (LW k a tr o fa ba x S U G (mPutB (sf (sf T 3 (upd (T 3) b (-1))) 4 (upd (T 4) b 0)) b 0 (-1)) n nf L (R ++ [(q1, .inl (k 0, (L + 1), .inl (cpG (T 6) i)))])) := hD
      refine lv_iload_n hx hb dX5_begin_59 rfl (lv_at hl 3 rfl) ?_
      refine lv_aload_n hx hb dX5_begin_60 rfl (lv_at hl 0 rfl) ?_
      refine va_get (D := D) (ci := 5) (v := .ref (o 4)) (C := RX5) (T := TX5) (N := 6) hx hb hts tu_5 hown hE.1 hP 59 lw_59 rfl 5 (by decide) (hts _ tw_741) (fun _ h9 => h9) rfl dX5_begin_61 ?_
      refine k_alen hx hb hE hP 63 lw_63 dX5_begin_64 ?_
      refine lv_icmp_ge (tgt := 83) hx hb dX5_begin_65 (by decide) (fun c_ => absurd c_ (nI_ge hi (by omega))) (fun c_3 => ?_)
      refine lv_aload_n hx hb dX5_begin_68 rfl (lv_at hl 2 rfl) ?_
      refine lv_iload_n hx hb dX5_begin_69 rfl (lv_at hl 3 rfl) ?_
      refine lv_aload_n hx hb dX5_begin_70 rfl (lv_at hl 0 rfl) ?_
      refine va_get (D := D) (ci := 5) (v := .ref (o 4)) (C := RX5) (T := TX5) (N := 6) hx hb hts tu_5 hown hE.1 hP 59 lw_59 rfl 5 (by decide) (hts _ tw_741) (fun _ h9 => h9) rfl dX5_begin_71 ?_
      refine lv_iload_n hx hb dX5_begin_74 rfl (lv_at hl 3 rfl) ?_
      refine k_iald (j := i) hx hb hE hP 63 lw_63 hi (by omega) dX5_begin_75 ?_
      refine w_top (show (mPutB (sf (sf T 3 (upd (T 3) b (-1))) 4 (upd (T 4) b 0)) b 0 (-1)) 6 i = T 6 i from rfl) ?_
      refine k_iast (j := i) hx hb hE hP hD hS (64 + nf + n + (R.length + 0)) ((lw_Ri (i := 0)).trans rfl) (by omega) (by omega) dX5_begin_76 (fun H locs hP hD hS => ?_)
      rw [lw_Riset (i := 0)] at hP hD
      have hP : va_P D vwCl (LW k a tr o fa ba x S U G (mPutB (sf (sf T 3 (upd (T 3) b (-1))) 4 (upd (T 4) b 0)) b 0 (-1)) n nf L (R ++ [(q1, .inl (k 0, (L + 1), .inl (upd (cpG (T 6) i) i (T 6 i))))])) H := hP
      have hD : va_D A (LW k a tr o fa ba x S U G (mPutB (sf (sf T 3 (upd (T 3) b (-1))) 4 (upd (T 4) b 0)) b 0 (-1)) n nf L (R ++ [(q1, .inl (k 0, (L + 1), .inl (upd (cpG (T 6) i) i (T 6 i))))])) := hD
      refine lv_iinc (v := nI (i + 1)) (lv' := [(3, .int (nI (i + 1))), (0, .ref (o 0)), (1, .int (nI b)), (2, .ref q1)]) hx hb dX5_begin_77 hl (k := 3) rfl (iinc1 _) (by decide) rfl (fun ls hl => ?_)
      refine lv_goto (tgt := 59) hx hb dX5_begin_80 (by decide) ?_
      have e9 : cpG (T 6) (i + 1) = upd (cpG (T 6) i) i (T 6 i) := cpG_s (T 6) i
      have hP9 : va_P D vwCl (LW k a tr o fa ba x S U G (mPutB (sf (sf T 3 (upd (T 3) b (-1))) 4 (upd (T 4) b 0)) b 0 (-1)) n nf L (R ++ [(q1, .inl (k 0, (L + 1), .inl (cpG (T 6) (i + 1))))])) H := by rw [e9]; exact hP
      have hD9 : va_D A (LW k a tr o fa ba x S U G (mPutB (sf (sf T 3 (upd (T 3) b (-1))) 4 (upd (T 4) b 0)) b 0 (-1)) n nf L (R ++ [(q1, .inl (k 0, (L + 1), .inl (cpG (T 6) (i + 1))))])) := by rw [e9]; exact hD
      have h99 := ih ls H locs trivial (lv_sub hl [1, 2, 3, 0] rfl)
      exact h99 hP9 hD9 hS
    · exact lv_sub hl [2, 3, 1, 0] rfl
    · exact hP
    · exact hD
    · exact hS
  · refine lv_aload_n hx hb dX5_begin_32 rfl (lv_at hl 0 rfl) ?_
    refine lv_iload_n hx hb dX5_begin_33 rfl (lv_at hl 1 rfl) ?_
    refine lv_iconst (v := 4) hx hb dX5_begin_34 (by decide) ?_
    refine lv_iconst (v := (-1)) hx hb dX5_begin_35 (by decide) ?_
    refine c_mVv (rest := []) hC hE hP hD hS lw_same (metX5_put l G (sf (sf T 3 (upd (T 3) b (-1))) 4 (upd (T 4) b 0)) hn hnf b 4 (-1) hbn) gc_RX5_36 hd_X5_put ⟨rfl, rfl⟩ ⟨Nat.le_of_ble_eq_true rfl, Nat.le_of_ble_eq_true rfl⟩ 59 lw_59 rfl rfl hl.1 (Nat.le_of_ble_eq_true rfl) ⟨Nat.le_of_ble_eq_true rfl, Nat.le_of_ble_eq_true rfl⟩ dX5_begin_36 (fun H locs hP hD hS => ?_)
    refine g_vret hx hb hr hlk dX5_begin_39 hP hD hS ⟨rfl, o, rfl, ?_⟩ (Nat.le_of_ble_eq_true rfl) (Nat.le_of_ble_eq_true rfl)
    unfold mBegin
    rw [sel_f (show ¬ G 5 b ≤ 7 from c_1), show ix (mPutB (sf (sf T 3 (upd (T 3) b (-1))) 4 (upd (T 4) b 0)) b 4 (-1) 0 1) = L from hLT]
    first | done | rfl

