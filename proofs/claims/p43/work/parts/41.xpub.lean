/-! what a call needs -/
abbrev xBag (S : HS) (b : Int32) : Prop := ¬ b < 0 ∧ b < S 0 4
abbrev xFlt (S : HS) (f : Int32) : Prop := ¬ f < 0 ∧ f < S 0 3
abbrev xCh (c : Int32) : Prop := ¬ c < 0 ∧ ¬ 4 ≤ c
abbrev xM60 (z : Int32) : Prop := ¬ z < 1 ∧ ¬ 60 < z
abbrev xHand (S : HS) (b : Int32) : Prop := rd 40 (S 6) b = 3 ∨ rd 40 (S 6) b = 4

set_option maxHeartbeats 4000000 in
set_option maxRecDepth 100000 in
theorem metX4_isChute (l : Launch) {D : va_G} {k : Nat → ClassId} {ws : va_W} (c : Int32) : PM l yX4_isChute cX4_isChute 1 (some FieldType.boolean) rmX4_isChute D k ws [.int c] (some (.int (bI (xCh c)))) := by
  refine PM_of rfl (Nat.le_of_ble_eq_true rfl) ?_
  intro p e s m below meth c_ hC hr hlk hin hE hP ls hl
  have hC : CallFix p m c_ cX4_isChute 1 s _ lw_all RX4 := hC
  have hx := hC.1
  have hb := hC.2.1
  have hown : s.vm.findClass RX4 = some m.cls := hC.2.2.2.1
  have hts := hC.2.2.2.2
  have hl : lv_has ls 1 [(0, .int c)] := hl
  refine lv_iload_n hx hb dX4_isChute_0 rfl (lv_at hl 0 rfl) ?_
  refine lv_if_lt (tgt := 13) hx hb dX4_isChute_1 (by decide) (fun c_1 => ?_) (fun c_1 => ?_)
  · refine lv_iconst (v := 0) hx hb dX4_isChute_13 (by decide) ?_
    exact p_zret hx hb hr rfl hlk dX4_isChute_14 (by rw [bI_f (show ¬ (xCh c) from (fun h_ => (fun h_ => h_ c_1) h_.1))]; first | done | rfl)
  · refine lv_iload_n hx hb dX4_isChute_4 rfl (lv_at hl 0 rfl) ?_
    refine lv_iconst (v := 4) hx hb dX4_isChute_5 (by decide) ?_
    refine lv_icmp_ge (tgt := 13) hx hb dX4_isChute_6 (by decide) (fun c_2 => ?_) (fun c_2 => ?_)
    · refine lv_iconst (v := 0) hx hb dX4_isChute_13 (by decide) ?_
      exact p_zret hx hb hr rfl hlk dX4_isChute_14 (by rw [bI_f (show ¬ (xCh c) from (fun h_ => (fun h_ => h_ c_2) h_.2))]; first | done | rfl)
    · refine lv_iconst (v := 1) hx hb dX4_isChute_9 (by decide) ?_
      refine lv_goto (tgt := 14) hx hb dX4_isChute_10 (by decide) ?_
      exact p_zret hx hb hr rfl hlk dX4_isChute_14 (by rw [bI_t (show xCh c from ⟨c_1, c_2⟩)]; first | done | rfl)

set_option maxHeartbeats 4000000 in
set_option maxRecDepth 100000 in
theorem metX4_needBag (l : Launch) {D : va_G} {k : Nat → ClassId} {a tr : Nat → Nat} {x : Nat} {R : va_W} (S : HS) (i : Int32) (hok : xBag S i) : PM l yX4_needBag cX4_needBag 2 none rmX4_needBag D k (hw k a S ++ ((x, .inr (4, [.ref (a 0), .ref (tr 0)])) :: R)) [.ref x, .int i] none := by
  refine PM_of rfl (Nat.le_of_ble_eq_true rfl) ?_
  intro p e s m below meth c hC hr hlk hin hE hP ls hl
  have hC : CallFix p m c cX4_needBag 2 s _ lw_all RX4 := hC
  have hx := hC.1
  have hb := hC.2.1
  have hown : s.vm.findClass RX4 = some m.cls := hC.2.2.2.1
  have hts := hC.2.2.2.2
  have hl : lv_has ls 2 [(0, .ref x), (1, .int i)] := hl
  refine lv_iload_n hx hb dX4_needBag_0 rfl (lv_at hl 1 rfl) ?_
  refine lv_if_lt (tgt := 18) hx hb dX4_needBag_1 (by decide) (fun c_ => absurd c_ hok.1) (fun c_1 => ?_)
  refine lv_iload_n hx hb dX4_needBag_4 rfl (lv_at hl 1 rfl) ?_
  refine lv_aload_n hx hb dX4_needBag_5 rfl (lv_at hl 0 rfl) ?_
  refine va_get (D := D) (ci := 4) (v := .ref (a 0)) (C := RX4) (T := TX4) (N := 2) hx hb hts tu_4 hown hE.1 hP 29 xo_29 rfl 0 (by decide) (hts _ tw_150) (fun _ h9 => h9) rfl dX4_needBag_6 ?_
  refine va_get (D := D) (ci := 2) (v := .ref (a 2)) (C := RX2) (T := TX2) (N := 8) hx hb hts tu_2 hown hE.1 hP 0 hw_0 rfl 4 (by decide) (hts _ tw_127) (fun _ h9 => h9) rfl dX4_needBag_9 ?_
  refine va_get (D := D) (ci := 0) (v := .int (S 0 4)) (C := RX0) (T := TX0) (N := 9) hx hb hts tu_0 hown hE.1 hP 2 hw_2 rfl 0 (by decide) (hts _ tw_74) (fun _ h9 => h9) rfl dX4_needBag_12 ?_
  refine lv_icmp_lt (tgt := 28) hx hb dX4_needBag_15 (by decide) (fun c_2 => ?_) (fun c_ => absurd hok.2 c_)
  exact p_vret hx hb hr hlk dX4_needBag_28

set_option maxHeartbeats 4000000 in
set_option maxRecDepth 100000 in
theorem metX4_needFlight (l : Launch) {D : va_G} {k : Nat → ClassId} {a tr : Nat → Nat} {x : Nat} {R : va_W} (S : HS) (i : Int32) (hok : xFlt S i) : PM l yX4_needFlight cX4_needFlight 2 none rmX4_needFlight D k (hw k a S ++ ((x, .inr (4, [.ref (a 0), .ref (tr 0)])) :: R)) [.ref x, .int i] none := by
  refine PM_of rfl (Nat.le_of_ble_eq_true rfl) ?_
  intro p e s m below meth c hC hr hlk hin hE hP ls hl
  have hC : CallFix p m c cX4_needFlight 2 s _ lw_all RX4 := hC
  have hx := hC.1
  have hb := hC.2.1
  have hown : s.vm.findClass RX4 = some m.cls := hC.2.2.2.1
  have hts := hC.2.2.2.2
  have hl : lv_has ls 2 [(0, .ref x), (1, .int i)] := hl
  refine lv_iload_n hx hb dX4_needFlight_0 rfl (lv_at hl 1 rfl) ?_
  refine lv_if_lt (tgt := 18) hx hb dX4_needFlight_1 (by decide) (fun c_ => absurd c_ hok.1) (fun c_1 => ?_)
  refine lv_iload_n hx hb dX4_needFlight_4 rfl (lv_at hl 1 rfl) ?_
  refine lv_aload_n hx hb dX4_needFlight_5 rfl (lv_at hl 0 rfl) ?_
  refine va_get (D := D) (ci := 4) (v := .ref (a 0)) (C := RX4) (T := TX4) (N := 2) hx hb hts tu_4 hown hE.1 hP 29 xo_29 rfl 0 (by decide) (hts _ tw_150) (fun _ h9 => h9) rfl dX4_needFlight_6 ?_
  refine va_get (D := D) (ci := 2) (v := .ref (a 1)) (C := RX2) (T := TX2) (N := 8) hx hb hts tu_2 hown hE.1 hP 0 hw_0 rfl 3 (by decide) (hts _ tw_125) (fun _ h9 => h9) rfl dX4_needFlight_9 ?_
  refine va_get (D := D) (ci := 1) (v := .int (S 0 3)) (C := RX1) (T := TX1) (N := 3) hx hb hts tu_1 hown hE.1 hP 1 hw_1 rfl 0 (by decide) (hts _ tw_51) (fun _ h9 => h9) rfl dX4_needFlight_12 ?_
  refine lv_icmp_lt (tgt := 28) hx hb dX4_needFlight_15 (by decide) (fun c_2 => ?_) (fun c_ => absurd hok.2 c_)
  exact p_vret hx hb hr hlk dX4_needFlight_28

set_option maxHeartbeats 4000000 in
set_option maxRecDepth 100000 in
theorem metX4_needChute (l : Launch) {D : va_G} {k : Nat → ClassId} {ws : va_W} (i : Int32) (hok : xCh i) : PM l yX4_needChute cX4_needChute 1 none rmX4_needChute D k ws [.int i] none := by
  refine PM_of rfl (Nat.le_of_ble_eq_true rfl) ?_
  intro p e s m below meth c hC hr hlk hin hE hP ls hl
  have hC : CallFix p m c cX4_needChute 1 s _ lw_all RX4 := hC
  have hx := hC.1
  have hb := hC.2.1
  have hown : s.vm.findClass RX4 = some m.cls := hC.2.2.2.1
  have hts := hC.2.2.2.2
  have hl : lv_has ls 1 [(0, .int i)] := hl
  refine lv_iload_n hx hb dX4_needChute_0 rfl (lv_at hl 0 rfl) ?_
  refine c_pSi (rest := []) hC hE hP (metX4_isChute l i) gc_RX4_107 hd_X4_isChute ⟨rfl, rfl⟩ ⟨Nat.le_of_ble_eq_true rfl, Nat.le_of_ble_eq_true rfl⟩ rfl hl.1 (Nat.le_of_ble_eq_true rfl) ⟨Nat.le_of_ble_eq_true rfl, Nat.le_of_ble_eq_true rfl⟩ dX4_needChute_1 ?_
  refine lv_if_ne (tgt := 17) hx hb dX4_needChute_4 (by decide) (fun c_1 => ?_) (fun c_ => absurd hok (bI_0 c_))
  exact p_vret hx hb hr hlk dX4_needChute_17

set_option maxHeartbeats 4000000 in
set_option maxRecDepth 100000 in
theorem metX4_needMinutes (l : Launch) {D : va_G} {k : Nat → ClassId} {ws : va_W} (i : Int32) (hok : xM60 i) : PM l yX4_needMinutes cX4_needMinutes 1 none rmX4_needMinutes D k ws [.int i] none := by
  refine PM_of rfl (Nat.le_of_ble_eq_true rfl) ?_
  intro p e s m below meth c hC hr hlk hin hE hP ls hl
  have hC : CallFix p m c cX4_needMinutes 1 s _ lw_all RX4 := hC
  have hx := hC.1
  have hb := hC.2.1
  have hown : s.vm.findClass RX4 = some m.cls := hC.2.2.2.1
  have hts := hC.2.2.2.2
  have hl : lv_has ls 1 [(0, .int i)] := hl
  refine lv_iload_n hx hb dX4_needMinutes_0 rfl (lv_at hl 0 rfl) ?_
  refine lv_iconst (v := 1) hx hb dX4_needMinutes_1 (by decide) ?_
  refine lv_icmp_lt (tgt := 11) hx hb dX4_needMinutes_2 (by decide) (fun c_ => absurd c_ hok.1) (fun c_1 => ?_)
  refine lv_iload_n hx hb dX4_needMinutes_5 rfl (lv_at hl 0 rfl) ?_
  refine lv_bipush (v := 60) hx hb dX4_needMinutes_6 (by decide) ?_
  refine lv_icmp_le (tgt := 21) hx hb dX4_needMinutes_8 (by decide) (fun c_2 => ?_) (fun c_ => absurd (Int32.not_lt.mp hok.2) c_)
  exact p_vret hx hb hr hlk dX4_needMinutes_21

set_option maxHeartbeats 4000000 in
set_option maxRecDepth 100000 in
theorem metX4_needNotGone (l : Launch) {D : va_G} {k : Nat → ClassId} {a tr : Nat → Nat} {x : Nat} {R : va_W} (S : HS) (i : Int32) (hok : (¬ (xGone S i))) : PM l yX4_needNotGone cX4_needNotGone 2 none rmX4_needNotGone D k (hw k a S ++ ((x, .inr (4, [.ref (a 0), .ref (tr 0)])) :: R)) [.ref x, .int i] none := by
  refine PM_of rfl (Nat.le_of_ble_eq_true rfl) ?_
  intro p e s m below meth c hC hr hlk hin hE hP ls hl
  have hC : CallFix p m c cX4_needNotGone 2 s _ lw_all RX4 := hC
  have hx := hC.1
  have hb := hC.2.1
  have hown : s.vm.findClass RX4 = some m.cls := hC.2.2.2.1
  have hts := hC.2.2.2.2
  have hl : lv_has ls 2 [(0, .ref x), (1, .int i)] := hl
  refine lv_aload_n hx hb dX4_needNotGone_0 rfl (lv_at hl 0 rfl) ?_
  refine va_get (D := D) (ci := 4) (v := .ref (a 0)) (C := RX4) (T := TX4) (N := 2) hx hb hts tu_4 hown hE.1 hP 29 xo_29 rfl 0 (by decide) (hts _ tw_150) (fun _ h9 => h9) rfl dX4_needNotGone_1 ?_
  refine va_get (D := D) (ci := 2) (v := .ref (a 1)) (C := RX2) (T := TX2) (N := 8) hx hb hts tu_2 hown hE.1 hP 0 hw_0 rfl 3 (by decide) (hts _ tw_125) (fun _ h9 => h9) rfl dX4_needNotGone_4 ?_
  refine lv_iload_n hx hb dX4_needNotGone_7 rfl (lv_at hl 1 rfl) ?_
  refine c_pVi (rest := []) hC hE hP (metX1_hasLeft l S i) gc_RX4_119 hd_X1_hasLeft ⟨rfl, rfl⟩ ⟨Nat.le_of_ble_eq_true rfl, Nat.le_of_ble_eq_true rfl⟩ 1 hw_1 rfl rfl hl.1 (Nat.le_of_ble_eq_true rfl) ⟨Nat.le_of_ble_eq_true rfl, Nat.le_of_ble_eq_true rfl⟩ dX4_needNotGone_8 ?_
  refine lv_if_eq (tgt := 24) hx hb dX4_needNotGone_11 (by decide) (fun c_1 => ?_) (fun c_ => absurd (bI_n c_) hok)
  exact p_vret hx hb hr hlk dX4_needNotGone_24

set_option maxHeartbeats 4000000 in
set_option maxRecDepth 100000 in
theorem metX4_needInHand (l : Launch) {D : va_G} {k : Nat → ClassId} {a tr : Nat → Nat} {x : Nat} {R : va_W} (S : HS) (i : Int32) (hok : xHand S i) : PM l yX4_needInHand cX4_needInHand 3 none rmX4_needInHand D k (hw k a S ++ ((x, .inr (4, [.ref (a 0), .ref (tr 0)])) :: R)) [.ref x, .int i] none := by
  refine PM_of rfl (Nat.le_of_ble_eq_true rfl) ?_
  intro p e s m below meth c hC hr hlk hin hE hP ls hl
  have hC : CallFix p m c cX4_needInHand 3 s _ lw_all RX4 := hC
  have hx := hC.1
  have hb := hC.2.1
  have hown : s.vm.findClass RX4 = some m.cls := hC.2.2.2.1
  have hts := hC.2.2.2.2
  have hl : lv_has ls 3 [(0, .ref x), (1, .int i)] := hl
  refine lv_aload_n hx hb dX4_needInHand_0 rfl (lv_at hl 0 rfl) ?_
  refine va_get (D := D) (ci := 4) (v := .ref (a 0)) (C := RX4) (T := TX4) (N := 2) hx hb hts tu_4 hown hE.1 hP 29 xo_29 rfl 0 (by decide) (hts _ tw_150) (fun _ h9 => h9) rfl dX4_needInHand_1 ?_
  refine va_get (D := D) (ci := 2) (v := .ref (a 2)) (C := RX2) (T := TX2) (N := 8) hx hb hts tu_2 hown hE.1 hP 0 hw_0 rfl 4 (by decide) (hts _ tw_127) (fun _ h9 => h9) rfl dX4_needInHand_4 ?_
  refine va_get (D := D) (ci := 0) (v := .ref (a 11)) (C := RX0) (T := TX0) (N := 9) hx hb hts tu_0 hown hE.1 hP 2 hw_2 rfl 4 (by decide) (hts _ tw_84) (fun _ h9 => h9) rfl dX4_needInHand_7 ?_
  refine lv_iload_n hx hb dX4_needInHand_10 rfl (lv_at hl 1 rfl) ?_
  refine c_pVi (rest := []) hC hE hP (metX3_at l hw_11 hw_24 (by decide) i) gc_RX4_68 hd_X3_at ⟨rfl, rfl⟩ ⟨Nat.le_of_ble_eq_true rfl, Nat.le_of_ble_eq_true rfl⟩ 11 hw_11 rfl rfl hl.1 (Nat.le_of_ble_eq_true rfl) ⟨Nat.le_of_ble_eq_true rfl, Nat.le_of_ble_eq_true rfl⟩ dX4_needInHand_11 ?_
  refine lv_istore_n (lv' := [(2, .int (rd 40 (S 6) i)), (0, .ref x), (1, .int i)]) hx hb dX4_needInHand_14 rfl hl (by decide) rfl (fun ls hl => ?_)
  refine lv_iload_n hx hb dX4_needInHand_15 rfl (lv_at hl 0 rfl) ?_
  refine lv_iconst (v := 3) hx hb dX4_needInHand_16 (by decide) ?_
  refine lv_icmp_eq (tgt := 35) hx hb dX4_needInHand_17 (by decide) (fun c_1 => ?_) (fun c_1 => ?_)
  · exact p_vret hx hb hr hlk dX4_needInHand_35
  · refine lv_iload_n hx hb dX4_needInHand_20 rfl (lv_at hl 0 rfl) ?_
    refine lv_iconst (v := 4) hx hb dX4_needInHand_21 (by decide) ?_
    refine lv_icmp_eq (tgt := 35) hx hb dX4_needInHand_22 (by decide) (fun c_2 => ?_) (fun c_2 => ?_)
    · exact p_vret hx hb hr hlk dX4_needInHand_35
    · exact absurd hok (fun h_ => Or.elim h_ c_1 c_2)

set_option maxHeartbeats 4000000 in
set_option maxRecDepth 100000 in
theorem metX4_addFlight (l : Launch) {D : va_G} {k : Nat → ClassId} {a tr : Nat → Nat} {x : Nat} {R : va_W} (S : HS) (hk0 : S 0 3 < 6) : MM l yX4_addFlight cX4_addFlight 1 (some FieldType.int) rmX4_addFlight D k (hw k a S ++ ((x, .inr (4, [.ref (a 0), .ref (tr 0)])) :: R)) [.ref x] (some (.int (S 0 3))) (hw k a (xAddFl S) ++ ((x, .inr (4, [.ref (a 0), .ref (tr 0)])) :: R)) := by
  refine MM_of rfl (Nat.le_of_ble_eq_true rfl) ?_
  intro p e s m below meth c hC hr hlk hin hE hP hD hS ls hl
  have hC : CallFix p m c cX4_addFlight 1 s _ lw_all RX4 := hC
  have hx := hC.1
  have hb := hC.2.1
  have hown : s.vm.findClass RX4 = some m.cls := hC.2.2.2.1
  have hts := hC.2.2.2.2
  have hl : lv_has ls 1 [(0, .ref x)] := hl
  refine lv_aload_n hx hb dX4_addFlight_0 rfl (lv_at hl 0 rfl) ?_
  refine va_get (D := D) (ci := 4) (v := .ref (a 0)) (C := RX4) (T := TX4) (N := 2) hx hb hts tu_4 hown hE.1 hP 29 xo_29 rfl 0 (by decide) (hts _ tw_150) (fun _ h9 => h9) rfl dX4_addFlight_1 ?_
  refine va_get (D := D) (ci := 2) (v := .ref (a 1)) (C := RX2) (T := TX2) (N := 8) hx hb hts tu_2 hown hE.1 hP 0 hw_0 rfl 3 (by decide) (hts _ tw_125) (fun _ h9 => h9) rfl dX4_addFlight_4 ?_
  refine va_get (D := D) (ci := 1) (v := .int (S 0 3)) (C := RX1) (T := TX1) (N := 3) hx hb hts tu_1 hown hE.1 hP 1 hw_1 rfl 0 (by decide) (hts _ tw_51) (fun _ h9 => h9) rfl dX4_addFlight_7 ?_
  refine lv_bipush (v := 6) hx hb dX4_addFlight_10 (by decide) ?_
  refine lv_icmp_lt (tgt := 25) hx hb dX4_addFlight_12 (by decide) (fun c_1 => ?_) (fun c_ => absurd hk0 c_)
  refine lv_aload_n hx hb dX4_addFlight_25 rfl (lv_at hl 0 rfl) ?_
  refine va_get (D := D) (ci := 4) (v := .ref (a 0)) (C := RX4) (T := TX4) (N := 2) hx hb hts tu_4 hown hE.1 hP 29 xo_29 rfl 0 (by decide) (hts _ tw_150) (fun _ h9 => h9) rfl dX4_addFlight_26 ?_
  refine va_get (D := D) (ci := 2) (v := .ref (a 1)) (C := RX2) (T := TX2) (N := 8) hx hb hts tu_2 hown hE.1 hP 0 hw_0 rfl 3 (by decide) (hts _ tw_125) (fun _ h9 => h9) rfl dX4_addFlight_29 ?_
  refine c_mVi (rest := []) hC hE hP hD hS hw_same (metX1_addOne l S ) gc_RX4_36 hd_X1_addOne ⟨rfl, rfl⟩ ⟨Nat.le_of_ble_eq_true rfl, Nat.le_of_ble_eq_true rfl⟩ 1 hw_1 rfl rfl hl.1 (Nat.le_of_ble_eq_true rfl) ⟨Nat.le_of_ble_eq_true rfl, Nat.le_of_ble_eq_true rfl⟩ dX4_addFlight_32 (fun H locs hP hD hS => ?_)
  exact m_iret hx hb hr hlk dX4_addFlight_35 hP hS (rfl)

set_option maxHeartbeats 4000000 in
set_option maxRecDepth 100000 in
theorem metX4_giveChute (l : Launch) {D : va_G} {k : Nat → ClassId} {a tr : Nat → Nat} {x : Nat} {R : va_W} (S : HS) (f : Int32) (ch : Int32) (n : Nat) (hn4 : S 0 4 = nI n) (hn40 : n ≤ 40) (hk0 : xFlt S f) (hk1 : xCh ch) (hk2 : (¬ (xGone S f))) : MM l yX4_giveChute cX4_giveChute 3 (some FieldType.int) rmX4_giveChute D k (hw k a S ++ ((x, .inr (4, [.ref (a 0), .ref (tr 0)])) :: R)) [.ref x, .int f, .int ch] (some (.int (nI (xChgN S f ch n)))) (hw k a (xChg S f ch) ++ ((x, .inr (4, [.ref (a 0), .ref (tr 0)])) :: R)) := by
  refine MM_of rfl (Nat.le_of_ble_eq_true rfl) ?_
  intro p e s m below meth c hC hr hlk hin hE hP hD hS ls hl
  have hC : CallFix p m c cX4_giveChute 3 s _ lw_all RX4 := hC
  have hx := hC.1
  have hb := hC.2.1
  have hown : s.vm.findClass RX4 = some m.cls := hC.2.2.2.1
  have hts := hC.2.2.2.2
  have hl : lv_has ls 3 [(0, .ref x), (1, .int f), (2, .int ch)] := hl
  refine lv_aload_n hx hb dX4_giveChute_0 rfl (lv_at hl 0 rfl) ?_
  refine lv_iload_n hx hb dX4_giveChute_1 rfl (lv_at hl 1 rfl) ?_
  refine c_pVv (rest := []) hC hE hP (metX4_needFlight l S f (show xFlt S f from hk0)) gc_RX4_40 hd_X4_needFlight ⟨rfl, rfl⟩ ⟨Nat.le_of_ble_eq_true rfl, Nat.le_of_ble_eq_true rfl⟩ 29 xo_29 rfl rfl hl.1 (Nat.le_of_ble_eq_true rfl) ⟨Nat.le_of_ble_eq_true rfl, Nat.le_of_ble_eq_true rfl⟩ dX4_giveChute_2 ?_
  refine lv_iload_n hx hb dX4_giveChute_5 rfl (lv_at hl 2 rfl) ?_
  refine c_pSv (rest := []) hC hE hP (metX4_needChute l ch (show xCh ch from hk1)) gc_RX4_44 hd_X4_needChute ⟨rfl, rfl⟩ ⟨Nat.le_of_ble_eq_true rfl, Nat.le_of_ble_eq_true rfl⟩ rfl hl.1 (Nat.le_of_ble_eq_true rfl) ⟨Nat.le_of_ble_eq_true rfl, Nat.le_of_ble_eq_true rfl⟩ dX4_giveChute_6 ?_
  refine lv_aload_n hx hb dX4_giveChute_9 rfl (lv_at hl 0 rfl) ?_
  refine lv_iload_n hx hb dX4_giveChute_10 rfl (lv_at hl 1 rfl) ?_
  refine c_pVv (rest := []) hC hE hP (metX4_needNotGone l S f (show (¬ (xGone S f)) from hk2)) gc_RX4_47 hd_X4_needNotGone ⟨rfl, rfl⟩ ⟨Nat.le_of_ble_eq_true rfl, Nat.le_of_ble_eq_true rfl⟩ 29 xo_29 rfl rfl hl.1 (Nat.le_of_ble_eq_true rfl) ⟨Nat.le_of_ble_eq_true rfl, Nat.le_of_ble_eq_true rfl⟩ dX4_giveChute_11 ?_
  refine lv_aload_n hx hb dX4_giveChute_14 rfl (lv_at hl 0 rfl) ?_
  refine va_get (D := D) (ci := 4) (v := .ref (a 0)) (C := RX4) (T := TX4) (N := 2) hx hb hts tu_4 hown hE.1 hP 29 xo_29 rfl 0 (by decide) (hts _ tw_150) (fun _ h9 => h9) rfl dX4_giveChute_15 ?_
  refine lv_iload_n hx hb dX4_giveChute_18 rfl (lv_at hl 1 rfl) ?_
  refine lv_iload_n hx hb dX4_giveChute_19 rfl (lv_at hl 2 rfl) ?_
  refine c_mVi (rest := []) hC hE hP hD hS hw_same (metX2_changeChute l S f ch n hn4 hn40) gc_RX4_50 hd_X2_changeChute ⟨rfl, rfl⟩ ⟨Nat.le_of_ble_eq_true rfl, Nat.le_of_ble_eq_true rfl⟩ 0 hw_0 rfl rfl hl.1 (Nat.le_of_ble_eq_true rfl) ⟨Nat.le_of_ble_eq_true rfl, Nat.le_of_ble_eq_true rfl⟩ dX4_giveChute_20 (fun H locs hP hD hS => ?_)
  exact m_iret hx hb hr hlk dX4_giveChute_23 hP hS (rfl)

set_option maxHeartbeats 4000000 in
set_option maxRecDepth 100000 in
theorem metX4_setReader (l : Launch) {D : va_G} {k : Nat → ClassId} {a tr : Nat → Nat} {x : Nat} {R : va_W} (S : HS) (z : Int32) (hk0 : ((¬ (z < 0)) ∧ (¬ (9 < z)))) : MM l yX4_setReader cX4_setReader 3 (some FieldType.int) rmX4_setReader D k (hw k a S ++ ((x, .inr (4, [.ref (a 0), .ref (tr 0)])) :: R)) [.ref x, .int z] (some (.int (S 0 1))) (hw k a (sf S 0 (upd (S 0) 1 z)) ++ ((x, .inr (4, [.ref (a 0), .ref (tr 0)])) :: R)) := by
  refine MM_of rfl (Nat.le_of_ble_eq_true rfl) ?_
  intro p e s m below meth c hC hr hlk hin hE hP hD hS ls hl
  have hC : CallFix p m c cX4_setReader 3 s _ lw_all RX4 := hC
  have hx := hC.1
  have hb := hC.2.1
  have hown : s.vm.findClass RX4 = some m.cls := hC.2.2.2.1
  have hts := hC.2.2.2.2
  have hl : lv_has ls 3 [(0, .ref x), (1, .int z)] := hl
  refine lv_iload_n hx hb dX4_setReader_0 rfl (lv_at hl 1 rfl) ?_
  refine lv_if_lt (tgt := 10) hx hb dX4_setReader_1 (by decide) (fun c_ => absurd c_ hk0.1) (fun c_1 => ?_)
  refine lv_iload_n hx hb dX4_setReader_4 rfl (lv_at hl 1 rfl) ?_
  refine lv_bipush (v := 9) hx hb dX4_setReader_5 (by decide) ?_
  refine lv_icmp_le (tgt := 20) hx hb dX4_setReader_7 (by decide) (fun c_2 => ?_) (fun c_ => absurd (Int32.not_lt.mp hk0.2) c_)
  refine lv_aload_n hx hb dX4_setReader_20 rfl (lv_at hl 0 rfl) ?_
  refine va_get (D := D) (ci := 4) (v := .ref (a 0)) (C := RX4) (T := TX4) (N := 2) hx hb hts tu_4 hown hE.1 hP 29 xo_29 rfl 0 (by decide) (hts _ tw_150) (fun _ h9 => h9) rfl dX4_setReader_21 ?_
  refine va_get (D := D) (ci := 2) (v := .int (S 0 1)) (C := RX2) (T := TX2) (N := 8) hx hb hts tu_2 hown hE.1 hP 0 hw_0 rfl 1 (by decide) (hts _ tw_121) (fun _ h9 => h9) rfl dX4_setReader_24 ?_
  refine lv_istore_n (lv' := [(2, .int (S 0 1)), (0, .ref x), (1, .int z)]) hx hb dX4_setReader_27 rfl hl (by decide) rfl (fun ls hl => ?_)
  refine lv_aload_n hx hb dX4_setReader_28 rfl (lv_at hl 1 rfl) ?_
  refine va_get (D := D) (ci := 4) (v := .ref (a 0)) (C := RX4) (T := TX4) (N := 2) hx hb hts tu_4 hown hE.1 hP 29 xo_29 rfl 0 (by decide) (hts _ tw_150) (fun _ h9 => h9) rfl dX4_setReader_29 ?_
  refine lv_iload_n hx hb dX4_setReader_32 rfl (lv_at hl 2 rfl) ?_
  refine va_put (D := D) (ci := 2) (v := .int z) (ty := .int) (C := RX2) (T := TX2) (N := 8) hx hb hts tu_2 tyX2 tyX2_ok nmX2 hown hE.1 hP hD hS 0 hw_0 rfl 1 (by decide) (hts _ tw_121) (fun _ h9 => h9) rfl (by decide +kernel) rfl rfl (Nat.le_of_ble_eq_true rfl) dX4_setReader_33 (fun H locs hP hD hS => ?_)
  rw [hwp_01 (S := S) (v := z) (f := (upd (S 0) 1 z)) rfl] at hP hD
  refine lv_iload_n hx hb dX4_setReader_36 rfl (lv_at hl 0 rfl) ?_
  exact m_iret hx hb hr hlk dX4_setReader_37 hP hS (rfl)

set_option maxHeartbeats 4000000 in
set_option maxRecDepth 100000 in
theorem metX4_setRoom (l : Launch) {D : va_G} {k : Nat → ClassId} {a tr : Nat → Nat} {x : Nat} {R : va_W} (S : HS) (ch : Int32) (z : Int32) (hk0 : xCh ch) (hk1 : ((¬ (z < 1)) ∧ (¬ (20 < z)))) : MM l yX4_setRoom cX4_setRoom 4 (some FieldType.int) rmX4_setRoom D k (hw k a S ++ ((x, .inr (4, [.ref (a 0), .ref (tr 0)])) :: R)) [.ref x, .int ch, .int z] (some (.int (rd 4 (S 11) ch))) (hw k a (sf S 11 (wr 4 (S 11) ch z)) ++ ((x, .inr (4, [.ref (a 0), .ref (tr 0)])) :: R)) := by
  refine MM_of rfl (Nat.le_of_ble_eq_true rfl) ?_
  intro p e s m below meth c hC hr hlk hin hE hP hD hS ls hl
  have hC : CallFix p m c cX4_setRoom 4 s _ lw_all RX4 := hC
  have hx := hC.1
  have hb := hC.2.1
  have hown : s.vm.findClass RX4 = some m.cls := hC.2.2.2.1
  have hts := hC.2.2.2.2
  have hl : lv_has ls 4 [(0, .ref x), (1, .int ch), (2, .int z)] := hl
  refine lv_iload_n hx hb dX4_setRoom_0 rfl (lv_at hl 1 rfl) ?_
  refine c_pSv (rest := []) hC hE hP (metX4_needChute l ch (show xCh ch from hk0)) gc_RX4_44 hd_X4_needChute ⟨rfl, rfl⟩ ⟨Nat.le_of_ble_eq_true rfl, Nat.le_of_ble_eq_true rfl⟩ rfl hl.1 (Nat.le_of_ble_eq_true rfl) ⟨Nat.le_of_ble_eq_true rfl, Nat.le_of_ble_eq_true rfl⟩ dX4_setRoom_1 ?_
  refine lv_iload_n hx hb dX4_setRoom_4 rfl (lv_at hl 2 rfl) ?_
  refine lv_iconst (v := 1) hx hb dX4_setRoom_5 (by decide) ?_
  refine lv_icmp_lt (tgt := 15) hx hb dX4_setRoom_6 (by decide) (fun c_ => absurd c_ hk1.1) (fun c_1 => ?_)
  refine lv_iload_n hx hb dX4_setRoom_9 rfl (lv_at hl 2 rfl) ?_
  refine lv_bipush (v := 20) hx hb dX4_setRoom_10 (by decide) ?_
  refine lv_icmp_le (tgt := 25) hx hb dX4_setRoom_12 (by decide) (fun c_2 => ?_) (fun c_ => absurd (Int32.not_lt.mp hk1.2) c_)
  refine lv_aload_n hx hb dX4_setRoom_25 rfl (lv_at hl 0 rfl) ?_
  refine va_get (D := D) (ci := 4) (v := .ref (a 0)) (C := RX4) (T := TX4) (N := 2) hx hb hts tu_4 hown hE.1 hP 29 xo_29 rfl 0 (by decide) (hts _ tw_150) (fun _ h9 => h9) rfl dX4_setRoom_26 ?_
  refine va_get (D := D) (ci := 2) (v := .ref (a 3)) (C := RX2) (T := TX2) (N := 8) hx hb hts tu_2 hown hE.1 hP 0 hw_0 rfl 5 (by decide) (hts _ tw_129) (fun _ h9 => h9) rfl dX4_setRoom_29 ?_
  refine lv_iload_n hx hb dX4_setRoom_32 rfl (lv_at hl 1 rfl) ?_
  refine c_pVi (rest := []) hC hE hP (metX3_at l hw_3 hw_16 (by decide) ch) gc_RX4_68 hd_X3_at ⟨rfl, rfl⟩ ⟨Nat.le_of_ble_eq_true rfl, Nat.le_of_ble_eq_true rfl⟩ 3 hw_3 rfl rfl hl.1 (Nat.le_of_ble_eq_true rfl) ⟨Nat.le_of_ble_eq_true rfl, Nat.le_of_ble_eq_true rfl⟩ dX4_setRoom_33 ?_
  refine lv_istore_n (lv' := [(3, .int (rd 4 (S 11) ch)), (0, .ref x), (1, .int ch), (2, .int z)]) hx hb dX4_setRoom_36 rfl hl (by decide) rfl (fun ls hl => ?_)
  refine lv_aload_n hx hb dX4_setRoom_37 rfl (lv_at hl 1 rfl) ?_
  refine va_get (D := D) (ci := 4) (v := .ref (a 0)) (C := RX4) (T := TX4) (N := 2) hx hb hts tu_4 hown hE.1 hP 29 xo_29 rfl 0 (by decide) (hts _ tw_150) (fun _ h9 => h9) rfl dX4_setRoom_38 ?_
  refine va_get (D := D) (ci := 2) (v := .ref (a 3)) (C := RX2) (T := TX2) (N := 8) hx hb hts tu_2 hown hE.1 hP 0 hw_0 rfl 5 (by decide) (hts _ tw_129) (fun _ h9 => h9) rfl dX4_setRoom_41 ?_
  refine lv_iload_n hx hb dX4_setRoom_44 rfl (lv_at hl 2 rfl) ?_
  refine lv_iload_n hx hb dX4_setRoom_45 rfl (lv_at hl 3 rfl) ?_
  refine c_mVv (rest := []) hC hE hP hD hS hw_same (metX3_put l (ws' := (hw k a (sf S 11 (wr 4 (S 11) ch z)) ++ ((x, .inr (4, [.ref (a 0), .ref (tr 0)])) :: R))) hw_3 hw_16 (by decide) ch z hws_11) gc_RX4_74 hd_X3_put ⟨rfl, rfl⟩ ⟨Nat.le_of_ble_eq_true rfl, Nat.le_of_ble_eq_true rfl⟩ 3 hw_3 rfl rfl hl.1 (Nat.le_of_ble_eq_true rfl) ⟨Nat.le_of_ble_eq_true rfl, Nat.le_of_ble_eq_true rfl⟩ dX4_setRoom_46 (fun H locs hP hD hS => ?_)
  refine lv_iload_n hx hb dX4_setRoom_49 rfl (lv_at hl 0 rfl) ?_
  exact m_iret hx hb hr hlk dX4_setRoom_50 hP hS (rfl)

set_option maxHeartbeats 4000000 in
set_option maxRecDepth 100000 in
theorem metX4_checkIn (l : Launch) {D : va_G} {k : Nat → ClassId} {a tr : Nat → Nat} {x : Nat} {R : va_W} (S : HS) (f : Int32) (z : Int32) (v : Int32) (hk0 : xFlt S f) (hk1 : ((¬ (z < 1)) ∧ (¬ (9 < z)) ∧ (¬ (v < 0)) ∧ (¬ (9 < v)))) (hk2 : S 0 4 < 40) (hk3 : (¬ (xGone S f))) : MM l yX4_checkIn cX4_checkIn 5 (some FieldType.int) rmX4_checkIn D k (hw k a S ++ ((x, .inr (4, [.ref (a 0), .ref (tr 0)])) :: R)) [.ref x, .int f, .int z, .int v] (some (.int (S 0 4))) (hw k a (xTakeIn (xAddBg S f z v) (S 0 4)) ++ ((x, .inr (4, [.ref (a 0), .ref (tr 0)])) :: R)) := by
  refine MM_of rfl (Nat.le_of_ble_eq_true rfl) ?_
  intro p e s m below meth c hC hr hlk hin hE hP hD hS ls hl
  have hC : CallFix p m c cX4_checkIn 5 s _ lw_all RX4 := hC
  have hx := hC.1
  have hb := hC.2.1
  have hown : s.vm.findClass RX4 = some m.cls := hC.2.2.2.1
  have hts := hC.2.2.2.2
  have hl : lv_has ls 5 [(0, .ref x), (1, .int f), (2, .int z), (3, .int v)] := hl
  refine lv_aload_n hx hb dX4_checkIn_0 rfl (lv_at hl 0 rfl) ?_
  refine lv_iload_n hx hb dX4_checkIn_1 rfl (lv_at hl 1 rfl) ?_
  refine c_pVv (rest := []) hC hE hP (metX4_needFlight l S f (show xFlt S f from hk0)) gc_RX4_40 hd_X4_needFlight ⟨rfl, rfl⟩ ⟨Nat.le_of_ble_eq_true rfl, Nat.le_of_ble_eq_true rfl⟩ 29 xo_29 rfl rfl hl.1 (Nat.le_of_ble_eq_true rfl) ⟨Nat.le_of_ble_eq_true rfl, Nat.le_of_ble_eq_true rfl⟩ dX4_checkIn_2 ?_
  refine lv_iload_n hx hb dX4_checkIn_5 rfl (lv_at hl 2 rfl) ?_
  refine lv_iconst (v := 1) hx hb dX4_checkIn_6 (by decide) ?_
  refine lv_icmp_lt (tgt := 26) hx hb dX4_checkIn_7 (by decide) (fun c_ => absurd c_ hk1.1) (fun c_1 => ?_)
  refine lv_iload_n hx hb dX4_checkIn_10 rfl (lv_at hl 2 rfl) ?_
  refine lv_bipush (v := 9) hx hb dX4_checkIn_11 (by decide) ?_
  refine lv_icmp_gt (tgt := 26) hx hb dX4_checkIn_13 (by decide) (fun c_ => absurd c_ hk1.2.1) (fun c_2 => ?_)
  refine lv_iload_n hx hb dX4_checkIn_16 rfl (lv_at hl 3 rfl) ?_
  refine lv_if_lt (tgt := 26) hx hb dX4_checkIn_17 (by decide) (fun c_ => absurd c_ hk1.2.2.1) (fun c_3 => ?_)
  refine lv_iload_n hx hb dX4_checkIn_20 rfl (lv_at hl 3 rfl) ?_
  refine lv_bipush (v := 9) hx hb dX4_checkIn_21 (by decide) ?_
  refine lv_icmp_le (tgt := 36) hx hb dX4_checkIn_23 (by decide) (fun c_4 => ?_) (fun c_ => absurd (Int32.not_lt.mp hk1.2.2.2) c_)
  refine lv_aload_n hx hb dX4_checkIn_36 rfl (lv_at hl 0 rfl) ?_
  refine va_get (D := D) (ci := 4) (v := .ref (a 0)) (C := RX4) (T := TX4) (N := 2) hx hb hts tu_4 hown hE.1 hP 29 xo_29 rfl 0 (by decide) (hts _ tw_150) (fun _ h9 => h9) rfl dX4_checkIn_37 ?_
  refine va_get (D := D) (ci := 2) (v := .ref (a 2)) (C := RX2) (T := TX2) (N := 8) hx hb hts tu_2 hown hE.1 hP 0 hw_0 rfl 4 (by decide) (hts _ tw_127) (fun _ h9 => h9) rfl dX4_checkIn_40 ?_
  refine va_get (D := D) (ci := 0) (v := .int (S 0 4)) (C := RX0) (T := TX0) (N := 9) hx hb hts tu_0 hown hE.1 hP 2 hw_2 rfl 0 (by decide) (hts _ tw_74) (fun _ h9 => h9) rfl dX4_checkIn_43 ?_
  refine lv_bipush (v := 40) hx hb dX4_checkIn_46 (by decide) ?_
  refine lv_icmp_lt (tgt := 61) hx hb dX4_checkIn_48 (by decide) (fun c_5 => ?_) (fun c_ => absurd hk2 c_)
  refine lv_aload_n hx hb dX4_checkIn_61 rfl (lv_at hl 0 rfl) ?_
  refine lv_iload_n hx hb dX4_checkIn_62 rfl (lv_at hl 1 rfl) ?_
  refine c_pVv (rest := []) hC hE hP (metX4_needNotGone l S f (show (¬ (xGone S f)) from hk3)) gc_RX4_47 hd_X4_needNotGone ⟨rfl, rfl⟩ ⟨Nat.le_of_ble_eq_true rfl, Nat.le_of_ble_eq_true rfl⟩ 29 xo_29 rfl rfl hl.1 (Nat.le_of_ble_eq_true rfl) ⟨Nat.le_of_ble_eq_true rfl, Nat.le_of_ble_eq_true rfl⟩ dX4_checkIn_63 ?_
  refine lv_aload_n hx hb dX4_checkIn_66 rfl (lv_at hl 0 rfl) ?_
  refine va_get (D := D) (ci := 4) (v := .ref (a 0)) (C := RX4) (T := TX4) (N := 2) hx hb hts tu_4 hown hE.1 hP 29 xo_29 rfl 0 (by decide) (hts _ tw_150) (fun _ h9 => h9) rfl dX4_checkIn_67 ?_
  refine va_get (D := D) (ci := 2) (v := .ref (a 2)) (C := RX2) (T := TX2) (N := 8) hx hb hts tu_2 hown hE.1 hP 0 hw_0 rfl 4 (by decide) (hts _ tw_127) (fun _ h9 => h9) rfl dX4_checkIn_70 ?_
  refine lv_iload_n hx hb dX4_checkIn_73 rfl (lv_at hl 1 rfl) ?_
  refine lv_iload_n hx hb dX4_checkIn_74 rfl (lv_at hl 2 rfl) ?_
  refine lv_iload_n hx hb dX4_checkIn_75 rfl (lv_at hl 3 rfl) ?_
  refine c_mVi (rest := []) hC hE hP hD hS hw_same (metX0_addOne l S f z v) gc_RX4_89 hd_X0_addOne ⟨rfl, rfl⟩ ⟨Nat.le_of_ble_eq_true rfl, Nat.le_of_ble_eq_true rfl⟩ 2 hw_2 rfl rfl hl.1 (Nat.le_of_ble_eq_true rfl) ⟨Nat.le_of_ble_eq_true rfl, Nat.le_of_ble_eq_true rfl⟩ dX4_checkIn_76 (fun H locs hP hD hS => ?_)
  refine lv_istore (lv' := [(4, .int (S 0 4)), (0, .ref x), (1, .int f), (2, .int z), (3, .int v)]) hx hb dX4_checkIn_79 hl (by decide) rfl (fun ls hl => ?_)
  refine lv_aload_n hx hb dX4_checkIn_81 rfl (lv_at hl 1 rfl) ?_
  refine va_get (D := D) (ci := 4) (v := .ref (a 0)) (C := RX4) (T := TX4) (N := 2) hx hb hts tu_4 hown hE.1 hP 29 xo_29 rfl 0 (by decide) (hts _ tw_150) (fun _ h9 => h9) rfl dX4_checkIn_82 ?_
  refine lv_iload hx hb dX4_checkIn_85 (lv_at hl 0 rfl) ?_
  refine c_mVv (rest := []) hC hE hP hD hS hw_same (metX2_takeIn l (xAddBg S f z v) (S 0 4)) gc_RX4_92 hd_X2_takeIn ⟨rfl, rfl⟩ ⟨Nat.le_of_ble_eq_true rfl, Nat.le_of_ble_eq_true rfl⟩ 0 hw_0 rfl rfl hl.1 (Nat.le_of_ble_eq_true rfl) ⟨Nat.le_of_ble_eq_true rfl, Nat.le_of_ble_eq_true rfl⟩ dX4_checkIn_87 (fun H locs hP hD hS => ?_)
  refine lv_iload hx hb dX4_checkIn_90 (lv_at hl 0 rfl) ?_
  exact m_iret hx hb hr hlk dX4_checkIn_92 hP hS (rfl)

set_option maxHeartbeats 4000000 in
set_option maxRecDepth 100000 in
theorem metX4_carry (l : Launch) {D : va_G} {k : Nat → ClassId} {a tr : Nat → Nat} {x : Nat} {R : va_W} (S : HS) (b : Int32) (hk0 : xBag S b) (hk1 : xHand S b) (hk2 : (¬ (xGone S (rd 40 (S 3) b)))) (hk3 : (xCh (rd 6 (S 1) (rd 40 (S 3) b)) ∧ xRoom S (rd 6 (S 1) (rd 40 (S 3) b)))) : MM l yX4_carry cX4_carry 4 (some FieldType.int) rmX4_carry D k (hw k a S ++ ((x, .inr (4, [.ref (a 0), .ref (tr 0)])) :: R)) [.ref x, .int b] (some (.int (rd 6 (S 1) (rd 40 (S 3) b)))) (hw k a (xPut S b (rd 6 (S 1) (rd 40 (S 3) b))) ++ ((x, .inr (4, [.ref (a 0), .ref (tr 0)])) :: R)) := by
  refine MM_of rfl (Nat.le_of_ble_eq_true rfl) ?_
  intro p e s m below meth c hC hr hlk hin hE hP hD hS ls hl
  have hC : CallFix p m c cX4_carry 4 s _ lw_all RX4 := hC
  have hx := hC.1
  have hb := hC.2.1
  have hown : s.vm.findClass RX4 = some m.cls := hC.2.2.2.1
  have hts := hC.2.2.2.2
  have hl : lv_has ls 4 [(0, .ref x), (1, .int b)] := hl
  refine lv_aload_n hx hb dX4_carry_0 rfl (lv_at hl 0 rfl) ?_
  refine lv_iload_n hx hb dX4_carry_1 rfl (lv_at hl 1 rfl) ?_
  refine c_pVv (rest := []) hC hE hP (metX4_needBag l S b (show xBag S b from hk0)) gc_RX4_95 hd_X4_needBag ⟨rfl, rfl⟩ ⟨Nat.le_of_ble_eq_true rfl, Nat.le_of_ble_eq_true rfl⟩ 29 xo_29 rfl rfl hl.1 (Nat.le_of_ble_eq_true rfl) ⟨Nat.le_of_ble_eq_true rfl, Nat.le_of_ble_eq_true rfl⟩ dX4_carry_2 ?_
  refine lv_aload_n hx hb dX4_carry_5 rfl (lv_at hl 0 rfl) ?_
  refine lv_iload_n hx hb dX4_carry_6 rfl (lv_at hl 1 rfl) ?_
  refine c_pVv (rest := []) hC hE hP (metX4_needInHand l S b (show xHand S b from hk1)) gc_RX4_98 hd_X4_needInHand ⟨rfl, rfl⟩ ⟨Nat.le_of_ble_eq_true rfl, Nat.le_of_ble_eq_true rfl⟩ 29 xo_29 rfl rfl hl.1 (Nat.le_of_ble_eq_true rfl) ⟨Nat.le_of_ble_eq_true rfl, Nat.le_of_ble_eq_true rfl⟩ dX4_carry_7 ?_
  refine lv_aload_n hx hb dX4_carry_10 rfl (lv_at hl 0 rfl) ?_
  refine va_get (D := D) (ci := 4) (v := .ref (a 0)) (C := RX4) (T := TX4) (N := 2) hx hb hts tu_4 hown hE.1 hP 29 xo_29 rfl 0 (by decide) (hts _ tw_150) (fun _ h9 => h9) rfl dX4_carry_11 ?_
  refine va_get (D := D) (ci := 2) (v := .ref (a 2)) (C := RX2) (T := TX2) (N := 8) hx hb hts tu_2 hown hE.1 hP 0 hw_0 rfl 4 (by decide) (hts _ tw_127) (fun _ h9 => h9) rfl dX4_carry_14 ?_
  refine va_get (D := D) (ci := 0) (v := .ref (a 8)) (C := RX0) (T := TX0) (N := 9) hx hb hts tu_0 hown hE.1 hP 2 hw_2 rfl 1 (by decide) (hts _ tw_77) (fun _ h9 => h9) rfl dX4_carry_17 ?_
  refine lv_iload_n hx hb dX4_carry_20 rfl (lv_at hl 1 rfl) ?_
  refine c_pVi (rest := []) hC hE hP (metX3_at l hw_8 hw_21 (by decide) b) gc_RX4_68 hd_X3_at ⟨rfl, rfl⟩ ⟨Nat.le_of_ble_eq_true rfl, Nat.le_of_ble_eq_true rfl⟩ 8 hw_8 rfl rfl hl.1 (Nat.le_of_ble_eq_true rfl) ⟨Nat.le_of_ble_eq_true rfl, Nat.le_of_ble_eq_true rfl⟩ dX4_carry_21 ?_
  refine lv_istore_n (lv' := [(2, .int (rd 40 (S 3) b)), (0, .ref x), (1, .int b)]) hx hb dX4_carry_24 rfl hl (by decide) rfl (fun ls hl => ?_)
  refine lv_aload_n hx hb dX4_carry_25 rfl (lv_at hl 1 rfl) ?_
  refine lv_iload_n hx hb dX4_carry_26 rfl (lv_at hl 0 rfl) ?_
  refine c_pVv (rest := []) hC hE hP (metX4_needNotGone l S (rd 40 (S 3) b) (show (¬ (xGone S (rd 40 (S 3) b))) from hk2)) gc_RX4_47 hd_X4_needNotGone ⟨rfl, rfl⟩ ⟨Nat.le_of_ble_eq_true rfl, Nat.le_of_ble_eq_true rfl⟩ 29 xo_29 rfl rfl hl.1 (Nat.le_of_ble_eq_true rfl) ⟨Nat.le_of_ble_eq_true rfl, Nat.le_of_ble_eq_true rfl⟩ dX4_carry_27 ?_
  refine lv_aload_n hx hb dX4_carry_30 rfl (lv_at hl 1 rfl) ?_
  refine va_get (D := D) (ci := 4) (v := .ref (a 0)) (C := RX4) (T := TX4) (N := 2) hx hb hts tu_4 hown hE.1 hP 29 xo_29 rfl 0 (by decide) (hts _ tw_150) (fun _ h9 => h9) rfl dX4_carry_31 ?_
  refine va_get (D := D) (ci := 2) (v := .ref (a 1)) (C := RX2) (T := TX2) (N := 8) hx hb hts tu_2 hown hE.1 hP 0 hw_0 rfl 3 (by decide) (hts _ tw_125) (fun _ h9 => h9) rfl dX4_carry_34 ?_
  refine va_get (D := D) (ci := 1) (v := .ref (a 6)) (C := RX1) (T := TX1) (N := 3) hx hb hts tu_1 hown hE.1 hP 1 hw_1 rfl 1 (by decide) (hts _ tw_54) (fun _ h9 => h9) rfl dX4_carry_37 ?_
  refine lv_iload_n hx hb dX4_carry_40 rfl (lv_at hl 0 rfl) ?_
  refine c_pVi (rest := []) hC hE hP (metX3_at l hw_6 hw_19 (by decide) (rd 40 (S 3) b)) gc_RX4_68 hd_X3_at ⟨rfl, rfl⟩ ⟨Nat.le_of_ble_eq_true rfl, Nat.le_of_ble_eq_true rfl⟩ 6 hw_6 rfl rfl hl.1 (Nat.le_of_ble_eq_true rfl) ⟨Nat.le_of_ble_eq_true rfl, Nat.le_of_ble_eq_true rfl⟩ dX4_carry_41 ?_
  refine lv_istore_n (lv' := [(3, .int (rd 6 (S 1) (rd 40 (S 3) b))), (2, .int (rd 40 (S 3) b)), (0, .ref x), (1, .int b)]) hx hb dX4_carry_44 rfl hl (by decide) rfl (fun ls hl => ?_)
  refine lv_iload_n hx hb dX4_carry_45 rfl (lv_at hl 0 rfl) ?_
  refine c_pSi (rest := []) hC hE hP (metX4_isChute l (rd 6 (S 1) (rd 40 (S 3) b))) gc_RX4_107 hd_X4_isChute ⟨rfl, rfl⟩ ⟨Nat.le_of_ble_eq_true rfl, Nat.le_of_ble_eq_true rfl⟩ rfl hl.1 (Nat.le_of_ble_eq_true rfl) ⟨Nat.le_of_ble_eq_true rfl, Nat.le_of_ble_eq_true rfl⟩ dX4_carry_46 ?_
  refine lv_if_eq (tgt := 63) hx hb dX4_carry_49 (by decide) (fun c_ => absurd hk3.1 (bI_0 c_)) (fun c_1 => ?_)
  refine lv_aload_n hx hb dX4_carry_52 rfl (lv_at hl 2 rfl) ?_
  refine va_get (D := D) (ci := 4) (v := .ref (a 0)) (C := RX4) (T := TX4) (N := 2) hx hb hts tu_4 hown hE.1 hP 29 xo_29 rfl 0 (by decide) (hts _ tw_150) (fun _ h9 => h9) rfl dX4_carry_53 ?_
  refine lv_iload_n hx hb dX4_carry_56 rfl (lv_at hl 0 rfl) ?_
  refine c_pVi (rest := []) hC hE hP (metX2_hasRoom l S (rd 6 (S 1) (rd 40 (S 3) b))) gc_RX4_111 hd_X2_hasRoom ⟨rfl, rfl⟩ ⟨Nat.le_of_ble_eq_true rfl, Nat.le_of_ble_eq_true rfl⟩ 0 hw_0 rfl rfl hl.1 (Nat.le_of_ble_eq_true rfl) ⟨Nat.le_of_ble_eq_true rfl, Nat.le_of_ble_eq_true rfl⟩ dX4_carry_57 ?_
  refine lv_if_ne (tgt := 73) hx hb dX4_carry_60 (by decide) (fun c_2 => ?_) (fun c_ => absurd hk3.2 (bI_0 c_))
  refine lv_aload_n hx hb dX4_carry_73 rfl (lv_at hl 2 rfl) ?_
  refine va_get (D := D) (ci := 4) (v := .ref (a 0)) (C := RX4) (T := TX4) (N := 2) hx hb hts tu_4 hown hE.1 hP 29 xo_29 rfl 0 (by decide) (hts _ tw_150) (fun _ h9 => h9) rfl dX4_carry_74 ?_
  refine va_get (D := D) (ci := 2) (v := .ref (a 2)) (C := RX2) (T := TX2) (N := 8) hx hb hts tu_2 hown hE.1 hP 0 hw_0 rfl 4 (by decide) (hts _ tw_127) (fun _ h9 => h9) rfl dX4_carry_77 ?_
  refine lv_iload_n hx hb dX4_carry_80 rfl (lv_at hl 3 rfl) ?_
  refine lv_iload_n hx hb dX4_carry_81 rfl (lv_at hl 0 rfl) ?_
  refine c_mVv (rest := []) hC hE hP hD hS hw_same (metX0_putIntoChute l S b (rd 6 (S 1) (rd 40 (S 3) b))) gc_RX4_116 hd_X0_putIntoChute ⟨rfl, rfl⟩ ⟨Nat.le_of_ble_eq_true rfl, Nat.le_of_ble_eq_true rfl⟩ 2 hw_2 rfl rfl hl.1 (Nat.le_of_ble_eq_true rfl) ⟨Nat.le_of_ble_eq_true rfl, Nat.le_of_ble_eq_true rfl⟩ dX4_carry_82 (fun H locs hP hD hS => ?_)
  refine lv_iload_n hx hb dX4_carry_85 rfl (lv_at hl 0 rfl) ?_
  exact m_iret hx hb hr hlk dX4_carry_86 hP hS (rfl)

set_option maxHeartbeats 4000000 in
set_option maxRecDepth 100000 in
theorem metX4_forward (l : Launch) {D : va_G} {k : Nat → ClassId} {a tr : Nat → Nat} {x : Nat} {R : va_W} (S : HS) (b : Int32) (f : Int32) (hk0 : xBag S b) (hk1 : xFlt S f) (hk2 : xHand S b) (hk3 : xGone S (rd 40 (S 3) b)) (hk4 : (¬ (xGone S f))) : MM l yX4_forward cX4_forward 3 (some FieldType.int) rmX4_forward D k (hw k a S ++ ((x, .inr (4, [.ref (a 0), .ref (tr 0)])) :: R)) [.ref x, .int b, .int f] (some (.int ((xTakeIn (xRenew S b f) b) 0 2))) (hw k a (xTakeIn (xRenew S b f) b) ++ ((x, .inr (4, [.ref (a 0), .ref (tr 0)])) :: R)) := by
  refine MM_of rfl (Nat.le_of_ble_eq_true rfl) ?_
  intro p e s m below meth c hC hr hlk hin hE hP hD hS ls hl
  have hC : CallFix p m c cX4_forward 3 s _ lw_all RX4 := hC
  have hx := hC.1
  have hb := hC.2.1
  have hown : s.vm.findClass RX4 = some m.cls := hC.2.2.2.1
  have hts := hC.2.2.2.2
  have hl : lv_has ls 3 [(0, .ref x), (1, .int b), (2, .int f)] := hl
  refine lv_aload_n hx hb dX4_forward_0 rfl (lv_at hl 0 rfl) ?_
  refine lv_iload_n hx hb dX4_forward_1 rfl (lv_at hl 1 rfl) ?_
  refine c_pVv (rest := []) hC hE hP (metX4_needBag l S b (show xBag S b from hk0)) gc_RX4_95 hd_X4_needBag ⟨rfl, rfl⟩ ⟨Nat.le_of_ble_eq_true rfl, Nat.le_of_ble_eq_true rfl⟩ 29 xo_29 rfl rfl hl.1 (Nat.le_of_ble_eq_true rfl) ⟨Nat.le_of_ble_eq_true rfl, Nat.le_of_ble_eq_true rfl⟩ dX4_forward_2 ?_
  refine lv_aload_n hx hb dX4_forward_5 rfl (lv_at hl 0 rfl) ?_
  refine lv_iload_n hx hb dX4_forward_6 rfl (lv_at hl 2 rfl) ?_
  refine c_pVv (rest := []) hC hE hP (metX4_needFlight l S f (show xFlt S f from hk1)) gc_RX4_40 hd_X4_needFlight ⟨rfl, rfl⟩ ⟨Nat.le_of_ble_eq_true rfl, Nat.le_of_ble_eq_true rfl⟩ 29 xo_29 rfl rfl hl.1 (Nat.le_of_ble_eq_true rfl) ⟨Nat.le_of_ble_eq_true rfl, Nat.le_of_ble_eq_true rfl⟩ dX4_forward_7 ?_
  refine lv_aload_n hx hb dX4_forward_10 rfl (lv_at hl 0 rfl) ?_
  refine lv_iload_n hx hb dX4_forward_11 rfl (lv_at hl 1 rfl) ?_
  refine c_pVv (rest := []) hC hE hP (metX4_needInHand l S b (show xHand S b from hk2)) gc_RX4_98 hd_X4_needInHand ⟨rfl, rfl⟩ ⟨Nat.le_of_ble_eq_true rfl, Nat.le_of_ble_eq_true rfl⟩ 29 xo_29 rfl rfl hl.1 (Nat.le_of_ble_eq_true rfl) ⟨Nat.le_of_ble_eq_true rfl, Nat.le_of_ble_eq_true rfl⟩ dX4_forward_12 ?_
  refine lv_aload_n hx hb dX4_forward_15 rfl (lv_at hl 0 rfl) ?_
  refine va_get (D := D) (ci := 4) (v := .ref (a 0)) (C := RX4) (T := TX4) (N := 2) hx hb hts tu_4 hown hE.1 hP 29 xo_29 rfl 0 (by decide) (hts _ tw_150) (fun _ h9 => h9) rfl dX4_forward_16 ?_
  refine va_get (D := D) (ci := 2) (v := .ref (a 1)) (C := RX2) (T := TX2) (N := 8) hx hb hts tu_2 hown hE.1 hP 0 hw_0 rfl 3 (by decide) (hts _ tw_125) (fun _ h9 => h9) rfl dX4_forward_19 ?_
  refine lv_aload_n hx hb dX4_forward_22 rfl (lv_at hl 0 rfl) ?_
  refine va_get (D := D) (ci := 4) (v := .ref (a 0)) (C := RX4) (T := TX4) (N := 2) hx hb hts tu_4 hown hE.1 hP 29 xo_29 rfl 0 (by decide) (hts _ tw_150) (fun _ h9 => h9) rfl dX4_forward_23 ?_
  refine va_get (D := D) (ci := 2) (v := .ref (a 2)) (C := RX2) (T := TX2) (N := 8) hx hb hts tu_2 hown hE.1 hP 0 hw_0 rfl 4 (by decide) (hts _ tw_127) (fun _ h9 => h9) rfl dX4_forward_26 ?_
  refine va_get (D := D) (ci := 0) (v := .ref (a 8)) (C := RX0) (T := TX0) (N := 9) hx hb hts tu_0 hown hE.1 hP 2 hw_2 rfl 1 (by decide) (hts _ tw_77) (fun _ h9 => h9) rfl dX4_forward_29 ?_
  refine lv_iload_n hx hb dX4_forward_32 rfl (lv_at hl 1 rfl) ?_
  refine c_pVi (rest := [.ref (a 1)]) hC hE hP (metX3_at l hw_8 hw_21 (by decide) b) gc_RX4_68 hd_X3_at ⟨rfl, rfl⟩ ⟨Nat.le_of_ble_eq_true rfl, Nat.le_of_ble_eq_true rfl⟩ 8 hw_8 rfl rfl hl.1 (Nat.le_of_ble_eq_true rfl) ⟨Nat.le_of_ble_eq_true rfl, Nat.le_of_ble_eq_true rfl⟩ dX4_forward_33 ?_
  refine c_pVi (rest := []) hC hE hP (metX1_hasLeft l S (rd 40 (S 3) b)) gc_RX4_119 hd_X1_hasLeft ⟨rfl, rfl⟩ ⟨Nat.le_of_ble_eq_true rfl, Nat.le_of_ble_eq_true rfl⟩ 1 hw_1 rfl rfl hl.1 (Nat.le_of_ble_eq_true rfl) ⟨Nat.le_of_ble_eq_true rfl, Nat.le_of_ble_eq_true rfl⟩ dX4_forward_36 ?_
  refine lv_if_ne (tgt := 52) hx hb dX4_forward_39 (by decide) (fun c_1 => ?_) (fun c_ => absurd hk3 (bI_0 c_))
  refine lv_aload_n hx hb dX4_forward_52 rfl (lv_at hl 0 rfl) ?_
  refine lv_iload_n hx hb dX4_forward_53 rfl (lv_at hl 2 rfl) ?_
  refine c_pVv (rest := []) hC hE hP (metX4_needNotGone l S f (show (¬ (xGone S f)) from hk4)) gc_RX4_47 hd_X4_needNotGone ⟨rfl, rfl⟩ ⟨Nat.le_of_ble_eq_true rfl, Nat.le_of_ble_eq_true rfl⟩ 29 xo_29 rfl rfl hl.1 (Nat.le_of_ble_eq_true rfl) ⟨Nat.le_of_ble_eq_true rfl, Nat.le_of_ble_eq_true rfl⟩ dX4_forward_54 ?_
  refine lv_aload_n hx hb dX4_forward_57 rfl (lv_at hl 0 rfl) ?_
  refine va_get (D := D) (ci := 4) (v := .ref (a 0)) (C := RX4) (T := TX4) (N := 2) hx hb hts tu_4 hown hE.1 hP 29 xo_29 rfl 0 (by decide) (hts _ tw_150) (fun _ h9 => h9) rfl dX4_forward_58 ?_
  refine va_get (D := D) (ci := 2) (v := .ref (a 2)) (C := RX2) (T := TX2) (N := 8) hx hb hts tu_2 hown hE.1 hP 0 hw_0 rfl 4 (by decide) (hts _ tw_127) (fun _ h9 => h9) rfl dX4_forward_61 ?_
  refine lv_iload_n hx hb dX4_forward_64 rfl (lv_at hl 1 rfl) ?_
  refine lv_iload_n hx hb dX4_forward_65 rfl (lv_at hl 2 rfl) ?_
  refine c_mVv (rest := []) hC hE hP hD hS hw_same (metX0_renew l S b f) gc_RX4_124 hd_X0_renew ⟨rfl, rfl⟩ ⟨Nat.le_of_ble_eq_true rfl, Nat.le_of_ble_eq_true rfl⟩ 2 hw_2 rfl rfl hl.1 (Nat.le_of_ble_eq_true rfl) ⟨Nat.le_of_ble_eq_true rfl, Nat.le_of_ble_eq_true rfl⟩ dX4_forward_66 (fun H locs hP hD hS => ?_)
  refine lv_aload_n hx hb dX4_forward_69 rfl (lv_at hl 0 rfl) ?_
  refine va_get (D := D) (ci := 4) (v := .ref (a 0)) (C := RX4) (T := TX4) (N := 2) hx hb hts tu_4 hown hE.1 hP 29 xo_29 rfl 0 (by decide) (hts _ tw_150) (fun _ h9 => h9) rfl dX4_forward_70 ?_
  refine lv_iload_n hx hb dX4_forward_73 rfl (lv_at hl 1 rfl) ?_
  refine c_mVv (rest := []) hC hE hP hD hS hw_same (metX2_takeIn l (xRenew S b f) b) gc_RX4_92 hd_X2_takeIn ⟨rfl, rfl⟩ ⟨Nat.le_of_ble_eq_true rfl, Nat.le_of_ble_eq_true rfl⟩ 0 hw_0 rfl rfl hl.1 (Nat.le_of_ble_eq_true rfl) ⟨Nat.le_of_ble_eq_true rfl, Nat.le_of_ble_eq_true rfl⟩ dX4_forward_74 (fun H locs hP hD hS => ?_)
  refine lv_aload_n hx hb dX4_forward_77 rfl (lv_at hl 0 rfl) ?_
  refine va_get (D := D) (ci := 4) (v := .ref (a 0)) (C := RX4) (T := TX4) (N := 2) hx hb hts tu_4 hown hE.1 hP 29 xo_29 rfl 0 (by decide) (hts _ tw_150) (fun _ h9 => h9) rfl dX4_forward_78 ?_
  refine va_get (D := D) (ci := 2) (v := .int ((xTakeIn (xRenew S b f) b) 0 2)) (C := RX2) (T := TX2) (N := 8) hx hb hts tu_2 hown hE.1 hP 0 hw_0 rfl 2 (by decide) (hts _ tw_123) (fun _ h9 => h9) rfl dX4_forward_81 ?_
  exact m_iret hx hb hr hlk dX4_forward_84 hP hS (rfl)

set_option maxHeartbeats 4000000 in
set_option maxRecDepth 100000 in
theorem metX4_sweep (l : Launch) {D : va_G} {k : Nat → ClassId} {a tr : Nat → Nat} {x : Nat} {R : va_W} (S : HS) (ch : Int32) (n : Nat) (hn4 : S 0 4 = nI n) (hn40 : n ≤ 40) (hk0 : xCh ch) : MM l yX4_sweep cX4_sweep 2 (some FieldType.int) rmX4_sweep D k (hw k a S ++ ((x, .inr (4, [.ref (a 0), .ref (tr 0)])) :: R)) [.ref x, .int ch] (some (.int (nI (xCl S ch n).1))) (hw k a (xCl S ch n).2 ++ ((x, .inr (4, [.ref (a 0), .ref (tr 0)])) :: R)) := by
  refine MM_of rfl (Nat.le_of_ble_eq_true rfl) ?_
  intro p e s m below meth c hC hr hlk hin hE hP hD hS ls hl
  have hC : CallFix p m c cX4_sweep 2 s _ lw_all RX4 := hC
  have hx := hC.1
  have hb := hC.2.1
  have hown : s.vm.findClass RX4 = some m.cls := hC.2.2.2.1
  have hts := hC.2.2.2.2
  have hl : lv_has ls 2 [(0, .ref x), (1, .int ch)] := hl
  refine lv_iload_n hx hb dX4_sweep_0 rfl (lv_at hl 1 rfl) ?_
  refine c_pSv (rest := []) hC hE hP (metX4_needChute l ch (show xCh ch from hk0)) gc_RX4_44 hd_X4_needChute ⟨rfl, rfl⟩ ⟨Nat.le_of_ble_eq_true rfl, Nat.le_of_ble_eq_true rfl⟩ rfl hl.1 (Nat.le_of_ble_eq_true rfl) ⟨Nat.le_of_ble_eq_true rfl, Nat.le_of_ble_eq_true rfl⟩ dX4_sweep_1 ?_
  refine lv_aload_n hx hb dX4_sweep_4 rfl (lv_at hl 0 rfl) ?_
  refine va_get (D := D) (ci := 4) (v := .ref (a 0)) (C := RX4) (T := TX4) (N := 2) hx hb hts tu_4 hown hE.1 hP 29 xo_29 rfl 0 (by decide) (hts _ tw_150) (fun _ h9 => h9) rfl dX4_sweep_5 ?_
  refine lv_iload_n hx hb dX4_sweep_8 rfl (lv_at hl 1 rfl) ?_
  refine c_mVi (rest := []) hC hE hP hD hS hw_same (metX2_clearMisrouted l S ch n hn4 hn40) gc_RX4_130 hd_X2_clearMisrouted ⟨rfl, rfl⟩ ⟨Nat.le_of_ble_eq_true rfl, Nat.le_of_ble_eq_true rfl⟩ 0 hw_0 rfl rfl hl.1 (Nat.le_of_ble_eq_true rfl) ⟨Nat.le_of_ble_eq_true rfl, Nat.le_of_ble_eq_true rfl⟩ dX4_sweep_9 (fun H locs hP hD hS => ?_)
  exact m_iret hx hb hr hlk dX4_sweep_12 hP hS (rfl)

set_option maxHeartbeats 4000000 in
set_option maxRecDepth 100000 in
theorem metX4_depart (l : Launch) {D : va_G} {k : Nat → ClassId} {a tr : Nat → Nat} {x : Nat} {R : va_W} (S : HS) (f : Int32) (n : Nat) (hn4 : S 0 4 = nI n) (hn40 : n ≤ 40) (hk0 : xFlt S f) (hk1 : (¬ (xGone S f))) : MM l yX4_depart cX4_depart 2 (some FieldType.int) rmX4_depart D k (hw k a S ++ ((x, .inr (4, [.ref (a 0), .ref (tr 0)])) :: R)) [.ref x, .int f] (some (.int (nI (xLv S f n).1))) (hw k a (xLeave S f n) ++ ((x, .inr (4, [.ref (a 0), .ref (tr 0)])) :: R)) := by
  refine MM_of rfl (Nat.le_of_ble_eq_true rfl) ?_
  intro p e s m below meth c hC hr hlk hin hE hP hD hS ls hl
  have hC : CallFix p m c cX4_depart 2 s _ lw_all RX4 := hC
  have hx := hC.1
  have hb := hC.2.1
  have hown : s.vm.findClass RX4 = some m.cls := hC.2.2.2.1
  have hts := hC.2.2.2.2
  have hl : lv_has ls 2 [(0, .ref x), (1, .int f)] := hl
  refine lv_aload_n hx hb dX4_depart_0 rfl (lv_at hl 0 rfl) ?_
  refine lv_iload_n hx hb dX4_depart_1 rfl (lv_at hl 1 rfl) ?_
  refine c_pVv (rest := []) hC hE hP (metX4_needFlight l S f (show xFlt S f from hk0)) gc_RX4_40 hd_X4_needFlight ⟨rfl, rfl⟩ ⟨Nat.le_of_ble_eq_true rfl, Nat.le_of_ble_eq_true rfl⟩ 29 xo_29 rfl rfl hl.1 (Nat.le_of_ble_eq_true rfl) ⟨Nat.le_of_ble_eq_true rfl, Nat.le_of_ble_eq_true rfl⟩ dX4_depart_2 ?_
  refine lv_aload_n hx hb dX4_depart_5 rfl (lv_at hl 0 rfl) ?_
  refine lv_iload_n hx hb dX4_depart_6 rfl (lv_at hl 1 rfl) ?_
  refine c_pVv (rest := []) hC hE hP (metX4_needNotGone l S f (show (¬ (xGone S f)) from hk1)) gc_RX4_47 hd_X4_needNotGone ⟨rfl, rfl⟩ ⟨Nat.le_of_ble_eq_true rfl, Nat.le_of_ble_eq_true rfl⟩ 29 xo_29 rfl rfl hl.1 (Nat.le_of_ble_eq_true rfl) ⟨Nat.le_of_ble_eq_true rfl, Nat.le_of_ble_eq_true rfl⟩ dX4_depart_7 ?_
  refine lv_aload_n hx hb dX4_depart_10 rfl (lv_at hl 0 rfl) ?_
  refine va_get (D := D) (ci := 4) (v := .ref (a 0)) (C := RX4) (T := TX4) (N := 2) hx hb hts tu_4 hown hE.1 hP 29 xo_29 rfl 0 (by decide) (hts _ tw_150) (fun _ h9 => h9) rfl dX4_depart_11 ?_
  refine lv_iload_n hx hb dX4_depart_14 rfl (lv_at hl 1 rfl) ?_
  refine c_mVi (rest := []) hC hE hP hD hS hw_same (metX2_letLeave l S f n hn4 hn40) gc_RX4_133 hd_X2_letLeave ⟨rfl, rfl⟩ ⟨Nat.le_of_ble_eq_true rfl, Nat.le_of_ble_eq_true rfl⟩ 0 hw_0 rfl rfl hl.1 (Nat.le_of_ble_eq_true rfl) ⟨Nat.le_of_ble_eq_true rfl, Nat.le_of_ble_eq_true rfl⟩ dX4_depart_15 (fun H locs hP hD hS => ?_)
  exact m_iret hx hb hr hlk dX4_depart_18 hP hS (rfl)

set_option maxHeartbeats 4000000 in
set_option maxRecDepth 100000 in
theorem metX4_pass (l : Launch) {D : va_G} {k : Nat → ClassId} {a tr : Nat → Nat} {x : Nat} {R : va_W} (S : HS) (N : Nat) (hN : N < 2 ^ 31) (hk0 : xM60 (nI N)) : MM l yX4_pass cX4_pass 2 (some FieldType.int) rmX4_pass D k (hw k a S ++ ((x, .inr (4, [.ref (a 0), .ref (tr 0)])) :: R)) [.ref x, .int (nI N)] (some (.int ((xGo S N).1))) (hw k a (xGo S N).2 ++ ((x, .inr (4, [.ref (a 0), .ref (tr 0)])) :: R)) := by
  refine MM_of rfl (Nat.le_of_ble_eq_true rfl) ?_
  intro p e s m below meth c hC hr hlk hin hE hP hD hS ls hl
  have hC : CallFix p m c cX4_pass 2 s _ lw_all RX4 := hC
  have hx := hC.1
  have hb := hC.2.1
  have hown : s.vm.findClass RX4 = some m.cls := hC.2.2.2.1
  have hts := hC.2.2.2.2
  have hl : lv_has ls 2 [(0, .ref x), (1, .int (nI N))] := hl
  refine lv_iload_n hx hb dX4_pass_0 rfl (lv_at hl 1 rfl) ?_
  refine c_pSv (rest := []) hC hE hP (metX4_needMinutes l (nI N) (show xM60 (nI N) from hk0)) gc_RX4_136 hd_X4_needMinutes ⟨rfl, rfl⟩ ⟨Nat.le_of_ble_eq_true rfl, Nat.le_of_ble_eq_true rfl⟩ rfl hl.1 (Nat.le_of_ble_eq_true rfl) ⟨Nat.le_of_ble_eq_true rfl, Nat.le_of_ble_eq_true rfl⟩ dX4_pass_1 ?_
  refine lv_aload_n hx hb dX4_pass_4 rfl (lv_at hl 0 rfl) ?_
  refine va_get (D := D) (ci := 4) (v := .ref (a 0)) (C := RX4) (T := TX4) (N := 2) hx hb hts tu_4 hown hE.1 hP 29 xo_29 rfl 0 (by decide) (hts _ tw_150) (fun _ h9 => h9) rfl dX4_pass_5 ?_
  refine lv_iload_n hx hb dX4_pass_8 rfl (lv_at hl 1 rfl) ?_
  refine c_mVi (rest := []) hC hE hP hD hS hw_same (metX2_goMinutes l S N hN) gc_RX4_139 hd_X2_goMinutes ⟨rfl, rfl⟩ ⟨Nat.le_of_ble_eq_true rfl, Nat.le_of_ble_eq_true rfl⟩ 0 hw_0 rfl rfl hl.1 (Nat.le_of_ble_eq_true rfl) ⟨Nat.le_of_ble_eq_true rfl, Nat.le_of_ble_eq_true rfl⟩ dX4_pass_9 (fun H locs hP hD hS => ?_)
  exact m_iret hx hb hr hlk dX4_pass_12 hP hS (rfl)

set_option maxHeartbeats 4000000 in
set_option maxRecDepth 100000 in
theorem metX4_flightOf (l : Launch) {D : va_G} {k : Nat → ClassId} {a tr : Nat → Nat} {x : Nat} {R : va_W} (S : HS) (b : Int32) (hk0 : xBag S b) : PM l yX4_flightOf cX4_flightOf 2 (some FieldType.int) rmX4_flightOf D k (hw k a S ++ ((x, .inr (4, [.ref (a 0), .ref (tr 0)])) :: R)) [.ref x, .int b] (some (.int (rd 40 (S 3) b))) := by
  refine PM_of rfl (Nat.le_of_ble_eq_true rfl) ?_
  intro p e s m below meth c hC hr hlk hin hE hP ls hl
  have hC : CallFix p m c cX4_flightOf 2 s _ lw_all RX4 := hC
  have hx := hC.1
  have hb := hC.2.1
  have hown : s.vm.findClass RX4 = some m.cls := hC.2.2.2.1
  have hts := hC.2.2.2.2
  have hl : lv_has ls 2 [(0, .ref x), (1, .int b)] := hl
  refine lv_aload_n hx hb dX4_flightOf_0 rfl (lv_at hl 0 rfl) ?_
  refine lv_iload_n hx hb dX4_flightOf_1 rfl (lv_at hl 1 rfl) ?_
  refine c_pVv (rest := []) hC hE hP (metX4_needBag l S b (show xBag S b from hk0)) gc_RX4_95 hd_X4_needBag ⟨rfl, rfl⟩ ⟨Nat.le_of_ble_eq_true rfl, Nat.le_of_ble_eq_true rfl⟩ 29 xo_29 rfl rfl hl.1 (Nat.le_of_ble_eq_true rfl) ⟨Nat.le_of_ble_eq_true rfl, Nat.le_of_ble_eq_true rfl⟩ dX4_flightOf_2 ?_
  refine lv_aload_n hx hb dX4_flightOf_5 rfl (lv_at hl 0 rfl) ?_
  refine va_get (D := D) (ci := 4) (v := .ref (a 0)) (C := RX4) (T := TX4) (N := 2) hx hb hts tu_4 hown hE.1 hP 29 xo_29 rfl 0 (by decide) (hts _ tw_150) (fun _ h9 => h9) rfl dX4_flightOf_6 ?_
  refine va_get (D := D) (ci := 2) (v := .ref (a 2)) (C := RX2) (T := TX2) (N := 8) hx hb hts tu_2 hown hE.1 hP 0 hw_0 rfl 4 (by decide) (hts _ tw_127) (fun _ h9 => h9) rfl dX4_flightOf_9 ?_
  refine va_get (D := D) (ci := 0) (v := .ref (a 8)) (C := RX0) (T := TX0) (N := 9) hx hb hts tu_0 hown hE.1 hP 2 hw_2 rfl 1 (by decide) (hts _ tw_77) (fun _ h9 => h9) rfl dX4_flightOf_12 ?_
  refine lv_iload_n hx hb dX4_flightOf_15 rfl (lv_at hl 1 rfl) ?_
  refine c_pVi (rest := []) hC hE hP (metX3_at l hw_8 hw_21 (by decide) b) gc_RX4_68 hd_X3_at ⟨rfl, rfl⟩ ⟨Nat.le_of_ble_eq_true rfl, Nat.le_of_ble_eq_true rfl⟩ 8 hw_8 rfl rfl hl.1 (Nat.le_of_ble_eq_true rfl) ⟨Nat.le_of_ble_eq_true rfl, Nat.le_of_ble_eq_true rfl⟩ dX4_flightOf_16 ?_
  exact p_iret hx hb hr hlk dX4_flightOf_19 (rfl)

set_option maxHeartbeats 4000000 in
set_option maxRecDepth 100000 in
theorem metX4_whereIs (l : Launch) {D : va_G} {k : Nat → ClassId} {a tr : Nat → Nat} {x : Nat} {R : va_W} (S : HS) (b : Int32) (hk0 : xBag S b) : PM l yX4_whereIs cX4_whereIs 2 (some FieldType.int) rmX4_whereIs D k (hw k a S ++ ((x, .inr (4, [.ref (a 0), .ref (tr 0)])) :: R)) [.ref x, .int b] (some (.int (rd 40 (S 6) b))) := by
  refine PM_of rfl (Nat.le_of_ble_eq_true rfl) ?_
  intro p e s m below meth c hC hr hlk hin hE hP ls hl
  have hC : CallFix p m c cX4_whereIs 2 s _ lw_all RX4 := hC
  have hx := hC.1
  have hb := hC.2.1
  have hown : s.vm.findClass RX4 = some m.cls := hC.2.2.2.1
  have hts := hC.2.2.2.2
  have hl : lv_has ls 2 [(0, .ref x), (1, .int b)] := hl
  refine lv_aload_n hx hb dX4_whereIs_0 rfl (lv_at hl 0 rfl) ?_
  refine lv_iload_n hx hb dX4_whereIs_1 rfl (lv_at hl 1 rfl) ?_
  refine c_pVv (rest := []) hC hE hP (metX4_needBag l S b (show xBag S b from hk0)) gc_RX4_95 hd_X4_needBag ⟨rfl, rfl⟩ ⟨Nat.le_of_ble_eq_true rfl, Nat.le_of_ble_eq_true rfl⟩ 29 xo_29 rfl rfl hl.1 (Nat.le_of_ble_eq_true rfl) ⟨Nat.le_of_ble_eq_true rfl, Nat.le_of_ble_eq_true rfl⟩ dX4_whereIs_2 ?_
  refine lv_aload_n hx hb dX4_whereIs_5 rfl (lv_at hl 0 rfl) ?_
  refine va_get (D := D) (ci := 4) (v := .ref (a 0)) (C := RX4) (T := TX4) (N := 2) hx hb hts tu_4 hown hE.1 hP 29 xo_29 rfl 0 (by decide) (hts _ tw_150) (fun _ h9 => h9) rfl dX4_whereIs_6 ?_
  refine va_get (D := D) (ci := 2) (v := .ref (a 2)) (C := RX2) (T := TX2) (N := 8) hx hb hts tu_2 hown hE.1 hP 0 hw_0 rfl 4 (by decide) (hts _ tw_127) (fun _ h9 => h9) rfl dX4_whereIs_9 ?_
  refine va_get (D := D) (ci := 0) (v := .ref (a 11)) (C := RX0) (T := TX0) (N := 9) hx hb hts tu_0 hown hE.1 hP 2 hw_2 rfl 4 (by decide) (hts _ tw_84) (fun _ h9 => h9) rfl dX4_whereIs_12 ?_
  refine lv_iload_n hx hb dX4_whereIs_15 rfl (lv_at hl 1 rfl) ?_
  refine c_pVi (rest := []) hC hE hP (metX3_at l hw_11 hw_24 (by decide) b) gc_RX4_68 hd_X3_at ⟨rfl, rfl⟩ ⟨Nat.le_of_ble_eq_true rfl, Nat.le_of_ble_eq_true rfl⟩ 11 hw_11 rfl rfl hl.1 (Nat.le_of_ble_eq_true rfl) ⟨Nat.le_of_ble_eq_true rfl, Nat.le_of_ble_eq_true rfl⟩ dX4_whereIs_16 ?_
  exact p_iret hx hb hr hlk dX4_whereIs_19 (rfl)

set_option maxHeartbeats 4000000 in
set_option maxRecDepth 100000 in
theorem metX4_placeOf (l : Launch) {D : va_G} {k : Nat → ClassId} {a tr : Nat → Nat} {x : Nat} {R : va_W} (S : HS) (b : Int32) (hk0 : xBag S b) : PM l yX4_placeOf cX4_placeOf 2 (some FieldType.int) rmX4_placeOf D k (hw k a S ++ ((x, .inr (4, [.ref (a 0), .ref (tr 0)])) :: R)) [.ref x, .int b] (some (.int (fnd (S 12) b 0 12))) := by
  refine PM_of rfl (Nat.le_of_ble_eq_true rfl) ?_
  intro p e s m below meth c hC hr hlk hin hE hP ls hl
  have hC : CallFix p m c cX4_placeOf 2 s _ lw_all RX4 := hC
  have hx := hC.1
  have hb := hC.2.1
  have hown : s.vm.findClass RX4 = some m.cls := hC.2.2.2.1
  have hts := hC.2.2.2.2
  have hl : lv_has ls 2 [(0, .ref x), (1, .int b)] := hl
  refine lv_aload_n hx hb dX4_placeOf_0 rfl (lv_at hl 0 rfl) ?_
  refine lv_iload_n hx hb dX4_placeOf_1 rfl (lv_at hl 1 rfl) ?_
  refine c_pVv (rest := []) hC hE hP (metX4_needBag l S b (show xBag S b from hk0)) gc_RX4_95 hd_X4_needBag ⟨rfl, rfl⟩ ⟨Nat.le_of_ble_eq_true rfl, Nat.le_of_ble_eq_true rfl⟩ 29 xo_29 rfl rfl hl.1 (Nat.le_of_ble_eq_true rfl) ⟨Nat.le_of_ble_eq_true rfl, Nat.le_of_ble_eq_true rfl⟩ dX4_placeOf_2 ?_
  refine lv_aload_n hx hb dX4_placeOf_5 rfl (lv_at hl 0 rfl) ?_
  refine va_get (D := D) (ci := 4) (v := .ref (a 0)) (C := RX4) (T := TX4) (N := 2) hx hb hts tu_4 hown hE.1 hP 29 xo_29 rfl 0 (by decide) (hts _ tw_150) (fun _ h9 => h9) rfl dX4_placeOf_6 ?_
  refine lv_iload_n hx hb dX4_placeOf_9 rfl (lv_at hl 1 rfl) ?_
  refine c_pVi (rest := []) hC hE hP (metX2_findOnBelt l S b) gc_RX4_145 hd_X2_findOnBelt ⟨rfl, rfl⟩ ⟨Nat.le_of_ble_eq_true rfl, Nat.le_of_ble_eq_true rfl⟩ 0 hw_0 rfl rfl hl.1 (Nat.le_of_ble_eq_true rfl) ⟨Nat.le_of_ble_eq_true rfl, Nat.le_of_ble_eq_true rfl⟩ dX4_placeOf_10 ?_
  exact p_iret hx hb hr hlk dX4_placeOf_13 (rfl)

set_option maxHeartbeats 4000000 in
set_option maxRecDepth 100000 in
theorem metX4_chuteOf (l : Launch) {D : va_G} {k : Nat → ClassId} {a tr : Nat → Nat} {x : Nat} {R : va_W} (S : HS) (b : Int32) (hk0 : xBag S b) : PM l yX4_chuteOf cX4_chuteOf 2 (some FieldType.int) rmX4_chuteOf D k (hw k a S ++ ((x, .inr (4, [.ref (a 0), .ref (tr 0)])) :: R)) [.ref x, .int b] (some (.int (rd 40 (S 7) b))) := by
  refine PM_of rfl (Nat.le_of_ble_eq_true rfl) ?_
  intro p e s m below meth c hC hr hlk hin hE hP ls hl
  have hC : CallFix p m c cX4_chuteOf 2 s _ lw_all RX4 := hC
  have hx := hC.1
  have hb := hC.2.1
  have hown : s.vm.findClass RX4 = some m.cls := hC.2.2.2.1
  have hts := hC.2.2.2.2
  have hl : lv_has ls 2 [(0, .ref x), (1, .int b)] := hl
  refine lv_aload_n hx hb dX4_chuteOf_0 rfl (lv_at hl 0 rfl) ?_
  refine lv_iload_n hx hb dX4_chuteOf_1 rfl (lv_at hl 1 rfl) ?_
  refine c_pVv (rest := []) hC hE hP (metX4_needBag l S b (show xBag S b from hk0)) gc_RX4_95 hd_X4_needBag ⟨rfl, rfl⟩ ⟨Nat.le_of_ble_eq_true rfl, Nat.le_of_ble_eq_true rfl⟩ 29 xo_29 rfl rfl hl.1 (Nat.le_of_ble_eq_true rfl) ⟨Nat.le_of_ble_eq_true rfl, Nat.le_of_ble_eq_true rfl⟩ dX4_chuteOf_2 ?_
  refine lv_aload_n hx hb dX4_chuteOf_5 rfl (lv_at hl 0 rfl) ?_
  refine va_get (D := D) (ci := 4) (v := .ref (a 0)) (C := RX4) (T := TX4) (N := 2) hx hb hts tu_4 hown hE.1 hP 29 xo_29 rfl 0 (by decide) (hts _ tw_150) (fun _ h9 => h9) rfl dX4_chuteOf_6 ?_
  refine va_get (D := D) (ci := 2) (v := .ref (a 2)) (C := RX2) (T := TX2) (N := 8) hx hb hts tu_2 hown hE.1 hP 0 hw_0 rfl 4 (by decide) (hts _ tw_127) (fun _ h9 => h9) rfl dX4_chuteOf_9 ?_
  refine va_get (D := D) (ci := 0) (v := .ref (a 12)) (C := RX0) (T := TX0) (N := 9) hx hb hts tu_0 hown hE.1 hP 2 hw_2 rfl 5 (by decide) (hts _ tw_87) (fun _ h9 => h9) rfl dX4_chuteOf_12 ?_
  refine lv_iload_n hx hb dX4_chuteOf_15 rfl (lv_at hl 1 rfl) ?_
  refine c_pVi (rest := []) hC hE hP (metX3_at l hw_12 hw_25 (by decide) b) gc_RX4_68 hd_X3_at ⟨rfl, rfl⟩ ⟨Nat.le_of_ble_eq_true rfl, Nat.le_of_ble_eq_true rfl⟩ 12 hw_12 rfl rfl hl.1 (Nat.le_of_ble_eq_true rfl) ⟨Nat.le_of_ble_eq_true rfl, Nat.le_of_ble_eq_true rfl⟩ dX4_chuteOf_16 ?_
  exact p_iret hx hb hr hlk dX4_chuteOf_19 (rfl)

set_option maxHeartbeats 4000000 in
set_option maxRecDepth 100000 in
theorem metX4_readFor (l : Launch) {D : va_G} {k : Nat → ClassId} {a tr : Nat → Nat} {x : Nat} {R : va_W} (S : HS) (b : Int32) (hk0 : xBag S b) : PM l yX4_readFor cX4_readFor 2 (some FieldType.int) rmX4_readFor D k (hw k a S ++ ((x, .inr (4, [.ref (a 0), .ref (tr 0)])) :: R)) [.ref x, .int b] (some (.int (rd 40 (S 8) b))) := by
  refine PM_of rfl (Nat.le_of_ble_eq_true rfl) ?_
  intro p e s m below meth c hC hr hlk hin hE hP ls hl
  have hC : CallFix p m c cX4_readFor 2 s _ lw_all RX4 := hC
  have hx := hC.1
  have hb := hC.2.1
  have hown : s.vm.findClass RX4 = some m.cls := hC.2.2.2.1
  have hts := hC.2.2.2.2
  have hl : lv_has ls 2 [(0, .ref x), (1, .int b)] := hl
  refine lv_aload_n hx hb dX4_readFor_0 rfl (lv_at hl 0 rfl) ?_
  refine lv_iload_n hx hb dX4_readFor_1 rfl (lv_at hl 1 rfl) ?_
  refine c_pVv (rest := []) hC hE hP (metX4_needBag l S b (show xBag S b from hk0)) gc_RX4_95 hd_X4_needBag ⟨rfl, rfl⟩ ⟨Nat.le_of_ble_eq_true rfl, Nat.le_of_ble_eq_true rfl⟩ 29 xo_29 rfl rfl hl.1 (Nat.le_of_ble_eq_true rfl) ⟨Nat.le_of_ble_eq_true rfl, Nat.le_of_ble_eq_true rfl⟩ dX4_readFor_2 ?_
  refine lv_aload_n hx hb dX4_readFor_5 rfl (lv_at hl 0 rfl) ?_
  refine va_get (D := D) (ci := 4) (v := .ref (a 0)) (C := RX4) (T := TX4) (N := 2) hx hb hts tu_4 hown hE.1 hP 29 xo_29 rfl 0 (by decide) (hts _ tw_150) (fun _ h9 => h9) rfl dX4_readFor_6 ?_
  refine va_get (D := D) (ci := 2) (v := .ref (a 2)) (C := RX2) (T := TX2) (N := 8) hx hb hts tu_2 hown hE.1 hP 0 hw_0 rfl 4 (by decide) (hts _ tw_127) (fun _ h9 => h9) rfl dX4_readFor_9 ?_
  refine va_get (D := D) (ci := 0) (v := .ref (a 13)) (C := RX0) (T := TX0) (N := 9) hx hb hts tu_0 hown hE.1 hP 2 hw_2 rfl 6 (by decide) (hts _ tw_90) (fun _ h9 => h9) rfl dX4_readFor_12 ?_
  refine lv_iload_n hx hb dX4_readFor_15 rfl (lv_at hl 1 rfl) ?_
  refine c_pVi (rest := []) hC hE hP (metX3_at l hw_13 hw_26 (by decide) b) gc_RX4_68 hd_X3_at ⟨rfl, rfl⟩ ⟨Nat.le_of_ble_eq_true rfl, Nat.le_of_ble_eq_true rfl⟩ 13 hw_13 rfl rfl hl.1 (Nat.le_of_ble_eq_true rfl) ⟨Nat.le_of_ble_eq_true rfl, Nat.le_of_ble_eq_true rfl⟩ dX4_readFor_16 ?_
  exact p_iret hx hb hr hlk dX4_readFor_19 (rfl)

set_option maxHeartbeats 4000000 in
set_option maxRecDepth 100000 in
theorem metX4_missesOf (l : Launch) {D : va_G} {k : Nat → ClassId} {a tr : Nat → Nat} {x : Nat} {R : va_W} (S : HS) (b : Int32) (hk0 : xBag S b) : PM l yX4_missesOf cX4_missesOf 2 (some FieldType.int) rmX4_missesOf D k (hw k a S ++ ((x, .inr (4, [.ref (a 0), .ref (tr 0)])) :: R)) [.ref x, .int b] (some (.int (rd 40 (S 9) b))) := by
  refine PM_of rfl (Nat.le_of_ble_eq_true rfl) ?_
  intro p e s m below meth c hC hr hlk hin hE hP ls hl
  have hC : CallFix p m c cX4_missesOf 2 s _ lw_all RX4 := hC
  have hx := hC.1
  have hb := hC.2.1
  have hown : s.vm.findClass RX4 = some m.cls := hC.2.2.2.1
  have hts := hC.2.2.2.2
  have hl : lv_has ls 2 [(0, .ref x), (1, .int b)] := hl
  refine lv_aload_n hx hb dX4_missesOf_0 rfl (lv_at hl 0 rfl) ?_
  refine lv_iload_n hx hb dX4_missesOf_1 rfl (lv_at hl 1 rfl) ?_
  refine c_pVv (rest := []) hC hE hP (metX4_needBag l S b (show xBag S b from hk0)) gc_RX4_95 hd_X4_needBag ⟨rfl, rfl⟩ ⟨Nat.le_of_ble_eq_true rfl, Nat.le_of_ble_eq_true rfl⟩ 29 xo_29 rfl rfl hl.1 (Nat.le_of_ble_eq_true rfl) ⟨Nat.le_of_ble_eq_true rfl, Nat.le_of_ble_eq_true rfl⟩ dX4_missesOf_2 ?_
  refine lv_aload_n hx hb dX4_missesOf_5 rfl (lv_at hl 0 rfl) ?_
  refine va_get (D := D) (ci := 4) (v := .ref (a 0)) (C := RX4) (T := TX4) (N := 2) hx hb hts tu_4 hown hE.1 hP 29 xo_29 rfl 0 (by decide) (hts _ tw_150) (fun _ h9 => h9) rfl dX4_missesOf_6 ?_
  refine va_get (D := D) (ci := 2) (v := .ref (a 2)) (C := RX2) (T := TX2) (N := 8) hx hb hts tu_2 hown hE.1 hP 0 hw_0 rfl 4 (by decide) (hts _ tw_127) (fun _ h9 => h9) rfl dX4_missesOf_9 ?_
  refine va_get (D := D) (ci := 0) (v := .ref (a 14)) (C := RX0) (T := TX0) (N := 9) hx hb hts tu_0 hown hE.1 hP 2 hw_2 rfl 7 (by decide) (hts _ tw_93) (fun _ h9 => h9) rfl dX4_missesOf_12 ?_
  refine lv_iload_n hx hb dX4_missesOf_15 rfl (lv_at hl 1 rfl) ?_
  refine c_pVi (rest := []) hC hE hP (metX3_at l hw_14 hw_27 (by decide) b) gc_RX4_68 hd_X3_at ⟨rfl, rfl⟩ ⟨Nat.le_of_ble_eq_true rfl, Nat.le_of_ble_eq_true rfl⟩ 14 hw_14 rfl rfl hl.1 (Nat.le_of_ble_eq_true rfl) ⟨Nat.le_of_ble_eq_true rfl, Nat.le_of_ble_eq_true rfl⟩ dX4_missesOf_16 ?_
  exact p_iret hx hb hr hlk dX4_missesOf_19 (rfl)

set_option maxHeartbeats 4000000 in
set_option maxRecDepth 100000 in
theorem metX4_isMisrouted (l : Launch) {D : va_G} {k : Nat → ClassId} {a tr : Nat → Nat} {x : Nat} {R : va_W} (S : HS) (b : Int32) (hk0 : xBag S b) : PM l yX4_isMisrouted cX4_isMisrouted 2 (some FieldType.boolean) rmX4_isMisrouted D k (hw k a S ++ ((x, .inr (4, [.ref (a 0), .ref (tr 0)])) :: R)) [.ref x, .int b] (some (.int (bI (xAst S b)))) := by
  refine PM_of rfl (Nat.le_of_ble_eq_true rfl) ?_
  intro p e s m below meth c hC hr hlk hin hE hP ls hl
  have hC : CallFix p m c cX4_isMisrouted 2 s _ lw_all RX4 := hC
  have hx := hC.1
  have hb := hC.2.1
  have hown : s.vm.findClass RX4 = some m.cls := hC.2.2.2.1
  have hts := hC.2.2.2.2
  have hl : lv_has ls 2 [(0, .ref x), (1, .int b)] := hl
  refine lv_aload_n hx hb dX4_isMisrouted_0 rfl (lv_at hl 0 rfl) ?_
  refine lv_iload_n hx hb dX4_isMisrouted_1 rfl (lv_at hl 1 rfl) ?_
  refine c_pVv (rest := []) hC hE hP (metX4_needBag l S b (show xBag S b from hk0)) gc_RX4_95 hd_X4_needBag ⟨rfl, rfl⟩ ⟨Nat.le_of_ble_eq_true rfl, Nat.le_of_ble_eq_true rfl⟩ 29 xo_29 rfl rfl hl.1 (Nat.le_of_ble_eq_true rfl) ⟨Nat.le_of_ble_eq_true rfl, Nat.le_of_ble_eq_true rfl⟩ dX4_isMisrouted_2 ?_
  refine lv_aload_n hx hb dX4_isMisrouted_5 rfl (lv_at hl 0 rfl) ?_
  refine va_get (D := D) (ci := 4) (v := .ref (a 0)) (C := RX4) (T := TX4) (N := 2) hx hb hts tu_4 hown hE.1 hP 29 xo_29 rfl 0 (by decide) (hts _ tw_150) (fun _ h9 => h9) rfl dX4_isMisrouted_6 ?_
  refine lv_iload_n hx hb dX4_isMisrouted_9 rfl (lv_at hl 1 rfl) ?_
  refine c_pVi (rest := []) hC hE hP (metX2_isAstray l S b) gc_RX4_155 hd_X2_isAstray ⟨rfl, rfl⟩ ⟨Nat.le_of_ble_eq_true rfl, Nat.le_of_ble_eq_true rfl⟩ 0 hw_0 rfl rfl hl.1 (Nat.le_of_ble_eq_true rfl) ⟨Nat.le_of_ble_eq_true rfl, Nat.le_of_ble_eq_true rfl⟩ dX4_isMisrouted_10 ?_
  exact p_zret hx hb hr (bI_narrow _) hlk dX4_isMisrouted_13 (rfl)

set_option maxHeartbeats 4000000 in
set_option maxRecDepth 100000 in
theorem metX4_hasOpenFile (l : Launch) {D : va_G} {k : Nat → ClassId} {a tr : Nat → Nat} {x : Nat} {R : va_W} (S : HS) (b : Int32) (hk0 : xBag S b) : PM l yX4_hasOpenFile cX4_hasOpenFile 2 (some FieldType.boolean) rmX4_hasOpenFile D k (hw k a S ++ ((x, .inr (4, [.ref (a 0), .ref (tr 0)])) :: R)) [.ref x, .int b] (some (.int (bI (rd 40 (S 10) b = 1)))) := by
  refine PM_of rfl (Nat.le_of_ble_eq_true rfl) ?_
  intro p e s m below meth c hC hr hlk hin hE hP ls hl
  have hC : CallFix p m c cX4_hasOpenFile 2 s _ lw_all RX4 := hC
  have hx := hC.1
  have hb := hC.2.1
  have hown : s.vm.findClass RX4 = some m.cls := hC.2.2.2.1
  have hts := hC.2.2.2.2
  have hl : lv_has ls 2 [(0, .ref x), (1, .int b)] := hl
  refine lv_aload_n hx hb dX4_hasOpenFile_0 rfl (lv_at hl 0 rfl) ?_
  refine lv_iload_n hx hb dX4_hasOpenFile_1 rfl (lv_at hl 1 rfl) ?_
  refine c_pVv (rest := []) hC hE hP (metX4_needBag l S b (show xBag S b from hk0)) gc_RX4_95 hd_X4_needBag ⟨rfl, rfl⟩ ⟨Nat.le_of_ble_eq_true rfl, Nat.le_of_ble_eq_true rfl⟩ 29 xo_29 rfl rfl hl.1 (Nat.le_of_ble_eq_true rfl) ⟨Nat.le_of_ble_eq_true rfl, Nat.le_of_ble_eq_true rfl⟩ dX4_hasOpenFile_2 ?_
  refine lv_aload_n hx hb dX4_hasOpenFile_5 rfl (lv_at hl 0 rfl) ?_
  refine va_get (D := D) (ci := 4) (v := .ref (a 0)) (C := RX4) (T := TX4) (N := 2) hx hb hts tu_4 hown hE.1 hP 29 xo_29 rfl 0 (by decide) (hts _ tw_150) (fun _ h9 => h9) rfl dX4_hasOpenFile_6 ?_
  refine va_get (D := D) (ci := 2) (v := .ref (a 2)) (C := RX2) (T := TX2) (N := 8) hx hb hts tu_2 hown hE.1 hP 0 hw_0 rfl 4 (by decide) (hts _ tw_127) (fun _ h9 => h9) rfl dX4_hasOpenFile_9 ?_
  refine va_get (D := D) (ci := 0) (v := .ref (a 15)) (C := RX0) (T := TX0) (N := 9) hx hb hts tu_0 hown hE.1 hP 2 hw_2 rfl 8 (by decide) (hts _ tw_96) (fun _ h9 => h9) rfl dX4_hasOpenFile_12 ?_
  refine lv_iload_n hx hb dX4_hasOpenFile_15 rfl (lv_at hl 1 rfl) ?_
  refine c_pVi (rest := []) hC hE hP (metX3_at l hw_15 hw_28 (by decide) b) gc_RX4_68 hd_X3_at ⟨rfl, rfl⟩ ⟨Nat.le_of_ble_eq_true rfl, Nat.le_of_ble_eq_true rfl⟩ 15 hw_15 rfl rfl hl.1 (Nat.le_of_ble_eq_true rfl) ⟨Nat.le_of_ble_eq_true rfl, Nat.le_of_ble_eq_true rfl⟩ dX4_hasOpenFile_16 ?_
  refine lv_iconst (v := 1) hx hb dX4_hasOpenFile_19 (by decide) ?_
  refine lv_icmp_ne (tgt := 27) hx hb dX4_hasOpenFile_20 (by decide) (fun c_1 => ?_) (fun c_1 => ?_)
  · refine lv_iconst (v := 0) hx hb dX4_hasOpenFile_27 (by decide) ?_
    exact p_zret hx hb hr rfl hlk dX4_hasOpenFile_28 (by rw [bI_f (show ¬ (rd 40 (S 10) b = 1) from c_1)]; first | done | rfl)
  · refine lv_iconst (v := 1) hx hb dX4_hasOpenFile_23 (by decide) ?_
    refine lv_goto (tgt := 28) hx hb dX4_hasOpenFile_24 (by decide) ?_
    exact p_zret hx hb hr rfl hlk dX4_hasOpenFile_28 (by rw [bI_t (show rd 40 (S 10) b = 1 from c_1)]; first | done | rfl)

set_option maxHeartbeats 4000000 in
set_option maxRecDepth 100000 in
theorem metX4_bagAt (l : Launch) {D : va_G} {k : Nat → ClassId} {a tr : Nat → Nat} {x : Nat} {R : va_W} (S : HS) (q : Int32) (hk0 : ((¬ (q < 0)) ∧ q < 12)) : PM l yX4_bagAt cX4_bagAt 2 (some FieldType.int) rmX4_bagAt D k (hw k a S ++ ((x, .inr (4, [.ref (a 0), .ref (tr 0)])) :: R)) [.ref x, .int q] (some (.int (rd 12 (S 12) q))) := by
  refine PM_of rfl (Nat.le_of_ble_eq_true rfl) ?_
  intro p e s m below meth c hC hr hlk hin hE hP ls hl
  have hC : CallFix p m c cX4_bagAt 2 s _ lw_all RX4 := hC
  have hx := hC.1
  have hb := hC.2.1
  have hown : s.vm.findClass RX4 = some m.cls := hC.2.2.2.1
  have hts := hC.2.2.2.2
  have hl : lv_has ls 2 [(0, .ref x), (1, .int q)] := hl
  refine lv_iload_n hx hb dX4_bagAt_0 rfl (lv_at hl 1 rfl) ?_
  refine lv_if_lt (tgt := 10) hx hb dX4_bagAt_1 (by decide) (fun c_ => absurd c_ hk0.1) (fun c_1 => ?_)
  refine lv_iload_n hx hb dX4_bagAt_4 rfl (lv_at hl 1 rfl) ?_
  refine lv_bipush (v := 12) hx hb dX4_bagAt_5 (by decide) ?_
  refine lv_icmp_lt (tgt := 20) hx hb dX4_bagAt_7 (by decide) (fun c_2 => ?_) (fun c_ => absurd hk0.2 c_)
  refine lv_aload_n hx hb dX4_bagAt_20 rfl (lv_at hl 0 rfl) ?_
  refine va_get (D := D) (ci := 4) (v := .ref (a 0)) (C := RX4) (T := TX4) (N := 2) hx hb hts tu_4 hown hE.1 hP 29 xo_29 rfl 0 (by decide) (hts _ tw_150) (fun _ h9 => h9) rfl dX4_bagAt_21 ?_
  refine va_get (D := D) (ci := 2) (v := .ref (a 4)) (C := RX2) (T := TX2) (N := 8) hx hb hts tu_2 hown hE.1 hP 0 hw_0 rfl 6 (by decide) (hts _ tw_131) (fun _ h9 => h9) rfl dX4_bagAt_24 ?_
  refine lv_iload_n hx hb dX4_bagAt_27 rfl (lv_at hl 1 rfl) ?_
  refine c_pVi (rest := []) hC hE hP (metX3_at l hw_4 hw_17 (by decide) q) gc_RX4_68 hd_X3_at ⟨rfl, rfl⟩ ⟨Nat.le_of_ble_eq_true rfl, Nat.le_of_ble_eq_true rfl⟩ 4 hw_4 rfl rfl hl.1 (Nat.le_of_ble_eq_true rfl) ⟨Nat.le_of_ble_eq_true rfl, Nat.le_of_ble_eq_true rfl⟩ dX4_bagAt_28 ?_
  exact p_iret hx hb hr hlk dX4_bagAt_31 (rfl)

set_option maxHeartbeats 4000000 in
set_option maxRecDepth 100000 in
theorem metX4_bagsIn (l : Launch) {D : va_G} {k : Nat → ClassId} {a tr : Nat → Nat} {x : Nat} {R : va_W} (S : HS) (ch : Int32) (hk0 : xCh ch) : PM l yX4_bagsIn cX4_bagsIn 2 (some FieldType.int) rmX4_bagsIn D k (hw k a S ++ ((x, .inr (4, [.ref (a 0), .ref (tr 0)])) :: R)) [.ref x, .int ch] (some (.int (nI (ct (fun j_ => S 7 j_ = ch) 40)))) := by
  refine PM_of rfl (Nat.le_of_ble_eq_true rfl) ?_
  intro p e s m below meth c hC hr hlk hin hE hP ls hl
  have hC : CallFix p m c cX4_bagsIn 2 s _ lw_all RX4 := hC
  have hx := hC.1
  have hb := hC.2.1
  have hown : s.vm.findClass RX4 = some m.cls := hC.2.2.2.1
  have hts := hC.2.2.2.2
  have hl : lv_has ls 2 [(0, .ref x), (1, .int ch)] := hl
  refine lv_iload_n hx hb dX4_bagsIn_0 rfl (lv_at hl 1 rfl) ?_
  refine c_pSv (rest := []) hC hE hP (metX4_needChute l ch (show xCh ch from hk0)) gc_RX4_44 hd_X4_needChute ⟨rfl, rfl⟩ ⟨Nat.le_of_ble_eq_true rfl, Nat.le_of_ble_eq_true rfl⟩ rfl hl.1 (Nat.le_of_ble_eq_true rfl) ⟨Nat.le_of_ble_eq_true rfl, Nat.le_of_ble_eq_true rfl⟩ dX4_bagsIn_1 ?_
  refine lv_aload_n hx hb dX4_bagsIn_4 rfl (lv_at hl 0 rfl) ?_
  refine va_get (D := D) (ci := 4) (v := .ref (a 0)) (C := RX4) (T := TX4) (N := 2) hx hb hts tu_4 hown hE.1 hP 29 xo_29 rfl 0 (by decide) (hts _ tw_150) (fun _ h9 => h9) rfl dX4_bagsIn_5 ?_
  refine va_get (D := D) (ci := 2) (v := .ref (a 2)) (C := RX2) (T := TX2) (N := 8) hx hb hts tu_2 hown hE.1 hP 0 hw_0 rfl 4 (by decide) (hts _ tw_127) (fun _ h9 => h9) rfl dX4_bagsIn_8 ?_
  refine va_get (D := D) (ci := 0) (v := .ref (a 12)) (C := RX0) (T := TX0) (N := 9) hx hb hts tu_0 hown hE.1 hP 2 hw_2 rfl 5 (by decide) (hts _ tw_87) (fun _ h9 => h9) rfl dX4_bagsIn_11 ?_
  refine lv_iload_n hx hb dX4_bagsIn_14 rfl (lv_at hl 1 rfl) ?_
  refine c_pVi (rest := []) hC hE hP (metX3_count l hw_12 hw_25 (by decide) ch) gc_RX4_169 hd_X3_count ⟨rfl, rfl⟩ ⟨Nat.le_of_ble_eq_true rfl, Nat.le_of_ble_eq_true rfl⟩ 12 hw_12 rfl rfl hl.1 (Nat.le_of_ble_eq_true rfl) ⟨Nat.le_of_ble_eq_true rfl, Nat.le_of_ble_eq_true rfl⟩ dX4_bagsIn_15 ?_
  exact p_iret hx hb hr hlk dX4_bagsIn_18 (rfl)

set_option maxHeartbeats 4000000 in
set_option maxRecDepth 100000 in
theorem metX4_misroutedIn (l : Launch) {D : va_G} {k : Nat → ClassId} {a tr : Nat → Nat} {x : Nat} {R : va_W} (S : HS) (ch : Int32) (n : Nat) (hn4 : S 0 4 = nI n) (hn40 : n ≤ 40) (hk0 : xCh ch) : PM l yX4_misroutedIn cX4_misroutedIn 2 (some FieldType.int) rmX4_misroutedIn D k (hw k a S ++ ((x, .inr (4, [.ref (a 0), .ref (tr 0)])) :: R)) [.ref x, .int ch] (some (.int (nI (xMisN S ch n)))) := by
  refine PM_of rfl (Nat.le_of_ble_eq_true rfl) ?_
  intro p e s m below meth c hC hr hlk hin hE hP ls hl
  have hC : CallFix p m c cX4_misroutedIn 2 s _ lw_all RX4 := hC
  have hx := hC.1
  have hb := hC.2.1
  have hown : s.vm.findClass RX4 = some m.cls := hC.2.2.2.1
  have hts := hC.2.2.2.2
  have hl : lv_has ls 2 [(0, .ref x), (1, .int ch)] := hl
  refine lv_iload_n hx hb dX4_misroutedIn_0 rfl (lv_at hl 1 rfl) ?_
  refine c_pSv (rest := []) hC hE hP (metX4_needChute l ch (show xCh ch from hk0)) gc_RX4_44 hd_X4_needChute ⟨rfl, rfl⟩ ⟨Nat.le_of_ble_eq_true rfl, Nat.le_of_ble_eq_true rfl⟩ rfl hl.1 (Nat.le_of_ble_eq_true rfl) ⟨Nat.le_of_ble_eq_true rfl, Nat.le_of_ble_eq_true rfl⟩ dX4_misroutedIn_1 ?_
  refine lv_aload_n hx hb dX4_misroutedIn_4 rfl (lv_at hl 0 rfl) ?_
  refine va_get (D := D) (ci := 4) (v := .ref (a 0)) (C := RX4) (T := TX4) (N := 2) hx hb hts tu_4 hown hE.1 hP 29 xo_29 rfl 0 (by decide) (hts _ tw_150) (fun _ h9 => h9) rfl dX4_misroutedIn_5 ?_
  refine lv_iload_n hx hb dX4_misroutedIn_8 rfl (lv_at hl 1 rfl) ?_
  refine c_pVi (rest := []) hC hE hP (metX2_countMisrouted l S ch n hn4 hn40) gc_RX4_171 hd_X2_countMisrouted ⟨rfl, rfl⟩ ⟨Nat.le_of_ble_eq_true rfl, Nat.le_of_ble_eq_true rfl⟩ 0 hw_0 rfl rfl hl.1 (Nat.le_of_ble_eq_true rfl) ⟨Nat.le_of_ble_eq_true rfl, Nat.le_of_ble_eq_true rfl⟩ dX4_misroutedIn_9 ?_
  exact p_iret hx hb hr hlk dX4_misroutedIn_12 (rfl)

set_option maxHeartbeats 4000000 in
set_option maxRecDepth 100000 in
theorem metX4_roomOf (l : Launch) {D : va_G} {k : Nat → ClassId} {a tr : Nat → Nat} {x : Nat} {R : va_W} (S : HS) (ch : Int32) (hk0 : xCh ch) : PM l yX4_roomOf cX4_roomOf 2 (some FieldType.int) rmX4_roomOf D k (hw k a S ++ ((x, .inr (4, [.ref (a 0), .ref (tr 0)])) :: R)) [.ref x, .int ch] (some (.int (rd 4 (S 11) ch))) := by
  refine PM_of rfl (Nat.le_of_ble_eq_true rfl) ?_
  intro p e s m below meth c hC hr hlk hin hE hP ls hl
  have hC : CallFix p m c cX4_roomOf 2 s _ lw_all RX4 := hC
  have hx := hC.1
  have hb := hC.2.1
  have hown : s.vm.findClass RX4 = some m.cls := hC.2.2.2.1
  have hts := hC.2.2.2.2
  have hl : lv_has ls 2 [(0, .ref x), (1, .int ch)] := hl
  refine lv_iload_n hx hb dX4_roomOf_0 rfl (lv_at hl 1 rfl) ?_
  refine c_pSv (rest := []) hC hE hP (metX4_needChute l ch (show xCh ch from hk0)) gc_RX4_44 hd_X4_needChute ⟨rfl, rfl⟩ ⟨Nat.le_of_ble_eq_true rfl, Nat.le_of_ble_eq_true rfl⟩ rfl hl.1 (Nat.le_of_ble_eq_true rfl) ⟨Nat.le_of_ble_eq_true rfl, Nat.le_of_ble_eq_true rfl⟩ dX4_roomOf_1 ?_
  refine lv_aload_n hx hb dX4_roomOf_4 rfl (lv_at hl 0 rfl) ?_
  refine va_get (D := D) (ci := 4) (v := .ref (a 0)) (C := RX4) (T := TX4) (N := 2) hx hb hts tu_4 hown hE.1 hP 29 xo_29 rfl 0 (by decide) (hts _ tw_150) (fun _ h9 => h9) rfl dX4_roomOf_5 ?_
  refine va_get (D := D) (ci := 2) (v := .ref (a 3)) (C := RX2) (T := TX2) (N := 8) hx hb hts tu_2 hown hE.1 hP 0 hw_0 rfl 5 (by decide) (hts _ tw_129) (fun _ h9 => h9) rfl dX4_roomOf_8 ?_
  refine lv_iload_n hx hb dX4_roomOf_11 rfl (lv_at hl 1 rfl) ?_
  refine c_pVi (rest := []) hC hE hP (metX3_at l hw_3 hw_16 (by decide) ch) gc_RX4_68 hd_X3_at ⟨rfl, rfl⟩ ⟨Nat.le_of_ble_eq_true rfl, Nat.le_of_ble_eq_true rfl⟩ 3 hw_3 rfl rfl hl.1 (Nat.le_of_ble_eq_true rfl) ⟨Nat.le_of_ble_eq_true rfl, Nat.le_of_ble_eq_true rfl⟩ dX4_roomOf_12 ?_
  exact p_iret hx hb hr hlk dX4_roomOf_15 (rfl)

set_option maxHeartbeats 4000000 in
set_option maxRecDepth 100000 in
theorem metX4_chuteOfFlight (l : Launch) {D : va_G} {k : Nat → ClassId} {a tr : Nat → Nat} {x : Nat} {R : va_W} (S : HS) (f : Int32) (hk0 : xFlt S f) : PM l yX4_chuteOfFlight cX4_chuteOfFlight 2 (some FieldType.int) rmX4_chuteOfFlight D k (hw k a S ++ ((x, .inr (4, [.ref (a 0), .ref (tr 0)])) :: R)) [.ref x, .int f] (some (.int (rd 6 (S 1) f))) := by
  refine PM_of rfl (Nat.le_of_ble_eq_true rfl) ?_
  intro p e s m below meth c hC hr hlk hin hE hP ls hl
  have hC : CallFix p m c cX4_chuteOfFlight 2 s _ lw_all RX4 := hC
  have hx := hC.1
  have hb := hC.2.1
  have hown : s.vm.findClass RX4 = some m.cls := hC.2.2.2.1
  have hts := hC.2.2.2.2
  have hl : lv_has ls 2 [(0, .ref x), (1, .int f)] := hl
  refine lv_aload_n hx hb dX4_chuteOfFlight_0 rfl (lv_at hl 0 rfl) ?_
  refine lv_iload_n hx hb dX4_chuteOfFlight_1 rfl (lv_at hl 1 rfl) ?_
  refine c_pVv (rest := []) hC hE hP (metX4_needFlight l S f (show xFlt S f from hk0)) gc_RX4_40 hd_X4_needFlight ⟨rfl, rfl⟩ ⟨Nat.le_of_ble_eq_true rfl, Nat.le_of_ble_eq_true rfl⟩ 29 xo_29 rfl rfl hl.1 (Nat.le_of_ble_eq_true rfl) ⟨Nat.le_of_ble_eq_true rfl, Nat.le_of_ble_eq_true rfl⟩ dX4_chuteOfFlight_2 ?_
  refine lv_aload_n hx hb dX4_chuteOfFlight_5 rfl (lv_at hl 0 rfl) ?_
  refine va_get (D := D) (ci := 4) (v := .ref (a 0)) (C := RX4) (T := TX4) (N := 2) hx hb hts tu_4 hown hE.1 hP 29 xo_29 rfl 0 (by decide) (hts _ tw_150) (fun _ h9 => h9) rfl dX4_chuteOfFlight_6 ?_
  refine va_get (D := D) (ci := 2) (v := .ref (a 1)) (C := RX2) (T := TX2) (N := 8) hx hb hts tu_2 hown hE.1 hP 0 hw_0 rfl 3 (by decide) (hts _ tw_125) (fun _ h9 => h9) rfl dX4_chuteOfFlight_9 ?_
  refine va_get (D := D) (ci := 1) (v := .ref (a 6)) (C := RX1) (T := TX1) (N := 3) hx hb hts tu_1 hown hE.1 hP 1 hw_1 rfl 1 (by decide) (hts _ tw_54) (fun _ h9 => h9) rfl dX4_chuteOfFlight_12 ?_
  refine lv_iload_n hx hb dX4_chuteOfFlight_15 rfl (lv_at hl 1 rfl) ?_
  refine c_pVi (rest := []) hC hE hP (metX3_at l hw_6 hw_19 (by decide) f) gc_RX4_68 hd_X3_at ⟨rfl, rfl⟩ ⟨Nat.le_of_ble_eq_true rfl, Nat.le_of_ble_eq_true rfl⟩ 6 hw_6 rfl rfl hl.1 (Nat.le_of_ble_eq_true rfl) ⟨Nat.le_of_ble_eq_true rfl, Nat.le_of_ble_eq_true rfl⟩ dX4_chuteOfFlight_16 ?_
  exact p_iret hx hb hr hlk dX4_chuteOfFlight_19 (rfl)

set_option maxHeartbeats 4000000 in
set_option maxRecDepth 100000 in
theorem metX4_isGone (l : Launch) {D : va_G} {k : Nat → ClassId} {a tr : Nat → Nat} {x : Nat} {R : va_W} (S : HS) (f : Int32) (hk0 : xFlt S f) : PM l yX4_isGone cX4_isGone 2 (some FieldType.boolean) rmX4_isGone D k (hw k a S ++ ((x, .inr (4, [.ref (a 0), .ref (tr 0)])) :: R)) [.ref x, .int f] (some (.int (bI (xGone S f)))) := by
  refine PM_of rfl (Nat.le_of_ble_eq_true rfl) ?_
  intro p e s m below meth c hC hr hlk hin hE hP ls hl
  have hC : CallFix p m c cX4_isGone 2 s _ lw_all RX4 := hC
  have hx := hC.1
  have hb := hC.2.1
  have hown : s.vm.findClass RX4 = some m.cls := hC.2.2.2.1
  have hts := hC.2.2.2.2
  have hl : lv_has ls 2 [(0, .ref x), (1, .int f)] := hl
  refine lv_aload_n hx hb dX4_isGone_0 rfl (lv_at hl 0 rfl) ?_
  refine lv_iload_n hx hb dX4_isGone_1 rfl (lv_at hl 1 rfl) ?_
  refine c_pVv (rest := []) hC hE hP (metX4_needFlight l S f (show xFlt S f from hk0)) gc_RX4_40 hd_X4_needFlight ⟨rfl, rfl⟩ ⟨Nat.le_of_ble_eq_true rfl, Nat.le_of_ble_eq_true rfl⟩ 29 xo_29 rfl rfl hl.1 (Nat.le_of_ble_eq_true rfl) ⟨Nat.le_of_ble_eq_true rfl, Nat.le_of_ble_eq_true rfl⟩ dX4_isGone_2 ?_
  refine lv_aload_n hx hb dX4_isGone_5 rfl (lv_at hl 0 rfl) ?_
  refine va_get (D := D) (ci := 4) (v := .ref (a 0)) (C := RX4) (T := TX4) (N := 2) hx hb hts tu_4 hown hE.1 hP 29 xo_29 rfl 0 (by decide) (hts _ tw_150) (fun _ h9 => h9) rfl dX4_isGone_6 ?_
  refine va_get (D := D) (ci := 2) (v := .ref (a 1)) (C := RX2) (T := TX2) (N := 8) hx hb hts tu_2 hown hE.1 hP 0 hw_0 rfl 3 (by decide) (hts _ tw_125) (fun _ h9 => h9) rfl dX4_isGone_9 ?_
  refine lv_iload_n hx hb dX4_isGone_12 rfl (lv_at hl 1 rfl) ?_
  refine c_pVi (rest := []) hC hE hP (metX1_hasLeft l S f) gc_RX4_119 hd_X1_hasLeft ⟨rfl, rfl⟩ ⟨Nat.le_of_ble_eq_true rfl, Nat.le_of_ble_eq_true rfl⟩ 1 hw_1 rfl rfl hl.1 (Nat.le_of_ble_eq_true rfl) ⟨Nat.le_of_ble_eq_true rfl, Nat.le_of_ble_eq_true rfl⟩ dX4_isGone_13 ?_
  exact p_zret hx hb hr (bI_narrow _) hlk dX4_isGone_16 (rfl)

set_option maxHeartbeats 4000000 in
set_option maxRecDepth 100000 in
theorem metX4_readyOf (l : Launch) {D : va_G} {k : Nat → ClassId} {a tr : Nat → Nat} {x : Nat} {R : va_W} (S : HS) (f : Int32) (n : Nat) (hn4 : S 0 4 = nI n) (hn40 : n ≤ 40) (hk0 : xFlt S f) : PM l yX4_readyOf cX4_readyOf 2 (some FieldType.int) rmX4_readyOf D k (hw k a S ++ ((x, .inr (4, [.ref (a 0), .ref (tr 0)])) :: R)) [.ref x, .int f] (some (.int (nI (xRdyN S f n)))) := by
  refine PM_of rfl (Nat.le_of_ble_eq_true rfl) ?_
  intro p e s m below meth c hC hr hlk hin hE hP ls hl
  have hC : CallFix p m c cX4_readyOf 2 s _ lw_all RX4 := hC
  have hx := hC.1
  have hb := hC.2.1
  have hown : s.vm.findClass RX4 = some m.cls := hC.2.2.2.1
  have hts := hC.2.2.2.2
  have hl : lv_has ls 2 [(0, .ref x), (1, .int f)] := hl
  refine lv_aload_n hx hb dX4_readyOf_0 rfl (lv_at hl 0 rfl) ?_
  refine lv_iload_n hx hb dX4_readyOf_1 rfl (lv_at hl 1 rfl) ?_
  refine c_pVv (rest := []) hC hE hP (metX4_needFlight l S f (show xFlt S f from hk0)) gc_RX4_40 hd_X4_needFlight ⟨rfl, rfl⟩ ⟨Nat.le_of_ble_eq_true rfl, Nat.le_of_ble_eq_true rfl⟩ 29 xo_29 rfl rfl hl.1 (Nat.le_of_ble_eq_true rfl) ⟨Nat.le_of_ble_eq_true rfl, Nat.le_of_ble_eq_true rfl⟩ dX4_readyOf_2 ?_
  refine lv_aload_n hx hb dX4_readyOf_5 rfl (lv_at hl 0 rfl) ?_
  refine va_get (D := D) (ci := 4) (v := .ref (a 0)) (C := RX4) (T := TX4) (N := 2) hx hb hts tu_4 hown hE.1 hP 29 xo_29 rfl 0 (by decide) (hts _ tw_150) (fun _ h9 => h9) rfl dX4_readyOf_6 ?_
  refine lv_iload_n hx hb dX4_readyOf_9 rfl (lv_at hl 1 rfl) ?_
  refine c_pVi (rest := []) hC hE hP (metX2_countReady l S f n hn4 hn40) gc_RX4_174 hd_X2_countReady ⟨rfl, rfl⟩ ⟨Nat.le_of_ble_eq_true rfl, Nat.le_of_ble_eq_true rfl⟩ 0 hw_0 rfl rfl hl.1 (Nat.le_of_ble_eq_true rfl) ⟨Nat.le_of_ble_eq_true rfl, Nat.le_of_ble_eq_true rfl⟩ dX4_readyOf_10 ?_
  exact p_iret hx hb hr hlk dX4_readyOf_13 (rfl)

set_option maxHeartbeats 4000000 in
set_option maxRecDepth 100000 in
theorem metX4_missingOf (l : Launch) {D : va_G} {k : Nat → ClassId} {a tr : Nat → Nat} {x : Nat} {R : va_W} (S : HS) (f : Int32) (n : Nat) (hn4 : S 0 4 = nI n) (hn40 : n ≤ 40) (hk0 : xFlt S f) : PM l yX4_missingOf cX4_missingOf 2 (some FieldType.int) rmX4_missingOf D k (hw k a S ++ ((x, .inr (4, [.ref (a 0), .ref (tr 0)])) :: R)) [.ref x, .int f] (some (.int (nI (ct (fun j_ => S 3 j_ = f) 40) - nI (xRdyN S f n)))) := by
  refine PM_of rfl (Nat.le_of_ble_eq_true rfl) ?_
  intro p e s m below meth c hC hr hlk hin hE hP ls hl
  have hC : CallFix p m c cX4_missingOf 2 s _ lw_all RX4 := hC
  have hx := hC.1
  have hb := hC.2.1
  have hown : s.vm.findClass RX4 = some m.cls := hC.2.2.2.1
  have hts := hC.2.2.2.2
  have hl : lv_has ls 2 [(0, .ref x), (1, .int f)] := hl
  refine lv_aload_n hx hb dX4_missingOf_0 rfl (lv_at hl 0 rfl) ?_
  refine lv_iload_n hx hb dX4_missingOf_1 rfl (lv_at hl 1 rfl) ?_
  refine c_pVv (rest := []) hC hE hP (metX4_needFlight l S f (show xFlt S f from hk0)) gc_RX4_40 hd_X4_needFlight ⟨rfl, rfl⟩ ⟨Nat.le_of_ble_eq_true rfl, Nat.le_of_ble_eq_true rfl⟩ 29 xo_29 rfl rfl hl.1 (Nat.le_of_ble_eq_true rfl) ⟨Nat.le_of_ble_eq_true rfl, Nat.le_of_ble_eq_true rfl⟩ dX4_missingOf_2 ?_
  refine lv_aload_n hx hb dX4_missingOf_5 rfl (lv_at hl 0 rfl) ?_
  refine va_get (D := D) (ci := 4) (v := .ref (a 0)) (C := RX4) (T := TX4) (N := 2) hx hb hts tu_4 hown hE.1 hP 29 xo_29 rfl 0 (by decide) (hts _ tw_150) (fun _ h9 => h9) rfl dX4_missingOf_6 ?_
  refine lv_iload_n hx hb dX4_missingOf_9 rfl (lv_at hl 1 rfl) ?_
  refine c_pVi (rest := []) hC hE hP (metX2_countMissing l S f n hn4 hn40) gc_RX4_177 hd_X2_countMissing ⟨rfl, rfl⟩ ⟨Nat.le_of_ble_eq_true rfl, Nat.le_of_ble_eq_true rfl⟩ 0 hw_0 rfl rfl hl.1 (Nat.le_of_ble_eq_true rfl) ⟨Nat.le_of_ble_eq_true rfl, Nat.le_of_ble_eq_true rfl⟩ dX4_missingOf_10 ?_
  exact p_iret hx hb hr hlk dX4_missingOf_13 (rfl)

set_option maxHeartbeats 4000000 in
set_option maxRecDepth 100000 in
theorem metX4_minute (l : Launch) {D : va_G} {k : Nat → ClassId} {a tr : Nat → Nat} {x : Nat} {R : va_W} (S : HS) : PM l yX4_minute cX4_minute 1 (some FieldType.int) rmX4_minute D k (hw k a S ++ ((x, .inr (4, [.ref (a 0), .ref (tr 0)])) :: R)) [.ref x] (some (.int (S 0 0))) := by
  refine PM_of rfl (Nat.le_of_ble_eq_true rfl) ?_
  intro p e s m below meth c hC hr hlk hin hE hP ls hl
  have hC : CallFix p m c cX4_minute 1 s _ lw_all RX4 := hC
  have hx := hC.1
  have hb := hC.2.1
  have hown : s.vm.findClass RX4 = some m.cls := hC.2.2.2.1
  have hts := hC.2.2.2.2
  have hl : lv_has ls 1 [(0, .ref x)] := hl
  refine lv_aload_n hx hb dX4_minute_0 rfl (lv_at hl 0 rfl) ?_
  refine va_get (D := D) (ci := 4) (v := .ref (a 0)) (C := RX4) (T := TX4) (N := 2) hx hb hts tu_4 hown hE.1 hP 29 xo_29 rfl 0 (by decide) (hts _ tw_150) (fun _ h9 => h9) rfl dX4_minute_1 ?_
  refine va_get (D := D) (ci := 2) (v := .int (S 0 0)) (C := RX2) (T := TX2) (N := 8) hx hb hts tu_2 hown hE.1 hP 0 hw_0 rfl 0 (by decide) (hts _ tw_119) (fun _ h9 => h9) rfl dX4_minute_4 ?_
  exact p_iret hx hb hr hlk dX4_minute_7 (rfl)

set_option maxHeartbeats 4000000 in
set_option maxRecDepth 100000 in
theorem metX4_flights (l : Launch) {D : va_G} {k : Nat → ClassId} {a tr : Nat → Nat} {x : Nat} {R : va_W} (S : HS) : PM l yX4_flights cX4_flights 1 (some FieldType.int) rmX4_flights D k (hw k a S ++ ((x, .inr (4, [.ref (a 0), .ref (tr 0)])) :: R)) [.ref x] (some (.int (S 0 3))) := by
  refine PM_of rfl (Nat.le_of_ble_eq_true rfl) ?_
  intro p e s m below meth c hC hr hlk hin hE hP ls hl
  have hC : CallFix p m c cX4_flights 1 s _ lw_all RX4 := hC
  have hx := hC.1
  have hb := hC.2.1
  have hown : s.vm.findClass RX4 = some m.cls := hC.2.2.2.1
  have hts := hC.2.2.2.2
  have hl : lv_has ls 1 [(0, .ref x)] := hl
  refine lv_aload_n hx hb dX4_flights_0 rfl (lv_at hl 0 rfl) ?_
  refine va_get (D := D) (ci := 4) (v := .ref (a 0)) (C := RX4) (T := TX4) (N := 2) hx hb hts tu_4 hown hE.1 hP 29 xo_29 rfl 0 (by decide) (hts _ tw_150) (fun _ h9 => h9) rfl dX4_flights_1 ?_
  refine va_get (D := D) (ci := 2) (v := .ref (a 1)) (C := RX2) (T := TX2) (N := 8) hx hb hts tu_2 hown hE.1 hP 0 hw_0 rfl 3 (by decide) (hts _ tw_125) (fun _ h9 => h9) rfl dX4_flights_4 ?_
  refine va_get (D := D) (ci := 1) (v := .int (S 0 3)) (C := RX1) (T := TX1) (N := 3) hx hb hts tu_1 hown hE.1 hP 1 hw_1 rfl 0 (by decide) (hts _ tw_51) (fun _ h9 => h9) rfl dX4_flights_7 ?_
  exact p_iret hx hb hr hlk dX4_flights_10 (rfl)

set_option maxHeartbeats 4000000 in
set_option maxRecDepth 100000 in
theorem metX4_bags (l : Launch) {D : va_G} {k : Nat → ClassId} {a tr : Nat → Nat} {x : Nat} {R : va_W} (S : HS) : PM l yX4_bags cX4_bags 1 (some FieldType.int) rmX4_bags D k (hw k a S ++ ((x, .inr (4, [.ref (a 0), .ref (tr 0)])) :: R)) [.ref x] (some (.int (S 0 4))) := by
  refine PM_of rfl (Nat.le_of_ble_eq_true rfl) ?_
  intro p e s m below meth c hC hr hlk hin hE hP ls hl
  have hC : CallFix p m c cX4_bags 1 s _ lw_all RX4 := hC
  have hx := hC.1
  have hb := hC.2.1
  have hown : s.vm.findClass RX4 = some m.cls := hC.2.2.2.1
  have hts := hC.2.2.2.2
  have hl : lv_has ls 1 [(0, .ref x)] := hl
  refine lv_aload_n hx hb dX4_bags_0 rfl (lv_at hl 0 rfl) ?_
  refine va_get (D := D) (ci := 4) (v := .ref (a 0)) (C := RX4) (T := TX4) (N := 2) hx hb hts tu_4 hown hE.1 hP 29 xo_29 rfl 0 (by decide) (hts _ tw_150) (fun _ h9 => h9) rfl dX4_bags_1 ?_
  refine va_get (D := D) (ci := 2) (v := .ref (a 2)) (C := RX2) (T := TX2) (N := 8) hx hb hts tu_2 hown hE.1 hP 0 hw_0 rfl 4 (by decide) (hts _ tw_127) (fun _ h9 => h9) rfl dX4_bags_4 ?_
  refine va_get (D := D) (ci := 0) (v := .int (S 0 4)) (C := RX0) (T := TX0) (N := 9) hx hb hts tu_0 hown hE.1 hP 2 hw_2 rfl 0 (by decide) (hts _ tw_74) (fun _ h9 => h9) rfl dX4_bags_7 ?_
  exact p_iret hx hb hr hlk dX4_bags_10 (rfl)

set_option maxHeartbeats 4000000 in
set_option maxRecDepth 100000 in
theorem metX4_inLine (l : Launch) {D : va_G} {k : Nat → ClassId} {a tr : Nat → Nat} {x : Nat} {R : va_W} (S : HS) : PM l yX4_inLine cX4_inLine 1 (some FieldType.int) rmX4_inLine D k (hw k a S ++ ((x, .inr (4, [.ref (a 0), .ref (tr 0)])) :: R)) [.ref x] (some (.int (nI (ct (fun j_ => S 6 j_ = 0) 40)))) := by
  refine PM_of rfl (Nat.le_of_ble_eq_true rfl) ?_
  intro p e s m below meth c hC hr hlk hin hE hP ls hl
  have hC : CallFix p m c cX4_inLine 1 s _ lw_all RX4 := hC
  have hx := hC.1
  have hb := hC.2.1
  have hown : s.vm.findClass RX4 = some m.cls := hC.2.2.2.1
  have hts := hC.2.2.2.2
  have hl : lv_has ls 1 [(0, .ref x)] := hl
  refine lv_aload_n hx hb dX4_inLine_0 rfl (lv_at hl 0 rfl) ?_
  refine va_get (D := D) (ci := 4) (v := .ref (a 0)) (C := RX4) (T := TX4) (N := 2) hx hb hts tu_4 hown hE.1 hP 29 xo_29 rfl 0 (by decide) (hts _ tw_150) (fun _ h9 => h9) rfl dX4_inLine_1 ?_
  refine va_get (D := D) (ci := 2) (v := .ref (a 2)) (C := RX2) (T := TX2) (N := 8) hx hb hts tu_2 hown hE.1 hP 0 hw_0 rfl 4 (by decide) (hts _ tw_127) (fun _ h9 => h9) rfl dX4_inLine_4 ?_
  refine va_get (D := D) (ci := 0) (v := .ref (a 11)) (C := RX0) (T := TX0) (N := 9) hx hb hts tu_0 hown hE.1 hP 2 hw_2 rfl 4 (by decide) (hts _ tw_84) (fun _ h9 => h9) rfl dX4_inLine_7 ?_
  refine lv_iconst (v := 0) hx hb dX4_inLine_10 (by decide) ?_
  refine c_pVi (rest := []) hC hE hP (metX3_count l hw_11 hw_24 (by decide) 0) gc_RX4_169 hd_X3_count ⟨rfl, rfl⟩ ⟨Nat.le_of_ble_eq_true rfl, Nat.le_of_ble_eq_true rfl⟩ 11 hw_11 rfl rfl hl.1 (Nat.le_of_ble_eq_true rfl) ⟨Nat.le_of_ble_eq_true rfl, Nat.le_of_ble_eq_true rfl⟩ dX4_inLine_11 ?_
  exact p_iret hx hb hr hlk dX4_inLine_14 (rfl)

set_option maxHeartbeats 4000000 in
set_option maxRecDepth 100000 in
theorem metX4_onBelt (l : Launch) {D : va_G} {k : Nat → ClassId} {a tr : Nat → Nat} {x : Nat} {R : va_W} (S : HS) : PM l yX4_onBelt cX4_onBelt 1 (some FieldType.int) rmX4_onBelt D k (hw k a S ++ ((x, .inr (4, [.ref (a 0), .ref (tr 0)])) :: R)) [.ref x] (some (.int (nI (ct (fun j_ => S 6 j_ = 1) 40)))) := by
  refine PM_of rfl (Nat.le_of_ble_eq_true rfl) ?_
  intro p e s m below meth c hC hr hlk hin hE hP ls hl
  have hC : CallFix p m c cX4_onBelt 1 s _ lw_all RX4 := hC
  have hx := hC.1
  have hb := hC.2.1
  have hown : s.vm.findClass RX4 = some m.cls := hC.2.2.2.1
  have hts := hC.2.2.2.2
  have hl : lv_has ls 1 [(0, .ref x)] := hl
  refine lv_aload_n hx hb dX4_onBelt_0 rfl (lv_at hl 0 rfl) ?_
  refine va_get (D := D) (ci := 4) (v := .ref (a 0)) (C := RX4) (T := TX4) (N := 2) hx hb hts tu_4 hown hE.1 hP 29 xo_29 rfl 0 (by decide) (hts _ tw_150) (fun _ h9 => h9) rfl dX4_onBelt_1 ?_
  refine va_get (D := D) (ci := 2) (v := .ref (a 2)) (C := RX2) (T := TX2) (N := 8) hx hb hts tu_2 hown hE.1 hP 0 hw_0 rfl 4 (by decide) (hts _ tw_127) (fun _ h9 => h9) rfl dX4_onBelt_4 ?_
  refine va_get (D := D) (ci := 0) (v := .ref (a 11)) (C := RX0) (T := TX0) (N := 9) hx hb hts tu_0 hown hE.1 hP 2 hw_2 rfl 4 (by decide) (hts _ tw_84) (fun _ h9 => h9) rfl dX4_onBelt_7 ?_
  refine lv_iconst (v := 1) hx hb dX4_onBelt_10 (by decide) ?_
  refine c_pVi (rest := []) hC hE hP (metX3_count l hw_11 hw_24 (by decide) 1) gc_RX4_169 hd_X3_count ⟨rfl, rfl⟩ ⟨Nat.le_of_ble_eq_true rfl, Nat.le_of_ble_eq_true rfl⟩ 11 hw_11 rfl rfl hl.1 (Nat.le_of_ble_eq_true rfl) ⟨Nat.le_of_ble_eq_true rfl, Nat.le_of_ble_eq_true rfl⟩ dX4_onBelt_11 ?_
  exact p_iret hx hb hr hlk dX4_onBelt_14 (rfl)

set_option maxHeartbeats 4000000 in
set_option maxRecDepth 100000 in
theorem metX4_atDesk (l : Launch) {D : va_G} {k : Nat → ClassId} {a tr : Nat → Nat} {x : Nat} {R : va_W} (S : HS) : PM l yX4_atDesk cX4_atDesk 1 (some FieldType.int) rmX4_atDesk D k (hw k a S ++ ((x, .inr (4, [.ref (a 0), .ref (tr 0)])) :: R)) [.ref x] (some (.int (nI (ct (fun j_ => S 6 j_ = 3) 40)))) := by
  refine PM_of rfl (Nat.le_of_ble_eq_true rfl) ?_
  intro p e s m below meth c hC hr hlk hin hE hP ls hl
  have hC : CallFix p m c cX4_atDesk 1 s _ lw_all RX4 := hC
  have hx := hC.1
  have hb := hC.2.1
  have hown : s.vm.findClass RX4 = some m.cls := hC.2.2.2.1
  have hts := hC.2.2.2.2
  have hl : lv_has ls 1 [(0, .ref x)] := hl
  refine lv_aload_n hx hb dX4_atDesk_0 rfl (lv_at hl 0 rfl) ?_
  refine va_get (D := D) (ci := 4) (v := .ref (a 0)) (C := RX4) (T := TX4) (N := 2) hx hb hts tu_4 hown hE.1 hP 29 xo_29 rfl 0 (by decide) (hts _ tw_150) (fun _ h9 => h9) rfl dX4_atDesk_1 ?_
  refine va_get (D := D) (ci := 2) (v := .ref (a 2)) (C := RX2) (T := TX2) (N := 8) hx hb hts tu_2 hown hE.1 hP 0 hw_0 rfl 4 (by decide) (hts _ tw_127) (fun _ h9 => h9) rfl dX4_atDesk_4 ?_
  refine va_get (D := D) (ci := 0) (v := .ref (a 11)) (C := RX0) (T := TX0) (N := 9) hx hb hts tu_0 hown hE.1 hP 2 hw_2 rfl 4 (by decide) (hts _ tw_84) (fun _ h9 => h9) rfl dX4_atDesk_7 ?_
  refine lv_iconst (v := 3) hx hb dX4_atDesk_10 (by decide) ?_
  refine c_pVi (rest := []) hC hE hP (metX3_count l hw_11 hw_24 (by decide) 3) gc_RX4_169 hd_X3_count ⟨rfl, rfl⟩ ⟨Nat.le_of_ble_eq_true rfl, Nat.le_of_ble_eq_true rfl⟩ 11 hw_11 rfl rfl hl.1 (Nat.le_of_ble_eq_true rfl) ⟨Nat.le_of_ble_eq_true rfl, Nat.le_of_ble_eq_true rfl⟩ dX4_atDesk_11 ?_
  exact p_iret hx hb hr hlk dX4_atDesk_14 (rfl)

set_option maxHeartbeats 4000000 in
set_option maxRecDepth 100000 in
theorem metX4_openFiles (l : Launch) {D : va_G} {k : Nat → ClassId} {a tr : Nat → Nat} {x : Nat} {R : va_W} (S : HS) : PM l yX4_openFiles cX4_openFiles 1 (some FieldType.int) rmX4_openFiles D k (hw k a S ++ ((x, .inr (4, [.ref (a 0), .ref (tr 0)])) :: R)) [.ref x] (some (.int (nI (ct (fun j_ => S 10 j_ = 1) 40)))) := by
  refine PM_of rfl (Nat.le_of_ble_eq_true rfl) ?_
  intro p e s m below meth c hC hr hlk hin hE hP ls hl
  have hC : CallFix p m c cX4_openFiles 1 s _ lw_all RX4 := hC
  have hx := hC.1
  have hb := hC.2.1
  have hown : s.vm.findClass RX4 = some m.cls := hC.2.2.2.1
  have hts := hC.2.2.2.2
  have hl : lv_has ls 1 [(0, .ref x)] := hl
  refine lv_aload_n hx hb dX4_openFiles_0 rfl (lv_at hl 0 rfl) ?_
  refine va_get (D := D) (ci := 4) (v := .ref (a 0)) (C := RX4) (T := TX4) (N := 2) hx hb hts tu_4 hown hE.1 hP 29 xo_29 rfl 0 (by decide) (hts _ tw_150) (fun _ h9 => h9) rfl dX4_openFiles_1 ?_
  refine va_get (D := D) (ci := 2) (v := .ref (a 2)) (C := RX2) (T := TX2) (N := 8) hx hb hts tu_2 hown hE.1 hP 0 hw_0 rfl 4 (by decide) (hts _ tw_127) (fun _ h9 => h9) rfl dX4_openFiles_4 ?_
  refine va_get (D := D) (ci := 0) (v := .ref (a 15)) (C := RX0) (T := TX0) (N := 9) hx hb hts tu_0 hown hE.1 hP 2 hw_2 rfl 8 (by decide) (hts _ tw_96) (fun _ h9 => h9) rfl dX4_openFiles_7 ?_
  refine lv_iconst (v := 1) hx hb dX4_openFiles_10 (by decide) ?_
  refine c_pVi (rest := []) hC hE hP (metX3_count l hw_15 hw_28 (by decide) 1) gc_RX4_169 hd_X3_count ⟨rfl, rfl⟩ ⟨Nat.le_of_ble_eq_true rfl, Nat.le_of_ble_eq_true rfl⟩ 15 hw_15 rfl rfl hl.1 (Nat.le_of_ble_eq_true rfl) ⟨Nat.le_of_ble_eq_true rfl, Nat.le_of_ble_eq_true rfl⟩ dX4_openFiles_11 ?_
  exact p_iret hx hb hr hlk dX4_openFiles_14 (rfl)

set_option maxHeartbeats 4000000 in
set_option maxRecDepth 100000 in
theorem metX4_closedFiles (l : Launch) {D : va_G} {k : Nat → ClassId} {a tr : Nat → Nat} {x : Nat} {R : va_W} (S : HS) : PM l yX4_closedFiles cX4_closedFiles 1 (some FieldType.int) rmX4_closedFiles D k (hw k a S ++ ((x, .inr (4, [.ref (a 0), .ref (tr 0)])) :: R)) [.ref x] (some (.int (nI (ct (fun j_ => S 10 j_ = 2) 40)))) := by
  refine PM_of rfl (Nat.le_of_ble_eq_true rfl) ?_
  intro p e s m below meth c hC hr hlk hin hE hP ls hl
  have hC : CallFix p m c cX4_closedFiles 1 s _ lw_all RX4 := hC
  have hx := hC.1
  have hb := hC.2.1
  have hown : s.vm.findClass RX4 = some m.cls := hC.2.2.2.1
  have hts := hC.2.2.2.2
  have hl : lv_has ls 1 [(0, .ref x)] := hl
  refine lv_aload_n hx hb dX4_closedFiles_0 rfl (lv_at hl 0 rfl) ?_
  refine va_get (D := D) (ci := 4) (v := .ref (a 0)) (C := RX4) (T := TX4) (N := 2) hx hb hts tu_4 hown hE.1 hP 29 xo_29 rfl 0 (by decide) (hts _ tw_150) (fun _ h9 => h9) rfl dX4_closedFiles_1 ?_
  refine va_get (D := D) (ci := 2) (v := .ref (a 2)) (C := RX2) (T := TX2) (N := 8) hx hb hts tu_2 hown hE.1 hP 0 hw_0 rfl 4 (by decide) (hts _ tw_127) (fun _ h9 => h9) rfl dX4_closedFiles_4 ?_
  refine va_get (D := D) (ci := 0) (v := .ref (a 15)) (C := RX0) (T := TX0) (N := 9) hx hb hts tu_0 hown hE.1 hP 2 hw_2 rfl 8 (by decide) (hts _ tw_96) (fun _ h9 => h9) rfl dX4_closedFiles_7 ?_
  refine lv_iconst (v := 2) hx hb dX4_closedFiles_10 (by decide) ?_
  refine c_pVi (rest := []) hC hE hP (metX3_count l hw_15 hw_28 (by decide) 2) gc_RX4_169 hd_X3_count ⟨rfl, rfl⟩ ⟨Nat.le_of_ble_eq_true rfl, Nat.le_of_ble_eq_true rfl⟩ 15 hw_15 rfl rfl hl.1 (Nat.le_of_ble_eq_true rfl) ⟨Nat.le_of_ble_eq_true rfl, Nat.le_of_ble_eq_true rfl⟩ dX4_closedFiles_11 ?_
  exact p_iret hx hb hr hlk dX4_closedFiles_14 (rfl)

set_option maxHeartbeats 4000000 in
set_option maxRecDepth 100000 in
theorem metX4_reader (l : Launch) {D : va_G} {k : Nat → ClassId} {a tr : Nat → Nat} {x : Nat} {R : va_W} (S : HS) : PM l yX4_reader cX4_reader 1 (some FieldType.int) rmX4_reader D k (hw k a S ++ ((x, .inr (4, [.ref (a 0), .ref (tr 0)])) :: R)) [.ref x] (some (.int (S 0 1))) := by
  refine PM_of rfl (Nat.le_of_ble_eq_true rfl) ?_
  intro p e s m below meth c hC hr hlk hin hE hP ls hl
  have hC : CallFix p m c cX4_reader 1 s _ lw_all RX4 := hC
  have hx := hC.1
  have hb := hC.2.1
  have hown : s.vm.findClass RX4 = some m.cls := hC.2.2.2.1
  have hts := hC.2.2.2.2
  have hl : lv_has ls 1 [(0, .ref x)] := hl
  refine lv_aload_n hx hb dX4_reader_0 rfl (lv_at hl 0 rfl) ?_
  refine va_get (D := D) (ci := 4) (v := .ref (a 0)) (C := RX4) (T := TX4) (N := 2) hx hb hts tu_4 hown hE.1 hP 29 xo_29 rfl 0 (by decide) (hts _ tw_150) (fun _ h9 => h9) rfl dX4_reader_1 ?_
  refine va_get (D := D) (ci := 2) (v := .int (S 0 1)) (C := RX2) (T := TX2) (N := 8) hx hb hts tu_2 hown hE.1 hP 0 hw_0 rfl 1 (by decide) (hts _ tw_121) (fun _ h9 => h9) rfl dX4_reader_4 ?_
  exact p_iret hx hb hr hlk dX4_reader_7 (rfl)

