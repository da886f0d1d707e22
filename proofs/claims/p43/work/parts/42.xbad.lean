set_option maxHeartbeats 4000000 in
set_option maxRecDepth 100000 in
theorem xmtX4_needBag (l : Launch) {D : va_G} {k : Nat → ClassId} {a tr : Nat → Nat} {x : Nat} {R : va_W} (S : HS) (i : Int32) (hfl : l.stackTraces = false) (hbad : ¬ xBag S i) : XM l yX4_needBag cX4_needBag 2 none rmX4_needBag D k (hw k a S ++ ((x, .inr (4, [.ref (a 0), .ref (tr 0)])) :: R)) [.ref x, .int i] "java/lang/IndexOutOfBoundsException" := by
  refine XM_of rfl (Nat.le_of_ble_eq_true rfl) ?_
  intro p e s m below meth c hC hlk hnt hE hP hX hZ ls hl
  have hC : CallFix p m c cX4_needBag 2 s _ lw_all RX4 := hC
  have hx := hC.1
  have hb := hC.2.1
  have hown : s.vm.findClass RX4 = some m.cls := hC.2.2.2.1
  have hts := hC.2.2.2.2
  have hl : lv_has ls 2 [(0, .ref x), (1, .int i)] := hl
  refine lv_iload_n hx hb dX4_needBag_0 rfl (lv_at hl 1 rfl) ?_
  refine lv_if_lt (tgt := 18) hx hb dX4_needBag_1 (by decide) (fun c_1 => ?_) (fun c_1 => ?_)
  · exact x_IOB (tx := "there is no such bag") hC hlk hnt hfl hP hX hZ hl.1 (by decide +kernel) dX4_needBag_18 dX4_needBag_21 dX4_needBag_22 dX4_needBag_24 dX4_needBag_27 (Nat.le_of_ble_eq_true rfl) (Nat.le_of_ble_eq_true rfl) ⟨Nat.le_of_ble_eq_true rfl, Nat.le_of_ble_eq_true rfl⟩
  · refine lv_iload_n hx hb dX4_needBag_4 rfl (lv_at hl 1 rfl) ?_
    refine lv_aload_n hx hb dX4_needBag_5 rfl (lv_at hl 0 rfl) ?_
    refine va_get (D := D) (ci := 4) (v := .ref (a 0)) (C := RX4) (T := TX4) (N := 2) hx hb hts tu_4 hown hE.1 hP 29 xo_29 rfl 0 (by decide) (hts _ tw_150) (fun _ h9 => h9) rfl dX4_needBag_6 ?_
    refine va_get (D := D) (ci := 2) (v := .ref (a 2)) (C := RX2) (T := TX2) (N := 8) hx hb hts tu_2 hown hE.1 hP 0 hw_0 rfl 4 (by decide) (hts _ tw_127) (fun _ h9 => h9) rfl dX4_needBag_9 ?_
    refine va_get (D := D) (ci := 0) (v := .int (S 0 4)) (C := RX0) (T := TX0) (N := 9) hx hb hts tu_0 hown hE.1 hP 2 hw_2 rfl 0 (by decide) (hts _ tw_74) (fun _ h9 => h9) rfl dX4_needBag_12 ?_
    refine lv_icmp_lt (tgt := 28) hx hb dX4_needBag_15 (by decide) (fun c_2 => ?_) (fun c_2 => ?_)
    · exact absurd (show xBag S i from ⟨c_1, c_2⟩) hbad
    · exact x_IOB (tx := "there is no such bag") hC hlk hnt hfl hP hX hZ hl.1 (by decide +kernel) dX4_needBag_18 dX4_needBag_21 dX4_needBag_22 dX4_needBag_24 dX4_needBag_27 (Nat.le_of_ble_eq_true rfl) (Nat.le_of_ble_eq_true rfl) ⟨Nat.le_of_ble_eq_true rfl, Nat.le_of_ble_eq_true rfl⟩

set_option maxHeartbeats 4000000 in
set_option maxRecDepth 100000 in
theorem xmtX4_needFlight (l : Launch) {D : va_G} {k : Nat → ClassId} {a tr : Nat → Nat} {x : Nat} {R : va_W} (S : HS) (i : Int32) (hfl : l.stackTraces = false) (hbad : ¬ xFlt S i) : XM l yX4_needFlight cX4_needFlight 2 none rmX4_needFlight D k (hw k a S ++ ((x, .inr (4, [.ref (a 0), .ref (tr 0)])) :: R)) [.ref x, .int i] "java/lang/IndexOutOfBoundsException" := by
  refine XM_of rfl (Nat.le_of_ble_eq_true rfl) ?_
  intro p e s m below meth c hC hlk hnt hE hP hX hZ ls hl
  have hC : CallFix p m c cX4_needFlight 2 s _ lw_all RX4 := hC
  have hx := hC.1
  have hb := hC.2.1
  have hown : s.vm.findClass RX4 = some m.cls := hC.2.2.2.1
  have hts := hC.2.2.2.2
  have hl : lv_has ls 2 [(0, .ref x), (1, .int i)] := hl
  refine lv_iload_n hx hb dX4_needFlight_0 rfl (lv_at hl 1 rfl) ?_
  refine lv_if_lt (tgt := 18) hx hb dX4_needFlight_1 (by decide) (fun c_1 => ?_) (fun c_1 => ?_)
  · exact x_IOB (tx := "there is no such flight") hC hlk hnt hfl hP hX hZ hl.1 (by decide +kernel) dX4_needFlight_18 dX4_needFlight_21 dX4_needFlight_22 dX4_needFlight_24 dX4_needFlight_27 (Nat.le_of_ble_eq_true rfl) (Nat.le_of_ble_eq_true rfl) ⟨Nat.le_of_ble_eq_true rfl, Nat.le_of_ble_eq_true rfl⟩
  · refine lv_iload_n hx hb dX4_needFlight_4 rfl (lv_at hl 1 rfl) ?_
    refine lv_aload_n hx hb dX4_needFlight_5 rfl (lv_at hl 0 rfl) ?_
    refine va_get (D := D) (ci := 4) (v := .ref (a 0)) (C := RX4) (T := TX4) (N := 2) hx hb hts tu_4 hown hE.1 hP 29 xo_29 rfl 0 (by decide) (hts _ tw_150) (fun _ h9 => h9) rfl dX4_needFlight_6 ?_
    refine va_get (D := D) (ci := 2) (v := .ref (a 1)) (C := RX2) (T := TX2) (N := 8) hx hb hts tu_2 hown hE.1 hP 0 hw_0 rfl 3 (by decide) (hts _ tw_125) (fun _ h9 => h9) rfl dX4_needFlight_9 ?_
    refine va_get (D := D) (ci := 1) (v := .int (S 0 3)) (C := RX1) (T := TX1) (N := 3) hx hb hts tu_1 hown hE.1 hP 1 hw_1 rfl 0 (by decide) (hts _ tw_51) (fun _ h9 => h9) rfl dX4_needFlight_12 ?_
    refine lv_icmp_lt (tgt := 28) hx hb dX4_needFlight_15 (by decide) (fun c_2 => ?_) (fun c_2 => ?_)
    · exact absurd (show xFlt S i from ⟨c_1, c_2⟩) hbad
    · exact x_IOB (tx := "there is no such flight") hC hlk hnt hfl hP hX hZ hl.1 (by decide +kernel) dX4_needFlight_18 dX4_needFlight_21 dX4_needFlight_22 dX4_needFlight_24 dX4_needFlight_27 (Nat.le_of_ble_eq_true rfl) (Nat.le_of_ble_eq_true rfl) ⟨Nat.le_of_ble_eq_true rfl, Nat.le_of_ble_eq_true rfl⟩

set_option maxHeartbeats 4000000 in
set_option maxRecDepth 100000 in
theorem xmtX4_needChute (l : Launch) {D : va_G} {k : Nat → ClassId} {ws : va_W} (i : Int32) (hfl : l.stackTraces = false) (hbad : ¬ xCh i) : XM l yX4_needChute cX4_needChute 1 none rmX4_needChute D k ws [.int i] "java/lang/IndexOutOfBoundsException" := by
  refine XM_of rfl (Nat.le_of_ble_eq_true rfl) ?_
  intro p e s m below meth c hC hlk hnt hE hP hX hZ ls hl
  have hC : CallFix p m c cX4_needChute 1 s _ lw_all RX4 := hC
  have hx := hC.1
  have hb := hC.2.1
  have hown : s.vm.findClass RX4 = some m.cls := hC.2.2.2.1
  have hts := hC.2.2.2.2
  have hl : lv_has ls 1 [(0, .int i)] := hl
  refine lv_iload_n hx hb dX4_needChute_0 rfl (lv_at hl 0 rfl) ?_
  refine c_pSi (rest := []) hC hE hP (metX4_isChute l i) gc_RX4_107 hd_X4_isChute ⟨rfl, rfl⟩ ⟨Nat.le_of_ble_eq_true rfl, Nat.le_of_ble_eq_true rfl⟩ rfl hl.1 (Nat.le_of_ble_eq_true rfl) ⟨Nat.le_of_ble_eq_true rfl, Nat.le_of_ble_eq_true rfl⟩ dX4_needChute_1 ?_
  refine lv_if_ne (tgt := 17) hx hb dX4_needChute_4 (by decide) (fun c_1 => ?_) (fun c_1 => ?_)
  · have c_1 := bI_n c_1
    exact absurd (show xCh i from c_1) hbad
  · have c_1 := bI_0 c_1
    exact x_IOB (tx := "there is no such chute") hC hlk hnt hfl hP hX hZ hl.1 (by decide +kernel) dX4_needChute_7 dX4_needChute_10 dX4_needChute_11 dX4_needChute_13 dX4_needChute_16 (Nat.le_of_ble_eq_true rfl) (Nat.le_of_ble_eq_true rfl) ⟨Nat.le_of_ble_eq_true rfl, Nat.le_of_ble_eq_true rfl⟩

set_option maxHeartbeats 4000000 in
set_option maxRecDepth 100000 in
theorem xmtX4_needMinutes (l : Launch) {D : va_G} {k : Nat → ClassId} {ws : va_W} (i : Int32) (hfl : l.stackTraces = false) (hbad : ¬ xM60 i) : XM l yX4_needMinutes cX4_needMinutes 1 none rmX4_needMinutes D k ws [.int i] "java/lang/IllegalArgumentException" := by
  refine XM_of rfl (Nat.le_of_ble_eq_true rfl) ?_
  intro p e s m below meth c hC hlk hnt hE hP hX hZ ls hl
  have hC : CallFix p m c cX4_needMinutes 1 s _ lw_all RX4 := hC
  have hx := hC.1
  have hb := hC.2.1
  have hown : s.vm.findClass RX4 = some m.cls := hC.2.2.2.1
  have hts := hC.2.2.2.2
  have hl : lv_has ls 1 [(0, .int i)] := hl
  refine lv_iload_n hx hb dX4_needMinutes_0 rfl (lv_at hl 0 rfl) ?_
  refine lv_iconst (v := 1) hx hb dX4_needMinutes_1 (by decide) ?_
  refine lv_icmp_lt (tgt := 11) hx hb dX4_needMinutes_2 (by decide) (fun c_1 => ?_) (fun c_1 => ?_)
  · exact x_IAE (tx := "the minutes are not 1 to 60") hC hlk hnt hfl hP hX hZ hl.1 (by decide +kernel) dX4_needMinutes_11 dX4_needMinutes_14 dX4_needMinutes_15 dX4_needMinutes_17 dX4_needMinutes_20 (Nat.le_of_ble_eq_true rfl) (Nat.le_of_ble_eq_true rfl) ⟨Nat.le_of_ble_eq_true rfl, Nat.le_of_ble_eq_true rfl⟩
  · refine lv_iload_n hx hb dX4_needMinutes_5 rfl (lv_at hl 0 rfl) ?_
    refine lv_bipush (v := 60) hx hb dX4_needMinutes_6 (by decide) ?_
    refine lv_icmp_le (tgt := 21) hx hb dX4_needMinutes_8 (by decide) (fun c_2 => ?_) (fun c_2 => ?_)
    · exact absurd (show xM60 i from ⟨c_1, (Int32.not_lt.mpr c_2)⟩) hbad
    · exact x_IAE (tx := "the minutes are not 1 to 60") hC hlk hnt hfl hP hX hZ hl.1 (by decide +kernel) dX4_needMinutes_11 dX4_needMinutes_14 dX4_needMinutes_15 dX4_needMinutes_17 dX4_needMinutes_20 (Nat.le_of_ble_eq_true rfl) (Nat.le_of_ble_eq_true rfl) ⟨Nat.le_of_ble_eq_true rfl, Nat.le_of_ble_eq_true rfl⟩

set_option maxHeartbeats 4000000 in
set_option maxRecDepth 100000 in
theorem xmtX4_needNotGone (l : Launch) {D : va_G} {k : Nat → ClassId} {a tr : Nat → Nat} {x : Nat} {R : va_W} (S : HS) (i : Int32) (hfl : l.stackTraces = false) (hbad : ¬ (¬ (xGone S i))) : XM l yX4_needNotGone cX4_needNotGone 2 none rmX4_needNotGone D k (hw k a S ++ ((x, .inr (4, [.ref (a 0), .ref (tr 0)])) :: R)) [.ref x, .int i] "java/lang/IllegalStateException" := by
  refine XM_of rfl (Nat.le_of_ble_eq_true rfl) ?_
  intro p e s m below meth c hC hlk hnt hE hP hX hZ ls hl
  have hC : CallFix p m c cX4_needNotGone 2 s _ lw_all RX4 := hC
  have hx := hC.1
  have hb := hC.2.1
  have hown : s.vm.findClass RX4 = some m.cls := hC.2.2.2.1
  have hts := hC.2.2.2.2
  have hl : lv_has ls 2 [(0, .ref x), (1, .int i)] := hl
  refine lv_aload_n hx hb dX4_needNotGone_0 rfl (lv_at hl 0 rfl) ?_
  refine va_get (D := D) (ci := 4) (v := .ref (a 0)) (C := RX4) (T := TX4) (N := 2) hx hb hts tu_4 hown hE.1 hP 29 xo_29 rfl 0 (by decide) (hts _ tw_150) (fun _ h9 => h9) rfl dX4_needNotGone_1 ?_
  refine va_get (D := D) (ci := 2) (v := .ref (a 1)) (C := RX2) (T := TX2) (N := 8) hx hb hts tu_2 hown hE.1 hP 0 hw_0 rfl 3 (by decide) (hts _ tw_125) (fun _ h9 => h9) rfl dX4_needNotGone_4 ?_
  refine lv_iload_n hx hb dX4_needNotGone_7 rfl (lv_at hl 1 rfl) ?_
  refine c_pVi (rest := []) hC hE hP (metX1_hasLeft l S i) gc_RX4_119 hd_X1_hasLeft ⟨rfl, rfl⟩ ⟨Nat.le_of_ble_eq_true rfl, Nat.le_of_ble_eq_true rfl⟩ 1 hw_1 rfl rfl hl.1 (Nat.le_of_ble_eq_true rfl) ⟨Nat.le_of_ble_eq_true rfl, Nat.le_of_ble_eq_true rfl⟩ dX4_needNotGone_8 ?_
  refine lv_if_eq (tgt := 24) hx hb dX4_needNotGone_11 (by decide) (fun c_1 => ?_) (fun c_1 => ?_)
  · have c_1 := bI_0 c_1
    exact absurd (show (¬ (xGone S i)) from c_1) hbad
  · have c_1 := bI_n c_1
    exact x_ISE (tx := "the flight is gone") hC hlk hnt hfl hP hX hZ hl.1 (by decide +kernel) dX4_needNotGone_14 dX4_needNotGone_17 dX4_needNotGone_18 dX4_needNotGone_20 dX4_needNotGone_23 (Nat.le_of_ble_eq_true rfl) (Nat.le_of_ble_eq_true rfl) ⟨Nat.le_of_ble_eq_true rfl, Nat.le_of_ble_eq_true rfl⟩

set_option maxHeartbeats 4000000 in
set_option maxRecDepth 100000 in
theorem xmtX4_needInHand (l : Launch) {D : va_G} {k : Nat → ClassId} {a tr : Nat → Nat} {x : Nat} {R : va_W} (S : HS) (i : Int32) (hfl : l.stackTraces = false) (hbad : ¬ xHand S i) : XM l yX4_needInHand cX4_needInHand 3 none rmX4_needInHand D k (hw k a S ++ ((x, .inr (4, [.ref (a 0), .ref (tr 0)])) :: R)) [.ref x, .int i] "java/lang/IllegalStateException" := by
  refine XM_of rfl (Nat.le_of_ble_eq_true rfl) ?_
  intro p e s m below meth c hC hlk hnt hE hP hX hZ ls hl
  have hC : CallFix p m c cX4_needInHand 3 s _ lw_all RX4 := hC
  have hx := hC.1
  have hb := hC.2.1
  have hown : s.vm.findClass RX4 = some m.cls := hC.2.2.2.1
  have hts := hC.2.2.2.2
  have hl : lv_has ls 3 [(0, .ref x), (1, .int i)] := hl
  refine lv_aload_n hx hb dX4_needInHand_0 rfl (lv_at hl 0 rfl) ?_
  refine va_get (D := D) (ci := 4) (v := .ref (a 0)) (C := RX4) (T := TX4) (N := 2) hx hb hts tu_4 hown hE.1 hP 29 xo_29 rfl 0 (by decide) (hts _ tw_150) (fun _ h9 => h9) rfl dX4_needInHand_1 ?_
  refine va_get (D := D) (ci := 2) (v := .ref (a 2)) (C := RX2) (T := TX2) (N := 8) hx hb hts tu_2 hown hE.1 hP 0 hw_0 rfl 4 (by decide) (hts _ tw_127) (fun _ h9 => h9) rfl dX4_needInHand_4 ?_
  refine va_get (D := D) (ci := 0) (v := .ref (a 11)) (C := RX0) (T := TX0) (N := 9) hx hb hts tu_0 hown hE.1 hP 2 hw_2 rfl 4 (by decide) (hts _ tw_84) (fun _ h9 => h9) rfl dX4_needInHand_7 ?_
  refine lv_iload_n hx hb dX4_needInHand_10 rfl (lv_at hl 1 rfl) ?_
  refine c_pVi (rest := []) hC hE hP (metX3_at l hw_11 hw_24 (by decide) i) gc_RX4_68 hd_X3_at ⟨rfl, rfl⟩ ⟨Nat.le_of_ble_eq_true rfl, Nat.le_of_ble_eq_true rfl⟩ 11 hw_11 rfl rfl hl.1 (Nat.le_of_ble_eq_true rfl) ⟨Nat.le_of_ble_eq_true rfl, Nat.le_of_ble_eq_true rfl⟩ dX4_needInHand_11 ?_
  refine lv_istore_n (lv' := [(2, .int (rd 40 (S 6) i)), (0, .ref x), (1, .int i)]) hx hb dX4_needInHand_14 rfl hl (by decide) rfl (fun ls hl => ?_)
  refine lv_iload_n hx hb dX4_needInHand_15 rfl (lv_at hl 0 rfl) ?_
  refine lv_iconst (v := 3) hx hb dX4_needInHand_16 (by decide) ?_
  refine lv_icmp_eq (tgt := 35) hx hb dX4_needInHand_17 (by decide) (fun c_1 => ?_) (fun c_1 => ?_)
  · exact absurd (show xHand S i from (Or.inl c_1)) hbad
  · refine lv_iload_n hx hb dX4_needInHand_20 rfl (lv_at hl 0 rfl) ?_
    refine lv_iconst (v := 4) hx hb dX4_needInHand_21 (by decide) ?_
    refine lv_icmp_eq (tgt := 35) hx hb dX4_needInHand_22 (by decide) (fun c_2 => ?_) (fun c_2 => ?_)
    · exact absurd (show xHand S i from (Or.inr c_2)) hbad
    · exact x_ISE (tx := "the bag is neither at the desk nor in the room for big ones") hC hlk hnt hfl hP hX hZ hl.1 (by decide +kernel) dX4_needInHand_25 dX4_needInHand_28 dX4_needInHand_29 dX4_needInHand_31 dX4_needInHand_34 (Nat.le_of_ble_eq_true rfl) (Nat.le_of_ble_eq_true rfl) ⟨Nat.le_of_ble_eq_true rfl, Nat.le_of_ble_eq_true rfl⟩

set_option maxHeartbeats 4000000 in
set_option maxRecDepth 100000 in
theorem xmtX4_addFlight_0 (l : Launch) {D : va_G} {k : Nat → ClassId} {a tr : Nat → Nat} {x : Nat} {R : va_W} (S : HS) (hfl : l.stackTraces = false) (hbad : ¬ S 0 3 < 6) : XM l yX4_addFlight cX4_addFlight 1 (some FieldType.int) rmX4_addFlight D k (hw k a S ++ ((x, .inr (4, [.ref (a 0), .ref (tr 0)])) :: R)) [.ref x] "java/lang/IllegalStateException" := by
  refine XM_of rfl (Nat.le_of_ble_eq_true rfl) ?_
  intro p e s m below meth c hC hlk hnt hE hP hX hZ ls hl
  have hC : CallFix p m c cX4_addFlight 1 s _ lw_all RX4 := hC
  have hx := hC.1
  have hb := hC.2.1
  have hown : s.vm.findClass RX4 = some m.cls := hC.2.2.2.1
  have hts := hC.2.2.2.2
  have hl : lv_has ls 1 [(0, .ref x)] := hl
  refine lv_aload_n hx hb dX4_addFlight_0 rfl (lv_at hl 0 rfl) ?_
  refine va_get (D := D) (ci := 4) (v := .ref (a 0)) (C := RX4) (T := TX4) (N := 2) hx hb hts tu_4 hown hE.1 hP 29 xo_29 rfl 0 (by decide) (hts _ tw_150) (fun _ h9 => h9) rfl dX4_addFlight_1 ?_
  refine va_get (D := D) (ci := 2) (v := .ref (a 1)) (C := RX2) (T := TX2) (N := 8) hx hb hts tu_2 hown hE.1 hP 0 hw_0 rfl 3 (by decide) (hts _ tw_125) (fun _ h9 => h9) rfl dX4_addFlight_4 ?_
  refine va_get (D := D) (ci := 1) (v := .int (S 0 3)) (C := RX1) (T := TX1) (N := 3) hx hb hts tu_1 hown hE.1 hP 1 hw_1 rfl 0 (by decide) (hts _ tw_51) (fun _ h9 => h9) rfl dX4_addFlight_7 ?_
  refine lv_bipush (v := 6) hx hb dX4_addFlight_10 (by decide) ?_
  refine lv_icmp_lt (tgt := 25) hx hb dX4_addFlight_12 (by decide) (fun c_1 => ?_) (fun c_1 => ?_)
  · exact absurd (show S 0 3 < 6 from c_1) hbad
  · exact x_ISE (tx := "there are all the flights already") hC hlk hnt hfl hP hX hZ hl.1 (by decide +kernel) dX4_addFlight_15 dX4_addFlight_18 dX4_addFlight_19 dX4_addFlight_21 dX4_addFlight_24 (Nat.le_of_ble_eq_true rfl) (Nat.le_of_ble_eq_true rfl) ⟨Nat.le_of_ble_eq_true rfl, Nat.le_of_ble_eq_true rfl⟩

set_option maxHeartbeats 4000000 in
set_option maxRecDepth 100000 in
theorem xmtX4_giveChute_0 (l : Launch) {D : va_G} {k : Nat → ClassId} {a tr : Nat → Nat} {x : Nat} {R : va_W} (S : HS) (f : Int32) (ch : Int32) (hfl : l.stackTraces = false) (hbad : ¬ xFlt S f) : XM l yX4_giveChute cX4_giveChute 3 (some FieldType.int) rmX4_giveChute D k (hw k a S ++ ((x, .inr (4, [.ref (a 0), .ref (tr 0)])) :: R)) [.ref x, .int f, .int ch] "java/lang/IndexOutOfBoundsException" := by
  refine XM_of rfl (Nat.le_of_ble_eq_true rfl) ?_
  intro p e s m below meth c hC hlk hnt hE hP hX hZ ls hl
  have hC : CallFix p m c cX4_giveChute 3 s _ lw_all RX4 := hC
  have hx := hC.1
  have hb := hC.2.1
  have hown : s.vm.findClass RX4 = some m.cls := hC.2.2.2.1
  have hts := hC.2.2.2.2
  have hl : lv_has ls 3 [(0, .ref x), (1, .int f), (2, .int ch)] := hl
  refine lv_aload_n hx hb dX4_giveChute_0 rfl (lv_at hl 0 rfl) ?_
  refine lv_iload_n hx hb dX4_giveChute_1 rfl (lv_at hl 1 rfl) ?_
  refine c_xV (rest := []) (E := "java/lang/IndexOutOfBoundsException") hC hE hP hX hZ (xmtX4_needFlight l S f hfl hbad) gc_RX4_40 hd_X4_needFlight ⟨Nat.le_of_ble_eq_true rfl, Nat.le_of_ble_eq_true rfl⟩ 29 xo_29 rfl rfl hl.1 (Nat.le_of_ble_eq_true rfl) ⟨Nat.le_of_ble_eq_true rfl, Nat.le_of_ble_eq_true rfl⟩ dX4_giveChute_2 (fun ce q9 H1 h1 h2 h3 hP1 hz1 hk1 => ?_)
  exact x_out hnt hlk h1 h2 h3 hP1 hz1 hk1

set_option maxHeartbeats 4000000 in
set_option maxRecDepth 100000 in
theorem xmtX4_giveChute_1 (l : Launch) {D : va_G} {k : Nat → ClassId} {a tr : Nat → Nat} {x : Nat} {R : va_W} (S : HS) (f : Int32) (ch : Int32) (hfl : l.stackTraces = false) (hk0 : xFlt S f) (hbad : ¬ xCh ch) : XM l yX4_giveChute cX4_giveChute 3 (some FieldType.int) rmX4_giveChute D k (hw k a S ++ ((x, .inr (4, [.ref (a 0), .ref (tr 0)])) :: R)) [.ref x, .int f, .int ch] "java/lang/IndexOutOfBoundsException" := by
  refine XM_of rfl (Nat.le_of_ble_eq_true rfl) ?_
  intro p e s m below meth c hC hlk hnt hE hP hX hZ ls hl
  have hC : CallFix p m c cX4_giveChute 3 s _ lw_all RX4 := hC
  have hx := hC.1
  have hb := hC.2.1
  have hown : s.vm.findClass RX4 = some m.cls := hC.2.2.2.1
  have hts := hC.2.2.2.2
  have hl : lv_has ls 3 [(0, .ref x), (1, .int f), (2, .int ch)] := hl
  refine lv_aload_n hx hb dX4_giveChute_0 rfl (lv_at hl 0 rfl) ?_
  refine lv_iload_n hx hb dX4_giveChute_1 rfl (lv_at hl 1 rfl) ?_
  refine c_pVv (rest := []) hC hE hP (metX4_needFlight l S f (show xFlt S f from hk0)) gc_RX4_40 hd_X4_needFlight ⟨rfl, rfl⟩ ⟨Nat.le_of_ble_eq_true rfl, Nat.le_of_ble_eq_true rfl⟩ 29 xo_29 rfl rfl hl.1 (Nat.le_of_ble_eq_true rfl) ⟨Nat.le_of_ble_eq_true rfl, Nat.le_of_ble_eq_true rfl⟩ dX4_giveChute_2 ?_
  refine lv_iload_n hx hb dX4_giveChute_5 rfl (lv_at hl 2 rfl) ?_
  refine c_xS (rest := []) (E := "java/lang/IndexOutOfBoundsException") hC hE hP hX hZ (xmtX4_needChute l ch hfl hbad) gc_RX4_44 hd_X4_needChute ⟨Nat.le_of_ble_eq_true rfl, Nat.le_of_ble_eq_true rfl⟩ rfl hl.1 (Nat.le_of_ble_eq_true rfl) ⟨Nat.le_of_ble_eq_true rfl, Nat.le_of_ble_eq_true rfl⟩ dX4_giveChute_6 (fun ce q9 H1 h1 h2 h3 hP1 hz1 hk1 => ?_)
  exact x_out hnt hlk h1 h2 h3 hP1 hz1 hk1

set_option maxHeartbeats 4000000 in
set_option maxRecDepth 100000 in
theorem xmtX4_giveChute_2 (l : Launch) {D : va_G} {k : Nat → ClassId} {a tr : Nat → Nat} {x : Nat} {R : va_W} (S : HS) (f : Int32) (ch : Int32) (hfl : l.stackTraces = false) (hk0 : xFlt S f) (hk1 : xCh ch) (hbad : ¬ (¬ (xGone S f))) : XM l yX4_giveChute cX4_giveChute 3 (some FieldType.int) rmX4_giveChute D k (hw k a S ++ ((x, .inr (4, [.ref (a 0), .ref (tr 0)])) :: R)) [.ref x, .int f, .int ch] "java/lang/IllegalStateException" := by
  refine XM_of rfl (Nat.le_of_ble_eq_true rfl) ?_
  intro p e s m below meth c hC hlk hnt hE hP hX hZ ls hl
  have hC : CallFix p m c cX4_giveChute 3 s _ lw_all RX4 := hC
  have hx := hC.1
  have hb := hC.2.1
  have hown : s.vm.findClass RX4 = some m.cls := hC.2.2.2.1
  have hts := hC.2.2.2.2
  have hl : lv_has ls 3 [(0, .ref x), (1, .int f), (2, .int ch)] := hl
  refine lv_aload_n hx hb dX4_giveChute_0 rfl (lv_at hl 0 rfl) ?_
  refine lv_iload_n hx hb dX4_giveChute_1 rfl (lv_at hl 1 rfl) ?_
  refine c_pVv (rest := []) hC hE hP (metX4_needFlight l S f (show xFlt S f from hk0)) gc_RX4_40 hd_X4_needFlight ⟨rfl, rfl⟩ ⟨Nat.le_of_ble_eq_true rfl, Nat.le_of_ble_eq_true rfl⟩ 29 xo_29 rfl rfl hl.1 (Nat.le_of_ble_eq_true rfl) ⟨Nat.le_of_ble_eq_true rfl, Nat.le_of_ble_eq_true rfl⟩ dX4_giveChute_2 ?_
  refine lv_iload_n hx hb dX4_giveChute_5 rfl (lv_at hl 2 rfl) ?_
  refine c_pSv (rest := []) hC hE hP (metX4_needChute l ch (show xCh ch from hk1)) gc_RX4_44 hd_X4_needChute ⟨rfl, rfl⟩ ⟨Nat.le_of_ble_eq_true rfl, Nat.le_of_ble_eq_true rfl⟩ rfl hl.1 (Nat.le_of_ble_eq_true rfl) ⟨Nat.le_of_ble_eq_true rfl, Nat.le_of_ble_eq_true rfl⟩ dX4_giveChute_6 ?_
  refine lv_aload_n hx hb dX4_giveChute_9 rfl (lv_at hl 0 rfl) ?_
  refine lv_iload_n hx hb dX4_giveChute_10 rfl (lv_at hl 1 rfl) ?_
  refine c_xV (rest := []) (E := "java/lang/IllegalStateException") hC hE hP hX hZ (xmtX4_needNotGone l S f hfl hbad) gc_RX4_47 hd_X4_needNotGone ⟨Nat.le_of_ble_eq_true rfl, Nat.le_of_ble_eq_true rfl⟩ 29 xo_29 rfl rfl hl.1 (Nat.le_of_ble_eq_true rfl) ⟨Nat.le_of_ble_eq_true rfl, Nat.le_of_ble_eq_true rfl⟩ dX4_giveChute_11 (fun ce q9 H1 h1 h2 h3 hP1 hz1 hk1 => ?_)
  exact x_out hnt hlk h1 h2 h3 hP1 hz1 hk1

set_option maxHeartbeats 4000000 in
set_option maxRecDepth 100000 in
theorem xmtX4_setReader_0 (l : Launch) {D : va_G} {k : Nat → ClassId} {a tr : Nat → Nat} {x : Nat} {R : va_W} (S : HS) (z : Int32) (hfl : l.stackTraces = false) (hbad : ¬ ((¬ (z < 0)) ∧ (¬ (9 < z)))) : XM l yX4_setReader cX4_setReader 3 (some FieldType.int) rmX4_setReader D k (hw k a S ++ ((x, .inr (4, [.ref (a 0), .ref (tr 0)])) :: R)) [.ref x, .int z] "java/lang/IllegalArgumentException" := by
  refine XM_of rfl (Nat.le_of_ble_eq_true rfl) ?_
  intro p e s m below meth c hC hlk hnt hE hP hX hZ ls hl
  have hC : CallFix p m c cX4_setReader 3 s _ lw_all RX4 := hC
  have hx := hC.1
  have hb := hC.2.1
  have hown : s.vm.findClass RX4 = some m.cls := hC.2.2.2.1
  have hts := hC.2.2.2.2
  have hl : lv_has ls 3 [(0, .ref x), (1, .int z)] := hl
  refine lv_iload_n hx hb dX4_setReader_0 rfl (lv_at hl 1 rfl) ?_
  refine lv_if_lt (tgt := 10) hx hb dX4_setReader_1 (by decide) (fun c_1 => ?_) (fun c_1 => ?_)
  · exact x_IAE (tx := "the strength is not 0 to 9") hC hlk hnt hfl hP hX hZ hl.1 (by decide +kernel) dX4_setReader_10 dX4_setReader_13 dX4_setReader_14 dX4_setReader_16 dX4_setReader_19 (Nat.le_of_ble_eq_true rfl) (Nat.le_of_ble_eq_true rfl) ⟨Nat.le_of_ble_eq_true rfl, Nat.le_of_ble_eq_true rfl⟩
  · refine lv_iload_n hx hb dX4_setReader_4 rfl (lv_at hl 1 rfl) ?_
    refine lv_bipush (v := 9) hx hb dX4_setReader_5 (by decide) ?_
    refine lv_icmp_le (tgt := 20) hx hb dX4_setReader_7 (by decide) (fun c_2 => ?_) (fun c_2 => ?_)
    · exact absurd (show ((¬ (z < 0)) ∧ (¬ (9 < z))) from ⟨c_1, (Int32.not_lt.mpr c_2)⟩) hbad
    · exact x_IAE (tx := "the strength is not 0 to 9") hC hlk hnt hfl hP hX hZ hl.1 (by decide +kernel) dX4_setReader_10 dX4_setReader_13 dX4_setReader_14 dX4_setReader_16 dX4_setReader_19 (Nat.le_of_ble_eq_true rfl) (Nat.le_of_ble_eq_true rfl) ⟨Nat.le_of_ble_eq_true rfl, Nat.le_of_ble_eq_true rfl⟩

set_option maxHeartbeats 4000000 in
set_option maxRecDepth 100000 in
theorem xmtX4_setRoom_0 (l : Launch) {D : va_G} {k : Nat → ClassId} {a tr : Nat → Nat} {x : Nat} {R : va_W} (S : HS) (ch : Int32) (z : Int32) (hfl : l.stackTraces = false) (hbad : ¬ xCh ch) : XM l yX4_setRoom cX4_setRoom 4 (some FieldType.int) rmX4_setRoom D k (hw k a S ++ ((x, .inr (4, [.ref (a 0), .ref (tr 0)])) :: R)) [.ref x, .int ch, .int z] "java/lang/IndexOutOfBoundsException" := by
  refine XM_of rfl (Nat.le_of_ble_eq_true rfl) ?_
  intro p e s m below meth c hC hlk hnt hE hP hX hZ ls hl
  have hC : CallFix p m c cX4_setRoom 4 s _ lw_all RX4 := hC
  have hx := hC.1
  have hb := hC.2.1
  have hown : s.vm.findClass RX4 = some m.cls := hC.2.2.2.1
  have hts := hC.2.2.2.2
  have hl : lv_has ls 4 [(0, .ref x), (1, .int ch), (2, .int z)] := hl
  refine lv_iload_n hx hb dX4_setRoom_0 rfl (lv_at hl 1 rfl) ?_
  refine c_xS (rest := []) (E := "java/lang/IndexOutOfBoundsException") hC hE hP hX hZ (xmtX4_needChute l ch hfl hbad) gc_RX4_44 hd_X4_needChute ⟨Nat.le_of_ble_eq_true rfl, Nat.le_of_ble_eq_true rfl⟩ rfl hl.1 (Nat.le_of_ble_eq_true rfl) ⟨Nat.le_of_ble_eq_true rfl, Nat.le_of_ble_eq_true rfl⟩ dX4_setRoom_1 (fun ce q9 H1 h1 h2 h3 hP1 hz1 hk1 => ?_)
  exact x_out hnt hlk h1 h2 h3 hP1 hz1 hk1

set_option maxHeartbeats 4000000 in
set_option maxRecDepth 100000 in
theorem xmtX4_setRoom_1 (l : Launch) {D : va_G} {k : Nat → ClassId} {a tr : Nat → Nat} {x : Nat} {R : va_W} (S : HS) (ch : Int32) (z : Int32) (hfl : l.stackTraces = false) (hk0 : xCh ch) (hbad : ¬ ((¬ (z < 1)) ∧ (¬ (20 < z)))) : XM l yX4_setRoom cX4_setRoom 4 (some FieldType.int) rmX4_setRoom D k (hw k a S ++ ((x, .inr (4, [.ref (a 0), .ref (tr 0)])) :: R)) [.ref x, .int ch, .int z] "java/lang/IllegalArgumentException" := by
  refine XM_of rfl (Nat.le_of_ble_eq_true rfl) ?_
  intro p e s m below meth c hC hlk hnt hE hP hX hZ ls hl
  have hC : CallFix p m c cX4_setRoom 4 s _ lw_all RX4 := hC
  have hx := hC.1
  have hb := hC.2.1
  have hown : s.vm.findClass RX4 = some m.cls := hC.2.2.2.1
  have hts := hC.2.2.2.2
  have hl : lv_has ls 4 [(0, .ref x), (1, .int ch), (2, .int z)] := hl
  refine lv_iload_n hx hb dX4_setRoom_0 rfl (lv_at hl 1 rfl) ?_
  refine c_pSv (rest := []) hC hE hP (metX4_needChute l ch (show xCh ch from hk0)) gc_RX4_44 hd_X4_needChute ⟨rfl, rfl⟩ ⟨Nat.le_of_ble_eq_true rfl, Nat.le_of_ble_eq_true rfl⟩ rfl hl.1 (Nat.le_of_ble_eq_true rfl) ⟨Nat.le_of_ble_eq_true rfl, Nat.le_of_ble_eq_true rfl⟩ dX4_setRoom_1 ?_
  refine lv_iload_n hx hb dX4_setRoom_4 rfl (lv_at hl 2 rfl) ?_
  refine lv_iconst (v := 1) hx hb dX4_setRoom_5 (by decide) ?_
  refine lv_icmp_lt (tgt := 15) hx hb dX4_setRoom_6 (by decide) (fun c_1 => ?_) (fun c_1 => ?_)
  · exact x_IAE (tx := "the room is not 1 to 20") hC hlk hnt hfl hP hX hZ hl.1 (by decide +kernel) dX4_setRoom_15 dX4_setRoom_18 dX4_setRoom_19 dX4_setRoom_21 dX4_setRoom_24 (Nat.le_of_ble_eq_true rfl) (Nat.le_of_ble_eq_true rfl) ⟨Nat.le_of_ble_eq_true rfl, Nat.le_of_ble_eq_true rfl⟩
  · refine lv_iload_n hx hb dX4_setRoom_9 rfl (lv_at hl 2 rfl) ?_
    refine lv_bipush (v := 20) hx hb dX4_setRoom_10 (by decide) ?_
    refine lv_icmp_le (tgt := 25) hx hb dX4_setRoom_12 (by decide) (fun c_2 => ?_) (fun c_2 => ?_)
    · exact absurd (show ((¬ (z < 1)) ∧ (¬ (20 < z))) from ⟨c_1, (Int32.not_lt.mpr c_2)⟩) hbad
    · exact x_IAE (tx := "the room is not 1 to 20") hC hlk hnt hfl hP hX hZ hl.1 (by decide +kernel) dX4_setRoom_15 dX4_setRoom_18 dX4_setRoom_19 dX4_setRoom_21 dX4_setRoom_24 (Nat.le_of_ble_eq_true rfl) (Nat.le_of_ble_eq_true rfl) ⟨Nat.le_of_ble_eq_true rfl, Nat.le_of_ble_eq_true rfl⟩

set_option maxHeartbeats 4000000 in
set_option maxRecDepth 100000 in
theorem xmtX4_checkIn_0 (l : Launch) {D : va_G} {k : Nat → ClassId} {a tr : Nat → Nat} {x : Nat} {R : va_W} (S : HS) (f : Int32) (z : Int32) (v : Int32) (hfl : l.stackTraces = false) (hbad : ¬ xFlt S f) : XM l yX4_checkIn cX4_checkIn 5 (some FieldType.int) rmX4_checkIn D k (hw k a S ++ ((x, .inr (4, [.ref (a 0), .ref (tr 0)])) :: R)) [.ref x, .int f, .int z, .int v] "java/lang/IndexOutOfBoundsException" := by
  refine XM_of rfl (Nat.le_of_ble_eq_true rfl) ?_
  intro p e s m below meth c hC hlk hnt hE hP hX hZ ls hl
  have hC : CallFix p m c cX4_checkIn 5 s _ lw_all RX4 := hC
  have hx := hC.1
  have hb := hC.2.1
  have hown : s.vm.findClass RX4 = some m.cls := hC.2.2.2.1
  have hts := hC.2.2.2.2
  have hl : lv_has ls 5 [(0, .ref x), (1, .int f), (2, .int z), (3, .int v)] := hl
  refine lv_aload_n hx hb dX4_checkIn_0 rfl (lv_at hl 0 rfl) ?_
  refine lv_iload_n hx hb dX4_checkIn_1 rfl (lv_at hl 1 rfl) ?_
  refine c_xV (rest := []) (E := "java/lang/IndexOutOfBoundsException") hC hE hP hX hZ (xmtX4_needFlight l S f hfl hbad) gc_RX4_40 hd_X4_needFlight ⟨Nat.le_of_ble_eq_true rfl, Nat.le_of_ble_eq_true rfl⟩ 29 xo_29 rfl rfl hl.1 (Nat.le_of_ble_eq_true rfl) ⟨Nat.le_of_ble_eq_true rfl, Nat.le_of_ble_eq_true rfl⟩ dX4_checkIn_2 (fun ce q9 H1 h1 h2 h3 hP1 hz1 hk1 => ?_)
  exact x_out hnt hlk h1 h2 h3 hP1 hz1 hk1

set_option maxHeartbeats 4000000 in
set_option maxRecDepth 100000 in
theorem xmtX4_checkIn_1 (l : Launch) {D : va_G} {k : Nat → ClassId} {a tr : Nat → Nat} {x : Nat} {R : va_W} (S : HS) (f : Int32) (z : Int32) (v : Int32) (hfl : l.stackTraces = false) (hk0 : xFlt S f) (hbad : ¬ ((¬ (z < 1)) ∧ (¬ (9 < z)) ∧ (¬ (v < 0)) ∧ (¬ (9 < v)))) : XM l yX4_checkIn cX4_checkIn 5 (some FieldType.int) rmX4_checkIn D k (hw k a S ++ ((x, .inr (4, [.ref (a 0), .ref (tr 0)])) :: R)) [.ref x, .int f, .int z, .int v] "java/lang/IllegalArgumentException" := by
  refine XM_of rfl (Nat.le_of_ble_eq_true rfl) ?_
  intro p e s m below meth c hC hlk hnt hE hP hX hZ ls hl
  have hC : CallFix p m c cX4_checkIn 5 s _ lw_all RX4 := hC
  have hx := hC.1
  have hb := hC.2.1
  have hown : s.vm.findClass RX4 = some m.cls := hC.2.2.2.1
  have hts := hC.2.2.2.2
  have hl : lv_has ls 5 [(0, .ref x), (1, .int f), (2, .int z), (3, .int v)] := hl
  refine lv_aload_n hx hb dX4_checkIn_0 rfl (lv_at hl 0 rfl) ?_
  refine lv_iload_n hx hb dX4_checkIn_1 rfl (lv_at hl 1 rfl) ?_
  refine c_pVv (rest := []) hC hE hP (metX4_needFlight l S f (show xFlt S f from hk0)) gc_RX4_40 hd_X4_needFlight ⟨rfl, rfl⟩ ⟨Nat.le_of_ble_eq_true rfl, Nat.le_of_ble_eq_true rfl⟩ 29 xo_29 rfl rfl hl.1 (Nat.le_of_ble_eq_true rfl) ⟨Nat.le_of_ble_eq_true rfl, Nat.le_of_ble_eq_true rfl⟩ dX4_checkIn_2 ?_
  refine lv_iload_n hx hb dX4_checkIn_5 rfl (lv_at hl 2 rfl) ?_
  refine lv_iconst (v := 1) hx hb dX4_checkIn_6 (by decide) ?_
  refine lv_icmp_lt (tgt := 26) hx hb dX4_checkIn_7 (by decide) (fun c_1 => ?_) (fun c_1 => ?_)
  · exact x_IAE (tx := "the size is not 1 to 9, or the smudge not 0 to 9") hC hlk hnt hfl hP hX hZ hl.1 (by decide +kernel) dX4_checkIn_26 dX4_checkIn_29 dX4_checkIn_30 dX4_checkIn_32 dX4_checkIn_35 (Nat.le_of_ble_eq_true rfl) (Nat.le_of_ble_eq_true rfl) ⟨Nat.le_of_ble_eq_true rfl, Nat.le_of_ble_eq_true rfl⟩
  · refine lv_iload_n hx hb dX4_checkIn_10 rfl (lv_at hl 2 rfl) ?_
    refine lv_bipush (v := 9) hx hb dX4_checkIn_11 (by decide) ?_
    refine lv_icmp_gt (tgt := 26) hx hb dX4_checkIn_13 (by decide) (fun c_2 => ?_) (fun c_2 => ?_)
    · exact x_IAE (tx := "the size is not 1 to 9, or the smudge not 0 to 9") hC hlk hnt hfl hP hX hZ hl.1 (by decide +kernel) dX4_checkIn_26 dX4_checkIn_29 dX4_checkIn_30 dX4_checkIn_32 dX4_checkIn_35 (Nat.le_of_ble_eq_true rfl) (Nat.le_of_ble_eq_true rfl) ⟨Nat.le_of_ble_eq_true rfl, Nat.le_of_ble_eq_true rfl⟩
    · refine lv_iload_n hx hb dX4_checkIn_16 rfl (lv_at hl 3 rfl) ?_
      refine lv_if_lt (tgt := 26) hx hb dX4_checkIn_17 (by decide) (fun c_3 => ?_) (fun c_3 => ?_)
      · exact x_IAE (tx := "the size is not 1 to 9, or the smudge not 0 to 9") hC hlk hnt hfl hP hX hZ hl.1 (by decide +kernel) dX4_checkIn_26 dX4_checkIn_29 dX4_checkIn_30 dX4_checkIn_32 dX4_checkIn_35 (Nat.le_of_ble_eq_true rfl) (Nat.le_of_ble_eq_true rfl) ⟨Nat.le_of_ble_eq_true rfl, Nat.le_of_ble_eq_true rfl⟩
      · refine lv_iload_n hx hb dX4_checkIn_20 rfl (lv_at hl 3 rfl) ?_
        refine lv_bipush (v := 9) hx hb dX4_checkIn_21 (by decide) ?_
        refine lv_icmp_le (tgt := 36) hx hb dX4_checkIn_23 (by decide) (fun c_4 => ?_) (fun c_4 => ?_)
        · exact absurd (show ((¬ (z < 1)) ∧ (¬ (9 < z)) ∧ (¬ (v < 0)) ∧ (¬ (9 < v))) from ⟨c_1, c_2, c_3, (Int32.not_lt.mpr c_4)⟩) hbad
        · exact x_IAE (tx := "the size is not 1 to 9, or the smudge not 0 to 9") hC hlk hnt hfl hP hX hZ hl.1 (by decide +kernel) dX4_checkIn_26 dX4_checkIn_29 dX4_checkIn_30 dX4_checkIn_32 dX4_checkIn_35 (Nat.le_of_ble_eq_true rfl) (Nat.le_of_ble_eq_true rfl) ⟨Nat.le_of_ble_eq_true rfl, Nat.le_of_ble_eq_true rfl⟩

set_option maxHeartbeats 4000000 in
set_option maxRecDepth 100000 in
theorem xmtX4_checkIn_2 (l : Launch) {D : va_G} {k : Nat → ClassId} {a tr : Nat → Nat} {x : Nat} {R : va_W} (S : HS) (f : Int32) (z : Int32) (v : Int32) (hfl : l.stackTraces = false) (hk0 : xFlt S f) (hk1 : ((¬ (z < 1)) ∧ (¬ (9 < z)) ∧ (¬ (v < 0)) ∧ (¬ (9 < v)))) (hbad : ¬ S 0 4 < 40) : XM l yX4_checkIn cX4_checkIn 5 (some FieldType.int) rmX4_checkIn D k (hw k a S ++ ((x, .inr (4, [.ref (a 0), .ref (tr 0)])) :: R)) [.ref x, .int f, .int z, .int v] "java/lang/IllegalStateException" := by
  refine XM_of rfl (Nat.le_of_ble_eq_true rfl) ?_
  intro p e s m below meth c hC hlk hnt hE hP hX hZ ls hl
  have hC : CallFix p m c cX4_checkIn 5 s _ lw_all RX4 := hC
  have hx := hC.1
  have hb := hC.2.1
  have hown : s.vm.findClass RX4 = some m.cls := hC.2.2.2.1
  have hts := hC.2.2.2.2
  have hl : lv_has ls 5 [(0, .ref x), (1, .int f), (2, .int z), (3, .int v)] := hl
  refine lv_aload_n hx hb dX4_checkIn_0 rfl (lv_at hl 0 rfl) ?_
  refine lv_iload_n hx hb dX4_checkIn_1 rfl (lv_at hl 1 rfl) ?_
  refine c_pVv (rest := []) hC hE hP (metX4_needFlight l S f (show xFlt S f from hk0)) gc_RX4_40 hd_X4_needFlight ⟨rfl, rfl⟩ ⟨Nat.le_of_ble_eq_true rfl, Nat.le_of_ble_eq_true rfl⟩ 29 xo_29 rfl rfl hl.1 (Nat.le_of_ble_eq_true rfl) ⟨Nat.le_of_ble_eq_true rfl, Nat.le_of_ble_eq_true rfl⟩ dX4_checkIn_2 ?_
  refine lv_iload_n hx hb dX4_checkIn_5 rfl (lv_at hl 2 rfl) ?_
  refine lv_iconst (v := 1) hx hb dX4_checkIn_6 (by decide) ?_
  refine lv_icmp_lt (tgt := 26) hx hb dX4_checkIn_7 (by decide) (fun c_ => absurd c_ hk1.1) (fun c_1 => ?_)
  refine lv_iload_n hx hb dX4_checkIn_10 rfl (lv_at hl 2 rfl) ?_
  refine lv_bipush (v := 9) hx hb dX4_checkIn_11 (by decide) ?_
  refine lv_icmp_gt (tgt := 26) hx hb dX4_checkIn_13 (by decide) (fun c_ => absurd c_ hk1.2.1) (fun c_2 => ?_)
  refine lv_iload_n hx hb dX4_checkIn_16 rfl (lv_at hl 3 rfl) ?_
  refine lv_if_lt (tgt := 26) hx hb dX4_checkIn_17 (by decide) (fun c_ => absurd c_ hk1.2.2.1) (fun c_3 => ?_)
  refine lv_iload_n hx hb dX4_checkIn_20 rfl (lv_at hl 3 rfl) ?_
  refine lv_bipush (v := 9) hx hb dX4_checkIn_21 (by decide) ?_
  refine lv_icmp_le (tgt := 36) hx hb dX4_checkIn_23 (by decide) (fun c_4 => ?_) (fun c_ => absurd (Int32.not_lt.mp hk1.2.2.2) c_)
  refine lv_aload_n hx hb dX4_checkIn_36 rfl (lv_at hl 0 rfl) ?_
  refine va_get (D := D) (ci := 4) (v := .ref (a 0)) (C := RX4) (T := TX4) (N := 2) hx hb hts tu_4 hown hE.1 hP 29 xo_29 rfl 0 (by decide) (hts _ tw_150) (fun _ h9 => h9) rfl dX4_checkIn_37 ?_
  refine va_get (D := D) (ci := 2) (v := .ref (a 2)) (C := RX2) (T := TX2) (N := 8) hx hb hts tu_2 hown hE.1 hP 0 hw_0 rfl 4 (by decide) (hts _ tw_127) (fun _ h9 => h9) rfl dX4_checkIn_40 ?_
  refine va_get (D := D) (ci := 0) (v := .int (S 0 4)) (C := RX0) (T := TX0) (N := 9) hx hb hts tu_0 hown hE.1 hP 2 hw_2 rfl 0 (by decide) (hts _ tw_74) (fun _ h9 => h9) rfl dX4_checkIn_43 ?_
  refine lv_bipush (v := 40) hx hb dX4_checkIn_46 (by decide) ?_
  refine lv_icmp_lt (tgt := 61) hx hb dX4_checkIn_48 (by decide) (fun c_5 => ?_) (fun c_5 => ?_)
  · exact absurd (show S 0 4 < 40 from c_5) hbad
  · exact x_ISE (tx := "there are all the bags already") hC hlk hnt hfl hP hX hZ hl.1 (by decide +kernel) dX4_checkIn_51 dX4_checkIn_54 dX4_checkIn_55 dX4_checkIn_57 dX4_checkIn_60 (Nat.le_of_ble_eq_true rfl) (Nat.le_of_ble_eq_true rfl) ⟨Nat.le_of_ble_eq_true rfl, Nat.le_of_ble_eq_true rfl⟩

set_option maxHeartbeats 4000000 in
set_option maxRecDepth 100000 in
theorem xmtX4_checkIn_3 (l : Launch) {D : va_G} {k : Nat → ClassId} {a tr : Nat → Nat} {x : Nat} {R : va_W} (S : HS) (f : Int32) (z : Int32) (v : Int32) (hfl : l.stackTraces = false) (hk0 : xFlt S f) (hk1 : ((¬ (z < 1)) ∧ (¬ (9 < z)) ∧ (¬ (v < 0)) ∧ (¬ (9 < v)))) (hk2 : S 0 4 < 40) (hbad : ¬ (¬ (xGone S f))) : XM l yX4_checkIn cX4_checkIn 5 (some FieldType.int) rmX4_checkIn D k (hw k a S ++ ((x, .inr (4, [.ref (a 0), .ref (tr 0)])) :: R)) [.ref x, .int f, .int z, .int v] "java/lang/IllegalStateException" := by
  refine XM_of rfl (Nat.le_of_ble_eq_true rfl) ?_
  intro p e s m below meth c hC hlk hnt hE hP hX hZ ls hl
  have hC : CallFix p m c cX4_checkIn 5 s _ lw_all RX4 := hC
  have hx := hC.1
  have hb := hC.2.1
  have hown : s.vm.findClass RX4 = some m.cls := hC.2.2.2.1
  have hts := hC.2.2.2.2
  have hl : lv_has ls 5 [(0, .ref x), (1, .int f), (2, .int z), (3, .int v)] := hl
  refine lv_aload_n hx hb dX4_checkIn_0 rfl (lv_at hl 0 rfl) ?_
  refine lv_iload_n hx hb dX4_checkIn_1 rfl (lv_at hl 1 rfl) ?_
  refine c_pVv (rest := []) hC hE hP (metX4_needFlight l S f (show xFlt S f from hk0)) gc_RX4_40 hd_X4_needFlight ⟨rfl, rfl⟩ ⟨Nat.le_of_ble_eq_true rfl, Nat.le_of_ble_eq_true rfl⟩ 29 xo_29 rfl rfl hl.1 (Nat.le_of_ble_eq_true rfl) ⟨Nat.le_of_ble_eq_true rfl, Nat.le_of_ble_eq_true rfl⟩ dX4_checkIn_2 ?_
  refine lv_iload_n hx hb dX4_checkIn_5 rfl (lv_at hl 2 rfl) ?_
  refine lv_iconst (v := 1) hx hb dX4_checkIn_6 (by decide) ?_
  refine lv_icmp_lt (tgt := 26) hx hb dX4_checkIn_7 (by decide) (fun c_ => absurd c_ hk1.1) (fun c_1 => ?_)
  refine lv_iload_n hx hb dX4_checkIn_10 rfl (lv_at hl 2 rfl) ?_
  refine lv_bipush (v := 9) hx hb dX4_checkIn_11 (by decide) ?_
  refine lv_icmp_gt (tgt := 26) hx hb dX4_checkIn_13 (by decide) (fun c_ => absurd c_ hk1.2.1) (fun c_2 => ?_)
  refine lv_iload_n hx hb dX4_checkIn_16 rfl (lv_at hl 3 rfl) ?_
  refine lv_if_lt (tgt := 26) hx hb dX4_checkIn_17 (by decide) (fun c_ => absurd c_ hk1.2.2.1) (fun c_3 => ?_)
  refine lv_iload_n hx hb dX4_checkIn_20 rfl (lv_at hl 3 rfl) ?_
  refine lv_bipush (v := 9) hx hb dX4_checkIn_21 (by decide) ?_
  refine lv_icmp_le (tgt := 36) hx hb dX4_checkIn_23 (by decide) (fun c_4 => ?_) (fun c_ => absurd (Int32.not_lt.mp hk1.2.2.2) c_)
  refine lv_aload_n hx hb dX4_checkIn_36 rfl (lv_at hl 0 rfl) ?_
  refine va_get (D := D) (ci := 4) (v := .ref (a 0)) (C := RX4) (T := TX4) (N := 2) hx hb hts tu_4 hown hE.1 hP 29 xo_29 rfl 0 (by decide) (hts _ tw_150) (fun _ h9 => h9) rfl dX4_checkIn_37 ?_
  refine va_get (D := D) (ci := 2) (v := .ref (a 2)) (C := RX2) (T := TX2) (N := 8) hx hb hts tu_2 hown hE.1 hP 0 hw_0 rfl 4 (by decide) (hts _ tw_127) (fun _ h9 => h9) rfl dX4_checkIn_40 ?_
  refine va_get (D := D) (ci := 0) (v := .int (S 0 4)) (C := RX0) (T := TX0) (N := 9) hx hb hts tu_0 hown hE.1 hP 2 hw_2 rfl 0 (by decide) (hts _ tw_74) (fun _ h9 => h9) rfl dX4_checkIn_43 ?_
  refine lv_bipush (v := 40) hx hb dX4_checkIn_46 (by decide) ?_
  refine lv_icmp_lt (tgt := 61) hx hb dX4_checkIn_48 (by decide) (fun c_5 => ?_) (fun c_ => absurd hk2 c_)
  refine lv_aload_n hx hb dX4_checkIn_61 rfl (lv_at hl 0 rfl) ?_
  refine lv_iload_n hx hb dX4_checkIn_62 rfl (lv_at hl 1 rfl) ?_
  refine c_xV (rest := []) (E := "java/lang/IllegalStateException") hC hE hP hX hZ (xmtX4_needNotGone l S f hfl hbad) gc_RX4_47 hd_X4_needNotGone ⟨Nat.le_of_ble_eq_true rfl, Nat.le_of_ble_eq_true rfl⟩ 29 xo_29 rfl rfl hl.1 (Nat.le_of_ble_eq_true rfl) ⟨Nat.le_of_ble_eq_true rfl, Nat.le_of_ble_eq_true rfl⟩ dX4_checkIn_63 (fun ce q9 H1 h1 h2 h3 hP1 hz1 hk1 => ?_)
  exact x_out hnt hlk h1 h2 h3 hP1 hz1 hk1

set_option maxHeartbeats 4000000 in
set_option maxRecDepth 100000 in
theorem xmtX4_carry_0 (l : Launch) {D : va_G} {k : Nat → ClassId} {a tr : Nat → Nat} {x : Nat} {R : va_W} (S : HS) (b : Int32) (hfl : l.stackTraces = false) (hbad : ¬ xBag S b) : XM l yX4_carry cX4_carry 4 (some FieldType.int) rmX4_carry D k (hw k a S ++ ((x, .inr (4, [.ref (a 0), .ref (tr 0)])) :: R)) [.ref x, .int b] "java/lang/IndexOutOfBoundsException" := by
  refine XM_of rfl (Nat.le_of_ble_eq_true rfl) ?_
  intro p e s m below meth c hC hlk hnt hE hP hX hZ ls hl
  have hC : CallFix p m c cX4_carry 4 s _ lw_all RX4 := hC
  have hx := hC.1
  have hb := hC.2.1
  have hown : s.vm.findClass RX4 = some m.cls := hC.2.2.2.1
  have hts := hC.2.2.2.2
  have hl : lv_has ls 4 [(0, .ref x), (1, .int b)] := hl
  refine lv_aload_n hx hb dX4_carry_0 rfl (lv_at hl 0 rfl) ?_
  refine lv_iload_n hx hb dX4_carry_1 rfl (lv_at hl 1 rfl) ?_
  refine c_xV (rest := []) (E := "java/lang/IndexOutOfBoundsException") hC hE hP hX hZ (xmtX4_needBag l S b hfl hbad) gc_RX4_95 hd_X4_needBag ⟨Nat.le_of_ble_eq_true rfl, Nat.le_of_ble_eq_true rfl⟩ 29 xo_29 rfl rfl hl.1 (Nat.le_of_ble_eq_true rfl) ⟨Nat.le_of_ble_eq_true rfl, Nat.le_of_ble_eq_true rfl⟩ dX4_carry_2 (fun ce q9 H1 h1 h2 h3 hP1 hz1 hk1 => ?_)
  exact x_out hnt hlk h1 h2 h3 hP1 hz1 hk1

set_option maxHeartbeats 4000000 in
set_option maxRecDepth 100000 in
theorem xmtX4_carry_1 (l : Launch) {D : va_G} {k : Nat → ClassId} {a tr : Nat → Nat} {x : Nat} {R : va_W} (S : HS) (b : Int32) (hfl : l.stackTraces = false) (hk0 : xBag S b) (hbad : ¬ xHand S b) : XM l yX4_carry cX4_carry 4 (some FieldType.int) rmX4_carry D k (hw k a S ++ ((x, .inr (4, [.ref (a 0), .ref (tr 0)])) :: R)) [.ref x, .int b] "java/lang/IllegalStateException" := by
  refine XM_of rfl (Nat.le_of_ble_eq_true rfl) ?_
  intro p e s m below meth c hC hlk hnt hE hP hX hZ ls hl
  have hC : CallFix p m c cX4_carry 4 s _ lw_all RX4 := hC
  have hx := hC.1
  have hb := hC.2.1
  have hown : s.vm.findClass RX4 = some m.cls := hC.2.2.2.1
  have hts := hC.2.2.2.2
  have hl : lv_has ls 4 [(0, .ref x), (1, .int b)] := hl
  refine lv_aload_n hx hb dX4_carry_0 rfl (lv_at hl 0 rfl) ?_
  refine lv_iload_n hx hb dX4_carry_1 rfl (lv_at hl 1 rfl) ?_
  refine c_pVv (rest := []) hC hE hP (metX4_needBag l S b (show xBag S b from hk0)) gc_RX4_95 hd_X4_needBag ⟨rfl, rfl⟩ ⟨Nat.le_of_ble_eq_true rfl, Nat.le_of_ble_eq_true rfl⟩ 29 xo_29 rfl rfl hl.1 (Nat.le_of_ble_eq_true rfl) ⟨Nat.le_of_ble_eq_true rfl, Nat.le_of_ble_eq_true rfl⟩ dX4_carry_2 ?_
  refine lv_aload_n hx hb dX4_carry_5 rfl (lv_at hl 0 rfl) ?_
  refine lv_iload_n hx hb dX4_carry_6 rfl (lv_at hl 1 rfl) ?_
  refine c_xV (rest := []) (E := "java/lang/IllegalStateException") hC hE hP hX hZ (xmtX4_needInHand l S b hfl hbad) gc_RX4_98 hd_X4_needInHand ⟨Nat.le_of_ble_eq_true rfl, Nat.le_of_ble_eq_true rfl⟩ 29 xo_29 rfl rfl hl.1 (Nat.le_of_ble_eq_true rfl) ⟨Nat.le_of_ble_eq_true rfl, Nat.le_of_ble_eq_true rfl⟩ dX4_carry_7 (fun ce q9 H1 h1 h2 h3 hP1 hz1 hk1 => ?_)
  exact x_out hnt hlk h1 h2 h3 hP1 hz1 hk1

set_option maxHeartbeats 4000000 in
set_option maxRecDepth 100000 in
theorem xmtX4_carry_2 (l : Launch) {D : va_G} {k : Nat → ClassId} {a tr : Nat → Nat} {x : Nat} {R : va_W} (S : HS) (b : Int32) (hfl : l.stackTraces = false) (hk0 : xBag S b) (hk1 : xHand S b) (hbad : ¬ (¬ (xGone S (rd 40 (S 3) b)))) : XM l yX4_carry cX4_carry 4 (some FieldType.int) rmX4_carry D k (hw k a S ++ ((x, .inr (4, [.ref (a 0), .ref (tr 0)])) :: R)) [.ref x, .int b] "java/lang/IllegalStateException" := by
  refine XM_of rfl (Nat.le_of_ble_eq_true rfl) ?_
  intro p e s m below meth c hC hlk hnt hE hP hX hZ ls hl
  have hC : CallFix p m c cX4_carry 4 s _ lw_all RX4 := hC
  have hx := hC.1
  have hb := hC.2.1
  have hown : s.vm.findClass RX4 = some m.cls := hC.2.2.2.1
  have hts := hC.2.2.2.2
  have hl : lv_has ls 4 [(0, .ref x), (1, .int b)] := hl
  refine lv_aload_n hx hb dX4_carry_0 rfl (lv_at hl 0 rfl) ?_
  refine lv_iload_n hx hb dX4_carry_1 rfl (lv_at hl 1 rfl) ?_
  refine c_pVv (rest := []) hC hE hP (metX4_needBag l S b (show xBag S b from hk0)) gc_RX4_95 hd_X4_needBag ⟨rfl, rfl⟩ ⟨Nat.le_of_ble_eq_true rfl, Nat.le_of_ble_eq_true rfl⟩ 29 xo_29 rfl rfl hl.1 (Nat.le_of_ble_eq_true rfl) ⟨Nat.le_of_ble_eq_true rfl, Nat.le_of_ble_eq_true rfl⟩ dX4_carry_2 ?_
  refine lv_aload_n hx hb dX4_carry_5 rfl (lv_at hl 0 rfl) ?_
  refine lv_iload_n hx hb dX4_carry_6 rfl (lv_at hl 1 rfl) ?_
  refine c_pVv (rest := []) hC hE hP (metX4_needInHand l S b (show xHand S b from hk1)) gc_RX4_98 hd_X4_needInHand ⟨rfl, rfl⟩ ⟨Nat.le_of_ble_eq_true rfl, Nat.le_of_ble_eq_true rfl⟩ 29 xo_29 rfl rfl hl.1 (Nat.le_of_ble_eq_true rfl) ⟨Nat.le_of_ble_eq_true rfl, Nat.le_of_ble_eq_true rfl⟩ dX4_carry_7 ?_
  refine lv_aload_n hx hb dX4_carry_10 rfl (lv_at hl 0 rfl) ?_
  refine va_get (D := D) (ci := 4) (v := .ref (a 0)) (C := RX4) (T := TX4) (N := 2) hx hb hts tu_4 hown hE.1 hP 29 xo_29 rfl 0 (by decide) (hts _ tw_150) (fun _ h9 => h9) rfl dX4_carry_11 ?_
  refine va_get (D := D) (ci := 2) (v := .ref (a 2)) (C := RX2) (T := TX2) (N := 8) hx hb hts tu_2 hown hE.1 hP 0 hw_0 rfl 4 (by decide) (hts _ tw_127) (fun _ h9 => h9) rfl dX4_carry_14 ?_
  refine va_get (D := D) (ci := 0) (v := .ref (a 8)) (C := RX0) (T := TX0) (N := 9) hx hb hts tu_0 hown hE.1 hP 2 hw_2 rfl 1 (by decide) (hts _ tw_77) (fun _ h9 => h9) rfl dX4_carry_17 ?_
  refine lv_iload_n hx hb dX4_carry_20 rfl (lv_at hl 1 rfl) ?_
  refine c_pVi (rest := []) hC hE hP (metX3_at l hw_8 hw_21 (by decide) b) gc_RX4_68 hd_X3_at ⟨rfl, rfl⟩ ⟨Nat.le_of_ble_eq_true rfl, Nat.le_of_ble_eq_true rfl⟩ 8 hw_8 rfl rfl hl.1 (Nat.le_of_ble_eq_true rfl) ⟨Nat.le_of_ble_eq_true rfl, Nat.le_of_ble_eq_true rfl⟩ dX4_carry_21 ?_
  refine lv_istore_n (lv' := [(2, .int (rd 40 (S 3) b)), (0, .ref x), (1, .int b)]) hx hb dX4_carry_24 rfl hl (by decide) rfl (fun ls hl => ?_)
  refine lv_aload_n hx hb dX4_carry_25 rfl (lv_at hl 1 rfl) ?_
  refine lv_iload_n hx hb dX4_carry_26 rfl (lv_at hl 0 rfl) ?_
  refine c_xV (rest := []) (E := "java/lang/IllegalStateException") hC hE hP hX hZ (xmtX4_needNotGone l S (rd 40 (S 3) b) hfl hbad) gc_RX4_47 hd_X4_needNotGone ⟨Nat.le_of_ble_eq_true rfl, Nat.le_of_ble_eq_true rfl⟩ 29 xo_29 rfl rfl hl.1 (Nat.le_of_ble_eq_true rfl) ⟨Nat.le_of_ble_eq_true rfl, Nat.le_of_ble_eq_true rfl⟩ dX4_carry_27 (fun ce q9 H1 h1 h2 h3 hP1 hz1 hk1 => ?_)
  exact x_out hnt hlk h1 h2 h3 hP1 hz1 hk1

set_option maxHeartbeats 4000000 in
set_option maxRecDepth 100000 in
theorem xmtX4_carry_3 (l : Launch) {D : va_G} {k : Nat → ClassId} {a tr : Nat → Nat} {x : Nat} {R : va_W} (S : HS) (b : Int32) (hfl : l.stackTraces = false) (hk0 : xBag S b) (hk1 : xHand S b) (hk2 : (¬ (xGone S (rd 40 (S 3) b)))) (hbad : ¬ (xCh (rd 6 (S 1) (rd 40 (S 3) b)) ∧ xRoom S (rd 6 (S 1) (rd 40 (S 3) b)))) : XM l yX4_carry cX4_carry 4 (some FieldType.int) rmX4_carry D k (hw k a S ++ ((x, .inr (4, [.ref (a 0), .ref (tr 0)])) :: R)) [.ref x, .int b] "java/lang/IllegalStateException" := by
  refine XM_of rfl (Nat.le_of_ble_eq_true rfl) ?_
  intro p e s m below meth c hC hlk hnt hE hP hX hZ ls hl
  have hC : CallFix p m c cX4_carry 4 s _ lw_all RX4 := hC
  have hx := hC.1
  have hb := hC.2.1
  have hown : s.vm.findClass RX4 = some m.cls := hC.2.2.2.1
  have hts := hC.2.2.2.2
  have hl : lv_has ls 4 [(0, .ref x), (1, .int b)] := hl
  refine lv_aload_n hx hb dX4_carry_0 rfl (lv_at hl 0 rfl) ?_
  refine lv_iload_n hx hb dX4_carry_1 rfl (lv_at hl 1 rfl) ?_
  refine c_pVv (rest := []) hC hE hP (metX4_needBag l S b (show xBag S b from hk0)) gc_RX4_95 hd_X4_needBag ⟨rfl, rfl⟩ ⟨Nat.le_of_ble_eq_true rfl, Nat.le_of_ble_eq_true rfl⟩ 29 xo_29 rfl rfl hl.1 (Nat.le_of_ble_eq_true rfl) ⟨Nat.le_of_ble_eq_true rfl, Nat.le_of_ble_eq_true rfl⟩ dX4_carry_2 ?_
  refine lv_aload_n hx hb dX4_carry_5 rfl (lv_at hl 0 rfl) ?_
  refine lv_iload_n hx hb dX4_carry_6 rfl (lv_at hl 1 rfl) ?_
  refine c_pVv (rest := []) hC hE hP (metX4_needInHand l S b (show xHand S b from hk1)) gc_RX4_98 hd_X4_needInHand ⟨rfl, rfl⟩ ⟨Nat.le_of_ble_eq_true rfl, Nat.le_of_ble_eq_true rfl⟩ 29 xo_29 rfl rfl hl.1 (Nat.le_of_ble_eq_true rfl) ⟨Nat.le_of_ble_eq_true rfl, Nat.le_of_ble_eq_true rfl⟩ dX4_carry_7 ?_
  refine lv_aload_n hx hb dX4_carry_10 rfl (lv_at hl 0 rfl) ?_
  refine va_get (D := D) (ci := 4) (v := .ref (a 0)) (C := RX4) (T := TX4) (N := 2) hx hb hts tu_4 hown hE.1 hP 29 xo_29 rfl 0 (by decide) (hts _ tw_150) (fun _ h9 => h9) rfl dX4_carry_11 ?_
  refine va_get (D := D) (ci := 2) (v := .ref (a 2)) (C := RX2) (T := TX2) (N := 8) hx hb hts tu_2 hown hE.1 hP 0 hw_0 rfl 4 (by decide) (hts _ tw_127) (fun _ h9 => h9) rfl dX4_carry_14 ?_
  refine va_get (D := D) (ci := 0) (v := .ref (a 8)) (C := RX0) (T := TX0) (N := 9) hx hb hts tu_0 hown hE.1 hP 2 hw_2 rfl 1 (by decide) (hts _ tw_77) (fun _ h9 => h9) rfl dX4_carry_17 ?_
  refine lv_iload_n hx hb dX4_carry_20 rfl (lv_at hl 1 rfl) ?_
  refine c_pVi (rest := []) hC hE hP (metX3_at l hw_8 hw_21 (by decide) b) gc_RX4_68 hd_X3_at ⟨rfl, rfl⟩ ⟨Nat.le_of_ble_eq_true rfl, Nat.le_of_ble_eq_true rfl⟩ 8 hw_8 rfl rfl hl.1 (Nat.le_of_ble_eq_true rfl) ⟨Nat.le_of_ble_eq_true rfl, Nat.le_of_ble_eq_true rfl⟩ dX4_carry_21 ?_
  refine lv_istore_n (lv' := [(2, .int (rd 40 (S 3) b)), (0, .ref x), (1, .int b)]) hx hb dX4_carry_24 rfl hl (by decide) rfl (fun ls hl => ?_)
  refine lv_aload_n hx hb dX4_carry_25 rfl (lv_at hl 1 rfl) ?_
  refine lv_iload_n hx hb dX4_carry_26 rfl (lv_at hl 0 rfl) ?_
  refine c_pVv (rest := []) hC hE hP (metX4_needNotGone l S (rd 40 (S 3) b) (show (¬ (xGone S (rd 40 (S 3) b))) from hk2)) gc_RX4_47 hd_X4_needNotGone ⟨rfl, rfl⟩ ⟨Nat.le_of_ble_eq_true rfl, Nat.le_of_ble_eq_true rfl⟩ 29 xo_29 rfl rfl hl.1 (Nat.le_of_ble_eq_true rfl) ⟨Nat.le_of_ble_eq_true rfl, Nat.le_of_ble_eq_true rfl⟩ dX4_carry_27 ?_
  refine lv_aload_n hx hb dX4_carry_30 rfl (lv_at hl 1 rfl) ?_
  refine va_get (D := D) (ci := 4) (v := .ref (a 0)) (C := RX4) (T := TX4) (N := 2) hx hb hts tu_4 hown hE.1 hP 29 xo_29 rfl 0 (by decide) (hts _ tw_150) (fun _ h9 => h9) rfl dX4_carry_31 ?_
  refine va_get (D := D) (ci := 2) (v := .ref (a 1)) (C := RX2) (T := TX2) (N := 8) hx hb hts tu_2 hown hE.1 hP 0 hw_0 rfl 3 (by decide) (hts _ tw_125) (fun _ h9 => h9) rfl dX4_carry_34 ?_
  refine va_get (D := D) (ci := 1) (v := .ref (a 6)) (C := RX1) (T := TX1) (N := 3) hx hb hts tu_1 hown hE.1 hP 1 hw_1 rfl 1 (by decide) (hts _ tw_54) (fun _ h9 => h9) rfl dX4_carry_37 ?_
  refine lv_iload_n hx hb dX4_carry_40 rfl (lv_at hl 0 rfl) ?_
  refine c_pVi (rest := []) hC hE hP (metX3_at l hw_6 hw_19 (by decide) (rd 40 (S 3) b)) gc_RX4_68 hd_X3_at ⟨rfl, rfl⟩ ⟨Nat.le_of_ble_eq_true rfl, Nat.le_of_ble_eq_true rfl⟩ 6 hw_6 rfl rfl hl.1 (Nat.le_of_ble_eq_true rfl) ⟨Nat.le_of_ble_eq_true rfl, Nat.le_of_ble_eq_true rfl⟩ dX4_carry_41 ?_
  refine lv_istore_n (lv' := [(3, .int (rd 6 (S 1) (rd 40 (S 3) b))), (2, .int (rd 40 (S 3) b)), (0, .ref x), (1, .int b)]) hx hb dX4_carry_44 rfl hl (by decide) rfl (fun ls hl => ?_)
  refine lv_iload_n hx hb dX4_carry_45 rfl (lv_at hl 0 rfl) ?_
  refine c_pSi (rest := []) hC hE hP (metX4_isChute l (rd 6 (S 1) (rd 40 (S 3) b))) gc_RX4_107 hd_X4_isChute ⟨rfl, rfl⟩ ⟨Nat.le_of_ble_eq_true rfl, Nat.le_of_ble_eq_true rfl⟩ rfl hl.1 (Nat.le_of_ble_eq_true rfl) ⟨Nat.le_of_ble_eq_true rfl, Nat.le_of_ble_eq_true rfl⟩ dX4_carry_46 ?_
  refine lv_if_eq (tgt := 63) hx hb dX4_carry_49 (by decide) (fun c_1 => ?_) (fun c_1 => ?_)
  · have c_1 := bI_0 c_1
    exact x_ISE (tx := "the flight has no chute, or its chute no room") hC hlk hnt hfl hP hX hZ hl.1 (by decide +kernel) dX4_carry_63 dX4_carry_66 dX4_carry_67 dX4_carry_69 dX4_carry_72 (Nat.le_of_ble_eq_true rfl) (Nat.le_of_ble_eq_true rfl) ⟨Nat.le_of_ble_eq_true rfl, Nat.le_of_ble_eq_true rfl⟩
  · have c_1 := bI_n c_1
    refine lv_aload_n hx hb dX4_carry_52 rfl (lv_at hl 2 rfl) ?_
    refine va_get (D := D) (ci := 4) (v := .ref (a 0)) (C := RX4) (T := TX4) (N := 2) hx hb hts tu_4 hown hE.1 hP 29 xo_29 rfl 0 (by decide) (hts _ tw_150) (fun _ h9 => h9) rfl dX4_carry_53 ?_
    refine lv_iload_n hx hb dX4_carry_56 rfl (lv_at hl 0 rfl) ?_
    refine c_pVi (rest := []) hC hE hP (metX2_hasRoom l S (rd 6 (S 1) (rd 40 (S 3) b))) gc_RX4_111 hd_X2_hasRoom ⟨rfl, rfl⟩ ⟨Nat.le_of_ble_eq_true rfl, Nat.le_of_ble_eq_true rfl⟩ 0 hw_0 rfl rfl hl.1 (Nat.le_of_ble_eq_true rfl) ⟨Nat.le_of_ble_eq_true rfl, Nat.le_of_ble_eq_true rfl⟩ dX4_carry_57 ?_
    refine lv_if_ne (tgt := 73) hx hb dX4_carry_60 (by decide) (fun c_2 => ?_) (fun c_2 => ?_)
    · have c_2 := bI_n c_2
      exact absurd (show (xCh (rd 6 (S 1) (rd 40 (S 3) b)) ∧ xRoom S (rd 6 (S 1) (rd 40 (S 3) b))) from ⟨c_1, c_2⟩) hbad
    · have c_2 := bI_0 c_2
      exact x_ISE (tx := "the flight has no chute, or its chute no room") hC hlk hnt hfl hP hX hZ hl.1 (by decide +kernel) dX4_carry_63 dX4_carry_66 dX4_carry_67 dX4_carry_69 dX4_carry_72 (Nat.le_of_ble_eq_true rfl) (Nat.le_of_ble_eq_true rfl) ⟨Nat.le_of_ble_eq_true rfl, Nat.le_of_ble_eq_true rfl⟩

set_option maxHeartbeats 4000000 in
set_option maxRecDepth 100000 in
theorem xmtX4_forward_0 (l : Launch) {D : va_G} {k : Nat → ClassId} {a tr : Nat → Nat} {x : Nat} {R : va_W} (S : HS) (b : Int32) (f : Int32) (hfl : l.stackTraces = false) (hbad : ¬ xBag S b) : XM l yX4_forward cX4_forward 3 (some FieldType.int) rmX4_forward D k (hw k a S ++ ((x, .inr (4, [.ref (a 0), .ref (tr 0)])) :: R)) [.ref x, .int b, .int f] "java/lang/IndexOutOfBoundsException" := by
  refine XM_of rfl (Nat.le_of_ble_eq_true rfl) ?_
  intro p e s m below meth c hC hlk hnt hE hP hX hZ ls hl
  have hC : CallFix p m c cX4_forward 3 s _ lw_all RX4 := hC
  have hx := hC.1
  have hb := hC.2.1
  have hown : s.vm.findClass RX4 = some m.cls := hC.2.2.2.1
  have hts := hC.2.2.2.2
  have hl : lv_has ls 3 [(0, .ref x), (1, .int b), (2, .int f)] := hl
  refine lv_aload_n hx hb dX4_forward_0 rfl (lv_at hl 0 rfl) ?_
  refine lv_iload_n hx hb dX4_forward_1 rfl (lv_at hl 1 rfl) ?_
  refine c_xV (rest := []) (E := "java/lang/IndexOutOfBoundsException") hC hE hP hX hZ (xmtX4_needBag l S b hfl hbad) gc_RX4_95 hd_X4_needBag ⟨Nat.le_of_ble_eq_true rfl, Nat.le_of_ble_eq_true rfl⟩ 29 xo_29 rfl rfl hl.1 (Nat.le_of_ble_eq_true rfl) ⟨Nat.le_of_ble_eq_true rfl, Nat.le_of_ble_eq_true rfl⟩ dX4_forward_2 (fun ce q9 H1 h1 h2 h3 hP1 hz1 hk1 => ?_)
  exact x_out hnt hlk h1 h2 h3 hP1 hz1 hk1

set_option maxHeartbeats 4000000 in
set_option maxRecDepth 100000 in
theorem xmtX4_forward_1 (l : Launch) {D : va_G} {k : Nat → ClassId} {a tr : Nat → Nat} {x : Nat} {R : va_W} (S : HS) (b : Int32) (f : Int32) (hfl : l.stackTraces = false) (hk0 : xBag S b) (hbad : ¬ xFlt S f) : XM l yX4_forward cX4_forward 3 (some FieldType.int) rmX4_forward D k (hw k a S ++ ((x, .inr (4, [.ref (a 0), .ref (tr 0)])) :: R)) [.ref x, .int b, .int f] "java/lang/IndexOutOfBoundsException" := by
  refine XM_of rfl (Nat.le_of_ble_eq_true rfl) ?_
  intro p e s m below meth c hC hlk hnt hE hP hX hZ ls hl
  have hC : CallFix p m c cX4_forward 3 s _ lw_all RX4 := hC
  have hx := hC.1
  have hb := hC.2.1
  have hown : s.vm.findClass RX4 = some m.cls := hC.2.2.2.1
  have hts := hC.2.2.2.2
  have hl : lv_has ls 3 [(0, .ref x), (1, .int b), (2, .int f)] := hl
  refine lv_aload_n hx hb dX4_forward_0 rfl (lv_at hl 0 rfl) ?_
  refine lv_iload_n hx hb dX4_forward_1 rfl (lv_at hl 1 rfl) ?_
  refine c_pVv (rest := []) hC hE hP (metX4_needBag l S b (show xBag S b from hk0)) gc_RX4_95 hd_X4_needBag ⟨rfl, rfl⟩ ⟨Nat.le_of_ble_eq_true rfl, Nat.le_of_ble_eq_true rfl⟩ 29 xo_29 rfl rfl hl.1 (Nat.le_of_ble_eq_true rfl) ⟨Nat.le_of_ble_eq_true rfl, Nat.le_of_ble_eq_true rfl⟩ dX4_forward_2 ?_
  refine lv_aload_n hx hb dX4_forward_5 rfl (lv_at hl 0 rfl) ?_
  refine lv_iload_n hx hb dX4_forward_6 rfl (lv_at hl 2 rfl) ?_
  refine c_xV (rest := []) (E := "java/lang/IndexOutOfBoundsException") hC hE hP hX hZ (xmtX4_needFlight l S f hfl hbad) gc_RX4_40 hd_X4_needFlight ⟨Nat.le_of_ble_eq_true rfl, Nat.le_of_ble_eq_true rfl⟩ 29 xo_29 rfl rfl hl.1 (Nat.le_of_ble_eq_true rfl) ⟨Nat.le_of_ble_eq_true rfl, Nat.le_of_ble_eq_true rfl⟩ dX4_forward_7 (fun ce q9 H1 h1 h2 h3 hP1 hz1 hk1 => ?_)
  exact x_out hnt hlk h1 h2 h3 hP1 hz1 hk1

set_option maxHeartbeats 4000000 in
set_option maxRecDepth 100000 in
theorem xmtX4_forward_2 (l : Launch) {D : va_G} {k : Nat → ClassId} {a tr : Nat → Nat} {x : Nat} {R : va_W} (S : HS) (b : Int32) (f : Int32) (hfl : l.stackTraces = false) (hk0 : xBag S b) (hk1 : xFlt S f) (hbad : ¬ xHand S b) : XM l yX4_forward cX4_forward 3 (some FieldType.int) rmX4_forward D k (hw k a S ++ ((x, .inr (4, [.ref (a 0), .ref (tr 0)])) :: R)) [.ref x, .int b, .int f] "java/lang/IllegalStateException" := by
  refine XM_of rfl (Nat.le_of_ble_eq_true rfl) ?_
  intro p e s m below meth c hC hlk hnt hE hP hX hZ ls hl
  have hC : CallFix p m c cX4_forward 3 s _ lw_all RX4 := hC
  have hx := hC.1
  have hb := hC.2.1
  have hown : s.vm.findClass RX4 = some m.cls := hC.2.2.2.1
  have hts := hC.2.2.2.2
  have hl : lv_has ls 3 [(0, .ref x), (1, .int b), (2, .int f)] := hl
  refine lv_aload_n hx hb dX4_forward_0 rfl (lv_at hl 0 rfl) ?_
  refine lv_iload_n hx hb dX4_forward_1 rfl (lv_at hl 1 rfl) ?_
  refine c_pVv (rest := []) hC hE hP (metX4_needBag l S b (show xBag S b from hk0)) gc_RX4_95 hd_X4_needBag ⟨rfl, rfl⟩ ⟨Nat.le_of_ble_eq_true rfl, Nat.le_of_ble_eq_true rfl⟩ 29 xo_29 rfl rfl hl.1 (Nat.le_of_ble_eq_true rfl) ⟨Nat.le_of_ble_eq_true rfl, Nat.le_of_ble_eq_true rfl⟩ dX4_forward_2 ?_
  refine lv_aload_n hx hb dX4_forward_5 rfl (lv_at hl 0 rfl) ?_
  refine lv_iload_n hx hb dX4_forward_6 rfl (lv_at hl 2 rfl) ?_
  refine c_pVv (rest := []) hC hE hP (metX4_needFlight l S f (show xFlt S f from hk1)) gc_RX4_40 hd_X4_needFlight ⟨rfl, rfl⟩ ⟨Nat.le_of_ble_eq_true rfl, Nat.le_of_ble_eq_true rfl⟩ 29 xo_29 rfl rfl hl.1 (Nat.le_of_ble_eq_true rfl) ⟨Nat.le_of_ble_eq_true rfl, Nat.le_of_ble_eq_true rfl⟩ dX4_forward_7 ?_
  refine lv_aload_n hx hb dX4_forward_10 rfl (lv_at hl 0 rfl) ?_
  refine lv_iload_n hx hb dX4_forward_11 rfl (lv_at hl 1 rfl) ?_
  refine c_xV (rest := []) (E := "java/lang/IllegalStateException") hC hE hP hX hZ (xmtX4_needInHand l S b hfl hbad) gc_RX4_98 hd_X4_needInHand ⟨Nat.le_of_ble_eq_true rfl, Nat.le_of_ble_eq_true rfl⟩ 29 xo_29 rfl rfl hl.1 (Nat.le_of_ble_eq_true rfl) ⟨Nat.le_of_ble_eq_true rfl, Nat.le_of_ble_eq_true rfl⟩ dX4_forward_12 (fun ce q9 H1 h1 h2 h3 hP1 hz1 hk1 => ?_)
  exact x_out hnt hlk h1 h2 h3 hP1 hz1 hk1

set_option maxHeartbeats 4000000 in
set_option maxRecDepth 100000 in
theorem xmtX4_forward_3 (l : Launch) {D : va_G} {k : Nat → ClassId} {a tr : Nat → Nat} {x : Nat} {R : va_W} (S : HS) (b : Int32) (f : Int32) (hfl : l.stackTraces = false) (hk0 : xBag S b) (hk1 : xFlt S f) (hk2 : xHand S b) (hbad : ¬ xGone S (rd 40 (S 3) b)) : XM l yX4_forward cX4_forward 3 (some FieldType.int) rmX4_forward D k (hw k a S ++ ((x, .inr (4, [.ref (a 0), .ref (tr 0)])) :: R)) [.ref x, .int b, .int f] "java/lang/IllegalStateException" := by
  refine XM_of rfl (Nat.le_of_ble_eq_true rfl) ?_
  intro p e s m below meth c hC hlk hnt hE hP hX hZ ls hl
  have hC : CallFix p m c cX4_forward 3 s _ lw_all RX4 := hC
  have hx := hC.1
  have hb := hC.2.1
  have hown : s.vm.findClass RX4 = some m.cls := hC.2.2.2.1
  have hts := hC.2.2.2.2
  have hl : lv_has ls 3 [(0, .ref x), (1, .int b), (2, .int f)] := hl
  refine lv_aload_n hx hb dX4_forward_0 rfl (lv_at hl 0 rfl) ?_
  refine lv_iload_n hx hb dX4_forward_1 rfl (lv_at hl 1 rfl) ?_
  refine c_pVv (rest := []) hC hE hP (metX4_needBag l S b (show xBag S b from hk0)) gc_RX4_95 hd_X4_needBag ⟨rfl, rfl⟩ ⟨Nat.le_of_ble_eq_true rfl, Nat.le_of_ble_eq_true rfl⟩ 29 xo_29 rfl rfl hl.1 (Nat.le_of_ble_eq_true rfl) ⟨Nat.le_of_ble_eq_true rfl, Nat.le_of_ble_eq_true rfl⟩ dX4_forward_2 ?_
  refine lv_aload_n hx hb dX4_forward_5 rfl (lv_at hl 0 rfl) ?_
  refine lv_iload_n hx hb dX4_forward_6 rfl (lv_at hl 2 rfl) ?_
  refine c_pVv (rest := []) hC hE hP (metX4_needFlight l S f (show xFlt S f from hk1)) gc_RX4_40 hd_X4_needFlight ⟨rfl, rfl⟩ ⟨Nat.le_of_ble_eq_true rfl, Nat.le_of_ble_eq_true rfl⟩ 29 xo_29 rfl rfl hl.1 (Nat.le_of_ble_eq_true rfl) ⟨Nat.le_of_ble_eq_true rfl, Nat.le_of_ble_eq_true rfl⟩ dX4_forward_7 ?_
  refine lv_aload_n hx hb dX4_forward_10 rfl (lv_at hl 0 rfl) ?_
  refine lv_iload_n hx hb dX4_forward_11 rfl (lv_at hl 1 rfl) ?_
  refine c_pVv (rest := []) hC hE hP (metX4_needInHand l S b (show xHand S b from hk2)) gc_RX4_98 hd_X4_needInHand ⟨rfl, rfl⟩ ⟨Nat.le_of_ble_eq_true rfl, Nat.le_of_ble_eq_true rfl⟩ 29 xo_29 rfl rfl hl.1 (Nat.le_of_ble_eq_true rfl) ⟨Nat.le_of_ble_eq_true rfl, Nat.le_of_ble_eq_true rfl⟩ dX4_forward_12 ?_
  refine lv_aload_n hx hb dX4_forward_15 rfl (lv_at hl 0 rfl) ?_
  refine va_get (D := D) (ci := 4) (v := .ref (a 0)) (C := RX4) (T := TX4) (N := 2) hx hb hts tu_4 hown hE.1 hP 29 xo_29 rfl 0 (by decide) (hts _ tw_150) (fun _ h9 => h9) rfl dX4_forward_16 ?_
  refine va_get (D := D) (ci := 2) (v := .ref (a 1)) (C := RX2) (T := TX2) (N := 8) hx hb hts tu_2 hown hE.1 hP 0 hw_0 rfl 3 (by decide) (hts _ tw_125) (fun _ h9 => h9) rfl dX4_forward_19 ?_
  refine lv_aload_n hx hb dX4_forward_22 rfl (lv_at hl 0 rfl) ?_
  refine va_get (D := D) (ci := 4) (v := .ref (a 0)) (C := RX4) (T := TX4) (N := 2) hx hb hts tu_4 hown hE.1 hP 29 xo_29 rfl 0 (by decide) (hts _ tw_150) (fun _ h9 => h9) rfl dX4_forward_23 ?_
  refine va_get (D := D) (ci := 2) (v := .ref (a 2)) (C := RX2) (T := TX2) (N := 8) hx hb hts tu_2 hown hE.1 hP 0 hw_0 rfl 4 (by decide) (hts _ tw_127) (fun _ h9 => h9) rfl dX4_forward_26 ?_
  refine va_get (D := D) (ci := 0) (v := .ref (a 8)) (C := RX0) (T := TX0) (N := 9) hx hb hts tu_0 hown hE.1 hP 2 hw_2 rfl 1 (by decide) (hts _ tw_77) (fun _ h9 => h9) rfl dX4_forward_29 ?_
  refine lv_iload_n hx hb dX4_forward_32 rfl (lv_at hl 1 rfl) ?_
  refine c_pVi (rest := [.ref (a 1)]) hC hE hP (metX3_at l hw_8 hw_21 (by decide) b) gc_RX4_68 hd_X3_at ⟨rfl, rfl⟩ ⟨Nat.le_of_ble_eq_true rfl, Nat.le_of_ble_eq_true rfl⟩ 8 hw_8 rfl rfl hl.1 (Nat.le_of_ble_eq_true rfl) ⟨Nat.le_of_ble_eq_true rfl, Nat.le_of_ble_eq_true rfl⟩ dX4_forward_33 ?_
  refine c_pVi (rest := []) hC hE hP (metX1_hasLeft l S (rd 40 (S 3) b)) gc_RX4_119 hd_X1_hasLeft ⟨rfl, rfl⟩ ⟨Nat.le_of_ble_eq_true rfl, Nat.le_of_ble_eq_true rfl⟩ 1 hw_1 rfl rfl hl.1 (Nat.le_of_ble_eq_true rfl) ⟨Nat.le_of_ble_eq_true rfl, Nat.le_of_ble_eq_true rfl⟩ dX4_forward_36 ?_
  refine lv_if_ne (tgt := 52) hx hb dX4_forward_39 (by decide) (fun c_1 => ?_) (fun c_1 => ?_)
  · have c_1 := bI_n c_1
    exact absurd (show xGone S (rd 40 (S 3) b) from c_1) hbad
  · have c_1 := bI_0 c_1
    exact x_ISE (tx := "the bag's flight is not gone") hC hlk hnt hfl hP hX hZ hl.1 (by decide +kernel) dX4_forward_42 dX4_forward_45 dX4_forward_46 dX4_forward_48 dX4_forward_51 (Nat.le_of_ble_eq_true rfl) (Nat.le_of_ble_eq_true rfl) ⟨Nat.le_of_ble_eq_true rfl, Nat.le_of_ble_eq_true rfl⟩

set_option maxHeartbeats 4000000 in
set_option maxRecDepth 100000 in
theorem xmtX4_forward_4 (l : Launch) {D : va_G} {k : Nat → ClassId} {a tr : Nat → Nat} {x : Nat} {R : va_W} (S : HS) (b : Int32) (f : Int32) (hfl : l.stackTraces = false) (hk0 : xBag S b) (hk1 : xFlt S f) (hk2 : xHand S b) (hk3 : xGone S (rd 40 (S 3) b)) (hbad : ¬ (¬ (xGone S f))) : XM l yX4_forward cX4_forward 3 (some FieldType.int) rmX4_forward D k (hw k a S ++ ((x, .inr (4, [.ref (a 0), .ref (tr 0)])) :: R)) [.ref x, .int b, .int f] "java/lang/IllegalStateException" := by
  refine XM_of rfl (Nat.le_of_ble_eq_true rfl) ?_
  intro p e s m below meth c hC hlk hnt hE hP hX hZ ls hl
  have hC : CallFix p m c cX4_forward 3 s _ lw_all RX4 := hC
  have hx := hC.1
  have hb := hC.2.1
  have hown : s.vm.findClass RX4 = some m.cls := hC.2.2.2.1
  have hts := hC.2.2.2.2
  have hl : lv_has ls 3 [(0, .ref x), (1, .int b), (2, .int f)] := hl
  refine lv_aload_n hx hb dX4_forward_0 rfl (lv_at hl 0 rfl) ?_
  refine lv_iload_n hx hb dX4_forward_1 rfl (lv_at hl 1 rfl) ?_
  refine c_pVv (rest := []) hC hE hP (metX4_needBag l S b (show xBag S b from hk0)) gc_RX4_95 hd_X4_needBag ⟨rfl, rfl⟩ ⟨Nat.le_of_ble_eq_true rfl, Nat.le_of_ble_eq_true rfl⟩ 29 xo_29 rfl rfl hl.1 (Nat.le_of_ble_eq_true rfl) ⟨Nat.le_of_ble_eq_true rfl, Nat.le_of_ble_eq_true rfl⟩ dX4_forward_2 ?_
  refine lv_aload_n hx hb dX4_forward_5 rfl (lv_at hl 0 rfl) ?_
  refine lv_iload_n hx hb dX4_forward_6 rfl (lv_at hl 2 rfl) ?_
  refine c_pVv (rest := []) hC hE hP (metX4_needFlight l S f (show xFlt S f from hk1)) gc_RX4_40 hd_X4_needFlight ⟨rfl, rfl⟩ ⟨Nat.le_of_ble_eq_true rfl, Nat.le_of_ble_eq_true rfl⟩ 29 xo_29 rfl rfl hl.1 (Nat.le_of_ble_eq_true rfl) ⟨Nat.le_of_ble_eq_true rfl, Nat.le_of_ble_eq_true rfl⟩ dX4_forward_7 ?_
  refine lv_aload_n hx hb dX4_forward_10 rfl (lv_at hl 0 rfl) ?_
  refine lv_iload_n hx hb dX4_forward_11 rfl (lv_at hl 1 rfl) ?_
  refine c_pVv (rest := []) hC hE hP (metX4_needInHand l S b (show xHand S b from hk2)) gc_RX4_98 hd_X4_needInHand ⟨rfl, rfl⟩ ⟨Nat.le_of_ble_eq_true rfl, Nat.le_of_ble_eq_true rfl⟩ 29 xo_29 rfl rfl hl.1 (Nat.le_of_ble_eq_true rfl) ⟨Nat.le_of_ble_eq_true rfl, Nat.le_of_ble_eq_true rfl⟩ dX4_forward_12 ?_
  refine lv_aload_n hx hb dX4_forward_15 rfl (lv_at hl 0 rfl) ?_
  refine va_get (D := D) (ci := 4) (v := .ref (a 0)) (C := RX4) (T := TX4) (N := 2) hx hb hts tu_4 hown hE.1 hP 29 xo_29 rfl 0 (by decide) (hts _ tw_150) (fun _ h9 => h9) rfl dX4_forward_16 ?_
  refine va_get (D := D) (ci := 2) (v := .ref (a 1)) (C := RX2) (T := TX2) (N := 8) hx hb hts tu_2 hown hE.1 hP 0 hw_0 rfl 3 (by decide) (hts _ tw_125) (fun _ h9 => h9) rfl dX4_forward_19 ?_
  refine lv_aload_n hx hb dX4_forward_22 rfl (lv_at hl 0 rfl) ?_
  refine va_get (D := D) (ci := 4) (v := .ref (a 0)) (C := RX4) (T := TX4) (N := 2) hx hb hts tu_4 hown hE.1 hP 29 xo_29 rfl 0 (by decide) (hts _ tw_150) (fun _ h9 => h9) rfl dX4_forward_23 ?_
  refine va_get (D := D) (ci := 2) (v := .ref (a 2)) (C := RX2) (T := TX2) (N := 8) hx hb hts tu_2 hown hE.1 hP 0 hw_0 rfl 4 (by decide) (hts _ tw_127) (fun _ h9 => h9) rfl dX4_forward_26 ?_
  refine va_get (D := D) (ci := 0) (v := .ref (a 8)) (C := RX0) (T := TX0) (N := 9) hx hb hts tu_0 hown hE.1 hP 2 hw_2 rfl 1 (by decide) (hts _ tw_77) (fun _ h9 => h9) rfl dX4_forward_29 ?_
  refine lv_iload_n hx hb dX4_forward_32 rfl (lv_at hl 1 rfl) ?_
  refine c_pVi (rest := [.ref (a 1)]) hC hE hP (metX3_at l hw_8 hw_21 (by decide) b) gc_RX4_68 hd_X3_at ⟨rfl, rfl⟩ ⟨Nat.le_of_ble_eq_true rfl, Nat.le_of_ble_eq_true rfl⟩ 8 hw_8 rfl rfl hl.1 (Nat.le_of_ble_eq_true rfl) ⟨Nat.le_of_ble_eq_true rfl, Nat.le_of_ble_eq_true rfl⟩ dX4_forward_33 ?_
  refine c_pVi (rest := []) hC hE hP (metX1_hasLeft l S (rd 40 (S 3) b)) gc_RX4_119 hd_X1_hasLeft ⟨rfl, rfl⟩ ⟨Nat.le_of_ble_eq_true rfl, Nat.le_of_ble_eq_true rfl⟩ 1 hw_1 rfl rfl hl.1 (Nat.le_of_ble_eq_true rfl) ⟨Nat.le_of_ble_eq_true rfl, Nat.le_of_ble_eq_true rfl⟩ dX4_forward_36 ?_
  refine lv_if_ne (tgt := 52) hx hb dX4_forward_39 (by decide) (fun c_1 => ?_) (fun c_ => absurd hk3 (bI_0 c_))
  refine lv_aload_n hx hb dX4_forward_52 rfl (lv_at hl 0 rfl) ?_
  refine lv_iload_n hx hb dX4_forward_53 rfl (lv_at hl 2 rfl) ?_
  refine c_xV (rest := []) (E := "java/lang/IllegalStateException") hC hE hP hX hZ (xmtX4_needNotGone l S f hfl hbad) gc_RX4_47 hd_X4_needNotGone ⟨Nat.le_of_ble_eq_true rfl, Nat.le_of_ble_eq_true rfl⟩ 29 xo_29 rfl rfl hl.1 (Nat.le_of_ble_eq_true rfl) ⟨Nat.le_of_ble_eq_true rfl, Nat.le_of_ble_eq_true rfl⟩ dX4_forward_54 (fun ce q9 H1 h1 h2 h3 hP1 hz1 hk1 => ?_)
  exact x_out hnt hlk h1 h2 h3 hP1 hz1 hk1

set_option maxHeartbeats 4000000 in
set_option maxRecDepth 100000 in
theorem xmtX4_sweep_0 (l : Launch) {D : va_G} {k : Nat → ClassId} {a tr : Nat → Nat} {x : Nat} {R : va_W} (S : HS) (ch : Int32) (hfl : l.stackTraces = false) (hbad : ¬ xCh ch) : XM l yX4_sweep cX4_sweep 2 (some FieldType.int) rmX4_sweep D k (hw k a S ++ ((x, .inr (4, [.ref (a 0), .ref (tr 0)])) :: R)) [.ref x, .int ch] "java/lang/IndexOutOfBoundsException" := by
  refine XM_of rfl (Nat.le_of_ble_eq_true rfl) ?_
  intro p e s m below meth c hC hlk hnt hE hP hX hZ ls hl
  have hC : CallFix p m c cX4_sweep 2 s _ lw_all RX4 := hC
  have hx := hC.1
  have hb := hC.2.1
  have hown : s.vm.findClass RX4 = some m.cls := hC.2.2.2.1
  have hts := hC.2.2.2.2
  have hl : lv_has ls 2 [(0, .ref x), (1, .int ch)] := hl
  refine lv_iload_n hx hb dX4_sweep_0 rfl (lv_at hl 1 rfl) ?_
  refine c_xS (rest := []) (E := "java/lang/IndexOutOfBoundsException") hC hE hP hX hZ (xmtX4_needChute l ch hfl hbad) gc_RX4_44 hd_X4_needChute ⟨Nat.le_of_ble_eq_true rfl, Nat.le_of_ble_eq_true rfl⟩ rfl hl.1 (Nat.le_of_ble_eq_true rfl) ⟨Nat.le_of_ble_eq_true rfl, Nat.le_of_ble_eq_true rfl⟩ dX4_sweep_1 (fun ce q9 H1 h1 h2 h3 hP1 hz1 hk1 => ?_)
  exact x_out hnt hlk h1 h2 h3 hP1 hz1 hk1

set_option maxHeartbeats 4000000 in
set_option maxRecDepth 100000 in
theorem xmtX4_depart_0 (l : Launch) {D : va_G} {k : Nat → ClassId} {a tr : Nat → Nat} {x : Nat} {R : va_W} (S : HS) (f : Int32) (hfl : l.stackTraces = false) (hbad : ¬ xFlt S f) : XM l yX4_depart cX4_depart 2 (some FieldType.int) rmX4_depart D k (hw k a S ++ ((x, .inr (4, [.ref (a 0), .ref (tr 0)])) :: R)) [.ref x, .int f] "java/lang/IndexOutOfBoundsException" := by
  refine XM_of rfl (Nat.le_of_ble_eq_true rfl) ?_
  intro p e s m below meth c hC hlk hnt hE hP hX hZ ls hl
  have hC : CallFix p m c cX4_depart 2 s _ lw_all RX4 := hC
  have hx := hC.1
  have hb := hC.2.1
  have hown : s.vm.findClass RX4 = some m.cls := hC.2.2.2.1
  have hts := hC.2.2.2.2
  have hl : lv_has ls 2 [(0, .ref x), (1, .int f)] := hl
  refine lv_aload_n hx hb dX4_depart_0 rfl (lv_at hl 0 rfl) ?_
  refine lv_iload_n hx hb dX4_depart_1 rfl (lv_at hl 1 rfl) ?_
  refine c_xV (rest := []) (E := "java/lang/IndexOutOfBoundsException") hC hE hP hX hZ (xmtX4_needFlight l S f hfl hbad) gc_RX4_40 hd_X4_needFlight ⟨Nat.le_of_ble_eq_true rfl, Nat.le_of_ble_eq_true rfl⟩ 29 xo_29 rfl rfl hl.1 (Nat.le_of_ble_eq_true rfl) ⟨Nat.le_of_ble_eq_true rfl, Nat.le_of_ble_eq_true rfl⟩ dX4_depart_2 (fun ce q9 H1 h1 h2 h3 hP1 hz1 hk1 => ?_)
  exact x_out hnt hlk h1 h2 h3 hP1 hz1 hk1

set_option maxHeartbeats 4000000 in
set_option maxRecDepth 100000 in
theorem xmtX4_depart_1 (l : Launch) {D : va_G} {k : Nat → ClassId} {a tr : Nat → Nat} {x : Nat} {R : va_W} (S : HS) (f : Int32) (hfl : l.stackTraces = false) (hk0 : xFlt S f) (hbad : ¬ (¬ (xGone S f))) : XM l yX4_depart cX4_depart 2 (some FieldType.int) rmX4_depart D k (hw k a S ++ ((x, .inr (4, [.ref (a 0), .ref (tr 0)])) :: R)) [.ref x, .int f] "java/lang/IllegalStateException" := by
  refine XM_of rfl (Nat.le_of_ble_eq_true rfl) ?_
  intro p e s m below meth c hC hlk hnt hE hP hX hZ ls hl
  have hC : CallFix p m c cX4_depart 2 s _ lw_all RX4 := hC
  have hx := hC.1
  have hb := hC.2.1
  have hown : s.vm.findClass RX4 = some m.cls := hC.2.2.2.1
  have hts := hC.2.2.2.2
  have hl : lv_has ls 2 [(0, .ref x), (1, .int f)] := hl
  refine lv_aload_n hx hb dX4_depart_0 rfl (lv_at hl 0 rfl) ?_
  refine lv_iload_n hx hb dX4_depart_1 rfl (lv_at hl 1 rfl) ?_
  refine c_pVv (rest := []) hC hE hP (metX4_needFlight l S f (show xFlt S f from hk0)) gc_RX4_40 hd_X4_needFlight ⟨rfl, rfl⟩ ⟨Nat.le_of_ble_eq_true rfl, Nat.le_of_ble_eq_true rfl⟩ 29 xo_29 rfl rfl hl.1 (Nat.le_of_ble_eq_true rfl) ⟨Nat.le_of_ble_eq_true rfl, Nat.le_of_ble_eq_true rfl⟩ dX4_depart_2 ?_
  refine lv_aload_n hx hb dX4_depart_5 rfl (lv_at hl 0 rfl) ?_
  refine lv_iload_n hx hb dX4_depart_6 rfl (lv_at hl 1 rfl) ?_
  refine c_xV (rest := []) (E := "java/lang/IllegalStateException") hC hE hP hX hZ (xmtX4_needNotGone l S f hfl hbad) gc_RX4_47 hd_X4_needNotGone ⟨Nat.le_of_ble_eq_true rfl, Nat.le_of_ble_eq_true rfl⟩ 29 xo_29 rfl rfl hl.1 (Nat.le_of_ble_eq_true rfl) ⟨Nat.le_of_ble_eq_true rfl, Nat.le_of_ble_eq_true rfl⟩ dX4_depart_7 (fun ce q9 H1 h1 h2 h3 hP1 hz1 hk1 => ?_)
  exact x_out hnt hlk h1 h2 h3 hP1 hz1 hk1

set_option maxHeartbeats 4000000 in
set_option maxRecDepth 100000 in
theorem xmtX4_pass_0 (l : Launch) {D : va_G} {k : Nat → ClassId} {a tr : Nat → Nat} {x : Nat} {R : va_W} (S : HS) (N : Nat) (hfl : l.stackTraces = false) (hbad : ¬ xM60 (nI N)) : XM l yX4_pass cX4_pass 2 (some FieldType.int) rmX4_pass D k (hw k a S ++ ((x, .inr (4, [.ref (a 0), .ref (tr 0)])) :: R)) [.ref x, .int (nI N)] "java/lang/IllegalArgumentException" := by
  refine XM_of rfl (Nat.le_of_ble_eq_true rfl) ?_
  intro p e s m below meth c hC hlk hnt hE hP hX hZ ls hl
  have hC : CallFix p m c cX4_pass 2 s _ lw_all RX4 := hC
  have hx := hC.1
  have hb := hC.2.1
  have hown : s.vm.findClass RX4 = some m.cls := hC.2.2.2.1
  have hts := hC.2.2.2.2
  have hl : lv_has ls 2 [(0, .ref x), (1, .int (nI N))] := hl
  refine lv_iload_n hx hb dX4_pass_0 rfl (lv_at hl 1 rfl) ?_
  refine c_xS (rest := []) (E := "java/lang/IllegalArgumentException") hC hE hP hX hZ (xmtX4_needMinutes l (nI N) hfl hbad) gc_RX4_136 hd_X4_needMinutes ⟨Nat.le_of_ble_eq_true rfl, Nat.le_of_ble_eq_true rfl⟩ rfl hl.1 (Nat.le_of_ble_eq_true rfl) ⟨Nat.le_of_ble_eq_true rfl, Nat.le_of_ble_eq_true rfl⟩ dX4_pass_1 (fun ce q9 H1 h1 h2 h3 hP1 hz1 hk1 => ?_)
  exact x_out hnt hlk h1 h2 h3 hP1 hz1 hk1

set_option maxHeartbeats 4000000 in
set_option maxRecDepth 100000 in
theorem xmtX4_flightOf_0 (l : Launch) {D : va_G} {k : Nat → ClassId} {a tr : Nat → Nat} {x : Nat} {R : va_W} (S : HS) (b : Int32) (hfl : l.stackTraces = false) (hbad : ¬ xBag S b) : XM l yX4_flightOf cX4_flightOf 2 (some FieldType.int) rmX4_flightOf D k (hw k a S ++ ((x, .inr (4, [.ref (a 0), .ref (tr 0)])) :: R)) [.ref x, .int b] "java/lang/IndexOutOfBoundsException" := by
  refine XM_of rfl (Nat.le_of_ble_eq_true rfl) ?_
  intro p e s m below meth c hC hlk hnt hE hP hX hZ ls hl
  have hC : CallFix p m c cX4_flightOf 2 s _ lw_all RX4 := hC
  have hx := hC.1
  have hb := hC.2.1
  have hown : s.vm.findClass RX4 = some m.cls := hC.2.2.2.1
  have hts := hC.2.2.2.2
  have hl : lv_has ls 2 [(0, .ref x), (1, .int b)] := hl
  refine lv_aload_n hx hb dX4_flightOf_0 rfl (lv_at hl 0 rfl) ?_
  refine lv_iload_n hx hb dX4_flightOf_1 rfl (lv_at hl 1 rfl) ?_
  refine c_xV (rest := []) (E := "java/lang/IndexOutOfBoundsException") hC hE hP hX hZ (xmtX4_needBag l S b hfl hbad) gc_RX4_95 hd_X4_needBag ⟨Nat.le_of_ble_eq_true rfl, Nat.le_of_ble_eq_true rfl⟩ 29 xo_29 rfl rfl hl.1 (Nat.le_of_ble_eq_true rfl) ⟨Nat.le_of_ble_eq_true rfl, Nat.le_of_ble_eq_true rfl⟩ dX4_flightOf_2 (fun ce q9 H1 h1 h2 h3 hP1 hz1 hk1 => ?_)
  exact x_out hnt hlk h1 h2 h3 hP1 hz1 hk1

set_option maxHeartbeats 4000000 in
set_option maxRecDepth 100000 in
theorem xmtX4_whereIs_0 (l : Launch) {D : va_G} {k : Nat → ClassId} {a tr : Nat → Nat} {x : Nat} {R : va_W} (S : HS) (b : Int32) (hfl : l.stackTraces = false) (hbad : ¬ xBag S b) : XM l yX4_whereIs cX4_whereIs 2 (some FieldType.int) rmX4_whereIs D k (hw k a S ++ ((x, .inr (4, [.ref (a 0), .ref (tr 0)])) :: R)) [.ref x, .int b] "java/lang/IndexOutOfBoundsException" := by
  refine XM_of rfl (Nat.le_of_ble_eq_true rfl) ?_
  intro p e s m below meth c hC hlk hnt hE hP hX hZ ls hl
  have hC : CallFix p m c cX4_whereIs 2 s _ lw_all RX4 := hC
  have hx := hC.1
  have hb := hC.2.1
  have hown : s.vm.findClass RX4 = some m.cls := hC.2.2.2.1
  have hts := hC.2.2.2.2
  have hl : lv_has ls 2 [(0, .ref x), (1, .int b)] := hl
  refine lv_aload_n hx hb dX4_whereIs_0 rfl (lv_at hl 0 rfl) ?_
  refine lv_iload_n hx hb dX4_whereIs_1 rfl (lv_at hl 1 rfl) ?_
  refine c_xV (rest := []) (E := "java/lang/IndexOutOfBoundsException") hC hE hP hX hZ (xmtX4_needBag l S b hfl hbad) gc_RX4_95 hd_X4_needBag ⟨Nat.le_of_ble_eq_true rfl, Nat.le_of_ble_eq_true rfl⟩ 29 xo_29 rfl rfl hl.1 (Nat.le_of_ble_eq_true rfl) ⟨Nat.le_of_ble_eq_true rfl, Nat.le_of_ble_eq_true rfl⟩ dX4_whereIs_2 (fun ce q9 H1 h1 h2 h3 hP1 hz1 hk1 => ?_)
  exact x_out hnt hlk h1 h2 h3 hP1 hz1 hk1

set_option maxHeartbeats 4000000 in
set_option maxRecDepth 100000 in
theorem xmtX4_placeOf_0 (l : Launch) {D : va_G} {k : Nat → ClassId} {a tr : Nat → Nat} {x : Nat} {R : va_W} (S : HS) (b : Int32) (hfl : l.stackTraces = false) (hbad : ¬ xBag S b) : XM l yX4_placeOf cX4_placeOf 2 (some FieldType.int) rmX4_placeOf D k (hw k a S ++ ((x, .inr (4, [.ref (a 0), .ref (tr 0)])) :: R)) [.ref x, .int b] "java/lang/IndexOutOfBoundsException" := by
  refine XM_of rfl (Nat.le_of_ble_eq_true rfl) ?_
  intro p e s m below meth c hC hlk hnt hE hP hX hZ ls hl
  have hC : CallFix p m c cX4_placeOf 2 s _ lw_all RX4 := hC
  have hx := hC.1
  have hb := hC.2.1
  have hown : s.vm.findClass RX4 = some m.cls := hC.2.2.2.1
  have hts := hC.2.2.2.2
  have hl : lv_has ls 2 [(0, .ref x), (1, .int b)] := hl
  refine lv_aload_n hx hb dX4_placeOf_0 rfl (lv_at hl 0 rfl) ?_
  refine lv_iload_n hx hb dX4_placeOf_1 rfl (lv_at hl 1 rfl) ?_
  refine c_xV (rest := []) (E := "java/lang/IndexOutOfBoundsException") hC hE hP hX hZ (xmtX4_needBag l S b hfl hbad) gc_RX4_95 hd_X4_needBag ⟨Nat.le_of_ble_eq_true rfl, Nat.le_of_ble_eq_true rfl⟩ 29 xo_29 rfl rfl hl.1 (Nat.le_of_ble_eq_true rfl) ⟨Nat.le_of_ble_eq_true rfl, Nat.le_of_ble_eq_true rfl⟩ dX4_placeOf_2 (fun ce q9 H1 h1 h2 h3 hP1 hz1 hk1 => ?_)
  exact x_out hnt hlk h1 h2 h3 hP1 hz1 hk1

set_option maxHeartbeats 4000000 in
set_option maxRecDepth 100000 in
theorem xmtX4_chuteOf_0 (l : Launch) {D : va_G} {k : Nat → ClassId} {a tr : Nat → Nat} {x : Nat} {R : va_W} (S : HS) (b : Int32) (hfl : l.stackTraces = false) (hbad : ¬ xBag S b) : XM l yX4_chuteOf cX4_chuteOf 2 (some FieldType.int) rmX4_chuteOf D k (hw k a S ++ ((x, .inr (4, [.ref (a 0), .ref (tr 0)])) :: R)) [.ref x, .int b] "java/lang/IndexOutOfBoundsException" := by
  refine XM_of rfl (Nat.le_of_ble_eq_true rfl) ?_
  intro p e s m below meth c hC hlk hnt hE hP hX hZ ls hl
  have hC : CallFix p m c cX4_chuteOf 2 s _ lw_all RX4 := hC
  have hx := hC.1
  have hb := hC.2.1
  have hown : s.vm.findClass RX4 = some m.cls := hC.2.2.2.1
  have hts := hC.2.2.2.2
  have hl : lv_has ls 2 [(0, .ref x), (1, .int b)] := hl
  refine lv_aload_n hx hb dX4_chuteOf_0 rfl (lv_at hl 0 rfl) ?_
  refine lv_iload_n hx hb dX4_chuteOf_1 rfl (lv_at hl 1 rfl) ?_
  refine c_xV (rest := []) (E := "java/lang/IndexOutOfBoundsException") hC hE hP hX hZ (xmtX4_needBag l S b hfl hbad) gc_RX4_95 hd_X4_needBag ⟨Nat.le_of_ble_eq_true rfl, Nat.le_of_ble_eq_true rfl⟩ 29 xo_29 rfl rfl hl.1 (Nat.le_of_ble_eq_true rfl) ⟨Nat.le_of_ble_eq_true rfl, Nat.le_of_ble_eq_true rfl⟩ dX4_chuteOf_2 (fun ce q9 H1 h1 h2 h3 hP1 hz1 hk1 => ?_)
  exact x_out hnt hlk h1 h2 h3 hP1 hz1 hk1

set_option maxHeartbeats 4000000 in
set_option maxRecDepth 100000 in
theorem xmtX4_readFor_0 (l : Launch) {D : va_G} {k : Nat → ClassId} {a tr : Nat → Nat} {x : Nat} {R : va_W} (S : HS) (b : Int32) (hfl : l.stackTraces = false) (hbad : ¬ xBag S b) : XM l yX4_readFor cX4_readFor 2 (some FieldType.int) rmX4_readFor D k (hw k a S ++ ((x, .inr (4, [.ref (a 0), .ref (tr 0)])) :: R)) [.ref x, .int b] "java/lang/IndexOutOfBoundsException" := by
  refine XM_of rfl (Nat.le_of_ble_eq_true rfl) ?_
  intro p e s m below meth c hC hlk hnt hE hP hX hZ ls hl
  have hC : CallFix p m c cX4_readFor 2 s _ lw_all RX4 := hC
  have hx := hC.1
  have hb := hC.2.1
  have hown : s.vm.findClass RX4 = some m.cls := hC.2.2.2.1
  have hts := hC.2.2.2.2
  have hl : lv_has ls 2 [(0, .ref x), (1, .int b)] := hl
  refine lv_aload_n hx hb dX4_readFor_0 rfl (lv_at hl 0 rfl) ?_
  refine lv_iload_n hx hb dX4_readFor_1 rfl (lv_at hl 1 rfl) ?_
  refine c_xV (rest := []) (E := "java/lang/IndexOutOfBoundsException") hC hE hP hX hZ (xmtX4_needBag l S b hfl hbad) gc_RX4_95 hd_X4_needBag ⟨Nat.le_of_ble_eq_true rfl, Nat.le_of_ble_eq_true rfl⟩ 29 xo_29 rfl rfl hl.1 (Nat.le_of_ble_eq_true rfl) ⟨Nat.le_of_ble_eq_true rfl, Nat.le_of_ble_eq_true rfl⟩ dX4_readFor_2 (fun ce q9 H1 h1 h2 h3 hP1 hz1 hk1 => ?_)
  exact x_out hnt hlk h1 h2 h3 hP1 hz1 hk1

set_option maxHeartbeats 4000000 in
set_option maxRecDepth 100000 in
theorem xmtX4_missesOf_0 (l : Launch) {D : va_G} {k : Nat → ClassId} {a tr : Nat → Nat} {x : Nat} {R : va_W} (S : HS) (b : Int32) (hfl : l.stackTraces = false) (hbad : ¬ xBag S b) : XM l yX4_missesOf cX4_missesOf 2 (some FieldType.int) rmX4_missesOf D k (hw k a S ++ ((x, .inr (4, [.ref (a 0), .ref (tr 0)])) :: R)) [.ref x, .int b] "java/lang/IndexOutOfBoundsException" := by
  refine XM_of rfl (Nat.le_of_ble_eq_true rfl) ?_
  intro p e s m below meth c hC hlk hnt hE hP hX hZ ls hl
  have hC : CallFix p m c cX4_missesOf 2 s _ lw_all RX4 := hC
  have hx := hC.1
  have hb := hC.2.1
  have hown : s.vm.findClass RX4 = some m.cls := hC.2.2.2.1
  have hts := hC.2.2.2.2
  have hl : lv_has ls 2 [(0, .ref x), (1, .int b)] := hl
  refine lv_aload_n hx hb dX4_missesOf_0 rfl (lv_at hl 0 rfl) ?_
  refine lv_iload_n hx hb dX4_missesOf_1 rfl (lv_at hl 1 rfl) ?_
  refine c_xV (rest := []) (E := "java/lang/IndexOutOfBoundsException") hC hE hP hX hZ (xmtX4_needBag l S b hfl hbad) gc_RX4_95 hd_X4_needBag ⟨Nat.le_of_ble_eq_true rfl, Nat.le_of_ble_eq_true rfl⟩ 29 xo_29 rfl rfl hl.1 (Nat.le_of_ble_eq_true rfl) ⟨Nat.le_of_ble_eq_true rfl, Nat.le_of_ble_eq_true rfl⟩ dX4_missesOf_2 (fun ce q9 H1 h1 h2 h3 hP1 hz1 hk1 => ?_)
  exact x_out hnt hlk h1 h2 h3 hP1 hz1 hk1

set_option maxHeartbeats 4000000 in
set_option maxRecDepth 100000 in
theorem xmtX4_isMisrouted_0 (l : Launch) {D : va_G} {k : Nat → ClassId} {a tr : Nat → Nat} {x : Nat} {R : va_W} (S : HS) (b : Int32) (hfl : l.stackTraces = false) (hbad : ¬ xBag S b) : XM l yX4_isMisrouted cX4_isMisrouted 2 (some FieldType.boolean) rmX4_isMisrouted D k (hw k a S ++ ((x, .inr (4, [.ref (a 0), .ref (tr 0)])) :: R)) [.ref x, .int b] "java/lang/IndexOutOfBoundsException" := by
  refine XM_of rfl (Nat.le_of_ble_eq_true rfl) ?_
  intro p e s m below meth c hC hlk hnt hE hP hX hZ ls hl
  have hC : CallFix p m c cX4_isMisrouted 2 s _ lw_all RX4 := hC
  have hx := hC.1
  have hb := hC.2.1
  have hown : s.vm.findClass RX4 = some m.cls := hC.2.2.2.1
  have hts := hC.2.2.2.2
  have hl : lv_has ls 2 [(0, .ref x), (1, .int b)] := hl
  refine lv_aload_n hx hb dX4_isMisrouted_0 rfl (lv_at hl 0 rfl) ?_
  refine lv_iload_n hx hb dX4_isMisrouted_1 rfl (lv_at hl 1 rfl) ?_
  refine c_xV (rest := []) (E := "java/lang/IndexOutOfBoundsException") hC hE hP hX hZ (xmtX4_needBag l S b hfl hbad) gc_RX4_95 hd_X4_needBag ⟨Nat.le_of_ble_eq_true rfl, Nat.le_of_ble_eq_true rfl⟩ 29 xo_29 rfl rfl hl.1 (Nat.le_of_ble_eq_true rfl) ⟨Nat.le_of_ble_eq_true rfl, Nat.le_of_ble_eq_true rfl⟩ dX4_isMisrouted_2 (fun ce q9 H1 h1 h2 h3 hP1 hz1 hk1 => ?_)
  exact x_out hnt hlk h1 h2 h3 hP1 hz1 hk1

set_option maxHeartbeats 4000000 in
set_option maxRecDepth 100000 in
theorem xmtX4_hasOpenFile_0 (l : Launch) {D : va_G} {k : Nat → ClassId} {a tr : Nat → Nat} {x : Nat} {R : va_W} (S : HS) (b : Int32) (hfl : l.stackTraces = false) (hbad : ¬ xBag S b) : XM l yX4_hasOpenFile cX4_hasOpenFile 2 (some FieldType.boolean) rmX4_hasOpenFile D k (hw k a S ++ ((x, .inr (4, [.ref (a 0), .ref (tr 0)])) :: R)) [.ref x, .int b] "java/lang/IndexOutOfBoundsException" := by
  refine XM_of rfl (Nat.le_of_ble_eq_true rfl) ?_
  intro p e s m below meth c hC hlk hnt hE hP hX hZ ls hl
  have hC : CallFix p m c cX4_hasOpenFile 2 s _ lw_all RX4 := hC
  have hx := hC.1
  have hb := hC.2.1
  have hown : s.vm.findClass RX4 = some m.cls := hC.2.2.2.1
  have hts := hC.2.2.2.2
  have hl : lv_has ls 2 [(0, .ref x), (1, .int b)] := hl
  refine lv_aload_n hx hb dX4_hasOpenFile_0 rfl (lv_at hl 0 rfl) ?_
  refine lv_iload_n hx hb dX4_hasOpenFile_1 rfl (lv_at hl 1 rfl) ?_
  refine c_xV (rest := []) (E := "java/lang/IndexOutOfBoundsException") hC hE hP hX hZ (xmtX4_needBag l S b hfl hbad) gc_RX4_95 hd_X4_needBag ⟨Nat.le_of_ble_eq_true rfl, Nat.le_of_ble_eq_true rfl⟩ 29 xo_29 rfl rfl hl.1 (Nat.le_of_ble_eq_true rfl) ⟨Nat.le_of_ble_eq_true rfl, Nat.le_of_ble_eq_true rfl⟩ dX4_hasOpenFile_2 (fun ce q9 H1 h1 h2 h3 hP1 hz1 hk1 => ?_)
  exact x_out hnt hlk h1 h2 h3 hP1 hz1 hk1

set_option maxHeartbeats 4000000 in
set_option maxRecDepth 100000 in
theorem xmtX4_bagAt_0 (l : Launch) {D : va_G} {k : Nat → ClassId} {a tr : Nat → Nat} {x : Nat} {R : va_W} (S : HS) (q : Int32) (hfl : l.stackTraces = false) (hbad : ¬ ((¬ (q < 0)) ∧ q < 12)) : XM l yX4_bagAt cX4_bagAt 2 (some FieldType.int) rmX4_bagAt D k (hw k a S ++ ((x, .inr (4, [.ref (a 0), .ref (tr 0)])) :: R)) [.ref x, .int q] "java/lang/IndexOutOfBoundsException" := by
  refine XM_of rfl (Nat.le_of_ble_eq_true rfl) ?_
  intro p e s m below meth c hC hlk hnt hE hP hX hZ ls hl
  have hC : CallFix p m c cX4_bagAt 2 s _ lw_all RX4 := hC
  have hx := hC.1
  have hb := hC.2.1
  have hown : s.vm.findClass RX4 = some m.cls := hC.2.2.2.1
  have hts := hC.2.2.2.2
  have hl : lv_has ls 2 [(0, .ref x), (1, .int q)] := hl
  refine lv_iload_n hx hb dX4_bagAt_0 rfl (lv_at hl 1 rfl) ?_
  refine lv_if_lt (tgt := 10) hx hb dX4_bagAt_1 (by decide) (fun c_1 => ?_) (fun c_1 => ?_)
  · exact x_IOB (tx := "there is no such place") hC hlk hnt hfl hP hX hZ hl.1 (by decide +kernel) dX4_bagAt_10 dX4_bagAt_13 dX4_bagAt_14 dX4_bagAt_16 dX4_bagAt_19 (Nat.le_of_ble_eq_true rfl) (Nat.le_of_ble_eq_true rfl) ⟨Nat.le_of_ble_eq_true rfl, Nat.le_of_ble_eq_true rfl⟩
  · refine lv_iload_n hx hb dX4_bagAt_4 rfl (lv_at hl 1 rfl) ?_
    refine lv_bipush (v := 12) hx hb dX4_bagAt_5 (by decide) ?_
    refine lv_icmp_lt (tgt := 20) hx hb dX4_bagAt_7 (by decide) (fun c_2 => ?_) (fun c_2 => ?_)
    · exact absurd (show ((¬ (q < 0)) ∧ q < 12) from ⟨c_1, c_2⟩) hbad
    · exact x_IOB (tx := "there is no such place") hC hlk hnt hfl hP hX hZ hl.1 (by decide +kernel) dX4_bagAt_10 dX4_bagAt_13 dX4_bagAt_14 dX4_bagAt_16 dX4_bagAt_19 (Nat.le_of_ble_eq_true rfl) (Nat.le_of_ble_eq_true rfl) ⟨Nat.le_of_ble_eq_true rfl, Nat.le_of_ble_eq_true rfl⟩

set_option maxHeartbeats 4000000 in
set_option maxRecDepth 100000 in
theorem xmtX4_bagsIn_0 (l : Launch) {D : va_G} {k : Nat → ClassId} {a tr : Nat → Nat} {x : Nat} {R : va_W} (S : HS) (ch : Int32) (hfl : l.stackTraces = false) (hbad : ¬ xCh ch) : XM l yX4_bagsIn cX4_bagsIn 2 (some FieldType.int) rmX4_bagsIn D k (hw k a S ++ ((x, .inr (4, [.ref (a 0), .ref (tr 0)])) :: R)) [.ref x, .int ch] "java/lang/IndexOutOfBoundsException" := by
  refine XM_of rfl (Nat.le_of_ble_eq_true rfl) ?_
  intro p e s m below meth c hC hlk hnt hE hP hX hZ ls hl
  have hC : CallFix p m c cX4_bagsIn 2 s _ lw_all RX4 := hC
  have hx := hC.1
  have hb := hC.2.1
  have hown : s.vm.findClass RX4 = some m.cls := hC.2.2.2.1
  have hts := hC.2.2.2.2
  have hl : lv_has ls 2 [(0, .ref x), (1, .int ch)] := hl
  refine lv_iload_n hx hb dX4_bagsIn_0 rfl (lv_at hl 1 rfl) ?_
  refine c_xS (rest := []) (E := "java/lang/IndexOutOfBoundsException") hC hE hP hX hZ (xmtX4_needChute l ch hfl hbad) gc_RX4_44 hd_X4_needChute ⟨Nat.le_of_ble_eq_true rfl, Nat.le_of_ble_eq_true rfl⟩ rfl hl.1 (Nat.le_of_ble_eq_true rfl) ⟨Nat.le_of_ble_eq_true rfl, Nat.le_of_ble_eq_true rfl⟩ dX4_bagsIn_1 (fun ce q9 H1 h1 h2 h3 hP1 hz1 hk1 => ?_)
  exact x_out hnt hlk h1 h2 h3 hP1 hz1 hk1

set_option maxHeartbeats 4000000 in
set_option maxRecDepth 100000 in
theorem xmtX4_misroutedIn_0 (l : Launch) {D : va_G} {k : Nat → ClassId} {a tr : Nat → Nat} {x : Nat} {R : va_W} (S : HS) (ch : Int32) (hfl : l.stackTraces = false) (hbad : ¬ xCh ch) : XM l yX4_misroutedIn cX4_misroutedIn 2 (some FieldType.int) rmX4_misroutedIn D k (hw k a S ++ ((x, .inr (4, [.ref (a 0), .ref (tr 0)])) :: R)) [.ref x, .int ch] "java/lang/IndexOutOfBoundsException" := by
  refine XM_of rfl (Nat.le_of_ble_eq_true rfl) ?_
  intro p e s m below meth c hC hlk hnt hE hP hX hZ ls hl
  have hC : CallFix p m c cX4_misroutedIn 2 s _ lw_all RX4 := hC
  have hx := hC.1
  have hb := hC.2.1
  have hown : s.vm.findClass RX4 = some m.cls := hC.2.2.2.1
  have hts := hC.2.2.2.2
  have hl : lv_has ls 2 [(0, .ref x), (1, .int ch)] := hl
  refine lv_iload_n hx hb dX4_misroutedIn_0 rfl (lv_at hl 1 rfl) ?_
  refine c_xS (rest := []) (E := "java/lang/IndexOutOfBoundsException") hC hE hP hX hZ (xmtX4_needChute l ch hfl hbad) gc_RX4_44 hd_X4_needChute ⟨Nat.le_of_ble_eq_true rfl, Nat.le_of_ble_eq_true rfl⟩ rfl hl.1 (Nat.le_of_ble_eq_true rfl) ⟨Nat.le_of_ble_eq_true rfl, Nat.le_of_ble_eq_true rfl⟩ dX4_misroutedIn_1 (fun ce q9 H1 h1 h2 h3 hP1 hz1 hk1 => ?_)
  exact x_out hnt hlk h1 h2 h3 hP1 hz1 hk1

set_option maxHeartbeats 4000000 in
set_option maxRecDepth 100000 in
theorem xmtX4_roomOf_0 (l : Launch) {D : va_G} {k : Nat → ClassId} {a tr : Nat → Nat} {x : Nat} {R : va_W} (S : HS) (ch : Int32) (hfl : l.stackTraces = false) (hbad : ¬ xCh ch) : XM l yX4_roomOf cX4_roomOf 2 (some FieldType.int) rmX4_roomOf D k (hw k a S ++ ((x, .inr (4, [.ref (a 0), .ref (tr 0)])) :: R)) [.ref x, .int ch] "java/lang/IndexOutOfBoundsException" := by
  refine XM_of rfl (Nat.le_of_ble_eq_true rfl) ?_
  intro p e s m below meth c hC hlk hnt hE hP hX hZ ls hl
  have hC : CallFix p m c cX4_roomOf 2 s _ lw_all RX4 := hC
  have hx := hC.1
  have hb := hC.2.1
  have hown : s.vm.findClass RX4 = some m.cls := hC.2.2.2.1
  have hts := hC.2.2.2.2
  have hl : lv_has ls 2 [(0, .ref x), (1, .int ch)] := hl
  refine lv_iload_n hx hb dX4_roomOf_0 rfl (lv_at hl 1 rfl) ?_
  refine c_xS (rest := []) (E := "java/lang/IndexOutOfBoundsException") hC hE hP hX hZ (xmtX4_needChute l ch hfl hbad) gc_RX4_44 hd_X4_needChute ⟨Nat.le_of_ble_eq_true rfl, Nat.le_of_ble_eq_true rfl⟩ rfl hl.1 (Nat.le_of_ble_eq_true rfl) ⟨Nat.le_of_ble_eq_true rfl, Nat.le_of_ble_eq_true rfl⟩ dX4_roomOf_1 (fun ce q9 H1 h1 h2 h3 hP1 hz1 hk1 => ?_)
  exact x_out hnt hlk h1 h2 h3 hP1 hz1 hk1

set_option maxHeartbeats 4000000 in
set_option maxRecDepth 100000 in
theorem xmtX4_chuteOfFlight_0 (l : Launch) {D : va_G} {k : Nat → ClassId} {a tr : Nat → Nat} {x : Nat} {R : va_W} (S : HS) (f : Int32) (hfl : l.stackTraces = false) (hbad : ¬ xFlt S f) : XM l yX4_chuteOfFlight cX4_chuteOfFlight 2 (some FieldType.int) rmX4_chuteOfFlight D k (hw k a S ++ ((x, .inr (4, [.ref (a 0), .ref (tr 0)])) :: R)) [.ref x, .int f] "java/lang/IndexOutOfBoundsException" := by
  refine XM_of rfl (Nat.le_of_ble_eq_true rfl) ?_
  intro p e s m below meth c hC hlk hnt hE hP hX hZ ls hl
  have hC : CallFix p m c cX4_chuteOfFlight 2 s _ lw_all RX4 := hC
  have hx := hC.1
  have hb := hC.2.1
  have hown : s.vm.findClass RX4 = some m.cls := hC.2.2.2.1
  have hts := hC.2.2.2.2
  have hl : lv_has ls 2 [(0, .ref x), (1, .int f)] := hl
  refine lv_aload_n hx hb dX4_chuteOfFlight_0 rfl (lv_at hl 0 rfl) ?_
  refine lv_iload_n hx hb dX4_chuteOfFlight_1 rfl (lv_at hl 1 rfl) ?_
  refine c_xV (rest := []) (E := "java/lang/IndexOutOfBoundsException") hC hE hP hX hZ (xmtX4_needFlight l S f hfl hbad) gc_RX4_40 hd_X4_needFlight ⟨Nat.le_of_ble_eq_true rfl, Nat.le_of_ble_eq_true rfl⟩ 29 xo_29 rfl rfl hl.1 (Nat.le_of_ble_eq_true rfl) ⟨Nat.le_of_ble_eq_true rfl, Nat.le_of_ble_eq_true rfl⟩ dX4_chuteOfFlight_2 (fun ce q9 H1 h1 h2 h3 hP1 hz1 hk1 => ?_)
  exact x_out hnt hlk h1 h2 h3 hP1 hz1 hk1

set_option maxHeartbeats 4000000 in
set_option maxRecDepth 100000 in
theorem xmtX4_isGone_0 (l : Launch) {D : va_G} {k : Nat → ClassId} {a tr : Nat → Nat} {x : Nat} {R : va_W} (S : HS) (f : Int32) (hfl : l.stackTraces = false) (hbad : ¬ xFlt S f) : XM l yX4_isGone cX4_isGone 2 (some FieldType.boolean) rmX4_isGone D k (hw k a S ++ ((x, .inr (4, [.ref (a 0), .ref (tr 0)])) :: R)) [.ref x, .int f] "java/lang/IndexOutOfBoundsException" := by
  refine XM_of rfl (Nat.le_of_ble_eq_true rfl) ?_
  intro p e s m below meth c hC hlk hnt hE hP hX hZ ls hl
  have hC : CallFix p m c cX4_isGone 2 s _ lw_all RX4 := hC
  have hx := hC.1
  have hb := hC.2.1
  have hown : s.vm.findClass RX4 = some m.cls := hC.2.2.2.1
  have hts := hC.2.2.2.2
  have hl : lv_has ls 2 [(0, .ref x), (1, .int f)] := hl
  refine lv_aload_n hx hb dX4_isGone_0 rfl (lv_at hl 0 rfl) ?_
  refine lv_iload_n hx hb dX4_isGone_1 rfl (lv_at hl 1 rfl) ?_
  refine c_xV (rest := []) (E := "java/lang/IndexOutOfBoundsException") hC hE hP hX hZ (xmtX4_needFlight l S f hfl hbad) gc_RX4_40 hd_X4_needFlight ⟨Nat.le_of_ble_eq_true rfl, Nat.le_of_ble_eq_true rfl⟩ 29 xo_29 rfl rfl hl.1 (Nat.le_of_ble_eq_true rfl) ⟨Nat.le_of_ble_eq_true rfl, Nat.le_of_ble_eq_true rfl⟩ dX4_isGone_2 (fun ce q9 H1 h1 h2 h3 hP1 hz1 hk1 => ?_)
  exact x_out hnt hlk h1 h2 h3 hP1 hz1 hk1

set_option maxHeartbeats 4000000 in
set_option maxRecDepth 100000 in
theorem xmtX4_readyOf_0 (l : Launch) {D : va_G} {k : Nat → ClassId} {a tr : Nat → Nat} {x : Nat} {R : va_W} (S : HS) (f : Int32) (hfl : l.stackTraces = false) (hbad : ¬ xFlt S f) : XM l yX4_readyOf cX4_readyOf 2 (some FieldType.int) rmX4_readyOf D k (hw k a S ++ ((x, .inr (4, [.ref (a 0), .ref (tr 0)])) :: R)) [.ref x, .int f] "java/lang/IndexOutOfBoundsException" := by
  refine XM_of rfl (Nat.le_of_ble_eq_true rfl) ?_
  intro p e s m below meth c hC hlk hnt hE hP hX hZ ls hl
  have hC : CallFix p m c cX4_readyOf 2 s _ lw_all RX4 := hC
  have hx := hC.1
  have hb := hC.2.1
  have hown : s.vm.findClass RX4 = some m.cls := hC.2.2.2.1
  have hts := hC.2.2.2.2
  have hl : lv_has ls 2 [(0, .ref x), (1, .int f)] := hl
  refine lv_aload_n hx hb dX4_readyOf_0 rfl (lv_at hl 0 rfl) ?_
  refine lv_iload_n hx hb dX4_readyOf_1 rfl (lv_at hl 1 rfl) ?_
  refine c_xV (rest := []) (E := "java/lang/IndexOutOfBoundsException") hC hE hP hX hZ (xmtX4_needFlight l S f hfl hbad) gc_RX4_40 hd_X4_needFlight ⟨Nat.le_of_ble_eq_true rfl, Nat.le_of_ble_eq_true rfl⟩ 29 xo_29 rfl rfl hl.1 (Nat.le_of_ble_eq_true rfl) ⟨Nat.le_of_ble_eq_true rfl, Nat.le_of_ble_eq_true rfl⟩ dX4_readyOf_2 (fun ce q9 H1 h1 h2 h3 hP1 hz1 hk1 => ?_)
  exact x_out hnt hlk h1 h2 h3 hP1 hz1 hk1

set_option maxHeartbeats 4000000 in
set_option maxRecDepth 100000 in
theorem xmtX4_missingOf_0 (l : Launch) {D : va_G} {k : Nat → ClassId} {a tr : Nat → Nat} {x : Nat} {R : va_W} (S : HS) (f : Int32) (hfl : l.stackTraces = false) (hbad : ¬ xFlt S f) : XM l yX4_missingOf cX4_missingOf 2 (some FieldType.int) rmX4_missingOf D k (hw k a S ++ ((x, .inr (4, [.ref (a 0), .ref (tr 0)])) :: R)) [.ref x, .int f] "java/lang/IndexOutOfBoundsException" := by
  refine XM_of rfl (Nat.le_of_ble_eq_true rfl) ?_
  intro p e s m below meth c hC hlk hnt hE hP hX hZ ls hl
  have hC : CallFix p m c cX4_missingOf 2 s _ lw_all RX4 := hC
  have hx := hC.1
  have hb := hC.2.1
  have hown : s.vm.findClass RX4 = some m.cls := hC.2.2.2.1
  have hts := hC.2.2.2.2
  have hl : lv_has ls 2 [(0, .ref x), (1, .int f)] := hl
  refine lv_aload_n hx hb dX4_missingOf_0 rfl (lv_at hl 0 rfl) ?_
  refine lv_iload_n hx hb dX4_missingOf_1 rfl (lv_at hl 1 rfl) ?_
  refine c_xV (rest := []) (E := "java/lang/IndexOutOfBoundsException") hC hE hP hX hZ (xmtX4_needFlight l S f hfl hbad) gc_RX4_40 hd_X4_needFlight ⟨Nat.le_of_ble_eq_true rfl, Nat.le_of_ble_eq_true rfl⟩ 29 xo_29 rfl rfl hl.1 (Nat.le_of_ble_eq_true rfl) ⟨Nat.le_of_ble_eq_true rfl, Nat.le_of_ble_eq_true rfl⟩ dX4_missingOf_2 (fun ce q9 H1 h1 h2 h3 hP1 hz1 hk1 => ?_)
  exact x_out hnt hlk h1 h2 h3 hP1 hz1 hk1

