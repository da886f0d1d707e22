set_option maxHeartbeats 4000000 in
set_option maxRecDepth 100000 in
/-- a new flight -/
theorem metX1_addOne (l : Launch) {D : va_G} {k : Nat → ClassId} {a : Nat → Nat} {R : va_W} (S : HS) : MM l yX1_addOne cX1_addOne 2 (some FieldType.int) rmX1_addOne D k (hw k a S ++ R) [.ref (a 1)] (some (.int (S 0 3))) (hw k a (xAddFl S) ++ R) := by
  refine MM_of rfl (Nat.le_of_ble_eq_true rfl) ?_
  intro p e s m below meth c hC hr hlk hin hE hP hD hS ls hl
  have hC : CallFix p m c cX1_addOne 2 s _ lw_all RX1 := hC
  have hx := hC.1
  have hb := hC.2.1
  have hown : s.vm.findClass RX1 = some m.cls := hC.2.2.2.1
  have hts := hC.2.2.2.2
  have hl : lv_has ls 2 [(0, .ref (a 1))] := hl
  refine lv_aload_n hx hb dX1_addOne_0 rfl (lv_at hl 0 rfl) ?_
  refine va_get (D := D) (ci := 1) (v := .int (S 0 3)) (C := RX1) (T := TX1) (N := 3) hx hb hts tu_1 hown hE.1 hP 1 hw_1 rfl 0 (by decide) (hts _ tw_50) (fun _ h9 => h9) rfl dX1_addOne_1 ?_
  refine lv_istore_n (lv' := [(1, .int (S 0 3)), (0, .ref (a 1))]) hx hb dX1_addOne_4 rfl hl (by decide) rfl (fun ls hl => ?_)
  refine lv_aload_n hx hb dX1_addOne_5 rfl (lv_at hl 1 rfl) ?_
  refine lv_dup hx hb dX1_addOne_6 rfl ?_
  refine va_get (D := D) (ci := 1) (v := .int (S 0 3)) (C := RX1) (T := TX1) (N := 3) hx hb hts tu_1 hown hE.1 hP 1 hw_1 rfl 0 (by decide) (hts _ tw_50) (fun _ h9 => h9) rfl dX1_addOne_7 ?_
  refine lv_iconst (v := 1) hx hb dX1_addOne_10 (by decide) ?_
  refine lv_iadd hx hb dX1_addOne_11 ?_
  refine va_put (D := D) (ci := 1) (v := .int ((S 0 3) + 1)) (ty := .int) (C := RX1) (T := TX1) (N := 3) hx hb hts tu_1 tyX1 tyX1_ok nmX1 hown hE.1 hP hD hS 1 hw_1 rfl 0 (by decide) (hts _ tw_50) (fun _ h9 => h9) rfl (by decide +kernel) rfl rfl (Nat.le_of_ble_eq_true rfl) dX1_addOne_12 (fun H locs hP hD hS => ?_)
  rw [hwp_03 (S := S) (v := ((S 0 3) + 1)) (f := (upd (S 0) 3 ((S 0 3) + 1))) rfl] at hP hD
  refine lv_iload_n hx hb dX1_addOne_15 rfl (lv_at hl 0 rfl) ?_
  exact m_iret hx hb hr hlk dX1_addOne_16 hP hS (rfl)

set_option maxHeartbeats 4000000 in
set_option maxRecDepth 100000 in
/-- whether it is gone -/
theorem metX1_hasLeft (l : Launch) {D : va_G} {k : Nat → ClassId} {a : Nat → Nat} {R : va_W} (S : HS) (f : Int32) : PM l yX1_hasLeft cX1_hasLeft 2 (some FieldType.boolean) rmX1_hasLeft D k (hw k a S ++ R) [.ref (a 1), .int f] (some (.int (bI (xGone S f)))) := by
  refine PM_of rfl (Nat.le_of_ble_eq_true rfl) ?_
  intro p e s m below meth c hC hr hlk hin hE hP ls hl
  have hC : CallFix p m c cX1_hasLeft 2 s _ lw_all RX1 := hC
  have hx := hC.1
  have hb := hC.2.1
  have hown : s.vm.findClass RX1 = some m.cls := hC.2.2.2.1
  have hts := hC.2.2.2.2
  have hl : lv_has ls 2 [(0, .ref (a 1)), (1, .int f)] := hl
  refine lv_aload_n hx hb dX1_hasLeft_0 rfl (lv_at hl 0 rfl) ?_
  refine va_get (D := D) (ci := 1) (v := .ref (a 7)) (C := RX1) (T := TX1) (N := 3) hx hb hts tu_1 hown hE.1 hP 1 hw_1 rfl 2 (by decide) (hts _ tw_55) (fun _ h9 => h9) rfl dX1_hasLeft_1 ?_
  refine lv_iload_n hx hb dX1_hasLeft_4 rfl (lv_at hl 1 rfl) ?_
  refine c_pVi (rest := []) hC hE hP (metX3_at l hw_7 hw_20 (by decide) f) gc_RX1_27 hd_X3_at ⟨rfl, rfl⟩ ⟨Nat.le_of_ble_eq_true rfl, Nat.le_of_ble_eq_true rfl⟩ 7 hw_7 rfl rfl hl.1 (Nat.le_of_ble_eq_true rfl) ⟨Nat.le_of_ble_eq_true rfl, Nat.le_of_ble_eq_true rfl⟩ dX1_hasLeft_5 ?_
  refine lv_iconst (v := 1) hx hb dX1_hasLeft_8 (by decide) ?_
  refine lv_icmp_ne (tgt := 16) hx hb dX1_hasLeft_9 (by decide) (fun c_1 => ?_) (fun c_1 => ?_)
  · refine lv_iconst (v := 0) hx hb dX1_hasLeft_16 (by decide) ?_
    exact p_zret hx hb hr rfl hlk dX1_hasLeft_17 (by rw [bI_f (show ¬ (xGone S f) from c_1)]; first | done | rfl)
  · refine lv_iconst (v := 1) hx hb dX1_hasLeft_12 (by decide) ?_
    refine lv_goto (tgt := 17) hx hb dX1_hasLeft_13 (by decide) ?_
    exact p_zret hx hb hr rfl hlk dX1_hasLeft_17 (by rw [bI_t (show xGone S f from c_1)]; first | done | rfl)

set_option maxHeartbeats 4000000 in
set_option maxRecDepth 100000 in
/-- a new bag -/
theorem metX0_addOne (l : Launch) {D : va_G} {k : Nat → ClassId} {a : Nat → Nat} {R : va_W} (S : HS) (f : Int32) (z : Int32) (u : Int32) : MM l yX0_addOne cX0_addOne 5 (some FieldType.int) rmX0_addOne D k (hw k a S ++ R) [.ref (a 2), .int f, .int z, .int u] (some (.int (S 0 4))) (hw k a (xAddBg S f z u) ++ R) := by
  refine MM_of rfl (Nat.le_of_ble_eq_true rfl) ?_
  intro p e s m below meth c hC hr hlk hin hE hP hD hS ls hl
  have hC : CallFix p m c cX0_addOne 5 s _ lw_all RX0 := hC
  have hx := hC.1
  have hb := hC.2.1
  have hown : s.vm.findClass RX0 = some m.cls := hC.2.2.2.1
  have hts := hC.2.2.2.2
  have hl : lv_has ls 5 [(0, .ref (a 2)), (1, .int f), (2, .int z), (3, .int u)] := hl
  refine lv_aload_n hx hb dX0_addOne_0 rfl (lv_at hl 0 rfl) ?_
  refine va_get (D := D) (ci := 0) (v := .int (S 0 4)) (C := RX0) (T := TX0) (N := 9) hx hb hts tu_0 hown hE.1 hP 2 hw_2 rfl 0 (by decide) (hts _ tw_72) (fun _ h9 => h9) rfl dX0_addOne_1 ?_
  refine lv_istore (lv' := [(4, .int (S 0 4)), (0, .ref (a 2)), (1, .int f), (2, .int z), (3, .int u)]) hx hb dX0_addOne_4 hl (by decide) rfl (fun ls hl => ?_)
  refine lv_aload_n hx hb dX0_addOne_6 rfl (lv_at hl 1 rfl) ?_
  refine lv_dup hx hb dX0_addOne_7 rfl ?_
  refine va_get (D := D) (ci := 0) (v := .int (S 0 4)) (C := RX0) (T := TX0) (N := 9) hx hb hts tu_0 hown hE.1 hP 2 hw_2 rfl 0 (by decide) (hts _ tw_72) (fun _ h9 => h9) rfl dX0_addOne_8 ?_
  refine lv_iconst (v := 1) hx hb dX0_addOne_11 (by decide) ?_
  refine lv_iadd hx hb dX0_addOne_12 ?_
  refine va_put (D := D) (ci := 0) (v := .int ((S 0 4) + 1)) (ty := .int) (C := RX0) (T := TX0) (N := 9) hx hb hts tu_0 tyX0 tyX0_ok nmX0 hown hE.1 hP hD hS 2 hw_2 rfl 0 (by decide) (hts _ tw_72) (fun _ h9 => h9) rfl (by decide +kernel) rfl rfl (Nat.le_of_ble_eq_true rfl) dX0_addOne_13 (fun H locs hP hD hS => ?_)
  rw [hwp_04 (S := S) (v := ((S 0 4) + 1)) (f := (upd (S 0) 4 ((S 0 4) + 1))) rfl] at hP hD
  refine lv_aload_n hx hb dX0_addOne_16 rfl (lv_at hl 1 rfl) ?_
  refine va_get (D := D) (ci := 0) (v := .ref (a 8)) (C := RX0) (T := TX0) (N := 9) hx hb hts tu_0 hown hE.1 hP 2 hw_2 rfl 1 (by decide) (hts _ tw_75) (fun _ h9 => h9) rfl dX0_addOne_17 ?_
  refine lv_iload hx hb dX0_addOne_20 (lv_at hl 0 rfl) ?_
  refine lv_iload_n hx hb dX0_addOne_22 rfl (lv_at hl 2 rfl) ?_
  refine c_mVv (rest := []) hC hE hP hD hS hw_same (metX3_put l (ws' := (hw k a (sf (sf S 0 (upd (S 0) 4 ((S 0 4) + 1))) 3 (wr 40 (S 3) (S 0 4) f)) ++ R)) hw_8 hw_21 (by decide) (S 0 4) f hws_3) gc_RX0_45 hd_X3_put ⟨rfl, rfl⟩ ⟨Nat.le_of_ble_eq_true rfl, Nat.le_of_ble_eq_true rfl⟩ 8 hw_8 rfl rfl hl.1 (Nat.le_of_ble_eq_true rfl) ⟨Nat.le_of_ble_eq_true rfl, Nat.le_of_ble_eq_true rfl⟩ dX0_addOne_23 (fun H locs hP hD hS => ?_)
  refine lv_aload_n hx hb dX0_addOne_26 rfl (lv_at hl 1 rfl) ?_
  refine va_get (D := D) (ci := 0) (v := .ref (a 9)) (C := RX0) (T := TX0) (N := 9) hx hb hts tu_0 hown hE.1 hP 2 hw_2 rfl 2 (by decide) (hts _ tw_78) (fun _ h9 => h9) rfl dX0_addOne_27 ?_
  refine lv_iload hx hb dX0_addOne_30 (lv_at hl 0 rfl) ?_
  refine lv_iload_n hx hb dX0_addOne_32 rfl (lv_at hl 3 rfl) ?_
  refine c_mVv (rest := []) hC hE hP hD hS hw_same (metX3_put l (ws' := (hw k a (sf (sf (sf S 0 (upd (S 0) 4 ((S 0 4) + 1))) 3 (wr 40 (S 3) (S 0 4) f)) 4 (wr 40 (S 4) (S 0 4) z)) ++ R)) hw_9 hw_22 (by decide) (S 0 4) z hws_4) gc_RX0_45 hd_X3_put ⟨rfl, rfl⟩ ⟨Nat.le_of_ble_eq_true rfl, Nat.le_of_ble_eq_true rfl⟩ 9 hw_9 rfl rfl hl.1 (Nat.le_of_ble_eq_true rfl) ⟨Nat.le_of_ble_eq_true rfl, Nat.le_of_ble_eq_true rfl⟩ dX0_addOne_33 (fun H locs hP hD hS => ?_)
  refine lv_aload_n hx hb dX0_addOne_36 rfl (lv_at hl 1 rfl) ?_
  refine va_get (D := D) (ci := 0) (v := .ref (a 10)) (C := RX0) (T := TX0) (N := 9) hx hb hts tu_0 hown hE.1 hP 2 hw_2 rfl 3 (by decide) (hts _ tw_80) (fun _ h9 => h9) rfl dX0_addOne_37 ?_
  refine lv_iload hx hb dX0_addOne_40 (lv_at hl 0 rfl) ?_
  refine lv_iload_n hx hb dX0_addOne_42 rfl (lv_at hl 4 rfl) ?_
  refine c_mVv (rest := []) hC hE hP hD hS hw_same (metX3_put l (ws' := (hw k a (sf (sf (sf (sf S 0 (upd (S 0) 4 ((S 0 4) + 1))) 3 (wr 40 (S 3) (S 0 4) f)) 4 (wr 40 (S 4) (S 0 4) z)) 5 (wr 40 (S 5) (S 0 4) u)) ++ R)) hw_10 hw_23 (by decide) (S 0 4) u hws_5) gc_RX0_45 hd_X3_put ⟨rfl, rfl⟩ ⟨Nat.le_of_ble_eq_true rfl, Nat.le_of_ble_eq_true rfl⟩ 10 hw_10 rfl rfl hl.1 (Nat.le_of_ble_eq_true rfl) ⟨Nat.le_of_ble_eq_true rfl, Nat.le_of_ble_eq_true rfl⟩ dX0_addOne_43 (fun H locs hP hD hS => ?_)
  refine lv_iload hx hb dX0_addOne_46 (lv_at hl 0 rfl) ?_
  exact m_iret hx hb hr hlk dX0_addOne_48 hP hS (rfl)

set_option maxHeartbeats 4000000 in
set_option maxRecDepth 100000 in
/-- an open file is closed -/
theorem metX0_closeFile (l : Launch) {D : va_G} {k : Nat → ClassId} {a : Nat → Nat} {R : va_W} (S : HS) (b : Int32) : MM l yX0_closeFile cX0_closeFile 2 none rmX0_closeFile D k (hw k a S ++ R) [.ref (a 2), .int b] none (hw k a (xClose S b) ++ R) := by
  refine MM_of rfl (Nat.le_of_ble_eq_true rfl) ?_
  intro p e s m below meth c hC hr hlk hin hE hP hD hS ls hl
  have hC : CallFix p m c cX0_closeFile 2 s _ lw_all RX0 := hC
  have hx := hC.1
  have hb := hC.2.1
  have hown : s.vm.findClass RX0 = some m.cls := hC.2.2.2.1
  have hts := hC.2.2.2.2
  have hl : lv_has ls 2 [(0, .ref (a 2)), (1, .int b)] := hl
  refine lv_aload_n hx hb dX0_closeFile_0 rfl (lv_at hl 0 rfl) ?_
  refine va_get (D := D) (ci := 0) (v := .ref (a 15)) (C := RX0) (T := TX0) (N := 9) hx hb hts tu_0 hown hE.1 hP 2 hw_2 rfl 8 (by decide) (hts _ tw_94) (fun _ h9 => h9) rfl dX0_closeFile_1 ?_
  refine lv_iload_n hx hb dX0_closeFile_4 rfl (lv_at hl 1 rfl) ?_
  refine c_pVi (rest := []) hC hE hP (metX3_at l hw_15 hw_28 (by decide) b) gc_RX0_53 hd_X3_at ⟨rfl, rfl⟩ ⟨Nat.le_of_ble_eq_true rfl, Nat.le_of_ble_eq_true rfl⟩ 15 hw_15 rfl rfl hl.1 (Nat.le_of_ble_eq_true rfl) ⟨Nat.le_of_ble_eq_true rfl, Nat.le_of_ble_eq_true rfl⟩ dX0_closeFile_5 ?_
  refine lv_iconst (v := 1) hx hb dX0_closeFile_8 (by decide) ?_
  refine lv_icmp_ne (tgt := 21) hx hb dX0_closeFile_9 (by decide) (fun c_1 => ?_) (fun c_1 => ?_)
  · have e9 : xClose S b = S := by rw [xClose, sel_f (show ¬ (rd 40 (S 10) b = 1) from c_1)]; first | done | rfl
    exact m_vret hx hb hr hlk dX0_closeFile_21 (by rw [e9]; exact hP) hS
  · refine lv_aload_n hx hb dX0_closeFile_12 rfl (lv_at hl 0 rfl) ?_
    refine va_get (D := D) (ci := 0) (v := .ref (a 15)) (C := RX0) (T := TX0) (N := 9) hx hb hts tu_0 hown hE.1 hP 2 hw_2 rfl 8 (by decide) (hts _ tw_94) (fun _ h9 => h9) rfl dX0_closeFile_13 ?_
    refine lv_iload_n hx hb dX0_closeFile_16 rfl (lv_at hl 1 rfl) ?_
    refine lv_iconst (v := 2) hx hb dX0_closeFile_17 (by decide) ?_
    refine c_mVv (rest := []) hC hE hP hD hS hw_same (metX3_put l (ws' := (hw k a (sf S 10 (wr 40 (S 10) b 2)) ++ R)) hw_15 hw_28 (by decide) b 2 hws_10) gc_RX0_45 hd_X3_put ⟨rfl, rfl⟩ ⟨Nat.le_of_ble_eq_true rfl, Nat.le_of_ble_eq_true rfl⟩ 15 hw_15 rfl rfl hl.1 (Nat.le_of_ble_eq_true rfl) ⟨Nat.le_of_ble_eq_true rfl, Nat.le_of_ble_eq_true rfl⟩ dX0_closeFile_18 (fun H locs hP hD hS => ?_)
    have e9 : xClose S b = sf S 10 (wr 40 (S 10) b 2) := by rw [xClose, sel_t (show rd 40 (S 10) b = 1 from c_1)]; first | done | rfl
    exact m_vret hx hb hr hlk dX0_closeFile_21 (by rw [e9]; exact hP) hS

set_option maxHeartbeats 4000000 in
set_option maxRecDepth 100000 in
/-- another flight -/
theorem metX0_renew (l : Launch) {D : va_G} {k : Nat → ClassId} {a : Nat → Nat} {R : va_W} (S : HS) (b : Int32) (f : Int32) : MM l yX0_renew cX0_renew 3 none rmX0_renew D k (hw k a S ++ R) [.ref (a 2), .int b, .int f] none (hw k a (xRenew S b f) ++ R) := by
  refine MM_of rfl (Nat.le_of_ble_eq_true rfl) ?_
  intro p e s m below meth c hC hr hlk hin hE hP hD hS ls hl
  have hC : CallFix p m c cX0_renew 3 s _ lw_all RX0 := hC
  have hx := hC.1
  have hb := hC.2.1
  have hown : s.vm.findClass RX0 = some m.cls := hC.2.2.2.1
  have hts := hC.2.2.2.2
  have hl : lv_has ls 3 [(0, .ref (a 2)), (1, .int b), (2, .int f)] := hl
  refine lv_aload_n hx hb dX0_renew_0 rfl (lv_at hl 0 rfl) ?_
  refine va_get (D := D) (ci := 0) (v := .ref (a 8)) (C := RX0) (T := TX0) (N := 9) hx hb hts tu_0 hown hE.1 hP 2 hw_2 rfl 1 (by decide) (hts _ tw_75) (fun _ h9 => h9) rfl dX0_renew_1 ?_
  refine lv_iload_n hx hb dX0_renew_4 rfl (lv_at hl 1 rfl) ?_
  refine lv_iload_n hx hb dX0_renew_5 rfl (lv_at hl 2 rfl) ?_
  refine c_mVv (rest := []) hC hE hP hD hS hw_same (metX3_put l (ws' := (hw k a (sf S 3 (wr 40 (S 3) b f)) ++ R)) hw_8 hw_21 (by decide) b f hws_3) gc_RX0_45 hd_X3_put ⟨rfl, rfl⟩ ⟨Nat.le_of_ble_eq_true rfl, Nat.le_of_ble_eq_true rfl⟩ 8 hw_8 rfl rfl hl.1 (Nat.le_of_ble_eq_true rfl) ⟨Nat.le_of_ble_eq_true rfl, Nat.le_of_ble_eq_true rfl⟩ dX0_renew_6 (fun H locs hP hD hS => ?_)
  refine lv_aload_n hx hb dX0_renew_9 rfl (lv_at hl 0 rfl) ?_
  refine va_get (D := D) (ci := 0) (v := .ref (a 13)) (C := RX0) (T := TX0) (N := 9) hx hb hts tu_0 hown hE.1 hP 2 hw_2 rfl 6 (by decide) (hts _ tw_88) (fun _ h9 => h9) rfl dX0_renew_10 ?_
  refine lv_iload_n hx hb dX0_renew_13 rfl (lv_at hl 1 rfl) ?_
  refine lv_iconst (v := (-1)) hx hb dX0_renew_14 (by decide) ?_
  refine c_mVv (rest := []) hC hE hP hD hS hw_same (metX3_put l (ws' := (hw k a (sf (sf S 3 (wr 40 (S 3) b f)) 8 (wr 40 (S 8) b (-1))) ++ R)) hw_13 hw_26 (by decide) b (-1) hws_8) gc_RX0_45 hd_X3_put ⟨rfl, rfl⟩ ⟨Nat.le_of_ble_eq_true rfl, Nat.le_of_ble_eq_true rfl⟩ 13 hw_13 rfl rfl hl.1 (Nat.le_of_ble_eq_true rfl) ⟨Nat.le_of_ble_eq_true rfl, Nat.le_of_ble_eq_true rfl⟩ dX0_renew_15 (fun H locs hP hD hS => ?_)
  refine lv_aload_n hx hb dX0_renew_18 rfl (lv_at hl 0 rfl) ?_
  refine va_get (D := D) (ci := 0) (v := .ref (a 14)) (C := RX0) (T := TX0) (N := 9) hx hb hts tu_0 hown hE.1 hP 2 hw_2 rfl 7 (by decide) (hts _ tw_91) (fun _ h9 => h9) rfl dX0_renew_19 ?_
  refine lv_iload_n hx hb dX0_renew_22 rfl (lv_at hl 1 rfl) ?_
  refine lv_iconst (v := 0) hx hb dX0_renew_23 (by decide) ?_
  refine c_mVv (rest := []) hC hE hP hD hS hw_same (metX3_put l (ws' := (hw k a (sf (sf (sf S 3 (wr 40 (S 3) b f)) 8 (wr 40 (S 8) b (-1))) 9 (wr 40 (S 9) b 0)) ++ R)) hw_14 hw_27 (by decide) b 0 hws_9) gc_RX0_45 hd_X3_put ⟨rfl, rfl⟩ ⟨Nat.le_of_ble_eq_true rfl, Nat.le_of_ble_eq_true rfl⟩ 14 hw_14 rfl rfl hl.1 (Nat.le_of_ble_eq_true rfl) ⟨Nat.le_of_ble_eq_true rfl, Nat.le_of_ble_eq_true rfl⟩ dX0_renew_24 (fun H locs hP hD hS => ?_)
  refine lv_aload_n hx hb dX0_renew_27 rfl (lv_at hl 0 rfl) ?_
  refine lv_iload_n hx hb dX0_renew_28 rfl (lv_at hl 1 rfl) ?_
  refine c_mVv (rest := []) hC hE hP hD hS hw_same (metX0_closeFile l (sf (sf (sf S 3 (wr 40 (S 3) b f)) 8 (wr 40 (S 8) b (-1))) 9 (wr 40 (S 9) b 0)) b) gc_RX0_49 hd_X0_closeFile ⟨rfl, rfl⟩ ⟨Nat.le_of_ble_eq_true rfl, Nat.le_of_ble_eq_true rfl⟩ 2 hw_2 rfl rfl hl.1 (Nat.le_of_ble_eq_true rfl) ⟨Nat.le_of_ble_eq_true rfl, Nat.le_of_ble_eq_true rfl⟩ dX0_renew_29 (fun H locs hP hD hS => ?_)
  exact m_vret hx hb hr hlk dX0_renew_32 hP hS

set_option maxHeartbeats 4000000 in
set_option maxRecDepth 100000 in
/-- into a chute -/
theorem metX0_putIntoChute (l : Launch) {D : va_G} {k : Nat → ClassId} {a : Nat → Nat} {R : va_W} (S : HS) (b : Int32) (ch : Int32) : MM l yX0_putIntoChute cX0_putIntoChute 3 none rmX0_putIntoChute D k (hw k a S ++ R) [.ref (a 2), .int b, .int ch] none (hw k a (xPut S b ch) ++ R) := by
  refine MM_of rfl (Nat.le_of_ble_eq_true rfl) ?_
  intro p e s m below meth c hC hr hlk hin hE hP hD hS ls hl
  have hC : CallFix p m c cX0_putIntoChute 3 s _ lw_all RX0 := hC
  have hx := hC.1
  have hb := hC.2.1
  have hown : s.vm.findClass RX0 = some m.cls := hC.2.2.2.1
  have hts := hC.2.2.2.2
  have hl : lv_has ls 3 [(0, .ref (a 2)), (1, .int b), (2, .int ch)] := hl
  refine lv_aload_n hx hb dX0_putIntoChute_0 rfl (lv_at hl 0 rfl) ?_
  refine va_get (D := D) (ci := 0) (v := .ref (a 11)) (C := RX0) (T := TX0) (N := 9) hx hb hts tu_0 hown hE.1 hP 2 hw_2 rfl 4 (by decide) (hts _ tw_82) (fun _ h9 => h9) rfl dX0_putIntoChute_1 ?_
  refine lv_iload_n hx hb dX0_putIntoChute_4 rfl (lv_at hl 1 rfl) ?_
  refine lv_iconst (v := 2) hx hb dX0_putIntoChute_5 (by decide) ?_
  refine c_mVv (rest := []) hC hE hP hD hS hw_same (metX3_put l (ws' := (hw k a (sf S 6 (wr 40 (S 6) b 2)) ++ R)) hw_11 hw_24 (by decide) b 2 hws_6) gc_RX0_45 hd_X3_put ⟨rfl, rfl⟩ ⟨Nat.le_of_ble_eq_true rfl, Nat.le_of_ble_eq_true rfl⟩ 11 hw_11 rfl rfl hl.1 (Nat.le_of_ble_eq_true rfl) ⟨Nat.le_of_ble_eq_true rfl, Nat.le_of_ble_eq_true rfl⟩ dX0_putIntoChute_6 (fun H locs hP hD hS => ?_)
  refine lv_aload_n hx hb dX0_putIntoChute_9 rfl (lv_at hl 0 rfl) ?_
  refine va_get (D := D) (ci := 0) (v := .ref (a 12)) (C := RX0) (T := TX0) (N := 9) hx hb hts tu_0 hown hE.1 hP 2 hw_2 rfl 5 (by decide) (hts _ tw_85) (fun _ h9 => h9) rfl dX0_putIntoChute_10 ?_
  refine lv_iload_n hx hb dX0_putIntoChute_13 rfl (lv_at hl 1 rfl) ?_
  refine lv_iload_n hx hb dX0_putIntoChute_14 rfl (lv_at hl 2 rfl) ?_
  refine c_mVv (rest := []) hC hE hP hD hS hw_same (metX3_put l (ws' := (hw k a (sf (sf S 6 (wr 40 (S 6) b 2)) 7 (wr 40 (S 7) b ch)) ++ R)) hw_12 hw_25 (by decide) b ch hws_7) gc_RX0_45 hd_X3_put ⟨rfl, rfl⟩ ⟨Nat.le_of_ble_eq_true rfl, Nat.le_of_ble_eq_true rfl⟩ 12 hw_12 rfl rfl hl.1 (Nat.le_of_ble_eq_true rfl) ⟨Nat.le_of_ble_eq_true rfl, Nat.le_of_ble_eq_true rfl⟩ dX0_putIntoChute_15 (fun H locs hP hD hS => ?_)
  exact m_vret hx hb hr hlk dX0_putIntoChute_18 hP hS

set_option maxHeartbeats 4000000 in
set_option maxRecDepth 100000 in
/-- out of a chute -/
theorem metX0_takeFromChute (l : Launch) {D : va_G} {k : Nat → ClassId} {a : Nat → Nat} {R : va_W} (S : HS) (b : Int32) (w : Int32) : MM l yX0_takeFromChute cX0_takeFromChute 3 none rmX0_takeFromChute D k (hw k a S ++ R) [.ref (a 2), .int b, .int w] none (hw k a (xOff S b w) ++ R) := by
  refine MM_of rfl (Nat.le_of_ble_eq_true rfl) ?_
  intro p e s m below meth c hC hr hlk hin hE hP hD hS ls hl
  have hC : CallFix p m c cX0_takeFromChute 3 s _ lw_all RX0 := hC
  have hx := hC.1
  have hb := hC.2.1
  have hown : s.vm.findClass RX0 = some m.cls := hC.2.2.2.1
  have hts := hC.2.2.2.2
  have hl : lv_has ls 3 [(0, .ref (a 2)), (1, .int b), (2, .int w)] := hl
  refine lv_aload_n hx hb dX0_takeFromChute_0 rfl (lv_at hl 0 rfl) ?_
  refine va_get (D := D) (ci := 0) (v := .ref (a 11)) (C := RX0) (T := TX0) (N := 9) hx hb hts tu_0 hown hE.1 hP 2 hw_2 rfl 4 (by decide) (hts _ tw_82) (fun _ h9 => h9) rfl dX0_takeFromChute_1 ?_
  refine lv_iload_n hx hb dX0_takeFromChute_4 rfl (lv_at hl 1 rfl) ?_
  refine lv_iload_n hx hb dX0_takeFromChute_5 rfl (lv_at hl 2 rfl) ?_
  refine c_mVv (rest := []) hC hE hP hD hS hw_same (metX3_put l (ws' := (hw k a (sf S 6 (wr 40 (S 6) b w)) ++ R)) hw_11 hw_24 (by decide) b w hws_6) gc_RX0_45 hd_X3_put ⟨rfl, rfl⟩ ⟨Nat.le_of_ble_eq_true rfl, Nat.le_of_ble_eq_true rfl⟩ 11 hw_11 rfl rfl hl.1 (Nat.le_of_ble_eq_true rfl) ⟨Nat.le_of_ble_eq_true rfl, Nat.le_of_ble_eq_true rfl⟩ dX0_takeFromChute_6 (fun H locs hP hD hS => ?_)
  refine lv_aload_n hx hb dX0_takeFromChute_9 rfl (lv_at hl 0 rfl) ?_
  refine va_get (D := D) (ci := 0) (v := .ref (a 12)) (C := RX0) (T := TX0) (N := 9) hx hb hts tu_0 hown hE.1 hP 2 hw_2 rfl 5 (by decide) (hts _ tw_85) (fun _ h9 => h9) rfl dX0_takeFromChute_10 ?_
  refine lv_iload_n hx hb dX0_takeFromChute_13 rfl (lv_at hl 1 rfl) ?_
  refine lv_iconst (v := (-1)) hx hb dX0_takeFromChute_14 (by decide) ?_
  refine c_mVv (rest := []) hC hE hP hD hS hw_same (metX3_put l (ws' := (hw k a (sf (sf S 6 (wr 40 (S 6) b w)) 7 (wr 40 (S 7) b (-1))) ++ R)) hw_12 hw_25 (by decide) b (-1) hws_7) gc_RX0_45 hd_X3_put ⟨rfl, rfl⟩ ⟨Nat.le_of_ble_eq_true rfl, Nat.le_of_ble_eq_true rfl⟩ 12 hw_12 rfl rfl hl.1 (Nat.le_of_ble_eq_true rfl) ⟨Nat.le_of_ble_eq_true rfl, Nat.le_of_ble_eq_true rfl⟩ dX0_takeFromChute_15 (fun H locs hP hD hS => ?_)
  exact m_vret hx hb hr hlk dX0_takeFromChute_18 hP hS

set_option maxHeartbeats 4000000 in
set_option maxRecDepth 100000 in
/-- a bag comes in -/
theorem metX2_takeIn (l : Launch) {D : va_G} {k : Nat → ClassId} {a : Nat → Nat} {R : va_W} (S : HS) (b : Int32) : MM l yX2_takeIn cX2_takeIn 2 none rmX2_takeIn D k (hw k a S ++ R) [.ref (a 0), .int b] none (hw k a (xTakeIn S b) ++ R) := by
  refine MM_of rfl (Nat.le_of_ble_eq_true rfl) ?_
  intro p e s m below meth c hC hr hlk hin hE hP hD hS ls hl
  have hC : CallFix p m c cX2_takeIn 2 s _ lw_all RX2 := hC
  have hx := hC.1
  have hb := hC.2.1
  have hown : s.vm.findClass RX2 = some m.cls := hC.2.2.2.1
  have hts := hC.2.2.2.2
  have hl : lv_has ls 2 [(0, .ref (a 0)), (1, .int b)] := hl
  refine lv_aload_n hx hb dX2_takeIn_0 rfl (lv_at hl 0 rfl) ?_
  refine va_get (D := D) (ci := 2) (v := .ref (a 2)) (C := RX2) (T := TX2) (N := 8) hx hb hts tu_2 hown hE.1 hP 0 hw_0 rfl 4 (by decide) (hts _ tw_126) (fun _ h9 => h9) rfl dX2_takeIn_1 ?_
  refine va_get (D := D) (ci := 0) (v := .ref (a 9)) (C := RX0) (T := TX0) (N := 9) hx hb hts tu_0 hown hE.1 hP 2 hw_2 rfl 2 (by decide) (hts _ tw_79) (fun _ h9 => h9) rfl dX2_takeIn_4 ?_
  refine lv_iload_n hx hb dX2_takeIn_7 rfl (lv_at hl 1 rfl) ?_
  refine c_pVi (rest := []) hC hE hP (metX3_at l hw_9 hw_22 (by decide) b) gc_RX2_63 hd_X3_at ⟨rfl, rfl⟩ ⟨Nat.le_of_ble_eq_true rfl, Nat.le_of_ble_eq_true rfl⟩ 9 hw_9 rfl rfl hl.1 (Nat.le_of_ble_eq_true rfl) ⟨Nat.le_of_ble_eq_true rfl, Nat.le_of_ble_eq_true rfl⟩ dX2_takeIn_8 ?_
  refine lv_bipush (v := 7) hx hb dX2_takeIn_11 (by decide) ?_
  refine lv_icmp_le (tgt := 29) hx hb dX2_takeIn_13 (by decide) (fun c_1 => ?_) (fun c_1 => ?_)
  · refine lv_aload_n hx hb dX2_takeIn_29 rfl (lv_at hl 0 rfl) ?_
    refine va_get (D := D) (ci := 2) (v := .ref (a 2)) (C := RX2) (T := TX2) (N := 8) hx hb hts tu_2 hown hE.1 hP 0 hw_0 rfl 4 (by decide) (hts _ tw_126) (fun _ h9 => h9) rfl dX2_takeIn_30 ?_
    refine va_get (D := D) (ci := 0) (v := .ref (a 11)) (C := RX0) (T := TX0) (N := 9) hx hb hts tu_0 hown hE.1 hP 2 hw_2 rfl 4 (by decide) (hts _ tw_83) (fun _ h9 => h9) rfl dX2_takeIn_33 ?_
    refine lv_iload_n hx hb dX2_takeIn_36 rfl (lv_at hl 1 rfl) ?_
    refine lv_iconst (v := 0) hx hb dX2_takeIn_37 (by decide) ?_
    refine c_mVv (rest := []) hC hE hP hD hS hw_same (metX3_put l (ws' := (hw k a (sf S 6 (wr 40 (S 6) b 0)) ++ R)) hw_11 hw_24 (by decide) b 0 hws_6) gc_RX2_70 hd_X3_put ⟨rfl, rfl⟩ ⟨Nat.le_of_ble_eq_true rfl, Nat.le_of_ble_eq_true rfl⟩ 11 hw_11 rfl rfl hl.1 (Nat.le_of_ble_eq_true rfl) ⟨Nat.le_of_ble_eq_true rfl, Nat.le_of_ble_eq_true rfl⟩ dX2_takeIn_38 (fun H locs hP hD hS => ?_)
    refine lv_aload_n hx hb dX2_takeIn_41 rfl (lv_at hl 0 rfl) ?_
    refine va_get (D := D) (ci := 2) (v := .ref (a 5)) (C := RX2) (T := TX2) (N := 8) hx hb hts tu_2 hown hE.1 hP 0 hw_0 rfl 7 (by decide) (hts _ tw_132) (fun _ h9 => h9) rfl dX2_takeIn_42 ?_
    refine lv_aload_n hx hb dX2_takeIn_45 rfl (lv_at hl 0 rfl) ?_
    refine va_get (D := D) (ci := 2) (v := .int (S 0 2)) (C := RX2) (T := TX2) (N := 8) hx hb hts tu_2 hown hE.1 hP 0 hw_0 rfl 2 (by decide) (hts _ tw_122) (fun _ h9 => h9) rfl dX2_takeIn_46 ?_
    refine lv_iload_n hx hb dX2_takeIn_49 rfl (lv_at hl 1 rfl) ?_
    refine c_mVv (rest := []) hC hE hP hD hS hw_same (metX3_put l (ws' := (hw k a (sf (sf S 6 (wr 40 (S 6) b 0)) 13 (wr 40 (S 13) (S 0 2) b)) ++ R)) hw_5 hw_18 (by decide) (S 0 2) b hws_13) gc_RX2_70 hd_X3_put ⟨rfl, rfl⟩ ⟨Nat.le_of_ble_eq_true rfl, Nat.le_of_ble_eq_true rfl⟩ 5 hw_5 rfl rfl hl.1 (Nat.le_of_ble_eq_true rfl) ⟨Nat.le_of_ble_eq_true rfl, Nat.le_of_ble_eq_true rfl⟩ dX2_takeIn_50 (fun H locs hP hD hS => ?_)
    refine lv_aload_n hx hb dX2_takeIn_53 rfl (lv_at hl 0 rfl) ?_
    refine lv_dup hx hb dX2_takeIn_54 rfl ?_
    refine va_get (D := D) (ci := 2) (v := .int (S 0 2)) (C := RX2) (T := TX2) (N := 8) hx hb hts tu_2 hown hE.1 hP 0 hw_0 rfl 2 (by decide) (hts _ tw_122) (fun _ h9 => h9) rfl dX2_takeIn_55 ?_
    refine lv_iconst (v := 1) hx hb dX2_takeIn_58 (by decide) ?_
    refine lv_iadd hx hb dX2_takeIn_59 ?_
    refine va_put (D := D) (ci := 2) (v := .int ((S 0 2) + 1)) (ty := .int) (C := RX2) (T := TX2) (N := 8) hx hb hts tu_2 tyX2 tyX2_ok nmX2 hown hE.1 hP hD hS 0 hw_0 rfl 2 (by decide) (hts _ tw_122) (fun _ h9 => h9) rfl (by decide +kernel) rfl rfl (Nat.le_of_ble_eq_true rfl) dX2_takeIn_60 (fun H locs hP hD hS => ?_)
    rw [hwp_02 (S := (sf (sf S 6 (wr 40 (S 6) b 0)) 13 (wr 40 (S 13) (S 0 2) b))) (v := ((S 0 2) + 1)) (f := (upd (S 0) 2 ((S 0 2) + 1))) rfl] at hP hD
    have e9 : xTakeIn S b = sf (sf (sf S 6 (wr 40 (S 6) b 0)) 13 (wr 40 (S 13) (S 0 2) b)) 0 (upd (S 0) 2 ((S 0 2) + 1)) := by rw [xTakeIn, sel_t (show rd 40 (S 4) b ≤ 7 from c_1)]; first | done | rfl
    exact m_vret hx hb hr hlk dX2_takeIn_63 (by rw [e9]; exact hP) hS
  · refine lv_aload_n hx hb dX2_takeIn_16 rfl (lv_at hl 0 rfl) ?_
    refine va_get (D := D) (ci := 2) (v := .ref (a 2)) (C := RX2) (T := TX2) (N := 8) hx hb hts tu_2 hown hE.1 hP 0 hw_0 rfl 4 (by decide) (hts _ tw_126) (fun _ h9 => h9) rfl dX2_takeIn_17 ?_
    refine va_get (D := D) (ci := 0) (v := .ref (a 11)) (C := RX0) (T := TX0) (N := 9) hx hb hts tu_0 hown hE.1 hP 2 hw_2 rfl 4 (by decide) (hts _ tw_83) (fun _ h9 => h9) rfl dX2_takeIn_20 ?_
    refine lv_iload_n hx hb dX2_takeIn_23 rfl (lv_at hl 1 rfl) ?_
    refine lv_iconst (v := 4) hx hb dX2_takeIn_24 (by decide) ?_
    refine c_mVv (rest := []) hC hE hP hD hS hw_same (metX3_put l (ws' := (hw k a (sf S 6 (wr 40 (S 6) b 4)) ++ R)) hw_11 hw_24 (by decide) b 4 hws_6) gc_RX2_70 hd_X3_put ⟨rfl, rfl⟩ ⟨Nat.le_of_ble_eq_true rfl, Nat.le_of_ble_eq_true rfl⟩ 11 hw_11 rfl rfl hl.1 (Nat.le_of_ble_eq_true rfl) ⟨Nat.le_of_ble_eq_true rfl, Nat.le_of_ble_eq_true rfl⟩ dX2_takeIn_25 (fun H locs hP hD hS => ?_)
    have e9 : xTakeIn S b = sf S 6 (wr 40 (S 6) b 4) := by rw [xTakeIn, sel_f (show ¬ (rd 40 (S 4) b ≤ 7) from c_1)]; first | done | rfl
    exact m_vret hx hb hr hlk dX2_takeIn_28 (by rw [e9]; exact hP) hS

set_option maxHeartbeats 4000000 in
set_option maxRecDepth 100000 in
theorem metX2_hasRoom (l : Launch) {D : va_G} {k : Nat → ClassId} {a : Nat → Nat} {R : va_W} (S : HS) (ch : Int32) : PM l yX2_hasRoom cX2_hasRoom 2 (some FieldType.boolean) rmX2_hasRoom D k (hw k a S ++ R) [.ref (a 0), .int ch] (some (.int (bI (xRoom S ch)))) := by
  refine PM_of rfl (Nat.le_of_ble_eq_true rfl) ?_
  intro p e s m below meth c hC hr hlk hin hE hP ls hl
  have hC : CallFix p m c cX2_hasRoom 2 s _ lw_all RX2 := hC
  have hx := hC.1
  have hb := hC.2.1
  have hown : s.vm.findClass RX2 = some m.cls := hC.2.2.2.1
  have hts := hC.2.2.2.2
  have hl : lv_has ls 2 [(0, .ref (a 0)), (1, .int ch)] := hl
  refine lv_aload_n hx hb dX2_hasRoom_0 rfl (lv_at hl 0 rfl) ?_
  refine va_get (D := D) (ci := 2) (v := .ref (a 2)) (C := RX2) (T := TX2) (N := 8) hx hb hts tu_2 hown hE.1 hP 0 hw_0 rfl 4 (by decide) (hts _ tw_126) (fun _ h9 => h9) rfl dX2_hasRoom_1 ?_
  refine va_get (D := D) (ci := 0) (v := .ref (a 12)) (C := RX0) (T := TX0) (N := 9) hx hb hts tu_0 hown hE.1 hP 2 hw_2 rfl 5 (by decide) (hts _ tw_86) (fun _ h9 => h9) rfl dX2_hasRoom_4 ?_
  refine lv_iload_n hx hb dX2_hasRoom_7 rfl (lv_at hl 1 rfl) ?_
  refine c_pVi (rest := []) hC hE hP (metX3_count l hw_12 hw_25 (by decide) ch) gc_RX2_141 hd_X3_count ⟨rfl, rfl⟩ ⟨Nat.le_of_ble_eq_true rfl, Nat.le_of_ble_eq_true rfl⟩ 12 hw_12 rfl rfl hl.1 (Nat.le_of_ble_eq_true rfl) ⟨Nat.le_of_ble_eq_true rfl, Nat.le_of_ble_eq_true rfl⟩ dX2_hasRoom_8 ?_
  refine lv_aload_n hx hb dX2_hasRoom_11 rfl (lv_at hl 0 rfl) ?_
  refine va_get (D := D) (ci := 2) (v := .ref (a 3)) (C := RX2) (T := TX2) (N := 8) hx hb hts tu_2 hown hE.1 hP 0 hw_0 rfl 5 (by decide) (hts _ tw_128) (fun _ h9 => h9) rfl dX2_hasRoom_12 ?_
  refine lv_iload_n hx hb dX2_hasRoom_15 rfl (lv_at hl 1 rfl) ?_
  refine c_pVi (rest := [.int (nI (ct (fun j_ => S 7 j_ = ch) 40))]) hC hE hP (metX3_at l hw_3 hw_16 (by decide) ch) gc_RX2_63 hd_X3_at ⟨rfl, rfl⟩ ⟨Nat.le_of_ble_eq_true rfl, Nat.le_of_ble_eq_true rfl⟩ 3 hw_3 rfl rfl hl.1 (Nat.le_of_ble_eq_true rfl) ⟨Nat.le_of_ble_eq_true rfl, Nat.le_of_ble_eq_true rfl⟩ dX2_hasRoom_16 ?_
  refine lv_icmp_ge (tgt := 26) hx hb dX2_hasRoom_19 (by decide) (fun c_1 => ?_) (fun c_1 => ?_)
  · refine lv_iconst (v := 0) hx hb dX2_hasRoom_26 (by decide) ?_
    exact p_zret hx hb hr rfl hlk dX2_hasRoom_27 (by rw [bI_f (show ¬ (xRoom S ch) from (Int32.not_lt.mpr c_1))]; first | done | rfl)
  · refine lv_iconst (v := 1) hx hb dX2_hasRoom_22 (by decide) ?_
    refine lv_goto (tgt := 27) hx hb dX2_hasRoom_23 (by decide) ?_
    exact p_zret hx hb hr rfl hlk dX2_hasRoom_27 (by rw [bI_t (show xRoom S ch from (Int32.not_le.mp c_1))]; first | done | rfl)

set_option maxHeartbeats 4000000 in
set_option maxRecDepth 100000 in
theorem metX2_findOnBelt (l : Launch) {D : va_G} {k : Nat → ClassId} {a : Nat → Nat} {R : va_W} (S : HS) (b : Int32) : PM l yX2_findOnBelt cX2_findOnBelt 2 (some FieldType.int) rmX2_findOnBelt D k (hw k a S ++ R) [.ref (a 0), .int b] (some (.int (fnd (S 12) b 0 12))) := by
  refine PM_of rfl (Nat.le_of_ble_eq_true rfl) ?_
  intro p e s m below meth c hC hr hlk hin hE hP ls hl
  have hC : CallFix p m c cX2_findOnBelt 2 s _ lw_all RX2 := hC
  have hx := hC.1
  have hb := hC.2.1
  have hown : s.vm.findClass RX2 = some m.cls := hC.2.2.2.1
  have hts := hC.2.2.2.2
  have hl : lv_has ls 2 [(0, .ref (a 0)), (1, .int b)] := hl
  refine lv_aload_n hx hb dX2_findOnBelt_0 rfl (lv_at hl 0 rfl) ?_
  refine va_get (D := D) (ci := 2) (v := .ref (a 4)) (C := RX2) (T := TX2) (N := 8) hx hb hts tu_2 hown hE.1 hP 0 hw_0 rfl 6 (by decide) (hts _ tw_130) (fun _ h9 => h9) rfl dX2_findOnBelt_1 ?_
  refine lv_iload_n hx hb dX2_findOnBelt_4 rfl (lv_at hl 1 rfl) ?_
  refine c_pVi (rest := []) hC hE hP (metX3_find l hw_4 hw_17 (by decide) b) gc_RX2_143 hd_X3_find ⟨rfl, rfl⟩ ⟨Nat.le_of_ble_eq_true rfl, Nat.le_of_ble_eq_true rfl⟩ 4 hw_4 rfl rfl hl.1 (Nat.le_of_ble_eq_true rfl) ⟨Nat.le_of_ble_eq_true rfl, Nat.le_of_ble_eq_true rfl⟩ dX2_findOnBelt_5 ?_
  exact p_iret hx hb hr hlk dX2_findOnBelt_8 (rfl)

set_option maxHeartbeats 4000000 in
set_option maxRecDepth 100000 in
theorem metX2_isInOwnChute (l : Launch) {D : va_G} {k : Nat → ClassId} {a : Nat → Nat} {R : va_W} (S : HS) (b : Int32) : PM l yX2_isInOwnChute cX2_isInOwnChute 2 (some FieldType.boolean) rmX2_isInOwnChute D k (hw k a S ++ R) [.ref (a 0), .int b] (some (.int (bI (xOwn S b)))) := by
  refine PM_of rfl (Nat.le_of_ble_eq_true rfl) ?_
  intro p e s m below meth c hC hr hlk hin hE hP ls hl
  have hC : CallFix p m c cX2_isInOwnChute 2 s _ lw_all RX2 := hC
  have hx := hC.1
  have hb := hC.2.1
  have hown : s.vm.findClass RX2 = some m.cls := hC.2.2.2.1
  have hts := hC.2.2.2.2
  have hl : lv_has ls 2 [(0, .ref (a 0)), (1, .int b)] := hl
  refine lv_aload_n hx hb dX2_isInOwnChute_0 rfl (lv_at hl 0 rfl) ?_
  refine va_get (D := D) (ci := 2) (v := .ref (a 2)) (C := RX2) (T := TX2) (N := 8) hx hb hts tu_2 hown hE.1 hP 0 hw_0 rfl 4 (by decide) (hts _ tw_126) (fun _ h9 => h9) rfl dX2_isInOwnChute_1 ?_
  refine va_get (D := D) (ci := 0) (v := .ref (a 11)) (C := RX0) (T := TX0) (N := 9) hx hb hts tu_0 hown hE.1 hP 2 hw_2 rfl 4 (by decide) (hts _ tw_83) (fun _ h9 => h9) rfl dX2_isInOwnChute_4 ?_
  refine lv_iload_n hx hb dX2_isInOwnChute_7 rfl (lv_at hl 1 rfl) ?_
  refine c_pVi (rest := []) hC hE hP (metX3_at l hw_11 hw_24 (by decide) b) gc_RX2_63 hd_X3_at ⟨rfl, rfl⟩ ⟨Nat.le_of_ble_eq_true rfl, Nat.le_of_ble_eq_true rfl⟩ 11 hw_11 rfl rfl hl.1 (Nat.le_of_ble_eq_true rfl) ⟨Nat.le_of_ble_eq_true rfl, Nat.le_of_ble_eq_true rfl⟩ dX2_isInOwnChute_8 ?_
  refine lv_iconst (v := 2) hx hb dX2_isInOwnChute_11 (by decide) ?_
  refine lv_icmp_ne (tgt := 54) hx hb dX2_isInOwnChute_12 (by decide) (fun c_1 => ?_) (fun c_1 => ?_)
  · refine lv_iconst (v := 0) hx hb dX2_isInOwnChute_54 (by decide) ?_
    exact p_zret hx hb hr rfl hlk dX2_isInOwnChute_55 (by rw [bI_f (show ¬ (xOwn S b) from (fun h_ => c_1 h_.1))]; first | done | rfl)
  · refine lv_aload_n hx hb dX2_isInOwnChute_15 rfl (lv_at hl 0 rfl) ?_
    refine va_get (D := D) (ci := 2) (v := .ref (a 2)) (C := RX2) (T := TX2) (N := 8) hx hb hts tu_2 hown hE.1 hP 0 hw_0 rfl 4 (by decide) (hts _ tw_126) (fun _ h9 => h9) rfl dX2_isInOwnChute_16 ?_
    refine va_get (D := D) (ci := 0) (v := .ref (a 12)) (C := RX0) (T := TX0) (N := 9) hx hb hts tu_0 hown hE.1 hP 2 hw_2 rfl 5 (by decide) (hts _ tw_86) (fun _ h9 => h9) rfl dX2_isInOwnChute_19 ?_
    refine lv_iload_n hx hb dX2_isInOwnChute_22 rfl (lv_at hl 1 rfl) ?_
    refine c_pVi (rest := []) hC hE hP (metX3_at l hw_12 hw_25 (by decide) b) gc_RX2_63 hd_X3_at ⟨rfl, rfl⟩ ⟨Nat.le_of_ble_eq_true rfl, Nat.le_of_ble_eq_true rfl⟩ 12 hw_12 rfl rfl hl.1 (Nat.le_of_ble_eq_true rfl) ⟨Nat.le_of_ble_eq_true rfl, Nat.le_of_ble_eq_true rfl⟩ dX2_isInOwnChute_23 ?_
    refine lv_aload_n hx hb dX2_isInOwnChute_26 rfl (lv_at hl 0 rfl) ?_
    refine va_get (D := D) (ci := 2) (v := .ref (a 1)) (C := RX2) (T := TX2) (N := 8) hx hb hts tu_2 hown hE.1 hP 0 hw_0 rfl 3 (by decide) (hts _ tw_124) (fun _ h9 => h9) rfl dX2_isInOwnChute_27 ?_
    refine va_get (D := D) (ci := 1) (v := .ref (a 6)) (C := RX1) (T := TX1) (N := 3) hx hb hts tu_1 hown hE.1 hP 1 hw_1 rfl 1 (by decide) (hts _ tw_53) (fun _ h9 => h9) rfl dX2_isInOwnChute_30 ?_
    refine lv_aload_n hx hb dX2_isInOwnChute_33 rfl (lv_at hl 0 rfl) ?_
    refine va_get (D := D) (ci := 2) (v := .ref (a 2)) (C := RX2) (T := TX2) (N := 8) hx hb hts tu_2 hown hE.1 hP 0 hw_0 rfl 4 (by decide) (hts _ tw_126) (fun _ h9 => h9) rfl dX2_isInOwnChute_34 ?_
    refine va_get (D := D) (ci := 0) (v := .ref (a 8)) (C := RX0) (T := TX0) (N := 9) hx hb hts tu_0 hown hE.1 hP 2 hw_2 rfl 1 (by decide) (hts _ tw_76) (fun _ h9 => h9) rfl dX2_isInOwnChute_37 ?_
    refine lv_iload_n hx hb dX2_isInOwnChute_40 rfl (lv_at hl 1 rfl) ?_
    refine c_pVi (rest := [.ref (a 6), .int (rd 40 (S 7) b)]) hC hE hP (metX3_at l hw_8 hw_21 (by decide) b) gc_RX2_63 hd_X3_at ⟨rfl, rfl⟩ ⟨Nat.le_of_ble_eq_true rfl, Nat.le_of_ble_eq_true rfl⟩ 8 hw_8 rfl rfl hl.1 (Nat.le_of_ble_eq_true rfl) ⟨Nat.le_of_ble_eq_true rfl, Nat.le_of_ble_eq_true rfl⟩ dX2_isInOwnChute_41 ?_
    refine c_pVi (rest := [.int (rd 40 (S 7) b)]) hC hE hP (metX3_at l hw_6 hw_19 (by decide) (rd 40 (S 3) b)) gc_RX2_63 hd_X3_at ⟨rfl, rfl⟩ ⟨Nat.le_of_ble_eq_true rfl, Nat.le_of_ble_eq_true rfl⟩ 6 hw_6 rfl rfl hl.1 (Nat.le_of_ble_eq_true rfl) ⟨Nat.le_of_ble_eq_true rfl, Nat.le_of_ble_eq_true rfl⟩ dX2_isInOwnChute_44 ?_
    refine lv_icmp_ne (tgt := 54) hx hb dX2_isInOwnChute_47 (by decide) (fun c_2 => ?_) (fun c_2 => ?_)
    · refine lv_iconst (v := 0) hx hb dX2_isInOwnChute_54 (by decide) ?_
      exact p_zret hx hb hr rfl hlk dX2_isInOwnChute_55 (by rw [bI_f (show ¬ (xOwn S b) from (fun h_ => c_2 h_.2))]; first | done | rfl)
    · refine lv_iconst (v := 1) hx hb dX2_isInOwnChute_50 (by decide) ?_
      refine lv_goto (tgt := 55) hx hb dX2_isInOwnChute_51 (by decide) ?_
      exact p_zret hx hb hr rfl hlk dX2_isInOwnChute_55 (by rw [bI_t (show xOwn S b from ⟨c_1, c_2⟩)]; first | done | rfl)

set_option maxHeartbeats 4000000 in
set_option maxRecDepth 100000 in
theorem metX2_isAstray (l : Launch) {D : va_G} {k : Nat → ClassId} {a : Nat → Nat} {R : va_W} (S : HS) (b : Int32) : PM l yX2_isAstray cX2_isAstray 2 (some FieldType.boolean) rmX2_isAstray D k (hw k a S ++ R) [.ref (a 0), .int b] (some (.int (bI (xAst S b)))) := by
  refine PM_of rfl (Nat.le_of_ble_eq_true rfl) ?_
  intro p e s m below meth c hC hr hlk hin hE hP ls hl
  have hC : CallFix p m c cX2_isAstray 2 s _ lw_all RX2 := hC
  have hx := hC.1
  have hb := hC.2.1
  have hown : s.vm.findClass RX2 = some m.cls := hC.2.2.2.1
  have hts := hC.2.2.2.2
  have hl : lv_has ls 2 [(0, .ref (a 0)), (1, .int b)] := hl
  refine lv_aload_n hx hb dX2_isAstray_0 rfl (lv_at hl 0 rfl) ?_
  refine va_get (D := D) (ci := 2) (v := .ref (a 2)) (C := RX2) (T := TX2) (N := 8) hx hb hts tu_2 hown hE.1 hP 0 hw_0 rfl 4 (by decide) (hts _ tw_126) (fun _ h9 => h9) rfl dX2_isAstray_1 ?_
  refine va_get (D := D) (ci := 0) (v := .ref (a 11)) (C := RX0) (T := TX0) (N := 9) hx hb hts tu_0 hown hE.1 hP 2 hw_2 rfl 4 (by decide) (hts _ tw_83) (fun _ h9 => h9) rfl dX2_isAstray_4 ?_
  refine lv_iload_n hx hb dX2_isAstray_7 rfl (lv_at hl 1 rfl) ?_
  refine c_pVi (rest := []) hC hE hP (metX3_at l hw_11 hw_24 (by decide) b) gc_RX2_63 hd_X3_at ⟨rfl, rfl⟩ ⟨Nat.le_of_ble_eq_true rfl, Nat.le_of_ble_eq_true rfl⟩ 11 hw_11 rfl rfl hl.1 (Nat.le_of_ble_eq_true rfl) ⟨Nat.le_of_ble_eq_true rfl, Nat.le_of_ble_eq_true rfl⟩ dX2_isAstray_8 ?_
  refine lv_iconst (v := 2) hx hb dX2_isAstray_11 (by decide) ?_
  refine lv_icmp_ne (tgt := 48) hx hb dX2_isAstray_12 (by decide) (fun c_1 => ?_) (fun c_1 => ?_)
  · refine lv_iconst (v := 0) hx hb dX2_isAstray_48 (by decide) ?_
    exact p_zret hx hb hr rfl hlk dX2_isAstray_49 (by rw [bI_f (show ¬ (xAst S b) from (fun h_ => c_1 h_.1))]; first | done | rfl)
  · refine lv_aload_n hx hb dX2_isAstray_15 rfl (lv_at hl 0 rfl) ?_
    refine lv_iload_n hx hb dX2_isAstray_16 rfl (lv_at hl 1 rfl) ?_
    refine c_pVi (rest := []) hC hE hP (metX2_isInOwnChute l S b) gc_RX2_80 hd_X2_isInOwnChute ⟨rfl, rfl⟩ ⟨Nat.le_of_ble_eq_true rfl, Nat.le_of_ble_eq_true rfl⟩ 0 hw_0 rfl rfl hl.1 (Nat.le_of_ble_eq_true rfl) ⟨Nat.le_of_ble_eq_true rfl, Nat.le_of_ble_eq_true rfl⟩ dX2_isAstray_17 ?_
    refine lv_if_eq (tgt := 44) hx hb dX2_isAstray_20 (by decide) (fun c_2 => ?_) (fun c_2 => ?_)
    · have c_2 := bI_0 c_2
      refine lv_iconst (v := 1) hx hb dX2_isAstray_44 (by decide) ?_
      refine lv_goto (tgt := 49) hx hb dX2_isAstray_45 (by decide) ?_
      exact p_zret hx hb hr rfl hlk dX2_isAstray_49 (by rw [bI_t (show xAst S b from ⟨c_1, (Or.inl c_2)⟩)]; first | done | rfl)
    · have c_2 := bI_n c_2
      refine lv_aload_n hx hb dX2_isAstray_23 rfl (lv_at hl 0 rfl) ?_
      refine va_get (D := D) (ci := 2) (v := .ref (a 1)) (C := RX2) (T := TX2) (N := 8) hx hb hts tu_2 hown hE.1 hP 0 hw_0 rfl 3 (by decide) (hts _ tw_124) (fun _ h9 => h9) rfl dX2_isAstray_24 ?_
      refine lv_aload_n hx hb dX2_isAstray_27 rfl (lv_at hl 0 rfl) ?_
      refine va_get (D := D) (ci := 2) (v := .ref (a 2)) (C := RX2) (T := TX2) (N := 8) hx hb hts tu_2 hown hE.1 hP 0 hw_0 rfl 4 (by decide) (hts _ tw_126) (fun _ h9 => h9) rfl dX2_isAstray_28 ?_
      refine va_get (D := D) (ci := 0) (v := .ref (a 8)) (C := RX0) (T := TX0) (N := 9) hx hb hts tu_0 hown hE.1 hP 2 hw_2 rfl 1 (by decide) (hts _ tw_76) (fun _ h9 => h9) rfl dX2_isAstray_31 ?_
      refine lv_iload_n hx hb dX2_isAstray_34 rfl (lv_at hl 1 rfl) ?_
      refine c_pVi (rest := [.ref (a 1)]) hC hE hP (metX3_at l hw_8 hw_21 (by decide) b) gc_RX2_63 hd_X3_at ⟨rfl, rfl⟩ ⟨Nat.le_of_ble_eq_true rfl, Nat.le_of_ble_eq_true rfl⟩ 8 hw_8 rfl rfl hl.1 (Nat.le_of_ble_eq_true rfl) ⟨Nat.le_of_ble_eq_true rfl, Nat.le_of_ble_eq_true rfl⟩ dX2_isAstray_35 ?_
      refine c_pVi (rest := []) hC hE hP (metX1_hasLeft l S (rd 40 (S 3) b)) gc_RX2_146 hd_X1_hasLeft ⟨rfl, rfl⟩ ⟨Nat.le_of_ble_eq_true rfl, Nat.le_of_ble_eq_true rfl⟩ 1 hw_1 rfl rfl hl.1 (Nat.le_of_ble_eq_true rfl) ⟨Nat.le_of_ble_eq_true rfl, Nat.le_of_ble_eq_true rfl⟩ dX2_isAstray_38 ?_
      refine lv_if_eq (tgt := 48) hx hb dX2_isAstray_41 (by decide) (fun c_3 => ?_) (fun c_3 => ?_)
      · have c_3 := bI_0 c_3
        refine lv_iconst (v := 0) hx hb dX2_isAstray_48 (by decide) ?_
        exact p_zret hx hb hr rfl hlk dX2_isAstray_49 (by rw [bI_f (show ¬ (xAst S b) from (fun h_ => (fun h_ => Or.elim h_ (fun h_ => h_ c_2) c_3) h_.2))]; first | done | rfl)
      · have c_3 := bI_n c_3
        refine lv_iconst (v := 1) hx hb dX2_isAstray_44 (by decide) ?_
        refine lv_goto (tgt := 49) hx hb dX2_isAstray_45 (by decide) ?_
        exact p_zret hx hb hr rfl hlk dX2_isAstray_49 (by rw [bI_t (show xAst S b from ⟨c_1, (Or.inr c_3)⟩)]; first | done | rfl)

set_option maxHeartbeats 4000000 in
set_option maxRecDepth 100000 in
theorem metX2_isReady (l : Launch) {D : va_G} {k : Nat → ClassId} {a : Nat → Nat} {R : va_W} (S : HS) (b : Int32) : PM l yX2_isReady cX2_isReady 2 (some FieldType.boolean) rmX2_isReady D k (hw k a S ++ R) [.ref (a 0), .int b] (some (.int (bI (xRdy S b)))) := by
  refine PM_of rfl (Nat.le_of_ble_eq_true rfl) ?_
  intro p e s m below meth c hC hr hlk hin hE hP ls hl
  have hC : CallFix p m c cX2_isReady 2 s _ lw_all RX2 := hC
  have hx := hC.1
  have hb := hC.2.1
  have hown : s.vm.findClass RX2 = some m.cls := hC.2.2.2.1
  have hts := hC.2.2.2.2
  have hl : lv_has ls 2 [(0, .ref (a 0)), (1, .int b)] := hl
  refine lv_aload_n hx hb dX2_isReady_0 rfl (lv_at hl 0 rfl) ?_
  refine va_get (D := D) (ci := 2) (v := .ref (a 2)) (C := RX2) (T := TX2) (N := 8) hx hb hts tu_2 hown hE.1 hP 0 hw_0 rfl 4 (by decide) (hts _ tw_126) (fun _ h9 => h9) rfl dX2_isReady_1 ?_
  refine va_get (D := D) (ci := 0) (v := .ref (a 11)) (C := RX0) (T := TX0) (N := 9) hx hb hts tu_0 hown hE.1 hP 2 hw_2 rfl 4 (by decide) (hts _ tw_83) (fun _ h9 => h9) rfl dX2_isReady_4 ?_
  refine lv_iload_n hx hb dX2_isReady_7 rfl (lv_at hl 1 rfl) ?_
  refine c_pVi (rest := []) hC hE hP (metX3_at l hw_11 hw_24 (by decide) b) gc_RX2_63 hd_X3_at ⟨rfl, rfl⟩ ⟨Nat.le_of_ble_eq_true rfl, Nat.le_of_ble_eq_true rfl⟩ 11 hw_11 rfl rfl hl.1 (Nat.le_of_ble_eq_true rfl) ⟨Nat.le_of_ble_eq_true rfl, Nat.le_of_ble_eq_true rfl⟩ dX2_isReady_8 ?_
  refine lv_iconst (v := 5) hx hb dX2_isReady_11 (by decide) ?_
  refine lv_icmp_ne (tgt := 17) hx hb dX2_isReady_12 (by decide) (fun c_1 => ?_) (fun c_1 => ?_)
  · refine lv_aload_n hx hb dX2_isReady_17 rfl (lv_at hl 0 rfl) ?_
    refine lv_iload_n hx hb dX2_isReady_18 rfl (lv_at hl 1 rfl) ?_
    refine c_pVi (rest := []) hC hE hP (metX2_isInOwnChute l S b) gc_RX2_80 hd_X2_isInOwnChute ⟨rfl, rfl⟩ ⟨Nat.le_of_ble_eq_true rfl, Nat.le_of_ble_eq_true rfl⟩ 0 hw_0 rfl rfl hl.1 (Nat.le_of_ble_eq_true rfl) ⟨Nat.le_of_ble_eq_true rfl, Nat.le_of_ble_eq_true rfl⟩ dX2_isReady_19 ?_
    refine lv_if_eq (tgt := 50) hx hb dX2_isReady_22 (by decide) (fun c_2 => ?_) (fun c_2 => ?_)
    · have c_2 := bI_0 c_2
      refine lv_iconst (v := 0) hx hb dX2_isReady_50 (by decide) ?_
      exact p_zret hx hb hr rfl hlk dX2_isReady_51 (by rw [bI_f (show ¬ (xRdy S b) from (fun h_ => Or.elim h_ c_1 (fun h_ => c_2 h_.1)))]; first | done | rfl)
    · have c_2 := bI_n c_2
      refine lv_aload_n hx hb dX2_isReady_25 rfl (lv_at hl 0 rfl) ?_
      refine va_get (D := D) (ci := 2) (v := .ref (a 1)) (C := RX2) (T := TX2) (N := 8) hx hb hts tu_2 hown hE.1 hP 0 hw_0 rfl 3 (by decide) (hts _ tw_124) (fun _ h9 => h9) rfl dX2_isReady_26 ?_
      refine lv_aload_n hx hb dX2_isReady_29 rfl (lv_at hl 0 rfl) ?_
      refine va_get (D := D) (ci := 2) (v := .ref (a 2)) (C := RX2) (T := TX2) (N := 8) hx hb hts tu_2 hown hE.1 hP 0 hw_0 rfl 4 (by decide) (hts _ tw_126) (fun _ h9 => h9) rfl dX2_isReady_30 ?_
      refine va_get (D := D) (ci := 0) (v := .ref (a 8)) (C := RX0) (T := TX0) (N := 9) hx hb hts tu_0 hown hE.1 hP 2 hw_2 rfl 1 (by decide) (hts _ tw_76) (fun _ h9 => h9) rfl dX2_isReady_33 ?_
      refine lv_iload_n hx hb dX2_isReady_36 rfl (lv_at hl 1 rfl) ?_
      refine c_pVi (rest := [.ref (a 1)]) hC hE hP (metX3_at l hw_8 hw_21 (by decide) b) gc_RX2_63 hd_X3_at ⟨rfl, rfl⟩ ⟨Nat.le_of_ble_eq_true rfl, Nat.le_of_ble_eq_true rfl⟩ 8 hw_8 rfl rfl hl.1 (Nat.le_of_ble_eq_true rfl) ⟨Nat.le_of_ble_eq_true rfl, Nat.le_of_ble_eq_true rfl⟩ dX2_isReady_37 ?_
      refine c_pVi (rest := []) hC hE hP (metX1_hasLeft l S (rd 40 (S 3) b)) gc_RX2_146 hd_X1_hasLeft ⟨rfl, rfl⟩ ⟨Nat.le_of_ble_eq_true rfl, Nat.le_of_ble_eq_true rfl⟩ 1 hw_1 rfl rfl hl.1 (Nat.le_of_ble_eq_true rfl) ⟨Nat.le_of_ble_eq_true rfl, Nat.le_of_ble_eq_true rfl⟩ dX2_isReady_40 ?_
      refine lv_if_ne (tgt := 50) hx hb dX2_isReady_43 (by decide) (fun c_3 => ?_) (fun c_3 => ?_)
      · have c_3 := bI_n c_3
        refine lv_iconst (v := 0) hx hb dX2_isReady_50 (by decide) ?_
        exact p_zret hx hb hr rfl hlk dX2_isReady_51 (by rw [bI_f (show ¬ (xRdy S b) from (fun h_ => Or.elim h_ c_1 (fun h_ => (fun h_ => h_ c_3) h_.2)))]; first | done | rfl)
      · have c_3 := bI_0 c_3
        refine lv_iconst (v := 1) hx hb dX2_isReady_46 (by decide) ?_
        refine lv_goto (tgt := 51) hx hb dX2_isReady_47 (by decide) ?_
        exact p_zret hx hb hr rfl hlk dX2_isReady_51 (by rw [bI_t (show xRdy S b from (Or.inr ⟨c_2, c_3⟩))]; first | done | rfl)
  · refine lv_iconst (v := 1) hx hb dX2_isReady_15 (by decide) ?_
    exact p_zret hx hb hr rfl hlk dX2_isReady_16 (by rw [bI_t (show xRdy S b from (Or.inl c_1))]; first | done | rfl)

set_option maxHeartbeats 4000000 in
set_option maxRecDepth 100000 in
theorem metX2_countMisrouted (l : Launch) {D : va_G} {k : Nat → ClassId} {a : Nat → Nat} {R : va_W} (S : HS) (ch : Int32) (n : Nat) (hn4 : S 0 4 = nI n) (hn40 : n ≤ 40) : PM l yX2_countMisrouted cX2_countMisrouted 4 (some FieldType.int) rmX2_countMisrouted D k (hw k a S ++ R) [.ref (a 0), .int ch] (some (.int (nI (xMisN S ch n)))) := by
  refine PM_of rfl (Nat.le_of_ble_eq_true rfl) ?_
  intro p e s m below meth c hC hr hlk hin hE hP ls hl
  have hC : CallFix p m c cX2_countMisrouted 4 s _ lw_all RX2 := hC
  have hx := hC.1
  have hb := hC.2.1
  have hown : s.vm.findClass RX2 = some m.cls := hC.2.2.2.1
  have hts := hC.2.2.2.2
  have hl : lv_has ls 4 [(0, .ref (a 0)), (1, .int ch)] := hl
  refine lv_iconst (v := 0) hx hb dX2_countMisrouted_0 (by decide) ?_
  refine lv_istore_n (lv' := [(2, .int 0), (0, .ref (a 0)), (1, .int ch)]) hx hb dX2_countMisrouted_1 rfl hl (by decide) rfl (fun ls hl => ?_)
  refine lv_iconst (v := 0) hx hb dX2_countMisrouted_2 (by decide) ?_
  refine lv_istore_n (lv' := [(3, .int 0), (2, .int 0), (0, .ref (a 0)), (1, .int ch)]) hx hb dX2_countMisrouted_3 rfl hl (by decide) rfl (fun ls hl => ?_)
  refine w_for (N := n) (fun _ => True) (fun i => [(0, .ref (a 0)), (1, .int ch), (2, .int (nI (xMisN S ch i))), (3, .int (nI i))]) (fun ls hI hl => ?_) (fun i hi hI ih ls hl => ?_) 0 (Nat.zero_le _) trivial (lv_sub hl [2, 3, 1, 0] rfl)
  · have hl : lv_has ls 4 [(0, .ref (a 0)), (1, .int ch), (2, .int (nI (xMisN S ch n))), (3, .int (nI n))] := hl
    refine lv_iload_n hx hb dX2_countMisrouted_4 rfl (lv_at hl 3 rfl) ?_
    refine lv_aload_n hx hb dX2_countMisrouted_5 rfl (lv_at hl 0 rfl) ?_
    refine va_get (D := D) (ci := 2) (v := .ref (a 2)) (C := RX2) (T := TX2) (N := 8) hx hb hts tu_2 hown hE.1 hP 0 hw_0 rfl 4 (by decide) (hts _ tw_126) (fun _ h9 => h9) rfl dX2_countMisrouted_6 ?_
    refine va_get (D := D) (ci := 0) (v := .int (S 0 4)) (C := RX0) (T := TX0) (N := 9) hx hb hts tu_0 hown hE.1 hP 2 hw_2 rfl 0 (by decide) (hts _ tw_73) (fun _ h9 => h9) rfl dX2_countMisrouted_9 ?_
    refine w_top (hn4) ?_
    refine lv_icmp_ge (tgt := 47) hx hb dX2_countMisrouted_12 (by decide) (fun c_1 => ?_) (fun c_ => absurd (nI_le (Nat.le_refl n) (by omega)) c_)
    refine lv_iload_n hx hb dX2_countMisrouted_47 rfl (lv_at hl 2 rfl) ?_
    exact p_iret hx hb hr hlk dX2_countMisrouted_48 (rfl)
  · have hl : lv_has ls 4 [(0, .ref (a 0)), (1, .int ch), (2, .int (nI (xMisN S ch i))), (3, .int (nI i))] := hl
    refine lv_iload_n hx hb dX2_countMisrouted_4 rfl (lv_at hl 3 rfl) ?_
    refine lv_aload_n hx hb dX2_countMisrouted_5 rfl (lv_at hl 0 rfl) ?_
    refine va_get (D := D) (ci := 2) (v := .ref (a 2)) (C := RX2) (T := TX2) (N := 8) hx hb hts tu_2 hown hE.1 hP 0 hw_0 rfl 4 (by decide) (hts _ tw_126) (fun _ h9 => h9) rfl dX2_countMisrouted_6 ?_
    refine va_get (D := D) (ci := 0) (v := .int (S 0 4)) (C := RX0) (T := TX0) (N := 9) hx hb hts tu_0 hown hE.1 hP 2 hw_2 rfl 0 (by decide) (hts _ tw_73) (fun _ h9 => h9) rfl dX2_countMisrouted_9 ?_
    refine w_top (hn4) ?_
    refine lv_icmp_ge (tgt := 47) hx hb dX2_countMisrouted_12 (by decide) (fun c_ => absurd c_ (nI_ge hi (by omega))) (fun c_2 => ?_)
    refine lv_aload_n hx hb dX2_countMisrouted_15 rfl (lv_at hl 0 rfl) ?_
    refine va_get (D := D) (ci := 2) (v := .ref (a 2)) (C := RX2) (T := TX2) (N := 8) hx hb hts tu_2 hown hE.1 hP 0 hw_0 rfl 4 (by decide) (hts _ tw_126) (fun _ h9 => h9) rfl dX2_countMisrouted_16 ?_
    refine va_get (D := D) (ci := 0) (v := .ref (a 12)) (C := RX0) (T := TX0) (N := 9) hx hb hts tu_0 hown hE.1 hP 2 hw_2 rfl 5 (by decide) (hts _ tw_86) (fun _ h9 => h9) rfl dX2_countMisrouted_19 ?_
    refine lv_iload_n hx hb dX2_countMisrouted_22 rfl (lv_at hl 3 rfl) ?_
    refine c_pVi (rest := []) hC hE hP (metX3_at l hw_12 hw_25 (by decide) (nI i)) gc_RX2_63 hd_X3_at ⟨rfl, rfl⟩ ⟨Nat.le_of_ble_eq_true rfl, Nat.le_of_ble_eq_true rfl⟩ 12 hw_12 rfl rfl hl.1 (Nat.le_of_ble_eq_true rfl) ⟨Nat.le_of_ble_eq_true rfl, Nat.le_of_ble_eq_true rfl⟩ dX2_countMisrouted_23 ?_
    refine w_top (rd_n (n := 40) (j := i) (by omega) (by decide)) ?_
    refine lv_iload_n hx hb dX2_countMisrouted_26 rfl (lv_at hl 1 rfl) ?_
    refine lv_icmp_ne (tgt := 41) hx hb dX2_countMisrouted_27 (by decide) (fun c_3 => ?_) (fun c_3 => ?_)
    · refine lv_iinc (v := nI (i + 1)) (lv' := [(3, .int (nI (i + 1))), (0, .ref (a 0)), (1, .int ch), (2, .int (nI (xMisN S ch i)))]) hx hb dX2_countMisrouted_41 hl (k := 3) rfl (iinc1 _) (by decide) rfl (fun ls hl => ?_)
      refine lv_goto (tgt := 4) hx hb dX2_countMisrouted_44 (by decide) ?_
      have e9 : xMisN S ch (i + 1) = xMisN S ch i := ct_f (p := (fun i => S 7 i = ch ∧ xAst S (nI i))) (show ¬ (S 7 i = ch ∧ xAst S (nI i)) from (fun h_ => c_3 h_.1))
      exact ih ls trivial (by show lv_has ls 4 [(0, .ref (a 0)), (1, .int ch), (2, .int (nI (xMisN S ch (i + 1)))), (3, .int (nI (i + 1)))]; rw [e9]; exact lv_sub hl [1, 2, 3, 0] rfl)
    · refine lv_aload_n hx hb dX2_countMisrouted_30 rfl (lv_at hl 0 rfl) ?_
      refine lv_iload_n hx hb dX2_countMisrouted_31 rfl (lv_at hl 3 rfl) ?_
      refine c_pVi (rest := []) hC hE hP (metX2_isAstray l S (nI i)) gc_RX2_88 hd_X2_isAstray ⟨rfl, rfl⟩ ⟨Nat.le_of_ble_eq_true rfl, Nat.le_of_ble_eq_true rfl⟩ 0 hw_0 rfl rfl hl.1 (Nat.le_of_ble_eq_true rfl) ⟨Nat.le_of_ble_eq_true rfl, Nat.le_of_ble_eq_true rfl⟩ dX2_countMisrouted_32 ?_
      refine lv_if_eq (tgt := 41) hx hb dX2_countMisrouted_35 (by decide) (fun c_4 => ?_) (fun c_4 => ?_)
      · have c_4 := bI_0 c_4
        refine lv_iinc (v := nI (i + 1)) (lv' := [(3, .int (nI (i + 1))), (0, .ref (a 0)), (1, .int ch), (2, .int (nI (xMisN S ch i)))]) hx hb dX2_countMisrouted_41 hl (k := 3) rfl (iinc1 _) (by decide) rfl (fun ls hl => ?_)
        refine lv_goto (tgt := 4) hx hb dX2_countMisrouted_44 (by decide) ?_
        have e9 : xMisN S ch (i + 1) = xMisN S ch i := ct_f (p := (fun i => S 7 i = ch ∧ xAst S (nI i))) (show ¬ (S 7 i = ch ∧ xAst S (nI i)) from (fun h_ => c_4 h_.2))
        exact ih ls trivial (by show lv_has ls 4 [(0, .ref (a 0)), (1, .int ch), (2, .int (nI (xMisN S ch (i + 1)))), (3, .int (nI (i + 1)))]; rw [e9]; exact lv_sub hl [1, 2, 3, 0] rfl)
      · have c_4 := bI_n c_4
        refine lv_iinc (v := nI ((xMisN S ch i) + 1)) (lv' := [(2, .int (nI ((xMisN S ch i) + 1))), (0, .ref (a 0)), (1, .int ch), (3, .int (nI i))]) hx hb dX2_countMisrouted_38 hl (k := 2) rfl (iinc1 _) (by decide) rfl (fun ls hl => ?_)
        refine lv_iinc (v := nI (i + 1)) (lv' := [(3, .int (nI (i + 1))), (2, .int (nI ((xMisN S ch i) + 1))), (0, .ref (a 0)), (1, .int ch)]) hx hb dX2_countMisrouted_41 hl (k := 3) rfl (iinc1 _) (by decide) rfl (fun ls hl => ?_)
        refine lv_goto (tgt := 4) hx hb dX2_countMisrouted_44 (by decide) ?_
        have e9 : xMisN S ch (i + 1) = xMisN S ch i + 1 := ct_t (p := (fun i => S 7 i = ch ∧ xAst S (nI i))) (show (S 7 i = ch ∧ xAst S (nI i)) from ⟨c_3, c_4⟩)
        exact ih ls trivial (by show lv_has ls 4 [(0, .ref (a 0)), (1, .int ch), (2, .int (nI (xMisN S ch (i + 1)))), (3, .int (nI (i + 1)))]; rw [e9]; exact lv_sub hl [2, 3, 1, 0] rfl)

set_option maxHeartbeats 4000000 in
set_option maxRecDepth 100000 in
theorem metX2_countReady (l : Launch) {D : va_G} {k : Nat → ClassId} {a : Nat → Nat} {R : va_W} (S : HS) (f : Int32) (n : Nat) (hn4 : S 0 4 = nI n) (hn40 : n ≤ 40) : PM l yX2_countReady cX2_countReady 4 (some FieldType.int) rmX2_countReady D k (hw k a S ++ R) [.ref (a 0), .int f] (some (.int (nI (xRdyN S f n)))) := by
  refine PM_of rfl (Nat.le_of_ble_eq_true rfl) ?_
  intro p e s m below meth c hC hr hlk hin hE hP ls hl
  have hC : CallFix p m c cX2_countReady 4 s _ lw_all RX2 := hC
  have hx := hC.1
  have hb := hC.2.1
  have hown : s.vm.findClass RX2 = some m.cls := hC.2.2.2.1
  have hts := hC.2.2.2.2
  have hl : lv_has ls 4 [(0, .ref (a 0)), (1, .int f)] := hl
  refine lv_iconst (v := 0) hx hb dX2_countReady_0 (by decide) ?_
  refine lv_istore_n (lv' := [(2, .int 0), (0, .ref (a 0)), (1, .int f)]) hx hb dX2_countReady_1 rfl hl (by decide) rfl (fun ls hl => ?_)
  refine lv_iconst (v := 0) hx hb dX2_countReady_2 (by decide) ?_
  refine lv_istore_n (lv' := [(3, .int 0), (2, .int 0), (0, .ref (a 0)), (1, .int f)]) hx hb dX2_countReady_3 rfl hl (by decide) rfl (fun ls hl => ?_)
  refine w_for (N := n) (fun _ => True) (fun i => [(0, .ref (a 0)), (1, .int f), (2, .int (nI (xRdyN S f i))), (3, .int (nI i))]) (fun ls hI hl => ?_) (fun i hi hI ih ls hl => ?_) 0 (Nat.zero_le _) trivial (lv_sub hl [2, 3, 1, 0] rfl)
  · have hl : lv_has ls 4 [(0, .ref (a 0)), (1, .int f), (2, .int (nI (xRdyN S f n))), (3, .int (nI n))] := hl
    refine lv_iload_n hx hb dX2_countReady_4 rfl (lv_at hl 3 rfl) ?_
    refine lv_aload_n hx hb dX2_countReady_5 rfl (lv_at hl 0 rfl) ?_
    refine va_get (D := D) (ci := 2) (v := .ref (a 2)) (C := RX2) (T := TX2) (N := 8) hx hb hts tu_2 hown hE.1 hP 0 hw_0 rfl 4 (by decide) (hts _ tw_126) (fun _ h9 => h9) rfl dX2_countReady_6 ?_
    refine va_get (D := D) (ci := 0) (v := .int (S 0 4)) (C := RX0) (T := TX0) (N := 9) hx hb hts tu_0 hown hE.1 hP 2 hw_2 rfl 0 (by decide) (hts _ tw_73) (fun _ h9 => h9) rfl dX2_countReady_9 ?_
    refine w_top (hn4) ?_
    refine lv_icmp_ge (tgt := 47) hx hb dX2_countReady_12 (by decide) (fun c_1 => ?_) (fun c_ => absurd (nI_le (Nat.le_refl n) (by omega)) c_)
    refine lv_iload_n hx hb dX2_countReady_47 rfl (lv_at hl 2 rfl) ?_
    exact p_iret hx hb hr hlk dX2_countReady_48 (rfl)
  · have hl : lv_has ls 4 [(0, .ref (a 0)), (1, .int f), (2, .int (nI (xRdyN S f i))), (3, .int (nI i))] := hl
    refine lv_iload_n hx hb dX2_countReady_4 rfl (lv_at hl 3 rfl) ?_
    refine lv_aload_n hx hb dX2_countReady_5 rfl (lv_at hl 0 rfl) ?_
    refine va_get (D := D) (ci := 2) (v := .ref (a 2)) (C := RX2) (T := TX2) (N := 8) hx hb hts tu_2 hown hE.1 hP 0 hw_0 rfl 4 (by decide) (hts _ tw_126) (fun _ h9 => h9) rfl dX2_countReady_6 ?_
    refine va_get (D := D) (ci := 0) (v := .int (S 0 4)) (C := RX0) (T := TX0) (N := 9) hx hb hts tu_0 hown hE.1 hP 2 hw_2 rfl 0 (by decide) (hts _ tw_73) (fun _ h9 => h9) rfl dX2_countReady_9 ?_
    refine w_top (hn4) ?_
    refine lv_icmp_ge (tgt := 47) hx hb dX2_countReady_12 (by decide) (fun c_ => absurd c_ (nI_ge hi (by omega))) (fun c_2 => ?_)
    refine lv_aload_n hx hb dX2_countReady_15 rfl (lv_at hl 0 rfl) ?_
    refine va_get (D := D) (ci := 2) (v := .ref (a 2)) (C := RX2) (T := TX2) (N := 8) hx hb hts tu_2 hown hE.1 hP 0 hw_0 rfl 4 (by decide) (hts _ tw_126) (fun _ h9 => h9) rfl dX2_countReady_16 ?_
    refine va_get (D := D) (ci := 0) (v := .ref (a 8)) (C := RX0) (T := TX0) (N := 9) hx hb hts tu_0 hown hE.1 hP 2 hw_2 rfl 1 (by decide) (hts _ tw_76) (fun _ h9 => h9) rfl dX2_countReady_19 ?_
    refine lv_iload_n hx hb dX2_countReady_22 rfl (lv_at hl 3 rfl) ?_
    refine c_pVi (rest := []) hC hE hP (metX3_at l hw_8 hw_21 (by decide) (nI i)) gc_RX2_63 hd_X3_at ⟨rfl, rfl⟩ ⟨Nat.le_of_ble_eq_true rfl, Nat.le_of_ble_eq_true rfl⟩ 8 hw_8 rfl rfl hl.1 (Nat.le_of_ble_eq_true rfl) ⟨Nat.le_of_ble_eq_true rfl, Nat.le_of_ble_eq_true rfl⟩ dX2_countReady_23 ?_
    refine w_top (rd_n (n := 40) (j := i) (by omega) (by decide)) ?_
    refine lv_iload_n hx hb dX2_countReady_26 rfl (lv_at hl 1 rfl) ?_
    refine lv_icmp_ne (tgt := 41) hx hb dX2_countReady_27 (by decide) (fun c_3 => ?_) (fun c_3 => ?_)
    · refine lv_iinc (v := nI (i + 1)) (lv' := [(3, .int (nI (i + 1))), (0, .ref (a 0)), (1, .int f), (2, .int (nI (xRdyN S f i)))]) hx hb dX2_countReady_41 hl (k := 3) rfl (iinc1 _) (by decide) rfl (fun ls hl => ?_)
      refine lv_goto (tgt := 4) hx hb dX2_countReady_44 (by decide) ?_
      have e9 : xRdyN S f (i + 1) = xRdyN S f i := ct_f (p := (fun i => S 3 i = f ∧ xRdy S (nI i))) (show ¬ (S 3 i = f ∧ xRdy S (nI i)) from (fun h_ => c_3 h_.1))
      exact ih ls trivial (by show lv_has ls 4 [(0, .ref (a 0)), (1, .int f), (2, .int (nI (xRdyN S f (i + 1)))), (3, .int (nI (i + 1)))]; rw [e9]; exact lv_sub hl [1, 2, 3, 0] rfl)
    · refine lv_aload_n hx hb dX2_countReady_30 rfl (lv_at hl 0 rfl) ?_
      refine lv_iload_n hx hb dX2_countReady_31 rfl (lv_at hl 3 rfl) ?_
      refine c_pVi (rest := []) hC hE hP (metX2_isReady l S (nI i)) gc_RX2_149 hd_X2_isReady ⟨rfl, rfl⟩ ⟨Nat.le_of_ble_eq_true rfl, Nat.le_of_ble_eq_true rfl⟩ 0 hw_0 rfl rfl hl.1 (Nat.le_of_ble_eq_true rfl) ⟨Nat.le_of_ble_eq_true rfl, Nat.le_of_ble_eq_true rfl⟩ dX2_countReady_32 ?_
      refine lv_if_eq (tgt := 41) hx hb dX2_countReady_35 (by decide) (fun c_4 => ?_) (fun c_4 => ?_)
      · have c_4 := bI_0 c_4
        refine lv_iinc (v := nI (i + 1)) (lv' := [(3, .int (nI (i + 1))), (0, .ref (a 0)), (1, .int f), (2, .int (nI (xRdyN S f i)))]) hx hb dX2_countReady_41 hl (k := 3) rfl (iinc1 _) (by decide) rfl (fun ls hl => ?_)
        refine lv_goto (tgt := 4) hx hb dX2_countReady_44 (by decide) ?_
        have e9 : xRdyN S f (i + 1) = xRdyN S f i := ct_f (p := (fun i => S 3 i = f ∧ xRdy S (nI i))) (show ¬ (S 3 i = f ∧ xRdy S (nI i)) from (fun h_ => c_4 h_.2))
        exact ih ls trivial (by show lv_has ls 4 [(0, .ref (a 0)), (1, .int f), (2, .int (nI (xRdyN S f (i + 1)))), (3, .int (nI (i + 1)))]; rw [e9]; exact lv_sub hl [1, 2, 3, 0] rfl)
      · have c_4 := bI_n c_4
        refine lv_iinc (v := nI ((xRdyN S f i) + 1)) (lv' := [(2, .int (nI ((xRdyN S f i) + 1))), (0, .ref (a 0)), (1, .int f), (3, .int (nI i))]) hx hb dX2_countReady_38 hl (k := 2) rfl (iinc1 _) (by decide) rfl (fun ls hl => ?_)
        refine lv_iinc (v := nI (i + 1)) (lv' := [(3, .int (nI (i + 1))), (2, .int (nI ((xRdyN S f i) + 1))), (0, .ref (a 0)), (1, .int f)]) hx hb dX2_countReady_41 hl (k := 3) rfl (iinc1 _) (by decide) rfl (fun ls hl => ?_)
        refine lv_goto (tgt := 4) hx hb dX2_countReady_44 (by decide) ?_
        have e9 : xRdyN S f (i + 1) = xRdyN S f i + 1 := ct_t (p := (fun i => S 3 i = f ∧ xRdy S (nI i))) (show (S 3 i = f ∧ xRdy S (nI i)) from ⟨c_3, c_4⟩)
        exact ih ls trivial (by show lv_has ls 4 [(0, .ref (a 0)), (1, .int f), (2, .int (nI (xRdyN S f (i + 1)))), (3, .int (nI (i + 1)))]; rw [e9]; exact lv_sub hl [2, 3, 1, 0] rfl)

set_option maxHeartbeats 4000000 in
set_option maxRecDepth 100000 in
theorem metX2_countMissing (l : Launch) {D : va_G} {k : Nat → ClassId} {a : Nat → Nat} {R : va_W} (S : HS) (f : Int32) (n : Nat) (hn4 : S 0 4 = nI n) (hn40 : n ≤ 40) : PM l yX2_countMissing cX2_countMissing 2 (some FieldType.int) rmX2_countMissing D k (hw k a S ++ R) [.ref (a 0), .int f] (some (.int (nI (ct (fun j_ => S 3 j_ = f) 40) - nI (xRdyN S f n)))) := by
  refine PM_of rfl (Nat.le_of_ble_eq_true rfl) ?_
  intro p e s m below meth c hC hr hlk hin hE hP ls hl
  have hC : CallFix p m c cX2_countMissing 2 s _ lw_all RX2 := hC
  have hx := hC.1
  have hb := hC.2.1
  have hown : s.vm.findClass RX2 = some m.cls := hC.2.2.2.1
  have hts := hC.2.2.2.2
  have hl : lv_has ls 2 [(0, .ref (a 0)), (1, .int f)] := hl
  refine lv_aload_n hx hb dX2_countMissing_0 rfl (lv_at hl 0 rfl) ?_
  refine va_get (D := D) (ci := 2) (v := .ref (a 2)) (C := RX2) (T := TX2) (N := 8) hx hb hts tu_2 hown hE.1 hP 0 hw_0 rfl 4 (by decide) (hts _ tw_126) (fun _ h9 => h9) rfl dX2_countMissing_1 ?_
  refine va_get (D := D) (ci := 0) (v := .ref (a 8)) (C := RX0) (T := TX0) (N := 9) hx hb hts tu_0 hown hE.1 hP 2 hw_2 rfl 1 (by decide) (hts _ tw_76) (fun _ h9 => h9) rfl dX2_countMissing_4 ?_
  refine lv_iload_n hx hb dX2_countMissing_7 rfl (lv_at hl 1 rfl) ?_
  refine c_pVi (rest := []) hC hE hP (metX3_count l hw_8 hw_21 (by decide) f) gc_RX2_141 hd_X3_count ⟨rfl, rfl⟩ ⟨Nat.le_of_ble_eq_true rfl, Nat.le_of_ble_eq_true rfl⟩ 8 hw_8 rfl rfl hl.1 (Nat.le_of_ble_eq_true rfl) ⟨Nat.le_of_ble_eq_true rfl, Nat.le_of_ble_eq_true rfl⟩ dX2_countMissing_8 ?_
  refine lv_aload_n hx hb dX2_countMissing_11 rfl (lv_at hl 0 rfl) ?_
  refine lv_iload_n hx hb dX2_countMissing_12 rfl (lv_at hl 1 rfl) ?_
  refine c_pVi (rest := [.int (nI (ct (fun j_ => S 3 j_ = f) 40))]) hC hE hP (metX2_countReady l S f n hn4 hn40) gc_RX2_152 hd_X2_countReady ⟨rfl, rfl⟩ ⟨Nat.le_of_ble_eq_true rfl, Nat.le_of_ble_eq_true rfl⟩ 0 hw_0 rfl rfl hl.1 (Nat.le_of_ble_eq_true rfl) ⟨Nat.le_of_ble_eq_true rfl, Nat.le_of_ble_eq_true rfl⟩ dX2_countMissing_13 ?_
  refine lv_isub hx hb dX2_countMissing_16 ?_
  exact p_iret hx hb hr hlk dX2_countMissing_17 (rfl)

set_option maxHeartbeats 4000000 in
set_option maxRecDepth 100000 in
/-- another chute -/
theorem metX2_changeChute (l : Launch) {D : va_G} {k : Nat → ClassId} {a : Nat → Nat} {R : va_W} (S : HS) (f : Int32) (ch : Int32) (n : Nat) (hn4 : S 0 4 = nI n) (hn40 : n ≤ 40) : MM l yX2_changeChute cX2_changeChute 5 (some FieldType.int) rmX2_changeChute D k (hw k a S ++ R) [.ref (a 0), .int f, .int ch] (some (.int (nI (xChgN S f ch n)))) (hw k a (xChg S f ch) ++ R) := by
  refine MM_of rfl (Nat.le_of_ble_eq_true rfl) ?_
  intro p e s m below meth c hC hr hlk hin hE hP hD hS ls hl
  have hC : CallFix p m c cX2_changeChute 5 s _ lw_all RX2 := hC
  have hx := hC.1
  have hb := hC.2.1
  have hown : s.vm.findClass RX2 = some m.cls := hC.2.2.2.1
  have hts := hC.2.2.2.2
  have hl : lv_has ls 5 [(0, .ref (a 0)), (1, .int f), (2, .int ch)] := hl
  refine lv_iconst (v := 0) hx hb dX2_changeChute_0 (by decide) ?_
  refine lv_istore_n (lv' := [(3, .int 0), (0, .ref (a 0)), (1, .int f), (2, .int ch)]) hx hb dX2_changeChute_1 rfl hl (by decide) rfl (fun ls hl => ?_)
  refine lv_iconst (v := 0) hx hb dX2_changeChute_2 (by decide) ?_
  refine lv_istore (lv' := [(4, .int 0), (3, .int 0), (0, .ref (a 0)), (1, .int f), (2, .int ch)]) hx hb dX2_changeChute_3 hl (by decide) rfl (fun ls hl => ?_)
  refine w_forM (N := n) (fun _ => True) (fun i => [(0, .ref (a 0)), (1, .int f), (2, .int ch), (3, .int (nI (xChgN S f ch i))), (4, .int (nI i))]) (fun i => (hw k a S ++ R)) (fun ls H locs hI hl hP hD hS => ?_) (fun i hi hI ih ls H locs hl hP hD hS => ?_) 0 (Nat.zero_le _) trivial (lv_sub hl [2, 3, 4, 1, 0] rfl) hP hD hS
  · have hl : lv_has ls 5 [(0, .ref (a 0)), (1, .int f), (2, .int ch), (3, .int (nI (xChgN S f ch n))), (4, .int (nI n))] := hl
    have hP : va_P D vwCl (hw k a S ++ R) H := hP
    have hD : va_D (va_in (hw k a S ++ R)) (hw k a S ++ R) := hD
    refine lv_iload hx hb dX2_changeChute_5 (lv_at hl 4 rfl) ?_
    refine lv_aload_n hx hb dX2_changeChute_7 rfl (lv_at hl 0 rfl) ?_
    refine va_get (D := D) (ci := 2) (v := .ref (a 2)) (C := RX2) (T := TX2) (N := 8) hx hb hts tu_2 hown hE.1 hP 0 hw_0 rfl 4 (by decide) (hts _ tw_126) (fun _ h9 => h9) rfl dX2_changeChute_8 ?_
    refine va_get (D := D) (ci := 0) (v := .int (S 0 4)) (C := RX0) (T := TX0) (N := 9) hx hb hts tu_0 hown hE.1 hP 2 hw_2 rfl 0 (by decide) (hts _ tw_73) (fun _ h9 => h9) rfl dX2_changeChute_11 ?_
    refine w_top (hn4) ?_
    refine lv_icmp_ge (tgt := 67) hx hb dX2_changeChute_14 (by decide) (fun c_1 => ?_) (fun c_ => absurd (nI_le (Nat.le_refl n) (by omega)) c_)
    refine lv_aload_n hx hb dX2_changeChute_67 rfl (lv_at hl 0 rfl) ?_
    refine va_get (D := D) (ci := 2) (v := .ref (a 1)) (C := RX2) (T := TX2) (N := 8) hx hb hts tu_2 hown hE.1 hP 0 hw_0 rfl 3 (by decide) (hts _ tw_124) (fun _ h9 => h9) rfl dX2_changeChute_68 ?_
    refine va_get (D := D) (ci := 1) (v := .ref (a 6)) (C := RX1) (T := TX1) (N := 3) hx hb hts tu_1 hown hE.1 hP 1 hw_1 rfl 1 (by decide) (hts _ tw_53) (fun _ h9 => h9) rfl dX2_changeChute_71 ?_
    refine lv_iload_n hx hb dX2_changeChute_74 rfl (lv_at hl 1 rfl) ?_
    refine lv_iload_n hx hb dX2_changeChute_75 rfl (lv_at hl 2 rfl) ?_
    refine c_mVv (rest := []) hC hE hP hD hS hw_same (metX3_put l (ws' := (hw k a (sf S 1 (wr 6 (S 1) f ch)) ++ R)) hw_6 hw_19 (by decide) f ch hws_1) gc_RX2_70 hd_X3_put ⟨rfl, rfl⟩ ⟨Nat.le_of_ble_eq_true rfl, Nat.le_of_ble_eq_true rfl⟩ 6 hw_6 rfl rfl hl.1 (Nat.le_of_ble_eq_true rfl) ⟨Nat.le_of_ble_eq_true rfl, Nat.le_of_ble_eq_true rfl⟩ dX2_changeChute_76 (fun H locs hP hD hS => ?_)
    refine lv_iload_n hx hb dX2_changeChute_79 rfl (lv_at hl 3 rfl) ?_
    exact m_iret hx hb hr hlk dX2_changeChute_80 hP hS (rfl)
  · have hl : lv_has ls 5 [(0, .ref (a 0)), (1, .int f), (2, .int ch), (3, .int (nI (xChgN S f ch i))), (4, .int (nI i))] := hl
    have hP : va_P D vwCl (hw k a S ++ R) H := hP
    have hD : va_D (va_in (hw k a S ++ R)) (hw k a S ++ R) := hD
    refine lv_iload hx hb dX2_changeChute_5 (lv_at hl 4 rfl) ?_
    refine lv_aload_n hx hb dX2_changeChute_7 rfl (lv_at hl 0 rfl) ?_
    refine va_get (D := D) (ci := 2) (v := .ref (a 2)) (C := RX2) (T := TX2) (N := 8) hx hb hts tu_2 hown hE.1 hP 0 hw_0 rfl 4 (by decide) (hts _ tw_126) (fun _ h9 => h9) rfl dX2_changeChute_8 ?_
    refine va_get (D := D) (ci := 0) (v := .int (S 0 4)) (C := RX0) (T := TX0) (N := 9) hx hb hts tu_0 hown hE.1 hP 2 hw_2 rfl 0 (by decide) (hts _ tw_73) (fun _ h9 => h9) rfl dX2_changeChute_11 ?_
    refine w_top (hn4) ?_
    refine lv_icmp_ge (tgt := 67) hx hb dX2_changeChute_14 (by decide) (fun c_ => absurd c_ (nI_ge hi (by omega))) (fun c_2 => ?_)
    refine lv_aload_n hx hb dX2_changeChute_17 rfl (lv_at hl 0 rfl) ?_
    refine va_get (D := D) (ci := 2) (v := .ref (a 2)) (C := RX2) (T := TX2) (N := 8) hx hb hts tu_2 hown hE.1 hP 0 hw_0 rfl 4 (by decide) (hts _ tw_126) (fun _ h9 => h9) rfl dX2_changeChute_18 ?_
    refine va_get (D := D) (ci := 0) (v := .ref (a 8)) (C := RX0) (T := TX0) (N := 9) hx hb hts tu_0 hown hE.1 hP 2 hw_2 rfl 1 (by decide) (hts _ tw_76) (fun _ h9 => h9) rfl dX2_changeChute_21 ?_
    refine lv_iload hx hb dX2_changeChute_24 (lv_at hl 4 rfl) ?_
    refine c_pVi (rest := []) hC hE hP (metX3_at l hw_8 hw_21 (by decide) (nI i)) gc_RX2_63 hd_X3_at ⟨rfl, rfl⟩ ⟨Nat.le_of_ble_eq_true rfl, Nat.le_of_ble_eq_true rfl⟩ 8 hw_8 rfl rfl hl.1 (Nat.le_of_ble_eq_true rfl) ⟨Nat.le_of_ble_eq_true rfl, Nat.le_of_ble_eq_true rfl⟩ dX2_changeChute_26 ?_
    refine w_top (rd_n (n := 40) (j := i) (by omega) (by decide)) ?_
    refine lv_iload_n hx hb dX2_changeChute_29 rfl (lv_at hl 1 rfl) ?_
    refine lv_icmp_ne (tgt := 61) hx hb dX2_changeChute_30 (by decide) (fun c_3 => ?_) (fun c_3 => ?_)
    · refine lv_iinc (v := nI (i + 1)) (lv' := [(4, .int (nI (i + 1))), (0, .ref (a 0)), (1, .int f), (2, .int ch), (3, .int (nI (xChgN S f ch i)))]) hx hb dX2_changeChute_61 hl (k := 4) rfl (iinc1 _) (by decide) rfl (fun ls hl => ?_)
      refine lv_goto (tgt := 5) hx hb dX2_changeChute_64 (by decide) ?_
      have e9 : xChgN S f ch (i + 1) = xChgN S f ch i := ct_f (p := fun i => S 3 i = f ∧ xOwn S (nI i) ∧ ¬ S 7 i = ch) (show ¬ (S 3 i = f ∧ xOwn S (nI i) ∧ (¬ (S 7 i = ch))) from (fun h_ => c_3 h_.1))
      exact ih ls H locs trivial (by show lv_has ls 5 [(0, .ref (a 0)), (1, .int f), (2, .int ch), (3, .int (nI (xChgN S f ch (i + 1)))), (4, .int (nI (i + 1)))]; rw [e9]; exact lv_sub hl [1, 2, 3, 4, 0] rfl) (by show va_P D vwCl (hw k a S ++ R) H; exact hP) (by show va_D (va_in (hw k a S ++ R)) (hw k a S ++ R); exact hD) hS
    · refine lv_aload_n hx hb dX2_changeChute_33 rfl (lv_at hl 0 rfl) ?_
      refine lv_iload hx hb dX2_changeChute_34 (lv_at hl 4 rfl) ?_
      refine c_pVi (rest := []) hC hE hP (metX2_isInOwnChute l S (nI i)) gc_RX2_80 hd_X2_isInOwnChute ⟨rfl, rfl⟩ ⟨Nat.le_of_ble_eq_true rfl, Nat.le_of_ble_eq_true rfl⟩ 0 hw_0 rfl rfl hl.1 (Nat.le_of_ble_eq_true rfl) ⟨Nat.le_of_ble_eq_true rfl, Nat.le_of_ble_eq_true rfl⟩ dX2_changeChute_36 ?_
      refine lv_if_eq (tgt := 61) hx hb dX2_changeChute_39 (by decide) (fun c_4 => ?_) (fun c_4 => ?_)
      · have c_4 := bI_0 c_4
        refine lv_iinc (v := nI (i + 1)) (lv' := [(4, .int (nI (i + 1))), (0, .ref (a 0)), (1, .int f), (2, .int ch), (3, .int (nI (xChgN S f ch i)))]) hx hb dX2_changeChute_61 hl (k := 4) rfl (iinc1 _) (by decide) rfl (fun ls hl => ?_)
        refine lv_goto (tgt := 5) hx hb dX2_changeChute_64 (by decide) ?_
        have e9 : xChgN S f ch (i + 1) = xChgN S f ch i := ct_f (p := fun i => S 3 i = f ∧ xOwn S (nI i) ∧ ¬ S 7 i = ch) (show ¬ (S 3 i = f ∧ xOwn S (nI i) ∧ (¬ (S 7 i = ch))) from (fun h_ => c_4 h_.2.1))
        exact ih ls H locs trivial (by show lv_has ls 5 [(0, .ref (a 0)), (1, .int f), (2, .int ch), (3, .int (nI (xChgN S f ch (i + 1)))), (4, .int (nI (i + 1)))]; rw [e9]; exact lv_sub hl [1, 2, 3, 4, 0] rfl) (by show va_P D vwCl (hw k a S ++ R) H; exact hP) (by show va_D (va_in (hw k a S ++ R)) (hw k a S ++ R); exact hD) hS
      · have c_4 := bI_n c_4
        refine lv_aload_n hx hb dX2_changeChute_42 rfl (lv_at hl 0 rfl) ?_
        refine va_get (D := D) (ci := 2) (v := .ref (a 2)) (C := RX2) (T := TX2) (N := 8) hx hb hts tu_2 hown hE.1 hP 0 hw_0 rfl 4 (by decide) (hts _ tw_126) (fun _ h9 => h9) rfl dX2_changeChute_43 ?_
        refine va_get (D := D) (ci := 0) (v := .ref (a 12)) (C := RX0) (T := TX0) (N := 9) hx hb hts tu_0 hown hE.1 hP 2 hw_2 rfl 5 (by decide) (hts _ tw_86) (fun _ h9 => h9) rfl dX2_changeChute_46 ?_
        refine lv_iload hx hb dX2_changeChute_49 (lv_at hl 4 rfl) ?_
        refine c_pVi (rest := []) hC hE hP (metX3_at l hw_12 hw_25 (by decide) (nI i)) gc_RX2_63 hd_X3_at ⟨rfl, rfl⟩ ⟨Nat.le_of_ble_eq_true rfl, Nat.le_of_ble_eq_true rfl⟩ 12 hw_12 rfl rfl hl.1 (Nat.le_of_ble_eq_true rfl) ⟨Nat.le_of_ble_eq_true rfl, Nat.le_of_ble_eq_true rfl⟩ dX2_changeChute_51 ?_
        refine w_top (rd_n (n := 40) (j := i) (by omega) (by decide)) ?_
        refine lv_iload_n hx hb dX2_changeChute_54 rfl (lv_at hl 2 rfl) ?_
        refine lv_icmp_eq (tgt := 61) hx hb dX2_changeChute_55 (by decide) (fun c_5 => ?_) (fun c_5 => ?_)
        · refine lv_iinc (v := nI (i + 1)) (lv' := [(4, .int (nI (i + 1))), (0, .ref (a 0)), (1, .int f), (2, .int ch), (3, .int (nI (xChgN S f ch i)))]) hx hb dX2_changeChute_61 hl (k := 4) rfl (iinc1 _) (by decide) rfl (fun ls hl => ?_)
          refine lv_goto (tgt := 5) hx hb dX2_changeChute_64 (by decide) ?_
          have e9 : xChgN S f ch (i + 1) = xChgN S f ch i := ct_f (p := fun i => S 3 i = f ∧ xOwn S (nI i) ∧ ¬ S 7 i = ch) (show ¬ (S 3 i = f ∧ xOwn S (nI i) ∧ (¬ (S 7 i = ch))) from (fun h_ => (fun h_ => h_ c_5) h_.2.2))
          exact ih ls H locs trivial (by show lv_has ls 5 [(0, .ref (a 0)), (1, .int f), (2, .int ch), (3, .int (nI (xChgN S f ch (i + 1)))), (4, .int (nI (i + 1)))]; rw [e9]; exact lv_sub hl [1, 2, 3, 4, 0] rfl) (by show va_P D vwCl (hw k a S ++ R) H; exact hP) (by show va_D (va_in (hw k a S ++ R)) (hw k a S ++ R); exact hD) hS
        · refine lv_iinc (v := nI ((xChgN S f ch i) + 1)) (lv' := [(3, .int (nI ((xChgN S f ch i) + 1))), (0, .ref (a 0)), (1, .int f), (2, .int ch), (4, .int (nI i))]) hx hb dX2_changeChute_58 hl (k := 3) rfl (iinc1 _) (by decide) rfl (fun ls hl => ?_)
          refine lv_iinc (v := nI (i + 1)) (lv' := [(4, .int (nI (i + 1))), (3, .int (nI ((xChgN S f ch i) + 1))), (0, .ref (a 0)), (1, .int f), (2, .int ch)]) hx hb dX2_changeChute_61 hl (k := 4) rfl (iinc1 _) (by decide) rfl (fun ls hl => ?_)
          refine lv_goto (tgt := 5) hx hb dX2_changeChute_64 (by decide) ?_
          have e9 : xChgN S f ch (i + 1) = xChgN S f ch i + 1 := ct_t (p := fun i => S 3 i = f ∧ xOwn S (nI i) ∧ ¬ S 7 i = ch) (show (S 3 i = f ∧ xOwn S (nI i) ∧ (¬ (S 7 i = ch))) from ⟨c_3, c_4, c_5⟩)
          exact ih ls H locs trivial (by show lv_has ls 5 [(0, .ref (a 0)), (1, .int f), (2, .int ch), (3, .int (nI (xChgN S f ch (i + 1)))), (4, .int (nI (i + 1)))]; rw [e9]; exact lv_sub hl [2, 3, 4, 1, 0] rfl) (by show va_P D vwCl (hw k a S ++ R) H; exact hP) (by show va_D (va_in (hw k a S ++ R)) (hw k a S ++ R); exact hD) hS

set_option maxHeartbeats 4000000 in
set_option maxRecDepth 100000 in
/-- a chute is swept -/
theorem metX2_clearMisrouted (l : Launch) {D : va_G} {k : Nat → ClassId} {a : Nat → Nat} {R : va_W} (S : HS) (ch : Int32) (n : Nat) (hn4 : S 0 4 = nI n) (hn40 : n ≤ 40) : MM l yX2_clearMisrouted cX2_clearMisrouted 4 (some FieldType.int) rmX2_clearMisrouted D k (hw k a S ++ R) [.ref (a 0), .int ch] (some (.int (nI (xCl S ch n).1))) (hw k a ((xCl S ch n).2) ++ R) := by
  refine MM_of rfl (Nat.le_of_ble_eq_true rfl) ?_
  intro p e s m below meth c hC hr hlk hin hE hP hD hS ls hl
  have hC : CallFix p m c cX2_clearMisrouted 4 s _ lw_all RX2 := hC
  have hx := hC.1
  have hb := hC.2.1
  have hown : s.vm.findClass RX2 = some m.cls := hC.2.2.2.1
  have hts := hC.2.2.2.2
  have hl : lv_has ls 4 [(0, .ref (a 0)), (1, .int ch)] := hl
  refine lv_iconst (v := 0) hx hb dX2_clearMisrouted_0 (by decide) ?_
  refine lv_istore_n (lv' := [(2, .int 0), (0, .ref (a 0)), (1, .int ch)]) hx hb dX2_clearMisrouted_1 rfl hl (by decide) rfl (fun ls hl => ?_)
  refine lv_iconst (v := 0) hx hb dX2_clearMisrouted_2 (by decide) ?_
  refine lv_istore_n (lv' := [(3, .int 0), (2, .int 0), (0, .ref (a 0)), (1, .int ch)]) hx hb dX2_clearMisrouted_3 rfl hl (by decide) rfl (fun ls hl => ?_)
  refine w_forM (N := n) (fun _ => True) (fun i => [(0, .ref (a 0)), (1, .int ch), (2, .int (nI (xCl S ch i).1)), (3, .int (nI i))]) (fun i => (hw k a (xCl S ch i).2 ++ R)) (fun ls H locs hI hl hP hD hS => ?_) (fun i hi hI ih ls H locs hl hP hD hS => ?_) 0 (Nat.zero_le _) trivial (lv_sub hl [2, 3, 1, 0] rfl) hP hD hS
  · have hl : lv_has ls 4 [(0, .ref (a 0)), (1, .int ch), (2, .int (nI (xCl S ch n).1)), (3, .int (nI n))] := hl
    have hP : va_P D vwCl (hw k a (xCl S ch n).2 ++ R) H := hP
    have hD : va_D (va_in (hw k a S ++ R)) (hw k a (xCl S ch n).2 ++ R) := hD
    refine lv_iload_n hx hb dX2_clearMisrouted_4 rfl (lv_at hl 3 rfl) ?_
    refine lv_aload_n hx hb dX2_clearMisrouted_5 rfl (lv_at hl 0 rfl) ?_
    refine va_get (D := D) (ci := 2) (v := .ref (a 2)) (C := RX2) (T := TX2) (N := 8) hx hb hts tu_2 hown hE.1 hP 0 hw_0 rfl 4 (by decide) (hts _ tw_126) (fun _ h9 => h9) rfl dX2_clearMisrouted_6 ?_
    refine va_get (D := D) (ci := 0) (v := .int ((xCl S ch n).2 0 4)) (C := RX0) (T := TX0) (N := 9) hx hb hts tu_0 hown hE.1 hP 2 hw_2 rfl 0 (by decide) (hts _ tw_73) (fun _ h9 => h9) rfl dX2_clearMisrouted_9 ?_
    refine w_top ((congrFun (xCl_0 S ch _) 4).trans hn4) ?_
    refine lv_icmp_ge (tgt := 64) hx hb dX2_clearMisrouted_12 (by decide) (fun c_1 => ?_) (fun c_ => absurd (nI_le (Nat.le_refl n) (by omega)) c_)
    refine lv_iload_n hx hb dX2_clearMisrouted_64 rfl (lv_at hl 2 rfl) ?_
    exact m_iret hx hb hr hlk dX2_clearMisrouted_65 hP hS (rfl)
  · have hl : lv_has ls 4 [(0, .ref (a 0)), (1, .int ch), (2, .int (nI (xCl S ch i).1)), (3, .int (nI i))] := hl
    have hP : va_P D vwCl (hw k a (xCl S ch i).2 ++ R) H := hP
    have hD : va_D (va_in (hw k a S ++ R)) (hw k a (xCl S ch i).2 ++ R) := hD
    refine lv_iload_n hx hb dX2_clearMisrouted_4 rfl (lv_at hl 3 rfl) ?_
    refine lv_aload_n hx hb dX2_clearMisrouted_5 rfl (lv_at hl 0 rfl) ?_
    refine va_get (D := D) (ci := 2) (v := .ref (a 2)) (C := RX2) (T := TX2) (N := 8) hx hb hts tu_2 hown hE.1 hP 0 hw_0 rfl 4 (by decide) (hts _ tw_126) (fun _ h9 => h9) rfl dX2_clearMisrouted_6 ?_
    refine va_get (D := D) (ci := 0) (v := .int ((xCl S ch i).2 0 4)) (C := RX0) (T := TX0) (N := 9) hx hb hts tu_0 hown hE.1 hP 2 hw_2 rfl 0 (by decide) (hts _ tw_73) (fun _ h9 => h9) rfl dX2_clearMisrouted_9 ?_
    refine w_top ((congrFun (xCl_0 S ch _) 4).trans hn4) ?_
    refine lv_icmp_ge (tgt := 64) hx hb dX2_clearMisrouted_12 (by decide) (fun c_ => absurd c_ (nI_ge hi (by omega))) (fun c_2 => ?_)
    refine lv_aload_n hx hb dX2_clearMisrouted_15 rfl (lv_at hl 0 rfl) ?_
    refine va_get (D := D) (ci := 2) (v := .ref (a 2)) (C := RX2) (T := TX2) (N := 8) hx hb hts tu_2 hown hE.1 hP 0 hw_0 rfl 4 (by decide) (hts _ tw_126) (fun _ h9 => h9) rfl dX2_clearMisrouted_16 ?_
    refine va_get (D := D) (ci := 0) (v := .ref (a 12)) (C := RX0) (T := TX0) (N := 9) hx hb hts tu_0 hown hE.1 hP 2 hw_2 rfl 5 (by decide) (hts _ tw_86) (fun _ h9 => h9) rfl dX2_clearMisrouted_19 ?_
    refine lv_iload_n hx hb dX2_clearMisrouted_22 rfl (lv_at hl 3 rfl) ?_
    refine c_pVi (rest := []) hC hE hP (metX3_at l hw_12 hw_25 (by decide) (nI i)) gc_RX2_63 hd_X3_at ⟨rfl, rfl⟩ ⟨Nat.le_of_ble_eq_true rfl, Nat.le_of_ble_eq_true rfl⟩ 12 hw_12 rfl rfl hl.1 (Nat.le_of_ble_eq_true rfl) ⟨Nat.le_of_ble_eq_true rfl, Nat.le_of_ble_eq_true rfl⟩ dX2_clearMisrouted_23 ?_
    refine w_top (rd_n (n := 40) (j := i) (by omega) (by decide)) ?_
    refine lv_iload_n hx hb dX2_clearMisrouted_26 rfl (lv_at hl 1 rfl) ?_
    refine lv_icmp_ne (tgt := 58) hx hb dX2_clearMisrouted_27 (by decide) (fun c_3 => ?_) (fun c_3 => ?_)
    · refine lv_iinc (v := nI (i + 1)) (lv' := [(3, .int (nI (i + 1))), (0, .ref (a 0)), (1, .int ch), (2, .int (nI (xCl S ch i).1))]) hx hb dX2_clearMisrouted_58 hl (k := 3) rfl (iinc1 _) (by decide) rfl (fun ls hl => ?_)
      refine lv_goto (tgt := 4) hx hb dX2_clearMisrouted_61 (by decide) ?_
      have e9 : xCl S ch (i + 1) = (xCl S ch i) := (by show xClS ch i (xCl S ch i) = _; rw [xClS, sel_f (show ¬ ((xCl S ch i).2 7 i = ch ∧ xAst (xCl S ch i).2 (nI i)) from (fun h_ => c_3 h_.1))])
      exact ih ls H locs trivial (by show lv_has ls 4 [(0, .ref (a 0)), (1, .int ch), (2, .int (nI (xCl S ch (i + 1)).1)), (3, .int (nI (i + 1)))]; rw [e9]; exact lv_sub hl [1, 2, 3, 0] rfl) (by show va_P D vwCl (hw k a (xCl S ch (i + 1)).2 ++ R) H; rw [e9]; exact hP) (by show va_D (va_in (hw k a S ++ R)) (hw k a (xCl S ch (i + 1)).2 ++ R); rw [e9]; exact hD) hS
    · refine lv_aload_n hx hb dX2_clearMisrouted_30 rfl (lv_at hl 0 rfl) ?_
      refine lv_iload_n hx hb dX2_clearMisrouted_31 rfl (lv_at hl 3 rfl) ?_
      refine c_pVi (rest := []) hC hE hP (metX2_isAstray l (xCl S ch i).2 (nI i)) gc_RX2_88 hd_X2_isAstray ⟨rfl, rfl⟩ ⟨Nat.le_of_ble_eq_true rfl, Nat.le_of_ble_eq_true rfl⟩ 0 hw_0 rfl rfl hl.1 (Nat.le_of_ble_eq_true rfl) ⟨Nat.le_of_ble_eq_true rfl, Nat.le_of_ble_eq_true rfl⟩ dX2_clearMisrouted_32 ?_
      refine lv_if_eq (tgt := 58) hx hb dX2_clearMisrouted_35 (by decide) (fun c_4 => ?_) (fun c_4 => ?_)
      · have c_4 := bI_0 c_4
        refine lv_iinc (v := nI (i + 1)) (lv' := [(3, .int (nI (i + 1))), (0, .ref (a 0)), (1, .int ch), (2, .int (nI (xCl S ch i).1))]) hx hb dX2_clearMisrouted_58 hl (k := 3) rfl (iinc1 _) (by decide) rfl (fun ls hl => ?_)
        refine lv_goto (tgt := 4) hx hb dX2_clearMisrouted_61 (by decide) ?_
        have e9 : xCl S ch (i + 1) = (xCl S ch i) := (by show xClS ch i (xCl S ch i) = _; rw [xClS, sel_f (show ¬ ((xCl S ch i).2 7 i = ch ∧ xAst (xCl S ch i).2 (nI i)) from (fun h_ => c_4 h_.2))])
        exact ih ls H locs trivial (by show lv_has ls 4 [(0, .ref (a 0)), (1, .int ch), (2, .int (nI (xCl S ch (i + 1)).1)), (3, .int (nI (i + 1)))]; rw [e9]; exact lv_sub hl [1, 2, 3, 0] rfl) (by show va_P D vwCl (hw k a (xCl S ch (i + 1)).2 ++ R) H; rw [e9]; exact hP) (by show va_D (va_in (hw k a S ++ R)) (hw k a (xCl S ch (i + 1)).2 ++ R); rw [e9]; exact hD) hS
      · have c_4 := bI_n c_4
        refine lv_aload_n hx hb dX2_clearMisrouted_38 rfl (lv_at hl 0 rfl) ?_
        refine va_get (D := D) (ci := 2) (v := .ref (a 2)) (C := RX2) (T := TX2) (N := 8) hx hb hts tu_2 hown hE.1 hP 0 hw_0 rfl 4 (by decide) (hts _ tw_126) (fun _ h9 => h9) rfl dX2_clearMisrouted_39 ?_
        refine lv_iload_n hx hb dX2_clearMisrouted_42 rfl (lv_at hl 3 rfl) ?_
        refine lv_iconst (v := 3) hx hb dX2_clearMisrouted_43 (by decide) ?_
        refine c_mVv (rest := []) hC hE hP hD hS hw_same (metX0_takeFromChute l (xCl S ch i).2 (nI i) 3) gc_RX2_91 hd_X0_takeFromChute ⟨rfl, rfl⟩ ⟨Nat.le_of_ble_eq_true rfl, Nat.le_of_ble_eq_true rfl⟩ 2 hw_2 rfl rfl hl.1 (Nat.le_of_ble_eq_true rfl) ⟨Nat.le_of_ble_eq_true rfl, Nat.le_of_ble_eq_true rfl⟩ dX2_clearMisrouted_44 (fun H locs hP hD hS => ?_)
        refine lv_aload_n hx hb dX2_clearMisrouted_47 rfl (lv_at hl 0 rfl) ?_
        refine va_get (D := D) (ci := 2) (v := .ref (a 2)) (C := RX2) (T := TX2) (N := 8) hx hb hts tu_2 hown hE.1 hP 0 hw_0 rfl 4 (by decide) (hts _ tw_126) (fun _ h9 => h9) rfl dX2_clearMisrouted_48 ?_
        refine lv_iload_n hx hb dX2_clearMisrouted_51 rfl (lv_at hl 3 rfl) ?_
        refine c_mVv (rest := []) hC hE hP hD hS hw_same (metX0_closeFile l (xOff (xCl S ch i).2 (nI i) 3) (nI i)) gc_RX2_94 hd_X0_closeFile ⟨rfl, rfl⟩ ⟨Nat.le_of_ble_eq_true rfl, Nat.le_of_ble_eq_true rfl⟩ 2 hw_2 rfl rfl hl.1 (Nat.le_of_ble_eq_true rfl) ⟨Nat.le_of_ble_eq_true rfl, Nat.le_of_ble_eq_true rfl⟩ dX2_clearMisrouted_52 (fun H locs hP hD hS => ?_)
        refine lv_iinc (v := nI ((xCl S ch i).1 + 1)) (lv' := [(2, .int (nI ((xCl S ch i).1 + 1))), (0, .ref (a 0)), (1, .int ch), (3, .int (nI i))]) hx hb dX2_clearMisrouted_55 hl (k := 2) rfl (iinc1 _) (by decide) rfl (fun ls hl => ?_)
        refine lv_iinc (v := nI (i + 1)) (lv' := [(3, .int (nI (i + 1))), (2, .int (nI ((xCl S ch i).1 + 1))), (0, .ref (a 0)), (1, .int ch)]) hx hb dX2_clearMisrouted_58 hl (k := 3) rfl (iinc1 _) (by decide) rfl (fun ls hl => ?_)
        refine lv_goto (tgt := 4) hx hb dX2_clearMisrouted_61 (by decide) ?_
        have e9 : xCl S ch (i + 1) = (((xCl S ch i).1 + 1), xClose (xOff (xCl S ch i).2 (nI i) 3) (nI i)) := (by show xClS ch i (xCl S ch i) = _; rw [xClS, sel_t (show ((xCl S ch i).2 7 i = ch ∧ xAst (xCl S ch i).2 (nI i)) from ⟨c_3, c_4⟩)])
        exact ih ls H locs trivial (by show lv_has ls 4 [(0, .ref (a 0)), (1, .int ch), (2, .int (nI (xCl S ch (i + 1)).1)), (3, .int (nI (i + 1)))]; rw [e9]; exact lv_sub hl [2, 3, 1, 0] rfl) (by show va_P D vwCl (hw k a (xCl S ch (i + 1)).2 ++ R) H; rw [e9]; exact hP) (by show va_D (va_in (hw k a S ++ R)) (hw k a (xCl S ch (i + 1)).2 ++ R); rw [e9]; exact hD) hS

set_option maxHeartbeats 4000000 in
set_option maxRecDepth 100000 in
/-- a flight leaves -/
theorem metX2_letLeave (l : Launch) {D : va_G} {k : Nat → ClassId} {a : Nat → Nat} {R : va_W} (S : HS) (f : Int32) (n : Nat) (hn4 : S 0 4 = nI n) (hn40 : n ≤ 40) : MM l yX2_letLeave cX2_letLeave 4 (some FieldType.int) rmX2_letLeave D k (hw k a S ++ R) [.ref (a 0), .int f] (some (.int (nI (xLv S f n).1))) (hw k a (xLeave S f n) ++ R) := by
  refine MM_of rfl (Nat.le_of_ble_eq_true rfl) ?_
  intro p e s m below meth c hC hr hlk hin hE hP hD hS ls hl
  have hC : CallFix p m c cX2_letLeave 4 s _ lw_all RX2 := hC
  have hx := hC.1
  have hb := hC.2.1
  have hown : s.vm.findClass RX2 = some m.cls := hC.2.2.2.1
  have hts := hC.2.2.2.2
  have hl : lv_has ls 4 [(0, .ref (a 0)), (1, .int f)] := hl
  refine lv_iconst (v := 0) hx hb dX2_letLeave_0 (by decide) ?_
  refine lv_istore_n (lv' := [(2, .int 0), (0, .ref (a 0)), (1, .int f)]) hx hb dX2_letLeave_1 rfl hl (by decide) rfl (fun ls hl => ?_)
  refine lv_iconst (v := 0) hx hb dX2_letLeave_2 (by decide) ?_
  refine lv_istore_n (lv' := [(3, .int 0), (2, .int 0), (0, .ref (a 0)), (1, .int f)]) hx hb dX2_letLeave_3 rfl hl (by decide) rfl (fun ls hl => ?_)
  refine w_forM (N := n) (fun _ => True) (fun i => [(0, .ref (a 0)), (1, .int f), (2, .int (nI (xLv S f i).1)), (3, .int (nI i))]) (fun i => (hw k a (xLv S f i).2 ++ R)) (fun ls H locs hI hl hP hD hS => ?_) (fun i hi hI ih ls H locs hl hP hD hS => ?_) 0 (Nat.zero_le _) trivial (lv_sub hl [2, 3, 1, 0] rfl) hP hD hS
  · have hl : lv_has ls 4 [(0, .ref (a 0)), (1, .int f), (2, .int (nI (xLv S f n).1)), (3, .int (nI n))] := hl
    have hP : va_P D vwCl (hw k a (xLv S f n).2 ++ R) H := hP
    have hD : va_D (va_in (hw k a S ++ R)) (hw k a (xLv S f n).2 ++ R) := hD
    refine lv_iload_n hx hb dX2_letLeave_4 rfl (lv_at hl 3 rfl) ?_
    refine lv_aload_n hx hb dX2_letLeave_5 rfl (lv_at hl 0 rfl) ?_
    refine va_get (D := D) (ci := 2) (v := .ref (a 2)) (C := RX2) (T := TX2) (N := 8) hx hb hts tu_2 hown hE.1 hP 0 hw_0 rfl 4 (by decide) (hts _ tw_126) (fun _ h9 => h9) rfl dX2_letLeave_6 ?_
    refine va_get (D := D) (ci := 0) (v := .int ((xLv S f n).2 0 4)) (C := RX0) (T := TX0) (N := 9) hx hb hts tu_0 hown hE.1 hP 2 hw_2 rfl 0 (by decide) (hts _ tw_73) (fun _ h9 => h9) rfl dX2_letLeave_9 ?_
    refine w_top ((congrFun (xLv_0 S f _) 4).trans hn4) ?_
    refine lv_icmp_ge (tgt := 74) hx hb dX2_letLeave_12 (by decide) (fun c_1 => ?_) (fun c_ => absurd (nI_le (Nat.le_refl n) (by omega)) c_)
    refine lv_aload_n hx hb dX2_letLeave_74 rfl (lv_at hl 0 rfl) ?_
    refine va_get (D := D) (ci := 2) (v := .ref (a 1)) (C := RX2) (T := TX2) (N := 8) hx hb hts tu_2 hown hE.1 hP 0 hw_0 rfl 3 (by decide) (hts _ tw_124) (fun _ h9 => h9) rfl dX2_letLeave_75 ?_
    refine va_get (D := D) (ci := 1) (v := .ref (a 7)) (C := RX1) (T := TX1) (N := 3) hx hb hts tu_1 hown hE.1 hP 1 hw_1 rfl 2 (by decide) (hts _ tw_56) (fun _ h9 => h9) rfl dX2_letLeave_78 ?_
    refine lv_iload_n hx hb dX2_letLeave_81 rfl (lv_at hl 1 rfl) ?_
    refine lv_iconst (v := 1) hx hb dX2_letLeave_82 (by decide) ?_
    refine c_mVv (rest := []) hC hE hP hD hS hw_same (metX3_put l (ws' := (hw k a (sf (xLv S f n).2 2 (wr 6 ((xLv S f n).2 2) f 1)) ++ R)) hw_7 hw_20 (by decide) f 1 hws_2) gc_RX2_70 hd_X3_put ⟨rfl, rfl⟩ ⟨Nat.le_of_ble_eq_true rfl, Nat.le_of_ble_eq_true rfl⟩ 7 hw_7 rfl rfl hl.1 (Nat.le_of_ble_eq_true rfl) ⟨Nat.le_of_ble_eq_true rfl, Nat.le_of_ble_eq_true rfl⟩ dX2_letLeave_83 (fun H locs hP hD hS => ?_)
    refine lv_iload_n hx hb dX2_letLeave_86 rfl (lv_at hl 2 rfl) ?_
    exact m_iret hx hb hr hlk dX2_letLeave_87 hP hS (rfl)
  · have hl : lv_has ls 4 [(0, .ref (a 0)), (1, .int f), (2, .int (nI (xLv S f i).1)), (3, .int (nI i))] := hl
    have hP : va_P D vwCl (hw k a (xLv S f i).2 ++ R) H := hP
    have hD : va_D (va_in (hw k a S ++ R)) (hw k a (xLv S f i).2 ++ R) := hD
    refine lv_iload_n hx hb dX2_letLeave_4 rfl (lv_at hl 3 rfl) ?_
    refine lv_aload_n hx hb dX2_letLeave_5 rfl (lv_at hl 0 rfl) ?_
    refine va_get (D := D) (ci := 2) (v := .ref (a 2)) (C := RX2) (T := TX2) (N := 8) hx hb hts tu_2 hown hE.1 hP 0 hw_0 rfl 4 (by decide) (hts _ tw_126) (fun _ h9 => h9) rfl dX2_letLeave_6 ?_
    refine va_get (D := D) (ci := 0) (v := .int ((xLv S f i).2 0 4)) (C := RX0) (T := TX0) (N := 9) hx hb hts tu_0 hown hE.1 hP 2 hw_2 rfl 0 (by decide) (hts _ tw_73) (fun _ h9 => h9) rfl dX2_letLeave_9 ?_
    refine w_top ((congrFun (xLv_0 S f _) 4).trans hn4) ?_
    refine lv_icmp_ge (tgt := 74) hx hb dX2_letLeave_12 (by decide) (fun c_ => absurd c_ (nI_ge hi (by omega))) (fun c_2 => ?_)
    refine lv_aload_n hx hb dX2_letLeave_15 rfl (lv_at hl 0 rfl) ?_
    refine va_get (D := D) (ci := 2) (v := .ref (a 2)) (C := RX2) (T := TX2) (N := 8) hx hb hts tu_2 hown hE.1 hP 0 hw_0 rfl 4 (by decide) (hts _ tw_126) (fun _ h9 => h9) rfl dX2_letLeave_16 ?_
    refine va_get (D := D) (ci := 0) (v := .ref (a 8)) (C := RX0) (T := TX0) (N := 9) hx hb hts tu_0 hown hE.1 hP 2 hw_2 rfl 1 (by decide) (hts _ tw_76) (fun _ h9 => h9) rfl dX2_letLeave_19 ?_
    refine lv_iload_n hx hb dX2_letLeave_22 rfl (lv_at hl 3 rfl) ?_
    refine c_pVi (rest := []) hC hE hP (metX3_at l hw_8 hw_21 (by decide) (nI i)) gc_RX2_63 hd_X3_at ⟨rfl, rfl⟩ ⟨Nat.le_of_ble_eq_true rfl, Nat.le_of_ble_eq_true rfl⟩ 8 hw_8 rfl rfl hl.1 (Nat.le_of_ble_eq_true rfl) ⟨Nat.le_of_ble_eq_true rfl, Nat.le_of_ble_eq_true rfl⟩ dX2_letLeave_23 ?_
    refine w_top (rd_n (n := 40) (j := i) (by omega) (by decide)) ?_
    refine lv_iload_n hx hb dX2_letLeave_26 rfl (lv_at hl 1 rfl) ?_
    refine lv_icmp_eq (tgt := 33) hx hb dX2_letLeave_27 (by decide) (fun c_3 => ?_) (fun c_3 => ?_)
    · refine lv_aload_n hx hb dX2_letLeave_33 rfl (lv_at hl 0 rfl) ?_
      refine lv_iload_n hx hb dX2_letLeave_34 rfl (lv_at hl 3 rfl) ?_
      refine c_pVi (rest := []) hC hE hP (metX2_isInOwnChute l (xLv S f i).2 (nI i)) gc_RX2_80 hd_X2_isInOwnChute ⟨rfl, rfl⟩ ⟨Nat.le_of_ble_eq_true rfl, Nat.le_of_ble_eq_true rfl⟩ 0 hw_0 rfl rfl hl.1 (Nat.le_of_ble_eq_true rfl) ⟨Nat.le_of_ble_eq_true rfl, Nat.le_of_ble_eq_true rfl⟩ dX2_letLeave_35 ?_
      refine lv_if_eq (tgt := 56) hx hb dX2_letLeave_38 (by decide) (fun c_4 => ?_) (fun c_4 => ?_)
      · have c_4 := bI_0 c_4
        refine lv_aload_n hx hb dX2_letLeave_56 rfl (lv_at hl 0 rfl) ?_
        refine va_get (D := D) (ci := 2) (v := .ref (a 2)) (C := RX2) (T := TX2) (N := 8) hx hb hts tu_2 hown hE.1 hP 0 hw_0 rfl 4 (by decide) (hts _ tw_126) (fun _ h9 => h9) rfl dX2_letLeave_57 ?_
        refine va_get (D := D) (ci := 0) (v := .ref (a 15)) (C := RX0) (T := TX0) (N := 9) hx hb hts tu_0 hown hE.1 hP 2 hw_2 rfl 8 (by decide) (hts _ tw_95) (fun _ h9 => h9) rfl dX2_letLeave_60 ?_
        refine lv_iload_n hx hb dX2_letLeave_63 rfl (lv_at hl 3 rfl) ?_
        refine lv_iconst (v := 1) hx hb dX2_letLeave_64 (by decide) ?_
        refine c_mVv (rest := []) hC hE hP hD hS hw_same (metX3_put l (ws' := (hw k a (sf (xLv S f i).2 10 (upd ((xLv S f i).2 10) i 1)) ++ R)) hw_15 hw_28 (by decide) (nI i) 1 (hwq_10 (wr_n (j := i) (by omega) (by decide)))) gc_RX2_70 hd_X3_put ⟨rfl, rfl⟩ ⟨Nat.le_of_ble_eq_true rfl, Nat.le_of_ble_eq_true rfl⟩ 15 hw_15 rfl rfl hl.1 (Nat.le_of_ble_eq_true rfl) ⟨Nat.le_of_ble_eq_true rfl, Nat.le_of_ble_eq_true rfl⟩ dX2_letLeave_65 (fun H locs hP hD hS => ?_)
        refine lv_iinc (v := nI (i + 1)) (lv' := [(3, .int (nI (i + 1))), (0, .ref (a 0)), (1, .int f), (2, .int (nI (xLv S f i).1))]) hx hb dX2_letLeave_68 hl (k := 3) rfl (iinc1 _) (by decide) rfl (fun ls hl => ?_)
        refine lv_goto (tgt := 4) hx hb dX2_letLeave_71 (by decide) ?_
        have e9 : xLv S f (i + 1) = ((xLv S f i).1, sf (xLv S f i).2 10 (upd ((xLv S f i).2 10) i 1)) := (by show xLvS f i (xLv S f i) = _; rw [xLvS, sel_t (show (xLv S f i).2 3 i = f from c_3), sel_f (show ¬ (xOwn (xLv S f i).2 (nI i)) from c_4)])
        exact ih ls H locs trivial (by show lv_has ls 4 [(0, .ref (a 0)), (1, .int f), (2, .int (nI (xLv S f (i + 1)).1)), (3, .int (nI (i + 1)))]; rw [e9]; exact lv_sub hl [1, 2, 3, 0] rfl) (by show va_P D vwCl (hw k a (xLv S f (i + 1)).2 ++ R) H; rw [e9]; exact hP) (by show va_D (va_in (hw k a S ++ R)) (hw k a (xLv S f (i + 1)).2 ++ R); rw [e9]; exact hD) hS
      · have c_4 := bI_n c_4
        refine lv_aload_n hx hb dX2_letLeave_41 rfl (lv_at hl 0 rfl) ?_
        refine va_get (D := D) (ci := 2) (v := .ref (a 2)) (C := RX2) (T := TX2) (N := 8) hx hb hts tu_2 hown hE.1 hP 0 hw_0 rfl 4 (by decide) (hts _ tw_126) (fun _ h9 => h9) rfl dX2_letLeave_42 ?_
        refine lv_iload_n hx hb dX2_letLeave_45 rfl (lv_at hl 3 rfl) ?_
        refine lv_iconst (v := 5) hx hb dX2_letLeave_46 (by decide) ?_
        refine c_mVv (rest := []) hC hE hP hD hS hw_same (metX0_takeFromChute l (xLv S f i).2 (nI i) 5) gc_RX2_91 hd_X0_takeFromChute ⟨rfl, rfl⟩ ⟨Nat.le_of_ble_eq_true rfl, Nat.le_of_ble_eq_true rfl⟩ 2 hw_2 rfl rfl hl.1 (Nat.le_of_ble_eq_true rfl) ⟨Nat.le_of_ble_eq_true rfl, Nat.le_of_ble_eq_true rfl⟩ dX2_letLeave_47 (fun H locs hP hD hS => ?_)
        refine lv_iinc (v := nI ((xLv S f i).1 + 1)) (lv' := [(2, .int (nI ((xLv S f i).1 + 1))), (0, .ref (a 0)), (1, .int f), (3, .int (nI i))]) hx hb dX2_letLeave_50 hl (k := 2) rfl (iinc1 _) (by decide) rfl (fun ls hl => ?_)
        refine lv_goto (tgt := 68) hx hb dX2_letLeave_53 (by decide) ?_
        refine lv_iinc (v := nI (i + 1)) (lv' := [(3, .int (nI (i + 1))), (2, .int (nI ((xLv S f i).1 + 1))), (0, .ref (a 0)), (1, .int f)]) hx hb dX2_letLeave_68 hl (k := 3) rfl (iinc1 _) (by decide) rfl (fun ls hl => ?_)
        refine lv_goto (tgt := 4) hx hb dX2_letLeave_71 (by decide) ?_
        have e9 : xLv S f (i + 1) = (((xLv S f i).1 + 1), xOff (xLv S f i).2 (nI i) 5) := (by show xLvS f i (xLv S f i) = _; rw [xLvS, sel_t (show (xLv S f i).2 3 i = f from c_3), sel_t (show xOwn (xLv S f i).2 (nI i) from c_4)])
        exact ih ls H locs trivial (by show lv_has ls 4 [(0, .ref (a 0)), (1, .int f), (2, .int (nI (xLv S f (i + 1)).1)), (3, .int (nI (i + 1)))]; rw [e9]; exact lv_sub hl [2, 3, 1, 0] rfl) (by show va_P D vwCl (hw k a (xLv S f (i + 1)).2 ++ R) H; rw [e9]; exact hP) (by show va_D (va_in (hw k a S ++ R)) (hw k a (xLv S f (i + 1)).2 ++ R); rw [e9]; exact hD) hS
    · refine lv_goto (tgt := 68) hx hb dX2_letLeave_30 (by decide) ?_
      refine lv_iinc (v := nI (i + 1)) (lv' := [(3, .int (nI (i + 1))), (0, .ref (a 0)), (1, .int f), (2, .int (nI (xLv S f i).1))]) hx hb dX2_letLeave_68 hl (k := 3) rfl (iinc1 _) (by decide) rfl (fun ls hl => ?_)
      refine lv_goto (tgt := 4) hx hb dX2_letLeave_71 (by decide) ?_
      have e9 : xLv S f (i + 1) = (xLv S f i) := (by show xLvS f i (xLv S f i) = _; rw [xLvS, sel_f (show ¬ ((xLv S f i).2 3 i = f) from c_3)])
      exact ih ls H locs trivial (by show lv_has ls 4 [(0, .ref (a 0)), (1, .int f), (2, .int (nI (xLv S f (i + 1)).1)), (3, .int (nI (i + 1)))]; rw [e9]; exact lv_sub hl [1, 2, 3, 0] rfl) (by show va_P D vwCl (hw k a (xLv S f (i + 1)).2 ++ R) H; rw [e9]; exact hP) (by show va_D (va_in (hw k a S ++ R)) (hw k a (xLv S f (i + 1)).2 ++ R); rw [e9]; exact hD) hS

set_option maxHeartbeats 4000000 in
set_option maxRecDepth 100000 in
theorem metX2_missTag (l : Launch) {D : va_G} {k : Nat → ClassId} {a : Nat → Nat} {R : va_W} (S : HS) (b : Int32) : MM l yX2_missTag cX2_missTag 3 none rmX2_missTag D k (hw k a S ++ R) [.ref (a 0), .int b] none (hw k a (xMiss S b) ++ R) := by
  refine MM_of rfl (Nat.le_of_ble_eq_true rfl) ?_
  intro p e s m below meth c hC hr hlk hin hE hP hD hS ls hl
  have hC : CallFix p m c cX2_missTag 3 s _ lw_all RX2 := hC
  have hx := hC.1
  have hb := hC.2.1
  have hown : s.vm.findClass RX2 = some m.cls := hC.2.2.2.1
  have hts := hC.2.2.2.2
  have hl : lv_has ls 3 [(0, .ref (a 0)), (1, .int b)] := hl
  refine lv_aload_n hx hb dX2_missTag_0 rfl (lv_at hl 0 rfl) ?_
  refine va_get (D := D) (ci := 2) (v := .ref (a 2)) (C := RX2) (T := TX2) (N := 8) hx hb hts tu_2 hown hE.1 hP 0 hw_0 rfl 4 (by decide) (hts _ tw_126) (fun _ h9 => h9) rfl dX2_missTag_1 ?_
  refine va_get (D := D) (ci := 0) (v := .ref (a 14)) (C := RX0) (T := TX0) (N := 9) hx hb hts tu_0 hown hE.1 hP 2 hw_2 rfl 7 (by decide) (hts _ tw_92) (fun _ h9 => h9) rfl dX2_missTag_4 ?_
  refine lv_iload_n hx hb dX2_missTag_7 rfl (lv_at hl 1 rfl) ?_
  refine c_pVi (rest := []) hC hE hP (metX3_at l hw_14 hw_27 (by decide) b) gc_RX2_63 hd_X3_at ⟨rfl, rfl⟩ ⟨Nat.le_of_ble_eq_true rfl, Nat.le_of_ble_eq_true rfl⟩ 14 hw_14 rfl rfl hl.1 (Nat.le_of_ble_eq_true rfl) ⟨Nat.le_of_ble_eq_true rfl, Nat.le_of_ble_eq_true rfl⟩ dX2_missTag_8 ?_
  refine lv_iconst (v := 1) hx hb dX2_missTag_11 (by decide) ?_
  refine lv_iadd hx hb dX2_missTag_12 ?_
  refine lv_istore_n (lv' := [(2, .int ((rd 40 (S 9) b) + 1)), (0, .ref (a 0)), (1, .int b)]) hx hb dX2_missTag_13 rfl hl (by decide) rfl (fun ls hl => ?_)
  refine lv_aload_n hx hb dX2_missTag_14 rfl (lv_at hl 1 rfl) ?_
  refine va_get (D := D) (ci := 2) (v := .ref (a 2)) (C := RX2) (T := TX2) (N := 8) hx hb hts tu_2 hown hE.1 hP 0 hw_0 rfl 4 (by decide) (hts _ tw_126) (fun _ h9 => h9) rfl dX2_missTag_15 ?_
  refine va_get (D := D) (ci := 0) (v := .ref (a 14)) (C := RX0) (T := TX0) (N := 9) hx hb hts tu_0 hown hE.1 hP 2 hw_2 rfl 7 (by decide) (hts _ tw_92) (fun _ h9 => h9) rfl dX2_missTag_18 ?_
  refine lv_iload_n hx hb dX2_missTag_21 rfl (lv_at hl 2 rfl) ?_
  refine lv_iload_n hx hb dX2_missTag_22 rfl (lv_at hl 0 rfl) ?_
  refine c_mVv (rest := []) hC hE hP hD hS hw_same (metX3_put l (ws' := (hw k a (sf S 9 (wr 40 (S 9) b ((rd 40 (S 9) b) + 1))) ++ R)) hw_14 hw_27 (by decide) b ((rd 40 (S 9) b) + 1) hws_9) gc_RX2_70 hd_X3_put ⟨rfl, rfl⟩ ⟨Nat.le_of_ble_eq_true rfl, Nat.le_of_ble_eq_true rfl⟩ 14 hw_14 rfl rfl hl.1 (Nat.le_of_ble_eq_true rfl) ⟨Nat.le_of_ble_eq_true rfl, Nat.le_of_ble_eq_true rfl⟩ dX2_missTag_23 (fun H locs hP hD hS => ?_)
  refine lv_iload_n hx hb dX2_missTag_26 rfl (lv_at hl 0 rfl) ?_
  refine lv_iconst (v := 3) hx hb dX2_missTag_27 (by decide) ?_
  refine lv_icmp_lt (tgt := 52) hx hb dX2_missTag_28 (by decide) (fun c_1 => ?_) (fun c_1 => ?_)
  · have e9 : xMiss S b = sf S 9 (wr 40 (S 9) b ((rd 40 (S 9) b) + 1)) := by rw [xMiss, sel_t (show (rd 40 (S 9) b) + 1 < 3 from c_1)]; first | done | rfl
    exact m_vret hx hb hr hlk dX2_missTag_52 (by rw [e9]; exact hP) hS
  · refine lv_aload_n hx hb dX2_missTag_31 rfl (lv_at hl 1 rfl) ?_
    refine va_get (D := D) (ci := 2) (v := .ref (a 4)) (C := RX2) (T := TX2) (N := 8) hx hb hts tu_2 hown hE.1 hP 0 hw_0 rfl 6 (by decide) (hts _ tw_130) (fun _ h9 => h9) rfl dX2_missTag_32 ?_
    refine lv_iconst (v := 2) hx hb dX2_missTag_35 (by decide) ?_
    refine lv_iconst (v := (-1)) hx hb dX2_missTag_36 (by decide) ?_
    refine c_mVv (rest := []) hC hE hP hD hS hw_same (metX3_put l (ws' := (hw k a (sf (sf S 9 (wr 40 (S 9) b ((rd 40 (S 9) b) + 1))) 12 (upd (S 12) 2 (-1))) ++ R)) hw_4 hw_17 (by decide) 2 (-1) (hwq_12 (wr_n (j := 2) (by decide) (by decide)))) gc_RX2_70 hd_X3_put ⟨rfl, rfl⟩ ⟨Nat.le_of_ble_eq_true rfl, Nat.le_of_ble_eq_true rfl⟩ 4 hw_4 rfl rfl hl.1 (Nat.le_of_ble_eq_true rfl) ⟨Nat.le_of_ble_eq_true rfl, Nat.le_of_ble_eq_true rfl⟩ dX2_missTag_37 (fun H locs hP hD hS => ?_)
    refine lv_aload_n hx hb dX2_missTag_40 rfl (lv_at hl 1 rfl) ?_
    refine va_get (D := D) (ci := 2) (v := .ref (a 2)) (C := RX2) (T := TX2) (N := 8) hx hb hts tu_2 hown hE.1 hP 0 hw_0 rfl 4 (by decide) (hts _ tw_126) (fun _ h9 => h9) rfl dX2_missTag_41 ?_
    refine va_get (D := D) (ci := 0) (v := .ref (a 11)) (C := RX0) (T := TX0) (N := 9) hx hb hts tu_0 hown hE.1 hP 2 hw_2 rfl 4 (by decide) (hts _ tw_83) (fun _ h9 => h9) rfl dX2_missTag_44 ?_
    refine lv_iload_n hx hb dX2_missTag_47 rfl (lv_at hl 2 rfl) ?_
    refine lv_iconst (v := 3) hx hb dX2_missTag_48 (by decide) ?_
    refine c_mVv (rest := []) hC hE hP hD hS hw_same (metX3_put l (ws' := (hw k a (sf (sf (sf S 9 (wr 40 (S 9) b ((rd 40 (S 9) b) + 1))) 12 (upd (S 12) 2 (-1))) 6 (wr 40 (S 6) b 3)) ++ R)) hw_11 hw_24 (by decide) b 3 hws_6) gc_RX2_70 hd_X3_put ⟨rfl, rfl⟩ ⟨Nat.le_of_ble_eq_true rfl, Nat.le_of_ble_eq_true rfl⟩ 11 hw_11 rfl rfl hl.1 (Nat.le_of_ble_eq_true rfl) ⟨Nat.le_of_ble_eq_true rfl, Nat.le_of_ble_eq_true rfl⟩ dX2_missTag_49 (fun H locs hP hD hS => ?_)
    have e9 : xMiss S b = sf (sf (sf S 9 (wr 40 (S 9) b ((rd 40 (S 9) b) + 1))) 12 (upd (S 12) 2 (-1))) 6 (wr 40 (S 6) b 3) := by rw [xMiss, sel_f (show ¬ ((rd 40 (S 9) b) + 1 < 3) from c_1)]; first | done | rfl
    exact m_vret hx hb hr hlk dX2_missTag_52 (by rw [e9]; exact hP) hS

set_option maxHeartbeats 4000000 in
set_option maxRecDepth 100000 in
/-- the reader -/
theorem metX2_readTag (l : Launch) {D : va_G} {k : Nat → ClassId} {a : Nat → Nat} {R : va_W} (S : HS) : MM l yX2_readTag cX2_readTag 3 none rmX2_readTag D k (hw k a S ++ R) [.ref (a 0)] none (hw k a (xTag S) ++ R) := by
  refine MM_of rfl (Nat.le_of_ble_eq_true rfl) ?_
  intro p e s m below meth c hC hr hlk hin hE hP hD hS ls hl
  have hC : CallFix p m c cX2_readTag 3 s _ lw_all RX2 := hC
  have hx := hC.1
  have hb := hC.2.1
  have hown : s.vm.findClass RX2 = some m.cls := hC.2.2.2.1
  have hts := hC.2.2.2.2
  have hl : lv_has ls 3 [(0, .ref (a 0))] := hl
  refine lv_aload_n hx hb dX2_readTag_0 rfl (lv_at hl 0 rfl) ?_
  refine va_get (D := D) (ci := 2) (v := .ref (a 4)) (C := RX2) (T := TX2) (N := 8) hx hb hts tu_2 hown hE.1 hP 0 hw_0 rfl 6 (by decide) (hts _ tw_130) (fun _ h9 => h9) rfl dX2_readTag_1 ?_
  refine lv_iconst (v := 2) hx hb dX2_readTag_4 (by decide) ?_
  refine c_pVi (rest := []) hC hE hP (metX3_at l hw_4 hw_17 (by decide) 2) gc_RX2_63 hd_X3_at ⟨rfl, rfl⟩ ⟨Nat.le_of_ble_eq_true rfl, Nat.le_of_ble_eq_true rfl⟩ 4 hw_4 rfl rfl hl.1 (Nat.le_of_ble_eq_true rfl) ⟨Nat.le_of_ble_eq_true rfl, Nat.le_of_ble_eq_true rfl⟩ dX2_readTag_5 ?_
  refine w_top (rd_n (n := 12) (j := 2) (by decide) (by decide)) ?_
  refine lv_istore_n (lv' := [(1, .int (S 12 2)), (0, .ref (a 0))]) hx hb dX2_readTag_8 rfl hl (by decide) rfl (fun ls hl => ?_)
  refine lv_iload_n hx hb dX2_readTag_9 rfl (lv_at hl 0 rfl) ?_
  refine lv_iconst (v := (-1)) hx hb dX2_readTag_10 (by decide) ?_
  refine lv_icmp_eq (tgt := 29) hx hb dX2_readTag_11 (by decide) (fun c_1 => ?_) (fun c_1 => ?_)
  · have e9 : xTag S = S := by rw [xTag, sel_t (show S 12 2 = (-1) from c_1)]; first | done | rfl
    exact m_vret hx hb hr hlk dX2_readTag_29 (by rw [e9]; exact hP) hS
  · refine lv_aload_n hx hb dX2_readTag_14 rfl (lv_at hl 1 rfl) ?_
    refine va_get (D := D) (ci := 2) (v := .ref (a 2)) (C := RX2) (T := TX2) (N := 8) hx hb hts tu_2 hown hE.1 hP 0 hw_0 rfl 4 (by decide) (hts _ tw_126) (fun _ h9 => h9) rfl dX2_readTag_15 ?_
    refine va_get (D := D) (ci := 0) (v := .ref (a 13)) (C := RX0) (T := TX0) (N := 9) hx hb hts tu_0 hown hE.1 hP 2 hw_2 rfl 6 (by decide) (hts _ tw_89) (fun _ h9 => h9) rfl dX2_readTag_18 ?_
    refine lv_iload_n hx hb dX2_readTag_21 rfl (lv_at hl 0 rfl) ?_
    refine c_pVi (rest := []) hC hE hP (metX3_at l hw_13 hw_26 (by decide) (S 12 2)) gc_RX2_63 hd_X3_at ⟨rfl, rfl⟩ ⟨Nat.le_of_ble_eq_true rfl, Nat.le_of_ble_eq_true rfl⟩ 13 hw_13 rfl rfl hl.1 (Nat.le_of_ble_eq_true rfl) ⟨Nat.le_of_ble_eq_true rfl, Nat.le_of_ble_eq_true rfl⟩ dX2_readTag_22 ?_
    refine lv_iconst (v := (-1)) hx hb dX2_readTag_25 (by decide) ?_
    refine lv_icmp_eq (tgt := 30) hx hb dX2_readTag_26 (by decide) (fun c_2 => ?_) (fun c_2 => ?_)
    · refine lv_aload_n hx hb dX2_readTag_30 rfl (lv_at hl 1 rfl) ?_
      refine va_get (D := D) (ci := 2) (v := .ref (a 1)) (C := RX2) (T := TX2) (N := 8) hx hb hts tu_2 hown hE.1 hP 0 hw_0 rfl 3 (by decide) (hts _ tw_124) (fun _ h9 => h9) rfl dX2_readTag_31 ?_
      refine va_get (D := D) (ci := 1) (v := .ref (a 6)) (C := RX1) (T := TX1) (N := 3) hx hb hts tu_1 hown hE.1 hP 1 hw_1 rfl 1 (by decide) (hts _ tw_53) (fun _ h9 => h9) rfl dX2_readTag_34 ?_
      refine lv_aload_n hx hb dX2_readTag_37 rfl (lv_at hl 1 rfl) ?_
      refine va_get (D := D) (ci := 2) (v := .ref (a 2)) (C := RX2) (T := TX2) (N := 8) hx hb hts tu_2 hown hE.1 hP 0 hw_0 rfl 4 (by decide) (hts _ tw_126) (fun _ h9 => h9) rfl dX2_readTag_38 ?_
      refine va_get (D := D) (ci := 0) (v := .ref (a 8)) (C := RX0) (T := TX0) (N := 9) hx hb hts tu_0 hown hE.1 hP 2 hw_2 rfl 1 (by decide) (hts _ tw_76) (fun _ h9 => h9) rfl dX2_readTag_41 ?_
      refine lv_iload_n hx hb dX2_readTag_44 rfl (lv_at hl 0 rfl) ?_
      refine c_pVi (rest := [.ref (a 6)]) hC hE hP (metX3_at l hw_8 hw_21 (by decide) (S 12 2)) gc_RX2_63 hd_X3_at ⟨rfl, rfl⟩ ⟨Nat.le_of_ble_eq_true rfl, Nat.le_of_ble_eq_true rfl⟩ 8 hw_8 rfl rfl hl.1 (Nat.le_of_ble_eq_true rfl) ⟨Nat.le_of_ble_eq_true rfl, Nat.le_of_ble_eq_true rfl⟩ dX2_readTag_45 ?_
      refine c_pVi (rest := []) hC hE hP (metX3_at l hw_6 hw_19 (by decide) (rd 40 (S 3) (S 12 2))) gc_RX2_63 hd_X3_at ⟨rfl, rfl⟩ ⟨Nat.le_of_ble_eq_true rfl, Nat.le_of_ble_eq_true rfl⟩ 6 hw_6 rfl rfl hl.1 (Nat.le_of_ble_eq_true rfl) ⟨Nat.le_of_ble_eq_true rfl, Nat.le_of_ble_eq_true rfl⟩ dX2_readTag_48 ?_
      refine lv_istore_n (lv' := [(2, .int (rd 6 (S 1) (rd 40 (S 3) (S 12 2)))), (1, .int (S 12 2)), (0, .ref (a 0))]) hx hb dX2_readTag_51 rfl hl (by decide) rfl (fun ls hl => ?_)
      refine lv_aload_n hx hb dX2_readTag_52 rfl (lv_at hl 2 rfl) ?_
      refine va_get (D := D) (ci := 2) (v := .ref (a 2)) (C := RX2) (T := TX2) (N := 8) hx hb hts tu_2 hown hE.1 hP 0 hw_0 rfl 4 (by decide) (hts _ tw_126) (fun _ h9 => h9) rfl dX2_readTag_53 ?_
      refine va_get (D := D) (ci := 0) (v := .ref (a 10)) (C := RX0) (T := TX0) (N := 9) hx hb hts tu_0 hown hE.1 hP 2 hw_2 rfl 3 (by decide) (hts _ tw_81) (fun _ h9 => h9) rfl dX2_readTag_56 ?_
      refine lv_iload_n hx hb dX2_readTag_59 rfl (lv_at hl 1 rfl) ?_
      refine c_pVi (rest := []) hC hE hP (metX3_at l hw_10 hw_23 (by decide) (S 12 2)) gc_RX2_63 hd_X3_at ⟨rfl, rfl⟩ ⟨Nat.le_of_ble_eq_true rfl, Nat.le_of_ble_eq_true rfl⟩ 10 hw_10 rfl rfl hl.1 (Nat.le_of_ble_eq_true rfl) ⟨Nat.le_of_ble_eq_true rfl, Nat.le_of_ble_eq_true rfl⟩ dX2_readTag_60 ?_
      refine lv_aload_n hx hb dX2_readTag_63 rfl (lv_at hl 2 rfl) ?_
      refine va_get (D := D) (ci := 2) (v := .int (S 0 1)) (C := RX2) (T := TX2) (N := 8) hx hb hts tu_2 hown hE.1 hP 0 hw_0 rfl 1 (by decide) (hts _ tw_120) (fun _ h9 => h9) rfl dX2_readTag_64 ?_
      refine lv_icmp_gt (tgt := 90) hx hb dX2_readTag_67 (by decide) (fun c_3 => ?_) (fun c_3 => ?_)
      · refine lv_aload_n hx hb dX2_readTag_90 rfl (lv_at hl 2 rfl) ?_
        refine lv_iload_n hx hb dX2_readTag_91 rfl (lv_at hl 1 rfl) ?_
        refine c_mVv (rest := []) hC hE hP hD hS hw_same (metX2_missTag l S (S 12 2)) gc_RX2_126 hd_X2_missTag ⟨rfl, rfl⟩ ⟨Nat.le_of_ble_eq_true rfl, Nat.le_of_ble_eq_true rfl⟩ 0 hw_0 rfl rfl hl.1 (Nat.le_of_ble_eq_true rfl) ⟨Nat.le_of_ble_eq_true rfl, Nat.le_of_ble_eq_true rfl⟩ dX2_readTag_92 (fun H locs hP hD hS => ?_)
        have e9 : xTag S = xMiss S (S 12 2) := by rw [xTag, sel_f (show ¬ (S 12 2 = (-1)) from c_1), sel_t (show rd 40 (S 8) (S 12 2) = (-1) from c_2), sel_f (show ¬ ((¬ (S 0 1 < rd 40 (S 5) (S 12 2))) ∧ (¬ (rd 6 (S 1) (rd 40 (S 3) (S 12 2)) = (-1)))) from (fun h_ => (fun h_ => h_ c_3) h_.1))]; first | done | rfl
        exact m_vret hx hb hr hlk dX2_readTag_95 (by rw [e9]; exact hP) hS
      · refine lv_iload_n hx hb dX2_readTag_70 rfl (lv_at hl 0 rfl) ?_
        refine lv_iconst (v := (-1)) hx hb dX2_readTag_71 (by decide) ?_
        refine lv_icmp_eq (tgt := 90) hx hb dX2_readTag_72 (by decide) (fun c_4 => ?_) (fun c_4 => ?_)
        · refine lv_aload_n hx hb dX2_readTag_90 rfl (lv_at hl 2 rfl) ?_
          refine lv_iload_n hx hb dX2_readTag_91 rfl (lv_at hl 1 rfl) ?_
          refine c_mVv (rest := []) hC hE hP hD hS hw_same (metX2_missTag l S (S 12 2)) gc_RX2_126 hd_X2_missTag ⟨rfl, rfl⟩ ⟨Nat.le_of_ble_eq_true rfl, Nat.le_of_ble_eq_true rfl⟩ 0 hw_0 rfl rfl hl.1 (Nat.le_of_ble_eq_true rfl) ⟨Nat.le_of_ble_eq_true rfl, Nat.le_of_ble_eq_true rfl⟩ dX2_readTag_92 (fun H locs hP hD hS => ?_)
          have e9 : xTag S = xMiss S (S 12 2) := by rw [xTag, sel_f (show ¬ (S 12 2 = (-1)) from c_1), sel_t (show rd 40 (S 8) (S 12 2) = (-1) from c_2), sel_f (show ¬ ((¬ (S 0 1 < rd 40 (S 5) (S 12 2))) ∧ (¬ (rd 6 (S 1) (rd 40 (S 3) (S 12 2)) = (-1)))) from (fun h_ => (fun h_ => h_ c_4) h_.2))]; first | done | rfl
          exact m_vret hx hb hr hlk dX2_readTag_95 (by rw [e9]; exact hP) hS
        · refine lv_aload_n hx hb dX2_readTag_75 rfl (lv_at hl 2 rfl) ?_
          refine va_get (D := D) (ci := 2) (v := .ref (a 2)) (C := RX2) (T := TX2) (N := 8) hx hb hts tu_2 hown hE.1 hP 0 hw_0 rfl 4 (by decide) (hts _ tw_126) (fun _ h9 => h9) rfl dX2_readTag_76 ?_
          refine va_get (D := D) (ci := 0) (v := .ref (a 13)) (C := RX0) (T := TX0) (N := 9) hx hb hts tu_0 hown hE.1 hP 2 hw_2 rfl 6 (by decide) (hts _ tw_89) (fun _ h9 => h9) rfl dX2_readTag_79 ?_
          refine lv_iload_n hx hb dX2_readTag_82 rfl (lv_at hl 1 rfl) ?_
          refine lv_iload_n hx hb dX2_readTag_83 rfl (lv_at hl 0 rfl) ?_
          refine c_mVv (rest := []) hC hE hP hD hS hw_same (metX3_put l (ws' := (hw k a (sf S 8 (wr 40 (S 8) (S 12 2) (rd 6 (S 1) (rd 40 (S 3) (S 12 2))))) ++ R)) hw_13 hw_26 (by decide) (S 12 2) (rd 6 (S 1) (rd 40 (S 3) (S 12 2))) hws_8) gc_RX2_70 hd_X3_put ⟨rfl, rfl⟩ ⟨Nat.le_of_ble_eq_true rfl, Nat.le_of_ble_eq_true rfl⟩ 13 hw_13 rfl rfl hl.1 (Nat.le_of_ble_eq_true rfl) ⟨Nat.le_of_ble_eq_true rfl, Nat.le_of_ble_eq_true rfl⟩ dX2_readTag_84 (fun H locs hP hD hS => ?_)
          refine lv_goto (tgt := 95) hx hb dX2_readTag_87 (by decide) ?_
          have e9 : xTag S = sf S 8 (wr 40 (S 8) (S 12 2) (rd 6 (S 1) (rd 40 (S 3) (S 12 2)))) := by rw [xTag, sel_f (show ¬ (S 12 2 = (-1)) from c_1), sel_t (show rd 40 (S 8) (S 12 2) = (-1) from c_2), sel_t (show ((¬ (S 0 1 < rd 40 (S 5) (S 12 2))) ∧ (¬ (rd 6 (S 1) (rd 40 (S 3) (S 12 2)) = (-1)))) from ⟨c_3, c_4⟩)]; first | done | rfl
          exact m_vret hx hb hr hlk dX2_readTag_95 (by rw [e9]; exact hP) hS
    · have e9 : xTag S = S := by rw [xTag, sel_f (show ¬ (S 12 2 = (-1)) from c_1), sel_f (show ¬ (rd 40 (S 8) (S 12 2) = (-1)) from c_2)]; first | done | rfl
      exact m_vret hx hb hr hlk dX2_readTag_29 (by rw [e9]; exact hP) hS

set_option maxHeartbeats 4000000 in
set_option maxRecDepth 100000 in
/-- the chutes -/
theorem metX2_fillChutes (l : Launch) {D : va_G} {k : Nat → ClassId} {a : Nat → Nat} {R : va_W} (S : HS) : MM l yX2_fillChutes cX2_fillChutes 5 (some FieldType.int) rmX2_fillChutes D k (hw k a S ++ R) [.ref (a 0)] (some (.int (nI (xFl S 4).1))) (hw k a ((xFl S 4).2) ++ R) := by
  refine MM_of rfl (Nat.le_of_ble_eq_true rfl) ?_
  intro p e s m below meth c hC hr hlk hin hE hP hD hS ls hl
  have hC : CallFix p m c cX2_fillChutes 5 s _ lw_all RX2 := hC
  have hx := hC.1
  have hb := hC.2.1
  have hown : s.vm.findClass RX2 = some m.cls := hC.2.2.2.1
  have hts := hC.2.2.2.2
  have hl : lv_has ls 5 [(0, .ref (a 0))] := hl
  refine lv_iconst (v := 0) hx hb dX2_fillChutes_0 (by decide) ?_
  refine lv_istore_n (lv' := [(1, .int 0), (0, .ref (a 0))]) hx hb dX2_fillChutes_1 rfl hl (by decide) rfl (fun ls hl => ?_)
  refine lv_iconst (v := 0) hx hb dX2_fillChutes_2 (by decide) ?_
  refine lv_istore_n (lv' := [(2, .int 0), (1, .int 0), (0, .ref (a 0))]) hx hb dX2_fillChutes_3 rfl hl (by decide) rfl (fun ls hl => ?_)
  refine w_forM (N := 4) (fun _ => True) (fun i => [(0, .ref (a 0)), (1, .int (nI (xFl S i).1)), (2, .int (nI i))]) (fun i => (hw k a (xFl S i).2 ++ R)) (fun ls H locs hI hl hP hD hS => ?_) (fun i hi hI ih ls H locs hl hP hD hS => ?_) 0 (Nat.zero_le _) trivial (lv_sub hl [2, 1, 0] rfl) hP hD hS
  · have hl : lv_has ls 5 [(0, .ref (a 0)), (1, .int (nI (xFl S 4).1)), (2, .int (nI 4))] := hl
    have hP : va_P D vwCl (hw k a (xFl S 4).2 ++ R) H := hP
    have hD : va_D (va_in (hw k a S ++ R)) (hw k a (xFl S 4).2 ++ R) := hD
    refine lv_iload_n hx hb dX2_fillChutes_4 rfl (lv_at hl 2 rfl) ?_
    refine lv_iconst (v := 4) hx hb dX2_fillChutes_5 (by decide) ?_
    refine lv_icmp_ge (tgt := 83) hx hb dX2_fillChutes_6 (by decide) (fun c_1 => ?_) (fun c_ => absurd (nI_le (a := 4) (b := 4) (Nat.le_refl 4) (by decide)) c_)
    refine lv_iload_n hx hb dX2_fillChutes_83 rfl (lv_at hl 1 rfl) ?_
    exact m_iret hx hb hr hlk dX2_fillChutes_84 hP hS (rfl)
  · have hl : lv_has ls 5 [(0, .ref (a 0)), (1, .int (nI (xFl S i).1)), (2, .int (nI i))] := hl
    have hP : va_P D vwCl (hw k a (xFl S i).2 ++ R) H := hP
    have hD : va_D (va_in (hw k a S ++ R)) (hw k a (xFl S i).2 ++ R) := hD
    refine lv_iload_n hx hb dX2_fillChutes_4 rfl (lv_at hl 2 rfl) ?_
    refine lv_iconst (v := 4) hx hb dX2_fillChutes_5 (by decide) ?_
    refine lv_icmp_ge (tgt := 83) hx hb dX2_fillChutes_6 (by decide) (fun c_ => absurd c_ (nI_ge (b := 4) hi (by decide))) (fun c_2 => ?_)
    refine lv_iconst (v := 4) hx hb dX2_fillChutes_9 (by decide) ?_
    refine lv_iconst (v := 2) hx hb dX2_fillChutes_10 (by decide) ?_
    refine lv_iload_n hx hb dX2_fillChutes_11 rfl (lv_at hl 2 rfl) ?_
    refine lv_imul hx hb dX2_fillChutes_12 ?_
    refine lv_iadd hx hb dX2_fillChutes_13 ?_
    refine w_top (place_n i) ?_
    refine lv_istore_n (lv' := [(3, .int (nI (4 + 2 * i))), (0, .ref (a 0)), (1, .int (nI (xFl S i).1)), (2, .int (nI i))]) hx hb dX2_fillChutes_14 rfl hl (by decide) rfl (fun ls hl => ?_)
    refine lv_aload_n hx hb dX2_fillChutes_15 rfl (lv_at hl 1 rfl) ?_
    refine va_get (D := D) (ci := 2) (v := .ref (a 4)) (C := RX2) (T := TX2) (N := 8) hx hb hts tu_2 hown hE.1 hP 0 hw_0 rfl 6 (by decide) (hts _ tw_130) (fun _ h9 => h9) rfl dX2_fillChutes_16 ?_
    refine lv_iload_n hx hb dX2_fillChutes_19 rfl (lv_at hl 0 rfl) ?_
    refine c_pVi (rest := []) hC hE hP (metX3_at l hw_4 hw_17 (by decide) (nI (4 + 2 * i))) gc_RX2_63 hd_X3_at ⟨rfl, rfl⟩ ⟨Nat.le_of_ble_eq_true rfl, Nat.le_of_ble_eq_true rfl⟩ 4 hw_4 rfl rfl hl.1 (Nat.le_of_ble_eq_true rfl) ⟨Nat.le_of_ble_eq_true rfl, Nat.le_of_ble_eq_true rfl⟩ dX2_fillChutes_20 ?_
    refine w_top (rd_n (n := 12) (j := (4 + 2 * i)) (by omega) (by decide)) ?_
    refine lv_istore (lv' := [(4, .int ((xFl S i).2 12 (4 + 2 * i))), (3, .int (nI (4 + 2 * i))), (0, .ref (a 0)), (1, .int (nI (xFl S i).1)), (2, .int (nI i))]) hx hb dX2_fillChutes_23 hl (by decide) rfl (fun ls hl => ?_)
    refine lv_iload hx hb dX2_fillChutes_25 (lv_at hl 0 rfl) ?_
    refine lv_iconst (v := (-1)) hx hb dX2_fillChutes_27 (by decide) ?_
    refine lv_icmp_eq (tgt := 77) hx hb dX2_fillChutes_28 (by decide) (fun c_3 => ?_) (fun c_3 => ?_)
    · refine lv_iinc (v := nI (i + 1)) (lv' := [(2, .int (nI (i + 1))), (4, .int ((xFl S i).2 12 (4 + 2 * i))), (3, .int (nI (4 + 2 * i))), (0, .ref (a 0)), (1, .int (nI (xFl S i).1))]) hx hb dX2_fillChutes_77 hl (k := 4) rfl (iinc1 _) (by decide) rfl (fun ls hl => ?_)
      refine lv_goto (tgt := 4) hx hb dX2_fillChutes_80 (by decide) ?_
      have e9 : xFl S (i + 1) = (xFl S i) := (by show xFlS i (xFl S i) = _; rw [xFlS, sel_f (show ¬ ((¬ ((xFl S i).2 12 (4 + 2 * i) = (-1))) ∧ rd 40 ((xFl S i).2 8) ((xFl S i).2 12 (4 + 2 * i)) = nI i ∧ xRoom (xFl S i).2 (nI i)) from (fun h_ => (fun h_ => h_ c_3) h_.1))])
      exact ih ls H locs trivial (by show lv_has ls 5 [(0, .ref (a 0)), (1, .int (nI (xFl S (i + 1)).1)), (2, .int (nI (i + 1)))]; rw [e9]; exact lv_sub hl [3, 4, 0] rfl) (by show va_P D vwCl (hw k a (xFl S (i + 1)).2 ++ R) H; rw [e9]; exact hP) (by show va_D (va_in (hw k a S ++ R)) (hw k a (xFl S (i + 1)).2 ++ R); rw [e9]; exact hD) hS
    · refine lv_aload_n hx hb dX2_fillChutes_31 rfl (lv_at hl 2 rfl) ?_
      refine va_get (D := D) (ci := 2) (v := .ref (a 2)) (C := RX2) (T := TX2) (N := 8) hx hb hts tu_2 hown hE.1 hP 0 hw_0 rfl 4 (by decide) (hts _ tw_126) (fun _ h9 => h9) rfl dX2_fillChutes_32 ?_
      refine va_get (D := D) (ci := 0) (v := .ref (a 13)) (C := RX0) (T := TX0) (N := 9) hx hb hts tu_0 hown hE.1 hP 2 hw_2 rfl 6 (by decide) (hts _ tw_89) (fun _ h9 => h9) rfl dX2_fillChutes_35 ?_
      refine lv_iload hx hb dX2_fillChutes_38 (lv_at hl 0 rfl) ?_
      refine c_pVi (rest := []) hC hE hP (metX3_at l hw_13 hw_26 (by decide) ((xFl S i).2 12 (4 + 2 * i))) gc_RX2_63 hd_X3_at ⟨rfl, rfl⟩ ⟨Nat.le_of_ble_eq_true rfl, Nat.le_of_ble_eq_true rfl⟩ 13 hw_13 rfl rfl hl.1 (Nat.le_of_ble_eq_true rfl) ⟨Nat.le_of_ble_eq_true rfl, Nat.le_of_ble_eq_true rfl⟩ dX2_fillChutes_40 ?_
      refine lv_iload_n hx hb dX2_fillChutes_43 rfl (lv_at hl 4 rfl) ?_
      refine lv_icmp_ne (tgt := 77) hx hb dX2_fillChutes_44 (by decide) (fun c_4 => ?_) (fun c_4 => ?_)
      · refine lv_iinc (v := nI (i + 1)) (lv' := [(2, .int (nI (i + 1))), (4, .int ((xFl S i).2 12 (4 + 2 * i))), (3, .int (nI (4 + 2 * i))), (0, .ref (a 0)), (1, .int (nI (xFl S i).1))]) hx hb dX2_fillChutes_77 hl (k := 4) rfl (iinc1 _) (by decide) rfl (fun ls hl => ?_)
        refine lv_goto (tgt := 4) hx hb dX2_fillChutes_80 (by decide) ?_
        have e9 : xFl S (i + 1) = (xFl S i) := (by show xFlS i (xFl S i) = _; rw [xFlS, sel_f (show ¬ ((¬ ((xFl S i).2 12 (4 + 2 * i) = (-1))) ∧ rd 40 ((xFl S i).2 8) ((xFl S i).2 12 (4 + 2 * i)) = nI i ∧ xRoom (xFl S i).2 (nI i)) from (fun h_ => c_4 h_.2.1))])
        exact ih ls H locs trivial (by show lv_has ls 5 [(0, .ref (a 0)), (1, .int (nI (xFl S (i + 1)).1)), (2, .int (nI (i + 1)))]; rw [e9]; exact lv_sub hl [3, 4, 0] rfl) (by show va_P D vwCl (hw k a (xFl S (i + 1)).2 ++ R) H; rw [e9]; exact hP) (by show va_D (va_in (hw k a S ++ R)) (hw k a (xFl S (i + 1)).2 ++ R); rw [e9]; exact hD) hS
      · refine lv_aload_n hx hb dX2_fillChutes_47 rfl (lv_at hl 2 rfl) ?_
        refine lv_iload_n hx hb dX2_fillChutes_48 rfl (lv_at hl 4 rfl) ?_
        refine c_pVi (rest := []) hC hE hP (metX2_hasRoom l (xFl S i).2 (nI i)) gc_RX2_132 hd_X2_hasRoom ⟨rfl, rfl⟩ ⟨Nat.le_of_ble_eq_true rfl, Nat.le_of_ble_eq_true rfl⟩ 0 hw_0 rfl rfl hl.1 (Nat.le_of_ble_eq_true rfl) ⟨Nat.le_of_ble_eq_true rfl, Nat.le_of_ble_eq_true rfl⟩ dX2_fillChutes_49 ?_
        refine lv_if_eq (tgt := 77) hx hb dX2_fillChutes_52 (by decide) (fun c_5 => ?_) (fun c_5 => ?_)
        · have c_5 := bI_0 c_5
          refine lv_iinc (v := nI (i + 1)) (lv' := [(2, .int (nI (i + 1))), (4, .int ((xFl S i).2 12 (4 + 2 * i))), (3, .int (nI (4 + 2 * i))), (0, .ref (a 0)), (1, .int (nI (xFl S i).1))]) hx hb dX2_fillChutes_77 hl (k := 4) rfl (iinc1 _) (by decide) rfl (fun ls hl => ?_)
          refine lv_goto (tgt := 4) hx hb dX2_fillChutes_80 (by decide) ?_
          have e9 : xFl S (i + 1) = (xFl S i) := (by show xFlS i (xFl S i) = _; rw [xFlS, sel_f (show ¬ ((¬ ((xFl S i).2 12 (4 + 2 * i) = (-1))) ∧ rd 40 ((xFl S i).2 8) ((xFl S i).2 12 (4 + 2 * i)) = nI i ∧ xRoom (xFl S i).2 (nI i)) from (fun h_ => c_5 h_.2.2))])
          exact ih ls H locs trivial (by show lv_has ls 5 [(0, .ref (a 0)), (1, .int (nI (xFl S (i + 1)).1)), (2, .int (nI (i + 1)))]; rw [e9]; exact lv_sub hl [3, 4, 0] rfl) (by show va_P D vwCl (hw k a (xFl S (i + 1)).2 ++ R) H; rw [e9]; exact hP) (by show va_D (va_in (hw k a S ++ R)) (hw k a (xFl S (i + 1)).2 ++ R); rw [e9]; exact hD) hS
        · have c_5 := bI_n c_5
          refine lv_aload_n hx hb dX2_fillChutes_55 rfl (lv_at hl 2 rfl) ?_
          refine va_get (D := D) (ci := 2) (v := .ref (a 4)) (C := RX2) (T := TX2) (N := 8) hx hb hts tu_2 hown hE.1 hP 0 hw_0 rfl 6 (by decide) (hts _ tw_130) (fun _ h9 => h9) rfl dX2_fillChutes_56 ?_
          refine lv_iload_n hx hb dX2_fillChutes_59 rfl (lv_at hl 1 rfl) ?_
          refine lv_iconst (v := (-1)) hx hb dX2_fillChutes_60 (by decide) ?_
          refine c_mVv (rest := []) hC hE hP hD hS hw_same (metX3_put l (ws' := (hw k a (sf (xFl S i).2 12 (upd ((xFl S i).2 12) (4 + 2 * i) (-1))) ++ R)) hw_4 hw_17 (by decide) (nI (4 + 2 * i)) (-1) (hwq_12 (wr_n (j := (4 + 2 * i)) (by omega) (by decide)))) gc_RX2_70 hd_X3_put ⟨rfl, rfl⟩ ⟨Nat.le_of_ble_eq_true rfl, Nat.le_of_ble_eq_true rfl⟩ 4 hw_4 rfl rfl hl.1 (Nat.le_of_ble_eq_true rfl) ⟨Nat.le_of_ble_eq_true rfl, Nat.le_of_ble_eq_true rfl⟩ dX2_fillChutes_61 (fun H locs hP hD hS => ?_)
          refine lv_aload_n hx hb dX2_fillChutes_64 rfl (lv_at hl 2 rfl) ?_
          refine va_get (D := D) (ci := 2) (v := .ref (a 2)) (C := RX2) (T := TX2) (N := 8) hx hb hts tu_2 hown hE.1 hP 0 hw_0 rfl 4 (by decide) (hts _ tw_126) (fun _ h9 => h9) rfl dX2_fillChutes_65 ?_
          refine lv_iload hx hb dX2_fillChutes_68 (lv_at hl 0 rfl) ?_
          refine lv_iload_n hx hb dX2_fillChutes_70 rfl (lv_at hl 4 rfl) ?_
          refine c_mVv (rest := []) hC hE hP hD hS hw_same (metX0_putIntoChute l (sf (xFl S i).2 12 (upd ((xFl S i).2 12) (4 + 2 * i) (-1))) ((xFl S i).2 12 (4 + 2 * i)) (nI i)) gc_RX2_135 hd_X0_putIntoChute ⟨rfl, rfl⟩ ⟨Nat.le_of_ble_eq_true rfl, Nat.le_of_ble_eq_true rfl⟩ 2 hw_2 rfl rfl hl.1 (Nat.le_of_ble_eq_true rfl) ⟨Nat.le_of_ble_eq_true rfl, Nat.le_of_ble_eq_true rfl⟩ dX2_fillChutes_71 (fun H locs hP hD hS => ?_)
          refine lv_iinc (v := nI ((xFl S i).1 + 1)) (lv' := [(1, .int (nI ((xFl S i).1 + 1))), (4, .int ((xFl S i).2 12 (4 + 2 * i))), (3, .int (nI (4 + 2 * i))), (0, .ref (a 0)), (2, .int (nI i))]) hx hb dX2_fillChutes_74 hl (k := 3) rfl (iinc1 _) (by decide) rfl (fun ls hl => ?_)
          refine lv_iinc (v := nI (i + 1)) (lv' := [(2, .int (nI (i + 1))), (1, .int (nI ((xFl S i).1 + 1))), (4, .int ((xFl S i).2 12 (4 + 2 * i))), (3, .int (nI (4 + 2 * i))), (0, .ref (a 0))]) hx hb dX2_fillChutes_77 hl (k := 4) rfl (iinc1 _) (by decide) rfl (fun ls hl => ?_)
          refine lv_goto (tgt := 4) hx hb dX2_fillChutes_80 (by decide) ?_
          have e9 : xFl S (i + 1) = (((xFl S i).1 + 1), xPut (sf (xFl S i).2 12 (upd ((xFl S i).2 12) (4 + 2 * i) (-1))) ((xFl S i).2 12 (4 + 2 * i)) (nI i)) := (by show xFlS i (xFl S i) = _; rw [xFlS, sel_t (show ((¬ ((xFl S i).2 12 (4 + 2 * i) = (-1))) ∧ rd 40 ((xFl S i).2 8) ((xFl S i).2 12 (4 + 2 * i)) = nI i ∧ xRoom (xFl S i).2 (nI i)) from ⟨c_3, c_4, c_5⟩)])
          exact ih ls H locs trivial (by show lv_has ls 5 [(0, .ref (a 0)), (1, .int (nI (xFl S (i + 1)).1)), (2, .int (nI (i + 1)))]; rw [e9]; exact lv_sub hl [4, 1, 0] rfl) (by show va_P D vwCl (hw k a (xFl S (i + 1)).2 ++ R) H; rw [e9]; exact hP) (by show va_D (va_in (hw k a S ++ R)) (hw k a (xFl S (i + 1)).2 ++ R); rw [e9]; exact hD) hS

set_option maxHeartbeats 4000000 in
set_option maxRecDepth 100000 in
/-- the first in line -/
theorem metX2_feedBelt (l : Launch) {D : va_G} {k : Nat → ClassId} {a : Nat → Nat} {R : va_W} (S : HS) : MM l yX2_feedBelt cX2_feedBelt 2 none rmX2_feedBelt D k (hw k a S ++ R) [.ref (a 0)] none (hw k a (xFeed S) ++ R) := by
  refine MM_of rfl (Nat.le_of_ble_eq_true rfl) ?_
  intro p e s m below meth c hC hr hlk hin hE hP hD hS ls hl
  have hC : CallFix p m c cX2_feedBelt 2 s _ lw_all RX2 := hC
  have hx := hC.1
  have hb := hC.2.1
  have hown : s.vm.findClass RX2 = some m.cls := hC.2.2.2.1
  have hts := hC.2.2.2.2
  have hl : lv_has ls 2 [(0, .ref (a 0))] := hl
  refine lv_aload_n hx hb dX2_feedBelt_0 rfl (lv_at hl 0 rfl) ?_
  refine va_get (D := D) (ci := 2) (v := .ref (a 4)) (C := RX2) (T := TX2) (N := 8) hx hb hts tu_2 hown hE.1 hP 0 hw_0 rfl 6 (by decide) (hts _ tw_130) (fun _ h9 => h9) rfl dX2_feedBelt_1 ?_
  refine lv_iconst (v := 0) hx hb dX2_feedBelt_4 (by decide) ?_
  refine c_pVi (rest := []) hC hE hP (metX3_at l hw_4 hw_17 (by decide) 0) gc_RX2_63 hd_X3_at ⟨rfl, rfl⟩ ⟨Nat.le_of_ble_eq_true rfl, Nat.le_of_ble_eq_true rfl⟩ 4 hw_4 rfl rfl hl.1 (Nat.le_of_ble_eq_true rfl) ⟨Nat.le_of_ble_eq_true rfl, Nat.le_of_ble_eq_true rfl⟩ dX2_feedBelt_5 ?_
  refine w_top (rd_n (n := 12) (j := 0) (by decide) (by decide)) ?_
  refine lv_iconst (v := (-1)) hx hb dX2_feedBelt_8 (by decide) ?_
  refine lv_icmp_ne (tgt := 19) hx hb dX2_feedBelt_9 (by decide) (fun c_1 => ?_) (fun c_1 => ?_)
  · have e9 : xFeed S = S := by rw [xFeed, sel_f (show ¬ (S 12 0 = (-1) ∧ 0 < S 0 2) from (fun h_ => c_1 h_.1))]; first | done | rfl
    exact m_vret hx hb hr hlk dX2_feedBelt_19 (by rw [e9]; exact hP) hS
  · refine lv_aload_n hx hb dX2_feedBelt_12 rfl (lv_at hl 0 rfl) ?_
    refine va_get (D := D) (ci := 2) (v := .int (S 0 2)) (C := RX2) (T := TX2) (N := 8) hx hb hts tu_2 hown hE.1 hP 0 hw_0 rfl 2 (by decide) (hts _ tw_122) (fun _ h9 => h9) rfl dX2_feedBelt_13 ?_
    refine lv_if_gt (tgt := 20) hx hb dX2_feedBelt_16 (by decide) (fun c_2 => ?_) (fun c_2 => ?_)
    · refine lv_aload_n hx hb dX2_feedBelt_20 rfl (lv_at hl 0 rfl) ?_
      refine va_get (D := D) (ci := 2) (v := .ref (a 5)) (C := RX2) (T := TX2) (N := 8) hx hb hts tu_2 hown hE.1 hP 0 hw_0 rfl 7 (by decide) (hts _ tw_132) (fun _ h9 => h9) rfl dX2_feedBelt_21 ?_
      refine c_mVi (rest := []) hC hE hP hD hS hw_same (metX3_takeFront l (ws' := (hw k a (sf S 13 (xfront 40 (S 13))) ++ R)) hw_5 hw_18 (by decide) (by decide) hws_13) gc_RX2_138 hd_X3_takeFront ⟨rfl, rfl⟩ ⟨Nat.le_of_ble_eq_true rfl, Nat.le_of_ble_eq_true rfl⟩ 5 hw_5 rfl rfl hl.1 (Nat.le_of_ble_eq_true rfl) ⟨Nat.le_of_ble_eq_true rfl, Nat.le_of_ble_eq_true rfl⟩ dX2_feedBelt_24 (fun H locs hP hD hS => ?_)
      refine lv_istore_n (lv' := [(1, .int (S 13 0)), (0, .ref (a 0))]) hx hb dX2_feedBelt_27 rfl hl (by decide) rfl (fun ls hl => ?_)
      refine lv_aload_n hx hb dX2_feedBelt_28 rfl (lv_at hl 1 rfl) ?_
      refine lv_dup hx hb dX2_feedBelt_29 rfl ?_
      refine va_get (D := D) (ci := 2) (v := .int (S 0 2)) (C := RX2) (T := TX2) (N := 8) hx hb hts tu_2 hown hE.1 hP 0 hw_0 rfl 2 (by decide) (hts _ tw_122) (fun _ h9 => h9) rfl dX2_feedBelt_30 ?_
      refine lv_iconst (v := 1) hx hb dX2_feedBelt_33 (by decide) ?_
      refine lv_isub hx hb dX2_feedBelt_34 ?_
      refine va_put (D := D) (ci := 2) (v := .int ((S 0 2) - 1)) (ty := .int) (C := RX2) (T := TX2) (N := 8) hx hb hts tu_2 tyX2 tyX2_ok nmX2 hown hE.1 hP hD hS 0 hw_0 rfl 2 (by decide) (hts _ tw_122) (fun _ h9 => h9) rfl (by decide +kernel) rfl rfl (Nat.le_of_ble_eq_true rfl) dX2_feedBelt_35 (fun H locs hP hD hS => ?_)
      rw [hwp_02 (S := (sf S 13 (xfront 40 (S 13)))) (v := ((S 0 2) - 1)) (f := (upd (S 0) 2 ((S 0 2) - 1))) rfl] at hP hD
      refine lv_aload_n hx hb dX2_feedBelt_38 rfl (lv_at hl 1 rfl) ?_
      refine va_get (D := D) (ci := 2) (v := .ref (a 4)) (C := RX2) (T := TX2) (N := 8) hx hb hts tu_2 hown hE.1 hP 0 hw_0 rfl 6 (by decide) (hts _ tw_130) (fun _ h9 => h9) rfl dX2_feedBelt_39 ?_
      refine lv_iconst (v := 0) hx hb dX2_feedBelt_42 (by decide) ?_
      refine lv_iload_n hx hb dX2_feedBelt_43 rfl (lv_at hl 0 rfl) ?_
      refine c_mVv (rest := []) hC hE hP hD hS hw_same (metX3_put l (ws' := (hw k a (sf (sf (sf S 13 (xfront 40 (S 13))) 0 (upd (S 0) 2 ((S 0 2) - 1))) 12 (upd (S 12) 0 (S 13 0))) ++ R)) hw_4 hw_17 (by decide) 0 (S 13 0) (hwq_12 (wr_n (j := 0) (by decide) (by decide)))) gc_RX2_70 hd_X3_put ⟨rfl, rfl⟩ ⟨Nat.le_of_ble_eq_true rfl, Nat.le_of_ble_eq_true rfl⟩ 4 hw_4 rfl rfl hl.1 (Nat.le_of_ble_eq_true rfl) ⟨Nat.le_of_ble_eq_true rfl, Nat.le_of_ble_eq_true rfl⟩ dX2_feedBelt_44 (fun H locs hP hD hS => ?_)
      refine lv_aload_n hx hb dX2_feedBelt_47 rfl (lv_at hl 1 rfl) ?_
      refine va_get (D := D) (ci := 2) (v := .ref (a 2)) (C := RX2) (T := TX2) (N := 8) hx hb hts tu_2 hown hE.1 hP 0 hw_0 rfl 4 (by decide) (hts _ tw_126) (fun _ h9 => h9) rfl dX2_feedBelt_48 ?_
      refine va_get (D := D) (ci := 0) (v := .ref (a 11)) (C := RX0) (T := TX0) (N := 9) hx hb hts tu_0 hown hE.1 hP 2 hw_2 rfl 4 (by decide) (hts _ tw_83) (fun _ h9 => h9) rfl dX2_feedBelt_51 ?_
      refine lv_iload_n hx hb dX2_feedBelt_54 rfl (lv_at hl 0 rfl) ?_
      refine lv_iconst (v := 1) hx hb dX2_feedBelt_55 (by decide) ?_
      refine c_mVv (rest := []) hC hE hP hD hS hw_same (metX3_put l (ws' := (hw k a (sf (sf (sf (sf S 13 (xfront 40 (S 13))) 0 (upd (S 0) 2 ((S 0 2) - 1))) 12 (upd (S 12) 0 (S 13 0))) 6 (wr 40 (S 6) (S 13 0) 1)) ++ R)) hw_11 hw_24 (by decide) (S 13 0) 1 hws_6) gc_RX2_70 hd_X3_put ⟨rfl, rfl⟩ ⟨Nat.le_of_ble_eq_true rfl, Nat.le_of_ble_eq_true rfl⟩ 11 hw_11 rfl rfl hl.1 (Nat.le_of_ble_eq_true rfl) ⟨Nat.le_of_ble_eq_true rfl, Nat.le_of_ble_eq_true rfl⟩ dX2_feedBelt_56 (fun H locs hP hD hS => ?_)
      have e9 : xFeed S = sf (sf (sf (sf S 13 (xfront 40 (S 13))) 0 (upd (S 0) 2 ((S 0 2) - 1))) 12 (upd (S 12) 0 (S 13 0))) 6 (wr 40 (S 6) (S 13 0) 1) := by rw [xFeed, sel_t (show (S 12 0 = (-1) ∧ 0 < S 0 2) from ⟨c_1, c_2⟩)]; first | done | rfl
      exact m_vret hx hb hr hlk dX2_feedBelt_59 (by rw [e9]; exact hP) hS
    · have e9 : xFeed S = S := by rw [xFeed, sel_f (show ¬ (S 12 0 = (-1) ∧ 0 < S 0 2) from (fun h_ => c_2 h_.2))]; first | done | rfl
      exact m_vret hx hb hr hlk dX2_feedBelt_19 (by rw [e9]; exact hP) hS

set_option maxHeartbeats 4000000 in
set_option maxRecDepth 100000 in
/-- a minute -/
theorem metX2_goMinute (l : Launch) {D : va_G} {k : Nat → ClassId} {a : Nat → Nat} {R : va_W} (S : HS) : MM l yX2_goMinute cX2_goMinute 2 (some FieldType.int) rmX2_goMinute D k (hw k a S ++ R) [.ref (a 0)] (some (.int (nI (xMin S).1))) (hw k a ((xMin S).2) ++ R) := by
  refine MM_of rfl (Nat.le_of_ble_eq_true rfl) ?_
  intro p e s m below meth c hC hr hlk hin hE hP hD hS ls hl
  have hC : CallFix p m c cX2_goMinute 2 s _ lw_all RX2 := hC
  have hx := hC.1
  have hb := hC.2.1
  have hown : s.vm.findClass RX2 = some m.cls := hC.2.2.2.1
  have hts := hC.2.2.2.2
  have hl : lv_has ls 2 [(0, .ref (a 0))] := hl
  refine lv_aload_n hx hb dX2_goMinute_0 rfl (lv_at hl 0 rfl) ?_
  refine va_get (D := D) (ci := 2) (v := .ref (a 4)) (C := RX2) (T := TX2) (N := 8) hx hb hts tu_2 hown hE.1 hP 0 hw_0 rfl 6 (by decide) (hts _ tw_130) (fun _ h9 => h9) rfl dX2_goMinute_1 ?_
  refine c_mVv (rest := []) hC hE hP hD hS hw_same (metX3_turn l (ws' := (hw k a (sf S 12 (xturn 12 (S 12))) ++ R)) hw_4 hw_17 (by decide) (by decide) hws_12) gc_RX2_108 hd_X3_turn ⟨rfl, rfl⟩ ⟨Nat.le_of_ble_eq_true rfl, Nat.le_of_ble_eq_true rfl⟩ 4 hw_4 rfl rfl hl.1 (Nat.le_of_ble_eq_true rfl) ⟨Nat.le_of_ble_eq_true rfl, Nat.le_of_ble_eq_true rfl⟩ dX2_goMinute_4 (fun H locs hP hD hS => ?_)
  refine lv_aload_n hx hb dX2_goMinute_7 rfl (lv_at hl 0 rfl) ?_
  refine c_mVv (rest := []) hC hE hP hD hS hw_same (metX2_readTag l (sf S 12 (xturn 12 (S 12))) ) gc_RX2_111 hd_X2_readTag ⟨rfl, rfl⟩ ⟨Nat.le_of_ble_eq_true rfl, Nat.le_of_ble_eq_true rfl⟩ 0 hw_0 rfl rfl hl.1 (Nat.le_of_ble_eq_true rfl) ⟨Nat.le_of_ble_eq_true rfl, Nat.le_of_ble_eq_true rfl⟩ dX2_goMinute_8 (fun H locs hP hD hS => ?_)
  refine lv_aload_n hx hb dX2_goMinute_11 rfl (lv_at hl 0 rfl) ?_
  refine c_mVi (rest := []) hC hE hP hD hS hw_same (metX2_fillChutes l (xTag (sf S 12 (xturn 12 (S 12)))) ) gc_RX2_114 hd_X2_fillChutes ⟨rfl, rfl⟩ ⟨Nat.le_of_ble_eq_true rfl, Nat.le_of_ble_eq_true rfl⟩ 0 hw_0 rfl rfl hl.1 (Nat.le_of_ble_eq_true rfl) ⟨Nat.le_of_ble_eq_true rfl, Nat.le_of_ble_eq_true rfl⟩ dX2_goMinute_12 (fun H locs hP hD hS => ?_)
  refine lv_istore_n (lv' := [(1, .int (nI (xFl (xTag (sf S 12 (xturn 12 (S 12)))) 4).1)), (0, .ref (a 0))]) hx hb dX2_goMinute_15 rfl hl (by decide) rfl (fun ls hl => ?_)
  refine lv_aload_n hx hb dX2_goMinute_16 rfl (lv_at hl 1 rfl) ?_
  refine c_mVv (rest := []) hC hE hP hD hS hw_same (metX2_feedBelt l (xFl (xTag (sf S 12 (xturn 12 (S 12)))) 4).2 ) gc_RX2_117 hd_X2_feedBelt ⟨rfl, rfl⟩ ⟨Nat.le_of_ble_eq_true rfl, Nat.le_of_ble_eq_true rfl⟩ 0 hw_0 rfl rfl hl.1 (Nat.le_of_ble_eq_true rfl) ⟨Nat.le_of_ble_eq_true rfl, Nat.le_of_ble_eq_true rfl⟩ dX2_goMinute_17 (fun H locs hP hD hS => ?_)
  refine lv_aload_n hx hb dX2_goMinute_20 rfl (lv_at hl 1 rfl) ?_
  refine lv_dup hx hb dX2_goMinute_21 rfl ?_
  refine va_get (D := D) (ci := 2) (v := .int ((xFeed (xFl (xTag (sf S 12 (xturn 12 (S 12)))) 4).2) 0 0)) (C := RX2) (T := TX2) (N := 8) hx hb hts tu_2 hown hE.1 hP 0 hw_0 rfl 0 (by decide) (hts _ tw_118) (fun _ h9 => h9) rfl dX2_goMinute_22 ?_
  refine lv_iconst (v := 1) hx hb dX2_goMinute_25 (by decide) ?_
  refine lv_iadd hx hb dX2_goMinute_26 ?_
  refine va_put (D := D) (ci := 2) (v := .int (((xFeed (xFl (xTag (sf S 12 (xturn 12 (S 12)))) 4).2) 0 0) + 1)) (ty := .int) (C := RX2) (T := TX2) (N := 8) hx hb hts tu_2 tyX2 tyX2_ok nmX2 hown hE.1 hP hD hS 0 hw_0 rfl 0 (by decide) (hts _ tw_118) (fun _ h9 => h9) rfl (by decide +kernel) rfl rfl (Nat.le_of_ble_eq_true rfl) dX2_goMinute_27 (fun H locs hP hD hS => ?_)
  rw [hwp_00 (S := (xFeed (xFl (xTag (sf S 12 (xturn 12 (S 12)))) 4).2)) (v := (((xFeed (xFl (xTag (sf S 12 (xturn 12 (S 12)))) 4).2) 0 0) + 1)) (f := (upd ((xFeed (xFl (xTag (sf S 12 (xturn 12 (S 12)))) 4).2) 0) 0 (((xFeed (xFl (xTag (sf S 12 (xturn 12 (S 12)))) 4).2) 0 0) + 1))) rfl] at hP hD
  refine lv_iload_n hx hb dX2_goMinute_30 rfl (lv_at hl 0 rfl) ?_
  exact m_iret hx hb hr hlk dX2_goMinute_31 hP hS (rfl)

set_option maxHeartbeats 4000000 in
set_option maxRecDepth 100000 in
/-- minutes -/
theorem metX2_goMinutes (l : Launch) {D : va_G} {k : Nat → ClassId} {a : Nat → Nat} {R : va_W} (S : HS) (N : Nat) (hN : N < 2 ^ 31) : MM l yX2_goMinutes cX2_goMinutes 4 (some FieldType.int) rmX2_goMinutes D k (hw k a S ++ R) [.ref (a 0), .int (nI N)] (some (.int ((xGo S N).1))) (hw k a ((xGo S N).2) ++ R) := by
  refine MM_of rfl (Nat.le_of_ble_eq_true rfl) ?_
  intro p e s m below meth c hC hr hlk hin hE hP hD hS ls hl
  have hC : CallFix p m c cX2_goMinutes 4 s _ lw_all RX2 := hC
  have hx := hC.1
  have hb := hC.2.1
  have hown : s.vm.findClass RX2 = some m.cls := hC.2.2.2.1
  have hts := hC.2.2.2.2
  have hl : lv_has ls 4 [(0, .ref (a 0)), (1, .int (nI N))] := hl
  refine lv_iconst (v := 0) hx hb dX2_goMinutes_0 (by decide) ?_
  refine lv_istore_n (lv' := [(2, .int 0), (0, .ref (a 0)), (1, .int (nI N))]) hx hb dX2_goMinutes_1 rfl hl (by decide) rfl (fun ls hl => ?_)
  refine lv_iconst (v := 0) hx hb dX2_goMinutes_2 (by decide) ?_
  refine lv_istore_n (lv' := [(3, .int 0), (2, .int 0), (0, .ref (a 0)), (1, .int (nI N))]) hx hb dX2_goMinutes_3 rfl hl (by decide) rfl (fun ls hl => ?_)
  refine w_forM (N := N) (fun _ => True) (fun i => [(0, .ref (a 0)), (1, .int (nI N)), (2, .int (xGo S i).1), (3, .int (nI i))]) (fun i => (hw k a (xGo S i).2 ++ R)) (fun ls H locs hI hl hP hD hS => ?_) (fun i hi hI ih ls H locs hl hP hD hS => ?_) 0 (Nat.zero_le _) trivial (lv_sub hl [2, 3, 1, 0] rfl) hP hD hS
  · have hl : lv_has ls 4 [(0, .ref (a 0)), (1, .int (nI N)), (2, .int (xGo S N).1), (3, .int (nI N))] := hl
    have hP : va_P D vwCl (hw k a (xGo S N).2 ++ R) H := hP
    have hD : va_D (va_in (hw k a S ++ R)) (hw k a (xGo S N).2 ++ R) := hD
    refine lv_iload_n hx hb dX2_goMinutes_4 rfl (lv_at hl 3 rfl) ?_
    refine lv_iload_n hx hb dX2_goMinutes_5 rfl (lv_at hl 1 rfl) ?_
    refine lv_icmp_ge (tgt := 22) hx hb dX2_goMinutes_6 (by decide) (fun c_1 => ?_) (fun c_ => absurd (nI_le (Nat.le_refl N) hN) c_)
    refine lv_iload_n hx hb dX2_goMinutes_22 rfl (lv_at hl 2 rfl) ?_
    exact m_iret hx hb hr hlk dX2_goMinutes_23 hP hS (rfl)
  · have hl : lv_has ls 4 [(0, .ref (a 0)), (1, .int (nI N)), (2, .int (xGo S i).1), (3, .int (nI i))] := hl
    have hP : va_P D vwCl (hw k a (xGo S i).2 ++ R) H := hP
    have hD : va_D (va_in (hw k a S ++ R)) (hw k a (xGo S i).2 ++ R) := hD
    refine lv_iload_n hx hb dX2_goMinutes_4 rfl (lv_at hl 3 rfl) ?_
    refine lv_iload_n hx hb dX2_goMinutes_5 rfl (lv_at hl 1 rfl) ?_
    refine lv_icmp_ge (tgt := 22) hx hb dX2_goMinutes_6 (by decide) (fun c_ => absurd c_ (nI_ge hi hN)) (fun c_2 => ?_)
    refine lv_iload_n hx hb dX2_goMinutes_9 rfl (lv_at hl 2 rfl) ?_
    refine lv_aload_n hx hb dX2_goMinutes_10 rfl (lv_at hl 0 rfl) ?_
    refine c_mVi (rest := [.int (xGo S i).1]) hC hE hP hD hS hw_same (metX2_goMinute l (xGo S i).2 ) gc_RX2_104 hd_X2_goMinute ⟨rfl, rfl⟩ ⟨Nat.le_of_ble_eq_true rfl, Nat.le_of_ble_eq_true rfl⟩ 0 hw_0 rfl rfl hl.1 (Nat.le_of_ble_eq_true rfl) ⟨Nat.le_of_ble_eq_true rfl, Nat.le_of_ble_eq_true rfl⟩ dX2_goMinutes_11 (fun H locs hP hD hS => ?_)
    refine lv_iadd hx hb dX2_goMinutes_14 ?_
    refine lv_istore_n (lv' := [(2, .int ((xGo S i).1 + (nI (xMin (xGo S i).2).1))), (0, .ref (a 0)), (1, .int (nI N)), (3, .int (nI i))]) hx hb dX2_goMinutes_15 rfl hl (by decide) rfl (fun ls hl => ?_)
    refine lv_iinc (v := nI (i + 1)) (lv' := [(3, .int (nI (i + 1))), (2, .int ((xGo S i).1 + (nI (xMin (xGo S i).2).1))), (0, .ref (a 0)), (1, .int (nI N))]) hx hb dX2_goMinutes_16 hl (k := 3) rfl (iinc1 _) (by decide) rfl (fun ls hl => ?_)
    refine lv_goto (tgt := 4) hx hb dX2_goMinutes_19 (by decide) ?_
    exact ih ls H locs trivial (lv_sub hl [2, 3, 1, 0] rfl) (by show va_P D vwCl (hw k a (xGo S (i + 1)).2 ++ R) H; exact hP) (by show va_D (va_in (hw k a S ++ R)) (hw k a (xGo S (i + 1)).2 ++ R); exact hD) hS
