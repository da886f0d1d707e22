set_option maxHeartbeats 4000000 in
set_option maxRecDepth 100000 in
theorem metX6_isIn (l : Launch) {D : va_G} {k : Nat → ClassId} {ws : va_W} (v lo hi : Int32) : PM l yX6_isIn cX6_isIn 3 (some FieldType.boolean) rmX6_isIn D k ws [.int v, .int lo, .int hi] (some (.int (bI (mIn v lo hi)))) := by
  refine PM_of rfl (Nat.le_of_ble_eq_true rfl) ?_
  intro p e s m below meth c hC hr hlk hin hE hP ls hl
  have hC : CallFix p m c cX6_isIn 3 s _ lw_all RX6 := hC
  have hx := hC.1
  have hb := hC.2.1
  have hown : s.vm.findClass RX6 = some m.cls := hC.2.2.2.1
  have hts := hC.2.2.2.2
  have hl : lv_has ls 3 [(0, .int v), (1, .int lo), (2, .int hi)] := hl
  refine lv_iload_n hx hb dX6_isIn_0 rfl (lv_at hl 0 rfl) ?_
  refine lv_iload_n hx hb dX6_isIn_1 rfl (lv_at hl 1 rfl) ?_
  refine lv_icmp_lt (tgt := 14) hx hb dX6_isIn_2 (by decide) (fun c_1 => ?_) (fun c_1 => ?_)
  · refine lv_iconst (v := 0) hx hb dX6_isIn_14 (by decide) ?_
    exact p_zret hx hb hr rfl hlk dX6_isIn_15 (by rw [bI_f (show ¬ (mIn v lo hi) from (fun h_ => (fun h_ => h_ c_1) h_.1))])
  · refine lv_iload_n hx hb dX6_isIn_5 rfl (lv_at hl 0 rfl) ?_
    refine lv_iload_n hx hb dX6_isIn_6 rfl (lv_at hl 2 rfl) ?_
    refine lv_icmp_gt (tgt := 14) hx hb dX6_isIn_7 (by decide) (fun c_2 => ?_) (fun c_2 => ?_)
    · refine lv_iconst (v := 0) hx hb dX6_isIn_14 (by decide) ?_
      exact p_zret hx hb hr rfl hlk dX6_isIn_15 (by rw [bI_f (show ¬ (mIn v lo hi) from (fun h_ => (fun h_ => h_ c_2) h_.2))])
    · refine lv_iconst (v := 1) hx hb dX6_isIn_10 (by decide) ?_
      refine lv_goto (tgt := 15) hx hb dX6_isIn_11 (by decide) ?_
      exact p_zret hx hb hr rfl hlk dX6_isIn_15 (by rw [bI_t (show mIn v lo hi from ⟨c_1, c_2⟩)])

set_option maxHeartbeats 4000000 in
set_option maxRecDepth 100000 in
theorem metX6_isChute (l : Launch) {D : va_G} {k : Nat → ClassId} {ws : va_W} (ch : Int32) : PM l yX6_isChute cX6_isChute 1 (some FieldType.boolean) rmX6_isChute D k ws [.int ch] (some (.int (bI (mIn ch 0 3)))) := by
  refine PM_of rfl (Nat.le_of_ble_eq_true rfl) ?_
  intro p e s m below meth c hC hr hlk hin hE hP ls hl
  have hC : CallFix p m c cX6_isChute 1 s _ lw_all RX6 := hC
  have hx := hC.1
  have hb := hC.2.1
  have hown : s.vm.findClass RX6 = some m.cls := hC.2.2.2.1
  have hts := hC.2.2.2.2
  have hl : lv_has ls 1 [(0, .int ch)] := hl
  refine lv_iload_n hx hb dX6_isChute_0 rfl (lv_at hl 0 rfl) ?_
  refine lv_iconst (v := 0) hx hb dX6_isChute_1 (by decide) ?_
  refine lv_iconst (v := 3) hx hb dX6_isChute_2 (by decide) ?_
  refine c_pSi (rest := []) hC hE hP (metX6_isIn l ch 0 3) gc_RX6_52 hd_X6_isIn ⟨rfl, rfl⟩ ⟨Nat.le_of_ble_eq_true rfl, Nat.le_of_ble_eq_true rfl⟩ rfl hl.1 (Nat.le_of_ble_eq_true rfl) ⟨Nat.le_of_ble_eq_true rfl, Nat.le_of_ble_eq_true rfl⟩ dX6_isChute_3 ?_
  exact p_zret hx hb hr (bI_narrow _) hlk dX6_isChute_6 (rfl)

set_option maxHeartbeats 4000000 in
set_option maxRecDepth 100000 in
theorem metX6_isBag (l : Launch) {D : va_G} {k : Nat → ClassId} {g t : Nat → Nat} {sq : Nat} {R : va_W} (G T : HS) (b : Int32) : PM l yX6_isBag cX6_isBag 2 (some FieldType.boolean) rmX6_isBag D k (gw k g (t 0) sq G ++ (tw k t T ++ R)) [.ref (g 0), .int b] (some (.int (bI (mIn b 0 (G 0 3 - 1))))) := by
  refine PM_of rfl (Nat.le_of_ble_eq_true rfl) ?_
  intro p e s m below meth c hC hr hlk hin hE hP ls hl
  have hC : CallFix p m c cX6_isBag 2 s _ lw_all RX6 := hC
  have hx := hC.1
  have hb := hC.2.1
  have hown : s.vm.findClass RX6 = some m.cls := hC.2.2.2.1
  have hts := hC.2.2.2.2
  have hl : lv_has ls 2 [(0, .ref (g 0)), (1, .int b)] := hl
  refine lv_iload_n hx hb dX6_isBag_0 rfl (lv_at hl 1 rfl) ?_
  refine lv_iconst (v := 0) hx hb dX6_isBag_1 (by decide) ?_
  refine lv_aload_n hx hb dX6_isBag_2 rfl (lv_at hl 0 rfl) ?_
  refine va_get (D := D) (ci := 6) (v := .int (G 0 3)) (C := RX6) (T := TX6) (N := 13) hx hb hts tu_6 hown hE.1 hP 0 gw_0 rfl 6 (by decide) (hts _ tw_791) (fun _ h9 => h9) rfl dX6_isBag_3 ?_
  refine lv_iconst (v := 1) hx hb dX6_isBag_6 (by decide) ?_
  refine lv_isub hx hb dX6_isBag_7 ?_
  refine c_pSi (rest := []) hC hE hP (metX6_isIn l b 0 ((G 0 3) - 1)) gc_RX6_52 hd_X6_isIn ⟨rfl, rfl⟩ ⟨Nat.le_of_ble_eq_true rfl, Nat.le_of_ble_eq_true rfl⟩ rfl hl.1 (Nat.le_of_ble_eq_true rfl) ⟨Nat.le_of_ble_eq_true rfl, Nat.le_of_ble_eq_true rfl⟩ dX6_isBag_8 ?_
  exact p_zret hx hb hr (bI_narrow _) hlk dX6_isBag_11 (rfl)

set_option maxHeartbeats 4000000 in
set_option maxRecDepth 100000 in
theorem metX6_isFlight (l : Launch) {D : va_G} {k : Nat → ClassId} {g t : Nat → Nat} {sq : Nat} {R : va_W} (G T : HS) (f : Int32) : PM l yX6_isFlight cX6_isFlight 2 (some FieldType.boolean) rmX6_isFlight D k (gw k g (t 0) sq G ++ (tw k t T ++ R)) [.ref (g 0), .int f] (some (.int (bI (mIn f 0 (G 0 1 - 1))))) := by
  refine PM_of rfl (Nat.le_of_ble_eq_true rfl) ?_
  intro p e s m below meth c hC hr hlk hin hE hP ls hl
  have hC : CallFix p m c cX6_isFlight 2 s _ lw_all RX6 := hC
  have hx := hC.1
  have hb := hC.2.1
  have hown : s.vm.findClass RX6 = some m.cls := hC.2.2.2.1
  have hts := hC.2.2.2.2
  have hl : lv_has ls 2 [(0, .ref (g 0)), (1, .int f)] := hl
  refine lv_iload_n hx hb dX6_isFlight_0 rfl (lv_at hl 1 rfl) ?_
  refine lv_iconst (v := 0) hx hb dX6_isFlight_1 (by decide) ?_
  refine lv_aload_n hx hb dX6_isFlight_2 rfl (lv_at hl 0 rfl) ?_
  refine va_get (D := D) (ci := 6) (v := .int (G 0 1)) (C := RX6) (T := TX6) (N := 13) hx hb hts tu_6 hown hE.1 hP 0 gw_0 rfl 1 (by decide) (hts _ tw_786) (fun _ h9 => h9) rfl dX6_isFlight_3 ?_
  refine lv_iconst (v := 1) hx hb dX6_isFlight_6 (by decide) ?_
  refine lv_isub hx hb dX6_isFlight_7 ?_
  refine c_pSi (rest := []) hC hE hP (metX6_isIn l f 0 ((G 0 1) - 1)) gc_RX6_52 hd_X6_isIn ⟨rfl, rfl⟩ ⟨Nat.le_of_ble_eq_true rfl, Nat.le_of_ble_eq_true rfl⟩ rfl hl.1 (Nat.le_of_ble_eq_true rfl) ⟨Nat.le_of_ble_eq_true rfl, Nat.le_of_ble_eq_true rfl⟩ dX6_isFlight_8 ?_
  exact p_zret hx hb hr (bI_narrow _) hlk dX6_isFlight_11 (rfl)

set_option maxHeartbeats 4000000 in
set_option maxRecDepth 100000 in
theorem metX6_no (l : Launch) {D : va_G} {k : Nat → ClassId} {g t : Nat → Nat} {sq : Nat} {R : va_W} (G T : HS) (v : Int32) : MM l yX6_no cX6_no 2 (some FieldType.int) rmX6_no D k (gw k g (t 0) sq G ++ (tw k t T ++ R)) [.ref (g 0), .int v] (some (.int (0))) (gw k g (t 0) sq (thr G v) ++ (tw k t T ++ R)) := by
  refine MM_of rfl (Nat.le_of_ble_eq_true rfl) ?_
  intro p e s m below meth c hC hr hlk hin hE hP hD hS ls hl
  have hC : CallFix p m c cX6_no 2 s _ lw_all RX6 := hC
  have hx := hC.1
  have hb := hC.2.1
  have hown : s.vm.findClass RX6 = some m.cls := hC.2.2.2.1
  have hts := hC.2.2.2.2
  have hl : lv_has ls 2 [(0, .ref (g 0)), (1, .int v)] := hl
  refine lv_aload_n hx hb dX6_no_0 rfl (lv_at hl 0 rfl) ?_
  refine lv_iload_n hx hb dX6_no_1 rfl (lv_at hl 1 rfl) ?_
  refine va_put (D := D) (ci := 6) (v := .int v) (ty := .int) (C := RX6) (T := TX6) (N := 13) hx hb hts tu_6 tyX6 tyX6_ok nmX6 hown hE.1 hP hD hS 0 gw_0 rfl 0 (by decide) (hts _ tw_785) (fun _ h9 => h9) rfl (by decide +kernel) rfl rfl (Nat.le_of_ble_eq_true rfl) dX6_no_2 (fun H locs hP hD hS => ?_)
  rw [gwp_t (G := G) (v := v)] at hP hD
  refine lv_iconst (v := 0) hx hb dX6_no_5 (by decide) ?_
  exact m_iret hx hb hr hlk dX6_no_6 hP hS (rfl)

set_option maxHeartbeats 4000000 in
set_option maxRecDepth 100000 in
theorem metX6_isNot (l : Launch) {D : va_G} {k : Nat → ClassId} {g t : Nat → Nat} {sq : Nat} {R : va_W} (G T : HS) (v : Int32) : MM l yX6_isNot cX6_isNot 2 (some FieldType.boolean) rmX6_isNot D k (gw k g (t 0) sq G ++ (tw k t T ++ R)) [.ref (g 0), .int v] (some (.int (0))) (gw k g (t 0) sq (thr G v) ++ (tw k t T ++ R)) := by
  refine MM_of rfl (Nat.le_of_ble_eq_true rfl) ?_
  intro p e s m below meth c hC hr hlk hin hE hP hD hS ls hl
  have hC : CallFix p m c cX6_isNot 2 s _ lw_all RX6 := hC
  have hx := hC.1
  have hb := hC.2.1
  have hown : s.vm.findClass RX6 = some m.cls := hC.2.2.2.1
  have hts := hC.2.2.2.2
  have hl : lv_has ls 2 [(0, .ref (g 0)), (1, .int v)] := hl
  refine lv_aload_n hx hb dX6_isNot_0 rfl (lv_at hl 0 rfl) ?_
  refine lv_iload_n hx hb dX6_isNot_1 rfl (lv_at hl 1 rfl) ?_
  refine va_put (D := D) (ci := 6) (v := .int v) (ty := .int) (C := RX6) (T := TX6) (N := 13) hx hb hts tu_6 tyX6 tyX6_ok nmX6 hown hE.1 hP hD hS 0 gw_0 rfl 0 (by decide) (hts _ tw_785) (fun _ h9 => h9) rfl (by decide +kernel) rfl rfl (Nat.le_of_ble_eq_true rfl) dX6_isNot_2 (fun H locs hP hD hS => ?_)
  rw [gwp_t (G := G) (v := v)] at hP hD
  refine lv_iconst (v := 0) hx hb dX6_isNot_5 (by decide) ?_
  exact m_zret hx hb hr rfl hlk dX6_isNot_6 hP hS (rfl)

set_option maxHeartbeats 4000000 in
set_option maxRecDepth 100000 in
theorem metX6_ok (l : Launch) {D : va_G} {k : Nat → ClassId} {g t : Nat → Nat} {sq : Nat} {R : va_W} (G T : HS) (v : Int32) : MM l yX6_ok cX6_ok 2 (some FieldType.int) rmX6_ok D k (gw k g (t 0) sq G ++ (tw k t T ++ R)) [.ref (g 0), .int v] (some (.int (v))) (gw k g (t 0) sq (thr G 0) ++ (tw k t T ++ R)) := by
  refine MM_of rfl (Nat.le_of_ble_eq_true rfl) ?_
  intro p e s m below meth c hC hr hlk hin hE hP hD hS ls hl
  have hC : CallFix p m c cX6_ok 2 s _ lw_all RX6 := hC
  have hx := hC.1
  have hb := hC.2.1
  have hown : s.vm.findClass RX6 = some m.cls := hC.2.2.2.1
  have hts := hC.2.2.2.2
  have hl : lv_has ls 2 [(0, .ref (g 0)), (1, .int v)] := hl
  refine lv_aload_n hx hb dX6_ok_0 rfl (lv_at hl 0 rfl) ?_
  refine lv_iconst (v := 0) hx hb dX6_ok_1 (by decide) ?_
  refine va_put (D := D) (ci := 6) (v := .int 0) (ty := .int) (C := RX6) (T := TX6) (N := 13) hx hb hts tu_6 tyX6 tyX6_ok nmX6 hown hE.1 hP hD hS 0 gw_0 rfl 0 (by decide) (hts _ tw_785) (fun _ h9 => h9) rfl (by decide +kernel) rfl rfl (Nat.le_of_ble_eq_true rfl) dX6_ok_2 (fun H locs hP hD hS => ?_)
  rw [gwp_t (G := G) (v := 0)] at hP hD
  refine lv_iload_n hx hb dX6_ok_5 rfl (lv_at hl 1 rfl) ?_
  exact m_iret hx hb hr hlk dX6_ok_6 hP hS (rfl)

set_option maxHeartbeats 4000000 in
set_option maxRecDepth 100000 in
theorem metX6_readAt (l : Launch) {D : va_G} {k : Nat → ClassId} {g t : Nat → Nat} {sp sq : Nat} {R : va_W} (G T : HS) (hB : okB (T 5)) (hF : okF G) : MM l yX6_readAt cX6_readAt 4 none rmX6_readAt D k (gw k g sp sq G ++ (tw k t T ++ R)) [.ref (g 0), .ref (t 0)] none (gw k g sp sq G ++ (tw k t (mTag G T) ++ R)) := by
  refine MM_of rfl (Nat.le_of_ble_eq_true rfl) ?_
  intro p e s m below meth c hC hr hlk hin hE hP hD hS ls hl
  have hC : CallFix p m c cX6_readAt 4 s _ lw_all RX6 := hC
  have hx := hC.1
  have hb := hC.2.1
  have hown : s.vm.findClass RX6 = some m.cls := hC.2.2.2.1
  have hts := hC.2.2.2.2
  have hl : lv_has ls 4 [(0, .ref (g 0)), (1, .ref (t 0))] := hl
  refine lv_aload_n hx hb dX6_readAt_0 rfl (lv_at hl 1 rfl) ?_
  refine va_getN (D := D) (ci := 5) (v := .ref (t 5)) (C := RX5) (T := TX5) (N := 9) hx hb hts tu_5 hown hE.1 hP 8 mt_0 rfl 5 (by decide) (va_Nw.use rfl hE.2.2.2.2.2.2.1) (fun _ h9 => h9) rfl dX6_readAt_1 ?_
  refine lv_iconst (v := 2) hx hb dX6_readAt_4 (by decide) ?_
  refine k_iald (j := 2) hx hb hE hP 13 mt_5 (by decide) (by decide) dX6_readAt_5 ?_
  refine lv_istore_n (lv' := [(2, .int (T 5 2)), (0, .ref (g 0)), (1, .ref (t 0))]) hx hb dX6_readAt_6 rfl hl (by decide) rfl (fun ls hl => ?_)
  refine lv_iload_n hx hb dX6_readAt_7 rfl (lv_at hl 0 rfl) ?_
  refine lv_iconst (v := (-1)) hx hb dX6_readAt_8 (by decide) ?_
  refine lv_icmp_eq (tgt := 22) hx hb dX6_readAt_9 (by decide) (fun c_1 => ?_) (fun c_1 => ?_)
  · have e8 : mTag G T = T := by rw [mTag, sel_t (show T 5 2 = (-1) from c_1)]
    exact m_vret hx hb hr hlk dX6_readAt_22 (by rw [e8]; exact hP) hS
  · have hb2 := hB 2 (by decide) c_1
    have hl : lv_has ls 4 [(2, .int (nI (ix (T 5 2)))), (0, .ref (g 0)), (1, .ref (t 0))] := by rw [← hb2.1]; exact hl
    refine lv_aload_n hx hb dX6_readAt_12 rfl (lv_at hl 2 rfl) ?_
    refine va_getN (D := D) (ci := 5) (v := .ref (t 3)) (C := RX5) (T := TX5) (N := 9) hx hb hts tu_5 hown hE.1 hP 8 mt_0 rfl 3 (by decide) (va_Nw.use rfl hE.2.2.2.2.1) (fun _ h9 => h9) rfl dX6_readAt_13 ?_
    refine lv_iload_n hx hb dX6_readAt_16 rfl (lv_at hl 0 rfl) ?_
    refine k_iald (j := (ix (T 5 2))) hx hb hE hP 11 mt_3 hb2.2 (by decide) dX6_readAt_17 ?_
    refine lv_iconst (v := (-1)) hx hb dX6_readAt_18 (by decide) ?_
    refine lv_icmp_eq (tgt := 23) hx hb dX6_readAt_19 (by decide) (fun c_2 => ?_) (fun c_2 => ?_)
    · refine lv_aload_n hx hb dX6_readAt_23 rfl (lv_at hl 1 rfl) ?_
      refine va_get (D := D) (ci := 6) (v := .ref (g 1)) (C := RX6) (T := TX6) (N := 13) hx hb hts tu_6 hown hE.1 hP 0 gw_0 rfl 2 (by decide) (hts _ tw_787) (fun _ h9 => h9) rfl dX6_readAt_24 ?_
      refine lv_aload_n hx hb dX6_readAt_27 rfl (lv_at hl 1 rfl) ?_
      refine va_get (D := D) (ci := 6) (v := .ref (g 4)) (C := RX6) (T := TX6) (N := 13) hx hb hts tu_6 hown hE.1 hP 0 gw_0 rfl 7 (by decide) (hts _ tw_792) (fun _ h9 => h9) rfl dX6_readAt_28 ?_
      refine lv_iload_n hx hb dX6_readAt_31 rfl (lv_at hl 0 rfl) ?_
      refine k_iald (j := (ix (T 5 2))) hx hb hE hP 4 gw_4 hb2.2 (by decide) dX6_readAt_32 ?_
      refine w_top ((hF _ hb2.2).1) ?_
      refine k_iald (j := (ix (G 4 (ix (T 5 2))))) hx hb hE hP 1 gw_1 (hF _ hb2.2).2 (by decide) dX6_readAt_33 ?_
      refine lv_istore_n (lv' := [(3, .int (G 1 (ix (G 4 (ix (T 5 2)))))), (2, .int (nI (ix (T 5 2)))), (0, .ref (g 0)), (1, .ref (t 0))]) hx hb dX6_readAt_34 rfl hl (by decide) rfl (fun ls hl => ?_)
      refine lv_aload_n hx hb dX6_readAt_35 rfl (lv_at hl 2 rfl) ?_
      refine va_get (D := D) (ci := 6) (v := .ref (g 6)) (C := RX6) (T := TX6) (N := 13) hx hb hts tu_6 hown hE.1 hP 0 gw_0 rfl 9 (by decide) (hts _ tw_794) (fun _ h9 => h9) rfl dX6_readAt_36 ?_
      refine lv_iload_n hx hb dX6_readAt_39 rfl (lv_at hl 1 rfl) ?_
      refine k_iald (j := (ix (T 5 2))) hx hb hE hP 6 gw_6 hb2.2 (by decide) dX6_readAt_40 ?_
      refine lv_aload_n hx hb dX6_readAt_41 rfl (lv_at hl 2 rfl) ?_
      refine va_get (D := D) (ci := 6) (v := .int (G 0 2)) (C := RX6) (T := TX6) (N := 13) hx hb hts tu_6 hown hE.1 hP 0 gw_0 rfl 5 (by decide) (hts _ tw_790) (fun _ h9 => h9) rfl dX6_readAt_42 ?_
      refine lv_icmp_gt (tgt := 61) hx hb dX6_readAt_45 (by decide) (fun c_3 => ?_) (fun c_3 => ?_)
      · refine lv_aload_n hx hb dX6_readAt_61 rfl (lv_at hl 3 rfl) ?_
        refine va_getN (D := D) (ci := 5) (v := .ref (t 4)) (C := RX5) (T := TX5) (N := 9) hx hb hts tu_5 hown hE.1 hP 8 mt_0 rfl 4 (by decide) (va_Nw.use rfl hE.2.2.2.2.2.1) (fun _ h9 => h9) rfl dX6_readAt_62 ?_
        refine lv_iload_n hx hb dX6_readAt_65 rfl (lv_at hl 1 rfl) ?_
        refine lv_dup2_11 hx hb dX6_readAt_66 rfl rfl ?_
        refine k_iald (j := (ix (T 5 2))) hx hb hE hP 12 mt_4 hb2.2 (by decide) dX6_readAt_67 ?_
        refine lv_iconst (v := 1) hx hb dX6_readAt_68 (by decide) ?_
        refine lv_iadd hx hb dX6_readAt_69 ?_
        refine k_iast (j := (ix (T 5 2))) hx hb hE hP hD hS 12 mt_4 hb2.2 (by decide) dX6_readAt_70 (fun H locs hP hD hS => ?_)
        rw [mtq_4 (T := T) (f := upd (T 4) (ix (T 5 2)) ((T 4 (ix (T 5 2))) + 1)) (f2 := upd (T 4) (ix (T 5 2)) ((T 4 (ix (T 5 2))) + 1)) rfl] at hP hD
        refine lv_aload_n hx hb dX6_readAt_71 rfl (lv_at hl 3 rfl) ?_
        refine va_getN (D := D) (ci := 5) (v := .ref (t 4)) (C := RX5) (T := TX5) (N := 9) hx hb hts tu_5 hown hE.1 hP 8 mt_0 rfl 4 (by decide) (va_Nw.use rfl hE.2.2.2.2.2.1) (fun _ h9 => h9) rfl dX6_readAt_72 ?_
        refine lv_iload_n hx hb dX6_readAt_75 rfl (lv_at hl 1 rfl) ?_
        refine k_iald (j := (ix (T 5 2))) hx hb hE hP 12 mt_4 hb2.2 (by decide) dX6_readAt_76 ?_
        refine w_top (fap_upd) ?_
        refine lv_iconst (v := 3) hx hb dX6_readAt_77 (by decide) ?_
        refine lv_icmp_ge (tgt := 82) hx hb dX6_readAt_78 (by decide) (fun c_4 => ?_) (fun c_4 => ?_)
        · refine lv_aload_n hx hb dX6_readAt_82 rfl (lv_at hl 3 rfl) ?_
          refine va_getN (D := D) (ci := 5) (v := .ref (t 5)) (C := RX5) (T := TX5) (N := 9) hx hb hts tu_5 hown hE.1 hP 8 mt_0 rfl 5 (by decide) (va_Nw.use rfl hE.2.2.2.2.2.2.1) (fun _ h9 => h9) rfl dX6_readAt_83 ?_
          refine lv_iconst (v := 2) hx hb dX6_readAt_86 (by decide) ?_
          refine lv_iconst (v := (-1)) hx hb dX6_readAt_87 (by decide) ?_
          refine k_iast (j := 2) hx hb hE hP hD hS 13 mt_5 (by decide) (by decide) dX6_readAt_88 (fun H locs hP hD hS => ?_)
          rw [mtq_5 (T := (sf T 4 (upd (T 4) (ix (T 5 2)) ((T 4 (ix (T 5 2))) + 1)))) (f := upd ((sf T 4 (upd (T 4) (ix (T 5 2)) ((T 4 (ix (T 5 2))) + 1))) 5) 2 (-1)) (f2 := upd (T 5) 2 (-1)) rfl] at hP hD
          refine lv_aload_n hx hb dX6_readAt_89 rfl (lv_at hl 3 rfl) ?_
          refine lv_iload_n hx hb dX6_readAt_90 rfl (lv_at hl 1 rfl) ?_
          refine lv_iconst (v := 3) hx hb dX6_readAt_91 (by decide) ?_
          refine lv_iconst (v := (-1)) hx hb dX6_readAt_92 (by decide) ?_
          refine c_mVv (rest := []) hC hE hP hD hS mt_same (metX5_put l G (sf (sf T 4 (upd (T 4) (ix (T 5 2)) ((T 4 (ix (T 5 2))) + 1))) 5 (upd (T 5) 2 (-1))) (ix (T 5 2)) 3 (-1) hb2.2) gc_RX6_68 hd_X5_put ⟨rfl, rfl⟩ ⟨Nat.le_of_ble_eq_true rfl, Nat.le_of_ble_eq_true rfl⟩ 8 mt_0 rfl rfl hl.1 (Nat.le_of_ble_eq_true rfl) ⟨Nat.le_of_ble_eq_true rfl, Nat.le_of_ble_eq_true rfl⟩ dX6_readAt_93 (fun H locs hP hD hS => ?_)
          have e8 : mTag G T = mPutB (sf (sf T 4 (upd (T 4) (ix (T 5 2)) ((T 4 (ix (T 5 2))) + 1))) 5 (upd (T 5) 2 (-1))) (ix (T 5 2)) 3 (-1) := by rw [mTag, sel_f (show ¬ (T 5 2 = (-1)) from c_1), sel_t (show T 3 (ix (T 5 2)) = (-1) from c_2), sel_f (show ¬ ((¬ (G 0 2 < G 6 (ix (T 5 2)))) ∧ (¬ (G 1 (ix (G 4 (ix (T 5 2)))) = (-1)))) from (fun h_ => (fun h_ => h_ c_3) h_.1)), mMiss, sel_t (show 3 ≤ (T 4 (ix (T 5 2))) + 1 from c_4)]
          exact m_vret hx hb hr hlk dX6_readAt_96 (by rw [e8]; exact hP) hS
        · have e8 : mTag G T = sf T 4 (upd (T 4) (ix (T 5 2)) ((T 4 (ix (T 5 2))) + 1)) := by rw [mTag, sel_f (show ¬ (T 5 2 = (-1)) from c_1), sel_t (show T 3 (ix (T 5 2)) = (-1) from c_2), sel_f (show ¬ ((¬ (G 0 2 < G 6 (ix (T 5 2)))) ∧ (¬ (G 1 (ix (G 4 (ix (T 5 2)))) = (-1)))) from (fun h_ => (fun h_ => h_ c_3) h_.1)), mMiss, sel_f (show ¬ (3 ≤ (T 4 (ix (T 5 2))) + 1) from c_4)]
          exact m_vret hx hb hr hlk dX6_readAt_81 (by rw [e8]; exact hP) hS
      · refine lv_iload_n hx hb dX6_readAt_48 rfl (lv_at hl 0 rfl) ?_
        refine lv_iconst (v := (-1)) hx hb dX6_readAt_49 (by decide) ?_
        refine lv_icmp_eq (tgt := 61) hx hb dX6_readAt_50 (by decide) (fun c_5 => ?_) (fun c_5 => ?_)
        · refine lv_aload_n hx hb dX6_readAt_61 rfl (lv_at hl 3 rfl) ?_
          refine va_getN (D := D) (ci := 5) (v := .ref (t 4)) (C := RX5) (T := TX5) (N := 9) hx hb hts tu_5 hown hE.1 hP 8 mt_0 rfl 4 (by decide) (va_Nw.use rfl hE.2.2.2.2.2.1) (fun _ h9 => h9) rfl dX6_readAt_62 ?_
          refine lv_iload_n hx hb dX6_readAt_65 rfl (lv_at hl 1 rfl) ?_
          refine lv_dup2_11 hx hb dX6_readAt_66 rfl rfl ?_
          refine k_iald (j := (ix (T 5 2))) hx hb hE hP 12 mt_4 hb2.2 (by decide) dX6_readAt_67 ?_
          refine lv_iconst (v := 1) hx hb dX6_readAt_68 (by decide) ?_
          refine lv_iadd hx hb dX6_readAt_69 ?_
          refine k_iast (j := (ix (T 5 2))) hx hb hE hP hD hS 12 mt_4 hb2.2 (by decide) dX6_readAt_70 (fun H locs hP hD hS => ?_)
          rw [mtq_4 (T := T) (f := upd (T 4) (ix (T 5 2)) ((T 4 (ix (T 5 2))) + 1)) (f2 := upd (T 4) (ix (T 5 2)) ((T 4 (ix (T 5 2))) + 1)) rfl] at hP hD
          refine lv_aload_n hx hb dX6_readAt_71 rfl (lv_at hl 3 rfl) ?_
          refine va_getN (D := D) (ci := 5) (v := .ref (t 4)) (C := RX5) (T := TX5) (N := 9) hx hb hts tu_5 hown hE.1 hP 8 mt_0 rfl 4 (by decide) (va_Nw.use rfl hE.2.2.2.2.2.1) (fun _ h9 => h9) rfl dX6_readAt_72 ?_
          refine lv_iload_n hx hb dX6_readAt_75 rfl (lv_at hl 1 rfl) ?_
          refine k_iald (j := (ix (T 5 2))) hx hb hE hP 12 mt_4 hb2.2 (by decide) dX6_readAt_76 ?_
          refine w_top (fap_upd) ?_
          refine lv_iconst (v := 3) hx hb dX6_readAt_77 (by decide) ?_
          refine lv_icmp_ge (tgt := 82) hx hb dX6_readAt_78 (by decide) (fun c_6 => ?_) (fun c_6 => ?_)
          · refine lv_aload_n hx hb dX6_readAt_82 rfl (lv_at hl 3 rfl) ?_
            refine va_getN (D := D) (ci := 5) (v := .ref (t 5)) (C := RX5) (T := TX5) (N := 9) hx hb hts tu_5 hown hE.1 hP 8 mt_0 rfl 5 (by decide) (va_Nw.use rfl hE.2.2.2.2.2.2.1) (fun _ h9 => h9) rfl dX6_readAt_83 ?_
            refine lv_iconst (v := 2) hx hb dX6_readAt_86 (by decide) ?_
            refine lv_iconst (v := (-1)) hx hb dX6_readAt_87 (by decide) ?_
            refine k_iast (j := 2) hx hb hE hP hD hS 13 mt_5 (by decide) (by decide) dX6_readAt_88 (fun H locs hP hD hS => ?_)
            rw [mtq_5 (T := (sf T 4 (upd (T 4) (ix (T 5 2)) ((T 4 (ix (T 5 2))) + 1)))) (f := upd ((sf T 4 (upd (T 4) (ix (T 5 2)) ((T 4 (ix (T 5 2))) + 1))) 5) 2 (-1)) (f2 := upd (T 5) 2 (-1)) rfl] at hP hD
            refine lv_aload_n hx hb dX6_readAt_89 rfl (lv_at hl 3 rfl) ?_
            refine lv_iload_n hx hb dX6_readAt_90 rfl (lv_at hl 1 rfl) ?_
            refine lv_iconst (v := 3) hx hb dX6_readAt_91 (by decide) ?_
            refine lv_iconst (v := (-1)) hx hb dX6_readAt_92 (by decide) ?_
            refine c_mVv (rest := []) hC hE hP hD hS mt_same (metX5_put l G (sf (sf T 4 (upd (T 4) (ix (T 5 2)) ((T 4 (ix (T 5 2))) + 1))) 5 (upd (T 5) 2 (-1))) (ix (T 5 2)) 3 (-1) hb2.2) gc_RX6_68 hd_X5_put ⟨rfl, rfl⟩ ⟨Nat.le_of_ble_eq_true rfl, Nat.le_of_ble_eq_true rfl⟩ 8 mt_0 rfl rfl hl.1 (Nat.le_of_ble_eq_true rfl) ⟨Nat.le_of_ble_eq_true rfl, Nat.le_of_ble_eq_true rfl⟩ dX6_readAt_93 (fun H locs hP hD hS => ?_)
            have e8 : mTag G T = mPutB (sf (sf T 4 (upd (T 4) (ix (T 5 2)) ((T 4 (ix (T 5 2))) + 1))) 5 (upd (T 5) 2 (-1))) (ix (T 5 2)) 3 (-1) := by rw [mTag, sel_f (show ¬ (T 5 2 = (-1)) from c_1), sel_t (show T 3 (ix (T 5 2)) = (-1) from c_2), sel_f (show ¬ ((¬ (G 0 2 < G 6 (ix (T 5 2)))) ∧ (¬ (G 1 (ix (G 4 (ix (T 5 2)))) = (-1)))) from (fun h_ => (fun h_ => h_ c_5) h_.2)), mMiss, sel_t (show 3 ≤ (T 4 (ix (T 5 2))) + 1 from c_6)]
            exact m_vret hx hb hr hlk dX6_readAt_96 (by rw [e8]; exact hP) hS
          · have e8 : mTag G T = sf T 4 (upd (T 4) (ix (T 5 2)) ((T 4 (ix (T 5 2))) + 1)) := by rw [mTag, sel_f (show ¬ (T 5 2 = (-1)) from c_1), sel_t (show T 3 (ix (T 5 2)) = (-1) from c_2), sel_f (show ¬ ((¬ (G 0 2 < G 6 (ix (T 5 2)))) ∧ (¬ (G 1 (ix (G 4 (ix (T 5 2)))) = (-1)))) from (fun h_ => (fun h_ => h_ c_5) h_.2)), mMiss, sel_f (show ¬ (3 ≤ (T 4 (ix (T 5 2))) + 1) from c_6)]
            exact m_vret hx hb hr hlk dX6_readAt_81 (by rw [e8]; exact hP) hS
        · refine lv_aload_n hx hb dX6_readAt_53 rfl (lv_at hl 3 rfl) ?_
          refine va_getN (D := D) (ci := 5) (v := .ref (t 3)) (C := RX5) (T := TX5) (N := 9) hx hb hts tu_5 hown hE.1 hP 8 mt_0 rfl 3 (by decide) (va_Nw.use rfl hE.2.2.2.2.1) (fun _ h9 => h9) rfl dX6_readAt_54 ?_
          refine lv_iload_n hx hb dX6_readAt_57 rfl (lv_at hl 1 rfl) ?_
          refine lv_iload_n hx hb dX6_readAt_58 rfl (lv_at hl 0 rfl) ?_
          refine k_iast (j := (ix (T 5 2))) hx hb hE hP hD hS 11 mt_3 hb2.2 (by decide) dX6_readAt_59 (fun H locs hP hD hS => ?_)
          rw [mtq_3 (T := T) (f := upd (T 3) (ix (T 5 2)) (G 1 (ix (G 4 (ix (T 5 2)))))) (f2 := upd (T 3) (ix (T 5 2)) (G 1 (ix (G 4 (ix (T 5 2)))))) rfl] at hP hD
          have e8 : mTag G T = sf T 3 (upd (T 3) (ix (T 5 2)) (G 1 (ix (G 4 (ix (T 5 2)))))) := by rw [mTag, sel_f (show ¬ (T 5 2 = (-1)) from c_1), sel_t (show T 3 (ix (T 5 2)) = (-1) from c_2), sel_t (show ((¬ (G 0 2 < G 6 (ix (T 5 2)))) ∧ (¬ (G 1 (ix (G 4 (ix (T 5 2)))) = (-1)))) from ⟨c_3, c_5⟩)]
          exact m_vret hx hb hr hlk dX6_readAt_60 (by rw [e8]; exact hP) hS
    · have e8 : mTag G T = T := by rw [mTag, sel_f (show ¬ (T 5 2 = (-1)) from c_1), sel_f (show ¬ (T 3 (ix (T 5 2)) = (-1)) from c_2)]
      exact m_vret hx hb hr hlk dX6_readAt_22 (by rw [e8]; exact hP) hS

set_option maxHeartbeats 4000000 in
set_option maxRecDepth 100000 in
theorem metX6_slide (l : Launch) {D : va_G} {k : Nat → ClassId} {g t : Nat → Nat} {sp sq : Nat} {R : va_W} (G T : HS) (ch : Nat) (hc : ch < 4) (hB : okB (T 5)) : MM l yX6_slide cX6_slide 5 (some FieldType.int) rmX6_slide D k (gw k g sp sq G ++ (tw k t T ++ R)) [.ref (g 0), .ref (t 0), .int (nI ch)] (some (.int (bI (mSlP G T ch)))) (gw k g sp sq G ++ (tw k t (mSlT G T ch) ++ R)) := by
  refine MM_of rfl (Nat.le_of_ble_eq_true rfl) ?_
  intro p e s m below meth c hC hr hlk hin hE hP hD hS ls hl
  have hC : CallFix p m c cX6_slide 5 s _ lw_all RX6 := hC
  have hx := hC.1
  have hb := hC.2.1
  have hown : s.vm.findClass RX6 = some m.cls := hC.2.2.2.1
  have hts := hC.2.2.2.2
  have hl : lv_has ls 5 [(0, .ref (g 0)), (1, .ref (t 0)), (2, .int (nI ch))] := hl
  refine lv_iconst (v := 4) hx hb dX6_slide_0 (by decide) ?_
  refine lv_iconst (v := 2) hx hb dX6_slide_1 (by decide) ?_
  refine lv_iload_n hx hb dX6_slide_2 rfl (lv_at hl 2 rfl) ?_
  refine lv_imul hx hb dX6_slide_3 ?_
  refine lv_iadd hx hb dX6_slide_4 ?_
  refine w_top (place_n ch) ?_
  refine lv_istore_n (lv' := [(3, .int (nI (4 + 2 * ch))), (0, .ref (g 0)), (1, .ref (t 0)), (2, .int (nI ch))]) hx hb dX6_slide_5 rfl hl (by decide) rfl (fun ls hl => ?_)
  refine lv_aload_n hx hb dX6_slide_6 rfl (lv_at hl 2 rfl) ?_
  refine va_getN (D := D) (ci := 5) (v := .ref (t 5)) (C := RX5) (T := TX5) (N := 9) hx hb hts tu_5 hown hE.1 hP 8 mt_0 rfl 5 (by decide) (va_Nw.use rfl hE.2.2.2.2.2.2.1) (fun _ h9 => h9) rfl dX6_slide_7 ?_
  refine lv_iload_n hx hb dX6_slide_10 rfl (lv_at hl 0 rfl) ?_
  refine k_iald (j := (4 + 2 * ch)) hx hb hE hP 13 mt_5 (by omega) (by decide) dX6_slide_11 ?_
  refine lv_istore (lv' := [(4, .int (T 5 (4 + 2 * ch))), (3, .int (nI (4 + 2 * ch))), (0, .ref (g 0)), (1, .ref (t 0)), (2, .int (nI ch))]) hx hb dX6_slide_12 hl (by decide) rfl (fun ls hl => ?_)
  refine lv_iload hx hb dX6_slide_14 (lv_at hl 0 rfl) ?_
  refine lv_iconst (v := (-1)) hx hb dX6_slide_16 (by decide) ?_
  refine lv_icmp_eq (tgt := 46) hx hb dX6_slide_17 (by decide) (fun c_1 => ?_) (fun c_1 => ?_)
  · refine lv_iconst (v := 0) hx hb dX6_slide_46 (by decide) ?_
    have e8 : mSlT G T ch = T := by rw [mSlT, sel_f (show ¬ (mSlP G T ch) from (fun h_ => (fun h_ => h_ c_1) h_.1))]
    exact m_iret hx hb hr hlk dX6_slide_47 (by rw [e8]; exact hP) hS (by rw [bI_f (show ¬ (mSlP G T ch) from (fun h_ => (fun h_ => h_ c_1) h_.1))])
  · have hb2 := hB (4 + 2 * ch) (by omega) c_1
    have hl : lv_has ls 5 [(4, .int (nI (ix (T 5 (4 + 2 * ch))))), (3, .int (nI (4 + 2 * ch))), (0, .ref (g 0)), (1, .ref (t 0)), (2, .int (nI ch))] := by rw [← hb2.1]; exact hl
    refine lv_aload_n hx hb dX6_slide_20 rfl (lv_at hl 3 rfl) ?_
    refine va_getN (D := D) (ci := 5) (v := .ref (t 3)) (C := RX5) (T := TX5) (N := 9) hx hb hts tu_5 hown hE.1 hP 8 mt_0 rfl 3 (by decide) (va_Nw.use rfl hE.2.2.2.2.1) (fun _ h9 => h9) rfl dX6_slide_21 ?_
    refine lv_iload hx hb dX6_slide_24 (lv_at hl 0 rfl) ?_
    refine k_iald (j := (ix (T 5 (4 + 2 * ch)))) hx hb hE hP 11 mt_3 hb2.2 (by decide) dX6_slide_26 ?_
    refine lv_iload_n hx hb dX6_slide_27 rfl (lv_at hl 4 rfl) ?_
    refine lv_icmp_ne (tgt := 46) hx hb dX6_slide_28 (by decide) (fun c_2 => ?_) (fun c_2 => ?_)
    · refine lv_iconst (v := 0) hx hb dX6_slide_46 (by decide) ?_
      have e8 : mSlT G T ch = T := by rw [mSlT, sel_f (show ¬ (mSlP G T ch) from (fun h_ => c_2 h_.2.1))]
      exact m_iret hx hb hr hlk dX6_slide_47 (by rw [e8]; exact hP) hS (by rw [bI_f (show ¬ (mSlP G T ch) from (fun h_ => c_2 h_.2.1))])
    · refine lv_aload_n hx hb dX6_slide_31 rfl (lv_at hl 3 rfl) ?_
      refine va_getN (D := D) (ci := 5) (v := .ref (t 7)) (C := RX5) (T := TX5) (N := 9) hx hb hts tu_5 hown hE.1 hP 8 mt_0 rfl 8 (by decide) (va_Nw.use rfl hE.2.2.2.2.2.2.2.2) (fun _ h9 => h9) rfl dX6_slide_32 ?_
      refine lv_iload_n hx hb dX6_slide_35 rfl (lv_at hl 4 rfl) ?_
      refine k_iald (j := ch) hx hb hE hP 15 mt_7 hc (by decide) dX6_slide_36 ?_
      refine lv_aload_n hx hb dX6_slide_37 rfl (lv_at hl 2 rfl) ?_
      refine va_get (D := D) (ci := 6) (v := .ref (g 3)) (C := RX6) (T := TX6) (N := 13) hx hb hts tu_6 hown hE.1 hP 0 gw_0 rfl 4 (by decide) (hts _ tw_789) (fun _ h9 => h9) rfl dX6_slide_38 ?_
      refine lv_iload_n hx hb dX6_slide_41 rfl (lv_at hl 4 rfl) ?_
      refine k_iald (j := ch) hx hb hE hP 3 gw_3 hc (by decide) dX6_slide_42 ?_
      refine lv_icmp_lt (tgt := 48) hx hb dX6_slide_43 (by decide) (fun c_3 => ?_) (fun c_3 => ?_)
      · refine lv_aload_n hx hb dX6_slide_48 rfl (lv_at hl 3 rfl) ?_
        refine va_getN (D := D) (ci := 5) (v := .ref (t 5)) (C := RX5) (T := TX5) (N := 9) hx hb hts tu_5 hown hE.1 hP 8 mt_0 rfl 5 (by decide) (va_Nw.use rfl hE.2.2.2.2.2.2.1) (fun _ h9 => h9) rfl dX6_slide_49 ?_
        refine lv_iload_n hx hb dX6_slide_52 rfl (lv_at hl 1 rfl) ?_
        refine lv_iconst (v := (-1)) hx hb dX6_slide_53 (by decide) ?_
        refine k_iast (j := (4 + 2 * ch)) hx hb hE hP hD hS 13 mt_5 (by omega) (by decide) dX6_slide_54 (fun H locs hP hD hS => ?_)
        rw [mtq_5 (T := T) (f := upd (T 5) (4 + 2 * ch) (-1)) (f2 := upd (T 5) (4 + 2 * ch) (-1)) rfl] at hP hD
        refine lv_aload_n hx hb dX6_slide_55 rfl (lv_at hl 3 rfl) ?_
        refine lv_iload hx hb dX6_slide_56 (lv_at hl 0 rfl) ?_
        refine lv_iload_n hx hb dX6_slide_58 rfl (lv_at hl 4 rfl) ?_
        refine c_mVv (rest := []) hC hE hP hD hS mt_same (metX5_toChute l G (sf T 5 (upd (T 5) (4 + 2 * ch) (-1))) (ix (T 5 (4 + 2 * ch))) ch hb2.2 hc) gc_RX6_75 hd_X5_toChute ⟨rfl, rfl⟩ ⟨Nat.le_of_ble_eq_true rfl, Nat.le_of_ble_eq_true rfl⟩ 8 mt_0 rfl rfl hl.1 (Nat.le_of_ble_eq_true rfl) ⟨Nat.le_of_ble_eq_true rfl, Nat.le_of_ble_eq_true rfl⟩ dX6_slide_59 (fun H locs hP hD hS => ?_)
        refine lv_iconst (v := 1) hx hb dX6_slide_62 (by decide) ?_
        have e8 : mSlT G T ch = mToCh (sf T 5 (upd (T 5) (4 + 2 * ch) (-1))) (ix (T 5 (4 + 2 * ch))) ch := by rw [mSlT, sel_t (show mSlP G T ch from ⟨c_1, c_2, c_3⟩)]
        exact m_iret hx hb hr hlk dX6_slide_63 (by rw [e8]; exact hP) hS (by rw [bI_t (show mSlP G T ch from ⟨c_1, c_2, c_3⟩)])
      · refine lv_iconst (v := 0) hx hb dX6_slide_46 (by decide) ?_
        have e8 : mSlT G T ch = T := by rw [mSlT, sel_f (show ¬ (mSlP G T ch) from (fun h_ => c_3 h_.2.2))]
        exact m_iret hx hb hr hlk dX6_slide_47 (by rw [e8]; exact hP) hS (by rw [bI_f (show ¬ (mSlP G T ch) from (fun h_ => c_3 h_.2.2))])

set_option maxHeartbeats 4000000 in
set_option maxRecDepth 100000 in
theorem metX6_misrouted (l : Launch) {D : va_G} {k : Nat → ClassId} {g t : Nat → Nat} {sq : Nat} {R : va_W} (G T : HS) (b : Nat) (hbg : b < 40) (hF : okF G) : PM l yX6_misrouted cX6_misrouted 2 (some FieldType.boolean) rmX6_misrouted D k (gw k g (t 0) sq G ++ (tw k t T ++ R)) [.ref (g 0), .int (nI b)] (some (.int (bI (mMis G T b)))) := by
  refine PM_of rfl (Nat.le_of_ble_eq_true rfl) ?_
  intro p e s m below meth c hC hr hlk hin hE hP ls hl
  have hC : CallFix p m c cX6_misrouted 2 s _ lw_all RX6 := hC
  have hx := hC.1
  have hb := hC.2.1
  have hown : s.vm.findClass RX6 = some m.cls := hC.2.2.2.1
  have hts := hC.2.2.2.2
  have hl : lv_has ls 2 [(0, .ref (g 0)), (1, .int (nI b))] := hl
  refine lv_aload_n hx hb dX6_misrouted_0 rfl (lv_at hl 0 rfl) ?_
  refine va_get (D := D) (ci := 6) (v := .ref (t 0)) (C := RX6) (T := TX6) (N := 13) hx hb hts tu_6 hown hE.1 hP 0 gw_0 rfl 11 (by decide) (hts _ tw_796) (fun _ h9 => h9) rfl dX6_misrouted_1 ?_
  refine va_getN (D := D) (ci := 5) (v := .ref (t 1)) (C := RX5) (T := TX5) (N := 9) hx hb hts tu_5 hown hE.1 hP 8 mt_0 rfl 1 (by decide) (va_Nw.use rfl hE.2.2.1) (fun _ h9 => h9) rfl dX6_misrouted_4 ?_
  refine lv_iload_n hx hb dX6_misrouted_7 rfl (lv_at hl 1 rfl) ?_
  refine k_iald (j := b) hx hb hE hP 9 mt_1 hbg (by decide) dX6_misrouted_8 ?_
  refine lv_iconst (v := 2) hx hb dX6_misrouted_9 (by decide) ?_
  refine lv_icmp_ne (tgt := 54) hx hb dX6_misrouted_10 (by decide) (fun c_1 => ?_) (fun c_1 => ?_)
  · refine lv_iconst (v := 0) hx hb dX6_misrouted_54 (by decide) ?_
    exact p_zret hx hb hr rfl hlk dX6_misrouted_55 (by rw [bI_f (show ¬ (mMis G T b) from (fun h_ => c_1 h_.1))])
  · refine lv_aload_n hx hb dX6_misrouted_13 rfl (lv_at hl 0 rfl) ?_
    refine va_get (D := D) (ci := 6) (v := .ref (g 2)) (C := RX6) (T := TX6) (N := 13) hx hb hts tu_6 hown hE.1 hP 0 gw_0 rfl 3 (by decide) (hts _ tw_788) (fun _ h9 => h9) rfl dX6_misrouted_14 ?_
    refine lv_aload_n hx hb dX6_misrouted_17 rfl (lv_at hl 0 rfl) ?_
    refine va_get (D := D) (ci := 6) (v := .ref (g 4)) (C := RX6) (T := TX6) (N := 13) hx hb hts tu_6 hown hE.1 hP 0 gw_0 rfl 7 (by decide) (hts _ tw_792) (fun _ h9 => h9) rfl dX6_misrouted_18 ?_
    refine lv_iload_n hx hb dX6_misrouted_21 rfl (lv_at hl 1 rfl) ?_
    refine k_iald (j := b) hx hb hE hP 4 gw_4 hbg (by decide) dX6_misrouted_22 ?_
    refine w_top ((hF b hbg).1) ?_
    refine k_zald (j := (ix (G 4 b))) hx hb hE hP 2 gw_2 (hF b hbg).2 (by decide) dX6_misrouted_23 ?_
    refine lv_if_ne (tgt := 50) hx hb dX6_misrouted_24 (by decide) (fun c_2 => ?_) (fun c_2 => ?_)
    · refine lv_iconst (v := 1) hx hb dX6_misrouted_50 (by decide) ?_
      refine lv_goto (tgt := 55) hx hb dX6_misrouted_51 (by decide) ?_
      exact p_zret hx hb hr rfl hlk dX6_misrouted_55 (by rw [bI_t (show mMis G T b from ⟨c_1, (Or.inl c_2)⟩)])
    · refine lv_aload_n hx hb dX6_misrouted_27 rfl (lv_at hl 0 rfl) ?_
      refine va_get (D := D) (ci := 6) (v := .ref (g 1)) (C := RX6) (T := TX6) (N := 13) hx hb hts tu_6 hown hE.1 hP 0 gw_0 rfl 2 (by decide) (hts _ tw_787) (fun _ h9 => h9) rfl dX6_misrouted_28 ?_
      refine lv_aload_n hx hb dX6_misrouted_31 rfl (lv_at hl 0 rfl) ?_
      refine va_get (D := D) (ci := 6) (v := .ref (g 4)) (C := RX6) (T := TX6) (N := 13) hx hb hts tu_6 hown hE.1 hP 0 gw_0 rfl 7 (by decide) (hts _ tw_792) (fun _ h9 => h9) rfl dX6_misrouted_32 ?_
      refine lv_iload_n hx hb dX6_misrouted_35 rfl (lv_at hl 1 rfl) ?_
      refine k_iald (j := b) hx hb hE hP 4 gw_4 hbg (by decide) dX6_misrouted_36 ?_
      refine w_top ((hF b hbg).1) ?_
      refine k_iald (j := (ix (G 4 b))) hx hb hE hP 1 gw_1 (hF b hbg).2 (by decide) dX6_misrouted_37 ?_
      refine lv_aload_n hx hb dX6_misrouted_38 rfl (lv_at hl 0 rfl) ?_
      refine va_get (D := D) (ci := 6) (v := .ref (t 0)) (C := RX6) (T := TX6) (N := 13) hx hb hts tu_6 hown hE.1 hP 0 gw_0 rfl 11 (by decide) (hts _ tw_796) (fun _ h9 => h9) rfl dX6_misrouted_39 ?_
      refine va_getN (D := D) (ci := 5) (v := .ref (t 2)) (C := RX5) (T := TX5) (N := 9) hx hb hts tu_5 hown hE.1 hP 8 mt_0 rfl 2 (by decide) (va_Nw.use rfl hE.2.2.2.1) (fun _ h9 => h9) rfl dX6_misrouted_42 ?_
      refine lv_iload_n hx hb dX6_misrouted_45 rfl (lv_at hl 1 rfl) ?_
      refine k_iald (j := b) hx hb hE hP 10 mt_2 hbg (by decide) dX6_misrouted_46 ?_
      refine lv_icmp_eq (tgt := 54) hx hb dX6_misrouted_47 (by decide) (fun c_3 => ?_) (fun c_3 => ?_)
      · refine lv_iconst (v := 0) hx hb dX6_misrouted_54 (by decide) ?_
        exact p_zret hx hb hr rfl hlk dX6_misrouted_55 (by rw [bI_f (show ¬ (mMis G T b) from (fun h_ => (fun h_ => Or.elim h_ (fun h_ => h_ c_2) (fun h_ => h_ c_3)) h_.2))])
      · refine lv_iconst (v := 1) hx hb dX6_misrouted_50 (by decide) ?_
        refine lv_goto (tgt := 55) hx hb dX6_misrouted_51 (by decide) ?_
        exact p_zret hx hb hr rfl hlk dX6_misrouted_55 (by rw [bI_t (show mMis G T b from ⟨c_1, (Or.inr c_3)⟩)])

set_option maxHeartbeats 4000000 in
set_option maxRecDepth 100000 in
theorem metX6_isInItsChute (l : Launch) {D : va_G} {k : Nat → ClassId} {g t : Nat → Nat} {sq : Nat} {R : va_W} (G T : HS) (b : Nat) (hbg : b < 40) (hF : okF G) : PM l yX6_isInItsChute cX6_isInItsChute 2 (some FieldType.boolean) rmX6_isInItsChute D k (gw k g (t 0) sq G ++ (tw k t T ++ R)) [.ref (g 0), .int (nI b)] (some (.int (bI (mOwn G T b)))) := by
  refine PM_of rfl (Nat.le_of_ble_eq_true rfl) ?_
  intro p e s m below meth c hC hr hlk hin hE hP ls hl
  have hC : CallFix p m c cX6_isInItsChute 2 s _ lw_all RX6 := hC
  have hx := hC.1
  have hb := hC.2.1
  have hown : s.vm.findClass RX6 = some m.cls := hC.2.2.2.1
  have hts := hC.2.2.2.2
  have hl : lv_has ls 2 [(0, .ref (g 0)), (1, .int (nI b))] := hl
  refine lv_aload_n hx hb dX6_isInItsChute_0 rfl (lv_at hl 0 rfl) ?_
  refine va_get (D := D) (ci := 6) (v := .ref (t 0)) (C := RX6) (T := TX6) (N := 13) hx hb hts tu_6 hown hE.1 hP 0 gw_0 rfl 11 (by decide) (hts _ tw_796) (fun _ h9 => h9) rfl dX6_isInItsChute_1 ?_
  refine va_getN (D := D) (ci := 5) (v := .ref (t 1)) (C := RX5) (T := TX5) (N := 9) hx hb hts tu_5 hown hE.1 hP 8 mt_0 rfl 1 (by decide) (va_Nw.use rfl hE.2.2.1) (fun _ h9 => h9) rfl dX6_isInItsChute_4 ?_
  refine lv_iload_n hx hb dX6_isInItsChute_7 rfl (lv_at hl 1 rfl) ?_
  refine k_iald (j := b) hx hb hE hP 9 mt_1 hbg (by decide) dX6_isInItsChute_8 ?_
  refine lv_iconst (v := 2) hx hb dX6_isInItsChute_9 (by decide) ?_
  refine lv_icmp_ne (tgt := 40) hx hb dX6_isInItsChute_10 (by decide) (fun c_1 => ?_) (fun c_1 => ?_)
  · refine lv_iconst (v := 0) hx hb dX6_isInItsChute_40 (by decide) ?_
    exact p_zret hx hb hr rfl hlk dX6_isInItsChute_41 (by rw [bI_f (show ¬ (mOwn G T b) from (fun h_ => c_1 h_.1))])
  · refine lv_aload_n hx hb dX6_isInItsChute_13 rfl (lv_at hl 0 rfl) ?_
    refine va_get (D := D) (ci := 6) (v := .ref (t 0)) (C := RX6) (T := TX6) (N := 13) hx hb hts tu_6 hown hE.1 hP 0 gw_0 rfl 11 (by decide) (hts _ tw_796) (fun _ h9 => h9) rfl dX6_isInItsChute_14 ?_
    refine va_getN (D := D) (ci := 5) (v := .ref (t 2)) (C := RX5) (T := TX5) (N := 9) hx hb hts tu_5 hown hE.1 hP 8 mt_0 rfl 2 (by decide) (va_Nw.use rfl hE.2.2.2.1) (fun _ h9 => h9) rfl dX6_isInItsChute_17 ?_
    refine lv_iload_n hx hb dX6_isInItsChute_20 rfl (lv_at hl 1 rfl) ?_
    refine k_iald (j := b) hx hb hE hP 10 mt_2 hbg (by decide) dX6_isInItsChute_21 ?_
    refine lv_aload_n hx hb dX6_isInItsChute_22 rfl (lv_at hl 0 rfl) ?_
    refine va_get (D := D) (ci := 6) (v := .ref (g 1)) (C := RX6) (T := TX6) (N := 13) hx hb hts tu_6 hown hE.1 hP 0 gw_0 rfl 2 (by decide) (hts _ tw_787) (fun _ h9 => h9) rfl dX6_isInItsChute_23 ?_
    refine lv_aload_n hx hb dX6_isInItsChute_26 rfl (lv_at hl 0 rfl) ?_
    refine va_get (D := D) (ci := 6) (v := .ref (g 4)) (C := RX6) (T := TX6) (N := 13) hx hb hts tu_6 hown hE.1 hP 0 gw_0 rfl 7 (by decide) (hts _ tw_792) (fun _ h9 => h9) rfl dX6_isInItsChute_27 ?_
    refine lv_iload_n hx hb dX6_isInItsChute_30 rfl (lv_at hl 1 rfl) ?_
    refine k_iald (j := b) hx hb hE hP 4 gw_4 hbg (by decide) dX6_isInItsChute_31 ?_
    refine w_top ((hF b hbg).1) ?_
    refine k_iald (j := (ix (G 4 b))) hx hb hE hP 1 gw_1 (hF b hbg).2 (by decide) dX6_isInItsChute_32 ?_
    refine lv_icmp_ne (tgt := 40) hx hb dX6_isInItsChute_33 (by decide) (fun c_2 => ?_) (fun c_2 => ?_)
    · refine lv_iconst (v := 0) hx hb dX6_isInItsChute_40 (by decide) ?_
      exact p_zret hx hb hr rfl hlk dX6_isInItsChute_41 (by rw [bI_f (show ¬ (mOwn G T b) from (fun h_ => c_2 h_.2))])
    · refine lv_iconst (v := 1) hx hb dX6_isInItsChute_36 (by decide) ?_
      refine lv_goto (tgt := 41) hx hb dX6_isInItsChute_37 (by decide) ?_
      exact p_zret hx hb hr rfl hlk dX6_isInItsChute_41 (by rw [bI_t (show mOwn G T b from ⟨c_1, c_2⟩)])

set_option maxHeartbeats 4000000 in
set_option maxRecDepth 100000 in
theorem metX6_isAside (l : Launch) {D : va_G} {k : Nat → ClassId} {g t : Nat → Nat} {sq : Nat} {R : va_W} (G T : HS) (b : Nat) (hbg : b < 40) : PM l yX6_isAside cX6_isAside 2 (some FieldType.boolean) rmX6_isAside D k (gw k g (t 0) sq G ++ (tw k t T ++ R)) [.ref (g 0), .int (nI b)] (some (.int (bI (mAside T b)))) := by
  refine PM_of rfl (Nat.le_of_ble_eq_true rfl) ?_
  intro p e s m below meth c hC hr hlk hin hE hP ls hl
  have hC : CallFix p m c cX6_isAside 2 s _ lw_all RX6 := hC
  have hx := hC.1
  have hb := hC.2.1
  have hown : s.vm.findClass RX6 = some m.cls := hC.2.2.2.1
  have hts := hC.2.2.2.2
  have hl : lv_has ls 2 [(0, .ref (g 0)), (1, .int (nI b))] := hl
  refine lv_aload_n hx hb dX6_isAside_0 rfl (lv_at hl 0 rfl) ?_
  refine va_get (D := D) (ci := 6) (v := .ref (t 0)) (C := RX6) (T := TX6) (N := 13) hx hb hts tu_6 hown hE.1 hP 0 gw_0 rfl 11 (by decide) (hts _ tw_796) (fun _ h9 => h9) rfl dX6_isAside_1 ?_
  refine va_getN (D := D) (ci := 5) (v := .ref (t 1)) (C := RX5) (T := TX5) (N := 9) hx hb hts tu_5 hown hE.1 hP 8 mt_0 rfl 1 (by decide) (va_Nw.use rfl hE.2.2.1) (fun _ h9 => h9) rfl dX6_isAside_4 ?_
  refine lv_iload_n hx hb dX6_isAside_7 rfl (lv_at hl 1 rfl) ?_
  refine k_iald (j := b) hx hb hE hP 9 mt_1 hbg (by decide) dX6_isAside_8 ?_
  refine lv_iconst (v := 3) hx hb dX6_isAside_9 (by decide) ?_
  refine lv_icmp_eq (tgt := 26) hx hb dX6_isAside_10 (by decide) (fun c_1 => ?_) (fun c_1 => ?_)
  · refine lv_iconst (v := 1) hx hb dX6_isAside_26 (by decide) ?_
    refine lv_goto (tgt := 31) hx hb dX6_isAside_27 (by decide) ?_
    exact p_zret hx hb hr rfl hlk dX6_isAside_31 (by rw [bI_t (show mAside T b from (Or.inl c_1))])
  · refine lv_aload_n hx hb dX6_isAside_13 rfl (lv_at hl 0 rfl) ?_
    refine va_get (D := D) (ci := 6) (v := .ref (t 0)) (C := RX6) (T := TX6) (N := 13) hx hb hts tu_6 hown hE.1 hP 0 gw_0 rfl 11 (by decide) (hts _ tw_796) (fun _ h9 => h9) rfl dX6_isAside_14 ?_
    refine va_getN (D := D) (ci := 5) (v := .ref (t 1)) (C := RX5) (T := TX5) (N := 9) hx hb hts tu_5 hown hE.1 hP 8 mt_0 rfl 1 (by decide) (va_Nw.use rfl hE.2.2.1) (fun _ h9 => h9) rfl dX6_isAside_17 ?_
    refine lv_iload_n hx hb dX6_isAside_20 rfl (lv_at hl 1 rfl) ?_
    refine k_iald (j := b) hx hb hE hP 9 mt_1 hbg (by decide) dX6_isAside_21 ?_
    refine lv_iconst (v := 4) hx hb dX6_isAside_22 (by decide) ?_
    refine lv_icmp_ne (tgt := 30) hx hb dX6_isAside_23 (by decide) (fun c_2 => ?_) (fun c_2 => ?_)
    · refine lv_iconst (v := 0) hx hb dX6_isAside_30 (by decide) ?_
      exact p_zret hx hb hr rfl hlk dX6_isAside_31 (by rw [bI_f (show ¬ (mAside T b) from (fun h_ => Or.elim h_ c_1 c_2))])
    · refine lv_iconst (v := 1) hx hb dX6_isAside_26 (by decide) ?_
      refine lv_goto (tgt := 31) hx hb dX6_isAside_27 (by decide) ?_
      exact p_zret hx hb hr rfl hlk dX6_isAside_31 (by rw [bI_t (show mAside T b from (Or.inr c_2))])

set_option maxHeartbeats 4000000 in
set_option maxRecDepth 100000 in
theorem metX6_close (l : Launch) {D : va_G} {k : Nat → ClassId} {g t : Nat → Nat} {sq : Nat} {R : va_W} (G T : HS) (b : Nat) (hbg : b < 40) : MM l yX6_close cX6_close 2 none rmX6_close D k (gw k g (t 0) sq G ++ (tw k t T ++ R)) [.ref (g 0), .int (nI b)] none (gw k g (t 0) sq (mClose G b) ++ (tw k t T ++ R)) := by
  refine MM_of rfl (Nat.le_of_ble_eq_true rfl) ?_
  intro p e s m below meth c hC hr hlk hin hE hP hD hS ls hl
  have hC : CallFix p m c cX6_close 2 s _ lw_all RX6 := hC
  have hx := hC.1
  have hb := hC.2.1
  have hown : s.vm.findClass RX6 = some m.cls := hC.2.2.2.1
  have hts := hC.2.2.2.2
  have hl : lv_has ls 2 [(0, .ref (g 0)), (1, .int (nI b))] := hl
  refine lv_aload_n hx hb dX6_close_0 rfl (lv_at hl 0 rfl) ?_
  refine va_get (D := D) (ci := 6) (v := .ref (g 7)) (C := RX6) (T := TX6) (N := 13) hx hb hts tu_6 hown hE.1 hP 0 gw_0 rfl 10 (by decide) (hts _ tw_795) (fun _ h9 => h9) rfl dX6_close_1 ?_
  refine lv_iload_n hx hb dX6_close_4 rfl (lv_at hl 1 rfl) ?_
  refine k_iald (j := b) hx hb hE hP 7 gw_7 hbg (by decide) dX6_close_5 ?_
  refine lv_iconst (v := 1) hx hb dX6_close_6 (by decide) ?_
  refine lv_icmp_ne (tgt := 17) hx hb dX6_close_7 (by decide) (fun c_1 => ?_) (fun c_1 => ?_)
  · have e9 : mClose G b = G := by rw [mClose, sel_f (show ¬ (G 7 b = 1) from c_1)]
    exact m_vret hx hb hr hlk dX6_close_17 (by rw [e9]; exact hP) hS
  · refine lv_aload_n hx hb dX6_close_10 rfl (lv_at hl 0 rfl) ?_
    refine va_get (D := D) (ci := 6) (v := .ref (g 7)) (C := RX6) (T := TX6) (N := 13) hx hb hts tu_6 hown hE.1 hP 0 gw_0 rfl 10 (by decide) (hts _ tw_795) (fun _ h9 => h9) rfl dX6_close_11 ?_
    refine lv_iload_n hx hb dX6_close_14 rfl (lv_at hl 1 rfl) ?_
    refine lv_iconst (v := 2) hx hb dX6_close_15 (by decide) ?_
    refine k_iast (j := b) hx hb hE hP hD hS 7 gw_7 hbg (by decide) dX6_close_16 (fun H locs hP hD hS => ?_)
    rw [gwq_7 (G := G) (f := upd (G 7) b 2) (f2 := upd (G 7) b 2) rfl] at hP hD
    have e9 : mClose G b = sf G 7 (upd (G 7) b 2) := by rw [mClose, sel_t (show G 7 b = 1 from c_1)]
    exact m_vret hx hb hr hlk dX6_close_17 (by rw [e9]; exact hP) hS

set_option maxHeartbeats 4000000 in
set_option maxRecDepth 100000 in
theorem metX6_placed (l : Launch) {D : va_G} {k : Nat → ClassId} {g t : Nat → Nat} {sq : Nat} {R : va_W} (G T : HS) (b : Nat) (w : Int32) (hbg : b < 40) : PM l yX6_placed cX6_placed 3 (some FieldType.int) rmX6_placed D k (gw k g (t 0) sq G ++ (tw k t T ++ R)) [.ref (g 0), .int (nI b), .int w] (some (.int (mPl T b w))) := by
  refine PM_of rfl (Nat.le_of_ble_eq_true rfl) ?_
  intro p e s m below meth c hC hr hlk hin hE hP ls hl
  have hC : CallFix p m c cX6_placed 3 s _ lw_all RX6 := hC
  have hx := hC.1
  have hb := hC.2.1
  have hown : s.vm.findClass RX6 = some m.cls := hC.2.2.2.1
  have hts := hC.2.2.2.2
  have hl : lv_has ls 3 [(0, .ref (g 0)), (1, .int (nI b)), (2, .int w)] := hl
  refine lv_aload_n hx hb dX6_placed_0 rfl (lv_at hl 0 rfl) ?_
  refine va_get (D := D) (ci := 6) (v := .ref (t 0)) (C := RX6) (T := TX6) (N := 13) hx hb hts tu_6 hown hE.1 hP 0 gw_0 rfl 11 (by decide) (hts _ tw_796) (fun _ h9 => h9) rfl dX6_placed_1 ?_
  refine va_getN (D := D) (ci := 5) (v := .ref (t 1)) (C := RX5) (T := TX5) (N := 9) hx hb hts tu_5 hown hE.1 hP 8 mt_0 rfl 1 (by decide) (va_Nw.use rfl hE.2.2.1) (fun _ h9 => h9) rfl dX6_placed_4 ?_
  refine lv_iload_n hx hb dX6_placed_7 rfl (lv_at hl 1 rfl) ?_
  refine k_iald (j := b) hx hb hE hP 9 mt_1 hbg (by decide) dX6_placed_8 ?_
  refine lv_iload_n hx hb dX6_placed_9 rfl (lv_at hl 2 rfl) ?_
  refine lv_icmp_ne (tgt := 25) hx hb dX6_placed_10 (by decide) (fun c_1 => ?_) (fun c_1 => ?_)
  · refine lv_iconst (v := (-1)) hx hb dX6_placed_25 (by decide) ?_
    exact p_iret hx hb hr hlk dX6_placed_26 (by rw [mPl, sel_f (show ¬ (T 1 b = w) from c_1)])
  · refine lv_aload_n hx hb dX6_placed_13 rfl (lv_at hl 0 rfl) ?_
    refine va_get (D := D) (ci := 6) (v := .ref (t 0)) (C := RX6) (T := TX6) (N := 13) hx hb hts tu_6 hown hE.1 hP 0 gw_0 rfl 11 (by decide) (hts _ tw_796) (fun _ h9 => h9) rfl dX6_placed_14 ?_
    refine va_getN (D := D) (ci := 5) (v := .ref (t 2)) (C := RX5) (T := TX5) (N := 9) hx hb hts tu_5 hown hE.1 hP 8 mt_0 rfl 2 (by decide) (va_Nw.use rfl hE.2.2.2.1) (fun _ h9 => h9) rfl dX6_placed_17 ?_
    refine lv_iload_n hx hb dX6_placed_20 rfl (lv_at hl 1 rfl) ?_
    refine k_iald (j := b) hx hb hE hP 10 mt_2 hbg (by decide) dX6_placed_21 ?_
    refine lv_goto (tgt := 26) hx hb dX6_placed_22 (by decide) ?_
    exact p_iret hx hb hr hlk dX6_placed_26 (by rw [mPl, sel_t (show T 1 b = w from c_1)])

set_option maxHeartbeats 4000000 in
set_option maxRecDepth 100000 in
theorem metX6_begin (l : Launch) {D : va_G} {k : Nat → ClassId} {g t : Nat → Nat} {sq : Nat} {R : va_W} (G T : HS) (b : Nat) (hbg : b < 40) (hbL : G 5 b ≤ 7 → T 0 1 = nI (ix (T 0 1)) ∧ ix (T 0 1) < 40) : MM l yX6_begin cX6_begin 2 none rmX6_begin D k (gw k g (t 0) sq G ++ (tw k t T ++ R)) [.ref (g 0), .int (nI b)] none (gw k g (t 0) sq G ++ (tw k t (mBegin G T b) ++ R)) := by
  refine MM_of rfl (Nat.le_of_ble_eq_true rfl) ?_
  intro p e s m below meth c hC hr hlk hin hE hP hD hS ls hl
  have hC : CallFix p m c cX6_begin 2 s _ lw_all RX6 := hC
  have hx := hC.1
  have hb := hC.2.1
  have hown : s.vm.findClass RX6 = some m.cls := hC.2.2.2.1
  have hts := hC.2.2.2.2
  have hl : lv_has ls 2 [(0, .ref (g 0)), (1, .int (nI b))] := hl
  refine lv_aload_n hx hb dX6_begin_0 rfl (lv_at hl 0 rfl) ?_
  refine va_get (D := D) (ci := 6) (v := .ref (t 0)) (C := RX6) (T := TX6) (N := 13) hx hb hts tu_6 hown hE.1 hP 0 gw_0 rfl 11 (by decide) (hts _ tw_796) (fun _ h9 => h9) rfl dX6_begin_1 ?_
  refine va_getN (D := D) (ci := 5) (v := .ref (t 3)) (C := RX5) (T := TX5) (N := 9) hx hb hts tu_5 hown hE.1 hP 8 mt_0 rfl 3 (by decide) (va_Nw.use rfl hE.2.2.2.2.1) (fun _ h9 => h9) rfl dX6_begin_4 ?_
  refine lv_iload_n hx hb dX6_begin_7 rfl (lv_at hl 1 rfl) ?_
  refine lv_iconst (v := (-1)) hx hb dX6_begin_8 (by decide) ?_
  refine k_iast (j := b) hx hb hE hP hD hS 11 mt_3 hbg (by decide) dX6_begin_9 (fun H locs hP hD hS => ?_)
  rw [mtq_3 (T := T) (f := upd (T 3) b (-1)) (f2 := upd (T 3) b (-1)) rfl] at hP hD
  refine lv_aload_n hx hb dX6_begin_10 rfl (lv_at hl 0 rfl) ?_
  refine va_get (D := D) (ci := 6) (v := .ref (t 0)) (C := RX6) (T := TX6) (N := 13) hx hb hts tu_6 hown hE.1 hP 0 gw_0 rfl 11 (by decide) (hts _ tw_796) (fun _ h9 => h9) rfl dX6_begin_11 ?_
  refine va_getN (D := D) (ci := 5) (v := .ref (t 4)) (C := RX5) (T := TX5) (N := 9) hx hb hts tu_5 hown hE.1 hP 8 mt_0 rfl 4 (by decide) (va_Nw.use rfl hE.2.2.2.2.2.1) (fun _ h9 => h9) rfl dX6_begin_14 ?_
  refine lv_iload_n hx hb dX6_begin_17 rfl (lv_at hl 1 rfl) ?_
  refine lv_iconst (v := 0) hx hb dX6_begin_18 (by decide) ?_
  refine k_iast (j := b) hx hb hE hP hD hS 12 mt_4 hbg (by decide) dX6_begin_19 (fun H locs hP hD hS => ?_)
  rw [mtq_4 (T := (sf T 3 (upd (T 3) b (-1)))) (f := upd ((sf T 3 (upd (T 3) b (-1))) 4) b 0) (f2 := upd (T 4) b 0) rfl] at hP hD
  refine lv_aload_n hx hb dX6_begin_20 rfl (lv_at hl 0 rfl) ?_
  refine va_get (D := D) (ci := 6) (v := .ref (g 5)) (C := RX6) (T := TX6) (N := 13) hx hb hts tu_6 hown hE.1 hP 0 gw_0 rfl 8 (by decide) (hts _ tw_793) (fun _ h9 => h9) rfl dX6_begin_21 ?_
  refine lv_iload_n hx hb dX6_begin_24 rfl (lv_at hl 1 rfl) ?_
  refine k_iald (j := b) hx hb hE hP 5 gw_5 hbg (by decide) dX6_begin_25 ?_
  refine lv_bipush (v := 7) hx hb dX6_begin_26 (by decide) ?_
  refine lv_icmp_le (tgt := 44) hx hb dX6_begin_28 (by decide) (fun c_1 => ?_) (fun c_1 => ?_)
  · refine lv_aload_n hx hb dX6_begin_44 rfl (lv_at hl 0 rfl) ?_
    refine va_get (D := D) (ci := 6) (v := .ref (t 0)) (C := RX6) (T := TX6) (N := 13) hx hb hts tu_6 hown hE.1 hP 0 gw_0 rfl 11 (by decide) (hts _ tw_796) (fun _ h9 => h9) rfl dX6_begin_45 ?_
    refine lv_iload_n hx hb dX6_begin_48 rfl (lv_at hl 1 rfl) ?_
    refine c_mVv (rest := []) hC hE hP hD hS mt_same (metX5_toLine l G (sf (sf T 3 (upd (T 3) b (-1))) 4 (upd (T 4) b 0)) b hbg (hbL c_1).1 (hbL c_1).2) gc_RX6_121 hd_X5_toLine ⟨rfl, rfl⟩ ⟨Nat.le_of_ble_eq_true rfl, Nat.le_of_ble_eq_true rfl⟩ 8 mt_0 rfl rfl hl.1 (Nat.le_of_ble_eq_true rfl) ⟨Nat.le_of_ble_eq_true rfl, Nat.le_of_ble_eq_true rfl⟩ dX6_begin_49 (fun H locs hP hD hS => ?_)
    have e8 : mBegin G T b = mLine (sf (sf T 3 (upd (T 3) b (-1))) 4 (upd (T 4) b 0)) b := by rw [mBegin, sel_t (show G 5 b ≤ 7 from c_1)]
    exact m_vret hx hb hr hlk dX6_begin_52 (by rw [e8]; exact hP) hS
  · refine lv_aload_n hx hb dX6_begin_31 rfl (lv_at hl 0 rfl) ?_
    refine va_get (D := D) (ci := 6) (v := .ref (t 0)) (C := RX6) (T := TX6) (N := 13) hx hb hts tu_6 hown hE.1 hP 0 gw_0 rfl 11 (by decide) (hts _ tw_796) (fun _ h9 => h9) rfl dX6_begin_32 ?_
    refine lv_iload_n hx hb dX6_begin_35 rfl (lv_at hl 1 rfl) ?_
    refine lv_iconst (v := 4) hx hb dX6_begin_36 (by decide) ?_
    refine lv_iconst (v := (-1)) hx hb dX6_begin_37 (by decide) ?_
    refine c_mVv (rest := []) hC hE hP hD hS mt_same (metX5_put l G (sf (sf T 3 (upd (T 3) b (-1))) 4 (upd (T 4) b 0)) b 4 (-1) hbg) gc_RX6_68 hd_X5_put ⟨rfl, rfl⟩ ⟨Nat.le_of_ble_eq_true rfl, Nat.le_of_ble_eq_true rfl⟩ 8 mt_0 rfl rfl hl.1 (Nat.le_of_ble_eq_true rfl) ⟨Nat.le_of_ble_eq_true rfl, Nat.le_of_ble_eq_true rfl⟩ dX6_begin_38 (fun H locs hP hD hS => ?_)
    refine lv_goto (tgt := 52) hx hb dX6_begin_41 (by decide) ?_
    have e8 : mBegin G T b = mPutB (sf (sf T 3 (upd (T 3) b (-1))) 4 (upd (T 4) b 0)) b 4 (-1) := by rw [mBegin, sel_f (show ¬ (G 5 b ≤ 7) from c_1)]
    exact m_vret hx hb hr hlk dX6_begin_52 (by rw [e8]; exact hP) hS

set_option maxHeartbeats 4000000 in
set_option maxRecDepth 100000 in
theorem metX6_badIn (l : Launch) {D : va_G} {k : Nat → ClassId} {g t : Nat → Nat} {sq : Nat} {R : va_W} (G T : HS) (ch : Int32) (n : Nat) (hn : G 0 3 = nI n) (hn40 : n ≤ 40) (hF : okF G) : PM l yX6_badIn cX6_badIn 4 (some FieldType.int) rmX6_badIn D k (gw k g (t 0) sq G ++ (tw k t T ++ R)) [.ref (g 0), .int ch] (some (.int (nI (mBad G T ch n)))) := by
  refine PM_of rfl (Nat.le_of_ble_eq_true rfl) ?_
  intro p e s m below meth c hC hr hlk hin hE hP ls hl
  have hC : CallFix p m c cX6_badIn 4 s _ lw_all RX6 := hC
  have hx := hC.1
  have hb := hC.2.1
  have hown : s.vm.findClass RX6 = some m.cls := hC.2.2.2.1
  have hts := hC.2.2.2.2
  have hl : lv_has ls 4 [(0, .ref (g 0)), (1, .int ch)] := hl
  refine lv_iconst (v := 0) hx hb dX6_badIn_0 (by decide) ?_
  refine lv_istore_n (lv' := [(2, .int 0), (0, .ref (g 0)), (1, .int ch)]) hx hb dX6_badIn_1 rfl hl (by decide) rfl (fun ls hl => ?_)
  refine lv_iconst (v := 0) hx hb dX6_badIn_2 (by decide) ?_
  refine lv_istore_n (lv' := [(3, .int 0), (2, .int 0), (0, .ref (g 0)), (1, .int ch)]) hx hb dX6_badIn_3 rfl hl (by decide) rfl (fun ls hl => ?_)
  refine w_for (N := n) (fun _ => True) (fun i => [(0, .ref (g 0)), (1, .int ch), (2, .int (nI (mBad G T ch i))), (3, .int (nI i))]) (fun ls hI hl => ?_) (fun i hi hI ih ls hl => ?_) 0 (Nat.zero_le _) trivial (lv_sub hl [2, 3, 1, 0] rfl)
  · have hl : lv_has ls 4 [(0, .ref (g 0)), (1, .int ch), (2, .int (nI (mBad G T ch n))), (3, .int (nI n))] := hl
    refine lv_iload_n hx hb dX6_badIn_4 rfl (lv_at hl 3 rfl) ?_
    refine lv_aload_n hx hb dX6_badIn_5 rfl (lv_at hl 0 rfl) ?_
    refine va_get (D := D) (ci := 6) (v := .int (G 0 3)) (C := RX6) (T := TX6) (N := 13) hx hb hts tu_6 hown hE.1 hP 0 gw_0 rfl 6 (by decide) (hts _ tw_791) (fun _ h9 => h9) rfl dX6_badIn_6 ?_
    refine w_top (hn) ?_
    refine lv_icmp_ge (tgt := 47) hx hb dX6_badIn_9 (by decide) (fun c_1 => ?_) (fun c_ => absurd (nI_le (Nat.le_refl n) (by omega)) c_)
    refine lv_iload_n hx hb dX6_badIn_47 rfl (lv_at hl 2 rfl) ?_
    exact p_iret hx hb hr hlk dX6_badIn_48 (rfl)
  · have hl : lv_has ls 4 [(0, .ref (g 0)), (1, .int ch), (2, .int (nI (mBad G T ch i))), (3, .int (nI i))] := hl
    refine lv_iload_n hx hb dX6_badIn_4 rfl (lv_at hl 3 rfl) ?_
    refine lv_aload_n hx hb dX6_badIn_5 rfl (lv_at hl 0 rfl) ?_
    refine va_get (D := D) (ci := 6) (v := .int (G 0 3)) (C := RX6) (T := TX6) (N := 13) hx hb hts tu_6 hown hE.1 hP 0 gw_0 rfl 6 (by decide) (hts _ tw_791) (fun _ h9 => h9) rfl dX6_badIn_6 ?_
    refine w_top (hn) ?_
    refine lv_icmp_ge (tgt := 47) hx hb dX6_badIn_9 (by decide) (fun c_ => absurd c_ (nI_ge hi (by omega))) (fun c_2 => ?_)
    refine lv_iload_n hx hb dX6_badIn_12 rfl (lv_at hl 2 rfl) ?_
    refine lv_aload_n hx hb dX6_badIn_13 rfl (lv_at hl 0 rfl) ?_
    refine lv_iload_n hx hb dX6_badIn_14 rfl (lv_at hl 3 rfl) ?_
    refine c_pVi (rest := [.int (nI (mBad G T ch i))]) hC hE hP (metX6_misrouted l G T i (by omega) hF) gc_RX6_137 hd_X6_misrouted ⟨rfl, rfl⟩ ⟨Nat.le_of_ble_eq_true rfl, Nat.le_of_ble_eq_true rfl⟩ 0 gw_0 rfl rfl hl.1 (Nat.le_of_ble_eq_true rfl) ⟨Nat.le_of_ble_eq_true rfl, Nat.le_of_ble_eq_true rfl⟩ dX6_badIn_15 ?_
    refine lv_if_eq (tgt := 38) hx hb dX6_badIn_18 (by decide) (fun c_3 => ?_) (fun c_3 => ?_)
    · have c_3 := bI_0 c_3
      refine lv_iconst (v := 0) hx hb dX6_badIn_38 (by decide) ?_
      refine lv_iadd hx hb dX6_badIn_39 ?_
      refine w_top (Int32.add_zero _) ?_
      refine lv_istore_n (lv' := [(2, .int (nI (mBad G T ch i))), (0, .ref (g 0)), (1, .int ch), (3, .int (nI i))]) hx hb dX6_badIn_40 rfl hl (by decide) rfl (fun ls hl => ?_)
      refine lv_iinc (v := nI (i + 1)) (lv' := [(3, .int (nI (i + 1))), (2, .int (nI (mBad G T ch i))), (0, .ref (g 0)), (1, .int ch)]) hx hb dX6_badIn_41 hl (k := 3) rfl (iinc1 _) (by decide) rfl (fun ls hl => ?_)
      refine lv_goto (tgt := 4) hx hb dX6_badIn_44 (by decide) ?_
      have e9 : mBad G T ch (i + 1) = mBad G T ch i := ct_f (p := (fun i => mMis G T i ∧ T 2 i = ch)) (show ¬ (mMis G T i ∧ T 2 i = ch) from (fun h_ => c_3 h_.1))
      exact ih ls trivial (by show lv_has ls 4 [(0, .ref (g 0)), (1, .int ch), (2, .int (nI (mBad G T ch (i + 1)))), (3, .int (nI (i + 1)))]; rw [e9]; exact lv_sub hl [2, 3, 1, 0] rfl)
    · have c_3 := bI_n c_3
      refine lv_aload_n hx hb dX6_badIn_21 rfl (lv_at hl 0 rfl) ?_
      refine va_get (D := D) (ci := 6) (v := .ref (t 0)) (C := RX6) (T := TX6) (N := 13) hx hb hts tu_6 hown hE.1 hP 0 gw_0 rfl 11 (by decide) (hts _ tw_796) (fun _ h9 => h9) rfl dX6_badIn_22 ?_
      refine va_getN (D := D) (ci := 5) (v := .ref (t 2)) (C := RX5) (T := TX5) (N := 9) hx hb hts tu_5 hown hE.1 hP 8 mt_0 rfl 2 (by decide) (va_Nw.use rfl hE.2.2.2.1) (fun _ h9 => h9) rfl dX6_badIn_25 ?_
      refine lv_iload_n hx hb dX6_badIn_28 rfl (lv_at hl 3 rfl) ?_
      refine k_iald (j := i) hx hb hE hP 10 mt_2 (by omega) (by decide) dX6_badIn_29 ?_
      refine lv_iload_n hx hb dX6_badIn_30 rfl (lv_at hl 1 rfl) ?_
      refine lv_icmp_ne (tgt := 38) hx hb dX6_badIn_31 (by decide) (fun c_4 => ?_) (fun c_4 => ?_)
      · refine lv_iconst (v := 0) hx hb dX6_badIn_38 (by decide) ?_
        refine lv_iadd hx hb dX6_badIn_39 ?_
        refine w_top (Int32.add_zero _) ?_
        refine lv_istore_n (lv' := [(2, .int (nI (mBad G T ch i))), (0, .ref (g 0)), (1, .int ch), (3, .int (nI i))]) hx hb dX6_badIn_40 rfl hl (by decide) rfl (fun ls hl => ?_)
        refine lv_iinc (v := nI (i + 1)) (lv' := [(3, .int (nI (i + 1))), (2, .int (nI (mBad G T ch i))), (0, .ref (g 0)), (1, .int ch)]) hx hb dX6_badIn_41 hl (k := 3) rfl (iinc1 _) (by decide) rfl (fun ls hl => ?_)
        refine lv_goto (tgt := 4) hx hb dX6_badIn_44 (by decide) ?_
        have e9 : mBad G T ch (i + 1) = mBad G T ch i := ct_f (p := (fun i => mMis G T i ∧ T 2 i = ch)) (show ¬ (mMis G T i ∧ T 2 i = ch) from (fun h_ => c_4 h_.2))
        exact ih ls trivial (by show lv_has ls 4 [(0, .ref (g 0)), (1, .int ch), (2, .int (nI (mBad G T ch (i + 1)))), (3, .int (nI (i + 1)))]; rw [e9]; exact lv_sub hl [2, 3, 1, 0] rfl)
      · refine lv_iconst (v := 1) hx hb dX6_badIn_34 (by decide) ?_
        refine lv_goto (tgt := 39) hx hb dX6_badIn_35 (by decide) ?_
        refine lv_iadd hx hb dX6_badIn_39 ?_
        refine w_top (nI_1 _) ?_
        refine lv_istore_n (lv' := [(2, .int (nI ((mBad G T ch i) + 1))), (0, .ref (g 0)), (1, .int ch), (3, .int (nI i))]) hx hb dX6_badIn_40 rfl hl (by decide) rfl (fun ls hl => ?_)
        refine lv_iinc (v := nI (i + 1)) (lv' := [(3, .int (nI (i + 1))), (2, .int (nI ((mBad G T ch i) + 1))), (0, .ref (g 0)), (1, .int ch)]) hx hb dX6_badIn_41 hl (k := 3) rfl (iinc1 _) (by decide) rfl (fun ls hl => ?_)
        refine lv_goto (tgt := 4) hx hb dX6_badIn_44 (by decide) ?_
        have e9 : mBad G T ch (i + 1) = mBad G T ch i + 1 := ct_t (p := (fun i => mMis G T i ∧ T 2 i = ch)) (show (mMis G T i ∧ T 2 i = ch) from ⟨c_3, c_4⟩)
        exact ih ls trivial (by show lv_has ls 4 [(0, .ref (g 0)), (1, .int ch), (2, .int (nI (mBad G T ch (i + 1)))), (3, .int (nI (i + 1)))]; rw [e9]; exact lv_sub hl [2, 3, 1, 0] rfl)

set_option maxHeartbeats 4000000 in
set_option maxRecDepth 100000 in
theorem metX6_readyIn (l : Launch) {D : va_G} {k : Nat → ClassId} {g t : Nat → Nat} {sp sq : Nat} {R : va_W} (G T : HS) (f : Nat) (n : Nat) (hn : G 0 3 = nI n) (hn40 : n ≤ 40) (hf : f < 6) : PM l yX6_readyIn cX6_readyIn 5 (some FieldType.int) rmX6_readyIn D k (gw k g sp sq G ++ (tw k t T ++ R)) [.ref (g 0), .ref (t 0), .int (nI f)] (some (.int (nI (mRdyN G T f n)))) := by
  refine PM_of rfl (Nat.le_of_ble_eq_true rfl) ?_
  intro p e s m below meth c hC hr hlk hin hE hP ls hl
  have hC : CallFix p m c cX6_readyIn 5 s _ lw_all RX6 := hC
  have hx := hC.1
  have hb := hC.2.1
  have hown : s.vm.findClass RX6 = some m.cls := hC.2.2.2.1
  have hts := hC.2.2.2.2
  have hl : lv_has ls 5 [(0, .ref (g 0)), (1, .ref (t 0)), (2, .int (nI f))] := hl
  refine lv_iconst (v := 0) hx hb dX6_readyIn_0 (by decide) ?_
  refine lv_istore_n (lv' := [(3, .int 0), (0, .ref (g 0)), (1, .ref (t 0)), (2, .int (nI f))]) hx hb dX6_readyIn_1 rfl hl (by decide) rfl (fun ls hl => ?_)
  refine lv_iconst (v := 0) hx hb dX6_readyIn_2 (by decide) ?_
  refine lv_istore (lv' := [(4, .int 0), (3, .int 0), (0, .ref (g 0)), (1, .ref (t 0)), (2, .int (nI f))]) hx hb dX6_readyIn_3 hl (by decide) rfl (fun ls hl => ?_)
  refine w_for (N := n) (fun _ => True) (fun i => [(0, .ref (g 0)), (1, .ref (t 0)), (2, .int (nI f)), (3, .int (nI (mRdyN G T f i))), (4, .int (nI i))]) (fun ls hI hl => ?_) (fun i hi hI ih ls hl => ?_) 0 (Nat.zero_le _) trivial (lv_sub hl [2, 3, 4, 1, 0] rfl)
  · have hl : lv_has ls 5 [(0, .ref (g 0)), (1, .ref (t 0)), (2, .int (nI f)), (3, .int (nI (mRdyN G T f n))), (4, .int (nI n))] := hl
    refine lv_iload hx hb dX6_readyIn_5 (lv_at hl 4 rfl) ?_
    refine lv_aload_n hx hb dX6_readyIn_7 rfl (lv_at hl 0 rfl) ?_
    refine va_get (D := D) (ci := 6) (v := .int (G 0 3)) (C := RX6) (T := TX6) (N := 13) hx hb hts tu_6 hown hE.1 hP 0 gw_0 rfl 6 (by decide) (hts _ tw_791) (fun _ h9 => h9) rfl dX6_readyIn_8 ?_
    refine w_top (hn) ?_
    refine lv_icmp_ge (tgt := 89) hx hb dX6_readyIn_11 (by decide) (fun c_1 => ?_) (fun c_ => absurd (nI_le (Nat.le_refl n) (by omega)) c_)
    refine lv_iload_n hx hb dX6_readyIn_89 rfl (lv_at hl 3 rfl) ?_
    exact p_iret hx hb hr hlk dX6_readyIn_90 (rfl)
  · have hl : lv_has ls 5 [(0, .ref (g 0)), (1, .ref (t 0)), (2, .int (nI f)), (3, .int (nI (mRdyN G T f i))), (4, .int (nI i))] := hl
    refine lv_iload hx hb dX6_readyIn_5 (lv_at hl 4 rfl) ?_
    refine lv_aload_n hx hb dX6_readyIn_7 rfl (lv_at hl 0 rfl) ?_
    refine va_get (D := D) (ci := 6) (v := .int (G 0 3)) (C := RX6) (T := TX6) (N := 13) hx hb hts tu_6 hown hE.1 hP 0 gw_0 rfl 6 (by decide) (hts _ tw_791) (fun _ h9 => h9) rfl dX6_readyIn_8 ?_
    refine w_top (hn) ?_
    refine lv_icmp_ge (tgt := 89) hx hb dX6_readyIn_11 (by decide) (fun c_ => absurd c_ (nI_ge hi (by omega))) (fun c_2 => ?_)
    refine lv_aload_n hx hb dX6_readyIn_14 rfl (lv_at hl 0 rfl) ?_
    refine va_get (D := D) (ci := 6) (v := .ref (g 4)) (C := RX6) (T := TX6) (N := 13) hx hb hts tu_6 hown hE.1 hP 0 gw_0 rfl 7 (by decide) (hts _ tw_792) (fun _ h9 => h9) rfl dX6_readyIn_15 ?_
    refine lv_iload hx hb dX6_readyIn_18 (lv_at hl 4 rfl) ?_
    refine k_iald (j := i) hx hb hE hP 4 gw_4 (by omega) (by decide) dX6_readyIn_20 ?_
    refine lv_iload_n hx hb dX6_readyIn_21 rfl (lv_at hl 2 rfl) ?_
    refine lv_icmp_eq (tgt := 28) hx hb dX6_readyIn_22 (by decide) (fun c_3 => ?_) (fun c_3 => ?_)
    · refine lv_iload_n hx hb dX6_readyIn_28 rfl (lv_at hl 3 rfl) ?_
      refine lv_aload_n hx hb dX6_readyIn_29 rfl (lv_at hl 1 rfl) ?_
      refine va_getN (D := D) (ci := 5) (v := .ref (t 1)) (C := RX5) (T := TX5) (N := 9) hx hb hts tu_5 hown hE.1 hP 8 mt_0 rfl 1 (by decide) (va_Nw.use rfl hE.2.2.1) (fun _ h9 => h9) rfl dX6_readyIn_30 ?_
      refine lv_iload hx hb dX6_readyIn_33 (lv_at hl 4 rfl) ?_
      refine k_iald (j := i) hx hb hE hP 9 mt_1 (by omega) (by decide) dX6_readyIn_35 ?_
      refine lv_iconst (v := 5) hx hb dX6_readyIn_36 (by decide) ?_
      refine lv_icmp_eq (tgt := 76) hx hb dX6_readyIn_37 (by decide) (fun c_4 => ?_) (fun c_4 => ?_)
      · refine lv_iconst (v := 1) hx hb dX6_readyIn_76 (by decide) ?_
        refine lv_goto (tgt := 81) hx hb dX6_readyIn_77 (by decide) ?_
        refine lv_iadd hx hb dX6_readyIn_81 ?_
        refine w_top (nI_1 _) ?_
        refine lv_istore_n (lv' := [(3, .int (nI ((mRdyN G T f i) + 1))), (0, .ref (g 0)), (1, .ref (t 0)), (2, .int (nI f)), (4, .int (nI i))]) hx hb dX6_readyIn_82 rfl hl (by decide) rfl (fun ls hl => ?_)
        refine lv_iinc (v := nI (i + 1)) (lv' := [(4, .int (nI (i + 1))), (3, .int (nI ((mRdyN G T f i) + 1))), (0, .ref (g 0)), (1, .ref (t 0)), (2, .int (nI f))]) hx hb dX6_readyIn_83 hl (k := 4) rfl (iinc1 _) (by decide) rfl (fun ls hl => ?_)
        refine lv_goto (tgt := 5) hx hb dX6_readyIn_86 (by decide) ?_
        have e9 : mRdyN G T f (i + 1) = mRdyN G T f i + 1 := ct_t (p := (fun i => G 4 i = nI f ∧ mRdy G T f i)) (show (G 4 i = nI f ∧ mRdy G T f i) from ⟨c_3, (Or.inl c_4)⟩)
        exact ih ls trivial (by show lv_has ls 5 [(0, .ref (g 0)), (1, .ref (t 0)), (2, .int (nI f)), (3, .int (nI (mRdyN G T f (i + 1)))), (4, .int (nI (i + 1)))]; rw [e9]; exact lv_sub hl [2, 3, 4, 1, 0] rfl)
      · refine lv_aload_n hx hb dX6_readyIn_40 rfl (lv_at hl 0 rfl) ?_
        refine va_get (D := D) (ci := 6) (v := .ref (g 2)) (C := RX6) (T := TX6) (N := 13) hx hb hts tu_6 hown hE.1 hP 0 gw_0 rfl 3 (by decide) (hts _ tw_788) (fun _ h9 => h9) rfl dX6_readyIn_41 ?_
        refine lv_iload_n hx hb dX6_readyIn_44 rfl (lv_at hl 2 rfl) ?_
        refine k_zald (j := f) hx hb hE hP 2 gw_2 hf (by decide) dX6_readyIn_45 ?_
        refine lv_if_ne (tgt := 80) hx hb dX6_readyIn_46 (by decide) (fun c_5 => ?_) (fun c_5 => ?_)
        · refine lv_iconst (v := 0) hx hb dX6_readyIn_80 (by decide) ?_
          refine lv_iadd hx hb dX6_readyIn_81 ?_
          refine w_top (Int32.add_zero _) ?_
          refine lv_istore_n (lv' := [(3, .int (nI (mRdyN G T f i))), (0, .ref (g 0)), (1, .ref (t 0)), (2, .int (nI f)), (4, .int (nI i))]) hx hb dX6_readyIn_82 rfl hl (by decide) rfl (fun ls hl => ?_)
          refine lv_iinc (v := nI (i + 1)) (lv' := [(4, .int (nI (i + 1))), (3, .int (nI (mRdyN G T f i))), (0, .ref (g 0)), (1, .ref (t 0)), (2, .int (nI f))]) hx hb dX6_readyIn_83 hl (k := 4) rfl (iinc1 _) (by decide) rfl (fun ls hl => ?_)
          refine lv_goto (tgt := 5) hx hb dX6_readyIn_86 (by decide) ?_
          have e9 : mRdyN G T f (i + 1) = mRdyN G T f i := ct_f (p := (fun i => G 4 i = nI f ∧ mRdy G T f i)) (show ¬ (G 4 i = nI f ∧ mRdy G T f i) from (fun h_ => (fun h_ => Or.elim h_ c_4 (fun h_ => c_5 h_.1)) h_.2))
          exact ih ls trivial (by show lv_has ls 5 [(0, .ref (g 0)), (1, .ref (t 0)), (2, .int (nI f)), (3, .int (nI (mRdyN G T f (i + 1)))), (4, .int (nI (i + 1)))]; rw [e9]; exact lv_sub hl [2, 3, 4, 1, 0] rfl)
        · refine lv_aload_n hx hb dX6_readyIn_49 rfl (lv_at hl 1 rfl) ?_
          refine va_getN (D := D) (ci := 5) (v := .ref (t 1)) (C := RX5) (T := TX5) (N := 9) hx hb hts tu_5 hown hE.1 hP 8 mt_0 rfl 1 (by decide) (va_Nw.use rfl hE.2.2.1) (fun _ h9 => h9) rfl dX6_readyIn_50 ?_
          refine lv_iload hx hb dX6_readyIn_53 (lv_at hl 4 rfl) ?_
          refine k_iald (j := i) hx hb hE hP 9 mt_1 (by omega) (by decide) dX6_readyIn_55 ?_
          refine lv_iconst (v := 2) hx hb dX6_readyIn_56 (by decide) ?_
          refine lv_icmp_ne (tgt := 80) hx hb dX6_readyIn_57 (by decide) (fun c_6 => ?_) (fun c_6 => ?_)
          · refine lv_iconst (v := 0) hx hb dX6_readyIn_80 (by decide) ?_
            refine lv_iadd hx hb dX6_readyIn_81 ?_
            refine w_top (Int32.add_zero _) ?_
            refine lv_istore_n (lv' := [(3, .int (nI (mRdyN G T f i))), (0, .ref (g 0)), (1, .ref (t 0)), (2, .int (nI f)), (4, .int (nI i))]) hx hb dX6_readyIn_82 rfl hl (by decide) rfl (fun ls hl => ?_)
            refine lv_iinc (v := nI (i + 1)) (lv' := [(4, .int (nI (i + 1))), (3, .int (nI (mRdyN G T f i))), (0, .ref (g 0)), (1, .ref (t 0)), (2, .int (nI f))]) hx hb dX6_readyIn_83 hl (k := 4) rfl (iinc1 _) (by decide) rfl (fun ls hl => ?_)
            refine lv_goto (tgt := 5) hx hb dX6_readyIn_86 (by decide) ?_
            have e9 : mRdyN G T f (i + 1) = mRdyN G T f i := ct_f (p := (fun i => G 4 i = nI f ∧ mRdy G T f i)) (show ¬ (G 4 i = nI f ∧ mRdy G T f i) from (fun h_ => (fun h_ => Or.elim h_ c_4 (fun h_ => c_6 h_.2.1)) h_.2))
            exact ih ls trivial (by show lv_has ls 5 [(0, .ref (g 0)), (1, .ref (t 0)), (2, .int (nI f)), (3, .int (nI (mRdyN G T f (i + 1)))), (4, .int (nI (i + 1)))]; rw [e9]; exact lv_sub hl [2, 3, 4, 1, 0] rfl)
          · refine lv_aload_n hx hb dX6_readyIn_60 rfl (lv_at hl 1 rfl) ?_
            refine va_getN (D := D) (ci := 5) (v := .ref (t 2)) (C := RX5) (T := TX5) (N := 9) hx hb hts tu_5 hown hE.1 hP 8 mt_0 rfl 2 (by decide) (va_Nw.use rfl hE.2.2.2.1) (fun _ h9 => h9) rfl dX6_readyIn_61 ?_
            refine lv_iload hx hb dX6_readyIn_64 (lv_at hl 4 rfl) ?_
            refine k_iald (j := i) hx hb hE hP 10 mt_2 (by omega) (by decide) dX6_readyIn_66 ?_
            refine lv_aload_n hx hb dX6_readyIn_67 rfl (lv_at hl 0 rfl) ?_
            refine va_get (D := D) (ci := 6) (v := .ref (g 1)) (C := RX6) (T := TX6) (N := 13) hx hb hts tu_6 hown hE.1 hP 0 gw_0 rfl 2 (by decide) (hts _ tw_787) (fun _ h9 => h9) rfl dX6_readyIn_68 ?_
            refine lv_iload_n hx hb dX6_readyIn_71 rfl (lv_at hl 2 rfl) ?_
            refine k_iald (j := f) hx hb hE hP 1 gw_1 hf (by decide) dX6_readyIn_72 ?_
            refine lv_icmp_ne (tgt := 80) hx hb dX6_readyIn_73 (by decide) (fun c_7 => ?_) (fun c_7 => ?_)
            · refine lv_iconst (v := 0) hx hb dX6_readyIn_80 (by decide) ?_
              refine lv_iadd hx hb dX6_readyIn_81 ?_
              refine w_top (Int32.add_zero _) ?_
              refine lv_istore_n (lv' := [(3, .int (nI (mRdyN G T f i))), (0, .ref (g 0)), (1, .ref (t 0)), (2, .int (nI f)), (4, .int (nI i))]) hx hb dX6_readyIn_82 rfl hl (by decide) rfl (fun ls hl => ?_)
              refine lv_iinc (v := nI (i + 1)) (lv' := [(4, .int (nI (i + 1))), (3, .int (nI (mRdyN G T f i))), (0, .ref (g 0)), (1, .ref (t 0)), (2, .int (nI f))]) hx hb dX6_readyIn_83 hl (k := 4) rfl (iinc1 _) (by decide) rfl (fun ls hl => ?_)
              refine lv_goto (tgt := 5) hx hb dX6_readyIn_86 (by decide) ?_
              have e9 : mRdyN G T f (i + 1) = mRdyN G T f i := ct_f (p := (fun i => G 4 i = nI f ∧ mRdy G T f i)) (show ¬ (G 4 i = nI f ∧ mRdy G T f i) from (fun h_ => (fun h_ => Or.elim h_ c_4 (fun h_ => c_7 h_.2.2)) h_.2))
              exact ih ls trivial (by show lv_has ls 5 [(0, .ref (g 0)), (1, .ref (t 0)), (2, .int (nI f)), (3, .int (nI (mRdyN G T f (i + 1)))), (4, .int (nI (i + 1)))]; rw [e9]; exact lv_sub hl [2, 3, 4, 1, 0] rfl)
            · refine lv_iconst (v := 1) hx hb dX6_readyIn_76 (by decide) ?_
              refine lv_goto (tgt := 81) hx hb dX6_readyIn_77 (by decide) ?_
              refine lv_iadd hx hb dX6_readyIn_81 ?_
              refine w_top (nI_1 _) ?_
              refine lv_istore_n (lv' := [(3, .int (nI ((mRdyN G T f i) + 1))), (0, .ref (g 0)), (1, .ref (t 0)), (2, .int (nI f)), (4, .int (nI i))]) hx hb dX6_readyIn_82 rfl hl (by decide) rfl (fun ls hl => ?_)
              refine lv_iinc (v := nI (i + 1)) (lv' := [(4, .int (nI (i + 1))), (3, .int (nI ((mRdyN G T f i) + 1))), (0, .ref (g 0)), (1, .ref (t 0)), (2, .int (nI f))]) hx hb dX6_readyIn_83 hl (k := 4) rfl (iinc1 _) (by decide) rfl (fun ls hl => ?_)
              refine lv_goto (tgt := 5) hx hb dX6_readyIn_86 (by decide) ?_
              have e9 : mRdyN G T f (i + 1) = mRdyN G T f i + 1 := ct_t (p := (fun i => G 4 i = nI f ∧ mRdy G T f i)) (show (G 4 i = nI f ∧ mRdy G T f i) from ⟨c_3, (Or.inr ⟨c_5, c_6, c_7⟩)⟩)
              exact ih ls trivial (by show lv_has ls 5 [(0, .ref (g 0)), (1, .ref (t 0)), (2, .int (nI f)), (3, .int (nI (mRdyN G T f (i + 1)))), (4, .int (nI (i + 1)))]; rw [e9]; exact lv_sub hl [2, 3, 4, 1, 0] rfl)
    · refine lv_goto (tgt := 83) hx hb dX6_readyIn_25 (by decide) ?_
      refine lv_iinc (v := nI (i + 1)) (lv' := [(4, .int (nI (i + 1))), (0, .ref (g 0)), (1, .ref (t 0)), (2, .int (nI f)), (3, .int (nI (mRdyN G T f i)))]) hx hb dX6_readyIn_83 hl (k := 4) rfl (iinc1 _) (by decide) rfl (fun ls hl => ?_)
      refine lv_goto (tgt := 5) hx hb dX6_readyIn_86 (by decide) ?_
      have e9 : mRdyN G T f (i + 1) = mRdyN G T f i := ct_f (p := (fun i => G 4 i = nI f ∧ mRdy G T f i)) (show ¬ (G 4 i = nI f ∧ mRdy G T f i) from (fun h_ => c_3 h_.1))
      exact ih ls trivial (by show lv_has ls 5 [(0, .ref (g 0)), (1, .ref (t 0)), (2, .int (nI f)), (3, .int (nI (mRdyN G T f (i + 1)))), (4, .int (nI (i + 1)))]; rw [e9]; exact lv_sub hl [1, 2, 3, 4, 0] rfl)

set_option maxHeartbeats 4000000 in
set_option maxRecDepth 100000 in
theorem metX6_missing (l : Launch) {D : va_G} {k : Nat → ClassId} {g t : Nat → Nat} {sq : Nat} {R : va_W} (G T : HS) (f : Nat) (n : Nat) (hn : G 0 3 = nI n) (hn40 : n ≤ 40) (hf : f < 6) : PM l yX6_missing cX6_missing 4 (some FieldType.int) rmX6_missing D k (gw k g (t 0) sq G ++ (tw k t T ++ R)) [.ref (g 0), .int (nI f)] (some (.int (mMissing G T f n))) := by
  refine PM_of rfl (Nat.le_of_ble_eq_true rfl) ?_
  intro p e s m below meth c hC hr hlk hin hE hP ls hl
  have hC : CallFix p m c cX6_missing 4 s _ lw_all RX6 := hC
  have hx := hC.1
  have hb := hC.2.1
  have hown : s.vm.findClass RX6 = some m.cls := hC.2.2.2.1
  have hts := hC.2.2.2.2
  have hl : lv_has ls 4 [(0, .ref (g 0)), (1, .int (nI f))] := hl
  refine lv_iconst (v := 0) hx hb dX6_missing_0 (by decide) ?_
  refine lv_istore_n (lv' := [(2, .int 0), (0, .ref (g 0)), (1, .int (nI f))]) hx hb dX6_missing_1 rfl hl (by decide) rfl (fun ls hl => ?_)
  refine lv_iconst (v := 0) hx hb dX6_missing_2 (by decide) ?_
  refine lv_istore_n (lv' := [(3, .int 0), (2, .int 0), (0, .ref (g 0)), (1, .int (nI f))]) hx hb dX6_missing_3 rfl hl (by decide) rfl (fun ls hl => ?_)
  refine w_for (N := n) (fun _ => True) (fun i => [(0, .ref (g 0)), (1, .int (nI f)), (2, .int (nI (mOf G (nI f) i))), (3, .int (nI i))]) (fun ls hI hl => ?_) (fun i hi hI ih ls hl => ?_) 0 (Nat.zero_le _) trivial (lv_sub hl [2, 3, 1, 0] rfl)
  · have hl : lv_has ls 4 [(0, .ref (g 0)), (1, .int (nI f)), (2, .int (nI (mOf G (nI f) n))), (3, .int (nI n))] := hl
    refine lv_iload_n hx hb dX6_missing_4 rfl (lv_at hl 3 rfl) ?_
    refine lv_aload_n hx hb dX6_missing_5 rfl (lv_at hl 0 rfl) ?_
    refine va_get (D := D) (ci := 6) (v := .int (G 0 3)) (C := RX6) (T := TX6) (N := 13) hx hb hts tu_6 hown hE.1 hP 0 gw_0 rfl 6 (by decide) (hts _ tw_791) (fun _ h9 => h9) rfl dX6_missing_6 ?_
    refine w_top (hn) ?_
    refine lv_icmp_ge (tgt := 36) hx hb dX6_missing_9 (by decide) (fun c_1 => ?_) (fun c_ => absurd (nI_le (Nat.le_refl n) (by omega)) c_)
    refine lv_iload_n hx hb dX6_missing_36 rfl (lv_at hl 2 rfl) ?_
    refine lv_aload_n hx hb dX6_missing_37 rfl (lv_at hl 0 rfl) ?_
    refine lv_aload_n hx hb dX6_missing_38 rfl (lv_at hl 0 rfl) ?_
    refine va_get (D := D) (ci := 6) (v := .ref (t 0)) (C := RX6) (T := TX6) (N := 13) hx hb hts tu_6 hown hE.1 hP 0 gw_0 rfl 11 (by decide) (hts _ tw_796) (fun _ h9 => h9) rfl dX6_missing_39 ?_
    refine lv_iload_n hx hb dX6_missing_42 rfl (lv_at hl 1 rfl) ?_
    refine c_pVi (rest := [.int (nI (mOf G (nI f) n))]) hC hE hP (metX6_readyIn l G T f n hn hn40 hf) gc_RX6_156 hd_X6_readyIn ⟨rfl, rfl⟩ ⟨Nat.le_of_ble_eq_true rfl, Nat.le_of_ble_eq_true rfl⟩ 0 gw_0 rfl rfl hl.1 (Nat.le_of_ble_eq_true rfl) ⟨Nat.le_of_ble_eq_true rfl, Nat.le_of_ble_eq_true rfl⟩ dX6_missing_43 ?_
    refine lv_isub hx hb dX6_missing_46 ?_
    exact p_iret hx hb hr hlk dX6_missing_47 (rfl)
  · have hl : lv_has ls 4 [(0, .ref (g 0)), (1, .int (nI f)), (2, .int (nI (mOf G (nI f) i))), (3, .int (nI i))] := hl
    refine lv_iload_n hx hb dX6_missing_4 rfl (lv_at hl 3 rfl) ?_
    refine lv_aload_n hx hb dX6_missing_5 rfl (lv_at hl 0 rfl) ?_
    refine va_get (D := D) (ci := 6) (v := .int (G 0 3)) (C := RX6) (T := TX6) (N := 13) hx hb hts tu_6 hown hE.1 hP 0 gw_0 rfl 6 (by decide) (hts _ tw_791) (fun _ h9 => h9) rfl dX6_missing_6 ?_
    refine w_top (hn) ?_
    refine lv_icmp_ge (tgt := 36) hx hb dX6_missing_9 (by decide) (fun c_ => absurd c_ (nI_ge hi (by omega))) (fun c_2 => ?_)
    refine lv_iload_n hx hb dX6_missing_12 rfl (lv_at hl 2 rfl) ?_
    refine lv_aload_n hx hb dX6_missing_13 rfl (lv_at hl 0 rfl) ?_
    refine va_get (D := D) (ci := 6) (v := .ref (g 4)) (C := RX6) (T := TX6) (N := 13) hx hb hts tu_6 hown hE.1 hP 0 gw_0 rfl 7 (by decide) (hts _ tw_792) (fun _ h9 => h9) rfl dX6_missing_14 ?_
    refine lv_iload_n hx hb dX6_missing_17 rfl (lv_at hl 3 rfl) ?_
    refine k_iald (j := i) hx hb hE hP 4 gw_4 (by omega) (by decide) dX6_missing_18 ?_
    refine lv_iload_n hx hb dX6_missing_19 rfl (lv_at hl 1 rfl) ?_
    refine lv_icmp_ne (tgt := 27) hx hb dX6_missing_20 (by decide) (fun c_3 => ?_) (fun c_3 => ?_)
    · refine lv_iconst (v := 0) hx hb dX6_missing_27 (by decide) ?_
      refine lv_iadd hx hb dX6_missing_28 ?_
      refine w_top (Int32.add_zero _) ?_
      refine lv_istore_n (lv' := [(2, .int (nI (mOf G (nI f) i))), (0, .ref (g 0)), (1, .int (nI f)), (3, .int (nI i))]) hx hb dX6_missing_29 rfl hl (by decide) rfl (fun ls hl => ?_)
      refine lv_iinc (v := nI (i + 1)) (lv' := [(3, .int (nI (i + 1))), (2, .int (nI (mOf G (nI f) i))), (0, .ref (g 0)), (1, .int (nI f))]) hx hb dX6_missing_30 hl (k := 3) rfl (iinc1 _) (by decide) rfl (fun ls hl => ?_)
      refine lv_goto (tgt := 4) hx hb dX6_missing_33 (by decide) ?_
      have e9 : mOf G (nI f) (i + 1) = mOf G (nI f) i := ct_f (p := (fun i => G 4 i = nI f)) (show ¬ (G 4 i = nI f) from c_3)
      exact ih ls trivial (by show lv_has ls 4 [(0, .ref (g 0)), (1, .int (nI f)), (2, .int (nI (mOf G (nI f) (i + 1)))), (3, .int (nI (i + 1)))]; rw [e9]; exact lv_sub hl [2, 3, 1, 0] rfl)
    · refine lv_iconst (v := 1) hx hb dX6_missing_23 (by decide) ?_
      refine lv_goto (tgt := 28) hx hb dX6_missing_24 (by decide) ?_
      refine lv_iadd hx hb dX6_missing_28 ?_
      refine w_top (nI_1 _) ?_
      refine lv_istore_n (lv' := [(2, .int (nI ((mOf G (nI f) i) + 1))), (0, .ref (g 0)), (1, .int (nI f)), (3, .int (nI i))]) hx hb dX6_missing_29 rfl hl (by decide) rfl (fun ls hl => ?_)
      refine lv_iinc (v := nI (i + 1)) (lv' := [(3, .int (nI (i + 1))), (2, .int (nI ((mOf G (nI f) i) + 1))), (0, .ref (g 0)), (1, .int (nI f))]) hx hb dX6_missing_30 hl (k := 3) rfl (iinc1 _) (by decide) rfl (fun ls hl => ?_)
      refine lv_goto (tgt := 4) hx hb dX6_missing_33 (by decide) ?_
      have e9 : mOf G (nI f) (i + 1) = mOf G (nI f) i + 1 := ct_t (p := (fun i => G 4 i = nI f)) (show G 4 i = nI f from c_3)
      exact ih ls trivial (by show lv_has ls 4 [(0, .ref (g 0)), (1, .int (nI f)), (2, .int (nI (mOf G (nI f) (i + 1)))), (3, .int (nI (i + 1)))]; rw [e9]; exact lv_sub hl [2, 3, 1, 0] rfl)

set_option maxHeartbeats 4000000 in
set_option maxRecDepth 100000 in
theorem metX6_counted (l : Launch) {D : va_G} {k : Nat → ClassId} {g t : Nat → Nat} {sq : Nat} {R : va_W} (G T : HS) (w : Int32) (n : Nat) (hn : G 0 3 = nI n) (hn40 : n ≤ 40) : PM l yX6_counted cX6_counted 4 (some FieldType.int) rmX6_counted D k (gw k g (t 0) sq G ++ (tw k t T ++ R)) [.ref (g 0), .int w] (some (.int (nI (mCnt T w n)))) := by
  refine PM_of rfl (Nat.le_of_ble_eq_true rfl) ?_
  intro p e s m below meth c hC hr hlk hin hE hP ls hl
  have hC : CallFix p m c cX6_counted 4 s _ lw_all RX6 := hC
  have hx := hC.1
  have hb := hC.2.1
  have hown : s.vm.findClass RX6 = some m.cls := hC.2.2.2.1
  have hts := hC.2.2.2.2
  have hl : lv_has ls 4 [(0, .ref (g 0)), (1, .int w)] := hl
  refine lv_iconst (v := 0) hx hb dX6_counted_0 (by decide) ?_
  refine lv_istore_n (lv' := [(2, .int 0), (0, .ref (g 0)), (1, .int w)]) hx hb dX6_counted_1 rfl hl (by decide) rfl (fun ls hl => ?_)
  refine lv_iconst (v := 0) hx hb dX6_counted_2 (by decide) ?_
  refine lv_istore_n (lv' := [(3, .int 0), (2, .int 0), (0, .ref (g 0)), (1, .int w)]) hx hb dX6_counted_3 rfl hl (by decide) rfl (fun ls hl => ?_)
  refine w_for (N := n) (fun _ => True) (fun i => [(0, .ref (g 0)), (1, .int w), (2, .int (nI (mCnt T w i))), (3, .int (nI i))]) (fun ls hI hl => ?_) (fun i hi hI ih ls hl => ?_) 0 (Nat.zero_le _) trivial (lv_sub hl [2, 3, 1, 0] rfl)
  · have hl : lv_has ls 4 [(0, .ref (g 0)), (1, .int w), (2, .int (nI (mCnt T w n))), (3, .int (nI n))] := hl
    refine lv_iload_n hx hb dX6_counted_4 rfl (lv_at hl 3 rfl) ?_
    refine lv_aload_n hx hb dX6_counted_5 rfl (lv_at hl 0 rfl) ?_
    refine va_get (D := D) (ci := 6) (v := .int (G 0 3)) (C := RX6) (T := TX6) (N := 13) hx hb hts tu_6 hown hE.1 hP 0 gw_0 rfl 6 (by decide) (hts _ tw_791) (fun _ h9 => h9) rfl dX6_counted_6 ?_
    refine w_top (hn) ?_
    refine lv_icmp_ge (tgt := 39) hx hb dX6_counted_9 (by decide) (fun c_1 => ?_) (fun c_ => absurd (nI_le (Nat.le_refl n) (by omega)) c_)
    refine lv_iload_n hx hb dX6_counted_39 rfl (lv_at hl 2 rfl) ?_
    exact p_iret hx hb hr hlk dX6_counted_40 (rfl)
  · have hl : lv_has ls 4 [(0, .ref (g 0)), (1, .int w), (2, .int (nI (mCnt T w i))), (3, .int (nI i))] := hl
    refine lv_iload_n hx hb dX6_counted_4 rfl (lv_at hl 3 rfl) ?_
    refine lv_aload_n hx hb dX6_counted_5 rfl (lv_at hl 0 rfl) ?_
    refine va_get (D := D) (ci := 6) (v := .int (G 0 3)) (C := RX6) (T := TX6) (N := 13) hx hb hts tu_6 hown hE.1 hP 0 gw_0 rfl 6 (by decide) (hts _ tw_791) (fun _ h9 => h9) rfl dX6_counted_6 ?_
    refine w_top (hn) ?_
    refine lv_icmp_ge (tgt := 39) hx hb dX6_counted_9 (by decide) (fun c_ => absurd c_ (nI_ge hi (by omega))) (fun c_2 => ?_)
    refine lv_iload_n hx hb dX6_counted_12 rfl (lv_at hl 2 rfl) ?_
    refine lv_aload_n hx hb dX6_counted_13 rfl (lv_at hl 0 rfl) ?_
    refine va_get (D := D) (ci := 6) (v := .ref (t 0)) (C := RX6) (T := TX6) (N := 13) hx hb hts tu_6 hown hE.1 hP 0 gw_0 rfl 11 (by decide) (hts _ tw_796) (fun _ h9 => h9) rfl dX6_counted_14 ?_
    refine va_getN (D := D) (ci := 5) (v := .ref (t 1)) (C := RX5) (T := TX5) (N := 9) hx hb hts tu_5 hown hE.1 hP 8 mt_0 rfl 1 (by decide) (va_Nw.use rfl hE.2.2.1) (fun _ h9 => h9) rfl dX6_counted_17 ?_
    refine lv_iload_n hx hb dX6_counted_20 rfl (lv_at hl 3 rfl) ?_
    refine k_iald (j := i) hx hb hE hP 9 mt_1 (by omega) (by decide) dX6_counted_21 ?_
    refine lv_iload_n hx hb dX6_counted_22 rfl (lv_at hl 1 rfl) ?_
    refine lv_icmp_ne (tgt := 30) hx hb dX6_counted_23 (by decide) (fun c_3 => ?_) (fun c_3 => ?_)
    · refine lv_iconst (v := 0) hx hb dX6_counted_30 (by decide) ?_
      refine lv_iadd hx hb dX6_counted_31 ?_
      refine w_top (Int32.add_zero _) ?_
      refine lv_istore_n (lv' := [(2, .int (nI (mCnt T w i))), (0, .ref (g 0)), (1, .int w), (3, .int (nI i))]) hx hb dX6_counted_32 rfl hl (by decide) rfl (fun ls hl => ?_)
      refine lv_iinc (v := nI (i + 1)) (lv' := [(3, .int (nI (i + 1))), (2, .int (nI (mCnt T w i))), (0, .ref (g 0)), (1, .int w)]) hx hb dX6_counted_33 hl (k := 3) rfl (iinc1 _) (by decide) rfl (fun ls hl => ?_)
      refine lv_goto (tgt := 4) hx hb dX6_counted_36 (by decide) ?_
      have e9 : mCnt T w (i + 1) = mCnt T w i := ct_f (p := (fun i => T 1 i = w)) (show ¬ (T 1 i = w) from c_3)
      exact ih ls trivial (by show lv_has ls 4 [(0, .ref (g 0)), (1, .int w), (2, .int (nI (mCnt T w (i + 1)))), (3, .int (nI (i + 1)))]; rw [e9]; exact lv_sub hl [2, 3, 1, 0] rfl)
    · refine lv_iconst (v := 1) hx hb dX6_counted_26 (by decide) ?_
      refine lv_goto (tgt := 31) hx hb dX6_counted_27 (by decide) ?_
      refine lv_iadd hx hb dX6_counted_31 ?_
      refine w_top (nI_1 _) ?_
      refine lv_istore_n (lv' := [(2, .int (nI ((mCnt T w i) + 1))), (0, .ref (g 0)), (1, .int w), (3, .int (nI i))]) hx hb dX6_counted_32 rfl hl (by decide) rfl (fun ls hl => ?_)
      refine lv_iinc (v := nI (i + 1)) (lv' := [(3, .int (nI (i + 1))), (2, .int (nI ((mCnt T w i) + 1))), (0, .ref (g 0)), (1, .int w)]) hx hb dX6_counted_33 hl (k := 3) rfl (iinc1 _) (by decide) rfl (fun ls hl => ?_)
      refine lv_goto (tgt := 4) hx hb dX6_counted_36 (by decide) ?_
      have e9 : mCnt T w (i + 1) = mCnt T w i + 1 := ct_t (p := (fun i => T 1 i = w)) (show T 1 i = w from c_3)
      exact ih ls trivial (by show lv_has ls 4 [(0, .ref (g 0)), (1, .int w), (2, .int (nI (mCnt T w (i + 1)))), (3, .int (nI (i + 1)))]; rw [e9]; exact lv_sub hl [2, 3, 1, 0] rfl)

set_option maxHeartbeats 4000000 in
set_option maxRecDepth 100000 in
theorem metX6_files (l : Launch) {D : va_G} {k : Nat → ClassId} {g t : Nat → Nat} {sq : Nat} {R : va_W} (G T : HS) (w : Int32) (n : Nat) (hn : G 0 3 = nI n) (hn40 : n ≤ 40) : PM l yX6_files cX6_files 4 (some FieldType.int) rmX6_files D k (gw k g (t 0) sq G ++ (tw k t T ++ R)) [.ref (g 0), .int w] (some (.int (nI (mFil G w n)))) := by
  refine PM_of rfl (Nat.le_of_ble_eq_true rfl) ?_
  intro p e s m below meth c hC hr hlk hin hE hP ls hl
  have hC : CallFix p m c cX6_files 4 s _ lw_all RX6 := hC
  have hx := hC.1
  have hb := hC.2.1
  have hown : s.vm.findClass RX6 = some m.cls := hC.2.2.2.1
  have hts := hC.2.2.2.2
  have hl : lv_has ls 4 [(0, .ref (g 0)), (1, .int w)] := hl
  refine lv_iconst (v := 0) hx hb dX6_files_0 (by decide) ?_
  refine lv_istore_n (lv' := [(2, .int 0), (0, .ref (g 0)), (1, .int w)]) hx hb dX6_files_1 rfl hl (by decide) rfl (fun ls hl => ?_)
  refine lv_iconst (v := 0) hx hb dX6_files_2 (by decide) ?_
  refine lv_istore_n (lv' := [(3, .int 0), (2, .int 0), (0, .ref (g 0)), (1, .int w)]) hx hb dX6_files_3 rfl hl (by decide) rfl (fun ls hl => ?_)
  refine w_for (N := n) (fun _ => True) (fun i => [(0, .ref (g 0)), (1, .int w), (2, .int (nI (mFil G w i))), (3, .int (nI i))]) (fun ls hI hl => ?_) (fun i hi hI ih ls hl => ?_) 0 (Nat.zero_le _) trivial (lv_sub hl [2, 3, 1, 0] rfl)
  · have hl : lv_has ls 4 [(0, .ref (g 0)), (1, .int w), (2, .int (nI (mFil G w n))), (3, .int (nI n))] := hl
    refine lv_iload_n hx hb dX6_files_4 rfl (lv_at hl 3 rfl) ?_
    refine lv_aload_n hx hb dX6_files_5 rfl (lv_at hl 0 rfl) ?_
    refine va_get (D := D) (ci := 6) (v := .int (G 0 3)) (C := RX6) (T := TX6) (N := 13) hx hb hts tu_6 hown hE.1 hP 0 gw_0 rfl 6 (by decide) (hts _ tw_791) (fun _ h9 => h9) rfl dX6_files_6 ?_
    refine w_top (hn) ?_
    refine lv_icmp_ge (tgt := 36) hx hb dX6_files_9 (by decide) (fun c_1 => ?_) (fun c_ => absurd (nI_le (Nat.le_refl n) (by omega)) c_)
    refine lv_iload_n hx hb dX6_files_36 rfl (lv_at hl 2 rfl) ?_
    exact p_iret hx hb hr hlk dX6_files_37 (rfl)
  · have hl : lv_has ls 4 [(0, .ref (g 0)), (1, .int w), (2, .int (nI (mFil G w i))), (3, .int (nI i))] := hl
    refine lv_iload_n hx hb dX6_files_4 rfl (lv_at hl 3 rfl) ?_
    refine lv_aload_n hx hb dX6_files_5 rfl (lv_at hl 0 rfl) ?_
    refine va_get (D := D) (ci := 6) (v := .int (G 0 3)) (C := RX6) (T := TX6) (N := 13) hx hb hts tu_6 hown hE.1 hP 0 gw_0 rfl 6 (by decide) (hts _ tw_791) (fun _ h9 => h9) rfl dX6_files_6 ?_
    refine w_top (hn) ?_
    refine lv_icmp_ge (tgt := 36) hx hb dX6_files_9 (by decide) (fun c_ => absurd c_ (nI_ge hi (by omega))) (fun c_2 => ?_)
    refine lv_iload_n hx hb dX6_files_12 rfl (lv_at hl 2 rfl) ?_
    refine lv_aload_n hx hb dX6_files_13 rfl (lv_at hl 0 rfl) ?_
    refine va_get (D := D) (ci := 6) (v := .ref (g 7)) (C := RX6) (T := TX6) (N := 13) hx hb hts tu_6 hown hE.1 hP 0 gw_0 rfl 10 (by decide) (hts _ tw_795) (fun _ h9 => h9) rfl dX6_files_14 ?_
    refine lv_iload_n hx hb dX6_files_17 rfl (lv_at hl 3 rfl) ?_
    refine k_iald (j := i) hx hb hE hP 7 gw_7 (by omega) (by decide) dX6_files_18 ?_
    refine lv_iload_n hx hb dX6_files_19 rfl (lv_at hl 1 rfl) ?_
    refine lv_icmp_ne (tgt := 27) hx hb dX6_files_20 (by decide) (fun c_3 => ?_) (fun c_3 => ?_)
    · refine lv_iconst (v := 0) hx hb dX6_files_27 (by decide) ?_
      refine lv_iadd hx hb dX6_files_28 ?_
      refine w_top (Int32.add_zero _) ?_
      refine lv_istore_n (lv' := [(2, .int (nI (mFil G w i))), (0, .ref (g 0)), (1, .int w), (3, .int (nI i))]) hx hb dX6_files_29 rfl hl (by decide) rfl (fun ls hl => ?_)
      refine lv_iinc (v := nI (i + 1)) (lv' := [(3, .int (nI (i + 1))), (2, .int (nI (mFil G w i))), (0, .ref (g 0)), (1, .int w)]) hx hb dX6_files_30 hl (k := 3) rfl (iinc1 _) (by decide) rfl (fun ls hl => ?_)
      refine lv_goto (tgt := 4) hx hb dX6_files_33 (by decide) ?_
      have e9 : mFil G w (i + 1) = mFil G w i := ct_f (p := (fun i => G 7 i = w)) (show ¬ (G 7 i = w) from c_3)
      exact ih ls trivial (by show lv_has ls 4 [(0, .ref (g 0)), (1, .int w), (2, .int (nI (mFil G w (i + 1)))), (3, .int (nI (i + 1)))]; rw [e9]; exact lv_sub hl [2, 3, 1, 0] rfl)
    · refine lv_iconst (v := 1) hx hb dX6_files_23 (by decide) ?_
      refine lv_goto (tgt := 28) hx hb dX6_files_24 (by decide) ?_
      refine lv_iadd hx hb dX6_files_28 ?_
      refine w_top (nI_1 _) ?_
      refine lv_istore_n (lv' := [(2, .int (nI ((mFil G w i) + 1))), (0, .ref (g 0)), (1, .int w), (3, .int (nI i))]) hx hb dX6_files_29 rfl hl (by decide) rfl (fun ls hl => ?_)
      refine lv_iinc (v := nI (i + 1)) (lv' := [(3, .int (nI (i + 1))), (2, .int (nI ((mFil G w i) + 1))), (0, .ref (g 0)), (1, .int w)]) hx hb dX6_files_30 hl (k := 3) rfl (iinc1 _) (by decide) rfl (fun ls hl => ?_)
      refine lv_goto (tgt := 4) hx hb dX6_files_33 (by decide) ?_
      have e9 : mFil G w (i + 1) = mFil G w i + 1 := ct_t (p := (fun i => G 7 i = w)) (show G 7 i = w from c_3)
      exact ih ls trivial (by show lv_has ls 4 [(0, .ref (g 0)), (1, .int w), (2, .int (nI (mFil G w (i + 1)))), (3, .int (nI (i + 1)))]; rw [e9]; exact lv_sub hl [2, 3, 1, 0] rfl)

set_option maxHeartbeats 4000000 in
set_option maxRecDepth 100000 in
theorem metX6_minuteOn (l : Launch) {D : va_G} {k : Nat → ClassId} {g t : Nat → Nat} {sp sq : Nat} {R : va_W} (G T : HS) (hB : okB (T 5)) (hF : okF G) (hL : okL T) : MM l yX6_minuteOn cX6_minuteOn 4 (some FieldType.int) rmX6_minuteOn D k (gw k g sp sq G ++ (tw k t T ++ R)) [.ref (g 0), .ref (t 0)] (some (.int (nI (mMin G T).1))) (gw k g sp sq G ++ (tw k t (mMin G T).2 ++ R)) := by
  refine MM_of rfl (Nat.le_of_ble_eq_true rfl) ?_
  intro p e s m below meth c hC hr hlk hin hE hP hD hS ls hl
  have hC : CallFix p m c cX6_minuteOn 4 s _ lw_all RX6 := hC
  have hx := hC.1
  have hb := hC.2.1
  have hown : s.vm.findClass RX6 = some m.cls := hC.2.2.2.1
  have hts := hC.2.2.2.2
  have hl : lv_has ls 4 [(0, .ref (g 0)), (1, .ref (t 0))] := hl
  refine lv_aload_n hx hb dX6_minuteOn_0 rfl (lv_at hl 1 rfl) ?_
  refine c_mVv (rest := []) hC hE hP hD hS mt_same (metX5_turnRound l G T hB) gc_RX6_79 hd_X5_turnRound ⟨rfl, rfl⟩ ⟨Nat.le_of_ble_eq_true rfl, Nat.le_of_ble_eq_true rfl⟩ 8 mt_0 rfl rfl hl.1 (Nat.le_of_ble_eq_true rfl) ⟨Nat.le_of_ble_eq_true rfl, Nat.le_of_ble_eq_true rfl⟩ dX6_minuteOn_1 (fun H locs hP hD hS => ?_)
  refine lv_aload_n hx hb dX6_minuteOn_4 rfl (lv_at hl 0 rfl) ?_
  refine lv_aload_n hx hb dX6_minuteOn_5 rfl (lv_at hl 1 rfl) ?_
  refine c_mVv (rest := []) hC hE hP hD hS mt_same (metX6_readAt l G (mTrn T) (okB_turn hB) hF) gc_RX6_82 hd_X6_readAt ⟨rfl, rfl⟩ ⟨Nat.le_of_ble_eq_true rfl, Nat.le_of_ble_eq_true rfl⟩ 0 gw_0 rfl rfl hl.1 (Nat.le_of_ble_eq_true rfl) ⟨Nat.le_of_ble_eq_true rfl, Nat.le_of_ble_eq_true rfl⟩ dX6_minuteOn_6 (fun H locs hP hD hS => ?_)
  refine lv_iconst (v := 0) hx hb dX6_minuteOn_9 (by decide) ?_
  refine lv_istore_n (lv' := [(2, .int 0), (0, .ref (g 0)), (1, .ref (t 0))]) hx hb dX6_minuteOn_10 rfl hl (by decide) rfl (fun ls hl => ?_)
  refine lv_iconst (v := 0) hx hb dX6_minuteOn_11 (by decide) ?_
  refine lv_istore_n (lv' := [(3, .int 0), (2, .int 0), (0, .ref (g 0)), (1, .ref (t 0))]) hx hb dX6_minuteOn_12 rfl hl (by decide) rfl (fun ls hl => ?_)
  refine w_forM (N := 4) (fun _ => True) (fun i => [(0, .ref (g 0)), (1, .ref (t 0)), (2, .int (nI (mSl G (mTag G (mTrn T)) i).1)), (3, .int (nI i))]) (fun i => (gw k g sp sq G ++ (tw k t (mSl G (mTag G (mTrn T)) i).2 ++ R))) (fun ls H locs hI hl hP hD hS => ?_) (fun i hi hI ih ls H locs hl hP hD hS => ?_) 0 (Nat.zero_le _) trivial (lv_sub hl [2, 3, 1, 0] rfl) hP hD hS
  · have hl : lv_has ls 4 [(0, .ref (g 0)), (1, .ref (t 0)), (2, .int (nI (mSl G (mTag G (mTrn T)) 4).1)), (3, .int (nI 4))] := hl
    have hP : va_P D vwCl (gw k g sp sq G ++ (tw k t (mSl G (mTag G (mTrn T)) 4).2 ++ R)) H := hP
    have hD : va_D (va_in (gw k g sp sq G ++ (tw k t T ++ R))) (gw k g sp sq G ++ (tw k t (mSl G (mTag G (mTrn T)) 4).2 ++ R)) := hD
    refine lv_iload_n hx hb dX6_minuteOn_13 rfl (lv_at hl 3 rfl) ?_
    refine lv_iconst (v := 4) hx hb dX6_minuteOn_14 (by decide) ?_
    refine lv_icmp_ge (tgt := 33) hx hb dX6_minuteOn_15 (by decide) (fun c_1 => ?_) (fun c_ => absurd (nI_le (a := 4) (b := 4) (Nat.le_refl 4) (by decide)) c_)
    refine lv_aload_n hx hb dX6_minuteOn_33 rfl (lv_at hl 1 rfl) ?_
    refine va_getN (D := D) (ci := 5) (v := .ref (t 5)) (C := RX5) (T := TX5) (N := 9) hx hb hts tu_5 hown hE.1 hP 8 mt_0 rfl 5 (by decide) (va_Nw.use rfl hE.2.2.2.2.2.2.1) (fun _ h9 => h9) rfl dX6_minuteOn_34 ?_
    refine lv_iconst (v := 0) hx hb dX6_minuteOn_37 (by decide) ?_
    refine k_iald (j := 0) hx hb hE hP 13 mt_5 (by decide) (by decide) dX6_minuteOn_38 ?_
    refine lv_iconst (v := (-1)) hx hb dX6_minuteOn_39 (by decide) ?_
    refine lv_icmp_ne (tgt := 69) hx hb dX6_minuteOn_40 (by decide) (fun c_2 => ?_) (fun c_2 => ?_)
    · refine lv_aload_n hx hb dX6_minuteOn_69 rfl (lv_at hl 1 rfl) ?_
      refine lv_dup hx hb dX6_minuteOn_70 rfl ?_
      refine va_getN (D := D) (ci := 5) (v := .int ((mSl G (mTag G (mTrn T)) 4).2 0 0)) (C := RX5) (T := TX5) (N := 9) hx hb hts tu_5 hown hE.1 hP 8 mt_0 rfl 0 (by decide) (va_Nw.use rfl hE.2.1) (fun _ h9 => h9) rfl dX6_minuteOn_71 ?_
      refine lv_iconst (v := 1) hx hb dX6_minuteOn_74 (by decide) ?_
      refine lv_iadd hx hb dX6_minuteOn_75 ?_
      refine va_putN (D := D) (ci := 5) (v := .int (((mSl G (mTag G (mTrn T)) 4).2 0 0) + 1)) (ty := .int) (C := RX5) (T := TX5) (N := 9) hx hb hts tu_5 tyX5 tyX5_ok nmX5 hown hE.1 hP hD hS 8 mt_0 rfl 0 (by decide) (va_Nw.use rfl hE.2.1) (fun _ h9 => h9) rfl (by decide +kernel) rfl rfl (Nat.le_of_ble_eq_true rfl) dX6_minuteOn_76 (fun H locs hP hD hS => ?_)
      rw [mtp_00 (T := (mSl G (mTag G (mTrn T)) 4).2) (v := (((mSl G (mTag G (mTrn T)) 4).2 0 0) + 1)) (f := upd ((mSl G (mTag G (mTrn T)) 4).2 0) 0 (((mSl G (mTag G (mTrn T)) 4).2 0 0) + 1)) rfl] at hP hD
      refine lv_iload_n hx hb dX6_minuteOn_79 rfl (lv_at hl 2 rfl) ?_
      have e8 : (mMin G T).2 = sf (mSl G (mTag G (mTrn T)) 4).2 0 (upd ((mSl G (mTag G (mTrn T)) 4).2 0) 0 (((mSl G (mTag G (mTrn T)) 4).2 0 0) + 1)) := by show mTick (mFeed (mSl G (mTag G (mTrn T)) 4).2) = _; rw [mFeed, sel_f (show ¬ ((mSl G (mTag G (mTrn T)) 4).2 5 0 = (-1) ∧ 0 < (mSl G (mTag G (mTrn T)) 4).2 0 1) from (fun h_ => c_2 h_.1))]; first | done | rfl
      exact m_iret hx hb hr hlk dX6_minuteOn_80 (by rw [e8]; exact hP) hS (rfl)
    · refine lv_aload_n hx hb dX6_minuteOn_43 rfl (lv_at hl 1 rfl) ?_
      refine va_getN (D := D) (ci := 5) (v := .int ((mSl G (mTag G (mTrn T)) 4).2 0 1)) (C := RX5) (T := TX5) (N := 9) hx hb hts tu_5 hown hE.1 hP 8 mt_0 rfl 7 (by decide) (va_Nw.use rfl hE.2.2.2.2.2.2.2.1) (fun _ h9 => h9) rfl dX6_minuteOn_44 ?_
      refine lv_if_le (tgt := 69) hx hb dX6_minuteOn_47 (by decide) (fun c_3 => ?_) (fun c_3 => ?_)
      · refine lv_aload_n hx hb dX6_minuteOn_69 rfl (lv_at hl 1 rfl) ?_
        refine lv_dup hx hb dX6_minuteOn_70 rfl ?_
        refine va_getN (D := D) (ci := 5) (v := .int ((mSl G (mTag G (mTrn T)) 4).2 0 0)) (C := RX5) (T := TX5) (N := 9) hx hb hts tu_5 hown hE.1 hP 8 mt_0 rfl 0 (by decide) (va_Nw.use rfl hE.2.1) (fun _ h9 => h9) rfl dX6_minuteOn_71 ?_
        refine lv_iconst (v := 1) hx hb dX6_minuteOn_74 (by decide) ?_
        refine lv_iadd hx hb dX6_minuteOn_75 ?_
        refine va_putN (D := D) (ci := 5) (v := .int (((mSl G (mTag G (mTrn T)) 4).2 0 0) + 1)) (ty := .int) (C := RX5) (T := TX5) (N := 9) hx hb hts tu_5 tyX5 tyX5_ok nmX5 hown hE.1 hP hD hS 8 mt_0 rfl 0 (by decide) (va_Nw.use rfl hE.2.1) (fun _ h9 => h9) rfl (by decide +kernel) rfl rfl (Nat.le_of_ble_eq_true rfl) dX6_minuteOn_76 (fun H locs hP hD hS => ?_)
        rw [mtp_00 (T := (mSl G (mTag G (mTrn T)) 4).2) (v := (((mSl G (mTag G (mTrn T)) 4).2 0 0) + 1)) (f := upd ((mSl G (mTag G (mTrn T)) 4).2 0) 0 (((mSl G (mTag G (mTrn T)) 4).2 0 0) + 1)) rfl] at hP hD
        refine lv_iload_n hx hb dX6_minuteOn_79 rfl (lv_at hl 2 rfl) ?_
        have e8 : (mMin G T).2 = sf (mSl G (mTag G (mTrn T)) 4).2 0 (upd ((mSl G (mTag G (mTrn T)) 4).2 0) 0 (((mSl G (mTag G (mTrn T)) 4).2 0 0) + 1)) := by show mTick (mFeed (mSl G (mTag G (mTrn T)) 4).2) = _; rw [mFeed, sel_f (show ¬ ((mSl G (mTag G (mTrn T)) 4).2 5 0 = (-1) ∧ 0 < (mSl G (mTag G (mTrn T)) 4).2 0 1) from (fun h_ => (Int32.not_lt.mpr c_3) h_.2))]; first | done | rfl
        exact m_iret hx hb hr hlk dX6_minuteOn_80 (by rw [e8]; exact hP) hS (rfl)
      · refine lv_aload_n hx hb dX6_minuteOn_50 rfl (lv_at hl 1 rfl) ?_
        refine c_mVi (rest := []) hC hE hP hD hS mt_same (metX5_firstInLine l G (mSl G (mTag G (mTrn T)) 4).2 (okL_sl hL).1 ((okL_sl hL).2.2 (Int32.not_le.mp c_3)).1 (okL_sl hL).2.1) gc_RX6_93 hd_X5_firstInLine ⟨rfl, rfl⟩ ⟨Nat.le_of_ble_eq_true rfl, Nat.le_of_ble_eq_true rfl⟩ 8 mt_0 rfl rfl hl.1 (Nat.le_of_ble_eq_true rfl) ⟨Nat.le_of_ble_eq_true rfl, Nat.le_of_ble_eq_true rfl⟩ dX6_minuteOn_51 (fun H locs hP hD hS => ?_)
        refine w_top (((okL_sl hL).2.2 (Int32.not_le.mp c_3)).2.1) ?_
        refine lv_istore_n (lv' := [(3, .int (nI (ix ((mSl G (mTag G (mTrn T)) 4).2 6 0)))), (0, .ref (g 0)), (1, .ref (t 0)), (2, .int (nI (mSl G (mTag G (mTrn T)) 4).1))]) hx hb dX6_minuteOn_54 rfl hl (by decide) rfl (fun ls hl => ?_)
        refine lv_aload_n hx hb dX6_minuteOn_55 rfl (lv_at hl 2 rfl) ?_
        refine va_getN (D := D) (ci := 5) (v := .ref (t 5)) (C := RX5) (T := TX5) (N := 9) hx hb hts tu_5 hown hE.1 hP 8 mt_0 rfl 5 (by decide) (va_Nw.use rfl hE.2.2.2.2.2.2.1) (fun _ h9 => h9) rfl dX6_minuteOn_56 ?_
        refine lv_iconst (v := 0) hx hb dX6_minuteOn_59 (by decide) ?_
        refine lv_iload_n hx hb dX6_minuteOn_60 rfl (lv_at hl 0 rfl) ?_
        refine k_iast (j := 0) hx hb hE hP hD hS 13 mt_5 (by decide) (by decide) dX6_minuteOn_61 (fun H locs hP hD hS => ?_)
        rw [mtq_5 (T := (mFirst (mSl G (mTag G (mTrn T)) 4).2)) (f := upd ((mFirst (mSl G (mTag G (mTrn T)) 4).2) 5) 0 (nI (ix ((mSl G (mTag G (mTrn T)) 4).2 6 0)))) (f2 := upd ((mFirst (mSl G (mTag G (mTrn T)) 4).2) 5) 0 (nI (ix ((mSl G (mTag G (mTrn T)) 4).2 6 0)))) rfl] at hP hD
        refine lv_aload_n hx hb dX6_minuteOn_62 rfl (lv_at hl 2 rfl) ?_
        refine lv_iload_n hx hb dX6_minuteOn_63 rfl (lv_at hl 0 rfl) ?_
        refine lv_iconst (v := 1) hx hb dX6_minuteOn_64 (by decide) ?_
        refine lv_iconst (v := 0) hx hb dX6_minuteOn_65 (by decide) ?_
        refine c_mVv (rest := []) hC hE hP hD hS mt_same (metX5_put l G (sf (mFirst (mSl G (mTag G (mTrn T)) 4).2) 5 (upd ((mFirst (mSl G (mTag G (mTrn T)) 4).2) 5) 0 (nI (ix ((mSl G (mTag G (mTrn T)) 4).2 6 0))))) (ix ((mSl G (mTag G (mTrn T)) 4).2 6 0)) 1 0 ((okL_sl hL).2.2 (Int32.not_le.mp c_3)).2.2) gc_RX6_68 hd_X5_put ⟨rfl, rfl⟩ ⟨Nat.le_of_ble_eq_true rfl, Nat.le_of_ble_eq_true rfl⟩ 8 mt_0 rfl rfl hl.1 (Nat.le_of_ble_eq_true rfl) ⟨Nat.le_of_ble_eq_true rfl, Nat.le_of_ble_eq_true rfl⟩ dX6_minuteOn_66 (fun H locs hP hD hS => ?_)
        refine lv_aload_n hx hb dX6_minuteOn_69 rfl (lv_at hl 2 rfl) ?_
        refine lv_dup hx hb dX6_minuteOn_70 rfl ?_
        refine va_getN (D := D) (ci := 5) (v := .int ((mPutB (sf (mFirst (mSl G (mTag G (mTrn T)) 4).2) 5 (upd ((mFirst (mSl G (mTag G (mTrn T)) 4).2) 5) 0 (nI (ix ((mSl G (mTag G (mTrn T)) 4).2 6 0))))) (ix ((mSl G (mTag G (mTrn T)) 4).2 6 0)) 1 0) 0 0)) (C := RX5) (T := TX5) (N := 9) hx hb hts tu_5 hown hE.1 hP 8 mt_0 rfl 0 (by decide) (va_Nw.use rfl hE.2.1) (fun _ h9 => h9) rfl dX6_minuteOn_71 ?_
        refine lv_iconst (v := 1) hx hb dX6_minuteOn_74 (by decide) ?_
        refine lv_iadd hx hb dX6_minuteOn_75 ?_
        refine va_putN (D := D) (ci := 5) (v := .int (((mPutB (sf (mFirst (mSl G (mTag G (mTrn T)) 4).2) 5 (upd ((mFirst (mSl G (mTag G (mTrn T)) 4).2) 5) 0 (nI (ix ((mSl G (mTag G (mTrn T)) 4).2 6 0))))) (ix ((mSl G (mTag G (mTrn T)) 4).2 6 0)) 1 0) 0 0) + 1)) (ty := .int) (C := RX5) (T := TX5) (N := 9) hx hb hts tu_5 tyX5 tyX5_ok nmX5 hown hE.1 hP hD hS 8 mt_0 rfl 0 (by decide) (va_Nw.use rfl hE.2.1) (fun _ h9 => h9) rfl (by decide +kernel) rfl rfl (Nat.le_of_ble_eq_true rfl) dX6_minuteOn_76 (fun H locs hP hD hS => ?_)
        rw [mtp_00 (T := (mPutB (sf (mFirst (mSl G (mTag G (mTrn T)) 4).2) 5 (upd ((mFirst (mSl G (mTag G (mTrn T)) 4).2) 5) 0 (nI (ix ((mSl G (mTag G (mTrn T)) 4).2 6 0))))) (ix ((mSl G (mTag G (mTrn T)) 4).2 6 0)) 1 0)) (v := (((mPutB (sf (mFirst (mSl G (mTag G (mTrn T)) 4).2) 5 (upd ((mFirst (mSl G (mTag G (mTrn T)) 4).2) 5) 0 (nI (ix ((mSl G (mTag G (mTrn T)) 4).2 6 0))))) (ix ((mSl G (mTag G (mTrn T)) 4).2 6 0)) 1 0) 0 0) + 1)) (f := upd ((mPutB (sf (mFirst (mSl G (mTag G (mTrn T)) 4).2) 5 (upd ((mFirst (mSl G (mTag G (mTrn T)) 4).2) 5) 0 (nI (ix ((mSl G (mTag G (mTrn T)) 4).2 6 0))))) (ix ((mSl G (mTag G (mTrn T)) 4).2 6 0)) 1 0) 0) 0 (((mPutB (sf (mFirst (mSl G (mTag G (mTrn T)) 4).2) 5 (upd ((mFirst (mSl G (mTag G (mTrn T)) 4).2) 5) 0 (nI (ix ((mSl G (mTag G (mTrn T)) 4).2 6 0))))) (ix ((mSl G (mTag G (mTrn T)) 4).2 6 0)) 1 0) 0 0) + 1)) rfl] at hP hD
        refine lv_iload_n hx hb dX6_minuteOn_79 rfl (lv_at hl 3 rfl) ?_
        have e8 : (mMin G T).2 = sf (mPutB (sf (mFirst (mSl G (mTag G (mTrn T)) 4).2) 5 (upd ((mFirst (mSl G (mTag G (mTrn T)) 4).2) 5) 0 (nI (ix ((mSl G (mTag G (mTrn T)) 4).2 6 0))))) (ix ((mSl G (mTag G (mTrn T)) 4).2 6 0)) 1 0) 0 (upd ((mPutB (sf (mFirst (mSl G (mTag G (mTrn T)) 4).2) 5 (upd ((mFirst (mSl G (mTag G (mTrn T)) 4).2) 5) 0 (nI (ix ((mSl G (mTag G (mTrn T)) 4).2 6 0))))) (ix ((mSl G (mTag G (mTrn T)) 4).2 6 0)) 1 0) 0) 0 (((mPutB (sf (mFirst (mSl G (mTag G (mTrn T)) 4).2) 5 (upd ((mFirst (mSl G (mTag G (mTrn T)) 4).2) 5) 0 (nI (ix ((mSl G (mTag G (mTrn T)) 4).2 6 0))))) (ix ((mSl G (mTag G (mTrn T)) 4).2 6 0)) 1 0) 0 0) + 1)) := by show mTick (mFeed (mSl G (mTag G (mTrn T)) 4).2) = _; rw [mFeed, sel_t (show ((mSl G (mTag G (mTrn T)) 4).2 5 0 = (-1) ∧ 0 < (mSl G (mTag G (mTrn T)) 4).2 0 1) from ⟨c_2, (Int32.not_le.mp c_3)⟩)]; first | done | rfl
        exact m_iret hx hb hr hlk dX6_minuteOn_80 (by rw [e8]; exact hP) hS (rfl)
  · have hl : lv_has ls 4 [(0, .ref (g 0)), (1, .ref (t 0)), (2, .int (nI (mSl G (mTag G (mTrn T)) i).1)), (3, .int (nI i))] := hl
    have hP : va_P D vwCl (gw k g sp sq G ++ (tw k t (mSl G (mTag G (mTrn T)) i).2 ++ R)) H := hP
    have hD : va_D (va_in (gw k g sp sq G ++ (tw k t T ++ R))) (gw k g sp sq G ++ (tw k t (mSl G (mTag G (mTrn T)) i).2 ++ R)) := hD
    refine lv_iload_n hx hb dX6_minuteOn_13 rfl (lv_at hl 3 rfl) ?_
    refine lv_iconst (v := 4) hx hb dX6_minuteOn_14 (by decide) ?_
    refine lv_icmp_ge (tgt := 33) hx hb dX6_minuteOn_15 (by decide) (fun c_ => absurd c_ (nI_ge (b := 4) hi (by decide))) (fun c_4 => ?_)
    refine lv_iload_n hx hb dX6_minuteOn_18 rfl (lv_at hl 2 rfl) ?_
    refine lv_aload_n hx hb dX6_minuteOn_19 rfl (lv_at hl 0 rfl) ?_
    refine lv_aload_n hx hb dX6_minuteOn_20 rfl (lv_at hl 1 rfl) ?_
    refine lv_iload_n hx hb dX6_minuteOn_21 rfl (lv_at hl 3 rfl) ?_
    refine c_mVi (rest := [.int (nI (mSl G (mTag G (mTrn T)) i).1)]) hC hE hP hD hS mt_same (metX6_slide l G (mSl G (mTag G (mTrn T)) i).2 i hi (mSl_5 (mTag_5 (okB_turn hB)) i)) gc_RX6_86 hd_X6_slide ⟨rfl, rfl⟩ ⟨Nat.le_of_ble_eq_true rfl, Nat.le_of_ble_eq_true rfl⟩ 0 gw_0 rfl rfl hl.1 (Nat.le_of_ble_eq_true rfl) ⟨Nat.le_of_ble_eq_true rfl, Nat.le_of_ble_eq_true rfl⟩ dX6_minuteOn_22 (fun H locs hP hD hS => ?_)
    refine lv_iadd hx hb dX6_minuteOn_25 ?_
    refine w_top (nI_bI _ _) ?_
    refine lv_istore_n (lv' := [(2, .int (nI ((mSl G (mTag G (mTrn T)) i).1 + bN (mSlP G (mSl G (mTag G (mTrn T)) i).2 i)))), (0, .ref (g 0)), (1, .ref (t 0)), (3, .int (nI i))]) hx hb dX6_minuteOn_26 rfl hl (by decide) rfl (fun ls hl => ?_)
    refine lv_iinc (v := nI (i + 1)) (lv' := [(3, .int (nI (i + 1))), (2, .int (nI ((mSl G (mTag G (mTrn T)) i).1 + bN (mSlP G (mSl G (mTag G (mTrn T)) i).2 i)))), (0, .ref (g 0)), (1, .ref (t 0))]) hx hb dX6_minuteOn_27 hl (k := 3) rfl (iinc1 _) (by decide) rfl (fun ls hl => ?_)
    refine lv_goto (tgt := 13) hx hb dX6_minuteOn_30 (by decide) ?_
    exact ih ls H locs trivial (lv_sub hl [2, 3, 1, 0] rfl) (by show va_P D vwCl (gw k g sp sq G ++ (tw k t (mSl G (mTag G (mTrn T)) (i + 1)).2 ++ R)) H; exact hP) (by show va_D (va_in (gw k g sp sq G ++ (tw k t T ++ R))) (gw k g sp sq G ++ (tw k t (mSl G (mTag G (mTrn T)) (i + 1)).2 ++ R)); exact hD) hS

set_option maxHeartbeats 4000000 in
set_option maxRecDepth 100000 in
theorem metX6_minutesOn (l : Launch) {D : va_G} {k : Nat → ClassId} {g t : Nat → Nat} {sp sq : Nat} {R : va_W} (G T : HS) (N : Nat) (hN : N < 2 ^ 31) (hF : okF G) (hgo : ∀ i, i < N → okB ((mGo G T i).2 5) ∧ okL (mGo G T i).2) : MM l yX6_minutesOn cX6_minutesOn 5 (some FieldType.int) rmX6_minutesOn D k (gw k g sp sq G ++ (tw k t T ++ R)) [.ref (g 0), .ref (t 0), .int (nI N)] (some (.int ((mGo G T N).1))) (gw k g sp sq G ++ (tw k t (mGo G T N).2 ++ R)) := by
  refine MM_of rfl (Nat.le_of_ble_eq_true rfl) ?_
  intro p e s m below meth c hC hr hlk hin hE hP hD hS ls hl
  have hC : CallFix p m c cX6_minutesOn 5 s _ lw_all RX6 := hC
  have hx := hC.1
  have hb := hC.2.1
  have hown : s.vm.findClass RX6 = some m.cls := hC.2.2.2.1
  have hts := hC.2.2.2.2
  have hl : lv_has ls 5 [(0, .ref (g 0)), (1, .ref (t 0)), (2, .int (nI N))] := hl
  refine lv_iconst (v := 0) hx hb dX6_minutesOn_0 (by decide) ?_
  refine lv_istore_n (lv' := [(3, .int 0), (0, .ref (g 0)), (1, .ref (t 0)), (2, .int (nI N))]) hx hb dX6_minutesOn_1 rfl hl (by decide) rfl (fun ls hl => ?_)
  refine lv_iconst (v := 0) hx hb dX6_minutesOn_2 (by decide) ?_
  refine lv_istore (lv' := [(4, .int 0), (3, .int 0), (0, .ref (g 0)), (1, .ref (t 0)), (2, .int (nI N))]) hx hb dX6_minutesOn_3 hl (by decide) rfl (fun ls hl => ?_)
  refine w_forM (N := N) (fun _ => True) (fun i => [(0, .ref (g 0)), (1, .ref (t 0)), (2, .int (nI N)), (3, .int (mGo G T i).1), (4, .int (nI i))]) (fun i => (gw k g sp sq G ++ (tw k t (mGo G T i).2 ++ R))) (fun ls H locs hI hl hP hD hS => ?_) (fun i hi hI ih ls H locs hl hP hD hS => ?_) 0 (Nat.zero_le _) trivial (lv_sub hl [2, 3, 4, 1, 0] rfl) hP hD hS
  · have hl : lv_has ls 5 [(0, .ref (g 0)), (1, .ref (t 0)), (2, .int (nI N)), (3, .int (mGo G T N).1), (4, .int (nI N))] := hl
    have hP : va_P D vwCl (gw k g sp sq G ++ (tw k t (mGo G T N).2 ++ R)) H := hP
    have hD : va_D (va_in (gw k g sp sq G ++ (tw k t T ++ R))) (gw k g sp sq G ++ (tw k t (mGo G T N).2 ++ R)) := hD
    refine lv_iload hx hb dX6_minutesOn_5 (lv_at hl 4 rfl) ?_
    refine lv_iload_n hx hb dX6_minutesOn_7 rfl (lv_at hl 2 rfl) ?_
    refine lv_icmp_ge (tgt := 25) hx hb dX6_minutesOn_8 (by decide) (fun c_1 => ?_) (fun c_ => absurd (nI_le (Nat.le_refl N) hN) c_)
    refine lv_iload_n hx hb dX6_minutesOn_25 rfl (lv_at hl 3 rfl) ?_
    exact m_iret hx hb hr hlk dX6_minutesOn_26 hP hS (rfl)
  · have hl : lv_has ls 5 [(0, .ref (g 0)), (1, .ref (t 0)), (2, .int (nI N)), (3, .int (mGo G T i).1), (4, .int (nI i))] := hl
    have hP : va_P D vwCl (gw k g sp sq G ++ (tw k t (mGo G T i).2 ++ R)) H := hP
    have hD : va_D (va_in (gw k g sp sq G ++ (tw k t T ++ R))) (gw k g sp sq G ++ (tw k t (mGo G T i).2 ++ R)) := hD
    refine lv_iload hx hb dX6_minutesOn_5 (lv_at hl 4 rfl) ?_
    refine lv_iload_n hx hb dX6_minutesOn_7 rfl (lv_at hl 2 rfl) ?_
    refine lv_icmp_ge (tgt := 25) hx hb dX6_minutesOn_8 (by decide) (fun c_ => absurd c_ (nI_ge hi hN)) (fun c_2 => ?_)
    refine lv_iload_n hx hb dX6_minutesOn_11 rfl (lv_at hl 3 rfl) ?_
    refine lv_aload_n hx hb dX6_minutesOn_12 rfl (lv_at hl 0 rfl) ?_
    refine lv_aload_n hx hb dX6_minutesOn_13 rfl (lv_at hl 1 rfl) ?_
    refine c_mVi (rest := [.int (mGo G T i).1]) hC hE hP hD hS mt_same (metX6_minuteOn l G (mGo G T i).2 (hgo i hi).1 hF (hgo i hi).2) gc_RX6_100 hd_X6_minuteOn ⟨rfl, rfl⟩ ⟨Nat.le_of_ble_eq_true rfl, Nat.le_of_ble_eq_true rfl⟩ 0 gw_0 rfl rfl hl.1 (Nat.le_of_ble_eq_true rfl) ⟨Nat.le_of_ble_eq_true rfl, Nat.le_of_ble_eq_true rfl⟩ dX6_minutesOn_14 (fun H locs hP hD hS => ?_)
    refine lv_iadd hx hb dX6_minutesOn_17 ?_
    refine lv_istore_n (lv' := [(3, .int ((mGo G T i).1 + (nI (mMin G (mGo G T i).2).1))), (0, .ref (g 0)), (1, .ref (t 0)), (2, .int (nI N)), (4, .int (nI i))]) hx hb dX6_minutesOn_18 rfl hl (by decide) rfl (fun ls hl => ?_)
    refine lv_iinc (v := nI (i + 1)) (lv' := [(4, .int (nI (i + 1))), (3, .int ((mGo G T i).1 + (nI (mMin G (mGo G T i).2).1))), (0, .ref (g 0)), (1, .ref (t 0)), (2, .int (nI N))]) hx hb dX6_minutesOn_19 hl (k := 4) rfl (iinc1 _) (by decide) rfl (fun ls hl => ?_)
    refine lv_goto (tgt := 5) hx hb dX6_minutesOn_22 (by decide) ?_
    exact ih ls H locs trivial (lv_sub hl [2, 3, 4, 1, 0] rfl) (by show va_P D vwCl (gw k g sp sq G ++ (tw k t (mGo G T (i + 1)).2 ++ R)) H; exact hP) (by show va_D (va_in (gw k g sp sq G ++ (tw k t T ++ R))) (gw k g sp sq G ++ (tw k t (mGo G T (i + 1)).2 ++ R)); exact hD) hS

