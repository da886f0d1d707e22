theorem hv_0 {k : Nat → ClassId} {a b : Nat → Nat} {S T : HS} {R : va_W} : (hw k b T ++ (hw k a S ++ R))[29]? = some (a 0, .inr (2, [.int (S 0 0), .int (S 0 1), .int (S 0 2), .ref (a 1), .ref (a 2), .ref (a 3), .ref (a 4), .ref (a 5)])) := rfl
theorem hv_1 {k : Nat → ClassId} {a b : Nat → Nat} {S T : HS} {R : va_W} : (hw k b T ++ (hw k a S ++ R))[30]? = some (a 1, .inr (1, [.int (S 0 3), .ref (a 6), .ref (a 7)])) := rfl
theorem hv_2 {k : Nat → ClassId} {a b : Nat → Nat} {S T : HS} {R : va_W} : (hw k b T ++ (hw k a S ++ R))[31]? = some (a 2, .inr (0, [.int (S 0 4), .ref (a 8), .ref (a 9), .ref (a 10), .ref (a 11), .ref (a 12), .ref (a 13), .ref (a 14), .ref (a 15)])) := rfl
theorem hv_3 {k : Nat → ClassId} {a b : Nat → Nat} {S T : HS} {R : va_W} : (hw k b T ++ (hw k a S ++ R))[32]? = some (a 3, .inr (3, [.ref (a 16)])) := rfl
theorem hv_4 {k : Nat → ClassId} {a b : Nat → Nat} {S T : HS} {R : va_W} : (hw k b T ++ (hw k a S ++ R))[33]? = some (a 4, .inr (3, [.ref (a 17)])) := rfl
theorem hv_5 {k : Nat → ClassId} {a b : Nat → Nat} {S T : HS} {R : va_W} : (hw k b T ++ (hw k a S ++ R))[34]? = some (a 5, .inr (3, [.ref (a 18)])) := rfl
theorem hv_6 {k : Nat → ClassId} {a b : Nat → Nat} {S T : HS} {R : va_W} : (hw k b T ++ (hw k a S ++ R))[35]? = some (a 6, .inr (3, [.ref (a 19)])) := rfl
theorem hv_7 {k : Nat → ClassId} {a b : Nat → Nat} {S T : HS} {R : va_W} : (hw k b T ++ (hw k a S ++ R))[36]? = some (a 7, .inr (3, [.ref (a 20)])) := rfl
theorem hv_8 {k : Nat → ClassId} {a b : Nat → Nat} {S T : HS} {R : va_W} : (hw k b T ++ (hw k a S ++ R))[37]? = some (a 8, .inr (3, [.ref (a 21)])) := rfl
theorem hv_9 {k : Nat → ClassId} {a b : Nat → Nat} {S T : HS} {R : va_W} : (hw k b T ++ (hw k a S ++ R))[38]? = some (a 9, .inr (3, [.ref (a 22)])) := rfl
theorem hv_10 {k : Nat → ClassId} {a b : Nat → Nat} {S T : HS} {R : va_W} : (hw k b T ++ (hw k a S ++ R))[39]? = some (a 10, .inr (3, [.ref (a 23)])) := rfl
theorem hv_11 {k : Nat → ClassId} {a b : Nat → Nat} {S T : HS} {R : va_W} : (hw k b T ++ (hw k a S ++ R))[40]? = some (a 11, .inr (3, [.ref (a 24)])) := rfl
theorem hv_12 {k : Nat → ClassId} {a b : Nat → Nat} {S T : HS} {R : va_W} : (hw k b T ++ (hw k a S ++ R))[41]? = some (a 12, .inr (3, [.ref (a 25)])) := rfl
theorem hv_13 {k : Nat → ClassId} {a b : Nat → Nat} {S T : HS} {R : va_W} : (hw k b T ++ (hw k a S ++ R))[42]? = some (a 13, .inr (3, [.ref (a 26)])) := rfl
theorem hv_14 {k : Nat → ClassId} {a b : Nat → Nat} {S T : HS} {R : va_W} : (hw k b T ++ (hw k a S ++ R))[43]? = some (a 14, .inr (3, [.ref (a 27)])) := rfl
theorem hv_15 {k : Nat → ClassId} {a b : Nat → Nat} {S T : HS} {R : va_W} : (hw k b T ++ (hw k a S ++ R))[44]? = some (a 15, .inr (3, [.ref (a 28)])) := rfl
theorem hv_16 {k : Nat → ClassId} {a b : Nat → Nat} {S T : HS} {R : va_W} : (hw k b T ++ (hw k a S ++ R))[45]? = some (a 16, .inl (k 0, 4, .inl (S 11))) := rfl
theorem hv_17 {k : Nat → ClassId} {a b : Nat → Nat} {S T : HS} {R : va_W} : (hw k b T ++ (hw k a S ++ R))[46]? = some (a 17, .inl (k 0, 12, .inl (S 12))) := rfl
theorem hv_18 {k : Nat → ClassId} {a b : Nat → Nat} {S T : HS} {R : va_W} : (hw k b T ++ (hw k a S ++ R))[47]? = some (a 18, .inl (k 0, 40, .inl (S 13))) := rfl
theorem hv_19 {k : Nat → ClassId} {a b : Nat → Nat} {S T : HS} {R : va_W} : (hw k b T ++ (hw k a S ++ R))[48]? = some (a 19, .inl (k 0, 6, .inl (S 1))) := rfl
theorem hv_20 {k : Nat → ClassId} {a b : Nat → Nat} {S T : HS} {R : va_W} : (hw k b T ++ (hw k a S ++ R))[49]? = some (a 20, .inl (k 0, 6, .inl (S 2))) := rfl
theorem hv_21 {k : Nat → ClassId} {a b : Nat → Nat} {S T : HS} {R : va_W} : (hw k b T ++ (hw k a S ++ R))[50]? = some (a 21, .inl (k 0, 40, .inl (S 3))) := rfl
theorem hv_22 {k : Nat → ClassId} {a b : Nat → Nat} {S T : HS} {R : va_W} : (hw k b T ++ (hw k a S ++ R))[51]? = some (a 22, .inl (k 0, 40, .inl (S 4))) := rfl
theorem hv_23 {k : Nat → ClassId} {a b : Nat → Nat} {S T : HS} {R : va_W} : (hw k b T ++ (hw k a S ++ R))[52]? = some (a 23, .inl (k 0, 40, .inl (S 5))) := rfl
theorem hv_24 {k : Nat → ClassId} {a b : Nat → Nat} {S T : HS} {R : va_W} : (hw k b T ++ (hw k a S ++ R))[53]? = some (a 24, .inl (k 0, 40, .inl (S 6))) := rfl
theorem hv_25 {k : Nat → ClassId} {a b : Nat → Nat} {S T : HS} {R : va_W} : (hw k b T ++ (hw k a S ++ R))[54]? = some (a 25, .inl (k 0, 40, .inl (S 7))) := rfl
theorem hv_26 {k : Nat → ClassId} {a b : Nat → Nat} {S T : HS} {R : va_W} : (hw k b T ++ (hw k a S ++ R))[55]? = some (a 26, .inl (k 0, 40, .inl (S 8))) := rfl
theorem hv_27 {k : Nat → ClassId} {a b : Nat → Nat} {S T : HS} {R : va_W} : (hw k b T ++ (hw k a S ++ R))[56]? = some (a 27, .inl (k 0, 40, .inl (S 9))) := rfl
theorem hv_28 {k : Nat → ClassId} {a b : Nat → Nat} {S T : HS} {R : va_W} : (hw k b T ++ (hw k a S ++ R))[57]? = some (a 28, .inl (k 0, 40, .inl (S 10))) := rfl
theorem hw_like {k : Nat → ClassId} {a : Nat → Nat} {S T : HS} {R : va_W} : hw k a (sf (sf (sf (xBgTake (xFlTake (sf (sf (sf T 0 (upd (T 0) 0 (S 0 0))) 0 (upd (upd (T 0) 0 (S 0 0)) 1 (S 0 1))) 0 (upd (upd (upd (T 0) 0 (S 0 0)) 1 (S 0 1)) 2 (S 0 2))) S) S) 11 (S 11)) 12 (S 12)) 13 (S 13)) ++ R = hw k a S ++ R := rfl
set_option maxHeartbeats 4000000 in
set_option maxRecDepth 100000 in
theorem metX1_takeAll (l : Launch) {D : va_G} {k : Nat → ClassId} {a b : Nat → Nat} {R : va_W} (S T : HS) : MM l yX1_takeAll cX1_takeAll 2 none rmX1_takeAll D k (hw k b T ++ (hw k a S ++ R)) [.ref (b 1), .ref (a 1)] none (hw k b (xFlTake T S) ++ (hw k a S ++ R)) := by
  refine MM_of rfl (Nat.le_of_ble_eq_true rfl) ?_
  intro p e s m below meth c hC hr hlk hin hE hP hD hS ls hl
  have hC : CallFix p m c cX1_takeAll 2 s _ lw_all RX1 := hC
  have hx := hC.1
  have hb := hC.2.1
  have hown : s.vm.findClass RX1 = some m.cls := hC.2.2.2.1
  have hts := hC.2.2.2.2
  have hl : lv_has ls 2 [(0, .ref (b 1)), (1, .ref (a 1))] := hl
  refine lv_aload_n hx hb dX1_takeAll_0 rfl (lv_at hl 0 rfl) ?_
  refine lv_aload_n hx hb dX1_takeAll_1 rfl (lv_at hl 1 rfl) ?_
  refine va_get (D := D) (ci := 1) (v := .int (S 0 3)) (C := RX1) (T := TX1) (N := 3) hx hb hts tu_1 hown hE.1 hP 30 hv_1 rfl 0 (by decide) (hts _ tw_50) (fun _ h9 => h9) rfl dX1_takeAll_2 ?_
  refine va_put (D := D) (ci := 1) (v := .int (S 0 3)) (ty := .int) (C := RX1) (T := TX1) (N := 3) hx hb hts tu_1 tyX1 tyX1_ok nmX1 hown hE.1 hP hD hS 1 hw_1 rfl 0 (by decide) (hts _ tw_50) (fun _ h9 => h9) rfl (by decide +kernel) rfl rfl (Nat.le_of_ble_eq_true rfl) dX1_takeAll_5 (fun H locs hP hD hS => ?_)
  rw [hwp_03 (S := T) (v := (S 0 3)) (f := (upd (T 0) 3 (S 0 3))) rfl] at hP hD
  refine lv_aload_n hx hb dX1_takeAll_8 rfl (lv_at hl 0 rfl) ?_
  refine va_get (D := D) (ci := 1) (v := .ref (b 6)) (C := RX1) (T := TX1) (N := 3) hx hb hts tu_1 hown hE.1 hP 1 hw_1 rfl 1 (by decide) (hts _ tw_52) (fun _ h9 => h9) rfl dX1_takeAll_9 ?_
  refine lv_aload_n hx hb dX1_takeAll_12 rfl (lv_at hl 1 rfl) ?_
  refine va_get (D := D) (ci := 1) (v := .ref (a 6)) (C := RX1) (T := TX1) (N := 3) hx hb hts tu_1 hown hE.1 hP 30 hv_1 rfl 1 (by decide) (hts _ tw_52) (fun _ h9 => h9) rfl dX1_takeAll_13 ?_
  refine c_mVv (rest := []) hC hE hP hD hS hw_same (metX3_takeAll l (ws' := (hw k b (sf (sf T 0 (upd (T 0) 3 (S 0 3))) 1 (S 1)) ++ (hw k a S ++ R))) hw_6 hw_19 (by decide) hv_6 hv_19 hws_1) gc_RX1_31 hd_X3_takeAll ⟨rfl, rfl⟩ ⟨Nat.le_of_ble_eq_true rfl, Nat.le_of_ble_eq_true rfl⟩ 6 hw_6 rfl rfl hl.1 (Nat.le_of_ble_eq_true rfl) ⟨Nat.le_of_ble_eq_true rfl, Nat.le_of_ble_eq_true rfl⟩ dX1_takeAll_16 (fun H locs hP hD hS => ?_)
  refine lv_aload_n hx hb dX1_takeAll_19 rfl (lv_at hl 0 rfl) ?_
  refine va_get (D := D) (ci := 1) (v := .ref (b 7)) (C := RX1) (T := TX1) (N := 3) hx hb hts tu_1 hown hE.1 hP 1 hw_1 rfl 2 (by decide) (hts _ tw_55) (fun _ h9 => h9) rfl dX1_takeAll_20 ?_
  refine lv_aload_n hx hb dX1_takeAll_23 rfl (lv_at hl 1 rfl) ?_
  refine va_get (D := D) (ci := 1) (v := .ref (a 7)) (C := RX1) (T := TX1) (N := 3) hx hb hts tu_1 hown hE.1 hP 30 hv_1 rfl 2 (by decide) (hts _ tw_55) (fun _ h9 => h9) rfl dX1_takeAll_24 ?_
  refine c_mVv (rest := []) hC hE hP hD hS hw_same (metX3_takeAll l (ws' := (hw k b (sf (sf (sf T 0 (upd (T 0) 3 (S 0 3))) 1 (S 1)) 2 (S 2)) ++ (hw k a S ++ R))) hw_7 hw_20 (by decide) hv_7 hv_20 hws_2) gc_RX1_31 hd_X3_takeAll ⟨rfl, rfl⟩ ⟨Nat.le_of_ble_eq_true rfl, Nat.le_of_ble_eq_true rfl⟩ 7 hw_7 rfl rfl hl.1 (Nat.le_of_ble_eq_true rfl) ⟨Nat.le_of_ble_eq_true rfl, Nat.le_of_ble_eq_true rfl⟩ dX1_takeAll_27 (fun H locs hP hD hS => ?_)
  exact m_vret hx hb hr hlk dX1_takeAll_30 hP hS

set_option maxHeartbeats 4000000 in
set_option maxRecDepth 100000 in
theorem metX0_takeAll (l : Launch) {D : va_G} {k : Nat → ClassId} {a b : Nat → Nat} {R : va_W} (S T : HS) : MM l yX0_takeAll cX0_takeAll 2 none rmX0_takeAll D k (hw k b T ++ (hw k a S ++ R)) [.ref (b 2), .ref (a 2)] none (hw k b (xBgTake T S) ++ (hw k a S ++ R)) := by
  refine MM_of rfl (Nat.le_of_ble_eq_true rfl) ?_
  intro p e s m below meth c hC hr hlk hin hE hP hD hS ls hl
  have hC : CallFix p m c cX0_takeAll 2 s _ lw_all RX0 := hC
  have hx := hC.1
  have hb := hC.2.1
  have hown : s.vm.findClass RX0 = some m.cls := hC.2.2.2.1
  have hts := hC.2.2.2.2
  have hl : lv_has ls 2 [(0, .ref (b 2)), (1, .ref (a 2))] := hl
  refine lv_aload_n hx hb dX0_takeAll_0 rfl (lv_at hl 0 rfl) ?_
  refine lv_aload_n hx hb dX0_takeAll_1 rfl (lv_at hl 1 rfl) ?_
  refine va_get (D := D) (ci := 0) (v := .int (S 0 4)) (C := RX0) (T := TX0) (N := 9) hx hb hts tu_0 hown hE.1 hP 31 hv_2 rfl 0 (by decide) (hts _ tw_72) (fun _ h9 => h9) rfl dX0_takeAll_2 ?_
  refine va_put (D := D) (ci := 0) (v := .int (S 0 4)) (ty := .int) (C := RX0) (T := TX0) (N := 9) hx hb hts tu_0 tyX0 tyX0_ok nmX0 hown hE.1 hP hD hS 2 hw_2 rfl 0 (by decide) (hts _ tw_72) (fun _ h9 => h9) rfl (by decide +kernel) rfl rfl (Nat.le_of_ble_eq_true rfl) dX0_takeAll_5 (fun H locs hP hD hS => ?_)
  rw [hwp_04 (S := T) (v := (S 0 4)) (f := (upd (T 0) 4 (S 0 4))) rfl] at hP hD
  refine lv_aload_n hx hb dX0_takeAll_8 rfl (lv_at hl 0 rfl) ?_
  refine va_get (D := D) (ci := 0) (v := .ref (b 8)) (C := RX0) (T := TX0) (N := 9) hx hb hts tu_0 hown hE.1 hP 2 hw_2 rfl 1 (by decide) (hts _ tw_75) (fun _ h9 => h9) rfl dX0_takeAll_9 ?_
  refine lv_aload_n hx hb dX0_takeAll_12 rfl (lv_at hl 1 rfl) ?_
  refine va_get (D := D) (ci := 0) (v := .ref (a 8)) (C := RX0) (T := TX0) (N := 9) hx hb hts tu_0 hown hE.1 hP 31 hv_2 rfl 1 (by decide) (hts _ tw_75) (fun _ h9 => h9) rfl dX0_takeAll_13 ?_
  refine c_mVv (rest := []) hC hE hP hD hS hw_same (metX3_takeAll l (ws' := (hw k b (sf (sf T 0 (upd (T 0) 4 (S 0 4))) 3 (S 3)) ++ (hw k a S ++ R))) hw_8 hw_21 (by decide) hv_8 hv_21 hws_3) gc_RX0_57 hd_X3_takeAll ⟨rfl, rfl⟩ ⟨Nat.le_of_ble_eq_true rfl, Nat.le_of_ble_eq_true rfl⟩ 8 hw_8 rfl rfl hl.1 (Nat.le_of_ble_eq_true rfl) ⟨Nat.le_of_ble_eq_true rfl, Nat.le_of_ble_eq_true rfl⟩ dX0_takeAll_16 (fun H locs hP hD hS => ?_)
  refine lv_aload_n hx hb dX0_takeAll_19 rfl (lv_at hl 0 rfl) ?_
  refine va_get (D := D) (ci := 0) (v := .ref (b 9)) (C := RX0) (T := TX0) (N := 9) hx hb hts tu_0 hown hE.1 hP 2 hw_2 rfl 2 (by decide) (hts _ tw_78) (fun _ h9 => h9) rfl dX0_takeAll_20 ?_
  refine lv_aload_n hx hb dX0_takeAll_23 rfl (lv_at hl 1 rfl) ?_
  refine va_get (D := D) (ci := 0) (v := .ref (a 9)) (C := RX0) (T := TX0) (N := 9) hx hb hts tu_0 hown hE.1 hP 31 hv_2 rfl 2 (by decide) (hts _ tw_78) (fun _ h9 => h9) rfl dX0_takeAll_24 ?_
  refine c_mVv (rest := []) hC hE hP hD hS hw_same (metX3_takeAll l (ws' := (hw k b (sf (sf (sf T 0 (upd (T 0) 4 (S 0 4))) 3 (S 3)) 4 (S 4)) ++ (hw k a S ++ R))) hw_9 hw_22 (by decide) hv_9 hv_22 hws_4) gc_RX0_57 hd_X3_takeAll ⟨rfl, rfl⟩ ⟨Nat.le_of_ble_eq_true rfl, Nat.le_of_ble_eq_true rfl⟩ 9 hw_9 rfl rfl hl.1 (Nat.le_of_ble_eq_true rfl) ⟨Nat.le_of_ble_eq_true rfl, Nat.le_of_ble_eq_true rfl⟩ dX0_takeAll_27 (fun H locs hP hD hS => ?_)
  refine lv_aload_n hx hb dX0_takeAll_30 rfl (lv_at hl 0 rfl) ?_
  refine va_get (D := D) (ci := 0) (v := .ref (b 10)) (C := RX0) (T := TX0) (N := 9) hx hb hts tu_0 hown hE.1 hP 2 hw_2 rfl 3 (by decide) (hts _ tw_80) (fun _ h9 => h9) rfl dX0_takeAll_31 ?_
  refine lv_aload_n hx hb dX0_takeAll_34 rfl (lv_at hl 1 rfl) ?_
  refine va_get (D := D) (ci := 0) (v := .ref (a 10)) (C := RX0) (T := TX0) (N := 9) hx hb hts tu_0 hown hE.1 hP 31 hv_2 rfl 3 (by decide) (hts _ tw_80) (fun _ h9 => h9) rfl dX0_takeAll_35 ?_
  refine c_mVv (rest := []) hC hE hP hD hS hw_same (metX3_takeAll l (ws' := (hw k b (sf (sf (sf (sf T 0 (upd (T 0) 4 (S 0 4))) 3 (S 3)) 4 (S 4)) 5 (S 5)) ++ (hw k a S ++ R))) hw_10 hw_23 (by decide) hv_10 hv_23 hws_5) gc_RX0_57 hd_X3_takeAll ⟨rfl, rfl⟩ ⟨Nat.le_of_ble_eq_true rfl, Nat.le_of_ble_eq_true rfl⟩ 10 hw_10 rfl rfl hl.1 (Nat.le_of_ble_eq_true rfl) ⟨Nat.le_of_ble_eq_true rfl, Nat.le_of_ble_eq_true rfl⟩ dX0_takeAll_38 (fun H locs hP hD hS => ?_)
  refine lv_aload_n hx hb dX0_takeAll_41 rfl (lv_at hl 0 rfl) ?_
  refine va_get (D := D) (ci := 0) (v := .ref (b 11)) (C := RX0) (T := TX0) (N := 9) hx hb hts tu_0 hown hE.1 hP 2 hw_2 rfl 4 (by decide) (hts _ tw_82) (fun _ h9 => h9) rfl dX0_takeAll_42 ?_
  refine lv_aload_n hx hb dX0_takeAll_45 rfl (lv_at hl 1 rfl) ?_
  refine va_get (D := D) (ci := 0) (v := .ref (a 11)) (C := RX0) (T := TX0) (N := 9) hx hb hts tu_0 hown hE.1 hP 31 hv_2 rfl 4 (by decide) (hts _ tw_82) (fun _ h9 => h9) rfl dX0_takeAll_46 ?_
  refine c_mVv (rest := []) hC hE hP hD hS hw_same (metX3_takeAll l (ws' := (hw k b (sf (sf (sf (sf (sf T 0 (upd (T 0) 4 (S 0 4))) 3 (S 3)) 4 (S 4)) 5 (S 5)) 6 (S 6)) ++ (hw k a S ++ R))) hw_11 hw_24 (by decide) hv_11 hv_24 hws_6) gc_RX0_57 hd_X3_takeAll ⟨rfl, rfl⟩ ⟨Nat.le_of_ble_eq_true rfl, Nat.le_of_ble_eq_true rfl⟩ 11 hw_11 rfl rfl hl.1 (Nat.le_of_ble_eq_true rfl) ⟨Nat.le_of_ble_eq_true rfl, Nat.le_of_ble_eq_true rfl⟩ dX0_takeAll_49 (fun H locs hP hD hS => ?_)
  refine lv_aload_n hx hb dX0_takeAll_52 rfl (lv_at hl 0 rfl) ?_
  refine va_get (D := D) (ci := 0) (v := .ref (b 12)) (C := RX0) (T := TX0) (N := 9) hx hb hts tu_0 hown hE.1 hP 2 hw_2 rfl 5 (by decide) (hts _ tw_85) (fun _ h9 => h9) rfl dX0_takeAll_53 ?_
  refine lv_aload_n hx hb dX0_takeAll_56 rfl (lv_at hl 1 rfl) ?_
  refine va_get (D := D) (ci := 0) (v := .ref (a 12)) (C := RX0) (T := TX0) (N := 9) hx hb hts tu_0 hown hE.1 hP 31 hv_2 rfl 5 (by decide) (hts _ tw_85) (fun _ h9 => h9) rfl dX0_takeAll_57 ?_
  refine c_mVv (rest := []) hC hE hP hD hS hw_same (metX3_takeAll l (ws' := (hw k b (sf (sf (sf (sf (sf (sf T 0 (upd (T 0) 4 (S 0 4))) 3 (S 3)) 4 (S 4)) 5 (S 5)) 6 (S 6)) 7 (S 7)) ++ (hw k a S ++ R))) hw_12 hw_25 (by decide) hv_12 hv_25 hws_7) gc_RX0_57 hd_X3_takeAll ⟨rfl, rfl⟩ ⟨Nat.le_of_ble_eq_true rfl, Nat.le_of_ble_eq_true rfl⟩ 12 hw_12 rfl rfl hl.1 (Nat.le_of_ble_eq_true rfl) ⟨Nat.le_of_ble_eq_true rfl, Nat.le_of_ble_eq_true rfl⟩ dX0_takeAll_60 (fun H locs hP hD hS => ?_)
  refine lv_aload_n hx hb dX0_takeAll_63 rfl (lv_at hl 0 rfl) ?_
  refine va_get (D := D) (ci := 0) (v := .ref (b 13)) (C := RX0) (T := TX0) (N := 9) hx hb hts tu_0 hown hE.1 hP 2 hw_2 rfl 6 (by decide) (hts _ tw_88) (fun _ h9 => h9) rfl dX0_takeAll_64 ?_
  refine lv_aload_n hx hb dX0_takeAll_67 rfl (lv_at hl 1 rfl) ?_
  refine va_get (D := D) (ci := 0) (v := .ref (a 13)) (C := RX0) (T := TX0) (N := 9) hx hb hts tu_0 hown hE.1 hP 31 hv_2 rfl 6 (by decide) (hts _ tw_88) (fun _ h9 => h9) rfl dX0_takeAll_68 ?_
  refine c_mVv (rest := []) hC hE hP hD hS hw_same (metX3_takeAll l (ws' := (hw k b (sf (sf (sf (sf (sf (sf (sf T 0 (upd (T 0) 4 (S 0 4))) 3 (S 3)) 4 (S 4)) 5 (S 5)) 6 (S 6)) 7 (S 7)) 8 (S 8)) ++ (hw k a S ++ R))) hw_13 hw_26 (by decide) hv_13 hv_26 hws_8) gc_RX0_57 hd_X3_takeAll ⟨rfl, rfl⟩ ⟨Nat.le_of_ble_eq_true rfl, Nat.le_of_ble_eq_true rfl⟩ 13 hw_13 rfl rfl hl.1 (Nat.le_of_ble_eq_true rfl) ⟨Nat.le_of_ble_eq_true rfl, Nat.le_of_ble_eq_true rfl⟩ dX0_takeAll_71 (fun H locs hP hD hS => ?_)
  refine lv_aload_n hx hb dX0_takeAll_74 rfl (lv_at hl 0 rfl) ?_
  refine va_get (D := D) (ci := 0) (v := .ref (b 14)) (C := RX0) (T := TX0) (N := 9) hx hb hts tu_0 hown hE.1 hP 2 hw_2 rfl 7 (by decide) (hts _ tw_91) (fun _ h9 => h9) rfl dX0_takeAll_75 ?_
  refine lv_aload_n hx hb dX0_takeAll_78 rfl (lv_at hl 1 rfl) ?_
  refine va_get (D := D) (ci := 0) (v := .ref (a 14)) (C := RX0) (T := TX0) (N := 9) hx hb hts tu_0 hown hE.1 hP 31 hv_2 rfl 7 (by decide) (hts _ tw_91) (fun _ h9 => h9) rfl dX0_takeAll_79 ?_
  refine c_mVv (rest := []) hC hE hP hD hS hw_same (metX3_takeAll l (ws' := (hw k b (sf (sf (sf (sf (sf (sf (sf (sf T 0 (upd (T 0) 4 (S 0 4))) 3 (S 3)) 4 (S 4)) 5 (S 5)) 6 (S 6)) 7 (S 7)) 8 (S 8)) 9 (S 9)) ++ (hw k a S ++ R))) hw_14 hw_27 (by decide) hv_14 hv_27 hws_9) gc_RX0_57 hd_X3_takeAll ⟨rfl, rfl⟩ ⟨Nat.le_of_ble_eq_true rfl, Nat.le_of_ble_eq_true rfl⟩ 14 hw_14 rfl rfl hl.1 (Nat.le_of_ble_eq_true rfl) ⟨Nat.le_of_ble_eq_true rfl, Nat.le_of_ble_eq_true rfl⟩ dX0_takeAll_82 (fun H locs hP hD hS => ?_)
  refine lv_aload_n hx hb dX0_takeAll_85 rfl (lv_at hl 0 rfl) ?_
  refine va_get (D := D) (ci := 0) (v := .ref (b 15)) (C := RX0) (T := TX0) (N := 9) hx hb hts tu_0 hown hE.1 hP 2 hw_2 rfl 8 (by decide) (hts _ tw_94) (fun _ h9 => h9) rfl dX0_takeAll_86 ?_
  refine lv_aload_n hx hb dX0_takeAll_89 rfl (lv_at hl 1 rfl) ?_
  refine va_get (D := D) (ci := 0) (v := .ref (a 15)) (C := RX0) (T := TX0) (N := 9) hx hb hts tu_0 hown hE.1 hP 31 hv_2 rfl 8 (by decide) (hts _ tw_94) (fun _ h9 => h9) rfl dX0_takeAll_90 ?_
  refine c_mVv (rest := []) hC hE hP hD hS hw_same (metX3_takeAll l (ws' := (hw k b (sf (sf (sf (sf (sf (sf (sf (sf (sf T 0 (upd (T 0) 4 (S 0 4))) 3 (S 3)) 4 (S 4)) 5 (S 5)) 6 (S 6)) 7 (S 7)) 8 (S 8)) 9 (S 9)) 10 (S 10)) ++ (hw k a S ++ R))) hw_15 hw_28 (by decide) hv_15 hv_28 hws_10) gc_RX0_57 hd_X3_takeAll ⟨rfl, rfl⟩ ⟨Nat.le_of_ble_eq_true rfl, Nat.le_of_ble_eq_true rfl⟩ 15 hw_15 rfl rfl hl.1 (Nat.le_of_ble_eq_true rfl) ⟨Nat.le_of_ble_eq_true rfl, Nat.le_of_ble_eq_true rfl⟩ dX0_takeAll_93 (fun H locs hP hD hS => ?_)
  exact m_vret hx hb hr hlk dX0_takeAll_96 hP hS

set_option maxHeartbeats 4000000 in
set_option maxRecDepth 100000 in
theorem metX2_becomeLike (l : Launch) {D : va_G} {k : Nat → ClassId} {a b : Nat → Nat} {R : va_W} (S T : HS) : MM l yX2_becomeLike cX2_becomeLike 2 none rmX2_becomeLike D k (hw k b T ++ (hw k a S ++ R)) [.ref (b 0), .ref (a 0)] none (hw k b (S) ++ (hw k a S ++ R)) := by
  refine MM_of rfl (Nat.le_of_ble_eq_true rfl) ?_
  intro p e s m below meth c hC hr hlk hin hE hP hD hS ls hl
  have hC : CallFix p m c cX2_becomeLike 2 s _ lw_all RX2 := hC
  have hx := hC.1
  have hb := hC.2.1
  have hown : s.vm.findClass RX2 = some m.cls := hC.2.2.2.1
  have hts := hC.2.2.2.2
  have hl : lv_has ls 2 [(0, .ref (b 0)), (1, .ref (a 0))] := hl
  refine lv_aload_n hx hb dX2_becomeLike_0 rfl (lv_at hl 0 rfl) ?_
  refine lv_aload_n hx hb dX2_becomeLike_1 rfl (lv_at hl 1 rfl) ?_
  refine va_get (D := D) (ci := 2) (v := .int (S 0 0)) (C := RX2) (T := TX2) (N := 8) hx hb hts tu_2 hown hE.1 hP 29 hv_0 rfl 0 (by decide) (hts _ tw_118) (fun _ h9 => h9) rfl dX2_becomeLike_2 ?_
  refine va_put (D := D) (ci := 2) (v := .int (S 0 0)) (ty := .int) (C := RX2) (T := TX2) (N := 8) hx hb hts tu_2 tyX2 tyX2_ok nmX2 hown hE.1 hP hD hS 0 hw_0 rfl 0 (by decide) (hts _ tw_118) (fun _ h9 => h9) rfl (by decide +kernel) rfl rfl (Nat.le_of_ble_eq_true rfl) dX2_becomeLike_5 (fun H locs hP hD hS => ?_)
  rw [hwp_00 (S := T) (v := (S 0 0)) (f := (upd (T 0) 0 (S 0 0))) rfl] at hP hD
  refine lv_aload_n hx hb dX2_becomeLike_8 rfl (lv_at hl 0 rfl) ?_
  refine lv_aload_n hx hb dX2_becomeLike_9 rfl (lv_at hl 1 rfl) ?_
  refine va_get (D := D) (ci := 2) (v := .int (S 0 1)) (C := RX2) (T := TX2) (N := 8) hx hb hts tu_2 hown hE.1 hP 29 hv_0 rfl 1 (by decide) (hts _ tw_120) (fun _ h9 => h9) rfl dX2_becomeLike_10 ?_
  refine va_put (D := D) (ci := 2) (v := .int (S 0 1)) (ty := .int) (C := RX2) (T := TX2) (N := 8) hx hb hts tu_2 tyX2 tyX2_ok nmX2 hown hE.1 hP hD hS 0 hw_0 rfl 1 (by decide) (hts _ tw_120) (fun _ h9 => h9) rfl (by decide +kernel) rfl rfl (Nat.le_of_ble_eq_true rfl) dX2_becomeLike_13 (fun H locs hP hD hS => ?_)
  rw [hwp_01 (S := (sf T 0 (upd (T 0) 0 (S 0 0)))) (v := (S 0 1)) (f := (upd (upd (T 0) 0 (S 0 0)) 1 (S 0 1))) rfl] at hP hD
  refine lv_aload_n hx hb dX2_becomeLike_16 rfl (lv_at hl 0 rfl) ?_
  refine lv_aload_n hx hb dX2_becomeLike_17 rfl (lv_at hl 1 rfl) ?_
  refine va_get (D := D) (ci := 2) (v := .int (S 0 2)) (C := RX2) (T := TX2) (N := 8) hx hb hts tu_2 hown hE.1 hP 29 hv_0 rfl 2 (by decide) (hts _ tw_122) (fun _ h9 => h9) rfl dX2_becomeLike_18 ?_
  refine va_put (D := D) (ci := 2) (v := .int (S 0 2)) (ty := .int) (C := RX2) (T := TX2) (N := 8) hx hb hts tu_2 tyX2 tyX2_ok nmX2 hown hE.1 hP hD hS 0 hw_0 rfl 2 (by decide) (hts _ tw_122) (fun _ h9 => h9) rfl (by decide +kernel) rfl rfl (Nat.le_of_ble_eq_true rfl) dX2_becomeLike_21 (fun H locs hP hD hS => ?_)
  rw [hwp_02 (S := (sf (sf T 0 (upd (T 0) 0 (S 0 0))) 0 (upd (upd (T 0) 0 (S 0 0)) 1 (S 0 1)))) (v := (S 0 2)) (f := (upd (upd (upd (T 0) 0 (S 0 0)) 1 (S 0 1)) 2 (S 0 2))) rfl] at hP hD
  refine lv_aload_n hx hb dX2_becomeLike_24 rfl (lv_at hl 0 rfl) ?_
  refine va_get (D := D) (ci := 2) (v := .ref (b 1)) (C := RX2) (T := TX2) (N := 8) hx hb hts tu_2 hown hE.1 hP 0 hw_0 rfl 3 (by decide) (hts _ tw_124) (fun _ h9 => h9) rfl dX2_becomeLike_25 ?_
  refine lv_aload_n hx hb dX2_becomeLike_28 rfl (lv_at hl 1 rfl) ?_
  refine va_get (D := D) (ci := 2) (v := .ref (a 1)) (C := RX2) (T := TX2) (N := 8) hx hb hts tu_2 hown hE.1 hP 29 hv_0 rfl 3 (by decide) (hts _ tw_124) (fun _ h9 => h9) rfl dX2_becomeLike_29 ?_
  refine c_mVv (rest := []) hC hE hP hD hS hw_same (metX1_takeAll l S (sf (sf (sf T 0 (upd (T 0) 0 (S 0 0))) 0 (upd (upd (T 0) 0 (S 0 0)) 1 (S 0 1))) 0 (upd (upd (upd (T 0) 0 (S 0 0)) 1 (S 0 1)) 2 (S 0 2)))) gc_RX2_50 hd_X1_takeAll ⟨rfl, rfl⟩ ⟨Nat.le_of_ble_eq_true rfl, Nat.le_of_ble_eq_true rfl⟩ 1 hw_1 rfl rfl hl.1 (Nat.le_of_ble_eq_true rfl) ⟨Nat.le_of_ble_eq_true rfl, Nat.le_of_ble_eq_true rfl⟩ dX2_becomeLike_32 (fun H locs hP hD hS => ?_)
  refine lv_aload_n hx hb dX2_becomeLike_35 rfl (lv_at hl 0 rfl) ?_
  refine va_get (D := D) (ci := 2) (v := .ref (b 2)) (C := RX2) (T := TX2) (N := 8) hx hb hts tu_2 hown hE.1 hP 0 hw_0 rfl 4 (by decide) (hts _ tw_126) (fun _ h9 => h9) rfl dX2_becomeLike_36 ?_
  refine lv_aload_n hx hb dX2_becomeLike_39 rfl (lv_at hl 1 rfl) ?_
  refine va_get (D := D) (ci := 2) (v := .ref (a 2)) (C := RX2) (T := TX2) (N := 8) hx hb hts tu_2 hown hE.1 hP 29 hv_0 rfl 4 (by decide) (hts _ tw_126) (fun _ h9 => h9) rfl dX2_becomeLike_40 ?_
  refine c_mVv (rest := []) hC hE hP hD hS hw_same (metX0_takeAll l S (xFlTake (sf (sf (sf T 0 (upd (T 0) 0 (S 0 0))) 0 (upd (upd (T 0) 0 (S 0 0)) 1 (S 0 1))) 0 (upd (upd (upd (T 0) 0 (S 0 0)) 1 (S 0 1)) 2 (S 0 2))) S)) gc_RX2_54 hd_X0_takeAll ⟨rfl, rfl⟩ ⟨Nat.le_of_ble_eq_true rfl, Nat.le_of_ble_eq_true rfl⟩ 2 hw_2 rfl rfl hl.1 (Nat.le_of_ble_eq_true rfl) ⟨Nat.le_of_ble_eq_true rfl, Nat.le_of_ble_eq_true rfl⟩ dX2_becomeLike_43 (fun H locs hP hD hS => ?_)
  refine lv_aload_n hx hb dX2_becomeLike_46 rfl (lv_at hl 0 rfl) ?_
  refine va_get (D := D) (ci := 2) (v := .ref (b 3)) (C := RX2) (T := TX2) (N := 8) hx hb hts tu_2 hown hE.1 hP 0 hw_0 rfl 5 (by decide) (hts _ tw_128) (fun _ h9 => h9) rfl dX2_becomeLike_47 ?_
  refine lv_aload_n hx hb dX2_becomeLike_50 rfl (lv_at hl 1 rfl) ?_
  refine va_get (D := D) (ci := 2) (v := .ref (a 3)) (C := RX2) (T := TX2) (N := 8) hx hb hts tu_2 hown hE.1 hP 29 hv_0 rfl 5 (by decide) (hts _ tw_128) (fun _ h9 => h9) rfl dX2_becomeLike_51 ?_
  refine c_mVv (rest := []) hC hE hP hD hS hw_same (metX3_takeAll l (ws' := (hw k b (sf (xBgTake (xFlTake (sf (sf (sf T 0 (upd (T 0) 0 (S 0 0))) 0 (upd (upd (T 0) 0 (S 0 0)) 1 (S 0 1))) 0 (upd (upd (upd (T 0) 0 (S 0 0)) 1 (S 0 1)) 2 (S 0 2))) S) S) 11 (S 11)) ++ (hw k a S ++ R))) hw_3 hw_16 (by decide) hv_3 hv_16 hws_11) gc_RX2_57 hd_X3_takeAll ⟨rfl, rfl⟩ ⟨Nat.le_of_ble_eq_true rfl, Nat.le_of_ble_eq_true rfl⟩ 3 hw_3 rfl rfl hl.1 (Nat.le_of_ble_eq_true rfl) ⟨Nat.le_of_ble_eq_true rfl, Nat.le_of_ble_eq_true rfl⟩ dX2_becomeLike_54 (fun H locs hP hD hS => ?_)
  refine lv_aload_n hx hb dX2_becomeLike_57 rfl (lv_at hl 0 rfl) ?_
  refine va_get (D := D) (ci := 2) (v := .ref (b 4)) (C := RX2) (T := TX2) (N := 8) hx hb hts tu_2 hown hE.1 hP 0 hw_0 rfl 6 (by decide) (hts _ tw_130) (fun _ h9 => h9) rfl dX2_becomeLike_58 ?_
  refine lv_aload_n hx hb dX2_becomeLike_61 rfl (lv_at hl 1 rfl) ?_
  refine va_get (D := D) (ci := 2) (v := .ref (a 4)) (C := RX2) (T := TX2) (N := 8) hx hb hts tu_2 hown hE.1 hP 29 hv_0 rfl 6 (by decide) (hts _ tw_130) (fun _ h9 => h9) rfl dX2_becomeLike_62 ?_
  refine c_mVv (rest := []) hC hE hP hD hS hw_same (metX3_takeAll l (ws' := (hw k b (sf (sf (xBgTake (xFlTake (sf (sf (sf T 0 (upd (T 0) 0 (S 0 0))) 0 (upd (upd (T 0) 0 (S 0 0)) 1 (S 0 1))) 0 (upd (upd (upd (T 0) 0 (S 0 0)) 1 (S 0 1)) 2 (S 0 2))) S) S) 11 (S 11)) 12 (S 12)) ++ (hw k a S ++ R))) hw_4 hw_17 (by decide) hv_4 hv_17 hws_12) gc_RX2_57 hd_X3_takeAll ⟨rfl, rfl⟩ ⟨Nat.le_of_ble_eq_true rfl, Nat.le_of_ble_eq_true rfl⟩ 4 hw_4 rfl rfl hl.1 (Nat.le_of_ble_eq_true rfl) ⟨Nat.le_of_ble_eq_true rfl, Nat.le_of_ble_eq_true rfl⟩ dX2_becomeLike_65 (fun H locs hP hD hS => ?_)
  refine lv_aload_n hx hb dX2_becomeLike_68 rfl (lv_at hl 0 rfl) ?_
  refine va_get (D := D) (ci := 2) (v := .ref (b 5)) (C := RX2) (T := TX2) (N := 8) hx hb hts tu_2 hown hE.1 hP 0 hw_0 rfl 7 (by decide) (hts _ tw_132) (fun _ h9 => h9) rfl dX2_becomeLike_69 ?_
  refine lv_aload_n hx hb dX2_becomeLike_72 rfl (lv_at hl 1 rfl) ?_
  refine va_get (D := D) (ci := 2) (v := .ref (a 5)) (C := RX2) (T := TX2) (N := 8) hx hb hts tu_2 hown hE.1 hP 29 hv_0 rfl 7 (by decide) (hts _ tw_132) (fun _ h9 => h9) rfl dX2_becomeLike_73 ?_
  refine c_mVv (rest := []) hC hE hP hD hS hw_same (metX3_takeAll l (ws' := (hw k b (sf (sf (sf (xBgTake (xFlTake (sf (sf (sf T 0 (upd (T 0) 0 (S 0 0))) 0 (upd (upd (T 0) 0 (S 0 0)) 1 (S 0 1))) 0 (upd (upd (upd (T 0) 0 (S 0 0)) 1 (S 0 1)) 2 (S 0 2))) S) S) 11 (S 11)) 12 (S 12)) 13 (S 13)) ++ (hw k a S ++ R))) hw_5 hw_18 (by decide) hv_5 hv_18 hws_13) gc_RX2_57 hd_X3_takeAll ⟨rfl, rfl⟩ ⟨Nat.le_of_ble_eq_true rfl, Nat.le_of_ble_eq_true rfl⟩ 5 hw_5 rfl rfl hl.1 (Nat.le_of_ble_eq_true rfl) ⟨Nat.le_of_ble_eq_true rfl, Nat.le_of_ble_eq_true rfl⟩ dX2_becomeLike_76 (fun H locs hP hD hS => ?_)
  rw [hw_like] at hP
  exact m_vret hx hb hr hlk dX2_becomeLike_79 hP hS
