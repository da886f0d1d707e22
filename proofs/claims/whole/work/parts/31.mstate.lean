theorem gwp_t {k : Nat → ClassId} {g : Nat → Nat} {sp sq : Nat} {G : HS} {R : va_W} {v : Int32} : (gw k g sp sq G ++ R).set 0 (g 0, .inr (6, ([.int (G 0 0), .int (G 0 1), .ref (g 1), .ref (g 2), .ref (g 3), .int (G 0 2), .int (G 0 3), .ref (g 4), .ref (g 5), .ref (g 6), .ref (g 7), .ref sp, .ref sq] : List Value).set 0 (.int v))) = gw k g sp sq (thr G v) ++ R := rfl
set_option maxHeartbeats 4000000 in
set_option maxRecDepth 100000 in
theorem metX5_put (l : Launch) {D : va_G} {k : Nat → ClassId} {g t : Nat → Nat} {sp sq : Nat} {R : va_W} (G T : HS) (b : Nat) (w : Int32) (q : Int32) (hbg : b < 40) : MM l yX5_put cX5_put 4 none rmX5_put D k (gw k g sp sq G ++ (tw k t T ++ R)) [.ref (t 0), .int (nI b), .int w, .int q] none (gw k g sp sq G ++ (tw k t (mPutB T b w q) ++ R)) := by
  refine MM_of rfl (Nat.le_of_ble_eq_true rfl) ?_
  intro p e s m below meth c hC hr hlk hin hE hP hD hS ls hl
  have hC : CallFix p m c cX5_put 4 s _ lw_all RX5 := hC
  have hx := hC.1
  have hb := hC.2.1
  have hown : s.vm.findClass RX5 = some m.cls := hC.2.2.2.1
  have hts := hC.2.2.2.2
  have hl : lv_has ls 4 [(0, .ref (t 0)), (1, .int (nI b)), (2, .int w), (3, .int q)] := hl
  refine lv_aload_n hx hb dX5_put_0 rfl (lv_at hl 0 rfl) ?_
  refine va_get (D := D) (ci := 5) (v := .ref (t 1)) (C := RX5) (T := TX5) (N := 9) hx hb hts tu_5 hown hE.1 hP 8 mt_0 rfl 1 (by decide) (hts _ tw_750) (fun _ h9 => h9) rfl dX5_put_1 ?_
  refine lv_iload_n hx hb dX5_put_4 rfl (lv_at hl 1 rfl) ?_
  refine lv_iload_n hx hb dX5_put_5 rfl (lv_at hl 2 rfl) ?_
  refine k_iast (j := b) hx hb hE hP hD hS 9 mt_1 hbg (by decide) dX5_put_6 (fun H locs hP hD hS => ?_)
  rw [mtq_1 (T := T) (f := upd (T 1) b w) (f2 := upd (T 1) b w) rfl] at hP hD
  refine lv_aload_n hx hb dX5_put_7 rfl (lv_at hl 0 rfl) ?_
  refine va_get (D := D) (ci := 5) (v := .ref (t 2)) (C := RX5) (T := TX5) (N := 9) hx hb hts tu_5 hown hE.1 hP 8 mt_0 rfl 2 (by decide) (hts _ tw_752) (fun _ h9 => h9) rfl dX5_put_8 ?_
  refine lv_iload_n hx hb dX5_put_11 rfl (lv_at hl 1 rfl) ?_
  refine lv_iload_n hx hb dX5_put_12 rfl (lv_at hl 3 rfl) ?_
  refine k_iast (j := b) hx hb hE hP hD hS 10 mt_2 hbg (by decide) dX5_put_13 (fun H locs hP hD hS => ?_)
  rw [mtq_2 (T := (sf T 1 (upd (T 1) b w))) (f := upd ((sf T 1 (upd (T 1) b w)) 2) b q) (f2 := upd (T 2) b q) rfl] at hP hD
  exact m_vret hx hb hr hlk dX5_put_14 hP hS

set_option maxHeartbeats 4000000 in
set_option maxRecDepth 100000 in
theorem metX5_toLine (l : Launch) {D : va_G} {k : Nat → ClassId} {g t : Nat → Nat} {sp sq : Nat} {R : va_W} (G T : HS) (b : Nat) (hbg : b < 40) (hL1 : T 0 1 = nI (ix (T 0 1))) (hL2 : ix (T 0 1) < 40) : MM l yX5_toLine cX5_toLine 2 none rmX5_toLine D k (gw k g sp sq G ++ (tw k t T ++ R)) [.ref (t 0), .int (nI b)] none (gw k g sp sq G ++ (tw k t (mLine T b) ++ R)) := by
  refine MM_of rfl (Nat.le_of_ble_eq_true rfl) ?_
  intro p e s m below meth c hC hr hlk hin hE hP hD hS ls hl
  have hC : CallFix p m c cX5_toLine 2 s _ lw_all RX5 := hC
  have hx := hC.1
  have hb := hC.2.1
  have hown : s.vm.findClass RX5 = some m.cls := hC.2.2.2.1
  have hts := hC.2.2.2.2
  have hl : lv_has ls 2 [(0, .ref (t 0)), (1, .int (nI b))] := hl
  refine lv_aload_n hx hb dX5_toLine_0 rfl (lv_at hl 0 rfl) ?_
  refine lv_iload_n hx hb dX5_toLine_1 rfl (lv_at hl 1 rfl) ?_
  refine lv_iconst (v := 0) hx hb dX5_toLine_2 (by decide) ?_
  refine lv_iconst (v := (-1)) hx hb dX5_toLine_3 (by decide) ?_
  refine c_mVv (rest := []) hC hE hP hD hS mt_same (metX5_put l G T b 0 (-1) hbg) gc_RX5_50 hd_X5_put ⟨rfl, rfl⟩ ⟨Nat.le_of_ble_eq_true rfl, Nat.le_of_ble_eq_true rfl⟩ 8 mt_0 rfl rfl hl.1 (Nat.le_of_ble_eq_true rfl) ⟨Nat.le_of_ble_eq_true rfl, Nat.le_of_ble_eq_true rfl⟩ dX5_toLine_4 (fun H locs hP hD hS => ?_)
  refine lv_aload_n hx hb dX5_toLine_7 rfl (lv_at hl 0 rfl) ?_
  refine va_get (D := D) (ci := 5) (v := .ref (t 6)) (C := RX5) (T := TX5) (N := 9) hx hb hts tu_5 hown hE.1 hP 8 mt_0 rfl 6 (by decide) (hts _ tw_760) (fun _ h9 => h9) rfl dX5_toLine_8 ?_
  refine lv_aload_n hx hb dX5_toLine_11 rfl (lv_at hl 0 rfl) ?_
  refine va_get (D := D) (ci := 5) (v := .int ((mPutB T b 0 (-1)) 0 1)) (C := RX5) (T := TX5) (N := 9) hx hb hts tu_5 hown hE.1 hP 8 mt_0 rfl 7 (by decide) (hts _ tw_761) (fun _ h9 => h9) rfl dX5_toLine_12 ?_
  refine w_top (hL1) ?_
  refine lv_iload_n hx hb dX5_toLine_15 rfl (lv_at hl 1 rfl) ?_
  refine k_iast (j := (ix (T 0 1))) hx hb hE hP hD hS 14 mt_6 hL2 (by decide) dX5_toLine_16 (fun H locs hP hD hS => ?_)
  rw [mtq_6 (T := (mPutB T b 0 (-1))) (f := upd ((mPutB T b 0 (-1)) 6) (ix (T 0 1)) (nI b)) (f2 := upd ((mPutB T b 0 (-1)) 6) (ix (T 0 1)) (nI b)) rfl] at hP hD
  refine lv_aload_n hx hb dX5_toLine_17 rfl (lv_at hl 0 rfl) ?_
  refine lv_dup hx hb dX5_toLine_18 rfl ?_
  refine va_get (D := D) (ci := 5) (v := .int ((mPutB T b 0 (-1)) 0 1)) (C := RX5) (T := TX5) (N := 9) hx hb hts tu_5 hown hE.1 hP 8 mt_0 rfl 7 (by decide) (hts _ tw_761) (fun _ h9 => h9) rfl dX5_toLine_19 ?_
  refine lv_iconst (v := 1) hx hb dX5_toLine_22 (by decide) ?_
  refine lv_iadd hx hb dX5_toLine_23 ?_
  refine va_put (D := D) (ci := 5) (v := .int (((mPutB T b 0 (-1)) 0 1) + 1)) (ty := .int) (C := RX5) (T := TX5) (N := 9) hx hb hts tu_5 tyX5 tyX5_ok nmX5 hown hE.1 hP hD hS 8 mt_0 rfl 7 (by decide) (hts _ tw_761) (fun _ h9 => h9) rfl (by decide +kernel) rfl rfl (Nat.le_of_ble_eq_true rfl) dX5_toLine_24 (fun H locs hP hD hS => ?_)
  rw [mtp_01 (T := (sf (mPutB T b 0 (-1)) 6 (upd ((mPutB T b 0 (-1)) 6) (ix (T 0 1)) (nI b)))) (v := (((mPutB T b 0 (-1)) 0 1) + 1)) (f := upd ((mPutB T b 0 (-1)) 0) 1 (((mPutB T b 0 (-1)) 0 1) + 1)) rfl] at hP hD
  exact m_vret hx hb hr hlk dX5_toLine_27 hP hS

set_option maxHeartbeats 4000000 in
set_option maxRecDepth 100000 in
theorem metX5_toChute (l : Launch) {D : va_G} {k : Nat → ClassId} {g t : Nat → Nat} {sp sq : Nat} {R : va_W} (G T : HS) (b : Nat) (ch : Nat) (hbg : b < 40) (hc : ch < 4) : MM l yX5_toChute cX5_toChute 3 none rmX5_toChute D k (gw k g sp sq G ++ (tw k t T ++ R)) [.ref (t 0), .int (nI b), .int (nI ch)] none (gw k g sp sq G ++ (tw k t (mToCh T b ch) ++ R)) := by
  refine MM_of rfl (Nat.le_of_ble_eq_true rfl) ?_
  intro p e s m below meth c hC hr hlk hin hE hP hD hS ls hl
  have hC : CallFix p m c cX5_toChute 3 s _ lw_all RX5 := hC
  have hx := hC.1
  have hb := hC.2.1
  have hown : s.vm.findClass RX5 = some m.cls := hC.2.2.2.1
  have hts := hC.2.2.2.2
  have hl : lv_has ls 3 [(0, .ref (t 0)), (1, .int (nI b)), (2, .int (nI ch))] := hl
  refine lv_aload_n hx hb dX5_toChute_0 rfl (lv_at hl 0 rfl) ?_
  refine lv_iload_n hx hb dX5_toChute_1 rfl (lv_at hl 1 rfl) ?_
  refine lv_iconst (v := 2) hx hb dX5_toChute_2 (by decide) ?_
  refine lv_iload_n hx hb dX5_toChute_3 rfl (lv_at hl 2 rfl) ?_
  refine c_mVv (rest := []) hC hE hP hD hS mt_same (metX5_put l G T b 2 (nI ch) hbg) gc_RX5_50 hd_X5_put ⟨rfl, rfl⟩ ⟨Nat.le_of_ble_eq_true rfl, Nat.le_of_ble_eq_true rfl⟩ 8 mt_0 rfl rfl hl.1 (Nat.le_of_ble_eq_true rfl) ⟨Nat.le_of_ble_eq_true rfl, Nat.le_of_ble_eq_true rfl⟩ dX5_toChute_4 (fun H locs hP hD hS => ?_)
  refine lv_aload_n hx hb dX5_toChute_7 rfl (lv_at hl 0 rfl) ?_
  refine va_get (D := D) (ci := 5) (v := .ref (t 7)) (C := RX5) (T := TX5) (N := 9) hx hb hts tu_5 hown hE.1 hP 8 mt_0 rfl 8 (by decide) (hts _ tw_763) (fun _ h9 => h9) rfl dX5_toChute_8 ?_
  refine lv_iload_n hx hb dX5_toChute_11 rfl (lv_at hl 2 rfl) ?_
  refine lv_dup2_11 hx hb dX5_toChute_12 rfl rfl ?_
  refine k_iald (j := ch) hx hb hE hP 15 mt_7 hc (by decide) dX5_toChute_13 ?_
  refine lv_iconst (v := 1) hx hb dX5_toChute_14 (by decide) ?_
  refine lv_iadd hx hb dX5_toChute_15 ?_
  refine k_iast (j := ch) hx hb hE hP hD hS 15 mt_7 hc (by decide) dX5_toChute_16 (fun H locs hP hD hS => ?_)
  rw [mtq_7 (T := (mPutB T b 2 (nI ch))) (f := upd ((mPutB T b 2 (nI ch)) 7) ch (((mPutB T b 2 (nI ch)) 7 ch) + 1)) (f2 := upd ((mPutB T b 2 (nI ch)) 7) ch (((mPutB T b 2 (nI ch)) 7 ch) + 1)) rfl] at hP hD
  exact m_vret hx hb hr hlk dX5_toChute_17 hP hS

theorem mFr_c (L : Nat) (f : Nat → Int32) : va_cpy f f (1 : Int32).toNatClampNeg (0 : Int32).toNatClampNeg L = mFr L f := by
  funext j
  show (if 0 ≤ j ∧ j < 0 + L then f (1 + (j - 0)) else f j) = if j < L then f (j + 1) else f j
  by_cases h : j < L
  · rw [if_pos h, if_pos (by omega)]
    congr 1
    omega
  · rw [if_neg h, if_neg (by omega)]
set_option maxHeartbeats 4000000 in
set_option maxRecDepth 100000 in
theorem metX5_firstInLine (l : Launch) {D : va_G} {k : Nat → ClassId} {g t : Nat → Nat} {sp sq : Nat} {R : va_W} (G T : HS) (hL1 : T 0 1 = nI (ix (T 0 1))) (hLp : 0 < ix (T 0 1)) (hLm : ix (T 0 1) ≤ 40) : MM l yX5_firstInLine cX5_firstInLine 2 (some FieldType.int) rmX5_firstInLine D k (gw k g sp sq G ++ (tw k t T ++ R)) [.ref (t 0)] (some (.int (T 6 0))) (gw k g sp sq G ++ (tw k t (mFirst T) ++ R)) := by
  refine MM_of rfl (Nat.le_of_ble_eq_true rfl) ?_
  intro p e s m below meth c hC hr hlk hin hE hP hD hS ls hl
  have hC : CallFix p m c cX5_firstInLine 2 s _ lw_all RX5 := hC
  have hx := hC.1
  have hb := hC.2.1
  have hown : s.vm.findClass RX5 = some m.cls := hC.2.2.2.1
  have hts := hC.2.2.2.2
  have hl : lv_has ls 2 [(0, .ref (t 0))] := hl
  refine lv_aload_n hx hb dX5_firstInLine_0 rfl (lv_at hl 0 rfl) ?_
  refine va_get (D := D) (ci := 5) (v := .ref (t 6)) (C := RX5) (T := TX5) (N := 9) hx hb hts tu_5 hown hE.1 hP 8 mt_0 rfl 6 (by decide) (hts _ tw_760) (fun _ h9 => h9) rfl dX5_firstInLine_1 ?_
  refine lv_iconst (v := 0) hx hb dX5_firstInLine_4 (by decide) ?_
  refine k_iald (j := 0) hx hb hE hP 14 mt_6 (by decide) (by decide) dX5_firstInLine_5 ?_
  refine lv_istore_n (lv' := [(1, .int (T 6 0)), (0, .ref (t 0))]) hx hb dX5_firstInLine_6 rfl hl (by decide) rfl (fun ls hl => ?_)
  refine lv_aload_n hx hb dX5_firstInLine_7 rfl (lv_at hl 1 rfl) ?_
  refine lv_dup hx hb dX5_firstInLine_8 rfl ?_
  refine va_get (D := D) (ci := 5) (v := .int (T 0 1)) (C := RX5) (T := TX5) (N := 9) hx hb hts tu_5 hown hE.1 hP 8 mt_0 rfl 7 (by decide) (hts _ tw_761) (fun _ h9 => h9) rfl dX5_firstInLine_9 ?_
  refine lv_iconst (v := 1) hx hb dX5_firstInLine_12 (by decide) ?_
  refine lv_isub hx hb dX5_firstInLine_13 ?_
  refine va_put (D := D) (ci := 5) (v := .int ((T 0 1) - 1)) (ty := .int) (C := RX5) (T := TX5) (N := 9) hx hb hts tu_5 tyX5 tyX5_ok nmX5 hown hE.1 hP hD hS 8 mt_0 rfl 7 (by decide) (hts _ tw_761) (fun _ h9 => h9) rfl (by decide +kernel) rfl rfl (Nat.le_of_ble_eq_true rfl) dX5_firstInLine_14 (fun H locs hP hD hS => ?_)
  rw [mtp_01 (T := T) (v := ((T 0 1) - 1)) (f := upd (T 0) 1 ((T 0 1) - 1)) rfl] at hP hD
  refine lv_aload_n hx hb dX5_firstInLine_17 rfl (lv_at hl 1 rfl) ?_
  refine va_get (D := D) (ci := 5) (v := .ref (t 6)) (C := RX5) (T := TX5) (N := 9) hx hb hts tu_5 hown hE.1 hP 8 mt_0 rfl 6 (by decide) (hts _ tw_760) (fun _ h9 => h9) rfl dX5_firstInLine_18 ?_
  refine lv_iconst (v := 1) hx hb dX5_firstInLine_21 (by decide) ?_
  refine lv_aload_n hx hb dX5_firstInLine_22 rfl (lv_at hl 1 rfl) ?_
  refine va_get (D := D) (ci := 5) (v := .ref (t 6)) (C := RX5) (T := TX5) (N := 9) hx hb hts tu_5 hown hE.1 hP 8 mt_0 rfl 6 (by decide) (hts _ tw_760) (fun _ h9 => h9) rfl dX5_firstInLine_23 ?_
  refine lv_iconst (v := 0) hx hb dX5_firstInLine_26 (by decide) ?_
  refine lv_aload_n hx hb dX5_firstInLine_27 rfl (lv_at hl 1 rfl) ?_
  refine va_get (D := D) (ci := 5) (v := .int ((T 0 1) - 1)) (C := RX5) (T := TX5) (N := 9) hx hb hts tu_5 hown hE.1 hP 8 mt_0 rfl 7 (by decide) (hts _ tw_761) (fun _ h9 => h9) rfl dX5_firstInLine_28 ?_
  have hz : T 0 1 - 1 = nI (ix (T 0 1) - 1) := by rw [hL1, ix_n (by omega)]; exact isub1 hLp
  refine va_copyi hx hb (hC.2.2.1.trans hl.1.symm) hown (hts _ tw_932) (hts _ tw_710) (hts _ tw_709) (hts _ tw_15) hE.1 hP hD hS 14 14 0 0 mt_6 mt_6 rfl rfl rfl (by decide) (by decide) (by rw [hz]; exact nI_pos (by omega)) (by rw [hz, nI_clamp (by omega)]; show 1 + _ ≤ 40; omega) (by rw [hz, nI_clamp (by omega)]; show 0 + _ ≤ 40; omega) (fun _ _ => rfl) (Nat.le_of_ble_eq_true rfl) (Nat.le_of_ble_eq_true rfl) dX5_firstInLine_31 (fun H locs hP hD hS => ?_)
  have hz2 : (T 0 1 - 1).toNatClampNeg = ix (T 0 1) - 1 := by rw [hz]; exact nI_clamp (by omega)
  rw [mtq_6 (T := (sf T 0 (upd (T 0) 1 ((T 0 1) - 1)))) (f := va_cpy ((sf T 0 (upd (T 0) 1 ((T 0 1) - 1))) 6) ((sf T 0 (upd (T 0) 1 ((T 0 1) - 1))) 6) (1 : Int32).toNatClampNeg (0 : Int32).toNatClampNeg (T 0 1 - 1).toNatClampNeg) (f2 := mFr (ix (T 0 1) - 1) (T 6)) (by rw [hz2]; exact mFr_c _ _)] at hP hD
  refine lv_iload_n hx hb dX5_firstInLine_34 rfl (lv_at hl 0 rfl) ?_
  exact m_iret hx hb hr hlk dX5_firstInLine_35 hP hS (rfl)

theorem turn_c (f : Nat → Int32) : upd (va_cpy f f 0 1 11) 0 (f 11) = xturn 12 f := by
  funext j
  show (if j = 0 then f 11 else if 1 ≤ j ∧ j < 1 + 11 then f (0 + (j - 1)) else f j) = if j < 12 then (if j = 0 then f (12 - 1) else f (j - 1)) else f j
  by_cases h : j = 0
  · rw [if_pos h, if_pos (by omega), if_pos h]
  · rw [if_neg h]
    by_cases h2 : j < 12
    · rw [if_pos (by omega), if_pos h2, if_neg h, Nat.zero_add]
    · rw [if_neg (by omega), if_neg h2]
theorem sf_over (S : HS) (i : Nat) (f g : Nat → Int32) : sf (sf S i f) i g = sf S i g := by
  funext j
  unfold sf
  by_cases h : j = i
  · rw [if_pos h, if_pos h]
  · rw [if_neg h, if_neg h, if_neg h]
theorem sf_self (S : HS) (i : Nat) : sf S i (S i) = S := by
  funext j
  unfold sf
  by_cases h : j = i
  · rw [if_pos h, h]
  · rw [if_neg h]
set_option maxHeartbeats 4000000 in
set_option maxRecDepth 100000 in
theorem metX5_turnRound (l : Launch) {D : va_G} {k : Nat → ClassId} {g t : Nat → Nat} {sp sq : Nat} {R : va_W} (G T : HS) (hB : okB (T 5)) : MM l yX5_turnRound cX5_turnRound 3 none rmX5_turnRound D k (gw k g sp sq G ++ (tw k t T ++ R)) [.ref (t 0)] none (gw k g sp sq G ++ (tw k t (mTrn T) ++ R)) := by
  refine MM_of rfl (Nat.le_of_ble_eq_true rfl) ?_
  intro p e s m below meth c hC hr hlk hin hE hP hD hS ls hl
  have hC : CallFix p m c cX5_turnRound 3 s _ lw_all RX5 := hC
  have hx := hC.1
  have hb := hC.2.1
  have hown : s.vm.findClass RX5 = some m.cls := hC.2.2.2.1
  have hts := hC.2.2.2.2
  have hl : lv_has ls 3 [(0, .ref (t 0))] := hl
  refine lv_aload_n hx hb dX5_turnRound_0 rfl (lv_at hl 0 rfl) ?_
  refine va_get (D := D) (ci := 5) (v := .ref (t 5)) (C := RX5) (T := TX5) (N := 9) hx hb hts tu_5 hown hE.1 hP 8 mt_0 rfl 5 (by decide) (hts _ tw_758) (fun _ h9 => h9) rfl dX5_turnRound_1 ?_
  refine lv_bipush (v := 11) hx hb dX5_turnRound_4 (by decide) ?_
  refine k_iald (j := 11) hx hb hE hP 13 mt_5 (by decide) (by decide) dX5_turnRound_6 ?_
  refine lv_istore_n (lv' := [(1, .int (T 5 11)), (0, .ref (t 0))]) hx hb dX5_turnRound_7 rfl hl (by decide) rfl (fun ls hl => ?_)
  refine lv_aload_n hx hb dX5_turnRound_8 rfl (lv_at hl 1 rfl) ?_
  refine va_get (D := D) (ci := 5) (v := .ref (t 5)) (C := RX5) (T := TX5) (N := 9) hx hb hts tu_5 hown hE.1 hP 8 mt_0 rfl 5 (by decide) (hts _ tw_758) (fun _ h9 => h9) rfl dX5_turnRound_9 ?_
  refine lv_iconst (v := 0) hx hb dX5_turnRound_12 (by decide) ?_
  refine lv_aload_n hx hb dX5_turnRound_13 rfl (lv_at hl 1 rfl) ?_
  refine va_get (D := D) (ci := 5) (v := .ref (t 5)) (C := RX5) (T := TX5) (N := 9) hx hb hts tu_5 hown hE.1 hP 8 mt_0 rfl 5 (by decide) (hts _ tw_758) (fun _ h9 => h9) rfl dX5_turnRound_14 ?_
  refine lv_iconst (v := 1) hx hb dX5_turnRound_17 (by decide) ?_
  refine lv_bipush (v := 11) hx hb dX5_turnRound_18 (by decide) ?_
  refine va_copyi hx hb (hC.2.2.1.trans hl.1.symm) hown (hts _ tw_932) (hts _ tw_710) (hts _ tw_709) (hts _ tw_15) hE.1 hP hD hS 13 13 0 0 mt_5 mt_5 rfl rfl rfl (by decide) (by decide) (by decide) (by decide) (by decide) (fun _ _ => rfl) (Nat.le_of_ble_eq_true rfl) (Nat.le_of_ble_eq_true rfl) dX5_turnRound_20 (fun H locs hP hD hS => ?_)
  rw [mtq_5 (T := T) (f := va_cpy (T 5) (T 5) (0 : Int32).toNatClampNeg (1 : Int32).toNatClampNeg (11 : Int32).toNatClampNeg) (f2 := va_cpy (T 5) (T 5) 0 1 11) rfl] at hP hD
  refine lv_aload_n hx hb dX5_turnRound_23 rfl (lv_at hl 1 rfl) ?_
  refine va_get (D := D) (ci := 5) (v := .ref (t 5)) (C := RX5) (T := TX5) (N := 9) hx hb hts tu_5 hown hE.1 hP 8 mt_0 rfl 5 (by decide) (hts _ tw_758) (fun _ h9 => h9) rfl dX5_turnRound_24 ?_
  refine lv_iconst (v := 0) hx hb dX5_turnRound_27 (by decide) ?_
  refine lv_iload_n hx hb dX5_turnRound_28 rfl (lv_at hl 0 rfl) ?_
  refine k_iast (j := 0) hx hb hE hP hD hS 13 mt_5 (by decide) (by decide) dX5_turnRound_29 (fun H locs hP hD hS => ?_)
  rw [mtq_5 (T := (sf T 5 (va_cpy (T 5) (T 5) 0 1 11))) (f := upd ((sf T 5 (va_cpy (T 5) (T 5) 0 1 11)) 5) 0 (T 5 11)) (f2 := upd (va_cpy (T 5) (T 5) 0 1 11) 0 (T 5 11)) rfl] at hP hD
  refine lv_iconst (v := 0) hx hb dX5_turnRound_30 (by decide) ?_
  refine lv_istore_n (lv' := [(2, .int 0), (1, .int (T 5 11)), (0, .ref (t 0))]) hx hb dX5_turnRound_31 rfl hl (by decide) rfl (fun ls hl => ?_)
  rw [sf_over, turn_c] at hP hD
  have hP : va_P D vwCl (gw k g sp sq G ++ (tw k t (sf (sf T 5 (xturn 12 (T 5))) 2 (mAtL (xturn 12 (T 5)) (T 2) 0)) ++ R)) H := by rw [show sf (sf T 5 (xturn 12 (T 5))) 2 (mAtL (xturn 12 (T 5)) (T 2) 0) = sf T 5 (xturn 12 (T 5)) from sf_self _ _]; exact hP
  have hD : va_D (va_in (gw k g sp sq G ++ (tw k t T ++ R))) (gw k g sp sq G ++ (tw k t (sf (sf T 5 (xturn 12 (T 5))) 2 (mAtL (xturn 12 (T 5)) (T 2) 0)) ++ R)) := by rw [show sf (sf T 5 (xturn 12 (T 5))) 2 (mAtL (xturn 12 (T 5)) (T 2) 0) = sf T 5 (xturn 12 (T 5)) from sf_self _ _]; exact hD
  refine w_forM (N := 12) (fun _ => True) (fun i => [(0, .ref (t 0)), (2, .int (nI i))]) (fun i => (gw k g sp sq G ++ (tw k t (sf (sf T 5 (xturn 12 (T 5))) 2 (mAtL (xturn 12 (T 5)) (T 2) i)) ++ R))) (fun ls H locs hI hl hP hD hS => ?_) (fun i hi hI ih ls H locs hl hP hD hS => ?_) 0 (Nat.zero_le _) trivial (lv_sub hl [2, 0] rfl) hP hD hS
  · have hl : lv_has ls 3 [(0, .ref (t 0)), (2, .int (nI 12))] := hl
    have hP : va_P D vwCl (gw k g sp sq G ++ (tw k t (sf (sf T 5 (xturn 12 (T 5))) 2 (mAtL (xturn 12 (T 5)) (T 2) 12)) ++ R)) H := hP
    have hD : va_D (va_in (gw k g sp sq G ++ (tw k t T ++ R))) (gw k g sp sq G ++ (tw k t (sf (sf T 5 (xturn 12 (T 5))) 2 (mAtL (xturn 12 (T 5)) (T 2) 12)) ++ R)) := hD
    refine lv_iload_n hx hb dX5_turnRound_32 rfl (lv_at hl 1 rfl) ?_
    refine lv_bipush (v := 12) hx hb dX5_turnRound_33 (by decide) ?_
    refine lv_icmp_ge (tgt := 66) hx hb dX5_turnRound_35 (by decide) (fun c_1 => ?_) (fun c_ => absurd (nI_le (a := 12) (b := 12) (Nat.le_refl 12) (by decide)) c_)
    exact m_vret hx hb hr hlk dX5_turnRound_66 hP hS
  · have hl : lv_has ls 3 [(0, .ref (t 0)), (2, .int (nI i))] := hl
    have hP : va_P D vwCl (gw k g sp sq G ++ (tw k t (sf (sf T 5 (xturn 12 (T 5))) 2 (mAtL (xturn 12 (T 5)) (T 2) i)) ++ R)) H := hP
    have hD : va_D (va_in (gw k g sp sq G ++ (tw k t T ++ R))) (gw k g sp sq G ++ (tw k t (sf (sf T 5 (xturn 12 (T 5))) 2 (mAtL (xturn 12 (T 5)) (T 2) i)) ++ R)) := hD
    refine lv_iload_n hx hb dX5_turnRound_32 rfl (lv_at hl 1 rfl) ?_
    refine lv_bipush (v := 12) hx hb dX5_turnRound_33 (by decide) ?_
    refine lv_icmp_ge (tgt := 66) hx hb dX5_turnRound_35 (by decide) (fun c_ => absurd c_ (nI_ge (b := 12) hi (by decide))) (fun c_2 => ?_)
    refine lv_aload_n hx hb dX5_turnRound_38 rfl (lv_at hl 0 rfl) ?_
    refine va_get (D := D) (ci := 5) (v := .ref (t 5)) (C := RX5) (T := TX5) (N := 9) hx hb hts tu_5 hown hE.1 hP 8 mt_0 rfl 5 (by decide) (hts _ tw_758) (fun _ h9 => h9) rfl dX5_turnRound_39 ?_
    refine lv_iload_n hx hb dX5_turnRound_42 rfl (lv_at hl 1 rfl) ?_
    refine k_iald (j := i) hx hb hE hP 13 mt_5 hi (by decide) dX5_turnRound_43 ?_
    refine lv_iconst (v := (-1)) hx hb dX5_turnRound_44 (by decide) ?_
    refine lv_icmp_eq (tgt := 60) hx hb dX5_turnRound_45 (by decide) (fun c_3 => ?_) (fun c_3 => ?_)
    · refine lv_iinc (v := nI (i + 1)) (lv' := [(2, .int (nI (i + 1))), (0, .ref (t 0))]) hx hb dX5_turnRound_60 hl (k := 1) rfl (iinc1 _) (by decide) rfl (fun ls hl => ?_)
      refine lv_goto (tgt := 32) hx hb dX5_turnRound_63 (by decide) ?_
      have e9 : mAtL (xturn 12 (T 5)) (T 2) (i + 1) = mAtL (xturn 12 (T 5)) (T 2) i := mAtL_s1 c_3
      exact ih ls H locs trivial (lv_sub hl [1, 0] rfl) (by show va_P D vwCl (gw k g sp sq G ++ (tw k t (sf (sf T 5 (xturn 12 (T 5))) 2 (mAtL (xturn 12 (T 5)) (T 2) (i + 1))) ++ R)) H; rw [e9]; exact hP) (by show va_D (va_in (gw k g sp sq G ++ (tw k t T ++ R))) (gw k g sp sq G ++ (tw k t (sf (sf T 5 (xturn 12 (T 5))) 2 (mAtL (xturn 12 (T 5)) (T 2) (i + 1))) ++ R)); rw [e9]; exact hD) hS
    · have c_ok := c_3
      refine lv_aload_n hx hb dX5_turnRound_48 rfl (lv_at hl 0 rfl) ?_
      refine va_get (D := D) (ci := 5) (v := .ref (t 2)) (C := RX5) (T := TX5) (N := 9) hx hb hts tu_5 hown hE.1 hP 8 mt_0 rfl 2 (by decide) (hts _ tw_752) (fun _ h9 => h9) rfl dX5_turnRound_49 ?_
      refine lv_aload_n hx hb dX5_turnRound_52 rfl (lv_at hl 0 rfl) ?_
      refine va_get (D := D) (ci := 5) (v := .ref (t 5)) (C := RX5) (T := TX5) (N := 9) hx hb hts tu_5 hown hE.1 hP 8 mt_0 rfl 5 (by decide) (hts _ tw_758) (fun _ h9 => h9) rfl dX5_turnRound_53 ?_
      refine lv_iload_n hx hb dX5_turnRound_56 rfl (lv_at hl 1 rfl) ?_
      refine k_iald (j := i) hx hb hE hP 13 mt_5 hi (by decide) dX5_turnRound_57 ?_
      refine w_top ((okB_turn hB i hi c_3).1) ?_
      refine lv_iload_n hx hb dX5_turnRound_58 rfl (lv_at hl 1 rfl) ?_
      refine k_iast (j := (ix ((xturn 12 (T 5)) i))) hx hb hE hP hD hS 10 mt_2 (okB_turn hB i hi c_ok).2 (by decide) dX5_turnRound_59 (fun H locs hP hD hS => ?_)
      rw [mtq_2 (T := (sf (sf T 5 (xturn 12 (T 5))) 2 (mAtL (xturn 12 (T 5)) (T 2) i))) (f := upd ((sf (sf T 5 (xturn 12 (T 5))) 2 (mAtL (xturn 12 (T 5)) (T 2) i)) 2) (ix ((xturn 12 (T 5)) i)) (nI i)) (f2 := upd (mAtL (xturn 12 (T 5)) (T 2) i) (ix ((xturn 12 (T 5)) i)) (nI i)) rfl] at hP hD
      rw [sf_over] at hP hD
      refine lv_iinc (v := nI (i + 1)) (lv' := [(2, .int (nI (i + 1))), (0, .ref (t 0))]) hx hb dX5_turnRound_60 hl (k := 1) rfl (iinc1 _) (by decide) rfl (fun ls hl => ?_)
      refine lv_goto (tgt := 32) hx hb dX5_turnRound_63 (by decide) ?_
      have e9 : mAtL (xturn 12 (T 5)) (T 2) (i + 1) = upd (mAtL (xturn 12 (T 5)) (T 2) i) (ix ((xturn 12 (T 5)) i)) (nI i) := mAtL_s2 c_3
      exact ih ls H locs trivial (lv_sub hl [1, 0] rfl) (by show va_P D vwCl (gw k g sp sq G ++ (tw k t (sf (sf T 5 (xturn 12 (T 5))) 2 (mAtL (xturn 12 (T 5)) (T 2) (i + 1))) ++ R)) H; rw [e9]; exact hP) (by show va_D (va_in (gw k g sp sq G ++ (tw k t T ++ R))) (gw k g sp sq G ++ (tw k t (sf (sf T 5 (xturn 12 (T 5))) 2 (mAtL (xturn 12 (T 5)) (T 2) (i + 1))) ++ R)); rw [e9]; exact hD) hS

