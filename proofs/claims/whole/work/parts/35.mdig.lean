set_option maxHeartbeats 4000000 in
set_option maxRecDepth 100000 in
theorem metX6_on (l : Launch) {D : va_G} {k : Nat → ClassId} {ws : va_W} (d : Int64) (x : Int32) : PM l yX6_on cX6_on 3 (some FieldType.long) rmX6_on D k ws [.long d, .int x] (some (.long (mOn d x))) := by
  refine PM_of rfl (Nat.le_of_ble_eq_true rfl) ?_
  intro p e s m below meth c hC hr hlk hin hE hP ls hl
  have hC : CallFix p m c cX6_on 3 s _ lw_all RX6 := hC
  have hx := hC.1
  have hb := hC.2.1
  have hown : s.vm.findClass RX6 = some m.cls := hC.2.2.2.1
  have hts := hC.2.2.2.2
  have hl : lv_has ls 3 [(0, .long d), (2, .int x)] := hl
  refine lv_lload_n hx hb dX6_on_0 rfl (lv_at hl 0 rfl) ?_
  refine lv_ldc2 (v := 31) hx hb hown (hts _ tw_1120) dX6_on_1 ?_
  refine lv_lmul hx hb dX6_on_4 ?_
  refine lv_iload_n hx hb dX6_on_5 rfl (lv_at hl 1 rfl) ?_
  refine lv_i2l hx hb dX6_on_6 rfl ?_
  refine lv_ladd hx hb dX6_on_7 ?_
  exact p_lret hx hb hr hlk dX6_on_8 (rfl)

set_option maxHeartbeats 4000000 in
set_option maxRecDepth 100000 in
theorem metX6_one (l : Launch) {D : va_G} {k : Nat → ClassId} {ws : va_W} (v : Int32) : PM l yX6_one cX6_one 1 (some FieldType.int) rmX6_one D k ws [.int v] (some (.int (bI (¬ v = 0)))) := by
  refine PM_of rfl (Nat.le_of_ble_eq_true rfl) ?_
  intro p e s m below meth c hC hr hlk hin hE hP ls hl
  have hC : CallFix p m c cX6_one 1 s _ lw_all RX6 := hC
  have hx := hC.1
  have hb := hC.2.1
  have hown : s.vm.findClass RX6 = some m.cls := hC.2.2.2.1
  have hts := hC.2.2.2.2
  have hl : lv_has ls 1 [(0, .int v)] := hl
  refine lv_iload_n hx hb dX6_one_0 rfl (lv_at hl 0 rfl) ?_
  refine lv_if_eq (tgt := 8) hx hb dX6_one_1 (by decide) (fun c_1 => ?_) (fun c_1 => ?_)
  · refine lv_iconst (v := 0) hx hb dX6_one_8 (by decide) ?_
    exact p_iret hx hb hr hlk dX6_one_9 (by rw [bI_f (show ¬ (¬ (v = 0)) from (fun h_ => h_ c_1))]; first | done | rfl)
  · refine lv_iconst (v := 1) hx hb dX6_one_4 (by decide) ?_
    refine lv_goto (tgt := 9) hx hb dX6_one_5 (by decide) ?_
    exact p_iret hx hb hr hlk dX6_one_9 (by rw [bI_t (show (¬ (v = 0)) from c_1)]; first | done | rfl)

set_option maxHeartbeats 4000000 in
set_option maxRecDepth 100000 in
theorem metX6_digest (l : Launch) {D : va_G} {k : Nat → ClassId} {g t : Nat → Nat} {sq : Nat} {R : va_W} (G T : HS) (n : Nat) (hn : G 0 3 = nI n) (hn40 : n ≤ 40) (nf : Nat) (hnf : G 0 1 = nI nf) (hnf6 : nf ≤ 6) (hF : okF G) : MM l yX6_digest cX6_digest 4 (some FieldType.long) rmX6_digest D k (gw k g (t 0) sq G ++ (tw k t T ++ R)) [.ref (g 0)] (some (.long (mDig (thr G 0) T n nf))) (gw k g (t 0) sq (thr G 0) ++ (tw k t T ++ R)) := by
  refine MM_of rfl (Nat.le_of_ble_eq_true rfl) ?_
  intro p e s m below meth c hC hr hlk hin hE hP hD hS ls hl
  have hC : CallFix p m c cX6_digest 4 s _ lw_all RX6 := hC
  have hx := hC.1
  have hb := hC.2.1
  have hown : s.vm.findClass RX6 = some m.cls := hC.2.2.2.1
  have hts := hC.2.2.2.2
  have hl : lv_has ls 4 [(0, .ref (g 0))] := hl
  refine lv_aload_n hx hb dX6_digest_0 rfl (lv_at hl 0 rfl) ?_
  refine lv_iconst (v := 0) hx hb dX6_digest_1 (by decide) ?_
  refine va_put (D := D) (ci := 6) (v := .int 0) (ty := .int) (C := RX6) (T := TX6) (N := 13) hx hb hts tu_6 tyX6 tyX6_ok nmX6 hown hE.1 hP hD hS 0 gw_0 rfl 0 (by decide) (hts _ tw_785) (fun _ h9 => h9) rfl (by decide +kernel) rfl rfl (Nat.le_of_ble_eq_true rfl) dX6_digest_2 (fun H locs hP hD hS => ?_)
  rw [gwp_t (G := G) (v := 0)] at hP hD
  refine lv_ldc2 (v := 1867) hx hb hown (hts _ tw_1116) dX6_digest_5 ?_
  refine lv_aload_n hx hb dX6_digest_8 rfl (lv_at hl 0 rfl) ?_
  refine va_get (D := D) (ci := 6) (v := .ref (t 0)) (C := RX6) (T := TX6) (N := 13) hx hb hts tu_6 hown hE.1 hP 0 gw_0 rfl 11 (by decide) (hts _ tw_796) (fun _ h9 => h9) rfl dX6_digest_9 ?_
  refine va_getN (D := D) (ci := 5) (v := .int (T 0 0)) (C := RX5) (T := TX5) (N := 9) hx hb hts tu_5 hown hE.1 hP 8 mt_0 rfl 0 (by decide) (va_Nw.use rfl hE.2.1) (fun _ h9 => h9) rfl dX6_digest_12 ?_
  refine c_pSl (rest := []) hC hE hP (metX6_on l 1867 (T 0 0)) gc_RX6_187 hd_X6_on ⟨rfl, rfl⟩ ⟨Nat.le_of_ble_eq_true rfl, Nat.le_of_ble_eq_true rfl⟩ rfl hl.1 (Nat.le_of_ble_eq_true rfl) ⟨Nat.le_of_ble_eq_true rfl, Nat.le_of_ble_eq_true rfl⟩ dX6_digest_15 ?_
  refine lv_aload_n hx hb dX6_digest_18 rfl (lv_at hl 0 rfl) ?_
  refine va_get (D := D) (ci := 6) (v := .int (G 0 1)) (C := RX6) (T := TX6) (N := 13) hx hb hts tu_6 hown hE.1 hP 0 gw_0 rfl 1 (by decide) (hts _ tw_786) (fun _ h9 => h9) rfl dX6_digest_19 ?_
  refine c_pSl (rest := []) hC hE hP (metX6_on l (mOn 1867 (T 0 0)) (G 0 1)) gc_RX6_187 hd_X6_on ⟨rfl, rfl⟩ ⟨Nat.le_of_ble_eq_true rfl, Nat.le_of_ble_eq_true rfl⟩ rfl hl.1 (Nat.le_of_ble_eq_true rfl) ⟨Nat.le_of_ble_eq_true rfl, Nat.le_of_ble_eq_true rfl⟩ dX6_digest_22 ?_
  refine lv_aload_n hx hb dX6_digest_25 rfl (lv_at hl 0 rfl) ?_
  refine va_get (D := D) (ci := 6) (v := .int (G 0 3)) (C := RX6) (T := TX6) (N := 13) hx hb hts tu_6 hown hE.1 hP 0 gw_0 rfl 6 (by decide) (hts _ tw_791) (fun _ h9 => h9) rfl dX6_digest_26 ?_
  refine c_pSl (rest := []) hC hE hP (metX6_on l (mOn (mOn 1867 (T 0 0)) (G 0 1)) (G 0 3)) gc_RX6_187 hd_X6_on ⟨rfl, rfl⟩ ⟨Nat.le_of_ble_eq_true rfl, Nat.le_of_ble_eq_true rfl⟩ rfl hl.1 (Nat.le_of_ble_eq_true rfl) ⟨Nat.le_of_ble_eq_true rfl, Nat.le_of_ble_eq_true rfl⟩ dX6_digest_29 ?_
  refine lv_aload_n hx hb dX6_digest_32 rfl (lv_at hl 0 rfl) ?_
  refine va_get (D := D) (ci := 6) (v := .ref (t 0)) (C := RX6) (T := TX6) (N := 13) hx hb hts tu_6 hown hE.1 hP 0 gw_0 rfl 11 (by decide) (hts _ tw_796) (fun _ h9 => h9) rfl dX6_digest_33 ?_
  refine va_getN (D := D) (ci := 5) (v := .int (T 0 1)) (C := RX5) (T := TX5) (N := 9) hx hb hts tu_5 hown hE.1 hP 8 mt_0 rfl 7 (by decide) (va_Nw.use rfl hE.2.2.2.2.2.2.2.1) (fun _ h9 => h9) rfl dX6_digest_36 ?_
  refine c_pSl (rest := []) hC hE hP (metX6_on l (mOn (mOn (mOn 1867 (T 0 0)) (G 0 1)) (G 0 3)) (T 0 1)) gc_RX6_187 hd_X6_on ⟨rfl, rfl⟩ ⟨Nat.le_of_ble_eq_true rfl, Nat.le_of_ble_eq_true rfl⟩ rfl hl.1 (Nat.le_of_ble_eq_true rfl) ⟨Nat.le_of_ble_eq_true rfl, Nat.le_of_ble_eq_true rfl⟩ dX6_digest_39 ?_
  refine lv_lstore_n (lv' := [(1, .long (mOn (mOn (mOn (mOn 1867 (T 0 0)) (G 0 1)) (G 0 3)) (T 0 1))), (0, .ref (g 0))]) hx hb dX6_digest_42 rfl hl (by decide) rfl (fun ls hl => ?_)
  refine lv_lload_n hx hb dX6_digest_43 rfl (lv_at hl 0 rfl) ?_
  refine lv_aload_n hx hb dX6_digest_44 rfl (lv_at hl 1 rfl) ?_
  refine lv_iconst (v := 1) hx hb dX6_digest_45 (by decide) ?_
  refine c_pVi (rest := [.long (mOn (mOn (mOn (mOn 1867 (T 0 0)) (G 0 1)) (G 0 3)) (T 0 1))]) hC hE hP (metX6_counted l (thr G 0) T 1 n hn hn40) gc_RX6_165 hd_X6_counted ⟨rfl, rfl⟩ ⟨Nat.le_of_ble_eq_true rfl, Nat.le_of_ble_eq_true rfl⟩ 0 gw_0 rfl rfl hl.1 (Nat.le_of_ble_eq_true rfl) ⟨Nat.le_of_ble_eq_true rfl, Nat.le_of_ble_eq_true rfl⟩ dX6_digest_46 ?_
  refine c_pSl (rest := []) hC hE hP (metX6_on l (mOn (mOn (mOn (mOn 1867 (T 0 0)) (G 0 1)) (G 0 3)) (T 0 1)) (nI (mCnt T 1 n))) gc_RX6_187 hd_X6_on ⟨rfl, rfl⟩ ⟨Nat.le_of_ble_eq_true rfl, Nat.le_of_ble_eq_true rfl⟩ rfl hl.1 (Nat.le_of_ble_eq_true rfl) ⟨Nat.le_of_ble_eq_true rfl, Nat.le_of_ble_eq_true rfl⟩ dX6_digest_49 ?_
  refine lv_aload_n hx hb dX6_digest_52 rfl (lv_at hl 1 rfl) ?_
  refine lv_iconst (v := 3) hx hb dX6_digest_53 (by decide) ?_
  refine c_pVi (rest := [.long (mOn (mOn (mOn (mOn (mOn 1867 (T 0 0)) (G 0 1)) (G 0 3)) (T 0 1)) (nI (mCnt T 1 n)))]) hC hE hP (metX6_counted l (thr G 0) T 3 n hn hn40) gc_RX6_165 hd_X6_counted ⟨rfl, rfl⟩ ⟨Nat.le_of_ble_eq_true rfl, Nat.le_of_ble_eq_true rfl⟩ 0 gw_0 rfl rfl hl.1 (Nat.le_of_ble_eq_true rfl) ⟨Nat.le_of_ble_eq_true rfl, Nat.le_of_ble_eq_true rfl⟩ dX6_digest_54 ?_
  refine c_pSl (rest := []) hC hE hP (metX6_on l (mOn (mOn (mOn (mOn (mOn 1867 (T 0 0)) (G 0 1)) (G 0 3)) (T 0 1)) (nI (mCnt T 1 n))) (nI (mCnt T 3 n))) gc_RX6_187 hd_X6_on ⟨rfl, rfl⟩ ⟨Nat.le_of_ble_eq_true rfl, Nat.le_of_ble_eq_true rfl⟩ rfl hl.1 (Nat.le_of_ble_eq_true rfl) ⟨Nat.le_of_ble_eq_true rfl, Nat.le_of_ble_eq_true rfl⟩ dX6_digest_57 ?_
  refine lv_aload_n hx hb dX6_digest_60 rfl (lv_at hl 1 rfl) ?_
  refine lv_iconst (v := 1) hx hb dX6_digest_61 (by decide) ?_
  refine c_pVi (rest := [.long (mOn (mOn (mOn (mOn (mOn (mOn 1867 (T 0 0)) (G 0 1)) (G 0 3)) (T 0 1)) (nI (mCnt T 1 n))) (nI (mCnt T 3 n)))]) hC hE hP (metX6_files l (thr G 0) T 1 n hn hn40) gc_RX6_168 hd_X6_files ⟨rfl, rfl⟩ ⟨Nat.le_of_ble_eq_true rfl, Nat.le_of_ble_eq_true rfl⟩ 0 gw_0 rfl rfl hl.1 (Nat.le_of_ble_eq_true rfl) ⟨Nat.le_of_ble_eq_true rfl, Nat.le_of_ble_eq_true rfl⟩ dX6_digest_62 ?_
  refine c_pSl (rest := []) hC hE hP (metX6_on l (mOn (mOn (mOn (mOn (mOn (mOn 1867 (T 0 0)) (G 0 1)) (G 0 3)) (T 0 1)) (nI (mCnt T 1 n))) (nI (mCnt T 3 n))) (nI (mFil (thr G 0) 1 n))) gc_RX6_187 hd_X6_on ⟨rfl, rfl⟩ ⟨Nat.le_of_ble_eq_true rfl, Nat.le_of_ble_eq_true rfl⟩ rfl hl.1 (Nat.le_of_ble_eq_true rfl) ⟨Nat.le_of_ble_eq_true rfl, Nat.le_of_ble_eq_true rfl⟩ dX6_digest_65 ?_
  refine lv_aload_n hx hb dX6_digest_68 rfl (lv_at hl 1 rfl) ?_
  refine lv_iconst (v := 2) hx hb dX6_digest_69 (by decide) ?_
  refine c_pVi (rest := [.long (mOn (mOn (mOn (mOn (mOn (mOn (mOn 1867 (T 0 0)) (G 0 1)) (G 0 3)) (T 0 1)) (nI (mCnt T 1 n))) (nI (mCnt T 3 n))) (nI (mFil (thr G 0) 1 n)))]) hC hE hP (metX6_files l (thr G 0) T 2 n hn hn40) gc_RX6_168 hd_X6_files ⟨rfl, rfl⟩ ⟨Nat.le_of_ble_eq_true rfl, Nat.le_of_ble_eq_true rfl⟩ 0 gw_0 rfl rfl hl.1 (Nat.le_of_ble_eq_true rfl) ⟨Nat.le_of_ble_eq_true rfl, Nat.le_of_ble_eq_true rfl⟩ dX6_digest_70 ?_
  refine c_pSl (rest := []) hC hE hP (metX6_on l (mOn (mOn (mOn (mOn (mOn (mOn (mOn 1867 (T 0 0)) (G 0 1)) (G 0 3)) (T 0 1)) (nI (mCnt T 1 n))) (nI (mCnt T 3 n))) (nI (mFil (thr G 0) 1 n))) (nI (mFil (thr G 0) 2 n))) gc_RX6_187 hd_X6_on ⟨rfl, rfl⟩ ⟨Nat.le_of_ble_eq_true rfl, Nat.le_of_ble_eq_true rfl⟩ rfl hl.1 (Nat.le_of_ble_eq_true rfl) ⟨Nat.le_of_ble_eq_true rfl, Nat.le_of_ble_eq_true rfl⟩ dX6_digest_73 ?_
  refine lv_aload_n hx hb dX6_digest_76 rfl (lv_at hl 1 rfl) ?_
  refine va_get (D := D) (ci := 6) (v := .int (G 0 2)) (C := RX6) (T := TX6) (N := 13) hx hb hts tu_6 hown hE.1 hP 0 gw_0 rfl 5 (by decide) (hts _ tw_790) (fun _ h9 => h9) rfl dX6_digest_77 ?_
  refine c_pSl (rest := []) hC hE hP (metX6_on l (mOn (mOn (mOn (mOn (mOn (mOn (mOn (mOn 1867 (T 0 0)) (G 0 1)) (G 0 3)) (T 0 1)) (nI (mCnt T 1 n))) (nI (mCnt T 3 n))) (nI (mFil (thr G 0) 1 n))) (nI (mFil (thr G 0) 2 n))) (G 0 2)) gc_RX6_187 hd_X6_on ⟨rfl, rfl⟩ ⟨Nat.le_of_ble_eq_true rfl, Nat.le_of_ble_eq_true rfl⟩ rfl hl.1 (Nat.le_of_ble_eq_true rfl) ⟨Nat.le_of_ble_eq_true rfl, Nat.le_of_ble_eq_true rfl⟩ dX6_digest_80 ?_
  refine lv_lstore_n (lv' := [(1, .long (mOn (mOn (mOn (mOn (mOn (mOn (mOn (mOn (mOn 1867 (T 0 0)) (G 0 1)) (G 0 3)) (T 0 1)) (nI (mCnt T 1 n))) (nI (mCnt T 3 n))) (nI (mFil (thr G 0) 1 n))) (nI (mFil (thr G 0) 2 n))) (G 0 2))), (0, .ref (g 0))]) hx hb dX6_digest_83 rfl hl (by decide) rfl (fun ls hl => ?_)
  refine lv_iconst (v := 0) hx hb dX6_digest_84 (by decide) ?_
  refine lv_istore_n (lv' := [(3, .int 0), (1, .long (mOn (mOn (mOn (mOn (mOn (mOn (mOn (mOn (mOn 1867 (T 0 0)) (G 0 1)) (G 0 3)) (T 0 1)) (nI (mCnt T 1 n))) (nI (mCnt T 3 n))) (nI (mFil (thr G 0) 1 n))) (nI (mFil (thr G 0) 2 n))) (G 0 2))), (0, .ref (g 0))]) hx hb dX6_digest_85 rfl hl (by decide) rfl (fun ls hl => ?_)
  refine w_forM (N := n) (fun _ => True) (fun i => [(0, .ref (g 0)), (1, .long (mDgBs (thr G 0) T (mDg0 (thr G 0) T n) i)), (3, .int (nI i))]) (fun i => (gw k g (t 0) sq (thr G 0) ++ (tw k t T ++ R))) (fun ls H locs hI hl hP hD hS => ?_) (fun i hi hI ih ls H locs hl hP hD hS => ?_) 0 (Nat.zero_le _) trivial (lv_sub hl [2, 1, 0] rfl) hP hD hS
  · have hl : lv_has ls 4 [(0, .ref (g 0)), (1, .long (mDgBs (thr G 0) T (mDg0 (thr G 0) T n) n)), (3, .int (nI n))] := hl
    have hP : va_P D vwCl (gw k g (t 0) sq (thr G 0) ++ (tw k t T ++ R)) H := hP
    have hD : va_D (va_in (gw k g (t 0) sq G ++ (tw k t T ++ R))) (gw k g (t 0) sq (thr G 0) ++ (tw k t T ++ R)) := hD
    refine lv_iload_n hx hb dX6_digest_86 rfl (lv_at hl 2 rfl) ?_
    refine lv_aload_n hx hb dX6_digest_87 rfl (lv_at hl 0 rfl) ?_
    refine va_get (D := D) (ci := 6) (v := .int ((thr G 0) 0 3)) (C := RX6) (T := TX6) (N := 13) hx hb hts tu_6 hown hE.1 hP 0 gw_0 rfl 6 (by decide) (hts _ tw_791) (fun _ h9 => h9) rfl dX6_digest_88 ?_
    refine w_top ((show (thr G 0) 0 3 = nI n from hn)) ?_
    refine lv_icmp_ge (tgt := 199) hx hb dX6_digest_91 (by decide) (fun c_1 => ?_) (fun c_ => absurd (nI_le (Nat.le_refl n) (by omega)) c_)
    refine lv_iconst (v := 0) hx hb dX6_digest_199 (by decide) ?_
    refine lv_istore_n (lv' := [(3, .int 0), (0, .ref (g 0)), (1, .long (mDgBs (thr G 0) T (mDg0 (thr G 0) T n) n))]) hx hb dX6_digest_200 rfl hl (by decide) rfl (fun ls hl => ?_)
    refine w_forM (N := 4) (fun _ => True) (fun i => [(0, .ref (g 0)), (1, .long (mDgCs (thr G 0) T n (mDgBs (thr G 0) T (mDg0 (thr G 0) T n) n) i)), (3, .int (nI i))]) (fun i => (gw k g (t 0) sq (thr G 0) ++ (tw k t T ++ R))) (fun ls H locs hI hl hP hD hS => ?_) (fun i hi hI ih ls H locs hl hP hD hS => ?_) 0 (Nat.zero_le _) trivial (lv_sub hl [1, 2, 0] rfl) hP hD hS
    · have hl : lv_has ls 4 [(0, .ref (g 0)), (1, .long (mDgCs (thr G 0) T n (mDgBs (thr G 0) T (mDg0 (thr G 0) T n) n) 4)), (3, .int (nI 4))] := hl
      have hP : va_P D vwCl (gw k g (t 0) sq (thr G 0) ++ (tw k t T ++ R)) H := hP
      have hD : va_D (va_in (gw k g (t 0) sq G ++ (tw k t T ++ R))) (gw k g (t 0) sq (thr G 0) ++ (tw k t T ++ R)) := hD
      refine lv_iload_n hx hb dX6_digest_201 rfl (lv_at hl 2 rfl) ?_
      refine lv_iconst (v := 4) hx hb dX6_digest_202 (by decide) ?_
      refine lv_icmp_ge (tgt := 243) hx hb dX6_digest_203 (by decide) (fun c_2 => ?_) (fun c_ => absurd (nI_le (a := 4) (b := 4) (Nat.le_refl 4) (by decide)) c_)
      refine lv_iconst (v := 0) hx hb dX6_digest_243 (by decide) ?_
      refine lv_istore_n (lv' := [(3, .int 0), (0, .ref (g 0)), (1, .long (mDgCs (thr G 0) T n (mDgBs (thr G 0) T (mDg0 (thr G 0) T n) n) 4))]) hx hb dX6_digest_244 rfl hl (by decide) rfl (fun ls hl => ?_)
      refine w_forM (N := nf) (fun _ => True) (fun i => [(0, .ref (g 0)), (1, .long (mDgFs (thr G 0) T n (mDgCs (thr G 0) T n (mDgBs (thr G 0) T (mDg0 (thr G 0) T n) n) 4) i)), (3, .int (nI i))]) (fun i => (gw k g (t 0) sq (thr G 0) ++ (tw k t T ++ R))) (fun ls H locs hI hl hP hD hS => ?_) (fun i hi hI ih ls H locs hl hP hD hS => ?_) 0 (Nat.zero_le _) trivial (lv_sub hl [1, 2, 0] rfl) hP hD hS
      · have hl : lv_has ls 4 [(0, .ref (g 0)), (1, .long (mDgFs (thr G 0) T n (mDgCs (thr G 0) T n (mDgBs (thr G 0) T (mDg0 (thr G 0) T n) n) 4) nf)), (3, .int (nI nf))] := hl
        have hP : va_P D vwCl (gw k g (t 0) sq (thr G 0) ++ (tw k t T ++ R)) H := hP
        have hD : va_D (va_in (gw k g (t 0) sq G ++ (tw k t T ++ R))) (gw k g (t 0) sq (thr G 0) ++ (tw k t T ++ R)) := hD
        refine lv_iload_n hx hb dX6_digest_245 rfl (lv_at hl 2 rfl) ?_
        refine lv_aload_n hx hb dX6_digest_246 rfl (lv_at hl 0 rfl) ?_
        refine va_get (D := D) (ci := 6) (v := .int ((thr G 0) 0 1)) (C := RX6) (T := TX6) (N := 13) hx hb hts tu_6 hown hE.1 hP 0 gw_0 rfl 1 (by decide) (hts _ tw_786) (fun _ h9 => h9) rfl dX6_digest_247 ?_
        refine w_top ((show (thr G 0) 0 1 = nI nf from hnf)) ?_
        refine lv_icmp_ge (tgt := 302) hx hb dX6_digest_250 (by decide) (fun c_3 => ?_) (fun c_ => absurd (nI_le (Nat.le_refl nf) (by omega)) c_)
        refine lv_lload_n hx hb dX6_digest_302 rfl (lv_at hl 1 rfl) ?_
        exact m_lret hx hb hr hlk dX6_digest_303 hP hS (rfl)
      · have hl : lv_has ls 4 [(0, .ref (g 0)), (1, .long (mDgFs (thr G 0) T n (mDgCs (thr G 0) T n (mDgBs (thr G 0) T (mDg0 (thr G 0) T n) n) 4) i)), (3, .int (nI i))] := hl
        have hP : va_P D vwCl (gw k g (t 0) sq (thr G 0) ++ (tw k t T ++ R)) H := hP
        have hD : va_D (va_in (gw k g (t 0) sq G ++ (tw k t T ++ R))) (gw k g (t 0) sq (thr G 0) ++ (tw k t T ++ R)) := hD
        refine lv_iload_n hx hb dX6_digest_245 rfl (lv_at hl 2 rfl) ?_
        refine lv_aload_n hx hb dX6_digest_246 rfl (lv_at hl 0 rfl) ?_
        refine va_get (D := D) (ci := 6) (v := .int ((thr G 0) 0 1)) (C := RX6) (T := TX6) (N := 13) hx hb hts tu_6 hown hE.1 hP 0 gw_0 rfl 1 (by decide) (hts _ tw_786) (fun _ h9 => h9) rfl dX6_digest_247 ?_
        refine w_top ((show (thr G 0) 0 1 = nI nf from hnf)) ?_
        refine lv_icmp_ge (tgt := 302) hx hb dX6_digest_250 (by decide) (fun c_ => absurd c_ (nI_ge hi (by omega))) (fun c_4 => ?_)
        refine lv_lload_n hx hb dX6_digest_253 rfl (lv_at hl 1 rfl) ?_
        refine lv_aload_n hx hb dX6_digest_254 rfl (lv_at hl 0 rfl) ?_
        refine va_get (D := D) (ci := 6) (v := .ref (g 1)) (C := RX6) (T := TX6) (N := 13) hx hb hts tu_6 hown hE.1 hP 0 gw_0 rfl 2 (by decide) (hts _ tw_787) (fun _ h9 => h9) rfl dX6_digest_255 ?_
        refine lv_iload_n hx hb dX6_digest_258 rfl (lv_at hl 2 rfl) ?_
        refine k_iald (j := i) hx hb hE hP 1 gw_1 (by omega) (by decide) dX6_digest_259 ?_
        refine c_pSl (rest := []) hC hE hP (metX6_on l (mDgFs (thr G 0) T n (mDgCs (thr G 0) T n (mDgBs (thr G 0) T (mDg0 (thr G 0) T n) n) 4) i) ((thr G 0) 1 i)) gc_RX6_187 hd_X6_on ⟨rfl, rfl⟩ ⟨Nat.le_of_ble_eq_true rfl, Nat.le_of_ble_eq_true rfl⟩ rfl hl.1 (Nat.le_of_ble_eq_true rfl) ⟨Nat.le_of_ble_eq_true rfl, Nat.le_of_ble_eq_true rfl⟩ dX6_digest_260 ?_
        refine lv_aload_n hx hb dX6_digest_263 rfl (lv_at hl 0 rfl) ?_
        refine va_get (D := D) (ci := 6) (v := .ref (g 2)) (C := RX6) (T := TX6) (N := 13) hx hb hts tu_6 hown hE.1 hP 0 gw_0 rfl 3 (by decide) (hts _ tw_788) (fun _ h9 => h9) rfl dX6_digest_264 ?_
        refine lv_iload_n hx hb dX6_digest_267 rfl (lv_at hl 2 rfl) ?_
        refine k_zald (j := i) hx hb hE hP 2 gw_2 (by omega) (by decide) dX6_digest_268 ?_
        refine c_pSi (rest := [.long (mOn (mDgFs (thr G 0) T n (mDgCs (thr G 0) T n (mDgBs (thr G 0) T (mDg0 (thr G 0) T n) n) 4) i) ((thr G 0) 1 i))]) hC hE hP (metX6_one l ((thr G 0) 2 i)) gc_RX6_191 hd_X6_one ⟨rfl, rfl⟩ ⟨Nat.le_of_ble_eq_true rfl, Nat.le_of_ble_eq_true rfl⟩ rfl hl.1 (Nat.le_of_ble_eq_true rfl) ⟨Nat.le_of_ble_eq_true rfl, Nat.le_of_ble_eq_true rfl⟩ dX6_digest_269 ?_
        refine c_pSl (rest := []) hC hE hP (metX6_on l (mOn (mDgFs (thr G 0) T n (mDgCs (thr G 0) T n (mDgBs (thr G 0) T (mDg0 (thr G 0) T n) n) 4) i) ((thr G 0) 1 i)) (bI (¬ ((thr G 0) 2 i) = 0))) gc_RX6_187 hd_X6_on ⟨rfl, rfl⟩ ⟨Nat.le_of_ble_eq_true rfl, Nat.le_of_ble_eq_true rfl⟩ rfl hl.1 (Nat.le_of_ble_eq_true rfl) ⟨Nat.le_of_ble_eq_true rfl, Nat.le_of_ble_eq_true rfl⟩ dX6_digest_272 ?_
        refine lv_aload_n hx hb dX6_digest_275 rfl (lv_at hl 0 rfl) ?_
        refine lv_aload_n hx hb dX6_digest_276 rfl (lv_at hl 0 rfl) ?_
        refine va_get (D := D) (ci := 6) (v := .ref (t 0)) (C := RX6) (T := TX6) (N := 13) hx hb hts tu_6 hown hE.1 hP 0 gw_0 rfl 11 (by decide) (hts _ tw_796) (fun _ h9 => h9) rfl dX6_digest_277 ?_
        refine lv_iload_n hx hb dX6_digest_280 rfl (lv_at hl 2 rfl) ?_
        refine c_pVi (rest := [.long (mOn (mOn (mDgFs (thr G 0) T n (mDgCs (thr G 0) T n (mDgBs (thr G 0) T (mDg0 (thr G 0) T n) n) 4) i) ((thr G 0) 1 i)) (bI (¬ ((thr G 0) 2 i) = 0)))]) hC hE hP (metX6_readyIn l (thr G 0) T i n hn hn40 (by omega)) gc_RX6_156 hd_X6_readyIn ⟨rfl, rfl⟩ ⟨Nat.le_of_ble_eq_true rfl, Nat.le_of_ble_eq_true rfl⟩ 0 gw_0 rfl rfl hl.1 (Nat.le_of_ble_eq_true rfl) ⟨Nat.le_of_ble_eq_true rfl, Nat.le_of_ble_eq_true rfl⟩ dX6_digest_281 ?_
        refine c_pSl (rest := []) hC hE hP (metX6_on l (mOn (mOn (mDgFs (thr G 0) T n (mDgCs (thr G 0) T n (mDgBs (thr G 0) T (mDg0 (thr G 0) T n) n) 4) i) ((thr G 0) 1 i)) (bI (¬ ((thr G 0) 2 i) = 0))) (nI (mRdyN (thr G 0) T i n))) gc_RX6_187 hd_X6_on ⟨rfl, rfl⟩ ⟨Nat.le_of_ble_eq_true rfl, Nat.le_of_ble_eq_true rfl⟩ rfl hl.1 (Nat.le_of_ble_eq_true rfl) ⟨Nat.le_of_ble_eq_true rfl, Nat.le_of_ble_eq_true rfl⟩ dX6_digest_284 ?_
        refine lv_aload_n hx hb dX6_digest_287 rfl (lv_at hl 0 rfl) ?_
        refine lv_iload_n hx hb dX6_digest_288 rfl (lv_at hl 2 rfl) ?_
        refine c_pVi (rest := [.long (mOn (mOn (mOn (mDgFs (thr G 0) T n (mDgCs (thr G 0) T n (mDgBs (thr G 0) T (mDg0 (thr G 0) T n) n) 4) i) ((thr G 0) 1 i)) (bI (¬ ((thr G 0) 2 i) = 0))) (nI (mRdyN (thr G 0) T i n)))]) hC hE hP (metX6_missing l (thr G 0) T i n hn hn40 (by omega)) gc_RX6_159 hd_X6_missing ⟨rfl, rfl⟩ ⟨Nat.le_of_ble_eq_true rfl, Nat.le_of_ble_eq_true rfl⟩ 0 gw_0 rfl rfl hl.1 (Nat.le_of_ble_eq_true rfl) ⟨Nat.le_of_ble_eq_true rfl, Nat.le_of_ble_eq_true rfl⟩ dX6_digest_289 ?_
        refine c_pSl (rest := []) hC hE hP (metX6_on l (mOn (mOn (mOn (mDgFs (thr G 0) T n (mDgCs (thr G 0) T n (mDgBs (thr G 0) T (mDg0 (thr G 0) T n) n) 4) i) ((thr G 0) 1 i)) (bI (¬ ((thr G 0) 2 i) = 0))) (nI (mRdyN (thr G 0) T i n))) (mMissing (thr G 0) T i n)) gc_RX6_187 hd_X6_on ⟨rfl, rfl⟩ ⟨Nat.le_of_ble_eq_true rfl, Nat.le_of_ble_eq_true rfl⟩ rfl hl.1 (Nat.le_of_ble_eq_true rfl) ⟨Nat.le_of_ble_eq_true rfl, Nat.le_of_ble_eq_true rfl⟩ dX6_digest_292 ?_
        refine lv_lstore_n (lv' := [(1, .long (mOn (mOn (mOn (mOn (mDgFs (thr G 0) T n (mDgCs (thr G 0) T n (mDgBs (thr G 0) T (mDg0 (thr G 0) T n) n) 4) i) ((thr G 0) 1 i)) (bI (¬ ((thr G 0) 2 i) = 0))) (nI (mRdyN (thr G 0) T i n))) (mMissing (thr G 0) T i n))), (0, .ref (g 0)), (3, .int (nI i))]) hx hb dX6_digest_295 rfl hl (by decide) rfl (fun ls hl => ?_)
        refine lv_iinc (v := nI (i + 1)) (lv' := [(3, .int (nI (i + 1))), (1, .long (mOn (mOn (mOn (mOn (mDgFs (thr G 0) T n (mDgCs (thr G 0) T n (mDgBs (thr G 0) T (mDg0 (thr G 0) T n) n) 4) i) ((thr G 0) 1 i)) (bI (¬ ((thr G 0) 2 i) = 0))) (nI (mRdyN (thr G 0) T i n))) (mMissing (thr G 0) T i n))), (0, .ref (g 0))]) hx hb dX6_digest_296 hl (k := 2) rfl (iinc1 _) (by decide) rfl (fun ls hl => ?_)
        refine lv_goto (tgt := 245) hx hb dX6_digest_299 (by decide) ?_
        have e9 : mDgFs (thr G 0) T n (mDgCs (thr G 0) T n (mDgBs (thr G 0) T (mDg0 (thr G 0) T n) n) 4) (i + 1) = mOn (mOn (mOn (mOn (mDgFs (thr G 0) T n (mDgCs (thr G 0) T n (mDgBs (thr G 0) T (mDg0 (thr G 0) T n) n) 4) i) ((thr G 0) 1 i)) (bI (¬ ((thr G 0) 2 i) = 0))) (nI (mRdyN (thr G 0) T i n))) (mMissing (thr G 0) T i n) := rfl
        exact ih ls H locs trivial (by show lv_has ls 4 [(0, .ref (g 0)), (1, .long (mDgFs (thr G 0) T n (mDgCs (thr G 0) T n (mDgBs (thr G 0) T (mDg0 (thr G 0) T n) n) 4) (i + 1))), (3, .int (nI (i + 1)))]; rw [e9]; exact lv_sub hl [2, 1, 0] rfl) (by show va_P D vwCl (gw k g (t 0) sq (thr G 0) ++ (tw k t T ++ R)) H; exact hP) (by show va_D (va_in (gw k g (t 0) sq G ++ (tw k t T ++ R))) (gw k g (t 0) sq (thr G 0) ++ (tw k t T ++ R)); exact hD) hS
    · have hl : lv_has ls 4 [(0, .ref (g 0)), (1, .long (mDgCs (thr G 0) T n (mDgBs (thr G 0) T (mDg0 (thr G 0) T n) n) i)), (3, .int (nI i))] := hl
      have hP : va_P D vwCl (gw k g (t 0) sq (thr G 0) ++ (tw k t T ++ R)) H := hP
      have hD : va_D (va_in (gw k g (t 0) sq G ++ (tw k t T ++ R))) (gw k g (t 0) sq (thr G 0) ++ (tw k t T ++ R)) := hD
      refine lv_iload_n hx hb dX6_digest_201 rfl (lv_at hl 2 rfl) ?_
      refine lv_iconst (v := 4) hx hb dX6_digest_202 (by decide) ?_
      refine lv_icmp_ge (tgt := 243) hx hb dX6_digest_203 (by decide) (fun c_ => absurd c_ (nI_ge (b := 4) hi (by decide))) (fun c_5 => ?_)
      refine lv_lload_n hx hb dX6_digest_206 rfl (lv_at hl 1 rfl) ?_
      refine lv_aload_n hx hb dX6_digest_207 rfl (lv_at hl 0 rfl) ?_
      refine va_get (D := D) (ci := 6) (v := .ref (t 0)) (C := RX6) (T := TX6) (N := 13) hx hb hts tu_6 hown hE.1 hP 0 gw_0 rfl 11 (by decide) (hts _ tw_796) (fun _ h9 => h9) rfl dX6_digest_208 ?_
      refine va_getN (D := D) (ci := 5) (v := .ref (t 7)) (C := RX5) (T := TX5) (N := 9) hx hb hts tu_5 hown hE.1 hP 8 mt_0 rfl 8 (by decide) (va_Nw.use rfl hE.2.2.2.2.2.2.2.2) (fun _ h9 => h9) rfl dX6_digest_211 ?_
      refine lv_iload_n hx hb dX6_digest_214 rfl (lv_at hl 2 rfl) ?_
      refine k_iald (j := i) hx hb hE hP 15 mt_7 hi (by decide) dX6_digest_215 ?_
      refine c_pSl (rest := []) hC hE hP (metX6_on l (mDgCs (thr G 0) T n (mDgBs (thr G 0) T (mDg0 (thr G 0) T n) n) i) (T 7 i)) gc_RX6_187 hd_X6_on ⟨rfl, rfl⟩ ⟨Nat.le_of_ble_eq_true rfl, Nat.le_of_ble_eq_true rfl⟩ rfl hl.1 (Nat.le_of_ble_eq_true rfl) ⟨Nat.le_of_ble_eq_true rfl, Nat.le_of_ble_eq_true rfl⟩ dX6_digest_216 ?_
      refine lv_aload_n hx hb dX6_digest_219 rfl (lv_at hl 0 rfl) ?_
      refine lv_iload_n hx hb dX6_digest_220 rfl (lv_at hl 2 rfl) ?_
      refine c_pVi (rest := [.long (mOn (mDgCs (thr G 0) T n (mDgBs (thr G 0) T (mDg0 (thr G 0) T n) n) i) (T 7 i))]) hC hE hP (metX6_badIn l (thr G 0) T (nI i) n hn hn40 hF) gc_RX6_153 hd_X6_badIn ⟨rfl, rfl⟩ ⟨Nat.le_of_ble_eq_true rfl, Nat.le_of_ble_eq_true rfl⟩ 0 gw_0 rfl rfl hl.1 (Nat.le_of_ble_eq_true rfl) ⟨Nat.le_of_ble_eq_true rfl, Nat.le_of_ble_eq_true rfl⟩ dX6_digest_221 ?_
      refine c_pSl (rest := []) hC hE hP (metX6_on l (mOn (mDgCs (thr G 0) T n (mDgBs (thr G 0) T (mDg0 (thr G 0) T n) n) i) (T 7 i)) (nI (mBad (thr G 0) T (nI i) n))) gc_RX6_187 hd_X6_on ⟨rfl, rfl⟩ ⟨Nat.le_of_ble_eq_true rfl, Nat.le_of_ble_eq_true rfl⟩ rfl hl.1 (Nat.le_of_ble_eq_true rfl) ⟨Nat.le_of_ble_eq_true rfl, Nat.le_of_ble_eq_true rfl⟩ dX6_digest_224 ?_
      refine lv_aload_n hx hb dX6_digest_227 rfl (lv_at hl 0 rfl) ?_
      refine va_get (D := D) (ci := 6) (v := .ref (g 3)) (C := RX6) (T := TX6) (N := 13) hx hb hts tu_6 hown hE.1 hP 0 gw_0 rfl 4 (by decide) (hts _ tw_789) (fun _ h9 => h9) rfl dX6_digest_228 ?_
      refine lv_iload_n hx hb dX6_digest_231 rfl (lv_at hl 2 rfl) ?_
      refine k_iald (j := i) hx hb hE hP 3 gw_3 hi (by decide) dX6_digest_232 ?_
      refine c_pSl (rest := []) hC hE hP (metX6_on l (mOn (mOn (mDgCs (thr G 0) T n (mDgBs (thr G 0) T (mDg0 (thr G 0) T n) n) i) (T 7 i)) (nI (mBad (thr G 0) T (nI i) n))) ((thr G 0) 3 i)) gc_RX6_187 hd_X6_on ⟨rfl, rfl⟩ ⟨Nat.le_of_ble_eq_true rfl, Nat.le_of_ble_eq_true rfl⟩ rfl hl.1 (Nat.le_of_ble_eq_true rfl) ⟨Nat.le_of_ble_eq_true rfl, Nat.le_of_ble_eq_true rfl⟩ dX6_digest_233 ?_
      refine lv_lstore_n (lv' := [(1, .long (mOn (mOn (mOn (mDgCs (thr G 0) T n (mDgBs (thr G 0) T (mDg0 (thr G 0) T n) n) i) (T 7 i)) (nI (mBad (thr G 0) T (nI i) n))) ((thr G 0) 3 i))), (0, .ref (g 0)), (3, .int (nI i))]) hx hb dX6_digest_236 rfl hl (by decide) rfl (fun ls hl => ?_)
      refine lv_iinc (v := nI (i + 1)) (lv' := [(3, .int (nI (i + 1))), (1, .long (mOn (mOn (mOn (mDgCs (thr G 0) T n (mDgBs (thr G 0) T (mDg0 (thr G 0) T n) n) i) (T 7 i)) (nI (mBad (thr G 0) T (nI i) n))) ((thr G 0) 3 i))), (0, .ref (g 0))]) hx hb dX6_digest_237 hl (k := 2) rfl (iinc1 _) (by decide) rfl (fun ls hl => ?_)
      refine lv_goto (tgt := 201) hx hb dX6_digest_240 (by decide) ?_
      have e9 : mDgCs (thr G 0) T n (mDgBs (thr G 0) T (mDg0 (thr G 0) T n) n) (i + 1) = mOn (mOn (mOn (mDgCs (thr G 0) T n (mDgBs (thr G 0) T (mDg0 (thr G 0) T n) n) i) (T 7 i)) (nI (mBad (thr G 0) T (nI i) n))) ((thr G 0) 3 i) := rfl
      exact ih ls H locs trivial (by show lv_has ls 4 [(0, .ref (g 0)), (1, .long (mDgCs (thr G 0) T n (mDgBs (thr G 0) T (mDg0 (thr G 0) T n) n) (i + 1))), (3, .int (nI (i + 1)))]; rw [e9]; exact lv_sub hl [2, 1, 0] rfl) (by show va_P D vwCl (gw k g (t 0) sq (thr G 0) ++ (tw k t T ++ R)) H; exact hP) (by show va_D (va_in (gw k g (t 0) sq G ++ (tw k t T ++ R))) (gw k g (t 0) sq (thr G 0) ++ (tw k t T ++ R)); exact hD) hS
  · have hl : lv_has ls 4 [(0, .ref (g 0)), (1, .long (mDgBs (thr G 0) T (mDg0 (thr G 0) T n) i)), (3, .int (nI i))] := hl
    have hP : va_P D vwCl (gw k g (t 0) sq (thr G 0) ++ (tw k t T ++ R)) H := hP
    have hD : va_D (va_in (gw k g (t 0) sq G ++ (tw k t T ++ R))) (gw k g (t 0) sq (thr G 0) ++ (tw k t T ++ R)) := hD
    refine lv_iload_n hx hb dX6_digest_86 rfl (lv_at hl 2 rfl) ?_
    refine lv_aload_n hx hb dX6_digest_87 rfl (lv_at hl 0 rfl) ?_
    refine va_get (D := D) (ci := 6) (v := .int ((thr G 0) 0 3)) (C := RX6) (T := TX6) (N := 13) hx hb hts tu_6 hown hE.1 hP 0 gw_0 rfl 6 (by decide) (hts _ tw_791) (fun _ h9 => h9) rfl dX6_digest_88 ?_
    refine w_top ((show (thr G 0) 0 3 = nI n from hn)) ?_
    refine lv_icmp_ge (tgt := 199) hx hb dX6_digest_91 (by decide) (fun c_ => absurd c_ (nI_ge hi (by omega))) (fun c_6 => ?_)
    refine lv_lload_n hx hb dX6_digest_94 rfl (lv_at hl 1 rfl) ?_
    refine lv_aload_n hx hb dX6_digest_95 rfl (lv_at hl 0 rfl) ?_
    refine va_get (D := D) (ci := 6) (v := .ref (g 4)) (C := RX6) (T := TX6) (N := 13) hx hb hts tu_6 hown hE.1 hP 0 gw_0 rfl 7 (by decide) (hts _ tw_792) (fun _ h9 => h9) rfl dX6_digest_96 ?_
    refine lv_iload_n hx hb dX6_digest_99 rfl (lv_at hl 2 rfl) ?_
    refine k_iald (j := i) hx hb hE hP 4 gw_4 (by omega) (by decide) dX6_digest_100 ?_
    refine c_pSl (rest := []) hC hE hP (metX6_on l (mDgBs (thr G 0) T (mDg0 (thr G 0) T n) i) ((thr G 0) 4 i)) gc_RX6_187 hd_X6_on ⟨rfl, rfl⟩ ⟨Nat.le_of_ble_eq_true rfl, Nat.le_of_ble_eq_true rfl⟩ rfl hl.1 (Nat.le_of_ble_eq_true rfl) ⟨Nat.le_of_ble_eq_true rfl, Nat.le_of_ble_eq_true rfl⟩ dX6_digest_101 ?_
    refine lv_aload_n hx hb dX6_digest_104 rfl (lv_at hl 0 rfl) ?_
    refine va_get (D := D) (ci := 6) (v := .ref (t 0)) (C := RX6) (T := TX6) (N := 13) hx hb hts tu_6 hown hE.1 hP 0 gw_0 rfl 11 (by decide) (hts _ tw_796) (fun _ h9 => h9) rfl dX6_digest_105 ?_
    refine va_getN (D := D) (ci := 5) (v := .ref (t 1)) (C := RX5) (T := TX5) (N := 9) hx hb hts tu_5 hown hE.1 hP 8 mt_0 rfl 1 (by decide) (va_Nw.use rfl hE.2.2.1) (fun _ h9 => h9) rfl dX6_digest_108 ?_
    refine lv_iload_n hx hb dX6_digest_111 rfl (lv_at hl 2 rfl) ?_
    refine k_iald (j := i) hx hb hE hP 9 mt_1 (by omega) (by decide) dX6_digest_112 ?_
    refine c_pSl (rest := []) hC hE hP (metX6_on l (mOn (mDgBs (thr G 0) T (mDg0 (thr G 0) T n) i) ((thr G 0) 4 i)) (T 1 i)) gc_RX6_187 hd_X6_on ⟨rfl, rfl⟩ ⟨Nat.le_of_ble_eq_true rfl, Nat.le_of_ble_eq_true rfl⟩ rfl hl.1 (Nat.le_of_ble_eq_true rfl) ⟨Nat.le_of_ble_eq_true rfl, Nat.le_of_ble_eq_true rfl⟩ dX6_digest_113 ?_
    refine lv_aload_n hx hb dX6_digest_116 rfl (lv_at hl 0 rfl) ?_
    refine lv_iload_n hx hb dX6_digest_117 rfl (lv_at hl 2 rfl) ?_
    refine lv_iconst (v := 1) hx hb dX6_digest_118 (by decide) ?_
    refine c_pVi (rest := [.long (mOn (mOn (mDgBs (thr G 0) T (mDg0 (thr G 0) T n) i) ((thr G 0) 4 i)) (T 1 i))]) hC hE hP (metX6_placed l (thr G 0) T i 1 (by omega)) gc_RX6_146 hd_X6_placed ⟨rfl, rfl⟩ ⟨Nat.le_of_ble_eq_true rfl, Nat.le_of_ble_eq_true rfl⟩ 0 gw_0 rfl rfl hl.1 (Nat.le_of_ble_eq_true rfl) ⟨Nat.le_of_ble_eq_true rfl, Nat.le_of_ble_eq_true rfl⟩ dX6_digest_119 ?_
    refine c_pSl (rest := []) hC hE hP (metX6_on l (mOn (mOn (mDgBs (thr G 0) T (mDg0 (thr G 0) T n) i) ((thr G 0) 4 i)) (T 1 i)) (mPl T i 1)) gc_RX6_187 hd_X6_on ⟨rfl, rfl⟩ ⟨Nat.le_of_ble_eq_true rfl, Nat.le_of_ble_eq_true rfl⟩ rfl hl.1 (Nat.le_of_ble_eq_true rfl) ⟨Nat.le_of_ble_eq_true rfl, Nat.le_of_ble_eq_true rfl⟩ dX6_digest_122 ?_
    refine lv_aload_n hx hb dX6_digest_125 rfl (lv_at hl 0 rfl) ?_
    refine lv_iload_n hx hb dX6_digest_126 rfl (lv_at hl 2 rfl) ?_
    refine lv_iconst (v := 2) hx hb dX6_digest_127 (by decide) ?_
    refine c_pVi (rest := [.long (mOn (mOn (mOn (mDgBs (thr G 0) T (mDg0 (thr G 0) T n) i) ((thr G 0) 4 i)) (T 1 i)) (mPl T i 1))]) hC hE hP (metX6_placed l (thr G 0) T i 2 (by omega)) gc_RX6_146 hd_X6_placed ⟨rfl, rfl⟩ ⟨Nat.le_of_ble_eq_true rfl, Nat.le_of_ble_eq_true rfl⟩ 0 gw_0 rfl rfl hl.1 (Nat.le_of_ble_eq_true rfl) ⟨Nat.le_of_ble_eq_true rfl, Nat.le_of_ble_eq_true rfl⟩ dX6_digest_128 ?_
    refine c_pSl (rest := []) hC hE hP (metX6_on l (mOn (mOn (mOn (mDgBs (thr G 0) T (mDg0 (thr G 0) T n) i) ((thr G 0) 4 i)) (T 1 i)) (mPl T i 1)) (mPl T i 2)) gc_RX6_187 hd_X6_on ⟨rfl, rfl⟩ ⟨Nat.le_of_ble_eq_true rfl, Nat.le_of_ble_eq_true rfl⟩ rfl hl.1 (Nat.le_of_ble_eq_true rfl) ⟨Nat.le_of_ble_eq_true rfl, Nat.le_of_ble_eq_true rfl⟩ dX6_digest_131 ?_
    refine lv_lstore_n (lv' := [(1, .long (mOn (mOn (mOn (mOn (mDgBs (thr G 0) T (mDg0 (thr G 0) T n) i) ((thr G 0) 4 i)) (T 1 i)) (mPl T i 1)) (mPl T i 2))), (0, .ref (g 0)), (3, .int (nI i))]) hx hb dX6_digest_134 rfl hl (by decide) rfl (fun ls hl => ?_)
    refine lv_lload_n hx hb dX6_digest_135 rfl (lv_at hl 0 rfl) ?_
    refine lv_aload_n hx hb dX6_digest_136 rfl (lv_at hl 1 rfl) ?_
    refine va_get (D := D) (ci := 6) (v := .ref (t 0)) (C := RX6) (T := TX6) (N := 13) hx hb hts tu_6 hown hE.1 hP 0 gw_0 rfl 11 (by decide) (hts _ tw_796) (fun _ h9 => h9) rfl dX6_digest_137 ?_
    refine va_getN (D := D) (ci := 5) (v := .ref (t 3)) (C := RX5) (T := TX5) (N := 9) hx hb hts tu_5 hown hE.1 hP 8 mt_0 rfl 3 (by decide) (va_Nw.use rfl hE.2.2.2.2.1) (fun _ h9 => h9) rfl dX6_digest_140 ?_
    refine lv_iload_n hx hb dX6_digest_143 rfl (lv_at hl 2 rfl) ?_
    refine k_iald (j := i) hx hb hE hP 11 mt_3 (by omega) (by decide) dX6_digest_144 ?_
    refine c_pSl (rest := []) hC hE hP (metX6_on l (mOn (mOn (mOn (mOn (mDgBs (thr G 0) T (mDg0 (thr G 0) T n) i) ((thr G 0) 4 i)) (T 1 i)) (mPl T i 1)) (mPl T i 2)) (T 3 i)) gc_RX6_187 hd_X6_on ⟨rfl, rfl⟩ ⟨Nat.le_of_ble_eq_true rfl, Nat.le_of_ble_eq_true rfl⟩ rfl hl.1 (Nat.le_of_ble_eq_true rfl) ⟨Nat.le_of_ble_eq_true rfl, Nat.le_of_ble_eq_true rfl⟩ dX6_digest_145 ?_
    refine lv_aload_n hx hb dX6_digest_148 rfl (lv_at hl 1 rfl) ?_
    refine va_get (D := D) (ci := 6) (v := .ref (t 0)) (C := RX6) (T := TX6) (N := 13) hx hb hts tu_6 hown hE.1 hP 0 gw_0 rfl 11 (by decide) (hts _ tw_796) (fun _ h9 => h9) rfl dX6_digest_149 ?_
    refine va_getN (D := D) (ci := 5) (v := .ref (t 4)) (C := RX5) (T := TX5) (N := 9) hx hb hts tu_5 hown hE.1 hP 8 mt_0 rfl 4 (by decide) (va_Nw.use rfl hE.2.2.2.2.2.1) (fun _ h9 => h9) rfl dX6_digest_152 ?_
    refine lv_iload_n hx hb dX6_digest_155 rfl (lv_at hl 2 rfl) ?_
    refine k_iald (j := i) hx hb hE hP 12 mt_4 (by omega) (by decide) dX6_digest_156 ?_
    refine c_pSl (rest := []) hC hE hP (metX6_on l (mOn (mOn (mOn (mOn (mOn (mDgBs (thr G 0) T (mDg0 (thr G 0) T n) i) ((thr G 0) 4 i)) (T 1 i)) (mPl T i 1)) (mPl T i 2)) (T 3 i)) (T 4 i)) gc_RX6_187 hd_X6_on ⟨rfl, rfl⟩ ⟨Nat.le_of_ble_eq_true rfl, Nat.le_of_ble_eq_true rfl⟩ rfl hl.1 (Nat.le_of_ble_eq_true rfl) ⟨Nat.le_of_ble_eq_true rfl, Nat.le_of_ble_eq_true rfl⟩ dX6_digest_157 ?_
    refine lv_aload_n hx hb dX6_digest_160 rfl (lv_at hl 1 rfl) ?_
    refine lv_iload_n hx hb dX6_digest_161 rfl (lv_at hl 2 rfl) ?_
    refine c_pVi (rest := [.long (mOn (mOn (mOn (mOn (mOn (mOn (mDgBs (thr G 0) T (mDg0 (thr G 0) T n) i) ((thr G 0) 4 i)) (T 1 i)) (mPl T i 1)) (mPl T i 2)) (T 3 i)) (T 4 i))]) hC hE hP (metX6_misrouted l (thr G 0) T i (by omega) hF) gc_RX6_137 hd_X6_misrouted ⟨rfl, rfl⟩ ⟨Nat.le_of_ble_eq_true rfl, Nat.le_of_ble_eq_true rfl⟩ 0 gw_0 rfl rfl hl.1 (Nat.le_of_ble_eq_true rfl) ⟨Nat.le_of_ble_eq_true rfl, Nat.le_of_ble_eq_true rfl⟩ dX6_digest_162 ?_
    refine c_pSi (rest := [.long (mOn (mOn (mOn (mOn (mOn (mOn (mDgBs (thr G 0) T (mDg0 (thr G 0) T n) i) ((thr G 0) 4 i)) (T 1 i)) (mPl T i 1)) (mPl T i 2)) (T 3 i)) (T 4 i))]) hC hE hP (metX6_one l (bI (mMis (thr G 0) T i))) gc_RX6_191 hd_X6_one ⟨rfl, rfl⟩ ⟨Nat.le_of_ble_eq_true rfl, Nat.le_of_ble_eq_true rfl⟩ rfl hl.1 (Nat.le_of_ble_eq_true rfl) ⟨Nat.le_of_ble_eq_true rfl, Nat.le_of_ble_eq_true rfl⟩ dX6_digest_165 ?_
    refine w_top (bI_bI _) ?_
    refine c_pSl (rest := []) hC hE hP (metX6_on l (mOn (mOn (mOn (mOn (mOn (mOn (mDgBs (thr G 0) T (mDg0 (thr G 0) T n) i) ((thr G 0) 4 i)) (T 1 i)) (mPl T i 1)) (mPl T i 2)) (T 3 i)) (T 4 i)) (bI (mMis (thr G 0) T i))) gc_RX6_187 hd_X6_on ⟨rfl, rfl⟩ ⟨Nat.le_of_ble_eq_true rfl, Nat.le_of_ble_eq_true rfl⟩ rfl hl.1 (Nat.le_of_ble_eq_true rfl) ⟨Nat.le_of_ble_eq_true rfl, Nat.le_of_ble_eq_true rfl⟩ dX6_digest_168 ?_
    refine lv_aload_n hx hb dX6_digest_171 rfl (lv_at hl 1 rfl) ?_
    refine va_get (D := D) (ci := 6) (v := .ref (g 7)) (C := RX6) (T := TX6) (N := 13) hx hb hts tu_6 hown hE.1 hP 0 gw_0 rfl 10 (by decide) (hts _ tw_795) (fun _ h9 => h9) rfl dX6_digest_172 ?_
    refine lv_iload_n hx hb dX6_digest_175 rfl (lv_at hl 2 rfl) ?_
    refine k_iald (j := i) hx hb hE hP 7 gw_7 (by omega) (by decide) dX6_digest_176 ?_
    refine lv_iconst (v := 1) hx hb dX6_digest_177 (by decide) ?_
    refine lv_icmp_ne (tgt := 185) hx hb dX6_digest_178 (by decide) (fun c_7 => ?_) (fun c_7 => ?_)
    · refine lv_iconst (v := 0) hx hb dX6_digest_185 (by decide) ?_
      refine c_pSi (rest := [.long (mOn (mOn (mOn (mOn (mOn (mOn (mOn (mDgBs (thr G 0) T (mDg0 (thr G 0) T n) i) ((thr G 0) 4 i)) (T 1 i)) (mPl T i 1)) (mPl T i 2)) (T 3 i)) (T 4 i)) (bI (mMis (thr G 0) T i)))]) hC hE hP (metX6_one l 0) gc_RX6_191 hd_X6_one ⟨rfl, rfl⟩ ⟨Nat.le_of_ble_eq_true rfl, Nat.le_of_ble_eq_true rfl⟩ rfl hl.1 (Nat.le_of_ble_eq_true rfl) ⟨Nat.le_of_ble_eq_true rfl, Nat.le_of_ble_eq_true rfl⟩ dX6_digest_186 ?_
      refine w_top (bI_f (by decide)) ?_
      refine c_pSl (rest := []) hC hE hP (metX6_on l (mOn (mOn (mOn (mOn (mOn (mOn (mOn (mDgBs (thr G 0) T (mDg0 (thr G 0) T n) i) ((thr G 0) 4 i)) (T 1 i)) (mPl T i 1)) (mPl T i 2)) (T 3 i)) (T 4 i)) (bI (mMis (thr G 0) T i))) 0) gc_RX6_187 hd_X6_on ⟨rfl, rfl⟩ ⟨Nat.le_of_ble_eq_true rfl, Nat.le_of_ble_eq_true rfl⟩ rfl hl.1 (Nat.le_of_ble_eq_true rfl) ⟨Nat.le_of_ble_eq_true rfl, Nat.le_of_ble_eq_true rfl⟩ dX6_digest_189 ?_
      refine lv_lstore_n (lv' := [(1, .long (mOn (mOn (mOn (mOn (mOn (mOn (mOn (mOn (mDgBs (thr G 0) T (mDg0 (thr G 0) T n) i) ((thr G 0) 4 i)) (T 1 i)) (mPl T i 1)) (mPl T i 2)) (T 3 i)) (T 4 i)) (bI (mMis (thr G 0) T i))) 0)), (0, .ref (g 0)), (3, .int (nI i))]) hx hb dX6_digest_192 rfl hl (by decide) rfl (fun ls hl => ?_)
      refine lv_iinc (v := nI (i + 1)) (lv' := [(3, .int (nI (i + 1))), (1, .long (mOn (mOn (mOn (mOn (mOn (mOn (mOn (mOn (mDgBs (thr G 0) T (mDg0 (thr G 0) T n) i) ((thr G 0) 4 i)) (T 1 i)) (mPl T i 1)) (mPl T i 2)) (T 3 i)) (T 4 i)) (bI (mMis (thr G 0) T i))) 0)), (0, .ref (g 0))]) hx hb dX6_digest_193 hl (k := 2) rfl (iinc1 _) (by decide) rfl (fun ls hl => ?_)
      refine lv_goto (tgt := 86) hx hb dX6_digest_196 (by decide) ?_
      have e9 : mDgBs (thr G 0) T (mDg0 (thr G 0) T n) (i + 1) = mOn (mOn (mOn (mOn (mOn (mOn (mOn (mOn (mDgBs (thr G 0) T (mDg0 (thr G 0) T n) i) ((thr G 0) 4 i)) (T 1 i)) (mPl T i 1)) (mPl T i 2)) (T 3 i)) (T 4 i)) (bI (mMis (thr G 0) T i))) 0 := (by show mDgB (thr G 0) T i (mDgBs (thr G 0) T (mDg0 (thr G 0) T n) i) = _; rw [mDgB, bI_f (show ¬ (thr G 0) 7 i = 1 from c_7)]; first | done | rfl)
      exact ih ls H locs trivial (by show lv_has ls 4 [(0, .ref (g 0)), (1, .long (mDgBs (thr G 0) T (mDg0 (thr G 0) T n) (i + 1))), (3, .int (nI (i + 1)))]; rw [e9]; exact lv_sub hl [2, 1, 0] rfl) (by show va_P D vwCl (gw k g (t 0) sq (thr G 0) ++ (tw k t T ++ R)) H; exact hP) (by show va_D (va_in (gw k g (t 0) sq G ++ (tw k t T ++ R))) (gw k g (t 0) sq (thr G 0) ++ (tw k t T ++ R)); exact hD) hS
    · refine lv_iconst (v := 1) hx hb dX6_digest_181 (by decide) ?_
      refine lv_goto (tgt := 186) hx hb dX6_digest_182 (by decide) ?_
      refine c_pSi (rest := [.long (mOn (mOn (mOn (mOn (mOn (mOn (mOn (mDgBs (thr G 0) T (mDg0 (thr G 0) T n) i) ((thr G 0) 4 i)) (T 1 i)) (mPl T i 1)) (mPl T i 2)) (T 3 i)) (T 4 i)) (bI (mMis (thr G 0) T i)))]) hC hE hP (metX6_one l 1) gc_RX6_191 hd_X6_one ⟨rfl, rfl⟩ ⟨Nat.le_of_ble_eq_true rfl, Nat.le_of_ble_eq_true rfl⟩ rfl hl.1 (Nat.le_of_ble_eq_true rfl) ⟨Nat.le_of_ble_eq_true rfl, Nat.le_of_ble_eq_true rfl⟩ dX6_digest_186 ?_
      refine w_top (bI_t (by decide)) ?_
      refine c_pSl (rest := []) hC hE hP (metX6_on l (mOn (mOn (mOn (mOn (mOn (mOn (mOn (mDgBs (thr G 0) T (mDg0 (thr G 0) T n) i) ((thr G 0) 4 i)) (T 1 i)) (mPl T i 1)) (mPl T i 2)) (T 3 i)) (T 4 i)) (bI (mMis (thr G 0) T i))) 1) gc_RX6_187 hd_X6_on ⟨rfl, rfl⟩ ⟨Nat.le_of_ble_eq_true rfl, Nat.le_of_ble_eq_true rfl⟩ rfl hl.1 (Nat.le_of_ble_eq_true rfl) ⟨Nat.le_of_ble_eq_true rfl, Nat.le_of_ble_eq_true rfl⟩ dX6_digest_189 ?_
      refine lv_lstore_n (lv' := [(1, .long (mOn (mOn (mOn (mOn (mOn (mOn (mOn (mOn (mDgBs (thr G 0) T (mDg0 (thr G 0) T n) i) ((thr G 0) 4 i)) (T 1 i)) (mPl T i 1)) (mPl T i 2)) (T 3 i)) (T 4 i)) (bI (mMis (thr G 0) T i))) 1)), (0, .ref (g 0)), (3, .int (nI i))]) hx hb dX6_digest_192 rfl hl (by decide) rfl (fun ls hl => ?_)
      refine lv_iinc (v := nI (i + 1)) (lv' := [(3, .int (nI (i + 1))), (1, .long (mOn (mOn (mOn (mOn (mOn (mOn (mOn (mOn (mDgBs (thr G 0) T (mDg0 (thr G 0) T n) i) ((thr G 0) 4 i)) (T 1 i)) (mPl T i 1)) (mPl T i 2)) (T 3 i)) (T 4 i)) (bI (mMis (thr G 0) T i))) 1)), (0, .ref (g 0))]) hx hb dX6_digest_193 hl (k := 2) rfl (iinc1 _) (by decide) rfl (fun ls hl => ?_)
      refine lv_goto (tgt := 86) hx hb dX6_digest_196 (by decide) ?_
      have e9 : mDgBs (thr G 0) T (mDg0 (thr G 0) T n) (i + 1) = mOn (mOn (mOn (mOn (mOn (mOn (mOn (mOn (mDgBs (thr G 0) T (mDg0 (thr G 0) T n) i) ((thr G 0) 4 i)) (T 1 i)) (mPl T i 1)) (mPl T i 2)) (T 3 i)) (T 4 i)) (bI (mMis (thr G 0) T i))) 1 := (by show mDgB (thr G 0) T i (mDgBs (thr G 0) T (mDg0 (thr G 0) T n) i) = _; rw [mDgB, bI_t (show (thr G 0) 7 i = 1 from c_7)]; first | done | rfl)
      exact ih ls H locs trivial (by show lv_has ls 4 [(0, .ref (g 0)), (1, .long (mDgBs (thr G 0) T (mDg0 (thr G 0) T n) (i + 1))), (3, .int (nI (i + 1)))]; rw [e9]; exact lv_sub hl [2, 1, 0] rfl) (by show va_P D vwCl (gw k g (t 0) sq (thr G 0) ++ (tw k t T ++ R)) H; exact hP) (by show va_D (va_in (gw k g (t 0) sq G ++ (tw k t T ++ R))) (gw k g (t 0) sq (thr G 0) ++ (tw k t T ++ R)); exact hD) hS

theorem isNaN_cmp {r : UInt64} (h : isNaN64 r = true) : Op.cmpValue (FP.dcmp r r) CmpOp.l = -1 := by
  have h1 : 0x7ff0000000000000 < (r &&& 0x7fffffffffffffff) := of_decide_eq_true h
  rw [UInt64.lt_iff_toNat_lt, UInt64.toNat_and] at h1
  have e1 : (0x7fffffffffffffff : UInt64).toNat = 2 ^ 63 - 1 := rfl
  have e2 : (0x7ff0000000000000 : UInt64).toNat = 2047 * 2 ^ 52 := rfl
  rw [e1, e2, Nat.and_two_pow_sub_one_eq_mod] at h1
  have hE : FP.Core.fieldE FP.Core.b64 r.toNat = FP.Core.b64.exps - 1 := by
    show r.toNat / 2 ^ 52 % 2 ^ 11 = 2 ^ 11 - 1
    omega
  have hT : ¬ FP.Core.fieldT FP.Core.b64 r.toNat = 0 := by
    show ¬ r.toNat % 2 ^ 52 = 0
    omega
  have hd : FP.Core.decode FP.Core.b64 r.toNat = FP.Core.Datum.nan := by
    unfold FP.Core.decode
    rw [if_pos hE, if_neg hT]
  have hc : FP.dcmp r r = none := by
    show FP.Core.order (FP.Core.decode FP.Core.b64 r.toNat) (FP.Core.decode FP.Core.b64 r.toNat) = none
    rw [hd]
    rfl
  rw [hc]
  rfl
/-- two answers alike to the same number: where the first is not the first, it is no number, and nor is the second -/
theorem alike_two {r q z : UInt64} (h1 : alike64 r z = true) (h2 : alike64 q z = true) (h : ¬ Op.cmpValue (FP.dcmp r q) CmpOp.l = 0) : ¬ Op.cmpValue (FP.dcmp r r) CmpOp.l = 0 ∧ ¬ Op.cmpValue (FP.dcmp q q) CmpOp.l = 0 := by
  have key : r = q ∨ (isNaN64 r = true ∧ isNaN64 q = true) := by
    unfold alike64 at h1 h2
    rw [Bool.or_eq_true, decide_eq_true_iff, Bool.and_eq_true] at h1 h2
    rcases h1 with h1 | h1
    · rcases h2 with h2 | h2
      · exact Or.inl (h1.trans h2.symm)
      · exact Or.inr ⟨by rw [h1]; exact h2.2, h2.1⟩
    · rcases h2 with h2 | h2
      · exact Or.inr ⟨h1.1, by rw [h2]; exact h1.2⟩
      · exact Or.inr ⟨h1.1, h2.1⟩
  rcases key with e | ⟨n1, n2⟩
  · subst e
    exact ⟨h, h⟩
  · rw [isNaN_cmp n1, isNaN_cmp n2]
    exact ⟨by decide, by decide⟩
/-- a method that answers a double alike to z (it may draw which NaN), the world ws' then -/
abbrev DM (l : Launch) (y : MethodName) (cc : ByteArray) (n : Nat) (rm : Room) (D : va_G) (k : Nat → ClassId) (w : va_W) (av : List Value) (z : UInt64) (w' : va_W) : Prop := MetD lw_cs l y (ws_ y cc n (some .double)) rm (va_Pc av (mP D k w)) (va_Qd (fun (r : UInt64) (_ : Unit) => alike64 r z = true) (fun _ t => va_P D vwCl w' t.heap) (va_in w)) 0 0 (va_in w)
theorem DM_of {l : Launch} {y : MethodName} {cc : ByteArray} {n : Nat} {rm : Room} {D : va_G} {k : Nat → ClassId} {w w' : va_W} {av : List Value} {z : UInt64} (hy : plainName y.cls = true) (hlen : (lg_sl av).length ≤ n)
    (body : ∀ (p : Program) (e : Env) (s : State) (m : MethodId) (below : List Frame) (meth : Method) (c : Code), CallFix p m c cc n s av.toArray lw_all y.cls → meth.sig.returnType = some .double → meth.locks = false → meth.name = y.name → eK D k s → va_P D vwCl w s.heap → va_D (va_in w) w → va_S (va_in w) s.heap s.heap [] → ∀ ls, lv_has ls n (lv_args 0 av) →
      W p l e rm s m av.toArray below meth c s.heap [] 0 0 (MQD lw_cs below (va_Qd (fun (r : UInt64) (_ : Unit) => alike64 r z = true) (fun _ t => va_P D vwCl w' t.heap) (va_in w)) av.toArray s 0 0 (va_in w)) (F0 m 0 ls [])) : DM l y cc n rm D k w av z w' := by
  refine MetD.ofW (cc := cc) (maxL := n) (ret := some .double) hy rfl ?_
  intro p e s m args below meth c s₁ B hml hv hd0
  obtain ⟨rfl, hE, hP, hD⟩ := hv
  have hts := atoms_spec (ws := ws_ y cc n (some .double)) B.pre
  rw [lg_entry_eq]
  refine W.base ?_
  exact body p e s m below meth c ⟨B.exec, B.bytes, hml, findClass_of_methodNamed B.named, fun w h => hts w (List.mem_cons_of_mem _ h)⟩ B.returns B.notSynchronized (name_of_methodNamed B.named B.method).1 hE hP (va_in_D hD) va_S.rf _ (lv_entry av hlen)

/-- the mean of the first n; 0 for none -/
noncomputable def mMean (f : Nat → Int32) (n : Nat) : UInt64 := sel (nI n = 0) FP.dconst0 (FP.ddiv (FP.i2d (sm f n)) (FP.i2d (nI n)))
set_option maxHeartbeats 4000000 in
set_option maxRecDepth 100000 in
theorem metX6_meanMisses (l : Launch) {D : va_G} {k : Nat → ClassId} {g t : Nat → Nat} {sq : Nat} {R : va_W} (G T : HS) (n : Nat) (hn : G 0 3 = nI n) (hn40 : n ≤ 40) : DM l yX6_meanMisses cX6_meanMisses 3 rmX6_meanMisses D k (gw k g (t 0) sq G ++ (tw k t T ++ R)) [.ref (g 0)] (mMean (T 4) n) (gw k g (t 0) sq (thr G 0) ++ (tw k t T ++ R)) := by
  refine DM_of rfl (Nat.le_of_ble_eq_true rfl) ?_
  intro p e s m below meth c hC hr hlk hin hE hP hD hS ls hl
  have hC : CallFix p m c cX6_meanMisses 3 s _ lw_all RX6 := hC
  have hx := hC.1
  have hb := hC.2.1
  have hown : s.vm.findClass RX6 = some m.cls := hC.2.2.2.1
  have hts := hC.2.2.2.2
  have hl : lv_has ls 3 [(0, .ref (g 0))] := hl
  refine lv_aload_n hx hb dX6_meanMisses_0 rfl (lv_at hl 0 rfl) ?_
  refine lv_iconst (v := 0) hx hb dX6_meanMisses_1 (by decide) ?_
  refine va_put (D := D) (ci := 6) (v := .int 0) (ty := .int) (C := RX6) (T := TX6) (N := 13) hx hb hts tu_6 tyX6 tyX6_ok nmX6 hown hE.1 hP hD hS 0 gw_0 rfl 0 (by decide) (hts _ tw_785) (fun _ h9 => h9) rfl (by decide +kernel) rfl rfl (Nat.le_of_ble_eq_true rfl) dX6_meanMisses_2 (fun H locs hP hD hS => ?_)
  rw [gwp_t (G := G) (v := 0)] at hP hD
  refine lv_iconst (v := 0) hx hb dX6_meanMisses_5 (by decide) ?_
  refine lv_istore_n (lv' := [(1, .int 0), (0, .ref (g 0))]) hx hb dX6_meanMisses_6 rfl hl (by decide) rfl (fun ls hl => ?_)
  refine lv_iconst (v := 0) hx hb dX6_meanMisses_7 (by decide) ?_
  refine lv_istore_n (lv' := [(2, .int 0), (1, .int 0), (0, .ref (g 0))]) hx hb dX6_meanMisses_8 rfl hl (by decide) rfl (fun ls hl => ?_)
  refine w_forM (N := n) (fun _ => True) (fun i => [(0, .ref (g 0)), (1, .int (sm (T 4) i)), (2, .int (nI i))]) (fun i => (gw k g (t 0) sq (thr G 0) ++ (tw k t T ++ R))) (fun ls H locs hI hl hP hD hS => ?_) (fun i hi hI ih ls H locs hl hP hD hS => ?_) 0 (Nat.zero_le _) trivial (lv_sub hl [2, 1, 0] rfl) hP hD hS
  · have hl : lv_has ls 3 [(0, .ref (g 0)), (1, .int (sm (T 4) n)), (2, .int (nI n))] := hl
    have hP : va_P D vwCl (gw k g (t 0) sq (thr G 0) ++ (tw k t T ++ R)) H := hP
    have hD : va_D (va_in (gw k g (t 0) sq G ++ (tw k t T ++ R))) (gw k g (t 0) sq (thr G 0) ++ (tw k t T ++ R)) := hD
    refine lv_iload_n hx hb dX6_meanMisses_9 rfl (lv_at hl 2 rfl) ?_
    refine lv_aload_n hx hb dX6_meanMisses_10 rfl (lv_at hl 0 rfl) ?_
    refine va_get (D := D) (ci := 6) (v := .int ((thr G 0) 0 3)) (C := RX6) (T := TX6) (N := 13) hx hb hts tu_6 hown hE.1 hP 0 gw_0 rfl 6 (by decide) (hts _ tw_791) (fun _ h9 => h9) rfl dX6_meanMisses_11 ?_
    refine w_top ((show (thr G 0) 0 3 = nI n from hn)) ?_
    refine lv_icmp_ge (tgt := 35) hx hb dX6_meanMisses_14 (by decide) (fun c_1 => ?_) (fun c_ => absurd (nI_le (Nat.le_refl n) (by omega)) c_)
    refine lv_aload_n hx hb dX6_meanMisses_35 rfl (lv_at hl 0 rfl) ?_
    refine va_get (D := D) (ci := 6) (v := .int ((thr G 0) 0 3)) (C := RX6) (T := TX6) (N := 13) hx hb hts tu_6 hown hE.1 hP 0 gw_0 rfl 6 (by decide) (hts _ tw_791) (fun _ h9 => h9) rfl dX6_meanMisses_36 ?_
    refine w_top ((show (thr G 0) 0 3 = nI n from hn)) ?_
    refine lv_if_ne (tgt := 46) hx hb dX6_meanMisses_39 (by decide) (fun c_2 => ?_) (fun c_2 => ?_)
    · refine lv_iload_n hx hb dX6_meanMisses_46 rfl (lv_at hl 1 rfl) ?_
      refine lv_i2d hx hb dX6_meanMisses_47 ?_
      refine lv_aload_n hx hb dX6_meanMisses_48 rfl (lv_at hl 0 rfl) ?_
      refine va_get (D := D) (ci := 6) (v := .int ((thr G 0) 0 3)) (C := RX6) (T := TX6) (N := 13) hx hb hts tu_6 hown hE.1 hP 0 gw_0 rfl 6 (by decide) (hts _ tw_791) (fun _ h9 => h9) rfl dX6_meanMisses_49 ?_
      refine w_top ((show (thr G 0) 0 3 = nI n from hn)) ?_
      refine lv_i2d hx hb dX6_meanMisses_52 ?_
      refine lv_ddiv_any (d0 := s.drawn) (s := s) (cs := lw_cs) (Drawn.sameBut.refl s.drawn lw_cs) lw_bits hx hb dX6_meanMisses_53 (fun r d1 hal hd1 => ?_)
      refine W.endD hd1 ?_
      exact W.dret hx hb hr (fun t9 ht hW => ⟨⟨r, (), rfl, (by rw [mMean, sel_f (show ¬ nI n = 0 from c_2)]; exact hal), by show va_P D vwCl _ t9.heap; rw [ht]; exact hP⟩, hS.F ht⟩) hS.2.2 dX6_meanMisses_54
    · refine lv_dconst0 hx hb dX6_meanMisses_42 ?_
      refine lv_goto (tgt := 54) hx hb dX6_meanMisses_43 (by decide) ?_
      refine W.endD (Drawn.sameBut.refl s.drawn lw_cs) ?_
      exact W.dret hx hb hr (fun t9 ht hW => ⟨⟨FP.dconst0, (), rfl, (by rw [mMean, sel_t (show nI n = 0 from c_2)]; rfl), by show va_P D vwCl _ t9.heap; rw [ht]; exact hP⟩, hS.F ht⟩) hS.2.2 dX6_meanMisses_54
  · have hl : lv_has ls 3 [(0, .ref (g 0)), (1, .int (sm (T 4) i)), (2, .int (nI i))] := hl
    have hP : va_P D vwCl (gw k g (t 0) sq (thr G 0) ++ (tw k t T ++ R)) H := hP
    have hD : va_D (va_in (gw k g (t 0) sq G ++ (tw k t T ++ R))) (gw k g (t 0) sq (thr G 0) ++ (tw k t T ++ R)) := hD
    refine lv_iload_n hx hb dX6_meanMisses_9 rfl (lv_at hl 2 rfl) ?_
    refine lv_aload_n hx hb dX6_meanMisses_10 rfl (lv_at hl 0 rfl) ?_
    refine va_get (D := D) (ci := 6) (v := .int ((thr G 0) 0 3)) (C := RX6) (T := TX6) (N := 13) hx hb hts tu_6 hown hE.1 hP 0 gw_0 rfl 6 (by decide) (hts _ tw_791) (fun _ h9 => h9) rfl dX6_meanMisses_11 ?_
    refine w_top ((show (thr G 0) 0 3 = nI n from hn)) ?_
    refine lv_icmp_ge (tgt := 35) hx hb dX6_meanMisses_14 (by decide) (fun c_ => absurd c_ (nI_ge hi (by omega))) (fun c_3 => ?_)
    refine lv_iload_n hx hb dX6_meanMisses_17 rfl (lv_at hl 1 rfl) ?_
    refine lv_aload_n hx hb dX6_meanMisses_18 rfl (lv_at hl 0 rfl) ?_
    refine va_get (D := D) (ci := 6) (v := .ref (t 0)) (C := RX6) (T := TX6) (N := 13) hx hb hts tu_6 hown hE.1 hP 0 gw_0 rfl 11 (by decide) (hts _ tw_796) (fun _ h9 => h9) rfl dX6_meanMisses_19 ?_
    refine va_getN (D := D) (ci := 5) (v := .ref (t 4)) (C := RX5) (T := TX5) (N := 9) hx hb hts tu_5 hown hE.1 hP 8 mt_0 rfl 4 (by decide) (va_Nw.use rfl hE.2.2.2.2.2.1) (fun _ h9 => h9) rfl dX6_meanMisses_22 ?_
    refine lv_iload_n hx hb dX6_meanMisses_25 rfl (lv_at hl 2 rfl) ?_
    refine k_iald (j := i) hx hb hE hP 12 mt_4 (by omega) (by decide) dX6_meanMisses_26 ?_
    refine lv_iadd hx hb dX6_meanMisses_27 ?_
    refine lv_istore_n (lv' := [(1, .int ((sm (T 4) i) + (T 4 i))), (0, .ref (g 0)), (2, .int (nI i))]) hx hb dX6_meanMisses_28 rfl hl (by decide) rfl (fun ls hl => ?_)
    refine lv_iinc (v := nI (i + 1)) (lv' := [(2, .int (nI (i + 1))), (1, .int ((sm (T 4) i) + (T 4 i))), (0, .ref (g 0))]) hx hb dX6_meanMisses_29 hl (k := 2) rfl (iinc1 _) (by decide) rfl (fun ls hl => ?_)
    refine lv_goto (tgt := 9) hx hb dX6_meanMisses_32 (by decide) ?_
    exact ih ls H locs trivial (lv_sub hl [2, 1, 0] rfl) (by show va_P D vwCl (gw k g (t 0) sq (thr G 0) ++ (tw k t T ++ R)) H; exact hP) (by show va_D (va_in (gw k g (t 0) sq G ++ (tw k t T ++ R))) (gw k g (t 0) sq (thr G 0) ++ (tw k t T ++ R)); exact hD) hS

