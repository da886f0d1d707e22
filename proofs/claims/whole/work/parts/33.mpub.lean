theorem mIn_1 {x : Int32} (h : mIn x 1 60) : x = nI (ix x) ∧ ix x ≤ 60 := by
  obtain ⟨h1, h2⟩ := h
  exact mIn_k (n := 60) (by decide) ⟨fun q => h1 (Int32.lt_of_lt_of_le q (by decide)), h2⟩
theorem hZ_n {x : Int32} (h : x = 0 ∨ x = 1) : narrow .boolean (.int x) = .int x := by
  rcases h with rfl | rfl <;> rfl
theorem mSw_g (G T : HS) (c : Nat) {j : Nat} (hj : j ≠ 7) : ∀ i, (mSw G T c i).2.1 j = G j
  | 0 => rfl
  | i + 1 => by
    show (mSwS c i (mSw G T c i)).2.1 j = G j
    unfold mSwS
    by_cases h : mMis (mSw G T c i).2.1 (mSw G T c i).2.2 i ∧ (mSw G T c i).2.2 2 i = nI c
    · rw [sel_t h]
      show mClose _ _ j = G j
      unfold mClose
      by_cases h2 : (mSw G T c i).2.1 7 i = 1
      · rw [sel_t h2]
        exact (if_neg hj).trans (mSw_g G T c hj i)
      · rw [sel_f h2]
        exact mSw_g G T c hj i
    · rw [sel_f h]
      exact mSw_g G T c hj i
theorem mLv_g (G T : HS) (f : Nat) {j : Nat} (hj : j ≠ 7) : ∀ i, (mLv G T f i).2.1 j = G j
  | 0 => rfl
  | i + 1 => by
    show (mLvS f i (mLv G T f i)).2.1 j = G j
    unfold mLvS
    by_cases h : (mLv G T f i).2.1 4 i = nI f
    · rw [sel_t h]
      by_cases h2 : mOwn (mLv G T f i).2.1 (mLv G T f i).2.2 i
      · rw [sel_t h2]
        exact mLv_g G T f hj i
      · rw [sel_f h2]
        exact (if_neg hj).trans (mLv_g G T f hj i)
    · rw [sel_f h]
      exact mLv_g G T f hj i
theorem mLv_t (G T : HS) (f : Nat) : ∀ i b, i ≤ b → (mLv G T f i).2.2 1 b = T 1 b ∧ (mLv G T f i).2.2 2 b = T 2 b
  | 0, _, _ => ⟨rfl, rfl⟩
  | i + 1, b, hb => by
    show (mLvS f i (mLv G T f i)).2.2 1 b = T 1 b ∧ (mLvS f i (mLv G T f i)).2.2 2 b = T 2 b
    have ih := mLv_t G T f i b (by omega)
    unfold mLvS
    by_cases h : (mLv G T f i).2.1 4 i = nI f
    · rw [sel_t h]
      by_cases h2 : mOwn (mLv G T f i).2.1 (mLv G T f i).2.2 i
      · rw [sel_t h2]
        exact ⟨(if_neg (show ¬ b = i by omega)).trans ih.1, (if_neg (show ¬ b = i by omega)).trans ih.2⟩
      · rw [sel_f h2]
        exact ih
    · rw [sel_f h]
      exact ih
theorem okF_c {G G2 : HS} (h : okF G) (e : G2 4 = G 4) : okF G2 := by
  unfold okF
  rw [e]
  exact h
noncomputable def qaddFlight_r (G T : HS)  (n nf : Nat) : Int32 := (sel (G 0 1 = 6) 0 (G 0 1 + 1 - 1))
noncomputable def qaddFlight_g (G T : HS)  (n nf : Nat) : HS := (sel (G 0 1 = 6) (thr (thr G 0) 1) (sf (thr G 0) 0 (upd ((thr G 0) 0) 1 (G 0 1 + 1))))
noncomputable def qgiveChute_r (G T : HS) (f : Int32) (ch : Int32) (n nf : Nat) : Int32 := (sel (mIn f 0 (nI nf - 1)) (sel (mIn ch 0 3) (sel (G 2 (ix f) = 0) (nI (mGiveN G T (ix f) (nI (ix ch)) n)) 0) 0) 0)
noncomputable def qgiveChute_g (G T : HS) (f : Int32) (ch : Int32) (n nf : Nat) : HS := (sel (mIn f 0 (nI nf - 1)) (sel (mIn ch 0 3) (sel (G 2 (ix f) = 0) (sf (thr G 0) 1 (upd (G 1) (ix f) (nI (ix ch)))) (thr (thr G 0) 2)) (thr (thr G 0) 1)) (thr (thr G 0) 1))
noncomputable def qsetReader_r (G T : HS) (z : Int32) (n nf : Nat) : Int32 := (sel (mIn z 0 9) (G 0 2) 0)
noncomputable def qsetReader_g (G T : HS) (z : Int32) (n nf : Nat) : HS := (sel (mIn z 0 9) (sf (thr G 0) 0 (upd ((thr G 0) 0) 2 z)) (thr (thr G 0) 1))
noncomputable def qsetRoom_r (G T : HS) (ch : Int32) (z : Int32) (n nf : Nat) : Int32 := (sel (mIn ch 0 3) (sel (mIn z 1 20) (G 3 (ix ch)) 0) 0)
noncomputable def qsetRoom_g (G T : HS) (ch : Int32) (z : Int32) (n nf : Nat) : HS := (sel (mIn ch 0 3) (sel (mIn z 1 20) (sf (thr G 0) 3 (upd (G 3) (ix ch) z)) (thr (thr G 0) 2)) (thr (thr G 0) 1))
noncomputable def qcheckIn_r (G T : HS) (f : Int32) (z : Int32) (v : Int32) (n nf : Nat) : Int32 := (sel (mIn f 0 (nI nf - 1)) (sel (mIn z 1 9) (sel (mIn v 0 9) (sel (nI n = 40) 0 (sel (G 2 (ix f) = 0) (nI n) 0)) 0) 0) 0)
noncomputable def qcheckIn_g (G T : HS) (f : Int32) (z : Int32) (v : Int32) (n nf : Nat) : HS := (sel (mIn f 0 (nI nf - 1)) (sel (mIn z 1 9) (sel (mIn v 0 9) (sel (nI n = 40) (thr (thr G 0) 3) (sel (G 2 (ix f) = 0) (sf (sf (sf (sf (sf (thr G 0) 4 (upd (G 4) n (nI (ix f)))) 5 (upd (G 5) n z)) 6 (upd (G 6) n v)) 7 (upd (G 7) n 0)) 0 (upd ((sf (sf (sf (sf (thr G 0) 4 (upd (G 4) n (nI (ix f)))) 5 (upd (G 5) n z)) 6 (upd (G 6) n v)) 7 (upd (G 7) n 0)) 0) 3 (G 0 3 + 1))) (thr (thr G 0) 3))) (thr (thr G 0) 2)) (thr (thr G 0) 2)) (thr (thr G 0) 1))
noncomputable def qcheckIn_t (G T : HS) (f : Int32) (z : Int32) (v : Int32) (n nf : Nat) : HS := (sel (mIn f 0 (nI nf - 1)) (sel (mIn z 1 9) (sel (mIn v 0 9) (sel (nI n = 40) T (sel (G 2 (ix f) = 0) (mBegin (sf (sf (sf (sf (thr G 0) 4 (upd (G 4) n (nI (ix f)))) 5 (upd (G 5) n z)) 6 (upd (G 6) n v)) 7 (upd (G 7) n 0)) T n) T)) T) T) T)
noncomputable def qcarry_r (G T : HS) (b : Int32) (n nf : Nat) : Int32 := (sel (mIn b 0 (nI n - 1)) (sel (mAside T (ix b)) (sel (G 2 (ix (G 4 (ix b))) = 0) (sel (G 1 (ix (G 4 (ix b))) = (-1)) 0 (sel (T 7 (ix (G 1 (ix (G 4 (ix b))))) < G 3 (ix (G 1 (ix (G 4 (ix b)))))) (nI (ix (G 1 (ix (G 4 (ix b)))))) 0)) 0) 0) 0)
noncomputable def qcarry_g (G T : HS) (b : Int32) (n nf : Nat) : HS := (sel (mIn b 0 (nI n - 1)) (sel (mAside T (ix b)) (sel (G 2 (ix (G 4 (ix b))) = 0) (sel (G 1 (ix (G 4 (ix b))) = (-1)) (thr (thr G 0) 2) (sel (T 7 (ix (G 1 (ix (G 4 (ix b))))) < G 3 (ix (G 1 (ix (G 4 (ix b)))))) (thr G 0) (thr (thr G 0) 2))) (thr (thr G 0) 2)) (thr (thr G 0) 2)) (thr (thr G 0) 1))
noncomputable def qcarry_t (G T : HS) (b : Int32) (n nf : Nat) : HS := (sel (mIn b 0 (nI n - 1)) (sel (mAside T (ix b)) (sel (G 2 (ix (G 4 (ix b))) = 0) (sel (G 1 (ix (G 4 (ix b))) = (-1)) T (sel (T 7 (ix (G 1 (ix (G 4 (ix b))))) < G 3 (ix (G 1 (ix (G 4 (ix b)))))) (mToCh T (ix b) (ix (G 1 (ix (G 4 (ix b)))))) T)) T) T) T)
noncomputable def qforward_r (G T : HS) (b : Int32) (f : Int32) (n nf : Nat) : Int32 := (sel (mIn b 0 (nI n - 1)) (sel (mIn f 0 (nI nf - 1)) (sel (mAside T (ix b)) (sel (¬ (G 2 (ix (G 4 (ix b))) = 0)) (sel (G 2 (ix f) = 0) (mBegin (sf (thr G 0) 4 (upd (G 4) (ix b) (nI (ix f)))) T (ix b) 0 1) 0) 0) 0) 0) 0)
noncomputable def qforward_g (G T : HS) (b : Int32) (f : Int32) (n nf : Nat) : HS := (sel (mIn b 0 (nI n - 1)) (sel (mIn f 0 (nI nf - 1)) (sel (mAside T (ix b)) (sel (¬ (G 2 (ix (G 4 (ix b))) = 0)) (sel (G 2 (ix f) = 0) (mClose (sf (thr G 0) 4 (upd (G 4) (ix b) (nI (ix f)))) (ix b)) (thr (thr G 0) 2)) (thr (thr G 0) 2)) (thr (thr G 0) 2)) (thr (thr G 0) 1)) (thr (thr G 0) 1))
noncomputable def qforward_t (G T : HS) (b : Int32) (f : Int32) (n nf : Nat) : HS := (sel (mIn b 0 (nI n - 1)) (sel (mIn f 0 (nI nf - 1)) (sel (mAside T (ix b)) (sel (¬ (G 2 (ix (G 4 (ix b))) = 0)) (sel (G 2 (ix f) = 0) (mBegin (sf (thr G 0) 4 (upd (G 4) (ix b) (nI (ix f)))) T (ix b)) T) T) T) T) T)
noncomputable def qsweep_r (G T : HS) (ch : Int32) (n nf : Nat) : Int32 := (sel (mIn ch 0 3) (nI (mSw (thr G 0) T (ix ch) n).1) 0)
noncomputable def qsweep_g (G T : HS) (ch : Int32) (n nf : Nat) : HS := (sel (mIn ch 0 3) (mSw (thr G 0) T (ix ch) n).2.1 (thr (thr G 0) 1))
noncomputable def qsweep_t (G T : HS) (ch : Int32) (n nf : Nat) : HS := (sel (mIn ch 0 3) (mSw (thr G 0) T (ix ch) n).2.2 T)
noncomputable def qdepart_r (G T : HS) (f : Int32) (n nf : Nat) : Int32 := (sel (mIn f 0 (nI nf - 1)) (sel (G 2 (ix f) = 0) (nI (mLv (thr G 0) T (ix f) n).1) 0) 0)
noncomputable def qdepart_g (G T : HS) (f : Int32) (n nf : Nat) : HS := (sel (mIn f 0 (nI nf - 1)) (sel (G 2 (ix f) = 0) (sf (mLv (thr G 0) T (ix f) n).2.1 2 (upd ((mLv (thr G 0) T (ix f) n).2.1 2) (ix f) 1)) (thr (thr G 0) 2)) (thr (thr G 0) 1))
noncomputable def qdepart_t (G T : HS) (f : Int32) (n nf : Nat) : HS := (sel (mIn f 0 (nI nf - 1)) (sel (G 2 (ix f) = 0) (mLv (thr G 0) T (ix f) n).2.2 T) T)
noncomputable def qpass_r (G T : HS) (z : Int32) (n nf : Nat) : Int32 := (sel (mIn z 1 60) (mGo (thr G 0) T (ix z)).1 0)
noncomputable def qpass_g (G T : HS) (z : Int32) (n nf : Nat) : HS := (sel (mIn z 1 60) (thr G 0) (thr (thr G 0) 1))
noncomputable def qpass_t (G T : HS) (z : Int32) (n nf : Nat) : HS := (sel (mIn z 1 60) (mGo (thr G 0) T (ix z)).2 T)
noncomputable def qflightOf_r (G T : HS) (b : Int32) (n nf : Nat) : Int32 := (sel (mIn b 0 (nI n - 1)) (G 4 (ix b)) 0)
noncomputable def qflightOf_g (G T : HS) (b : Int32) (n nf : Nat) : HS := (sel (mIn b 0 (nI n - 1)) (thr G 0) (thr (thr G 0) 1))
noncomputable def qwhereIs_r (G T : HS) (b : Int32) (n nf : Nat) : Int32 := (sel (mIn b 0 (nI n - 1)) (T 1 (ix b)) 0)
noncomputable def qwhereIs_g (G T : HS) (b : Int32) (n nf : Nat) : HS := (sel (mIn b 0 (nI n - 1)) (thr G 0) (thr (thr G 0) 1))
noncomputable def qplaceOf_r (G T : HS) (b : Int32) (n nf : Nat) : Int32 := (sel (mIn b 0 (nI n - 1)) (mPl T (ix b) 1) 0)
noncomputable def qplaceOf_g (G T : HS) (b : Int32) (n nf : Nat) : HS := (sel (mIn b 0 (nI n - 1)) (thr G 0) (thr (thr G 0) 1))
noncomputable def qchuteOf_r (G T : HS) (b : Int32) (n nf : Nat) : Int32 := (sel (mIn b 0 (nI n - 1)) (mPl T (ix b) 2) 0)
noncomputable def qchuteOf_g (G T : HS) (b : Int32) (n nf : Nat) : HS := (sel (mIn b 0 (nI n - 1)) (thr G 0) (thr (thr G 0) 1))
noncomputable def qreadFor_r (G T : HS) (b : Int32) (n nf : Nat) : Int32 := (sel (mIn b 0 (nI n - 1)) (T 3 (ix b)) 0)
noncomputable def qreadFor_g (G T : HS) (b : Int32) (n nf : Nat) : HS := (sel (mIn b 0 (nI n - 1)) (thr G 0) (thr (thr G 0) 1))
noncomputable def qmissesOf_r (G T : HS) (b : Int32) (n nf : Nat) : Int32 := (sel (mIn b 0 (nI n - 1)) (T 4 (ix b)) 0)
noncomputable def qmissesOf_g (G T : HS) (b : Int32) (n nf : Nat) : HS := (sel (mIn b 0 (nI n - 1)) (thr G 0) (thr (thr G 0) 1))
noncomputable def qisMisrouted_r (G T : HS) (b : Int32) (n nf : Nat) : Int32 := (sel (mIn b 0 (nI n - 1)) (bI (mMis (thr G 0) T (ix b))) 0)
noncomputable def qisMisrouted_g (G T : HS) (b : Int32) (n nf : Nat) : HS := (sel (mIn b 0 (nI n - 1)) (thr G 0) (thr (thr G 0) 1))
noncomputable def qhasOpenFile_r (G T : HS) (b : Int32) (n nf : Nat) : Int32 := (sel (mIn b 0 (nI n - 1)) (bI (G 7 (ix b) = 1)) 0)
noncomputable def qhasOpenFile_g (G T : HS) (b : Int32) (n nf : Nat) : HS := (sel (mIn b 0 (nI n - 1)) (thr G 0) (thr (thr G 0) 1))
noncomputable def qbagAt_r (G T : HS) (q : Int32) (n nf : Nat) : Int32 := (sel (mIn q 0 11) (T 5 (ix q)) 0)
noncomputable def qbagAt_g (G T : HS) (q : Int32) (n nf : Nat) : HS := (sel (mIn q 0 11) (thr G 0) (thr (thr G 0) 1))
noncomputable def qbagsIn_r (G T : HS) (ch : Int32) (n nf : Nat) : Int32 := (sel (mIn ch 0 3) (T 7 (ix ch)) 0)
noncomputable def qbagsIn_g (G T : HS) (ch : Int32) (n nf : Nat) : HS := (sel (mIn ch 0 3) (thr G 0) (thr (thr G 0) 1))
noncomputable def qmisroutedIn_r (G T : HS) (ch : Int32) (n nf : Nat) : Int32 := (sel (mIn ch 0 3) (nI (mBad (thr G 0) T (nI (ix ch)) n)) 0)
noncomputable def qmisroutedIn_g (G T : HS) (ch : Int32) (n nf : Nat) : HS := (sel (mIn ch 0 3) (thr G 0) (thr (thr G 0) 1))
noncomputable def qroomOf_r (G T : HS) (ch : Int32) (n nf : Nat) : Int32 := (sel (mIn ch 0 3) (G 3 (ix ch)) 0)
noncomputable def qroomOf_g (G T : HS) (ch : Int32) (n nf : Nat) : HS := (sel (mIn ch 0 3) (thr G 0) (thr (thr G 0) 1))
noncomputable def qchuteOfFlight_r (G T : HS) (f : Int32) (n nf : Nat) : Int32 := (sel (mIn f 0 (nI nf - 1)) (G 1 (ix f)) 0)
noncomputable def qchuteOfFlight_g (G T : HS) (f : Int32) (n nf : Nat) : HS := (sel (mIn f 0 (nI nf - 1)) (thr G 0) (thr (thr G 0) 1))
noncomputable def qisGone_r (G T : HS) (f : Int32) (n nf : Nat) : Int32 := (sel (mIn f 0 (nI nf - 1)) (G 2 (ix f)) 0)
noncomputable def qisGone_g (G T : HS) (f : Int32) (n nf : Nat) : HS := (sel (mIn f 0 (nI nf - 1)) (thr G 0) (thr (thr G 0) 1))
noncomputable def qreadyOf_r (G T : HS) (f : Int32) (n nf : Nat) : Int32 := (sel (mIn f 0 (nI nf - 1)) (nI (mRdyN (thr G 0) T (ix f) n)) 0)
noncomputable def qreadyOf_g (G T : HS) (f : Int32) (n nf : Nat) : HS := (sel (mIn f 0 (nI nf - 1)) (thr G 0) (thr (thr G 0) 1))
noncomputable def qmissingOf_r (G T : HS) (f : Int32) (n nf : Nat) : Int32 := (sel (mIn f 0 (nI nf - 1)) (mMissing (thr G 0) T (ix f) n) 0)
noncomputable def qmissingOf_g (G T : HS) (f : Int32) (n nf : Nat) : HS := (sel (mIn f 0 (nI nf - 1)) (thr G 0) (thr (thr G 0) 1))
noncomputable def qminute_r (G T : HS)  (n nf : Nat) : Int32 := (T 0 0)
noncomputable def qminute_g (G T : HS)  (n nf : Nat) : HS := (thr G 0)
noncomputable def qflights_r (G T : HS)  (n nf : Nat) : Int32 := (G 0 1)
noncomputable def qflights_g (G T : HS)  (n nf : Nat) : HS := (thr G 0)
noncomputable def qbags_r (G T : HS)  (n nf : Nat) : Int32 := (G 0 3)
noncomputable def qbags_g (G T : HS)  (n nf : Nat) : HS := (thr G 0)
noncomputable def qinLine_r (G T : HS)  (n nf : Nat) : Int32 := (T 0 1)
noncomputable def qinLine_g (G T : HS)  (n nf : Nat) : HS := (thr G 0)
noncomputable def qreader_r (G T : HS)  (n nf : Nat) : Int32 := (G 0 2)
noncomputable def qreader_g (G T : HS)  (n nf : Nat) : HS := (thr G 0)
noncomputable def qonBelt_r (G T : HS)  (n nf : Nat) : Int32 := (nI (mCnt T 1 n))
noncomputable def qonBelt_g (G T : HS)  (n nf : Nat) : HS := (thr G 0)
noncomputable def qatDesk_r (G T : HS)  (n nf : Nat) : Int32 := (nI (mCnt T 3 n))
noncomputable def qatDesk_g (G T : HS)  (n nf : Nat) : HS := (thr G 0)
noncomputable def qopenFiles_r (G T : HS)  (n nf : Nat) : Int32 := (nI (mFil G 1 n))
noncomputable def qopenFiles_g (G T : HS)  (n nf : Nat) : HS := (thr G 0)
noncomputable def qclosedFiles_r (G T : HS)  (n nf : Nat) : Int32 := (nI (mFil G 2 n))
noncomputable def qclosedFiles_g (G T : HS)  (n nf : Nat) : HS := (thr G 0)
set_option maxHeartbeats 4000000 in
set_option maxRecDepth 100000 in
theorem metX6_addFlight (l : Launch) {D : va_G} {k : Nat → ClassId} {g t : Nat → Nat} {sq : Nat} {R : va_W} (G T : HS) (n : Nat) (hn : G 0 3 = nI n) (hn40 : n ≤ 40) (nf : Nat) (hnf : G 0 1 = nI nf) (hnf6 : nf ≤ 6) (hF : okF G) (hZ : ∀ f_, f_ < 6 → G 2 f_ = 0 ∨ G 2 f_ = 1) : MM l yX6_addFlight cX6_addFlight 1 (some FieldType.int) rmX6_addFlight D k (gw k g (t 0) sq G ++ (tw k t T ++ R)) [.ref (g 0)] (some (.int (qaddFlight_r G T  n nf))) (gw k g (t 0) sq (qaddFlight_g G T  n nf) ++ (tw k t T ++ R)) := by
  refine MM_of rfl (Nat.le_of_ble_eq_true rfl) ?_
  intro p e s m below meth c hC hr hlk hin hE hP hD hS ls hl
  have hC : CallFix p m c cX6_addFlight 1 s _ lw_all RX6 := hC
  have hx := hC.1
  have hb := hC.2.1
  have hown : s.vm.findClass RX6 = some m.cls := hC.2.2.2.1
  have hts := hC.2.2.2.2
  have hl : lv_has ls 1 [(0, .ref (g 0))] := hl
  refine lv_aload_n hx hb dX6_addFlight_0 rfl (lv_at hl 0 rfl) ?_
  refine lv_iconst (v := 0) hx hb dX6_addFlight_1 (by decide) ?_
  refine va_put (D := D) (ci := 6) (v := .int 0) (ty := .int) (C := RX6) (T := TX6) (N := 13) hx hb hts tu_6 tyX6 tyX6_ok nmX6 hown hE.1 hP hD hS 0 gw_0 rfl 0 (by decide) (hts _ tw_785) (fun _ h9 => h9) rfl (by decide +kernel) rfl rfl (Nat.le_of_ble_eq_true rfl) dX6_addFlight_2 (fun H locs hP hD hS => ?_)
  rw [gwp_t (G := G) (v := 0)] at hP hD
  refine lv_aload_n hx hb dX6_addFlight_5 rfl (lv_at hl 0 rfl) ?_
  refine va_get (D := D) (ci := 6) (v := .int (G 0 1)) (C := RX6) (T := TX6) (N := 13) hx hb hts tu_6 hown hE.1 hP 0 gw_0 rfl 1 (by decide) (hts _ tw_786) (fun _ h9 => h9) rfl dX6_addFlight_6 ?_
  refine lv_bipush (v := 6) hx hb dX6_addFlight_9 (by decide) ?_
  refine lv_icmp_ne (tgt := 20) hx hb dX6_addFlight_11 (by decide) (fun c_1 => ?_) (fun c_1 => ?_)
  · refine lv_aload_n hx hb dX6_addFlight_20 rfl (lv_at hl 0 rfl) ?_
    refine lv_dup hx hb dX6_addFlight_21 rfl ?_
    refine va_get (D := D) (ci := 6) (v := .int (G 0 1)) (C := RX6) (T := TX6) (N := 13) hx hb hts tu_6 hown hE.1 hP 0 gw_0 rfl 1 (by decide) (hts _ tw_786) (fun _ h9 => h9) rfl dX6_addFlight_22 ?_
    refine lv_iconst (v := 1) hx hb dX6_addFlight_25 (by decide) ?_
    refine lv_iadd hx hb dX6_addFlight_26 ?_
    refine va_put (D := D) (ci := 6) (v := .int ((G 0 1) + 1)) (ty := .int) (C := RX6) (T := TX6) (N := 13) hx hb hts tu_6 tyX6 tyX6_ok nmX6 hown hE.1 hP hD hS 0 gw_0 rfl 1 (by decide) (hts _ tw_786) (fun _ h9 => h9) rfl (by decide +kernel) rfl rfl (Nat.le_of_ble_eq_true rfl) dX6_addFlight_27 (fun H locs hP hD hS => ?_)
    rw [gwp_01 (G := (thr G 0)) (v := ((G 0 1) + 1)) (f := upd ((thr G 0) 0) 1 ((G 0 1) + 1)) rfl] at hP hD
    refine lv_aload_n hx hb dX6_addFlight_30 rfl (lv_at hl 0 rfl) ?_
    refine va_get (D := D) (ci := 6) (v := .int ((G 0 1) + 1)) (C := RX6) (T := TX6) (N := 13) hx hb hts tu_6 hown hE.1 hP 0 gw_0 rfl 1 (by decide) (hts _ tw_786) (fun _ h9 => h9) rfl dX6_addFlight_31 ?_
    refine lv_iconst (v := 1) hx hb dX6_addFlight_34 (by decide) ?_
    refine lv_isub hx hb dX6_addFlight_35 ?_
    have e9 : qaddFlight_g G T  n nf = sf (thr G 0) 0 (upd ((thr G 0) 0) 1 ((G 0 1) + 1)) := by rw [qaddFlight_g, sel_f (show ¬ (G 0 1 = 6) from c_1)]; first | done | rfl
    exact m_iret hx hb hr hlk dX6_addFlight_36 (by rw [e9]; exact hP) hS (by rw [qaddFlight_r, sel_f (show ¬ (G 0 1 = 6) from c_1)]; first | done | rfl)
  · refine lv_aload_n hx hb dX6_addFlight_14 rfl (lv_at hl 0 rfl) ?_
    refine lv_iconst (v := 1) hx hb dX6_addFlight_15 (by decide) ?_
    refine c_mVi (rest := []) hC hE hP hD hS mt_same (metX6_no l (thr G 0) T 1) gc_RX6_110 hd_X6_no ⟨rfl, rfl⟩ ⟨Nat.le_of_ble_eq_true rfl, Nat.le_of_ble_eq_true rfl⟩ 0 gw_0 rfl rfl hl.1 (Nat.le_of_ble_eq_true rfl) ⟨Nat.le_of_ble_eq_true rfl, Nat.le_of_ble_eq_true rfl⟩ dX6_addFlight_16 (fun H locs hP hD hS => ?_)
    have e9 : qaddFlight_g G T  n nf = thr (thr G 0) 1 := by rw [qaddFlight_g, sel_t (show G 0 1 = 6 from c_1)]; first | done | rfl
    exact m_iret hx hb hr hlk dX6_addFlight_19 (by rw [e9]; exact hP) hS (by rw [qaddFlight_r, sel_t (show G 0 1 = 6 from c_1)]; first | done | rfl)

set_option maxHeartbeats 4000000 in
set_option maxRecDepth 100000 in
theorem metX6_giveChute (l : Launch) {D : va_G} {k : Nat → ClassId} {g t : Nat → Nat} {sq : Nat} {R : va_W} (G T : HS) (f : Int32) (ch : Int32) (n : Nat) (hn : G 0 3 = nI n) (hn40 : n ≤ 40) (nf : Nat) (hnf : G 0 1 = nI nf) (hnf6 : nf ≤ 6) (hF : okF G) (hZ : ∀ f_, f_ < 6 → G 2 f_ = 0 ∨ G 2 f_ = 1) : MM l yX6_giveChute cX6_giveChute 5 (some FieldType.int) rmX6_giveChute D k (gw k g (t 0) sq G ++ (tw k t T ++ R)) [.ref (g 0), .int f, .int ch] (some (.int (qgiveChute_r G T f ch n nf))) (gw k g (t 0) sq (qgiveChute_g G T f ch n nf) ++ (tw k t T ++ R)) := by
  refine MM_of rfl (Nat.le_of_ble_eq_true rfl) ?_
  intro p e s m below meth c hC hr hlk hin hE hP hD hS ls hl
  have hC : CallFix p m c cX6_giveChute 5 s _ lw_all RX6 := hC
  have hx := hC.1
  have hb := hC.2.1
  have hown : s.vm.findClass RX6 = some m.cls := hC.2.2.2.1
  have hts := hC.2.2.2.2
  have hl : lv_has ls 5 [(0, .ref (g 0)), (1, .int f), (2, .int ch)] := hl
  refine lv_aload_n hx hb dX6_giveChute_0 rfl (lv_at hl 0 rfl) ?_
  refine lv_iconst (v := 0) hx hb dX6_giveChute_1 (by decide) ?_
  refine va_put (D := D) (ci := 6) (v := .int 0) (ty := .int) (C := RX6) (T := TX6) (N := 13) hx hb hts tu_6 tyX6 tyX6_ok nmX6 hown hE.1 hP hD hS 0 gw_0 rfl 0 (by decide) (hts _ tw_785) (fun _ h9 => h9) rfl (by decide +kernel) rfl rfl (Nat.le_of_ble_eq_true rfl) dX6_giveChute_2 (fun H locs hP hD hS => ?_)
  rw [gwp_t (G := G) (v := 0)] at hP hD
  refine lv_aload_n hx hb dX6_giveChute_5 rfl (lv_at hl 0 rfl) ?_
  refine lv_iload_n hx hb dX6_giveChute_6 rfl (lv_at hl 1 rfl) ?_
  refine c_pVi (rest := []) hC hE hP (metX6_isFlight l (thr G 0) T f) gc_RX6_114 hd_X6_isFlight ⟨rfl, rfl⟩ ⟨Nat.le_of_ble_eq_true rfl, Nat.le_of_ble_eq_true rfl⟩ 0 gw_0 rfl rfl hl.1 (Nat.le_of_ble_eq_true rfl) ⟨Nat.le_of_ble_eq_true rfl, Nat.le_of_ble_eq_true rfl⟩ dX6_giveChute_7 ?_
  refine w_top (congrArg (fun z_ => bI (mIn f 0 (z_ - 1))) (show _ = nI nf from hnf)) ?_
  refine lv_if_eq (tgt := 20) hx hb dX6_giveChute_10 (by decide) (fun c_1 => ?_) (fun c_1 => ?_)
  · have c_1 := bI_0 c_1
    refine lv_aload_n hx hb dX6_giveChute_20 rfl (lv_at hl 0 rfl) ?_
    refine lv_iconst (v := 1) hx hb dX6_giveChute_21 (by decide) ?_
    refine c_mVi (rest := []) hC hE hP hD hS mt_same (metX6_no l (thr G 0) T 1) gc_RX6_110 hd_X6_no ⟨rfl, rfl⟩ ⟨Nat.le_of_ble_eq_true rfl, Nat.le_of_ble_eq_true rfl⟩ 0 gw_0 rfl rfl hl.1 (Nat.le_of_ble_eq_true rfl) ⟨Nat.le_of_ble_eq_true rfl, Nat.le_of_ble_eq_true rfl⟩ dX6_giveChute_22 (fun H locs hP hD hS => ?_)
    have e9 : qgiveChute_g G T f ch n nf = thr (thr G 0) 1 := by rw [qgiveChute_g, sel_f (show ¬ (mIn f 0 (nI nf - 1)) from c_1)]; first | done | rfl
    exact m_iret hx hb hr hlk dX6_giveChute_25 (by rw [e9]; exact hP) hS (by rw [qgiveChute_r, sel_f (show ¬ (mIn f 0 (nI nf - 1)) from c_1)]; first | done | rfl)
  · have c_1 := bI_n c_1
    have hx_f := mIn_n (Nat.le_trans hnf6 (by decide)) c_1
    have hl : lv_has ls 5 [(0, .ref (g 0)), (1, .int (nI (ix f))), (2, .int ch)] := by rw [← hx_f.1]; exact hl
    refine lv_iload_n hx hb dX6_giveChute_13 rfl (lv_at hl 2 rfl) ?_
    refine c_pSi (rest := []) hC hE hP (metX6_isChute l ch) gc_RX6_118 hd_X6_isChute ⟨rfl, rfl⟩ ⟨Nat.le_of_ble_eq_true rfl, Nat.le_of_ble_eq_true rfl⟩ rfl hl.1 (Nat.le_of_ble_eq_true rfl) ⟨Nat.le_of_ble_eq_true rfl, Nat.le_of_ble_eq_true rfl⟩ dX6_giveChute_14 ?_
    refine lv_if_ne (tgt := 26) hx hb dX6_giveChute_17 (by decide) (fun c_2 => ?_) (fun c_2 => ?_)
    · have c_2 := bI_n c_2
      have hx_ch := mIn_k (n := 3) (by decide) c_2
      have hl : lv_has ls 5 [(0, .ref (g 0)), (1, .int (nI (ix f))), (2, .int (nI (ix ch)))] := by rw [← hx_ch.1]; exact hl
      refine lv_aload_n hx hb dX6_giveChute_26 rfl (lv_at hl 0 rfl) ?_
      refine va_get (D := D) (ci := 6) (v := .ref (g 2)) (C := RX6) (T := TX6) (N := 13) hx hb hts tu_6 hown hE.1 hP 0 gw_0 rfl 3 (by decide) (hts _ tw_788) (fun _ h9 => h9) rfl dX6_giveChute_27 ?_
      refine lv_iload_n hx hb dX6_giveChute_30 rfl (lv_at hl 1 rfl) ?_
      refine k_zald (j := (ix f)) hx hb hE hP 2 gw_2 (Nat.lt_of_lt_of_le hx_f.2 hnf6) (by decide) dX6_giveChute_31 ?_
      refine lv_if_eq (tgt := 41) hx hb dX6_giveChute_32 (by decide) (fun c_3 => ?_) (fun c_3 => ?_)
      · refine lv_iconst (v := 0) hx hb dX6_giveChute_41 (by decide) ?_
        refine lv_istore_n (lv' := [(3, .int 0), (0, .ref (g 0)), (1, .int (nI (ix f))), (2, .int (nI (ix ch)))]) hx hb dX6_giveChute_42 rfl hl (by decide) rfl (fun ls hl => ?_)
        refine lv_iconst (v := 0) hx hb dX6_giveChute_43 (by decide) ?_
        refine lv_istore (lv' := [(4, .int 0), (3, .int 0), (0, .ref (g 0)), (1, .int (nI (ix f))), (2, .int (nI (ix ch)))]) hx hb dX6_giveChute_44 hl (by decide) rfl (fun ls hl => ?_)
        refine w_forM (N := n) (fun _ => True) (fun i => [(0, .ref (g 0)), (1, .int (nI (ix f))), (2, .int (nI (ix ch))), (3, .int (nI (mGiveN G T (ix f) (nI (ix ch)) i))), (4, .int (nI i))]) (fun i => (gw k g (t 0) sq (thr G 0) ++ (tw k t T ++ R))) (fun ls H locs hI hl hP hD hS => ?_) (fun i hi hI ih ls H locs hl hP hD hS => ?_) 0 (Nat.zero_le _) trivial (lv_sub hl [2, 3, 4, 1, 0] rfl) hP hD hS
        · have hl : lv_has ls 5 [(0, .ref (g 0)), (1, .int (nI (ix f))), (2, .int (nI (ix ch))), (3, .int (nI (mGiveN G T (ix f) (nI (ix ch)) n))), (4, .int (nI n))] := hl
          have hP : va_P D vwCl (gw k g (t 0) sq (thr G 0) ++ (tw k t T ++ R)) H := hP
          have hD : va_D (va_in (gw k g (t 0) sq G ++ (tw k t T ++ R))) (gw k g (t 0) sq (thr G 0) ++ (tw k t T ++ R)) := hD
          refine lv_iload hx hb dX6_giveChute_46 (lv_at hl 4 rfl) ?_
          refine lv_aload_n hx hb dX6_giveChute_48 rfl (lv_at hl 0 rfl) ?_
          refine va_get (D := D) (ci := 6) (v := .int (G 0 3)) (C := RX6) (T := TX6) (N := 13) hx hb hts tu_6 hown hE.1 hP 0 gw_0 rfl 6 (by decide) (hts _ tw_791) (fun _ h9 => h9) rfl dX6_giveChute_49 ?_
          refine w_top (hn) ?_
          refine lv_icmp_ge (tgt := 123) hx hb dX6_giveChute_52 (by decide) (fun c_4 => ?_) (fun c_ => absurd (nI_le (Nat.le_refl n) (by omega)) c_)
          refine lv_aload_n hx hb dX6_giveChute_123 rfl (lv_at hl 0 rfl) ?_
          refine va_get (D := D) (ci := 6) (v := .ref (g 1)) (C := RX6) (T := TX6) (N := 13) hx hb hts tu_6 hown hE.1 hP 0 gw_0 rfl 2 (by decide) (hts _ tw_787) (fun _ h9 => h9) rfl dX6_giveChute_124 ?_
          refine lv_iload_n hx hb dX6_giveChute_127 rfl (lv_at hl 1 rfl) ?_
          refine lv_iload_n hx hb dX6_giveChute_128 rfl (lv_at hl 2 rfl) ?_
          refine k_iast (j := (ix f)) hx hb hE hP hD hS 1 gw_1 (Nat.lt_of_lt_of_le hx_f.2 hnf6) (by decide) dX6_giveChute_129 (fun H locs hP hD hS => ?_)
          rw [gwq_1 (G := (thr G 0)) (f := upd ((thr G 0) 1) (ix f) (nI (ix ch))) (f2 := upd (G 1) (ix f) (nI (ix ch))) rfl] at hP hD
          refine lv_iload_n hx hb dX6_giveChute_130 rfl (lv_at hl 3 rfl) ?_
          have e9 : qgiveChute_g G T f ch n nf = sf (thr G 0) 1 (upd (G 1) (ix f) (nI (ix ch))) := by rw [qgiveChute_g, sel_t (show mIn f 0 (nI nf - 1) from c_1), sel_t (show mIn ch 0 3 from c_2), sel_t (show G 2 (ix f) = 0 from c_3)]; first | done | rfl
          exact m_iret hx hb hr hlk dX6_giveChute_131 (by rw [e9]; exact hP) hS (by rw [qgiveChute_r, sel_t (show mIn f 0 (nI nf - 1) from c_1), sel_t (show mIn ch 0 3 from c_2), sel_t (show G 2 (ix f) = 0 from c_3)]; first | done | rfl)
        · have hl : lv_has ls 5 [(0, .ref (g 0)), (1, .int (nI (ix f))), (2, .int (nI (ix ch))), (3, .int (nI (mGiveN G T (ix f) (nI (ix ch)) i))), (4, .int (nI i))] := hl
          have hP : va_P D vwCl (gw k g (t 0) sq (thr G 0) ++ (tw k t T ++ R)) H := hP
          have hD : va_D (va_in (gw k g (t 0) sq G ++ (tw k t T ++ R))) (gw k g (t 0) sq (thr G 0) ++ (tw k t T ++ R)) := hD
          refine lv_iload hx hb dX6_giveChute_46 (lv_at hl 4 rfl) ?_
          refine lv_aload_n hx hb dX6_giveChute_48 rfl (lv_at hl 0 rfl) ?_
          refine va_get (D := D) (ci := 6) (v := .int (G 0 3)) (C := RX6) (T := TX6) (N := 13) hx hb hts tu_6 hown hE.1 hP 0 gw_0 rfl 6 (by decide) (hts _ tw_791) (fun _ h9 => h9) rfl dX6_giveChute_49 ?_
          refine w_top (hn) ?_
          refine lv_icmp_ge (tgt := 123) hx hb dX6_giveChute_52 (by decide) (fun c_ => absurd c_ (nI_ge hi (by omega))) (fun c_5 => ?_)
          refine lv_iload_n hx hb dX6_giveChute_55 rfl (lv_at hl 3 rfl) ?_
          refine lv_aload_n hx hb dX6_giveChute_56 rfl (lv_at hl 0 rfl) ?_
          refine va_get (D := D) (ci := 6) (v := .ref (g 4)) (C := RX6) (T := TX6) (N := 13) hx hb hts tu_6 hown hE.1 hP 0 gw_0 rfl 7 (by decide) (hts _ tw_792) (fun _ h9 => h9) rfl dX6_giveChute_57 ?_
          refine lv_iload hx hb dX6_giveChute_60 (lv_at hl 4 rfl) ?_
          refine k_iald (j := i) hx hb hE hP 4 gw_4 (by omega) (by decide) dX6_giveChute_62 ?_
          refine lv_iload_n hx hb dX6_giveChute_63 rfl (lv_at hl 1 rfl) ?_
          refine lv_icmp_ne (tgt := 114) hx hb dX6_giveChute_64 (by decide) (fun c_6 => ?_) (fun c_6 => ?_)
          · refine lv_iconst (v := 0) hx hb dX6_giveChute_114 (by decide) ?_
            refine lv_iadd hx hb dX6_giveChute_115 ?_
            refine w_top (Int32.add_zero _) ?_
            refine lv_istore_n (lv' := [(3, .int (nI (mGiveN G T (ix f) (nI (ix ch)) i))), (0, .ref (g 0)), (1, .int (nI (ix f))), (2, .int (nI (ix ch))), (4, .int (nI i))]) hx hb dX6_giveChute_116 rfl hl (by decide) rfl (fun ls hl => ?_)
            refine lv_iinc (v := nI (i + 1)) (lv' := [(4, .int (nI (i + 1))), (3, .int (nI (mGiveN G T (ix f) (nI (ix ch)) i))), (0, .ref (g 0)), (1, .int (nI (ix f))), (2, .int (nI (ix ch)))]) hx hb dX6_giveChute_117 hl (k := 4) rfl (iinc1 _) (by decide) rfl (fun ls hl => ?_)
            refine lv_goto (tgt := 46) hx hb dX6_giveChute_120 (by decide) ?_
            have e9 : mGiveN G T (ix f) (nI (ix ch)) (i + 1) = mGiveN G T (ix f) (nI (ix ch)) i := ct_f (p := (fun i => G 4 i = nI (ix f) ∧ T 1 i = 2 ∧ T 2 i = G 1 (ix f) ∧ ¬ nI (ix ch) = G 1 (ix f))) (show ¬ (G 4 i = nI (ix f) ∧ T 1 i = 2 ∧ T 2 i = G 1 (ix f) ∧ (¬ (nI (ix ch) = G 1 (ix f)))) from (fun h_ => c_6 h_.1))
            exact ih ls H locs trivial (by show lv_has ls 5 [(0, .ref (g 0)), (1, .int (nI (ix f))), (2, .int (nI (ix ch))), (3, .int (nI (mGiveN G T (ix f) (nI (ix ch)) (i + 1)))), (4, .int (nI (i + 1)))]; rw [e9]; exact lv_sub hl [2, 3, 4, 1, 0] rfl) (by show va_P D vwCl (gw k g (t 0) sq (thr G 0) ++ (tw k t T ++ R)) H; exact hP) (by show va_D (va_in (gw k g (t 0) sq G ++ (tw k t T ++ R))) (gw k g (t 0) sq (thr G 0) ++ (tw k t T ++ R)); exact hD) hS
          · refine lv_aload_n hx hb dX6_giveChute_67 rfl (lv_at hl 0 rfl) ?_
            refine va_get (D := D) (ci := 6) (v := .ref (t 0)) (C := RX6) (T := TX6) (N := 13) hx hb hts tu_6 hown hE.1 hP 0 gw_0 rfl 11 (by decide) (hts _ tw_796) (fun _ h9 => h9) rfl dX6_giveChute_68 ?_
            refine va_getN (D := D) (ci := 5) (v := .ref (t 1)) (C := RX5) (T := TX5) (N := 9) hx hb hts tu_5 hown hE.1 hP 8 mt_0 rfl 1 (by decide) (va_Nw.use rfl hE.2.2.1) (fun _ h9 => h9) rfl dX6_giveChute_71 ?_
            refine lv_iload hx hb dX6_giveChute_74 (lv_at hl 4 rfl) ?_
            refine k_iald (j := i) hx hb hE hP 9 mt_1 (by omega) (by decide) dX6_giveChute_76 ?_
            refine lv_iconst (v := 2) hx hb dX6_giveChute_77 (by decide) ?_
            refine lv_icmp_ne (tgt := 114) hx hb dX6_giveChute_78 (by decide) (fun c_7 => ?_) (fun c_7 => ?_)
            · refine lv_iconst (v := 0) hx hb dX6_giveChute_114 (by decide) ?_
              refine lv_iadd hx hb dX6_giveChute_115 ?_
              refine w_top (Int32.add_zero _) ?_
              refine lv_istore_n (lv' := [(3, .int (nI (mGiveN G T (ix f) (nI (ix ch)) i))), (0, .ref (g 0)), (1, .int (nI (ix f))), (2, .int (nI (ix ch))), (4, .int (nI i))]) hx hb dX6_giveChute_116 rfl hl (by decide) rfl (fun ls hl => ?_)
              refine lv_iinc (v := nI (i + 1)) (lv' := [(4, .int (nI (i + 1))), (3, .int (nI (mGiveN G T (ix f) (nI (ix ch)) i))), (0, .ref (g 0)), (1, .int (nI (ix f))), (2, .int (nI (ix ch)))]) hx hb dX6_giveChute_117 hl (k := 4) rfl (iinc1 _) (by decide) rfl (fun ls hl => ?_)
              refine lv_goto (tgt := 46) hx hb dX6_giveChute_120 (by decide) ?_
              have e9 : mGiveN G T (ix f) (nI (ix ch)) (i + 1) = mGiveN G T (ix f) (nI (ix ch)) i := ct_f (p := (fun i => G 4 i = nI (ix f) ∧ T 1 i = 2 ∧ T 2 i = G 1 (ix f) ∧ ¬ nI (ix ch) = G 1 (ix f))) (show ¬ (G 4 i = nI (ix f) ∧ T 1 i = 2 ∧ T 2 i = G 1 (ix f) ∧ (¬ (nI (ix ch) = G 1 (ix f)))) from (fun h_ => c_7 h_.2.1))
              exact ih ls H locs trivial (by show lv_has ls 5 [(0, .ref (g 0)), (1, .int (nI (ix f))), (2, .int (nI (ix ch))), (3, .int (nI (mGiveN G T (ix f) (nI (ix ch)) (i + 1)))), (4, .int (nI (i + 1)))]; rw [e9]; exact lv_sub hl [2, 3, 4, 1, 0] rfl) (by show va_P D vwCl (gw k g (t 0) sq (thr G 0) ++ (tw k t T ++ R)) H; exact hP) (by show va_D (va_in (gw k g (t 0) sq G ++ (tw k t T ++ R))) (gw k g (t 0) sq (thr G 0) ++ (tw k t T ++ R)); exact hD) hS
            · refine lv_aload_n hx hb dX6_giveChute_81 rfl (lv_at hl 0 rfl) ?_
              refine va_get (D := D) (ci := 6) (v := .ref (t 0)) (C := RX6) (T := TX6) (N := 13) hx hb hts tu_6 hown hE.1 hP 0 gw_0 rfl 11 (by decide) (hts _ tw_796) (fun _ h9 => h9) rfl dX6_giveChute_82 ?_
              refine va_getN (D := D) (ci := 5) (v := .ref (t 2)) (C := RX5) (T := TX5) (N := 9) hx hb hts tu_5 hown hE.1 hP 8 mt_0 rfl 2 (by decide) (va_Nw.use rfl hE.2.2.2.1) (fun _ h9 => h9) rfl dX6_giveChute_85 ?_
              refine lv_iload hx hb dX6_giveChute_88 (lv_at hl 4 rfl) ?_
              refine k_iald (j := i) hx hb hE hP 10 mt_2 (by omega) (by decide) dX6_giveChute_90 ?_
              refine lv_aload_n hx hb dX6_giveChute_91 rfl (lv_at hl 0 rfl) ?_
              refine va_get (D := D) (ci := 6) (v := .ref (g 1)) (C := RX6) (T := TX6) (N := 13) hx hb hts tu_6 hown hE.1 hP 0 gw_0 rfl 2 (by decide) (hts _ tw_787) (fun _ h9 => h9) rfl dX6_giveChute_92 ?_
              refine lv_iload_n hx hb dX6_giveChute_95 rfl (lv_at hl 1 rfl) ?_
              refine k_iald (j := (ix f)) hx hb hE hP 1 gw_1 (Nat.lt_of_lt_of_le hx_f.2 hnf6) (by decide) dX6_giveChute_96 ?_
              refine lv_icmp_ne (tgt := 114) hx hb dX6_giveChute_97 (by decide) (fun c_8 => ?_) (fun c_8 => ?_)
              · refine lv_iconst (v := 0) hx hb dX6_giveChute_114 (by decide) ?_
                refine lv_iadd hx hb dX6_giveChute_115 ?_
                refine w_top (Int32.add_zero _) ?_
                refine lv_istore_n (lv' := [(3, .int (nI (mGiveN G T (ix f) (nI (ix ch)) i))), (0, .ref (g 0)), (1, .int (nI (ix f))), (2, .int (nI (ix ch))), (4, .int (nI i))]) hx hb dX6_giveChute_116 rfl hl (by decide) rfl (fun ls hl => ?_)
                refine lv_iinc (v := nI (i + 1)) (lv' := [(4, .int (nI (i + 1))), (3, .int (nI (mGiveN G T (ix f) (nI (ix ch)) i))), (0, .ref (g 0)), (1, .int (nI (ix f))), (2, .int (nI (ix ch)))]) hx hb dX6_giveChute_117 hl (k := 4) rfl (iinc1 _) (by decide) rfl (fun ls hl => ?_)
                refine lv_goto (tgt := 46) hx hb dX6_giveChute_120 (by decide) ?_
                have e9 : mGiveN G T (ix f) (nI (ix ch)) (i + 1) = mGiveN G T (ix f) (nI (ix ch)) i := ct_f (p := (fun i => G 4 i = nI (ix f) ∧ T 1 i = 2 ∧ T 2 i = G 1 (ix f) ∧ ¬ nI (ix ch) = G 1 (ix f))) (show ¬ (G 4 i = nI (ix f) ∧ T 1 i = 2 ∧ T 2 i = G 1 (ix f) ∧ (¬ (nI (ix ch) = G 1 (ix f)))) from (fun h_ => c_8 h_.2.2.1))
                exact ih ls H locs trivial (by show lv_has ls 5 [(0, .ref (g 0)), (1, .int (nI (ix f))), (2, .int (nI (ix ch))), (3, .int (nI (mGiveN G T (ix f) (nI (ix ch)) (i + 1)))), (4, .int (nI (i + 1)))]; rw [e9]; exact lv_sub hl [2, 3, 4, 1, 0] rfl) (by show va_P D vwCl (gw k g (t 0) sq (thr G 0) ++ (tw k t T ++ R)) H; exact hP) (by show va_D (va_in (gw k g (t 0) sq G ++ (tw k t T ++ R))) (gw k g (t 0) sq (thr G 0) ++ (tw k t T ++ R)); exact hD) hS
              · refine lv_iload_n hx hb dX6_giveChute_100 rfl (lv_at hl 2 rfl) ?_
                refine lv_aload_n hx hb dX6_giveChute_101 rfl (lv_at hl 0 rfl) ?_
                refine va_get (D := D) (ci := 6) (v := .ref (g 1)) (C := RX6) (T := TX6) (N := 13) hx hb hts tu_6 hown hE.1 hP 0 gw_0 rfl 2 (by decide) (hts _ tw_787) (fun _ h9 => h9) rfl dX6_giveChute_102 ?_
                refine lv_iload_n hx hb dX6_giveChute_105 rfl (lv_at hl 1 rfl) ?_
                refine k_iald (j := (ix f)) hx hb hE hP 1 gw_1 (Nat.lt_of_lt_of_le hx_f.2 hnf6) (by decide) dX6_giveChute_106 ?_
                refine lv_icmp_eq (tgt := 114) hx hb dX6_giveChute_107 (by decide) (fun c_9 => ?_) (fun c_9 => ?_)
                · refine lv_iconst (v := 0) hx hb dX6_giveChute_114 (by decide) ?_
                  refine lv_iadd hx hb dX6_giveChute_115 ?_
                  refine w_top (Int32.add_zero _) ?_
                  refine lv_istore_n (lv' := [(3, .int (nI (mGiveN G T (ix f) (nI (ix ch)) i))), (0, .ref (g 0)), (1, .int (nI (ix f))), (2, .int (nI (ix ch))), (4, .int (nI i))]) hx hb dX6_giveChute_116 rfl hl (by decide) rfl (fun ls hl => ?_)
                  refine lv_iinc (v := nI (i + 1)) (lv' := [(4, .int (nI (i + 1))), (3, .int (nI (mGiveN G T (ix f) (nI (ix ch)) i))), (0, .ref (g 0)), (1, .int (nI (ix f))), (2, .int (nI (ix ch)))]) hx hb dX6_giveChute_117 hl (k := 4) rfl (iinc1 _) (by decide) rfl (fun ls hl => ?_)
                  refine lv_goto (tgt := 46) hx hb dX6_giveChute_120 (by decide) ?_
                  have e9 : mGiveN G T (ix f) (nI (ix ch)) (i + 1) = mGiveN G T (ix f) (nI (ix ch)) i := ct_f (p := (fun i => G 4 i = nI (ix f) ∧ T 1 i = 2 ∧ T 2 i = G 1 (ix f) ∧ ¬ nI (ix ch) = G 1 (ix f))) (show ¬ (G 4 i = nI (ix f) ∧ T 1 i = 2 ∧ T 2 i = G 1 (ix f) ∧ (¬ (nI (ix ch) = G 1 (ix f)))) from (fun h_ => (fun h_ => h_ c_9) h_.2.2.2))
                  exact ih ls H locs trivial (by show lv_has ls 5 [(0, .ref (g 0)), (1, .int (nI (ix f))), (2, .int (nI (ix ch))), (3, .int (nI (mGiveN G T (ix f) (nI (ix ch)) (i + 1)))), (4, .int (nI (i + 1)))]; rw [e9]; exact lv_sub hl [2, 3, 4, 1, 0] rfl) (by show va_P D vwCl (gw k g (t 0) sq (thr G 0) ++ (tw k t T ++ R)) H; exact hP) (by show va_D (va_in (gw k g (t 0) sq G ++ (tw k t T ++ R))) (gw k g (t 0) sq (thr G 0) ++ (tw k t T ++ R)); exact hD) hS
                · refine lv_iconst (v := 1) hx hb dX6_giveChute_110 (by decide) ?_
                  refine lv_goto (tgt := 115) hx hb dX6_giveChute_111 (by decide) ?_
                  refine lv_iadd hx hb dX6_giveChute_115 ?_
                  refine w_top (nI_1 _) ?_
                  refine lv_istore_n (lv' := [(3, .int (nI ((mGiveN G T (ix f) (nI (ix ch)) i) + 1))), (0, .ref (g 0)), (1, .int (nI (ix f))), (2, .int (nI (ix ch))), (4, .int (nI i))]) hx hb dX6_giveChute_116 rfl hl (by decide) rfl (fun ls hl => ?_)
                  refine lv_iinc (v := nI (i + 1)) (lv' := [(4, .int (nI (i + 1))), (3, .int (nI ((mGiveN G T (ix f) (nI (ix ch)) i) + 1))), (0, .ref (g 0)), (1, .int (nI (ix f))), (2, .int (nI (ix ch)))]) hx hb dX6_giveChute_117 hl (k := 4) rfl (iinc1 _) (by decide) rfl (fun ls hl => ?_)
                  refine lv_goto (tgt := 46) hx hb dX6_giveChute_120 (by decide) ?_
                  have e9 : mGiveN G T (ix f) (nI (ix ch)) (i + 1) = mGiveN G T (ix f) (nI (ix ch)) i + 1 := ct_t (p := (fun i => G 4 i = nI (ix f) ∧ T 1 i = 2 ∧ T 2 i = G 1 (ix f) ∧ ¬ nI (ix ch) = G 1 (ix f))) (show (G 4 i = nI (ix f) ∧ T 1 i = 2 ∧ T 2 i = G 1 (ix f) ∧ (¬ (nI (ix ch) = G 1 (ix f)))) from ⟨c_6, c_7, c_8, c_9⟩)
                  exact ih ls H locs trivial (by show lv_has ls 5 [(0, .ref (g 0)), (1, .int (nI (ix f))), (2, .int (nI (ix ch))), (3, .int (nI (mGiveN G T (ix f) (nI (ix ch)) (i + 1)))), (4, .int (nI (i + 1)))]; rw [e9]; exact lv_sub hl [2, 3, 4, 1, 0] rfl) (by show va_P D vwCl (gw k g (t 0) sq (thr G 0) ++ (tw k t T ++ R)) H; exact hP) (by show va_D (va_in (gw k g (t 0) sq G ++ (tw k t T ++ R))) (gw k g (t 0) sq (thr G 0) ++ (tw k t T ++ R)); exact hD) hS
      · refine lv_aload_n hx hb dX6_giveChute_35 rfl (lv_at hl 0 rfl) ?_
        refine lv_iconst (v := 2) hx hb dX6_giveChute_36 (by decide) ?_
        refine c_mVi (rest := []) hC hE hP hD hS mt_same (metX6_no l (thr G 0) T 2) gc_RX6_110 hd_X6_no ⟨rfl, rfl⟩ ⟨Nat.le_of_ble_eq_true rfl, Nat.le_of_ble_eq_true rfl⟩ 0 gw_0 rfl rfl hl.1 (Nat.le_of_ble_eq_true rfl) ⟨Nat.le_of_ble_eq_true rfl, Nat.le_of_ble_eq_true rfl⟩ dX6_giveChute_37 (fun H locs hP hD hS => ?_)
        have e9 : qgiveChute_g G T f ch n nf = thr (thr G 0) 2 := by rw [qgiveChute_g, sel_t (show mIn f 0 (nI nf - 1) from c_1), sel_t (show mIn ch 0 3 from c_2), sel_f (show ¬ (G 2 (ix f) = 0) from c_3)]; first | done | rfl
        exact m_iret hx hb hr hlk dX6_giveChute_40 (by rw [e9]; exact hP) hS (by rw [qgiveChute_r, sel_t (show mIn f 0 (nI nf - 1) from c_1), sel_t (show mIn ch 0 3 from c_2), sel_f (show ¬ (G 2 (ix f) = 0) from c_3)]; first | done | rfl)
    · have c_2 := bI_0 c_2
      refine lv_aload_n hx hb dX6_giveChute_20 rfl (lv_at hl 0 rfl) ?_
      refine lv_iconst (v := 1) hx hb dX6_giveChute_21 (by decide) ?_
      refine c_mVi (rest := []) hC hE hP hD hS mt_same (metX6_no l (thr G 0) T 1) gc_RX6_110 hd_X6_no ⟨rfl, rfl⟩ ⟨Nat.le_of_ble_eq_true rfl, Nat.le_of_ble_eq_true rfl⟩ 0 gw_0 rfl rfl hl.1 (Nat.le_of_ble_eq_true rfl) ⟨Nat.le_of_ble_eq_true rfl, Nat.le_of_ble_eq_true rfl⟩ dX6_giveChute_22 (fun H locs hP hD hS => ?_)
      have e9 : qgiveChute_g G T f ch n nf = thr (thr G 0) 1 := by rw [qgiveChute_g, sel_t (show mIn f 0 (nI nf - 1) from c_1), sel_f (show ¬ (mIn ch 0 3) from c_2)]; first | done | rfl
      exact m_iret hx hb hr hlk dX6_giveChute_25 (by rw [e9]; exact hP) hS (by rw [qgiveChute_r, sel_t (show mIn f 0 (nI nf - 1) from c_1), sel_f (show ¬ (mIn ch 0 3) from c_2)]; first | done | rfl)

set_option maxHeartbeats 4000000 in
set_option maxRecDepth 100000 in
theorem metX6_setReader (l : Launch) {D : va_G} {k : Nat → ClassId} {g t : Nat → Nat} {sq : Nat} {R : va_W} (G T : HS) (z : Int32) (n : Nat) (hn : G 0 3 = nI n) (hn40 : n ≤ 40) (nf : Nat) (hnf : G 0 1 = nI nf) (hnf6 : nf ≤ 6) (hF : okF G) (hZ : ∀ f_, f_ < 6 → G 2 f_ = 0 ∨ G 2 f_ = 1) : MM l yX6_setReader cX6_setReader 3 (some FieldType.int) rmX6_setReader D k (gw k g (t 0) sq G ++ (tw k t T ++ R)) [.ref (g 0), .int z] (some (.int (qsetReader_r G T z n nf))) (gw k g (t 0) sq (qsetReader_g G T z n nf) ++ (tw k t T ++ R)) := by
  refine MM_of rfl (Nat.le_of_ble_eq_true rfl) ?_
  intro p e s m below meth c hC hr hlk hin hE hP hD hS ls hl
  have hC : CallFix p m c cX6_setReader 3 s _ lw_all RX6 := hC
  have hx := hC.1
  have hb := hC.2.1
  have hown : s.vm.findClass RX6 = some m.cls := hC.2.2.2.1
  have hts := hC.2.2.2.2
  have hl : lv_has ls 3 [(0, .ref (g 0)), (1, .int z)] := hl
  refine lv_aload_n hx hb dX6_setReader_0 rfl (lv_at hl 0 rfl) ?_
  refine lv_iconst (v := 0) hx hb dX6_setReader_1 (by decide) ?_
  refine va_put (D := D) (ci := 6) (v := .int 0) (ty := .int) (C := RX6) (T := TX6) (N := 13) hx hb hts tu_6 tyX6 tyX6_ok nmX6 hown hE.1 hP hD hS 0 gw_0 rfl 0 (by decide) (hts _ tw_785) (fun _ h9 => h9) rfl (by decide +kernel) rfl rfl (Nat.le_of_ble_eq_true rfl) dX6_setReader_2 (fun H locs hP hD hS => ?_)
  rw [gwp_t (G := G) (v := 0)] at hP hD
  refine lv_iload_n hx hb dX6_setReader_5 rfl (lv_at hl 1 rfl) ?_
  refine lv_iconst (v := 0) hx hb dX6_setReader_6 (by decide) ?_
  refine lv_bipush (v := 9) hx hb dX6_setReader_7 (by decide) ?_
  refine c_pSi (rest := []) hC hE hP (metX6_isIn l z 0 9) gc_RX6_52 hd_X6_isIn ⟨rfl, rfl⟩ ⟨Nat.le_of_ble_eq_true rfl, Nat.le_of_ble_eq_true rfl⟩ rfl hl.1 (Nat.le_of_ble_eq_true rfl) ⟨Nat.le_of_ble_eq_true rfl, Nat.le_of_ble_eq_true rfl⟩ dX6_setReader_9 ?_
  refine lv_if_ne (tgt := 21) hx hb dX6_setReader_12 (by decide) (fun c_1 => ?_) (fun c_1 => ?_)
  · have c_1 := bI_n c_1
    refine lv_aload_n hx hb dX6_setReader_21 rfl (lv_at hl 0 rfl) ?_
    refine va_get (D := D) (ci := 6) (v := .int (G 0 2)) (C := RX6) (T := TX6) (N := 13) hx hb hts tu_6 hown hE.1 hP 0 gw_0 rfl 5 (by decide) (hts _ tw_790) (fun _ h9 => h9) rfl dX6_setReader_22 ?_
    refine lv_istore_n (lv' := [(2, .int (G 0 2)), (0, .ref (g 0)), (1, .int z)]) hx hb dX6_setReader_25 rfl hl (by decide) rfl (fun ls hl => ?_)
    refine lv_aload_n hx hb dX6_setReader_26 rfl (lv_at hl 1 rfl) ?_
    refine lv_iload_n hx hb dX6_setReader_27 rfl (lv_at hl 2 rfl) ?_
    refine va_put (D := D) (ci := 6) (v := .int z) (ty := .int) (C := RX6) (T := TX6) (N := 13) hx hb hts tu_6 tyX6 tyX6_ok nmX6 hown hE.1 hP hD hS 0 gw_0 rfl 5 (by decide) (hts _ tw_790) (fun _ h9 => h9) rfl (by decide +kernel) rfl rfl (Nat.le_of_ble_eq_true rfl) dX6_setReader_28 (fun H locs hP hD hS => ?_)
    rw [gwp_02 (G := (thr G 0)) (v := z) (f := upd ((thr G 0) 0) 2 z) rfl] at hP hD
    refine lv_iload_n hx hb dX6_setReader_31 rfl (lv_at hl 0 rfl) ?_
    have e9 : qsetReader_g G T z n nf = sf (thr G 0) 0 (upd ((thr G 0) 0) 2 z) := by rw [qsetReader_g, sel_t (show mIn z 0 9 from c_1)]; first | done | rfl
    exact m_iret hx hb hr hlk dX6_setReader_32 (by rw [e9]; exact hP) hS (by rw [qsetReader_r, sel_t (show mIn z 0 9 from c_1)]; first | done | rfl)
  · have c_1 := bI_0 c_1
    refine lv_aload_n hx hb dX6_setReader_15 rfl (lv_at hl 0 rfl) ?_
    refine lv_iconst (v := 1) hx hb dX6_setReader_16 (by decide) ?_
    refine c_mVi (rest := []) hC hE hP hD hS mt_same (metX6_no l (thr G 0) T 1) gc_RX6_110 hd_X6_no ⟨rfl, rfl⟩ ⟨Nat.le_of_ble_eq_true rfl, Nat.le_of_ble_eq_true rfl⟩ 0 gw_0 rfl rfl hl.1 (Nat.le_of_ble_eq_true rfl) ⟨Nat.le_of_ble_eq_true rfl, Nat.le_of_ble_eq_true rfl⟩ dX6_setReader_17 (fun H locs hP hD hS => ?_)
    have e9 : qsetReader_g G T z n nf = thr (thr G 0) 1 := by rw [qsetReader_g, sel_f (show ¬ (mIn z 0 9) from c_1)]; first | done | rfl
    exact m_iret hx hb hr hlk dX6_setReader_20 (by rw [e9]; exact hP) hS (by rw [qsetReader_r, sel_f (show ¬ (mIn z 0 9) from c_1)]; first | done | rfl)

set_option maxHeartbeats 4000000 in
set_option maxRecDepth 100000 in
theorem metX6_setRoom (l : Launch) {D : va_G} {k : Nat → ClassId} {g t : Nat → Nat} {sq : Nat} {R : va_W} (G T : HS) (ch : Int32) (z : Int32) (n : Nat) (hn : G 0 3 = nI n) (hn40 : n ≤ 40) (nf : Nat) (hnf : G 0 1 = nI nf) (hnf6 : nf ≤ 6) (hF : okF G) (hZ : ∀ f_, f_ < 6 → G 2 f_ = 0 ∨ G 2 f_ = 1) : MM l yX6_setRoom cX6_setRoom 4 (some FieldType.int) rmX6_setRoom D k (gw k g (t 0) sq G ++ (tw k t T ++ R)) [.ref (g 0), .int ch, .int z] (some (.int (qsetRoom_r G T ch z n nf))) (gw k g (t 0) sq (qsetRoom_g G T ch z n nf) ++ (tw k t T ++ R)) := by
  refine MM_of rfl (Nat.le_of_ble_eq_true rfl) ?_
  intro p e s m below meth c hC hr hlk hin hE hP hD hS ls hl
  have hC : CallFix p m c cX6_setRoom 4 s _ lw_all RX6 := hC
  have hx := hC.1
  have hb := hC.2.1
  have hown : s.vm.findClass RX6 = some m.cls := hC.2.2.2.1
  have hts := hC.2.2.2.2
  have hl : lv_has ls 4 [(0, .ref (g 0)), (1, .int ch), (2, .int z)] := hl
  refine lv_aload_n hx hb dX6_setRoom_0 rfl (lv_at hl 0 rfl) ?_
  refine lv_iconst (v := 0) hx hb dX6_setRoom_1 (by decide) ?_
  refine va_put (D := D) (ci := 6) (v := .int 0) (ty := .int) (C := RX6) (T := TX6) (N := 13) hx hb hts tu_6 tyX6 tyX6_ok nmX6 hown hE.1 hP hD hS 0 gw_0 rfl 0 (by decide) (hts _ tw_785) (fun _ h9 => h9) rfl (by decide +kernel) rfl rfl (Nat.le_of_ble_eq_true rfl) dX6_setRoom_2 (fun H locs hP hD hS => ?_)
  rw [gwp_t (G := G) (v := 0)] at hP hD
  refine lv_iload_n hx hb dX6_setRoom_5 rfl (lv_at hl 1 rfl) ?_
  refine c_pSi (rest := []) hC hE hP (metX6_isChute l ch) gc_RX6_118 hd_X6_isChute ⟨rfl, rfl⟩ ⟨Nat.le_of_ble_eq_true rfl, Nat.le_of_ble_eq_true rfl⟩ rfl hl.1 (Nat.le_of_ble_eq_true rfl) ⟨Nat.le_of_ble_eq_true rfl, Nat.le_of_ble_eq_true rfl⟩ dX6_setRoom_6 ?_
  refine lv_if_ne (tgt := 18) hx hb dX6_setRoom_9 (by decide) (fun c_1 => ?_) (fun c_1 => ?_)
  · have c_1 := bI_n c_1
    have hx_ch := mIn_k (n := 3) (by decide) c_1
    have hl : lv_has ls 4 [(0, .ref (g 0)), (1, .int (nI (ix ch))), (2, .int z)] := by rw [← hx_ch.1]; exact hl
    refine lv_iload_n hx hb dX6_setRoom_18 rfl (lv_at hl 2 rfl) ?_
    refine lv_iconst (v := 1) hx hb dX6_setRoom_19 (by decide) ?_
    refine lv_bipush (v := 20) hx hb dX6_setRoom_20 (by decide) ?_
    refine c_pSi (rest := []) hC hE hP (metX6_isIn l z 1 20) gc_RX6_52 hd_X6_isIn ⟨rfl, rfl⟩ ⟨Nat.le_of_ble_eq_true rfl, Nat.le_of_ble_eq_true rfl⟩ rfl hl.1 (Nat.le_of_ble_eq_true rfl) ⟨Nat.le_of_ble_eq_true rfl, Nat.le_of_ble_eq_true rfl⟩ dX6_setRoom_22 ?_
    refine lv_if_ne (tgt := 34) hx hb dX6_setRoom_25 (by decide) (fun c_2 => ?_) (fun c_2 => ?_)
    · have c_2 := bI_n c_2
      refine lv_aload_n hx hb dX6_setRoom_34 rfl (lv_at hl 0 rfl) ?_
      refine va_get (D := D) (ci := 6) (v := .ref (g 3)) (C := RX6) (T := TX6) (N := 13) hx hb hts tu_6 hown hE.1 hP 0 gw_0 rfl 4 (by decide) (hts _ tw_789) (fun _ h9 => h9) rfl dX6_setRoom_35 ?_
      refine lv_iload_n hx hb dX6_setRoom_38 rfl (lv_at hl 1 rfl) ?_
      refine k_iald (j := (ix ch)) hx hb hE hP 3 gw_3 (Nat.lt_succ_of_le hx_ch.2) (by decide) dX6_setRoom_39 ?_
      refine lv_istore_n (lv' := [(3, .int (G 3 (ix ch))), (0, .ref (g 0)), (1, .int (nI (ix ch))), (2, .int z)]) hx hb dX6_setRoom_40 rfl hl (by decide) rfl (fun ls hl => ?_)
      refine lv_aload_n hx hb dX6_setRoom_41 rfl (lv_at hl 1 rfl) ?_
      refine va_get (D := D) (ci := 6) (v := .ref (g 3)) (C := RX6) (T := TX6) (N := 13) hx hb hts tu_6 hown hE.1 hP 0 gw_0 rfl 4 (by decide) (hts _ tw_789) (fun _ h9 => h9) rfl dX6_setRoom_42 ?_
      refine lv_iload_n hx hb dX6_setRoom_45 rfl (lv_at hl 2 rfl) ?_
      refine lv_iload_n hx hb dX6_setRoom_46 rfl (lv_at hl 3 rfl) ?_
      refine k_iast (j := (ix ch)) hx hb hE hP hD hS 3 gw_3 (Nat.lt_succ_of_le hx_ch.2) (by decide) dX6_setRoom_47 (fun H locs hP hD hS => ?_)
      rw [gwq_3 (G := (thr G 0)) (f := upd ((thr G 0) 3) (ix ch) z) (f2 := upd (G 3) (ix ch) z) rfl] at hP hD
      refine lv_iload_n hx hb dX6_setRoom_48 rfl (lv_at hl 0 rfl) ?_
      have e9 : qsetRoom_g G T ch z n nf = sf (thr G 0) 3 (upd (G 3) (ix ch) z) := by rw [qsetRoom_g, sel_t (show mIn ch 0 3 from c_1), sel_t (show mIn z 1 20 from c_2)]; first | done | rfl
      exact m_iret hx hb hr hlk dX6_setRoom_49 (by rw [e9]; exact hP) hS (by rw [qsetRoom_r, sel_t (show mIn ch 0 3 from c_1), sel_t (show mIn z 1 20 from c_2)]; first | done | rfl)
    · have c_2 := bI_0 c_2
      refine lv_aload_n hx hb dX6_setRoom_28 rfl (lv_at hl 0 rfl) ?_
      refine lv_iconst (v := 2) hx hb dX6_setRoom_29 (by decide) ?_
      refine c_mVi (rest := []) hC hE hP hD hS mt_same (metX6_no l (thr G 0) T 2) gc_RX6_110 hd_X6_no ⟨rfl, rfl⟩ ⟨Nat.le_of_ble_eq_true rfl, Nat.le_of_ble_eq_true rfl⟩ 0 gw_0 rfl rfl hl.1 (Nat.le_of_ble_eq_true rfl) ⟨Nat.le_of_ble_eq_true rfl, Nat.le_of_ble_eq_true rfl⟩ dX6_setRoom_30 (fun H locs hP hD hS => ?_)
      have e9 : qsetRoom_g G T ch z n nf = thr (thr G 0) 2 := by rw [qsetRoom_g, sel_t (show mIn ch 0 3 from c_1), sel_f (show ¬ (mIn z 1 20) from c_2)]; first | done | rfl
      exact m_iret hx hb hr hlk dX6_setRoom_33 (by rw [e9]; exact hP) hS (by rw [qsetRoom_r, sel_t (show mIn ch 0 3 from c_1), sel_f (show ¬ (mIn z 1 20) from c_2)]; first | done | rfl)
  · have c_1 := bI_0 c_1
    refine lv_aload_n hx hb dX6_setRoom_12 rfl (lv_at hl 0 rfl) ?_
    refine lv_iconst (v := 1) hx hb dX6_setRoom_13 (by decide) ?_
    refine c_mVi (rest := []) hC hE hP hD hS mt_same (metX6_no l (thr G 0) T 1) gc_RX6_110 hd_X6_no ⟨rfl, rfl⟩ ⟨Nat.le_of_ble_eq_true rfl, Nat.le_of_ble_eq_true rfl⟩ 0 gw_0 rfl rfl hl.1 (Nat.le_of_ble_eq_true rfl) ⟨Nat.le_of_ble_eq_true rfl, Nat.le_of_ble_eq_true rfl⟩ dX6_setRoom_14 (fun H locs hP hD hS => ?_)
    have e9 : qsetRoom_g G T ch z n nf = thr (thr G 0) 1 := by rw [qsetRoom_g, sel_f (show ¬ (mIn ch 0 3) from c_1)]; first | done | rfl
    exact m_iret hx hb hr hlk dX6_setRoom_17 (by rw [e9]; exact hP) hS (by rw [qsetRoom_r, sel_f (show ¬ (mIn ch 0 3) from c_1)]; first | done | rfl)

set_option maxHeartbeats 4000000 in
set_option maxRecDepth 100000 in
theorem metX6_checkIn (l : Launch) {D : va_G} {k : Nat → ClassId} {g t : Nat → Nat} {sq : Nat} {R : va_W} (G T : HS) (f : Int32) (z : Int32) (v : Int32) (n : Nat) (hn : G 0 3 = nI n) (hn40 : n ≤ 40) (nf : Nat) (hnf : G 0 1 = nI nf) (hnf6 : nf ≤ 6) (hF : okF G) (hZ : ∀ f_, f_ < 6 → G 2 f_ = 0 ∨ G 2 f_ = 1) (hLn : n < 40 → T 0 1 = nI (ix (T 0 1)) ∧ ix (T 0 1) < 40) : MM l yX6_checkIn cX6_checkIn 4 (some FieldType.int) rmX6_checkIn D k (gw k g (t 0) sq G ++ (tw k t T ++ R)) [.ref (g 0), .int f, .int z, .int v] (some (.int (qcheckIn_r G T f z v n nf))) (gw k g (t 0) sq (qcheckIn_g G T f z v n nf) ++ (tw k t (qcheckIn_t G T f z v n nf) ++ R)) := by
  refine MM_of rfl (Nat.le_of_ble_eq_true rfl) ?_
  intro p e s m below meth c hC hr hlk hin hE hP hD hS ls hl
  have hC : CallFix p m c cX6_checkIn 4 s _ lw_all RX6 := hC
  have hx := hC.1
  have hb := hC.2.1
  have hown : s.vm.findClass RX6 = some m.cls := hC.2.2.2.1
  have hts := hC.2.2.2.2
  have hl : lv_has ls 4 [(0, .ref (g 0)), (1, .int f), (2, .int z), (3, .int v)] := hl
  refine lv_aload_n hx hb dX6_checkIn_0 rfl (lv_at hl 0 rfl) ?_
  refine lv_iconst (v := 0) hx hb dX6_checkIn_1 (by decide) ?_
  refine va_put (D := D) (ci := 6) (v := .int 0) (ty := .int) (C := RX6) (T := TX6) (N := 13) hx hb hts tu_6 tyX6 tyX6_ok nmX6 hown hE.1 hP hD hS 0 gw_0 rfl 0 (by decide) (hts _ tw_785) (fun _ h9 => h9) rfl (by decide +kernel) rfl rfl (Nat.le_of_ble_eq_true rfl) dX6_checkIn_2 (fun H locs hP hD hS => ?_)
  rw [gwp_t (G := G) (v := 0)] at hP hD
  refine lv_aload_n hx hb dX6_checkIn_5 rfl (lv_at hl 0 rfl) ?_
  refine lv_iload_n hx hb dX6_checkIn_6 rfl (lv_at hl 1 rfl) ?_
  refine c_pVi (rest := []) hC hE hP (metX6_isFlight l (thr G 0) T f) gc_RX6_114 hd_X6_isFlight ⟨rfl, rfl⟩ ⟨Nat.le_of_ble_eq_true rfl, Nat.le_of_ble_eq_true rfl⟩ 0 gw_0 rfl rfl hl.1 (Nat.le_of_ble_eq_true rfl) ⟨Nat.le_of_ble_eq_true rfl, Nat.le_of_ble_eq_true rfl⟩ dX6_checkIn_7 ?_
  refine w_top (congrArg (fun z_ => bI (mIn f 0 (z_ - 1))) (show _ = nI nf from hnf)) ?_
  refine lv_if_ne (tgt := 19) hx hb dX6_checkIn_10 (by decide) (fun c_1 => ?_) (fun c_1 => ?_)
  · have c_1 := bI_n c_1
    have hx_f := mIn_n (Nat.le_trans hnf6 (by decide)) c_1
    have hl : lv_has ls 4 [(0, .ref (g 0)), (1, .int (nI (ix f))), (2, .int z), (3, .int v)] := by rw [← hx_f.1]; exact hl
    refine lv_iload_n hx hb dX6_checkIn_19 rfl (lv_at hl 2 rfl) ?_
    refine lv_iconst (v := 1) hx hb dX6_checkIn_20 (by decide) ?_
    refine lv_bipush (v := 9) hx hb dX6_checkIn_21 (by decide) ?_
    refine c_pSi (rest := []) hC hE hP (metX6_isIn l z 1 9) gc_RX6_52 hd_X6_isIn ⟨rfl, rfl⟩ ⟨Nat.le_of_ble_eq_true rfl, Nat.le_of_ble_eq_true rfl⟩ rfl hl.1 (Nat.le_of_ble_eq_true rfl) ⟨Nat.le_of_ble_eq_true rfl, Nat.le_of_ble_eq_true rfl⟩ dX6_checkIn_23 ?_
    refine lv_if_eq (tgt := 39) hx hb dX6_checkIn_26 (by decide) (fun c_2 => ?_) (fun c_2 => ?_)
    · have c_2 := bI_0 c_2
      refine lv_aload_n hx hb dX6_checkIn_39 rfl (lv_at hl 0 rfl) ?_
      refine lv_iconst (v := 2) hx hb dX6_checkIn_40 (by decide) ?_
      refine c_mVi (rest := []) hC hE hP hD hS mt_same (metX6_no l (thr G 0) T 2) gc_RX6_110 hd_X6_no ⟨rfl, rfl⟩ ⟨Nat.le_of_ble_eq_true rfl, Nat.le_of_ble_eq_true rfl⟩ 0 gw_0 rfl rfl hl.1 (Nat.le_of_ble_eq_true rfl) ⟨Nat.le_of_ble_eq_true rfl, Nat.le_of_ble_eq_true rfl⟩ dX6_checkIn_41 (fun H locs hP hD hS => ?_)
      have e9 : qcheckIn_g G T f z v n nf = thr (thr G 0) 2 := by rw [qcheckIn_g, sel_t (show mIn f 0 (nI nf - 1) from c_1), sel_f (show ¬ (mIn z 1 9) from c_2)]; first | done | rfl
      have e8 : qcheckIn_t G T f z v n nf = T := by rw [qcheckIn_t, sel_t (show mIn f 0 (nI nf - 1) from c_1), sel_f (show ¬ (mIn z 1 9) from c_2)]; first | done | rfl
      exact m_iret hx hb hr hlk dX6_checkIn_44 (by rw [e9, e8]; exact hP) hS (by rw [qcheckIn_r, sel_t (show mIn f 0 (nI nf - 1) from c_1), sel_f (show ¬ (mIn z 1 9) from c_2)]; first | done | rfl)
    · have c_2 := bI_n c_2
      refine lv_iload_n hx hb dX6_checkIn_29 rfl (lv_at hl 3 rfl) ?_
      refine lv_iconst (v := 0) hx hb dX6_checkIn_30 (by decide) ?_
      refine lv_bipush (v := 9) hx hb dX6_checkIn_31 (by decide) ?_
      refine c_pSi (rest := []) hC hE hP (metX6_isIn l v 0 9) gc_RX6_52 hd_X6_isIn ⟨rfl, rfl⟩ ⟨Nat.le_of_ble_eq_true rfl, Nat.le_of_ble_eq_true rfl⟩ rfl hl.1 (Nat.le_of_ble_eq_true rfl) ⟨Nat.le_of_ble_eq_true rfl, Nat.le_of_ble_eq_true rfl⟩ dX6_checkIn_33 ?_
      refine lv_if_ne (tgt := 45) hx hb dX6_checkIn_36 (by decide) (fun c_3 => ?_) (fun c_3 => ?_)
      · have c_3 := bI_n c_3
        refine lv_aload_n hx hb dX6_checkIn_45 rfl (lv_at hl 0 rfl) ?_
        refine va_get (D := D) (ci := 6) (v := .int (G 0 3)) (C := RX6) (T := TX6) (N := 13) hx hb hts tu_6 hown hE.1 hP 0 gw_0 rfl 6 (by decide) (hts _ tw_791) (fun _ h9 => h9) rfl dX6_checkIn_46 ?_
        refine w_top (hn) ?_
        refine lv_bipush (v := 40) hx hb dX6_checkIn_49 (by decide) ?_
        refine lv_icmp_eq (tgt := 63) hx hb dX6_checkIn_51 (by decide) (fun c_4 => ?_) (fun c_4 => ?_)
        · refine lv_aload_n hx hb dX6_checkIn_63 rfl (lv_at hl 0 rfl) ?_
          refine lv_iconst (v := 3) hx hb dX6_checkIn_64 (by decide) ?_
          refine c_mVi (rest := []) hC hE hP hD hS mt_same (metX6_no l (thr G 0) T 3) gc_RX6_110 hd_X6_no ⟨rfl, rfl⟩ ⟨Nat.le_of_ble_eq_true rfl, Nat.le_of_ble_eq_true rfl⟩ 0 gw_0 rfl rfl hl.1 (Nat.le_of_ble_eq_true rfl) ⟨Nat.le_of_ble_eq_true rfl, Nat.le_of_ble_eq_true rfl⟩ dX6_checkIn_65 (fun H locs hP hD hS => ?_)
          have e9 : qcheckIn_g G T f z v n nf = thr (thr G 0) 3 := by rw [qcheckIn_g, sel_t (show mIn f 0 (nI nf - 1) from c_1), sel_t (show mIn z 1 9 from c_2), sel_t (show mIn v 0 9 from c_3), sel_t (show nI n = 40 from c_4)]; first | done | rfl
          have e8 : qcheckIn_t G T f z v n nf = T := by rw [qcheckIn_t, sel_t (show mIn f 0 (nI nf - 1) from c_1), sel_t (show mIn z 1 9 from c_2), sel_t (show mIn v 0 9 from c_3), sel_t (show nI n = 40 from c_4)]; first | done | rfl
          exact m_iret hx hb hr hlk dX6_checkIn_68 (by rw [e9, e8]; exact hP) hS (by rw [qcheckIn_r, sel_t (show mIn f 0 (nI nf - 1) from c_1), sel_t (show mIn z 1 9 from c_2), sel_t (show mIn v 0 9 from c_3), sel_t (show nI n = 40 from c_4)]; first | done | rfl)
        · have hlt : n < 40 := by rcases Nat.lt_or_ge n 40 with q_ | q_; exact q_; exact absurd (by rw [show n = 40 by omega]; rfl) c_4
          refine lv_aload_n hx hb dX6_checkIn_54 rfl (lv_at hl 0 rfl) ?_
          refine va_get (D := D) (ci := 6) (v := .ref (g 2)) (C := RX6) (T := TX6) (N := 13) hx hb hts tu_6 hown hE.1 hP 0 gw_0 rfl 3 (by decide) (hts _ tw_788) (fun _ h9 => h9) rfl dX6_checkIn_55 ?_
          refine lv_iload_n hx hb dX6_checkIn_58 rfl (lv_at hl 1 rfl) ?_
          refine k_zald (j := (ix f)) hx hb hE hP 2 gw_2 (Nat.lt_of_lt_of_le hx_f.2 hnf6) (by decide) dX6_checkIn_59 ?_
          refine lv_if_eq (tgt := 69) hx hb dX6_checkIn_60 (by decide) (fun c_5 => ?_) (fun c_5 => ?_)
          · refine lv_aload_n hx hb dX6_checkIn_69 rfl (lv_at hl 0 rfl) ?_
            refine va_get (D := D) (ci := 6) (v := .ref (g 4)) (C := RX6) (T := TX6) (N := 13) hx hb hts tu_6 hown hE.1 hP 0 gw_0 rfl 7 (by decide) (hts _ tw_792) (fun _ h9 => h9) rfl dX6_checkIn_70 ?_
            refine lv_aload_n hx hb dX6_checkIn_73 rfl (lv_at hl 0 rfl) ?_
            refine va_get (D := D) (ci := 6) (v := .int (G 0 3)) (C := RX6) (T := TX6) (N := 13) hx hb hts tu_6 hown hE.1 hP 0 gw_0 rfl 6 (by decide) (hts _ tw_791) (fun _ h9 => h9) rfl dX6_checkIn_74 ?_
            refine w_top (hn) ?_
            refine lv_iload_n hx hb dX6_checkIn_77 rfl (lv_at hl 1 rfl) ?_
            refine k_iast (j := n) hx hb hE hP hD hS 4 gw_4 hlt (by decide) dX6_checkIn_78 (fun H locs hP hD hS => ?_)
            rw [gwq_4 (G := (thr G 0)) (f := upd ((thr G 0) 4) n (nI (ix f))) (f2 := upd (G 4) n (nI (ix f))) rfl] at hP hD
            refine lv_aload_n hx hb dX6_checkIn_79 rfl (lv_at hl 0 rfl) ?_
            refine va_get (D := D) (ci := 6) (v := .ref (g 5)) (C := RX6) (T := TX6) (N := 13) hx hb hts tu_6 hown hE.1 hP 0 gw_0 rfl 8 (by decide) (hts _ tw_793) (fun _ h9 => h9) rfl dX6_checkIn_80 ?_
            refine lv_aload_n hx hb dX6_checkIn_83 rfl (lv_at hl 0 rfl) ?_
            refine va_get (D := D) (ci := 6) (v := .int (G 0 3)) (C := RX6) (T := TX6) (N := 13) hx hb hts tu_6 hown hE.1 hP 0 gw_0 rfl 6 (by decide) (hts _ tw_791) (fun _ h9 => h9) rfl dX6_checkIn_84 ?_
            refine w_top (hn) ?_
            refine lv_iload_n hx hb dX6_checkIn_87 rfl (lv_at hl 2 rfl) ?_
            refine k_iast (j := n) hx hb hE hP hD hS 5 gw_5 hlt (by decide) dX6_checkIn_88 (fun H locs hP hD hS => ?_)
            rw [gwq_5 (G := (sf (thr G 0) 4 (upd (G 4) n (nI (ix f))))) (f := upd ((sf (thr G 0) 4 (upd (G 4) n (nI (ix f)))) 5) n z) (f2 := upd (G 5) n z) rfl] at hP hD
            refine lv_aload_n hx hb dX6_checkIn_89 rfl (lv_at hl 0 rfl) ?_
            refine va_get (D := D) (ci := 6) (v := .ref (g 6)) (C := RX6) (T := TX6) (N := 13) hx hb hts tu_6 hown hE.1 hP 0 gw_0 rfl 9 (by decide) (hts _ tw_794) (fun _ h9 => h9) rfl dX6_checkIn_90 ?_
            refine lv_aload_n hx hb dX6_checkIn_93 rfl (lv_at hl 0 rfl) ?_
            refine va_get (D := D) (ci := 6) (v := .int (G 0 3)) (C := RX6) (T := TX6) (N := 13) hx hb hts tu_6 hown hE.1 hP 0 gw_0 rfl 6 (by decide) (hts _ tw_791) (fun _ h9 => h9) rfl dX6_checkIn_94 ?_
            refine w_top (hn) ?_
            refine lv_iload_n hx hb dX6_checkIn_97 rfl (lv_at hl 3 rfl) ?_
            refine k_iast (j := n) hx hb hE hP hD hS 6 gw_6 hlt (by decide) dX6_checkIn_98 (fun H locs hP hD hS => ?_)
            rw [gwq_6 (G := (sf (sf (thr G 0) 4 (upd (G 4) n (nI (ix f)))) 5 (upd (G 5) n z))) (f := upd ((sf (sf (thr G 0) 4 (upd (G 4) n (nI (ix f)))) 5 (upd (G 5) n z)) 6) n v) (f2 := upd (G 6) n v) rfl] at hP hD
            refine lv_aload_n hx hb dX6_checkIn_99 rfl (lv_at hl 0 rfl) ?_
            refine va_get (D := D) (ci := 6) (v := .ref (g 7)) (C := RX6) (T := TX6) (N := 13) hx hb hts tu_6 hown hE.1 hP 0 gw_0 rfl 10 (by decide) (hts _ tw_795) (fun _ h9 => h9) rfl dX6_checkIn_100 ?_
            refine lv_aload_n hx hb dX6_checkIn_103 rfl (lv_at hl 0 rfl) ?_
            refine va_get (D := D) (ci := 6) (v := .int (G 0 3)) (C := RX6) (T := TX6) (N := 13) hx hb hts tu_6 hown hE.1 hP 0 gw_0 rfl 6 (by decide) (hts _ tw_791) (fun _ h9 => h9) rfl dX6_checkIn_104 ?_
            refine w_top (hn) ?_
            refine lv_iconst (v := 0) hx hb dX6_checkIn_107 (by decide) ?_
            refine k_iast (j := n) hx hb hE hP hD hS 7 gw_7 hlt (by decide) dX6_checkIn_108 (fun H locs hP hD hS => ?_)
            rw [gwq_7 (G := (sf (sf (sf (thr G 0) 4 (upd (G 4) n (nI (ix f)))) 5 (upd (G 5) n z)) 6 (upd (G 6) n v))) (f := upd ((sf (sf (sf (thr G 0) 4 (upd (G 4) n (nI (ix f)))) 5 (upd (G 5) n z)) 6 (upd (G 6) n v)) 7) n 0) (f2 := upd (G 7) n 0) rfl] at hP hD
            refine lv_aload_n hx hb dX6_checkIn_109 rfl (lv_at hl 0 rfl) ?_
            refine lv_aload_n hx hb dX6_checkIn_110 rfl (lv_at hl 0 rfl) ?_
            refine va_get (D := D) (ci := 6) (v := .int (G 0 3)) (C := RX6) (T := TX6) (N := 13) hx hb hts tu_6 hown hE.1 hP 0 gw_0 rfl 6 (by decide) (hts _ tw_791) (fun _ h9 => h9) rfl dX6_checkIn_111 ?_
            refine w_top (hn) ?_
            refine c_mVv (rest := []) hC hE hP hD hS mt_same (metX6_begin l (sf (sf (sf (sf (thr G 0) 4 (upd (G 4) n (nI (ix f)))) 5 (upd (G 5) n z)) 6 (upd (G 6) n v)) 7 (upd (G 7) n 0)) T n hlt (fun _ => hLn (by omega))) gc_RX6_125 hd_X6_begin ⟨rfl, rfl⟩ ⟨Nat.le_of_ble_eq_true rfl, Nat.le_of_ble_eq_true rfl⟩ 0 gw_0 rfl rfl hl.1 (Nat.le_of_ble_eq_true rfl) ⟨Nat.le_of_ble_eq_true rfl, Nat.le_of_ble_eq_true rfl⟩ dX6_checkIn_114 (fun H locs hP hD hS => ?_)
            refine lv_aload_n hx hb dX6_checkIn_117 rfl (lv_at hl 0 rfl) ?_
            refine lv_dup hx hb dX6_checkIn_118 rfl ?_
            refine va_get (D := D) (ci := 6) (v := .int (G 0 3)) (C := RX6) (T := TX6) (N := 13) hx hb hts tu_6 hown hE.1 hP 0 gw_0 rfl 6 (by decide) (hts _ tw_791) (fun _ h9 => h9) rfl dX6_checkIn_119 ?_
            refine lv_iconst (v := 1) hx hb dX6_checkIn_122 (by decide) ?_
            refine lv_iadd hx hb dX6_checkIn_123 ?_
            refine va_put (D := D) (ci := 6) (v := .int ((G 0 3) + 1)) (ty := .int) (C := RX6) (T := TX6) (N := 13) hx hb hts tu_6 tyX6 tyX6_ok nmX6 hown hE.1 hP hD hS 0 gw_0 rfl 6 (by decide) (hts _ tw_791) (fun _ h9 => h9) rfl (by decide +kernel) rfl rfl (Nat.le_of_ble_eq_true rfl) dX6_checkIn_124 (fun H locs hP hD hS => ?_)
            rw [gwp_03 (G := (sf (sf (sf (sf (thr G 0) 4 (upd (G 4) n (nI (ix f)))) 5 (upd (G 5) n z)) 6 (upd (G 6) n v)) 7 (upd (G 7) n 0))) (v := ((G 0 3) + 1)) (f := upd ((sf (sf (sf (sf (thr G 0) 4 (upd (G 4) n (nI (ix f)))) 5 (upd (G 5) n z)) 6 (upd (G 6) n v)) 7 (upd (G 7) n 0)) 0) 3 ((G 0 3) + 1)) rfl] at hP hD
            refine lv_aload_n hx hb dX6_checkIn_127 rfl (lv_at hl 0 rfl) ?_
            refine va_get (D := D) (ci := 6) (v := .int ((G 0 3) + 1)) (C := RX6) (T := TX6) (N := 13) hx hb hts tu_6 hown hE.1 hP 0 gw_0 rfl 6 (by decide) (hts _ tw_791) (fun _ h9 => h9) rfl dX6_checkIn_128 ?_
            refine lv_iconst (v := 1) hx hb dX6_checkIn_131 (by decide) ?_
            refine lv_isub hx hb dX6_checkIn_132 ?_
            refine w_top ((show G 0 3 + 1 - 1 = nI n by rw [hn, nI_1]; exact isub1 (Nat.succ_pos n))) ?_
            have e9 : qcheckIn_g G T f z v n nf = sf (sf (sf (sf (sf (thr G 0) 4 (upd (G 4) n (nI (ix f)))) 5 (upd (G 5) n z)) 6 (upd (G 6) n v)) 7 (upd (G 7) n 0)) 0 (upd ((sf (sf (sf (sf (thr G 0) 4 (upd (G 4) n (nI (ix f)))) 5 (upd (G 5) n z)) 6 (upd (G 6) n v)) 7 (upd (G 7) n 0)) 0) 3 ((G 0 3) + 1)) := by rw [qcheckIn_g, sel_t (show mIn f 0 (nI nf - 1) from c_1), sel_t (show mIn z 1 9 from c_2), sel_t (show mIn v 0 9 from c_3), sel_f (show ¬ (nI n = 40) from c_4), sel_t (show G 2 (ix f) = 0 from c_5)]; first | done | rfl
            have e8 : qcheckIn_t G T f z v n nf = mBegin (sf (sf (sf (sf (thr G 0) 4 (upd (G 4) n (nI (ix f)))) 5 (upd (G 5) n z)) 6 (upd (G 6) n v)) 7 (upd (G 7) n 0)) T n := by rw [qcheckIn_t, sel_t (show mIn f 0 (nI nf - 1) from c_1), sel_t (show mIn z 1 9 from c_2), sel_t (show mIn v 0 9 from c_3), sel_f (show ¬ (nI n = 40) from c_4), sel_t (show G 2 (ix f) = 0 from c_5)]; first | done | rfl
            exact m_iret hx hb hr hlk dX6_checkIn_133 (by rw [e9, e8]; exact hP) hS (by rw [qcheckIn_r, sel_t (show mIn f 0 (nI nf - 1) from c_1), sel_t (show mIn z 1 9 from c_2), sel_t (show mIn v 0 9 from c_3), sel_f (show ¬ (nI n = 40) from c_4), sel_t (show G 2 (ix f) = 0 from c_5)]; first | done | rfl)
          · refine lv_aload_n hx hb dX6_checkIn_63 rfl (lv_at hl 0 rfl) ?_
            refine lv_iconst (v := 3) hx hb dX6_checkIn_64 (by decide) ?_
            refine c_mVi (rest := []) hC hE hP hD hS mt_same (metX6_no l (thr G 0) T 3) gc_RX6_110 hd_X6_no ⟨rfl, rfl⟩ ⟨Nat.le_of_ble_eq_true rfl, Nat.le_of_ble_eq_true rfl⟩ 0 gw_0 rfl rfl hl.1 (Nat.le_of_ble_eq_true rfl) ⟨Nat.le_of_ble_eq_true rfl, Nat.le_of_ble_eq_true rfl⟩ dX6_checkIn_65 (fun H locs hP hD hS => ?_)
            have e9 : qcheckIn_g G T f z v n nf = thr (thr G 0) 3 := by rw [qcheckIn_g, sel_t (show mIn f 0 (nI nf - 1) from c_1), sel_t (show mIn z 1 9 from c_2), sel_t (show mIn v 0 9 from c_3), sel_f (show ¬ (nI n = 40) from c_4), sel_f (show ¬ (G 2 (ix f) = 0) from c_5)]; first | done | rfl
            have e8 : qcheckIn_t G T f z v n nf = T := by rw [qcheckIn_t, sel_t (show mIn f 0 (nI nf - 1) from c_1), sel_t (show mIn z 1 9 from c_2), sel_t (show mIn v 0 9 from c_3), sel_f (show ¬ (nI n = 40) from c_4), sel_f (show ¬ (G 2 (ix f) = 0) from c_5)]; first | done | rfl
            exact m_iret hx hb hr hlk dX6_checkIn_68 (by rw [e9, e8]; exact hP) hS (by rw [qcheckIn_r, sel_t (show mIn f 0 (nI nf - 1) from c_1), sel_t (show mIn z 1 9 from c_2), sel_t (show mIn v 0 9 from c_3), sel_f (show ¬ (nI n = 40) from c_4), sel_f (show ¬ (G 2 (ix f) = 0) from c_5)]; first | done | rfl)
      · have c_3 := bI_0 c_3
        refine lv_aload_n hx hb dX6_checkIn_39 rfl (lv_at hl 0 rfl) ?_
        refine lv_iconst (v := 2) hx hb dX6_checkIn_40 (by decide) ?_
        refine c_mVi (rest := []) hC hE hP hD hS mt_same (metX6_no l (thr G 0) T 2) gc_RX6_110 hd_X6_no ⟨rfl, rfl⟩ ⟨Nat.le_of_ble_eq_true rfl, Nat.le_of_ble_eq_true rfl⟩ 0 gw_0 rfl rfl hl.1 (Nat.le_of_ble_eq_true rfl) ⟨Nat.le_of_ble_eq_true rfl, Nat.le_of_ble_eq_true rfl⟩ dX6_checkIn_41 (fun H locs hP hD hS => ?_)
        have e9 : qcheckIn_g G T f z v n nf = thr (thr G 0) 2 := by rw [qcheckIn_g, sel_t (show mIn f 0 (nI nf - 1) from c_1), sel_t (show mIn z 1 9 from c_2), sel_f (show ¬ (mIn v 0 9) from c_3)]; first | done | rfl
        have e8 : qcheckIn_t G T f z v n nf = T := by rw [qcheckIn_t, sel_t (show mIn f 0 (nI nf - 1) from c_1), sel_t (show mIn z 1 9 from c_2), sel_f (show ¬ (mIn v 0 9) from c_3)]; first | done | rfl
        exact m_iret hx hb hr hlk dX6_checkIn_44 (by rw [e9, e8]; exact hP) hS (by rw [qcheckIn_r, sel_t (show mIn f 0 (nI nf - 1) from c_1), sel_t (show mIn z 1 9 from c_2), sel_f (show ¬ (mIn v 0 9) from c_3)]; first | done | rfl)
  · have c_1 := bI_0 c_1
    refine lv_aload_n hx hb dX6_checkIn_13 rfl (lv_at hl 0 rfl) ?_
    refine lv_iconst (v := 1) hx hb dX6_checkIn_14 (by decide) ?_
    refine c_mVi (rest := []) hC hE hP hD hS mt_same (metX6_no l (thr G 0) T 1) gc_RX6_110 hd_X6_no ⟨rfl, rfl⟩ ⟨Nat.le_of_ble_eq_true rfl, Nat.le_of_ble_eq_true rfl⟩ 0 gw_0 rfl rfl hl.1 (Nat.le_of_ble_eq_true rfl) ⟨Nat.le_of_ble_eq_true rfl, Nat.le_of_ble_eq_true rfl⟩ dX6_checkIn_15 (fun H locs hP hD hS => ?_)
    have e9 : qcheckIn_g G T f z v n nf = thr (thr G 0) 1 := by rw [qcheckIn_g, sel_f (show ¬ (mIn f 0 (nI nf - 1)) from c_1)]; first | done | rfl
    have e8 : qcheckIn_t G T f z v n nf = T := by rw [qcheckIn_t, sel_f (show ¬ (mIn f 0 (nI nf - 1)) from c_1)]; first | done | rfl
    exact m_iret hx hb hr hlk dX6_checkIn_18 (by rw [e9, e8]; exact hP) hS (by rw [qcheckIn_r, sel_f (show ¬ (mIn f 0 (nI nf - 1)) from c_1)]; first | done | rfl)

set_option maxHeartbeats 4000000 in
set_option maxRecDepth 100000 in
theorem metX6_carry (l : Launch) {D : va_G} {k : Nat → ClassId} {g t : Nat → Nat} {sq : Nat} {R : va_W} (G T : HS) (b : Int32) (n : Nat) (hn : G 0 3 = nI n) (hn40 : n ≤ 40) (nf : Nat) (hnf : G 0 1 = nI nf) (hnf6 : nf ≤ 6) (hF : okF G) (hZ : ∀ f_, f_ < 6 → G 2 f_ = 0 ∨ G 2 f_ = 1) (hC4 : okC G) : MM l yX6_carry cX6_carry 4 (some FieldType.int) rmX6_carry D k (gw k g (t 0) sq G ++ (tw k t T ++ R)) [.ref (g 0), .int b] (some (.int (qcarry_r G T b n nf))) (gw k g (t 0) sq (qcarry_g G T b n nf) ++ (tw k t (qcarry_t G T b n nf) ++ R)) := by
  refine MM_of rfl (Nat.le_of_ble_eq_true rfl) ?_
  intro p e s m below meth c hC hr hlk hin hE hP hD hS ls hl
  have hC : CallFix p m c cX6_carry 4 s _ lw_all RX6 := hC
  have hx := hC.1
  have hb := hC.2.1
  have hown : s.vm.findClass RX6 = some m.cls := hC.2.2.2.1
  have hts := hC.2.2.2.2
  have hl : lv_has ls 4 [(0, .ref (g 0)), (1, .int b)] := hl
  refine lv_aload_n hx hb dX6_carry_0 rfl (lv_at hl 0 rfl) ?_
  refine lv_iconst (v := 0) hx hb dX6_carry_1 (by decide) ?_
  refine va_put (D := D) (ci := 6) (v := .int 0) (ty := .int) (C := RX6) (T := TX6) (N := 13) hx hb hts tu_6 tyX6 tyX6_ok nmX6 hown hE.1 hP hD hS 0 gw_0 rfl 0 (by decide) (hts _ tw_785) (fun _ h9 => h9) rfl (by decide +kernel) rfl rfl (Nat.le_of_ble_eq_true rfl) dX6_carry_2 (fun H locs hP hD hS => ?_)
  rw [gwp_t (G := G) (v := 0)] at hP hD
  refine lv_aload_n hx hb dX6_carry_5 rfl (lv_at hl 0 rfl) ?_
  refine lv_iload_n hx hb dX6_carry_6 rfl (lv_at hl 1 rfl) ?_
  refine c_pVi (rest := []) hC hE hP (metX6_isBag l (thr G 0) T b) gc_RX6_128 hd_X6_isBag ⟨rfl, rfl⟩ ⟨Nat.le_of_ble_eq_true rfl, Nat.le_of_ble_eq_true rfl⟩ 0 gw_0 rfl rfl hl.1 (Nat.le_of_ble_eq_true rfl) ⟨Nat.le_of_ble_eq_true rfl, Nat.le_of_ble_eq_true rfl⟩ dX6_carry_7 ?_
  refine w_top (congrArg (fun z_ => bI (mIn b 0 (z_ - 1))) (show _ = nI n from hn)) ?_
  refine lv_if_ne (tgt := 19) hx hb dX6_carry_10 (by decide) (fun c_1 => ?_) (fun c_1 => ?_)
  · have c_1 := bI_n c_1
    have hx_b := mIn_n hn40 c_1
    have hl : lv_has ls 4 [(0, .ref (g 0)), (1, .int (nI (ix b)))] := by rw [← hx_b.1]; exact hl
    refine lv_aload_n hx hb dX6_carry_19 rfl (lv_at hl 0 rfl) ?_
    refine va_get (D := D) (ci := 6) (v := .ref (g 4)) (C := RX6) (T := TX6) (N := 13) hx hb hts tu_6 hown hE.1 hP 0 gw_0 rfl 7 (by decide) (hts _ tw_792) (fun _ h9 => h9) rfl dX6_carry_20 ?_
    refine lv_iload_n hx hb dX6_carry_23 rfl (lv_at hl 1 rfl) ?_
    refine k_iald (j := (ix b)) hx hb hE hP 4 gw_4 (Nat.lt_of_lt_of_le hx_b.2 hn40) (by decide) dX6_carry_24 ?_
    refine w_top ((hF _ (Nat.lt_of_lt_of_le hx_b.2 hn40)).1) ?_
    refine lv_istore_n (lv' := [(2, .int (nI (ix (G 4 (ix b))))), (0, .ref (g 0)), (1, .int (nI (ix b)))]) hx hb dX6_carry_25 rfl hl (by decide) rfl (fun ls hl => ?_)
    refine lv_aload_n hx hb dX6_carry_26 rfl (lv_at hl 1 rfl) ?_
    refine va_get (D := D) (ci := 6) (v := .ref (g 1)) (C := RX6) (T := TX6) (N := 13) hx hb hts tu_6 hown hE.1 hP 0 gw_0 rfl 2 (by decide) (hts _ tw_787) (fun _ h9 => h9) rfl dX6_carry_27 ?_
    refine lv_iload_n hx hb dX6_carry_30 rfl (lv_at hl 0 rfl) ?_
    refine k_iald (j := (ix (G 4 (ix b)))) hx hb hE hP 1 gw_1 (hF _ (Nat.lt_of_lt_of_le hx_b.2 hn40)).2 (by decide) dX6_carry_31 ?_
    refine lv_istore_n (lv' := [(3, .int (G 1 (ix (G 4 (ix b))))), (2, .int (nI (ix (G 4 (ix b))))), (0, .ref (g 0)), (1, .int (nI (ix b)))]) hx hb dX6_carry_32 rfl hl (by decide) rfl (fun ls hl => ?_)
    refine lv_aload_n hx hb dX6_carry_33 rfl (lv_at hl 2 rfl) ?_
    refine lv_iload_n hx hb dX6_carry_34 rfl (lv_at hl 3 rfl) ?_
    refine c_pVi (rest := []) hC hE hP (metX6_isAside l (thr G 0) T (ix b) (Nat.lt_of_lt_of_le hx_b.2 hn40)) gc_RX6_131 hd_X6_isAside ⟨rfl, rfl⟩ ⟨Nat.le_of_ble_eq_true rfl, Nat.le_of_ble_eq_true rfl⟩ 0 gw_0 rfl rfl hl.1 (Nat.le_of_ble_eq_true rfl) ⟨Nat.le_of_ble_eq_true rfl, Nat.le_of_ble_eq_true rfl⟩ dX6_carry_35 ?_
    refine lv_if_eq (tgt := 73) hx hb dX6_carry_38 (by decide) (fun c_2 => ?_) (fun c_2 => ?_)
    · have c_2 := bI_0 c_2
      refine lv_aload_n hx hb dX6_carry_73 rfl (lv_at hl 2 rfl) ?_
      refine lv_iconst (v := 2) hx hb dX6_carry_74 (by decide) ?_
      refine c_mVi (rest := []) hC hE hP hD hS mt_same (metX6_no l (thr G 0) T 2) gc_RX6_110 hd_X6_no ⟨rfl, rfl⟩ ⟨Nat.le_of_ble_eq_true rfl, Nat.le_of_ble_eq_true rfl⟩ 0 gw_0 rfl rfl hl.1 (Nat.le_of_ble_eq_true rfl) ⟨Nat.le_of_ble_eq_true rfl, Nat.le_of_ble_eq_true rfl⟩ dX6_carry_75 (fun H locs hP hD hS => ?_)
      have e9 : qcarry_g G T b n nf = thr (thr G 0) 2 := by rw [qcarry_g, sel_t (show mIn b 0 (nI n - 1) from c_1), sel_f (show ¬ (mAside T (ix b)) from c_2)]; first | done | rfl
      have e8 : qcarry_t G T b n nf = T := by rw [qcarry_t, sel_t (show mIn b 0 (nI n - 1) from c_1), sel_f (show ¬ (mAside T (ix b)) from c_2)]; first | done | rfl
      exact m_iret hx hb hr hlk dX6_carry_78 (by rw [e9, e8]; exact hP) hS (by rw [qcarry_r, sel_t (show mIn b 0 (nI n - 1) from c_1), sel_f (show ¬ (mAside T (ix b)) from c_2)]; first | done | rfl)
    · have c_2 := bI_n c_2
      refine lv_aload_n hx hb dX6_carry_41 rfl (lv_at hl 2 rfl) ?_
      refine va_get (D := D) (ci := 6) (v := .ref (g 2)) (C := RX6) (T := TX6) (N := 13) hx hb hts tu_6 hown hE.1 hP 0 gw_0 rfl 3 (by decide) (hts _ tw_788) (fun _ h9 => h9) rfl dX6_carry_42 ?_
      refine lv_iload_n hx hb dX6_carry_45 rfl (lv_at hl 1 rfl) ?_
      refine k_zald (j := (ix (G 4 (ix b)))) hx hb hE hP 2 gw_2 (hF _ (Nat.lt_of_lt_of_le hx_b.2 hn40)).2 (by decide) dX6_carry_46 ?_
      refine lv_if_ne (tgt := 73) hx hb dX6_carry_47 (by decide) (fun c_3 => ?_) (fun c_3 => ?_)
      · refine lv_aload_n hx hb dX6_carry_73 rfl (lv_at hl 2 rfl) ?_
        refine lv_iconst (v := 2) hx hb dX6_carry_74 (by decide) ?_
        refine c_mVi (rest := []) hC hE hP hD hS mt_same (metX6_no l (thr G 0) T 2) gc_RX6_110 hd_X6_no ⟨rfl, rfl⟩ ⟨Nat.le_of_ble_eq_true rfl, Nat.le_of_ble_eq_true rfl⟩ 0 gw_0 rfl rfl hl.1 (Nat.le_of_ble_eq_true rfl) ⟨Nat.le_of_ble_eq_true rfl, Nat.le_of_ble_eq_true rfl⟩ dX6_carry_75 (fun H locs hP hD hS => ?_)
        have e9 : qcarry_g G T b n nf = thr (thr G 0) 2 := by rw [qcarry_g, sel_t (show mIn b 0 (nI n - 1) from c_1), sel_t (show mAside T (ix b) from c_2), sel_f (show ¬ (G 2 (ix (G 4 (ix b))) = 0) from c_3)]; first | done | rfl
        have e8 : qcarry_t G T b n nf = T := by rw [qcarry_t, sel_t (show mIn b 0 (nI n - 1) from c_1), sel_t (show mAside T (ix b) from c_2), sel_f (show ¬ (G 2 (ix (G 4 (ix b))) = 0) from c_3)]; first | done | rfl
        exact m_iret hx hb hr hlk dX6_carry_78 (by rw [e9, e8]; exact hP) hS (by rw [qcarry_r, sel_t (show mIn b 0 (nI n - 1) from c_1), sel_t (show mAside T (ix b) from c_2), sel_f (show ¬ (G 2 (ix (G 4 (ix b))) = 0) from c_3)]; first | done | rfl)
      · refine lv_iload_n hx hb dX6_carry_50 rfl (lv_at hl 0 rfl) ?_
        refine lv_iconst (v := (-1)) hx hb dX6_carry_51 (by decide) ?_
        refine lv_icmp_eq (tgt := 73) hx hb dX6_carry_52 (by decide) (fun c_4 => ?_) (fun c_4 => ?_)
        · refine lv_aload_n hx hb dX6_carry_73 rfl (lv_at hl 2 rfl) ?_
          refine lv_iconst (v := 2) hx hb dX6_carry_74 (by decide) ?_
          refine c_mVi (rest := []) hC hE hP hD hS mt_same (metX6_no l (thr G 0) T 2) gc_RX6_110 hd_X6_no ⟨rfl, rfl⟩ ⟨Nat.le_of_ble_eq_true rfl, Nat.le_of_ble_eq_true rfl⟩ 0 gw_0 rfl rfl hl.1 (Nat.le_of_ble_eq_true rfl) ⟨Nat.le_of_ble_eq_true rfl, Nat.le_of_ble_eq_true rfl⟩ dX6_carry_75 (fun H locs hP hD hS => ?_)
          have e9 : qcarry_g G T b n nf = thr (thr G 0) 2 := by rw [qcarry_g, sel_t (show mIn b 0 (nI n - 1) from c_1), sel_t (show mAside T (ix b) from c_2), sel_t (show G 2 (ix (G 4 (ix b))) = 0 from c_3), sel_t (show G 1 (ix (G 4 (ix b))) = (-1) from c_4)]; first | done | rfl
          have e8 : qcarry_t G T b n nf = T := by rw [qcarry_t, sel_t (show mIn b 0 (nI n - 1) from c_1), sel_t (show mAside T (ix b) from c_2), sel_t (show G 2 (ix (G 4 (ix b))) = 0 from c_3), sel_t (show G 1 (ix (G 4 (ix b))) = (-1) from c_4)]; first | done | rfl
          exact m_iret hx hb hr hlk dX6_carry_78 (by rw [e9, e8]; exact hP) hS (by rw [qcarry_r, sel_t (show mIn b 0 (nI n - 1) from c_1), sel_t (show mAside T (ix b) from c_2), sel_t (show G 2 (ix (G 4 (ix b))) = 0 from c_3), sel_t (show G 1 (ix (G 4 (ix b))) = (-1) from c_4)]; first | done | rfl)
        · have hc4 := hC4 _ (hF _ (Nat.lt_of_lt_of_le hx_b.2 hn40)).2 c_4
          have hl : lv_has ls 4 [(3, .int (nI (ix (G 1 (ix (G 4 (ix b))))))), (2, .int (nI (ix (G 4 (ix b))))), (0, .ref (g 0)), (1, .int (nI (ix b)))] := by rw [← hc4.1]; exact hl
          refine lv_aload_n hx hb dX6_carry_55 rfl (lv_at hl 2 rfl) ?_
          refine va_get (D := D) (ci := 6) (v := .ref (t 0)) (C := RX6) (T := TX6) (N := 13) hx hb hts tu_6 hown hE.1 hP 0 gw_0 rfl 11 (by decide) (hts _ tw_796) (fun _ h9 => h9) rfl dX6_carry_56 ?_
          refine va_getN (D := D) (ci := 5) (v := .ref (t 7)) (C := RX5) (T := TX5) (N := 9) hx hb hts tu_5 hown hE.1 hP 8 mt_0 rfl 8 (by decide) (va_Nw.use rfl hE.2.2.2.2.2.2.2.2) (fun _ h9 => h9) rfl dX6_carry_59 ?_
          refine lv_iload_n hx hb dX6_carry_62 rfl (lv_at hl 0 rfl) ?_
          refine k_iald (j := (ix (G 1 (ix (G 4 (ix b)))))) hx hb hE hP 15 mt_7 hc4.2 (by decide) dX6_carry_63 ?_
          refine lv_aload_n hx hb dX6_carry_64 rfl (lv_at hl 2 rfl) ?_
          refine va_get (D := D) (ci := 6) (v := .ref (g 3)) (C := RX6) (T := TX6) (N := 13) hx hb hts tu_6 hown hE.1 hP 0 gw_0 rfl 4 (by decide) (hts _ tw_789) (fun _ h9 => h9) rfl dX6_carry_65 ?_
          refine lv_iload_n hx hb dX6_carry_68 rfl (lv_at hl 0 rfl) ?_
          refine k_iald (j := (ix (G 1 (ix (G 4 (ix b)))))) hx hb hE hP 3 gw_3 hc4.2 (by decide) dX6_carry_69 ?_
          refine lv_icmp_lt (tgt := 79) hx hb dX6_carry_70 (by decide) (fun c_5 => ?_) (fun c_5 => ?_)
          · refine lv_aload_n hx hb dX6_carry_79 rfl (lv_at hl 2 rfl) ?_
            refine va_get (D := D) (ci := 6) (v := .ref (t 0)) (C := RX6) (T := TX6) (N := 13) hx hb hts tu_6 hown hE.1 hP 0 gw_0 rfl 11 (by decide) (hts _ tw_796) (fun _ h9 => h9) rfl dX6_carry_80 ?_
            refine lv_iload_n hx hb dX6_carry_83 rfl (lv_at hl 3 rfl) ?_
            refine lv_iload_n hx hb dX6_carry_84 rfl (lv_at hl 0 rfl) ?_
            refine c_mVv (rest := []) hC hE hP hD hS mt_same (metX5_toChute l (thr G 0) T (ix b) (ix (G 1 (ix (G 4 (ix b))))) (Nat.lt_of_lt_of_le hx_b.2 hn40) hc4.2) gc_RX6_75 hd_X5_toChute ⟨rfl, rfl⟩ ⟨Nat.le_of_ble_eq_true rfl, Nat.le_of_ble_eq_true rfl⟩ 8 mt_0 rfl rfl hl.1 (Nat.le_of_ble_eq_true rfl) ⟨Nat.le_of_ble_eq_true rfl, Nat.le_of_ble_eq_true rfl⟩ dX6_carry_85 (fun H locs hP hD hS => ?_)
            refine lv_iload_n hx hb dX6_carry_88 rfl (lv_at hl 0 rfl) ?_
            have e9 : qcarry_g G T b n nf = thr G 0 := by rw [qcarry_g, sel_t (show mIn b 0 (nI n - 1) from c_1), sel_t (show mAside T (ix b) from c_2), sel_t (show G 2 (ix (G 4 (ix b))) = 0 from c_3), sel_f (show ¬ (G 1 (ix (G 4 (ix b))) = (-1)) from c_4), sel_t (show T 7 (ix (G 1 (ix (G 4 (ix b))))) < G 3 (ix (G 1 (ix (G 4 (ix b))))) from c_5)]; first | done | rfl
            have e8 : qcarry_t G T b n nf = mToCh T (ix b) (ix (G 1 (ix (G 4 (ix b))))) := by rw [qcarry_t, sel_t (show mIn b 0 (nI n - 1) from c_1), sel_t (show mAside T (ix b) from c_2), sel_t (show G 2 (ix (G 4 (ix b))) = 0 from c_3), sel_f (show ¬ (G 1 (ix (G 4 (ix b))) = (-1)) from c_4), sel_t (show T 7 (ix (G 1 (ix (G 4 (ix b))))) < G 3 (ix (G 1 (ix (G 4 (ix b))))) from c_5)]; first | done | rfl
            exact m_iret hx hb hr hlk dX6_carry_89 (by rw [e9, e8]; exact hP) hS (by rw [qcarry_r, sel_t (show mIn b 0 (nI n - 1) from c_1), sel_t (show mAside T (ix b) from c_2), sel_t (show G 2 (ix (G 4 (ix b))) = 0 from c_3), sel_f (show ¬ (G 1 (ix (G 4 (ix b))) = (-1)) from c_4), sel_t (show T 7 (ix (G 1 (ix (G 4 (ix b))))) < G 3 (ix (G 1 (ix (G 4 (ix b))))) from c_5)]; first | done | rfl)
          · refine lv_aload_n hx hb dX6_carry_73 rfl (lv_at hl 2 rfl) ?_
            refine lv_iconst (v := 2) hx hb dX6_carry_74 (by decide) ?_
            refine c_mVi (rest := []) hC hE hP hD hS mt_same (metX6_no l (thr G 0) T 2) gc_RX6_110 hd_X6_no ⟨rfl, rfl⟩ ⟨Nat.le_of_ble_eq_true rfl, Nat.le_of_ble_eq_true rfl⟩ 0 gw_0 rfl rfl hl.1 (Nat.le_of_ble_eq_true rfl) ⟨Nat.le_of_ble_eq_true rfl, Nat.le_of_ble_eq_true rfl⟩ dX6_carry_75 (fun H locs hP hD hS => ?_)
            have e9 : qcarry_g G T b n nf = thr (thr G 0) 2 := by rw [qcarry_g, sel_t (show mIn b 0 (nI n - 1) from c_1), sel_t (show mAside T (ix b) from c_2), sel_t (show G 2 (ix (G 4 (ix b))) = 0 from c_3), sel_f (show ¬ (G 1 (ix (G 4 (ix b))) = (-1)) from c_4), sel_f (show ¬ (T 7 (ix (G 1 (ix (G 4 (ix b))))) < G 3 (ix (G 1 (ix (G 4 (ix b)))))) from c_5)]; first | done | rfl
            have e8 : qcarry_t G T b n nf = T := by rw [qcarry_t, sel_t (show mIn b 0 (nI n - 1) from c_1), sel_t (show mAside T (ix b) from c_2), sel_t (show G 2 (ix (G 4 (ix b))) = 0 from c_3), sel_f (show ¬ (G 1 (ix (G 4 (ix b))) = (-1)) from c_4), sel_f (show ¬ (T 7 (ix (G 1 (ix (G 4 (ix b))))) < G 3 (ix (G 1 (ix (G 4 (ix b)))))) from c_5)]; first | done | rfl
            exact m_iret hx hb hr hlk dX6_carry_78 (by rw [e9, e8]; exact hP) hS (by rw [qcarry_r, sel_t (show mIn b 0 (nI n - 1) from c_1), sel_t (show mAside T (ix b) from c_2), sel_t (show G 2 (ix (G 4 (ix b))) = 0 from c_3), sel_f (show ¬ (G 1 (ix (G 4 (ix b))) = (-1)) from c_4), sel_f (show ¬ (T 7 (ix (G 1 (ix (G 4 (ix b))))) < G 3 (ix (G 1 (ix (G 4 (ix b)))))) from c_5)]; first | done | rfl)
  · have c_1 := bI_0 c_1
    refine lv_aload_n hx hb dX6_carry_13 rfl (lv_at hl 0 rfl) ?_
    refine lv_iconst (v := 1) hx hb dX6_carry_14 (by decide) ?_
    refine c_mVi (rest := []) hC hE hP hD hS mt_same (metX6_no l (thr G 0) T 1) gc_RX6_110 hd_X6_no ⟨rfl, rfl⟩ ⟨Nat.le_of_ble_eq_true rfl, Nat.le_of_ble_eq_true rfl⟩ 0 gw_0 rfl rfl hl.1 (Nat.le_of_ble_eq_true rfl) ⟨Nat.le_of_ble_eq_true rfl, Nat.le_of_ble_eq_true rfl⟩ dX6_carry_15 (fun H locs hP hD hS => ?_)
    have e9 : qcarry_g G T b n nf = thr (thr G 0) 1 := by rw [qcarry_g, sel_f (show ¬ (mIn b 0 (nI n - 1)) from c_1)]; first | done | rfl
    have e8 : qcarry_t G T b n nf = T := by rw [qcarry_t, sel_f (show ¬ (mIn b 0 (nI n - 1)) from c_1)]; first | done | rfl
    exact m_iret hx hb hr hlk dX6_carry_18 (by rw [e9, e8]; exact hP) hS (by rw [qcarry_r, sel_f (show ¬ (mIn b 0 (nI n - 1)) from c_1)]; first | done | rfl)

set_option maxHeartbeats 4000000 in
set_option maxRecDepth 100000 in
theorem metX6_forward (l : Launch) {D : va_G} {k : Nat → ClassId} {g t : Nat → Nat} {sq : Nat} {R : va_W} (G T : HS) (b : Int32) (f : Int32) (n : Nat) (hn : G 0 3 = nI n) (hn40 : n ≤ 40) (nf : Nat) (hnf : G 0 1 = nI nf) (hnf6 : nf ≤ 6) (hF : okF G) (hZ : ∀ f_, f_ < 6 → G 2 f_ = 0 ∨ G 2 f_ = 1) (hLs : ∀ b_, b_ < n → mAside T b_ → T 0 1 = nI (ix (T 0 1)) ∧ ix (T 0 1) < 40) : MM l yX6_forward cX6_forward 3 (some FieldType.int) rmX6_forward D k (gw k g (t 0) sq G ++ (tw k t T ++ R)) [.ref (g 0), .int b, .int f] (some (.int (qforward_r G T b f n nf))) (gw k g (t 0) sq (qforward_g G T b f n nf) ++ (tw k t (qforward_t G T b f n nf) ++ R)) := by
  refine MM_of rfl (Nat.le_of_ble_eq_true rfl) ?_
  intro p e s m below meth c hC hr hlk hin hE hP hD hS ls hl
  have hC : CallFix p m c cX6_forward 3 s _ lw_all RX6 := hC
  have hx := hC.1
  have hb := hC.2.1
  have hown : s.vm.findClass RX6 = some m.cls := hC.2.2.2.1
  have hts := hC.2.2.2.2
  have hl : lv_has ls 3 [(0, .ref (g 0)), (1, .int b), (2, .int f)] := hl
  refine lv_aload_n hx hb dX6_forward_0 rfl (lv_at hl 0 rfl) ?_
  refine lv_iconst (v := 0) hx hb dX6_forward_1 (by decide) ?_
  refine va_put (D := D) (ci := 6) (v := .int 0) (ty := .int) (C := RX6) (T := TX6) (N := 13) hx hb hts tu_6 tyX6 tyX6_ok nmX6 hown hE.1 hP hD hS 0 gw_0 rfl 0 (by decide) (hts _ tw_785) (fun _ h9 => h9) rfl (by decide +kernel) rfl rfl (Nat.le_of_ble_eq_true rfl) dX6_forward_2 (fun H locs hP hD hS => ?_)
  rw [gwp_t (G := G) (v := 0)] at hP hD
  refine lv_aload_n hx hb dX6_forward_5 rfl (lv_at hl 0 rfl) ?_
  refine lv_iload_n hx hb dX6_forward_6 rfl (lv_at hl 1 rfl) ?_
  refine c_pVi (rest := []) hC hE hP (metX6_isBag l (thr G 0) T b) gc_RX6_128 hd_X6_isBag ⟨rfl, rfl⟩ ⟨Nat.le_of_ble_eq_true rfl, Nat.le_of_ble_eq_true rfl⟩ 0 gw_0 rfl rfl hl.1 (Nat.le_of_ble_eq_true rfl) ⟨Nat.le_of_ble_eq_true rfl, Nat.le_of_ble_eq_true rfl⟩ dX6_forward_7 ?_
  refine w_top (congrArg (fun z_ => bI (mIn b 0 (z_ - 1))) (show _ = nI n from hn)) ?_
  refine lv_if_eq (tgt := 21) hx hb dX6_forward_10 (by decide) (fun c_1 => ?_) (fun c_1 => ?_)
  · have c_1 := bI_0 c_1
    refine lv_aload_n hx hb dX6_forward_21 rfl (lv_at hl 0 rfl) ?_
    refine lv_iconst (v := 1) hx hb dX6_forward_22 (by decide) ?_
    refine c_mVi (rest := []) hC hE hP hD hS mt_same (metX6_no l (thr G 0) T 1) gc_RX6_110 hd_X6_no ⟨rfl, rfl⟩ ⟨Nat.le_of_ble_eq_true rfl, Nat.le_of_ble_eq_true rfl⟩ 0 gw_0 rfl rfl hl.1 (Nat.le_of_ble_eq_true rfl) ⟨Nat.le_of_ble_eq_true rfl, Nat.le_of_ble_eq_true rfl⟩ dX6_forward_23 (fun H locs hP hD hS => ?_)
    have e9 : qforward_g G T b f n nf = thr (thr G 0) 1 := by rw [qforward_g, sel_f (show ¬ (mIn b 0 (nI n - 1)) from c_1)]; first | done | rfl
    have e8 : qforward_t G T b f n nf = T := by rw [qforward_t, sel_f (show ¬ (mIn b 0 (nI n - 1)) from c_1)]; first | done | rfl
    exact m_iret hx hb hr hlk dX6_forward_26 (by rw [e9, e8]; exact hP) hS (by rw [qforward_r, sel_f (show ¬ (mIn b 0 (nI n - 1)) from c_1)]; first | done | rfl)
  · have c_1 := bI_n c_1
    have hx_b := mIn_n hn40 c_1
    have hl : lv_has ls 3 [(0, .ref (g 0)), (1, .int (nI (ix b))), (2, .int f)] := by rw [← hx_b.1]; exact hl
    refine lv_aload_n hx hb dX6_forward_13 rfl (lv_at hl 0 rfl) ?_
    refine lv_iload_n hx hb dX6_forward_14 rfl (lv_at hl 2 rfl) ?_
    refine c_pVi (rest := []) hC hE hP (metX6_isFlight l (thr G 0) T f) gc_RX6_114 hd_X6_isFlight ⟨rfl, rfl⟩ ⟨Nat.le_of_ble_eq_true rfl, Nat.le_of_ble_eq_true rfl⟩ 0 gw_0 rfl rfl hl.1 (Nat.le_of_ble_eq_true rfl) ⟨Nat.le_of_ble_eq_true rfl, Nat.le_of_ble_eq_true rfl⟩ dX6_forward_15 ?_
    refine w_top (congrArg (fun z_ => bI (mIn f 0 (z_ - 1))) (show _ = nI nf from hnf)) ?_
    refine lv_if_ne (tgt := 27) hx hb dX6_forward_18 (by decide) (fun c_2 => ?_) (fun c_2 => ?_)
    · have c_2 := bI_n c_2
      have hx_f := mIn_n (Nat.le_trans hnf6 (by decide)) c_2
      have hl : lv_has ls 3 [(0, .ref (g 0)), (1, .int (nI (ix b))), (2, .int (nI (ix f)))] := by rw [← hx_f.1]; exact hl
      refine lv_aload_n hx hb dX6_forward_27 rfl (lv_at hl 0 rfl) ?_
      refine lv_iload_n hx hb dX6_forward_28 rfl (lv_at hl 1 rfl) ?_
      refine c_pVi (rest := []) hC hE hP (metX6_isAside l (thr G 0) T (ix b) (Nat.lt_of_lt_of_le hx_b.2 hn40)) gc_RX6_131 hd_X6_isAside ⟨rfl, rfl⟩ ⟨Nat.le_of_ble_eq_true rfl, Nat.le_of_ble_eq_true rfl⟩ 0 gw_0 rfl rfl hl.1 (Nat.le_of_ble_eq_true rfl) ⟨Nat.le_of_ble_eq_true rfl, Nat.le_of_ble_eq_true rfl⟩ dX6_forward_29 ?_
      refine lv_if_eq (tgt := 58) hx hb dX6_forward_32 (by decide) (fun c_3 => ?_) (fun c_3 => ?_)
      · have c_3 := bI_0 c_3
        refine lv_aload_n hx hb dX6_forward_58 rfl (lv_at hl 0 rfl) ?_
        refine lv_iconst (v := 2) hx hb dX6_forward_59 (by decide) ?_
        refine c_mVi (rest := []) hC hE hP hD hS mt_same (metX6_no l (thr G 0) T 2) gc_RX6_110 hd_X6_no ⟨rfl, rfl⟩ ⟨Nat.le_of_ble_eq_true rfl, Nat.le_of_ble_eq_true rfl⟩ 0 gw_0 rfl rfl hl.1 (Nat.le_of_ble_eq_true rfl) ⟨Nat.le_of_ble_eq_true rfl, Nat.le_of_ble_eq_true rfl⟩ dX6_forward_60 (fun H locs hP hD hS => ?_)
        have e9 : qforward_g G T b f n nf = thr (thr G 0) 2 := by rw [qforward_g, sel_t (show mIn b 0 (nI n - 1) from c_1), sel_t (show mIn f 0 (nI nf - 1) from c_2), sel_f (show ¬ (mAside T (ix b)) from c_3)]; first | done | rfl
        have e8 : qforward_t G T b f n nf = T := by rw [qforward_t, sel_t (show mIn b 0 (nI n - 1) from c_1), sel_t (show mIn f 0 (nI nf - 1) from c_2), sel_f (show ¬ (mAside T (ix b)) from c_3)]; first | done | rfl
        exact m_iret hx hb hr hlk dX6_forward_63 (by rw [e9, e8]; exact hP) hS (by rw [qforward_r, sel_t (show mIn b 0 (nI n - 1) from c_1), sel_t (show mIn f 0 (nI nf - 1) from c_2), sel_f (show ¬ (mAside T (ix b)) from c_3)]; first | done | rfl)
      · have c_3 := bI_n c_3
        refine lv_aload_n hx hb dX6_forward_35 rfl (lv_at hl 0 rfl) ?_
        refine va_get (D := D) (ci := 6) (v := .ref (g 2)) (C := RX6) (T := TX6) (N := 13) hx hb hts tu_6 hown hE.1 hP 0 gw_0 rfl 3 (by decide) (hts _ tw_788) (fun _ h9 => h9) rfl dX6_forward_36 ?_
        refine lv_aload_n hx hb dX6_forward_39 rfl (lv_at hl 0 rfl) ?_
        refine va_get (D := D) (ci := 6) (v := .ref (g 4)) (C := RX6) (T := TX6) (N := 13) hx hb hts tu_6 hown hE.1 hP 0 gw_0 rfl 7 (by decide) (hts _ tw_792) (fun _ h9 => h9) rfl dX6_forward_40 ?_
        refine lv_iload_n hx hb dX6_forward_43 rfl (lv_at hl 1 rfl) ?_
        refine k_iald (j := (ix b)) hx hb hE hP 4 gw_4 (Nat.lt_of_lt_of_le hx_b.2 hn40) (by decide) dX6_forward_44 ?_
        refine w_top ((hF _ (Nat.lt_of_lt_of_le hx_b.2 hn40)).1) ?_
        refine k_zald (j := (ix (G 4 (ix b)))) hx hb hE hP 2 gw_2 (hF _ (Nat.lt_of_lt_of_le hx_b.2 hn40)).2 (by decide) dX6_forward_45 ?_
        refine lv_if_eq (tgt := 58) hx hb dX6_forward_46 (by decide) (fun c_4 => ?_) (fun c_4 => ?_)
        · refine lv_aload_n hx hb dX6_forward_58 rfl (lv_at hl 0 rfl) ?_
          refine lv_iconst (v := 2) hx hb dX6_forward_59 (by decide) ?_
          refine c_mVi (rest := []) hC hE hP hD hS mt_same (metX6_no l (thr G 0) T 2) gc_RX6_110 hd_X6_no ⟨rfl, rfl⟩ ⟨Nat.le_of_ble_eq_true rfl, Nat.le_of_ble_eq_true rfl⟩ 0 gw_0 rfl rfl hl.1 (Nat.le_of_ble_eq_true rfl) ⟨Nat.le_of_ble_eq_true rfl, Nat.le_of_ble_eq_true rfl⟩ dX6_forward_60 (fun H locs hP hD hS => ?_)
          have e9 : qforward_g G T b f n nf = thr (thr G 0) 2 := by rw [qforward_g, sel_t (show mIn b 0 (nI n - 1) from c_1), sel_t (show mIn f 0 (nI nf - 1) from c_2), sel_t (show mAside T (ix b) from c_3), sel_f (show ¬ (¬ (G 2 (ix (G 4 (ix b))) = 0)) from (fun h_ => h_ c_4))]; first | done | rfl
          have e8 : qforward_t G T b f n nf = T := by rw [qforward_t, sel_t (show mIn b 0 (nI n - 1) from c_1), sel_t (show mIn f 0 (nI nf - 1) from c_2), sel_t (show mAside T (ix b) from c_3), sel_f (show ¬ (¬ (G 2 (ix (G 4 (ix b))) = 0)) from (fun h_ => h_ c_4))]; first | done | rfl
          exact m_iret hx hb hr hlk dX6_forward_63 (by rw [e9, e8]; exact hP) hS (by rw [qforward_r, sel_t (show mIn b 0 (nI n - 1) from c_1), sel_t (show mIn f 0 (nI nf - 1) from c_2), sel_t (show mAside T (ix b) from c_3), sel_f (show ¬ (¬ (G 2 (ix (G 4 (ix b))) = 0)) from (fun h_ => h_ c_4))]; first | done | rfl)
        · refine lv_aload_n hx hb dX6_forward_49 rfl (lv_at hl 0 rfl) ?_
          refine va_get (D := D) (ci := 6) (v := .ref (g 2)) (C := RX6) (T := TX6) (N := 13) hx hb hts tu_6 hown hE.1 hP 0 gw_0 rfl 3 (by decide) (hts _ tw_788) (fun _ h9 => h9) rfl dX6_forward_50 ?_
          refine lv_iload_n hx hb dX6_forward_53 rfl (lv_at hl 2 rfl) ?_
          refine k_zald (j := (ix f)) hx hb hE hP 2 gw_2 (Nat.lt_of_lt_of_le hx_f.2 hnf6) (by decide) dX6_forward_54 ?_
          refine lv_if_eq (tgt := 64) hx hb dX6_forward_55 (by decide) (fun c_5 => ?_) (fun c_5 => ?_)
          · refine lv_aload_n hx hb dX6_forward_64 rfl (lv_at hl 0 rfl) ?_
            refine va_get (D := D) (ci := 6) (v := .ref (g 4)) (C := RX6) (T := TX6) (N := 13) hx hb hts tu_6 hown hE.1 hP 0 gw_0 rfl 7 (by decide) (hts _ tw_792) (fun _ h9 => h9) rfl dX6_forward_65 ?_
            refine lv_iload_n hx hb dX6_forward_68 rfl (lv_at hl 1 rfl) ?_
            refine lv_iload_n hx hb dX6_forward_69 rfl (lv_at hl 2 rfl) ?_
            refine k_iast (j := (ix b)) hx hb hE hP hD hS 4 gw_4 (Nat.lt_of_lt_of_le hx_b.2 hn40) (by decide) dX6_forward_70 (fun H locs hP hD hS => ?_)
            rw [gwq_4 (G := (thr G 0)) (f := upd ((thr G 0) 4) (ix b) (nI (ix f))) (f2 := upd (G 4) (ix b) (nI (ix f))) rfl] at hP hD
            refine lv_aload_n hx hb dX6_forward_71 rfl (lv_at hl 0 rfl) ?_
            refine lv_iload_n hx hb dX6_forward_72 rfl (lv_at hl 1 rfl) ?_
            refine c_mVv (rest := []) hC hE hP hD hS mt_same (metX6_begin l (sf (thr G 0) 4 (upd (G 4) (ix b) (nI (ix f)))) T (ix b) (Nat.lt_of_lt_of_le hx_b.2 hn40) (fun _ => hLs _ hx_b.2 c_3)) gc_RX6_125 hd_X6_begin ⟨rfl, rfl⟩ ⟨Nat.le_of_ble_eq_true rfl, Nat.le_of_ble_eq_true rfl⟩ 0 gw_0 rfl rfl hl.1 (Nat.le_of_ble_eq_true rfl) ⟨Nat.le_of_ble_eq_true rfl, Nat.le_of_ble_eq_true rfl⟩ dX6_forward_73 (fun H locs hP hD hS => ?_)
            refine lv_aload_n hx hb dX6_forward_76 rfl (lv_at hl 0 rfl) ?_
            refine lv_iload_n hx hb dX6_forward_77 rfl (lv_at hl 1 rfl) ?_
            refine c_mVv (rest := []) hC hE hP hD hS mt_same (metX6_close l (sf (thr G 0) 4 (upd (G 4) (ix b) (nI (ix f)))) (mBegin (sf (thr G 0) 4 (upd (G 4) (ix b) (nI (ix f)))) T (ix b)) (ix b) (Nat.lt_of_lt_of_le hx_b.2 hn40)) gc_RX6_134 hd_X6_close ⟨rfl, rfl⟩ ⟨Nat.le_of_ble_eq_true rfl, Nat.le_of_ble_eq_true rfl⟩ 0 gw_0 rfl rfl hl.1 (Nat.le_of_ble_eq_true rfl) ⟨Nat.le_of_ble_eq_true rfl, Nat.le_of_ble_eq_true rfl⟩ dX6_forward_78 (fun H locs hP hD hS => ?_)
            refine lv_aload_n hx hb dX6_forward_81 rfl (lv_at hl 0 rfl) ?_
            refine va_get (D := D) (ci := 6) (v := .ref (t 0)) (C := RX6) (T := TX6) (N := 13) hx hb hts tu_6 hown hE.1 hP 0 gw_0 rfl 11 (by decide) (hts _ tw_796) (fun _ h9 => h9) rfl dX6_forward_82 ?_
            refine va_getN (D := D) (ci := 5) (v := .int ((mBegin (sf (thr G 0) 4 (upd (G 4) (ix b) (nI (ix f)))) T (ix b)) 0 1)) (C := RX5) (T := TX5) (N := 9) hx hb hts tu_5 hown hE.1 hP 8 mt_0 rfl 7 (by decide) (va_Nw.use rfl hE.2.2.2.2.2.2.2.1) (fun _ h9 => h9) rfl dX6_forward_85 ?_
            have e9 : qforward_g G T b f n nf = mClose (sf (thr G 0) 4 (upd (G 4) (ix b) (nI (ix f)))) (ix b) := by rw [qforward_g, sel_t (show mIn b 0 (nI n - 1) from c_1), sel_t (show mIn f 0 (nI nf - 1) from c_2), sel_t (show mAside T (ix b) from c_3), sel_t (show (¬ (G 2 (ix (G 4 (ix b))) = 0)) from c_4), sel_t (show G 2 (ix f) = 0 from c_5)]; first | done | rfl
            have e8 : qforward_t G T b f n nf = mBegin (sf (thr G 0) 4 (upd (G 4) (ix b) (nI (ix f)))) T (ix b) := by rw [qforward_t, sel_t (show mIn b 0 (nI n - 1) from c_1), sel_t (show mIn f 0 (nI nf - 1) from c_2), sel_t (show mAside T (ix b) from c_3), sel_t (show (¬ (G 2 (ix (G 4 (ix b))) = 0)) from c_4), sel_t (show G 2 (ix f) = 0 from c_5)]; first | done | rfl
            exact m_iret hx hb hr hlk dX6_forward_88 (by rw [e9, e8]; exact hP) hS (by rw [qforward_r, sel_t (show mIn b 0 (nI n - 1) from c_1), sel_t (show mIn f 0 (nI nf - 1) from c_2), sel_t (show mAside T (ix b) from c_3), sel_t (show (¬ (G 2 (ix (G 4 (ix b))) = 0)) from c_4), sel_t (show G 2 (ix f) = 0 from c_5)]; first | done | rfl)
          · refine lv_aload_n hx hb dX6_forward_58 rfl (lv_at hl 0 rfl) ?_
            refine lv_iconst (v := 2) hx hb dX6_forward_59 (by decide) ?_
            refine c_mVi (rest := []) hC hE hP hD hS mt_same (metX6_no l (thr G 0) T 2) gc_RX6_110 hd_X6_no ⟨rfl, rfl⟩ ⟨Nat.le_of_ble_eq_true rfl, Nat.le_of_ble_eq_true rfl⟩ 0 gw_0 rfl rfl hl.1 (Nat.le_of_ble_eq_true rfl) ⟨Nat.le_of_ble_eq_true rfl, Nat.le_of_ble_eq_true rfl⟩ dX6_forward_60 (fun H locs hP hD hS => ?_)
            have e9 : qforward_g G T b f n nf = thr (thr G 0) 2 := by rw [qforward_g, sel_t (show mIn b 0 (nI n - 1) from c_1), sel_t (show mIn f 0 (nI nf - 1) from c_2), sel_t (show mAside T (ix b) from c_3), sel_t (show (¬ (G 2 (ix (G 4 (ix b))) = 0)) from c_4), sel_f (show ¬ (G 2 (ix f) = 0) from c_5)]; first | done | rfl
            have e8 : qforward_t G T b f n nf = T := by rw [qforward_t, sel_t (show mIn b 0 (nI n - 1) from c_1), sel_t (show mIn f 0 (nI nf - 1) from c_2), sel_t (show mAside T (ix b) from c_3), sel_t (show (¬ (G 2 (ix (G 4 (ix b))) = 0)) from c_4), sel_f (show ¬ (G 2 (ix f) = 0) from c_5)]; first | done | rfl
            exact m_iret hx hb hr hlk dX6_forward_63 (by rw [e9, e8]; exact hP) hS (by rw [qforward_r, sel_t (show mIn b 0 (nI n - 1) from c_1), sel_t (show mIn f 0 (nI nf - 1) from c_2), sel_t (show mAside T (ix b) from c_3), sel_t (show (¬ (G 2 (ix (G 4 (ix b))) = 0)) from c_4), sel_f (show ¬ (G 2 (ix f) = 0) from c_5)]; first | done | rfl)
    · have c_2 := bI_0 c_2
      refine lv_aload_n hx hb dX6_forward_21 rfl (lv_at hl 0 rfl) ?_
      refine lv_iconst (v := 1) hx hb dX6_forward_22 (by decide) ?_
      refine c_mVi (rest := []) hC hE hP hD hS mt_same (metX6_no l (thr G 0) T 1) gc_RX6_110 hd_X6_no ⟨rfl, rfl⟩ ⟨Nat.le_of_ble_eq_true rfl, Nat.le_of_ble_eq_true rfl⟩ 0 gw_0 rfl rfl hl.1 (Nat.le_of_ble_eq_true rfl) ⟨Nat.le_of_ble_eq_true rfl, Nat.le_of_ble_eq_true rfl⟩ dX6_forward_23 (fun H locs hP hD hS => ?_)
      have e9 : qforward_g G T b f n nf = thr (thr G 0) 1 := by rw [qforward_g, sel_t (show mIn b 0 (nI n - 1) from c_1), sel_f (show ¬ (mIn f 0 (nI nf - 1)) from c_2)]; first | done | rfl
      have e8 : qforward_t G T b f n nf = T := by rw [qforward_t, sel_t (show mIn b 0 (nI n - 1) from c_1), sel_f (show ¬ (mIn f 0 (nI nf - 1)) from c_2)]; first | done | rfl
      exact m_iret hx hb hr hlk dX6_forward_26 (by rw [e9, e8]; exact hP) hS (by rw [qforward_r, sel_t (show mIn b 0 (nI n - 1) from c_1), sel_f (show ¬ (mIn f 0 (nI nf - 1)) from c_2)]; first | done | rfl)

set_option maxHeartbeats 4000000 in
set_option maxRecDepth 100000 in
theorem metX6_sweep (l : Launch) {D : va_G} {k : Nat → ClassId} {g t : Nat → Nat} {sq : Nat} {R : va_W} (G T : HS) (ch : Int32) (n : Nat) (hn : G 0 3 = nI n) (hn40 : n ≤ 40) (nf : Nat) (hnf : G 0 1 = nI nf) (hnf6 : nf ≤ 6) (hF : okF G) (hZ : ∀ f_, f_ < 6 → G 2 f_ = 0 ∨ G 2 f_ = 1) : MM l yX6_sweep cX6_sweep 4 (some FieldType.int) rmX6_sweep D k (gw k g (t 0) sq G ++ (tw k t T ++ R)) [.ref (g 0), .int ch] (some (.int (qsweep_r G T ch n nf))) (gw k g (t 0) sq (qsweep_g G T ch n nf) ++ (tw k t (qsweep_t G T ch n nf) ++ R)) := by
  refine MM_of rfl (Nat.le_of_ble_eq_true rfl) ?_
  intro p e s m below meth c hC hr hlk hin hE hP hD hS ls hl
  have hC : CallFix p m c cX6_sweep 4 s _ lw_all RX6 := hC
  have hx := hC.1
  have hb := hC.2.1
  have hown : s.vm.findClass RX6 = some m.cls := hC.2.2.2.1
  have hts := hC.2.2.2.2
  have hl : lv_has ls 4 [(0, .ref (g 0)), (1, .int ch)] := hl
  refine lv_aload_n hx hb dX6_sweep_0 rfl (lv_at hl 0 rfl) ?_
  refine lv_iconst (v := 0) hx hb dX6_sweep_1 (by decide) ?_
  refine va_put (D := D) (ci := 6) (v := .int 0) (ty := .int) (C := RX6) (T := TX6) (N := 13) hx hb hts tu_6 tyX6 tyX6_ok nmX6 hown hE.1 hP hD hS 0 gw_0 rfl 0 (by decide) (hts _ tw_785) (fun _ h9 => h9) rfl (by decide +kernel) rfl rfl (Nat.le_of_ble_eq_true rfl) dX6_sweep_2 (fun H locs hP hD hS => ?_)
  rw [gwp_t (G := G) (v := 0)] at hP hD
  refine lv_iload_n hx hb dX6_sweep_5 rfl (lv_at hl 1 rfl) ?_
  refine c_pSi (rest := []) hC hE hP (metX6_isChute l ch) gc_RX6_118 hd_X6_isChute ⟨rfl, rfl⟩ ⟨Nat.le_of_ble_eq_true rfl, Nat.le_of_ble_eq_true rfl⟩ rfl hl.1 (Nat.le_of_ble_eq_true rfl) ⟨Nat.le_of_ble_eq_true rfl, Nat.le_of_ble_eq_true rfl⟩ dX6_sweep_6 ?_
  refine lv_if_ne (tgt := 18) hx hb dX6_sweep_9 (by decide) (fun c_1 => ?_) (fun c_1 => ?_)
  · have c_1 := bI_n c_1
    have hx_ch := mIn_k (n := 3) (by decide) c_1
    have hl : lv_has ls 4 [(0, .ref (g 0)), (1, .int (nI (ix ch)))] := by rw [← hx_ch.1]; exact hl
    refine lv_iconst (v := 0) hx hb dX6_sweep_18 (by decide) ?_
    refine lv_istore_n (lv' := [(2, .int 0), (0, .ref (g 0)), (1, .int (nI (ix ch)))]) hx hb dX6_sweep_19 rfl hl (by decide) rfl (fun ls hl => ?_)
    refine lv_iconst (v := 0) hx hb dX6_sweep_20 (by decide) ?_
    refine lv_istore_n (lv' := [(3, .int 0), (2, .int 0), (0, .ref (g 0)), (1, .int (nI (ix ch)))]) hx hb dX6_sweep_21 rfl hl (by decide) rfl (fun ls hl => ?_)
    refine w_forM (N := n) (fun _ => True) (fun i => [(0, .ref (g 0)), (1, .int (nI (ix ch))), (2, .int (nI (mSw (thr G 0) T (ix ch) i).1)), (3, .int (nI i))]) (fun i => (gw k g (t 0) sq (mSw (thr G 0) T (ix ch) i).2.1 ++ (tw k t (mSw (thr G 0) T (ix ch) i).2.2 ++ R))) (fun ls H locs hI hl hP hD hS => ?_) (fun i hi hI ih ls H locs hl hP hD hS => ?_) 0 (Nat.zero_le _) trivial (lv_sub hl [2, 3, 1, 0] rfl) hP hD hS
    · have hl : lv_has ls 4 [(0, .ref (g 0)), (1, .int (nI (ix ch))), (2, .int (nI (mSw (thr G 0) T (ix ch) n).1)), (3, .int (nI n))] := hl
      have hP : va_P D vwCl (gw k g (t 0) sq (mSw (thr G 0) T (ix ch) n).2.1 ++ (tw k t (mSw (thr G 0) T (ix ch) n).2.2 ++ R)) H := hP
      have hD : va_D (va_in (gw k g (t 0) sq G ++ (tw k t T ++ R))) (gw k g (t 0) sq (mSw (thr G 0) T (ix ch) n).2.1 ++ (tw k t (mSw (thr G 0) T (ix ch) n).2.2 ++ R)) := hD
      refine lv_iload_n hx hb dX6_sweep_22 rfl (lv_at hl 3 rfl) ?_
      refine lv_aload_n hx hb dX6_sweep_23 rfl (lv_at hl 0 rfl) ?_
      refine va_get (D := D) (ci := 6) (v := .int ((mSw (thr G 0) T (ix ch) n).2.1 0 3)) (C := RX6) (T := TX6) (N := 13) hx hb hts tu_6 hown hE.1 hP 0 gw_0 rfl 6 (by decide) (hts _ tw_791) (fun _ h9 => h9) rfl dX6_sweep_24 ?_
      refine w_top ((congrFun (mSw_g (thr G 0) T (ix ch) (j := 0) (by decide) _) 3).trans hn) ?_
      refine lv_icmp_ge (tgt := 91) hx hb dX6_sweep_27 (by decide) (fun c_2 => ?_) (fun c_ => absurd (nI_le (Nat.le_refl n) (by omega)) c_)
      refine lv_iload_n hx hb dX6_sweep_91 rfl (lv_at hl 2 rfl) ?_
      have e9 : qsweep_g G T ch n nf = (mSw (thr G 0) T (ix ch) n).2.1 := by rw [qsweep_g, sel_t (show mIn ch 0 3 from c_1)]; first | done | rfl
      have e8 : qsweep_t G T ch n nf = (mSw (thr G 0) T (ix ch) n).2.2 := by rw [qsweep_t, sel_t (show mIn ch 0 3 from c_1)]; first | done | rfl
      exact m_iret hx hb hr hlk dX6_sweep_92 (by rw [e9, e8]; exact hP) hS (by rw [qsweep_r, sel_t (show mIn ch 0 3 from c_1)]; first | done | rfl)
    · have hl : lv_has ls 4 [(0, .ref (g 0)), (1, .int (nI (ix ch))), (2, .int (nI (mSw (thr G 0) T (ix ch) i).1)), (3, .int (nI i))] := hl
      have hP : va_P D vwCl (gw k g (t 0) sq (mSw (thr G 0) T (ix ch) i).2.1 ++ (tw k t (mSw (thr G 0) T (ix ch) i).2.2 ++ R)) H := hP
      have hD : va_D (va_in (gw k g (t 0) sq G ++ (tw k t T ++ R))) (gw k g (t 0) sq (mSw (thr G 0) T (ix ch) i).2.1 ++ (tw k t (mSw (thr G 0) T (ix ch) i).2.2 ++ R)) := hD
      refine lv_iload_n hx hb dX6_sweep_22 rfl (lv_at hl 3 rfl) ?_
      refine lv_aload_n hx hb dX6_sweep_23 rfl (lv_at hl 0 rfl) ?_
      refine va_get (D := D) (ci := 6) (v := .int ((mSw (thr G 0) T (ix ch) i).2.1 0 3)) (C := RX6) (T := TX6) (N := 13) hx hb hts tu_6 hown hE.1 hP 0 gw_0 rfl 6 (by decide) (hts _ tw_791) (fun _ h9 => h9) rfl dX6_sweep_24 ?_
      refine w_top ((congrFun (mSw_g (thr G 0) T (ix ch) (j := 0) (by decide) _) 3).trans hn) ?_
      refine lv_icmp_ge (tgt := 91) hx hb dX6_sweep_27 (by decide) (fun c_ => absurd c_ (nI_ge hi (by omega))) (fun c_3 => ?_)
      refine lv_aload_n hx hb dX6_sweep_30 rfl (lv_at hl 0 rfl) ?_
      refine lv_iload_n hx hb dX6_sweep_31 rfl (lv_at hl 3 rfl) ?_
      refine c_pVi (rest := []) hC hE hP (metX6_misrouted l (mSw (thr G 0) T (ix ch) i).2.1 (mSw (thr G 0) T (ix ch) i).2.2 i (by omega) (okF_c hF (mSw_g (thr G 0) T (ix ch) (by decide) i))) gc_RX6_137 hd_X6_misrouted ⟨rfl, rfl⟩ ⟨Nat.le_of_ble_eq_true rfl, Nat.le_of_ble_eq_true rfl⟩ 0 gw_0 rfl rfl hl.1 (Nat.le_of_ble_eq_true rfl) ⟨Nat.le_of_ble_eq_true rfl, Nat.le_of_ble_eq_true rfl⟩ dX6_sweep_32 ?_
      refine lv_if_eq (tgt := 85) hx hb dX6_sweep_35 (by decide) (fun c_4 => ?_) (fun c_4 => ?_)
      · have c_4 := bI_0 c_4
        refine lv_iinc (v := nI (i + 1)) (lv' := [(3, .int (nI (i + 1))), (0, .ref (g 0)), (1, .int (nI (ix ch))), (2, .int (nI (mSw (thr G 0) T (ix ch) i).1))]) hx hb dX6_sweep_85 hl (k := 3) rfl (iinc1 _) (by decide) rfl (fun ls hl => ?_)
        refine lv_goto (tgt := 22) hx hb dX6_sweep_88 (by decide) ?_
        have e9 : mSw (thr G 0) T (ix ch) (i + 1) = (mSw (thr G 0) T (ix ch) i) := (by show mSwS (ix ch) i (mSw (thr G 0) T (ix ch) i) = _; rw [mSwS, sel_f (show ¬ (mMis (mSw (thr G 0) T (ix ch) i).2.1 (mSw (thr G 0) T (ix ch) i).2.2 i ∧ (mSw (thr G 0) T (ix ch) i).2.2 2 i = nI (ix ch)) from (fun h_ => c_4 h_.1))]; first | done | rfl)
        exact ih ls H locs trivial (by show lv_has ls 4 [(0, .ref (g 0)), (1, .int (nI (ix ch))), (2, .int (nI (mSw (thr G 0) T (ix ch) (i + 1)).1)), (3, .int (nI (i + 1)))]; rw [e9]; exact lv_sub hl [1, 2, 3, 0] rfl) (by show va_P D vwCl (gw k g (t 0) sq (mSw (thr G 0) T (ix ch) (i + 1)).2.1 ++ (tw k t (mSw (thr G 0) T (ix ch) (i + 1)).2.2 ++ R)) H; rw [e9]; exact hP) (by show va_D (va_in (gw k g (t 0) sq G ++ (tw k t T ++ R))) (gw k g (t 0) sq (mSw (thr G 0) T (ix ch) (i + 1)).2.1 ++ (tw k t (mSw (thr G 0) T (ix ch) (i + 1)).2.2 ++ R)); rw [e9]; exact hD) hS
      · have c_4 := bI_n c_4
        refine lv_aload_n hx hb dX6_sweep_38 rfl (lv_at hl 0 rfl) ?_
        refine va_get (D := D) (ci := 6) (v := .ref (t 0)) (C := RX6) (T := TX6) (N := 13) hx hb hts tu_6 hown hE.1 hP 0 gw_0 rfl 11 (by decide) (hts _ tw_796) (fun _ h9 => h9) rfl dX6_sweep_39 ?_
        refine va_getN (D := D) (ci := 5) (v := .ref (t 2)) (C := RX5) (T := TX5) (N := 9) hx hb hts tu_5 hown hE.1 hP 8 mt_0 rfl 2 (by decide) (va_Nw.use rfl hE.2.2.2.1) (fun _ h9 => h9) rfl dX6_sweep_42 ?_
        refine lv_iload_n hx hb dX6_sweep_45 rfl (lv_at hl 3 rfl) ?_
        refine k_iald (j := i) hx hb hE hP 10 mt_2 (by omega) (by decide) dX6_sweep_46 ?_
        refine lv_iload_n hx hb dX6_sweep_47 rfl (lv_at hl 1 rfl) ?_
        refine lv_icmp_eq (tgt := 54) hx hb dX6_sweep_48 (by decide) (fun c_5 => ?_) (fun c_5 => ?_)
        · refine lv_aload_n hx hb dX6_sweep_54 rfl (lv_at hl 0 rfl) ?_
          refine va_get (D := D) (ci := 6) (v := .ref (t 0)) (C := RX6) (T := TX6) (N := 13) hx hb hts tu_6 hown hE.1 hP 0 gw_0 rfl 11 (by decide) (hts _ tw_796) (fun _ h9 => h9) rfl dX6_sweep_55 ?_
          refine lv_iload_n hx hb dX6_sweep_58 rfl (lv_at hl 3 rfl) ?_
          refine lv_iconst (v := 3) hx hb dX6_sweep_59 (by decide) ?_
          refine lv_iconst (v := (-1)) hx hb dX6_sweep_60 (by decide) ?_
          refine c_mVv (rest := []) hC hE hP hD hS mt_same (metX5_put l (mSw (thr G 0) T (ix ch) i).2.1 (mSw (thr G 0) T (ix ch) i).2.2 i 3 (-1) (by omega)) gc_RX6_68 hd_X5_put ⟨rfl, rfl⟩ ⟨Nat.le_of_ble_eq_true rfl, Nat.le_of_ble_eq_true rfl⟩ 8 mt_0 rfl rfl hl.1 (Nat.le_of_ble_eq_true rfl) ⟨Nat.le_of_ble_eq_true rfl, Nat.le_of_ble_eq_true rfl⟩ dX6_sweep_61 (fun H locs hP hD hS => ?_)
          refine lv_aload_n hx hb dX6_sweep_64 rfl (lv_at hl 0 rfl) ?_
          refine va_get (D := D) (ci := 6) (v := .ref (t 0)) (C := RX6) (T := TX6) (N := 13) hx hb hts tu_6 hown hE.1 hP 0 gw_0 rfl 11 (by decide) (hts _ tw_796) (fun _ h9 => h9) rfl dX6_sweep_65 ?_
          refine va_getN (D := D) (ci := 5) (v := .ref (t 7)) (C := RX5) (T := TX5) (N := 9) hx hb hts tu_5 hown hE.1 hP 8 mt_0 rfl 8 (by decide) (va_Nw.use rfl hE.2.2.2.2.2.2.2.2) (fun _ h9 => h9) rfl dX6_sweep_68 ?_
          refine lv_iload_n hx hb dX6_sweep_71 rfl (lv_at hl 1 rfl) ?_
          refine lv_dup2_11 hx hb dX6_sweep_72 rfl rfl ?_
          refine k_iald (j := (ix ch)) hx hb hE hP 15 mt_7 (Nat.lt_succ_of_le hx_ch.2) (by decide) dX6_sweep_73 ?_
          refine lv_iconst (v := 1) hx hb dX6_sweep_74 (by decide) ?_
          refine lv_isub hx hb dX6_sweep_75 ?_
          refine k_iast (j := (ix ch)) hx hb hE hP hD hS 15 mt_7 (Nat.lt_succ_of_le hx_ch.2) (by decide) dX6_sweep_76 (fun H locs hP hD hS => ?_)
          rw [mtq_7 (T := (mPutB (mSw (thr G 0) T (ix ch) i).2.2 i 3 (-1))) (f := upd ((mPutB (mSw (thr G 0) T (ix ch) i).2.2 i 3 (-1)) 7) (ix ch) (((mPutB (mSw (thr G 0) T (ix ch) i).2.2 i 3 (-1)) 7 (ix ch)) - 1)) (f2 := upd ((mPutB (mSw (thr G 0) T (ix ch) i).2.2 i 3 (-1)) 7) (ix ch) (((mPutB (mSw (thr G 0) T (ix ch) i).2.2 i 3 (-1)) 7 (ix ch)) - 1)) rfl] at hP hD
          refine lv_aload_n hx hb dX6_sweep_77 rfl (lv_at hl 0 rfl) ?_
          refine lv_iload_n hx hb dX6_sweep_78 rfl (lv_at hl 3 rfl) ?_
          refine c_mVv (rest := []) hC hE hP hD hS mt_same (metX6_close l (mSw (thr G 0) T (ix ch) i).2.1 (sf (mPutB (mSw (thr G 0) T (ix ch) i).2.2 i 3 (-1)) 7 (upd ((mPutB (mSw (thr G 0) T (ix ch) i).2.2 i 3 (-1)) 7) (ix ch) (((mPutB (mSw (thr G 0) T (ix ch) i).2.2 i 3 (-1)) 7 (ix ch)) - 1))) i (by omega)) gc_RX6_134 hd_X6_close ⟨rfl, rfl⟩ ⟨Nat.le_of_ble_eq_true rfl, Nat.le_of_ble_eq_true rfl⟩ 0 gw_0 rfl rfl hl.1 (Nat.le_of_ble_eq_true rfl) ⟨Nat.le_of_ble_eq_true rfl, Nat.le_of_ble_eq_true rfl⟩ dX6_sweep_79 (fun H locs hP hD hS => ?_)
          refine lv_iinc (v := nI ((mSw (thr G 0) T (ix ch) i).1 + 1)) (lv' := [(2, .int (nI ((mSw (thr G 0) T (ix ch) i).1 + 1))), (0, .ref (g 0)), (1, .int (nI (ix ch))), (3, .int (nI i))]) hx hb dX6_sweep_82 hl (k := 2) rfl (iinc1 _) (by decide) rfl (fun ls hl => ?_)
          refine lv_iinc (v := nI (i + 1)) (lv' := [(3, .int (nI (i + 1))), (2, .int (nI ((mSw (thr G 0) T (ix ch) i).1 + 1))), (0, .ref (g 0)), (1, .int (nI (ix ch)))]) hx hb dX6_sweep_85 hl (k := 3) rfl (iinc1 _) (by decide) rfl (fun ls hl => ?_)
          refine lv_goto (tgt := 22) hx hb dX6_sweep_88 (by decide) ?_
          have e9 : mSw (thr G 0) T (ix ch) (i + 1) = (((mSw (thr G 0) T (ix ch) i).1 + 1), mClose (mSw (thr G 0) T (ix ch) i).2.1 i, sf (mPutB (mSw (thr G 0) T (ix ch) i).2.2 i 3 (-1)) 7 (upd ((mPutB (mSw (thr G 0) T (ix ch) i).2.2 i 3 (-1)) 7) (ix ch) (((mPutB (mSw (thr G 0) T (ix ch) i).2.2 i 3 (-1)) 7 (ix ch)) - 1))) := (by show mSwS (ix ch) i (mSw (thr G 0) T (ix ch) i) = _; rw [mSwS, sel_t (show (mMis (mSw (thr G 0) T (ix ch) i).2.1 (mSw (thr G 0) T (ix ch) i).2.2 i ∧ (mSw (thr G 0) T (ix ch) i).2.2 2 i = nI (ix ch)) from ⟨c_4, c_5⟩)]; first | done | rfl)
          exact ih ls H locs trivial (by show lv_has ls 4 [(0, .ref (g 0)), (1, .int (nI (ix ch))), (2, .int (nI (mSw (thr G 0) T (ix ch) (i + 1)).1)), (3, .int (nI (i + 1)))]; rw [e9]; exact lv_sub hl [2, 3, 1, 0] rfl) (by show va_P D vwCl (gw k g (t 0) sq (mSw (thr G 0) T (ix ch) (i + 1)).2.1 ++ (tw k t (mSw (thr G 0) T (ix ch) (i + 1)).2.2 ++ R)) H; rw [e9]; exact hP) (by show va_D (va_in (gw k g (t 0) sq G ++ (tw k t T ++ R))) (gw k g (t 0) sq (mSw (thr G 0) T (ix ch) (i + 1)).2.1 ++ (tw k t (mSw (thr G 0) T (ix ch) (i + 1)).2.2 ++ R)); rw [e9]; exact hD) hS
        · refine lv_goto (tgt := 85) hx hb dX6_sweep_51 (by decide) ?_
          refine lv_iinc (v := nI (i + 1)) (lv' := [(3, .int (nI (i + 1))), (0, .ref (g 0)), (1, .int (nI (ix ch))), (2, .int (nI (mSw (thr G 0) T (ix ch) i).1))]) hx hb dX6_sweep_85 hl (k := 3) rfl (iinc1 _) (by decide) rfl (fun ls hl => ?_)
          refine lv_goto (tgt := 22) hx hb dX6_sweep_88 (by decide) ?_
          have e9 : mSw (thr G 0) T (ix ch) (i + 1) = (mSw (thr G 0) T (ix ch) i) := (by show mSwS (ix ch) i (mSw (thr G 0) T (ix ch) i) = _; rw [mSwS, sel_f (show ¬ (mMis (mSw (thr G 0) T (ix ch) i).2.1 (mSw (thr G 0) T (ix ch) i).2.2 i ∧ (mSw (thr G 0) T (ix ch) i).2.2 2 i = nI (ix ch)) from (fun h_ => c_5 h_.2))]; first | done | rfl)
          exact ih ls H locs trivial (by show lv_has ls 4 [(0, .ref (g 0)), (1, .int (nI (ix ch))), (2, .int (nI (mSw (thr G 0) T (ix ch) (i + 1)).1)), (3, .int (nI (i + 1)))]; rw [e9]; exact lv_sub hl [1, 2, 3, 0] rfl) (by show va_P D vwCl (gw k g (t 0) sq (mSw (thr G 0) T (ix ch) (i + 1)).2.1 ++ (tw k t (mSw (thr G 0) T (ix ch) (i + 1)).2.2 ++ R)) H; rw [e9]; exact hP) (by show va_D (va_in (gw k g (t 0) sq G ++ (tw k t T ++ R))) (gw k g (t 0) sq (mSw (thr G 0) T (ix ch) (i + 1)).2.1 ++ (tw k t (mSw (thr G 0) T (ix ch) (i + 1)).2.2 ++ R)); rw [e9]; exact hD) hS
  · have c_1 := bI_0 c_1
    refine lv_aload_n hx hb dX6_sweep_12 rfl (lv_at hl 0 rfl) ?_
    refine lv_iconst (v := 1) hx hb dX6_sweep_13 (by decide) ?_
    refine c_mVi (rest := []) hC hE hP hD hS mt_same (metX6_no l (thr G 0) T 1) gc_RX6_110 hd_X6_no ⟨rfl, rfl⟩ ⟨Nat.le_of_ble_eq_true rfl, Nat.le_of_ble_eq_true rfl⟩ 0 gw_0 rfl rfl hl.1 (Nat.le_of_ble_eq_true rfl) ⟨Nat.le_of_ble_eq_true rfl, Nat.le_of_ble_eq_true rfl⟩ dX6_sweep_14 (fun H locs hP hD hS => ?_)
    have e9 : qsweep_g G T ch n nf = thr (thr G 0) 1 := by rw [qsweep_g, sel_f (show ¬ (mIn ch 0 3) from c_1)]; first | done | rfl
    have e8 : qsweep_t G T ch n nf = T := by rw [qsweep_t, sel_f (show ¬ (mIn ch 0 3) from c_1)]; first | done | rfl
    exact m_iret hx hb hr hlk dX6_sweep_17 (by rw [e9, e8]; exact hP) hS (by rw [qsweep_r, sel_f (show ¬ (mIn ch 0 3) from c_1)]; first | done | rfl)

set_option maxHeartbeats 4000000 in
set_option maxRecDepth 100000 in
theorem metX6_depart (l : Launch) {D : va_G} {k : Nat → ClassId} {g t : Nat → Nat} {sq : Nat} {R : va_W} (G T : HS) (f : Int32) (n : Nat) (hn : G 0 3 = nI n) (hn40 : n ≤ 40) (nf : Nat) (hnf : G 0 1 = nI nf) (hnf6 : nf ≤ 6) (hF : okF G) (hZ : ∀ f_, f_ < 6 → G 2 f_ = 0 ∨ G 2 f_ = 1) (hA : okA T) : MM l yX6_depart cX6_depart 4 (some FieldType.int) rmX6_depart D k (gw k g (t 0) sq G ++ (tw k t T ++ R)) [.ref (g 0), .int f] (some (.int (qdepart_r G T f n nf))) (gw k g (t 0) sq (qdepart_g G T f n nf) ++ (tw k t (qdepart_t G T f n nf) ++ R)) := by
  refine MM_of rfl (Nat.le_of_ble_eq_true rfl) ?_
  intro p e s m below meth c hC hr hlk hin hE hP hD hS ls hl
  have hC : CallFix p m c cX6_depart 4 s _ lw_all RX6 := hC
  have hx := hC.1
  have hb := hC.2.1
  have hown : s.vm.findClass RX6 = some m.cls := hC.2.2.2.1
  have hts := hC.2.2.2.2
  have hl : lv_has ls 4 [(0, .ref (g 0)), (1, .int f)] := hl
  refine lv_aload_n hx hb dX6_depart_0 rfl (lv_at hl 0 rfl) ?_
  refine lv_iconst (v := 0) hx hb dX6_depart_1 (by decide) ?_
  refine va_put (D := D) (ci := 6) (v := .int 0) (ty := .int) (C := RX6) (T := TX6) (N := 13) hx hb hts tu_6 tyX6 tyX6_ok nmX6 hown hE.1 hP hD hS 0 gw_0 rfl 0 (by decide) (hts _ tw_785) (fun _ h9 => h9) rfl (by decide +kernel) rfl rfl (Nat.le_of_ble_eq_true rfl) dX6_depart_2 (fun H locs hP hD hS => ?_)
  rw [gwp_t (G := G) (v := 0)] at hP hD
  refine lv_aload_n hx hb dX6_depart_5 rfl (lv_at hl 0 rfl) ?_
  refine lv_iload_n hx hb dX6_depart_6 rfl (lv_at hl 1 rfl) ?_
  refine c_pVi (rest := []) hC hE hP (metX6_isFlight l (thr G 0) T f) gc_RX6_114 hd_X6_isFlight ⟨rfl, rfl⟩ ⟨Nat.le_of_ble_eq_true rfl, Nat.le_of_ble_eq_true rfl⟩ 0 gw_0 rfl rfl hl.1 (Nat.le_of_ble_eq_true rfl) ⟨Nat.le_of_ble_eq_true rfl, Nat.le_of_ble_eq_true rfl⟩ dX6_depart_7 ?_
  refine w_top (congrArg (fun z_ => bI (mIn f 0 (z_ - 1))) (show _ = nI nf from hnf)) ?_
  refine lv_if_ne (tgt := 19) hx hb dX6_depart_10 (by decide) (fun c_1 => ?_) (fun c_1 => ?_)
  · have c_1 := bI_n c_1
    have hx_f := mIn_n (Nat.le_trans hnf6 (by decide)) c_1
    have hl : lv_has ls 4 [(0, .ref (g 0)), (1, .int (nI (ix f)))] := by rw [← hx_f.1]; exact hl
    refine lv_aload_n hx hb dX6_depart_19 rfl (lv_at hl 0 rfl) ?_
    refine va_get (D := D) (ci := 6) (v := .ref (g 2)) (C := RX6) (T := TX6) (N := 13) hx hb hts tu_6 hown hE.1 hP 0 gw_0 rfl 3 (by decide) (hts _ tw_788) (fun _ h9 => h9) rfl dX6_depart_20 ?_
    refine lv_iload_n hx hb dX6_depart_23 rfl (lv_at hl 1 rfl) ?_
    refine k_zald (j := (ix f)) hx hb hE hP 2 gw_2 (Nat.lt_of_lt_of_le hx_f.2 hnf6) (by decide) dX6_depart_24 ?_
    refine lv_if_eq (tgt := 34) hx hb dX6_depart_25 (by decide) (fun c_2 => ?_) (fun c_2 => ?_)
    · refine lv_iconst (v := 0) hx hb dX6_depart_34 (by decide) ?_
      refine lv_istore_n (lv' := [(2, .int 0), (0, .ref (g 0)), (1, .int (nI (ix f)))]) hx hb dX6_depart_35 rfl hl (by decide) rfl (fun ls hl => ?_)
      refine lv_iconst (v := 0) hx hb dX6_depart_36 (by decide) ?_
      refine lv_istore_n (lv' := [(3, .int 0), (2, .int 0), (0, .ref (g 0)), (1, .int (nI (ix f)))]) hx hb dX6_depart_37 rfl hl (by decide) rfl (fun ls hl => ?_)
      refine w_forM (N := n) (fun _ => True) (fun i => [(0, .ref (g 0)), (1, .int (nI (ix f))), (2, .int (nI (mLv (thr G 0) T (ix f) i).1)), (3, .int (nI i))]) (fun i => (gw k g (t 0) sq (mLv (thr G 0) T (ix f) i).2.1 ++ (tw k t (mLv (thr G 0) T (ix f) i).2.2 ++ R))) (fun ls H locs hI hl hP hD hS => ?_) (fun i hi hI ih ls H locs hl hP hD hS => ?_) 0 (Nat.zero_le _) trivial (lv_sub hl [2, 3, 1, 0] rfl) hP hD hS
      · have hl : lv_has ls 4 [(0, .ref (g 0)), (1, .int (nI (ix f))), (2, .int (nI (mLv (thr G 0) T (ix f) n).1)), (3, .int (nI n))] := hl
        have hP : va_P D vwCl (gw k g (t 0) sq (mLv (thr G 0) T (ix f) n).2.1 ++ (tw k t (mLv (thr G 0) T (ix f) n).2.2 ++ R)) H := hP
        have hD : va_D (va_in (gw k g (t 0) sq G ++ (tw k t T ++ R))) (gw k g (t 0) sq (mLv (thr G 0) T (ix f) n).2.1 ++ (tw k t (mLv (thr G 0) T (ix f) n).2.2 ++ R)) := hD
        refine lv_iload_n hx hb dX6_depart_38 rfl (lv_at hl 3 rfl) ?_
        refine lv_aload_n hx hb dX6_depart_39 rfl (lv_at hl 0 rfl) ?_
        refine va_get (D := D) (ci := 6) (v := .int ((mLv (thr G 0) T (ix f) n).2.1 0 3)) (C := RX6) (T := TX6) (N := 13) hx hb hts tu_6 hown hE.1 hP 0 gw_0 rfl 6 (by decide) (hts _ tw_791) (fun _ h9 => h9) rfl dX6_depart_40 ?_
        refine w_top ((congrFun (mLv_g (thr G 0) T (ix f) (j := 0) (by decide) _) 3).trans hn) ?_
        refine lv_icmp_ge (tgt := 117) hx hb dX6_depart_43 (by decide) (fun c_3 => ?_) (fun c_ => absurd (nI_le (Nat.le_refl n) (by omega)) c_)
        refine lv_aload_n hx hb dX6_depart_117 rfl (lv_at hl 0 rfl) ?_
        refine va_get (D := D) (ci := 6) (v := .ref (g 2)) (C := RX6) (T := TX6) (N := 13) hx hb hts tu_6 hown hE.1 hP 0 gw_0 rfl 3 (by decide) (hts _ tw_788) (fun _ h9 => h9) rfl dX6_depart_118 ?_
        refine lv_iload_n hx hb dX6_depart_121 rfl (lv_at hl 1 rfl) ?_
        refine lv_iconst (v := 1) hx hb dX6_depart_122 (by decide) ?_
        refine k_zast (j := (ix f)) hx hb hE hP hD hS 2 gw_2 (Nat.lt_of_lt_of_le hx_f.2 hnf6) (by decide) dX6_depart_123 (fun H locs hP hD hS => ?_)
        rw [gwq_2 (G := (mLv (thr G 0) T (ix f) n).2.1) (f := upd ((mLv (thr G 0) T (ix f) n).2.1 2) (ix f) (vp_nar .boolean 1)) (f2 := upd ((mLv (thr G 0) T (ix f) n).2.1 2) (ix f) 1) rfl] at hP hD
        refine lv_iload_n hx hb dX6_depart_124 rfl (lv_at hl 2 rfl) ?_
        have e9 : qdepart_g G T f n nf = sf (mLv (thr G 0) T (ix f) n).2.1 2 (upd ((mLv (thr G 0) T (ix f) n).2.1 2) (ix f) 1) := by rw [qdepart_g, sel_t (show mIn f 0 (nI nf - 1) from c_1), sel_t (show G 2 (ix f) = 0 from c_2)]; first | done | rfl
        have e8 : qdepart_t G T f n nf = (mLv (thr G 0) T (ix f) n).2.2 := by rw [qdepart_t, sel_t (show mIn f 0 (nI nf - 1) from c_1), sel_t (show G 2 (ix f) = 0 from c_2)]; first | done | rfl
        exact m_iret hx hb hr hlk dX6_depart_125 (by rw [e9, e8]; exact hP) hS (by rw [qdepart_r, sel_t (show mIn f 0 (nI nf - 1) from c_1), sel_t (show G 2 (ix f) = 0 from c_2)]; first | done | rfl)
      · have hl : lv_has ls 4 [(0, .ref (g 0)), (1, .int (nI (ix f))), (2, .int (nI (mLv (thr G 0) T (ix f) i).1)), (3, .int (nI i))] := hl
        have hP : va_P D vwCl (gw k g (t 0) sq (mLv (thr G 0) T (ix f) i).2.1 ++ (tw k t (mLv (thr G 0) T (ix f) i).2.2 ++ R)) H := hP
        have hD : va_D (va_in (gw k g (t 0) sq G ++ (tw k t T ++ R))) (gw k g (t 0) sq (mLv (thr G 0) T (ix f) i).2.1 ++ (tw k t (mLv (thr G 0) T (ix f) i).2.2 ++ R)) := hD
        refine lv_iload_n hx hb dX6_depart_38 rfl (lv_at hl 3 rfl) ?_
        refine lv_aload_n hx hb dX6_depart_39 rfl (lv_at hl 0 rfl) ?_
        refine va_get (D := D) (ci := 6) (v := .int ((mLv (thr G 0) T (ix f) i).2.1 0 3)) (C := RX6) (T := TX6) (N := 13) hx hb hts tu_6 hown hE.1 hP 0 gw_0 rfl 6 (by decide) (hts _ tw_791) (fun _ h9 => h9) rfl dX6_depart_40 ?_
        refine w_top ((congrFun (mLv_g (thr G 0) T (ix f) (j := 0) (by decide) _) 3).trans hn) ?_
        refine lv_icmp_ge (tgt := 117) hx hb dX6_depart_43 (by decide) (fun c_ => absurd c_ (nI_ge hi (by omega))) (fun c_4 => ?_)
        refine lv_aload_n hx hb dX6_depart_46 rfl (lv_at hl 0 rfl) ?_
        refine va_get (D := D) (ci := 6) (v := .ref (g 4)) (C := RX6) (T := TX6) (N := 13) hx hb hts tu_6 hown hE.1 hP 0 gw_0 rfl 7 (by decide) (hts _ tw_792) (fun _ h9 => h9) rfl dX6_depart_47 ?_
        refine lv_iload_n hx hb dX6_depart_50 rfl (lv_at hl 3 rfl) ?_
        refine k_iald (j := i) hx hb hE hP 4 gw_4 (by omega) (by decide) dX6_depart_51 ?_
        refine lv_iload_n hx hb dX6_depart_52 rfl (lv_at hl 1 rfl) ?_
        refine lv_icmp_eq (tgt := 59) hx hb dX6_depart_53 (by decide) (fun c_5 => ?_) (fun c_5 => ?_)
        · refine lv_aload_n hx hb dX6_depart_59 rfl (lv_at hl 0 rfl) ?_
          refine lv_iload_n hx hb dX6_depart_60 rfl (lv_at hl 3 rfl) ?_
          refine c_pVi (rest := []) hC hE hP (metX6_isInItsChute l (mLv (thr G 0) T (ix f) i).2.1 (mLv (thr G 0) T (ix f) i).2.2 i (by omega) (okF_c hF (mLv_g (thr G 0) T (ix f) (by decide) i))) gc_RX6_140 hd_X6_isInItsChute ⟨rfl, rfl⟩ ⟨Nat.le_of_ble_eq_true rfl, Nat.le_of_ble_eq_true rfl⟩ 0 gw_0 rfl rfl hl.1 (Nat.le_of_ble_eq_true rfl) ⟨Nat.le_of_ble_eq_true rfl, Nat.le_of_ble_eq_true rfl⟩ dX6_depart_61 ?_
          refine lv_if_eq (tgt := 104) hx hb dX6_depart_64 (by decide) (fun c_6 => ?_) (fun c_6 => ?_)
          · have c_6 := bI_0 c_6
            refine lv_aload_n hx hb dX6_depart_104 rfl (lv_at hl 0 rfl) ?_
            refine va_get (D := D) (ci := 6) (v := .ref (g 7)) (C := RX6) (T := TX6) (N := 13) hx hb hts tu_6 hown hE.1 hP 0 gw_0 rfl 10 (by decide) (hts _ tw_795) (fun _ h9 => h9) rfl dX6_depart_105 ?_
            refine lv_iload_n hx hb dX6_depart_108 rfl (lv_at hl 3 rfl) ?_
            refine lv_iconst (v := 1) hx hb dX6_depart_109 (by decide) ?_
            refine k_iast (j := i) hx hb hE hP hD hS 7 gw_7 (by omega) (by decide) dX6_depart_110 (fun H locs hP hD hS => ?_)
            rw [gwq_7 (G := (mLv (thr G 0) T (ix f) i).2.1) (f := upd ((mLv (thr G 0) T (ix f) i).2.1 7) i 1) (f2 := upd ((mLv (thr G 0) T (ix f) i).2.1 7) i 1) rfl] at hP hD
            refine lv_iinc (v := nI (i + 1)) (lv' := [(3, .int (nI (i + 1))), (0, .ref (g 0)), (1, .int (nI (ix f))), (2, .int (nI (mLv (thr G 0) T (ix f) i).1))]) hx hb dX6_depart_111 hl (k := 3) rfl (iinc1 _) (by decide) rfl (fun ls hl => ?_)
            refine lv_goto (tgt := 38) hx hb dX6_depart_114 (by decide) ?_
            have e9 : mLv (thr G 0) T (ix f) (i + 1) = ((mLv (thr G 0) T (ix f) i).1, sf (mLv (thr G 0) T (ix f) i).2.1 7 (upd ((mLv (thr G 0) T (ix f) i).2.1 7) i 1), (mLv (thr G 0) T (ix f) i).2.2) := (by show mLvS (ix f) i (mLv (thr G 0) T (ix f) i) = _; rw [mLvS, sel_t (show (mLv (thr G 0) T (ix f) i).2.1 4 i = nI (ix f) from c_5), sel_f (show ¬ (mOwn (mLv (thr G 0) T (ix f) i).2.1 (mLv (thr G 0) T (ix f) i).2.2 i) from c_6)]; first | done | rfl)
            exact ih ls H locs trivial (by show lv_has ls 4 [(0, .ref (g 0)), (1, .int (nI (ix f))), (2, .int (nI (mLv (thr G 0) T (ix f) (i + 1)).1)), (3, .int (nI (i + 1)))]; rw [e9]; exact lv_sub hl [1, 2, 3, 0] rfl) (by show va_P D vwCl (gw k g (t 0) sq (mLv (thr G 0) T (ix f) (i + 1)).2.1 ++ (tw k t (mLv (thr G 0) T (ix f) (i + 1)).2.2 ++ R)) H; rw [e9]; exact hP) (by show va_D (va_in (gw k g (t 0) sq G ++ (tw k t T ++ R))) (gw k g (t 0) sq (mLv (thr G 0) T (ix f) (i + 1)).2.1 ++ (tw k t (mLv (thr G 0) T (ix f) (i + 1)).2.2 ++ R)); rw [e9]; exact hD) hS
          · have c_6 := bI_n c_6
            have hat : (mLv (thr G 0) T (ix f) i).2.2 2 i = nI (ix ((mLv (thr G 0) T (ix f) i).2.2 2 i)) ∧ ix ((mLv (thr G 0) T (ix f) i).2.2 2 i) < 4 := by have h1_ := mLv_t (thr G 0) T (ix f) i i (Nat.le_refl i); rw [h1_.2]; exact hA i (by omega) (h1_.1.symm.trans c_6.1)
            refine lv_aload_n hx hb dX6_depart_67 rfl (lv_at hl 0 rfl) ?_
            refine va_get (D := D) (ci := 6) (v := .ref (t 0)) (C := RX6) (T := TX6) (N := 13) hx hb hts tu_6 hown hE.1 hP 0 gw_0 rfl 11 (by decide) (hts _ tw_796) (fun _ h9 => h9) rfl dX6_depart_68 ?_
            refine va_getN (D := D) (ci := 5) (v := .ref (t 7)) (C := RX5) (T := TX5) (N := 9) hx hb hts tu_5 hown hE.1 hP 8 mt_0 rfl 8 (by decide) (va_Nw.use rfl hE.2.2.2.2.2.2.2.2) (fun _ h9 => h9) rfl dX6_depart_71 ?_
            refine lv_aload_n hx hb dX6_depart_74 rfl (lv_at hl 0 rfl) ?_
            refine va_get (D := D) (ci := 6) (v := .ref (t 0)) (C := RX6) (T := TX6) (N := 13) hx hb hts tu_6 hown hE.1 hP 0 gw_0 rfl 11 (by decide) (hts _ tw_796) (fun _ h9 => h9) rfl dX6_depart_75 ?_
            refine va_getN (D := D) (ci := 5) (v := .ref (t 2)) (C := RX5) (T := TX5) (N := 9) hx hb hts tu_5 hown hE.1 hP 8 mt_0 rfl 2 (by decide) (va_Nw.use rfl hE.2.2.2.1) (fun _ h9 => h9) rfl dX6_depart_78 ?_
            refine lv_iload_n hx hb dX6_depart_81 rfl (lv_at hl 3 rfl) ?_
            refine k_iald (j := i) hx hb hE hP 10 mt_2 (by omega) (by decide) dX6_depart_82 ?_
            refine w_top (hat.1) ?_
            refine lv_dup2_11 hx hb dX6_depart_83 rfl rfl ?_
            refine k_iald (j := (ix ((mLv (thr G 0) T (ix f) i).2.2 2 i))) hx hb hE hP 15 mt_7 hat.2 (by decide) dX6_depart_84 ?_
            refine lv_iconst (v := 1) hx hb dX6_depart_85 (by decide) ?_
            refine lv_isub hx hb dX6_depart_86 ?_
            refine k_iast (j := (ix ((mLv (thr G 0) T (ix f) i).2.2 2 i))) hx hb hE hP hD hS 15 mt_7 hat.2 (by decide) dX6_depart_87 (fun H locs hP hD hS => ?_)
            rw [mtq_7 (T := (mLv (thr G 0) T (ix f) i).2.2) (f := upd ((mLv (thr G 0) T (ix f) i).2.2 7) (ix ((mLv (thr G 0) T (ix f) i).2.2 2 i)) (((mLv (thr G 0) T (ix f) i).2.2 7 (ix ((mLv (thr G 0) T (ix f) i).2.2 2 i))) - 1)) (f2 := upd ((mLv (thr G 0) T (ix f) i).2.2 7) (ix ((mLv (thr G 0) T (ix f) i).2.2 2 i)) (((mLv (thr G 0) T (ix f) i).2.2 7 (ix ((mLv (thr G 0) T (ix f) i).2.2 2 i))) - 1)) rfl] at hP hD
            refine lv_aload_n hx hb dX6_depart_88 rfl (lv_at hl 0 rfl) ?_
            refine va_get (D := D) (ci := 6) (v := .ref (t 0)) (C := RX6) (T := TX6) (N := 13) hx hb hts tu_6 hown hE.1 hP 0 gw_0 rfl 11 (by decide) (hts _ tw_796) (fun _ h9 => h9) rfl dX6_depart_89 ?_
            refine lv_iload_n hx hb dX6_depart_92 rfl (lv_at hl 3 rfl) ?_
            refine lv_iconst (v := 5) hx hb dX6_depart_93 (by decide) ?_
            refine lv_iconst (v := (-1)) hx hb dX6_depart_94 (by decide) ?_
            refine c_mVv (rest := []) hC hE hP hD hS mt_same (metX5_put l (mLv (thr G 0) T (ix f) i).2.1 (sf (mLv (thr G 0) T (ix f) i).2.2 7 (upd ((mLv (thr G 0) T (ix f) i).2.2 7) (ix ((mLv (thr G 0) T (ix f) i).2.2 2 i)) (((mLv (thr G 0) T (ix f) i).2.2 7 (ix ((mLv (thr G 0) T (ix f) i).2.2 2 i))) - 1))) i 5 (-1) (by omega)) gc_RX6_68 hd_X5_put ⟨rfl, rfl⟩ ⟨Nat.le_of_ble_eq_true rfl, Nat.le_of_ble_eq_true rfl⟩ 8 mt_0 rfl rfl hl.1 (Nat.le_of_ble_eq_true rfl) ⟨Nat.le_of_ble_eq_true rfl, Nat.le_of_ble_eq_true rfl⟩ dX6_depart_95 (fun H locs hP hD hS => ?_)
            refine lv_iinc (v := nI ((mLv (thr G 0) T (ix f) i).1 + 1)) (lv' := [(2, .int (nI ((mLv (thr G 0) T (ix f) i).1 + 1))), (0, .ref (g 0)), (1, .int (nI (ix f))), (3, .int (nI i))]) hx hb dX6_depart_98 hl (k := 2) rfl (iinc1 _) (by decide) rfl (fun ls hl => ?_)
            refine lv_goto (tgt := 111) hx hb dX6_depart_101 (by decide) ?_
            refine lv_iinc (v := nI (i + 1)) (lv' := [(3, .int (nI (i + 1))), (2, .int (nI ((mLv (thr G 0) T (ix f) i).1 + 1))), (0, .ref (g 0)), (1, .int (nI (ix f)))]) hx hb dX6_depart_111 hl (k := 3) rfl (iinc1 _) (by decide) rfl (fun ls hl => ?_)
            refine lv_goto (tgt := 38) hx hb dX6_depart_114 (by decide) ?_
            have e9 : mLv (thr G 0) T (ix f) (i + 1) = (((mLv (thr G 0) T (ix f) i).1 + 1), (mLv (thr G 0) T (ix f) i).2.1, mPutB (sf (mLv (thr G 0) T (ix f) i).2.2 7 (upd ((mLv (thr G 0) T (ix f) i).2.2 7) (ix ((mLv (thr G 0) T (ix f) i).2.2 2 i)) (((mLv (thr G 0) T (ix f) i).2.2 7 (ix ((mLv (thr G 0) T (ix f) i).2.2 2 i))) - 1))) i 5 (-1)) := (by show mLvS (ix f) i (mLv (thr G 0) T (ix f) i) = _; rw [mLvS, sel_t (show (mLv (thr G 0) T (ix f) i).2.1 4 i = nI (ix f) from c_5), sel_t (show mOwn (mLv (thr G 0) T (ix f) i).2.1 (mLv (thr G 0) T (ix f) i).2.2 i from c_6)]; first | done | rfl)
            exact ih ls H locs trivial (by show lv_has ls 4 [(0, .ref (g 0)), (1, .int (nI (ix f))), (2, .int (nI (mLv (thr G 0) T (ix f) (i + 1)).1)), (3, .int (nI (i + 1)))]; rw [e9]; exact lv_sub hl [2, 3, 1, 0] rfl) (by show va_P D vwCl (gw k g (t 0) sq (mLv (thr G 0) T (ix f) (i + 1)).2.1 ++ (tw k t (mLv (thr G 0) T (ix f) (i + 1)).2.2 ++ R)) H; rw [e9]; exact hP) (by show va_D (va_in (gw k g (t 0) sq G ++ (tw k t T ++ R))) (gw k g (t 0) sq (mLv (thr G 0) T (ix f) (i + 1)).2.1 ++ (tw k t (mLv (thr G 0) T (ix f) (i + 1)).2.2 ++ R)); rw [e9]; exact hD) hS
        · refine lv_goto (tgt := 111) hx hb dX6_depart_56 (by decide) ?_
          refine lv_iinc (v := nI (i + 1)) (lv' := [(3, .int (nI (i + 1))), (0, .ref (g 0)), (1, .int (nI (ix f))), (2, .int (nI (mLv (thr G 0) T (ix f) i).1))]) hx hb dX6_depart_111 hl (k := 3) rfl (iinc1 _) (by decide) rfl (fun ls hl => ?_)
          refine lv_goto (tgt := 38) hx hb dX6_depart_114 (by decide) ?_
          have e9 : mLv (thr G 0) T (ix f) (i + 1) = (mLv (thr G 0) T (ix f) i) := (by show mLvS (ix f) i (mLv (thr G 0) T (ix f) i) = _; rw [mLvS, sel_f (show ¬ ((mLv (thr G 0) T (ix f) i).2.1 4 i = nI (ix f)) from c_5)]; first | done | rfl)
          exact ih ls H locs trivial (by show lv_has ls 4 [(0, .ref (g 0)), (1, .int (nI (ix f))), (2, .int (nI (mLv (thr G 0) T (ix f) (i + 1)).1)), (3, .int (nI (i + 1)))]; rw [e9]; exact lv_sub hl [1, 2, 3, 0] rfl) (by show va_P D vwCl (gw k g (t 0) sq (mLv (thr G 0) T (ix f) (i + 1)).2.1 ++ (tw k t (mLv (thr G 0) T (ix f) (i + 1)).2.2 ++ R)) H; rw [e9]; exact hP) (by show va_D (va_in (gw k g (t 0) sq G ++ (tw k t T ++ R))) (gw k g (t 0) sq (mLv (thr G 0) T (ix f) (i + 1)).2.1 ++ (tw k t (mLv (thr G 0) T (ix f) (i + 1)).2.2 ++ R)); rw [e9]; exact hD) hS
    · refine lv_aload_n hx hb dX6_depart_28 rfl (lv_at hl 0 rfl) ?_
      refine lv_iconst (v := 2) hx hb dX6_depart_29 (by decide) ?_
      refine c_mVi (rest := []) hC hE hP hD hS mt_same (metX6_no l (thr G 0) T 2) gc_RX6_110 hd_X6_no ⟨rfl, rfl⟩ ⟨Nat.le_of_ble_eq_true rfl, Nat.le_of_ble_eq_true rfl⟩ 0 gw_0 rfl rfl hl.1 (Nat.le_of_ble_eq_true rfl) ⟨Nat.le_of_ble_eq_true rfl, Nat.le_of_ble_eq_true rfl⟩ dX6_depart_30 (fun H locs hP hD hS => ?_)
      have e9 : qdepart_g G T f n nf = thr (thr G 0) 2 := by rw [qdepart_g, sel_t (show mIn f 0 (nI nf - 1) from c_1), sel_f (show ¬ (G 2 (ix f) = 0) from c_2)]; first | done | rfl
      have e8 : qdepart_t G T f n nf = T := by rw [qdepart_t, sel_t (show mIn f 0 (nI nf - 1) from c_1), sel_f (show ¬ (G 2 (ix f) = 0) from c_2)]; first | done | rfl
      exact m_iret hx hb hr hlk dX6_depart_33 (by rw [e9, e8]; exact hP) hS (by rw [qdepart_r, sel_t (show mIn f 0 (nI nf - 1) from c_1), sel_f (show ¬ (G 2 (ix f) = 0) from c_2)]; first | done | rfl)
  · have c_1 := bI_0 c_1
    refine lv_aload_n hx hb dX6_depart_13 rfl (lv_at hl 0 rfl) ?_
    refine lv_iconst (v := 1) hx hb dX6_depart_14 (by decide) ?_
    refine c_mVi (rest := []) hC hE hP hD hS mt_same (metX6_no l (thr G 0) T 1) gc_RX6_110 hd_X6_no ⟨rfl, rfl⟩ ⟨Nat.le_of_ble_eq_true rfl, Nat.le_of_ble_eq_true rfl⟩ 0 gw_0 rfl rfl hl.1 (Nat.le_of_ble_eq_true rfl) ⟨Nat.le_of_ble_eq_true rfl, Nat.le_of_ble_eq_true rfl⟩ dX6_depart_15 (fun H locs hP hD hS => ?_)
    have e9 : qdepart_g G T f n nf = thr (thr G 0) 1 := by rw [qdepart_g, sel_f (show ¬ (mIn f 0 (nI nf - 1)) from c_1)]; first | done | rfl
    have e8 : qdepart_t G T f n nf = T := by rw [qdepart_t, sel_f (show ¬ (mIn f 0 (nI nf - 1)) from c_1)]; first | done | rfl
    exact m_iret hx hb hr hlk dX6_depart_18 (by rw [e9, e8]; exact hP) hS (by rw [qdepart_r, sel_f (show ¬ (mIn f 0 (nI nf - 1)) from c_1)]; first | done | rfl)

set_option maxHeartbeats 4000000 in
set_option maxRecDepth 100000 in
theorem metX6_pass (l : Launch) {D : va_G} {k : Nat → ClassId} {g t : Nat → Nat} {sq : Nat} {R : va_W} (G T : HS) (z : Int32) (n : Nat) (hn : G 0 3 = nI n) (hn40 : n ≤ 40) (nf : Nat) (hnf : G 0 1 = nI nf) (hnf6 : nf ≤ 6) (hF : okF G) (hZ : ∀ f_, f_ < 6 → G 2 f_ = 0 ∨ G 2 f_ = 1) (hgz : mIn z 1 60 → ∀ i, i < ix z → okB ((mGo (thr G 0) T i).2 5) ∧ okL (mGo (thr G 0) T i).2) : MM l yX6_pass cX6_pass 2 (some FieldType.int) rmX6_pass D k (gw k g (t 0) sq G ++ (tw k t T ++ R)) [.ref (g 0), .int z] (some (.int (qpass_r G T z n nf))) (gw k g (t 0) sq (qpass_g G T z n nf) ++ (tw k t (qpass_t G T z n nf) ++ R)) := by
  refine MM_of rfl (Nat.le_of_ble_eq_true rfl) ?_
  intro p e s m below meth c hC hr hlk hin hE hP hD hS ls hl
  have hC : CallFix p m c cX6_pass 2 s _ lw_all RX6 := hC
  have hx := hC.1
  have hb := hC.2.1
  have hown : s.vm.findClass RX6 = some m.cls := hC.2.2.2.1
  have hts := hC.2.2.2.2
  have hl : lv_has ls 2 [(0, .ref (g 0)), (1, .int z)] := hl
  refine lv_aload_n hx hb dX6_pass_0 rfl (lv_at hl 0 rfl) ?_
  refine lv_iconst (v := 0) hx hb dX6_pass_1 (by decide) ?_
  refine va_put (D := D) (ci := 6) (v := .int 0) (ty := .int) (C := RX6) (T := TX6) (N := 13) hx hb hts tu_6 tyX6 tyX6_ok nmX6 hown hE.1 hP hD hS 0 gw_0 rfl 0 (by decide) (hts _ tw_785) (fun _ h9 => h9) rfl (by decide +kernel) rfl rfl (Nat.le_of_ble_eq_true rfl) dX6_pass_2 (fun H locs hP hD hS => ?_)
  rw [gwp_t (G := G) (v := 0)] at hP hD
  refine lv_iload_n hx hb dX6_pass_5 rfl (lv_at hl 1 rfl) ?_
  refine lv_iconst (v := 1) hx hb dX6_pass_6 (by decide) ?_
  refine lv_bipush (v := 60) hx hb dX6_pass_7 (by decide) ?_
  refine c_pSi (rest := []) hC hE hP (metX6_isIn l z 1 60) gc_RX6_52 hd_X6_isIn ⟨rfl, rfl⟩ ⟨Nat.le_of_ble_eq_true rfl, Nat.le_of_ble_eq_true rfl⟩ rfl hl.1 (Nat.le_of_ble_eq_true rfl) ⟨Nat.le_of_ble_eq_true rfl, Nat.le_of_ble_eq_true rfl⟩ dX6_pass_9 ?_
  refine lv_if_eq (tgt := 27) hx hb dX6_pass_12 (by decide) (fun c_1 => ?_) (fun c_1 => ?_)
  · have c_1 := bI_0 c_1
    refine lv_aload_n hx hb dX6_pass_27 rfl (lv_at hl 0 rfl) ?_
    refine lv_iconst (v := 1) hx hb dX6_pass_28 (by decide) ?_
    refine c_mVi (rest := []) hC hE hP hD hS mt_same (metX6_no l (thr G 0) T 1) gc_RX6_110 hd_X6_no ⟨rfl, rfl⟩ ⟨Nat.le_of_ble_eq_true rfl, Nat.le_of_ble_eq_true rfl⟩ 0 gw_0 rfl rfl hl.1 (Nat.le_of_ble_eq_true rfl) ⟨Nat.le_of_ble_eq_true rfl, Nat.le_of_ble_eq_true rfl⟩ dX6_pass_29 (fun H locs hP hD hS => ?_)
    have e9 : qpass_g G T z n nf = thr (thr G 0) 1 := by rw [qpass_g, sel_f (show ¬ (mIn z 1 60) from c_1)]; first | done | rfl
    have e8 : qpass_t G T z n nf = T := by rw [qpass_t, sel_f (show ¬ (mIn z 1 60) from c_1)]; first | done | rfl
    exact m_iret hx hb hr hlk dX6_pass_32 (by rw [e9, e8]; exact hP) hS (by rw [qpass_r, sel_f (show ¬ (mIn z 1 60) from c_1)]; first | done | rfl)
  · have c_1 := bI_n c_1
    have hx_z := mIn_1 c_1
    have hl : lv_has ls 2 [(0, .ref (g 0)), (1, .int (nI (ix z)))] := by rw [← hx_z.1]; exact hl
    refine lv_aload_n hx hb dX6_pass_15 rfl (lv_at hl 0 rfl) ?_
    refine lv_aload_n hx hb dX6_pass_16 rfl (lv_at hl 0 rfl) ?_
    refine va_get (D := D) (ci := 6) (v := .ref (t 0)) (C := RX6) (T := TX6) (N := 13) hx hb hts tu_6 hown hE.1 hP 0 gw_0 rfl 11 (by decide) (hts _ tw_796) (fun _ h9 => h9) rfl dX6_pass_17 ?_
    refine lv_iload_n hx hb dX6_pass_20 rfl (lv_at hl 1 rfl) ?_
    refine c_mVi (rest := []) hC hE hP hD hS mt_same (metX6_minutesOn l (thr G 0) T (ix z) (Nat.lt_of_le_of_lt hx_z.2 (by decide)) hF (hgz c_1)) gc_RX6_143 hd_X6_minutesOn ⟨rfl, rfl⟩ ⟨Nat.le_of_ble_eq_true rfl, Nat.le_of_ble_eq_true rfl⟩ 0 gw_0 rfl rfl hl.1 (Nat.le_of_ble_eq_true rfl) ⟨Nat.le_of_ble_eq_true rfl, Nat.le_of_ble_eq_true rfl⟩ dX6_pass_21 (fun H locs hP hD hS => ?_)
    refine lv_goto (tgt := 32) hx hb dX6_pass_24 (by decide) ?_
    have e9 : qpass_g G T z n nf = thr G 0 := by rw [qpass_g, sel_t (show mIn z 1 60 from c_1)]; first | done | rfl
    have e8 : qpass_t G T z n nf = (mGo (thr G 0) T (ix z)).2 := by rw [qpass_t, sel_t (show mIn z 1 60 from c_1)]; first | done | rfl
    exact m_iret hx hb hr hlk dX6_pass_32 (by rw [e9, e8]; exact hP) hS (by rw [qpass_r, sel_t (show mIn z 1 60 from c_1)]; first | done | rfl)

set_option maxHeartbeats 4000000 in
set_option maxRecDepth 100000 in
theorem metX6_flightOf (l : Launch) {D : va_G} {k : Nat → ClassId} {g t : Nat → Nat} {sq : Nat} {R : va_W} (G T : HS) (b : Int32) (n : Nat) (hn : G 0 3 = nI n) (hn40 : n ≤ 40) (nf : Nat) (hnf : G 0 1 = nI nf) (hnf6 : nf ≤ 6) (hF : okF G) (hZ : ∀ f_, f_ < 6 → G 2 f_ = 0 ∨ G 2 f_ = 1) : MM l yX6_flightOf cX6_flightOf 2 (some FieldType.int) rmX6_flightOf D k (gw k g (t 0) sq G ++ (tw k t T ++ R)) [.ref (g 0), .int b] (some (.int (qflightOf_r G T b n nf))) (gw k g (t 0) sq (qflightOf_g G T b n nf) ++ (tw k t T ++ R)) := by
  refine MM_of rfl (Nat.le_of_ble_eq_true rfl) ?_
  intro p e s m below meth c hC hr hlk hin hE hP hD hS ls hl
  have hC : CallFix p m c cX6_flightOf 2 s _ lw_all RX6 := hC
  have hx := hC.1
  have hb := hC.2.1
  have hown : s.vm.findClass RX6 = some m.cls := hC.2.2.2.1
  have hts := hC.2.2.2.2
  have hl : lv_has ls 2 [(0, .ref (g 0)), (1, .int b)] := hl
  refine lv_aload_n hx hb dX6_flightOf_0 rfl (lv_at hl 0 rfl) ?_
  refine lv_iconst (v := 0) hx hb dX6_flightOf_1 (by decide) ?_
  refine va_put (D := D) (ci := 6) (v := .int 0) (ty := .int) (C := RX6) (T := TX6) (N := 13) hx hb hts tu_6 tyX6 tyX6_ok nmX6 hown hE.1 hP hD hS 0 gw_0 rfl 0 (by decide) (hts _ tw_785) (fun _ h9 => h9) rfl (by decide +kernel) rfl rfl (Nat.le_of_ble_eq_true rfl) dX6_flightOf_2 (fun H locs hP hD hS => ?_)
  rw [gwp_t (G := G) (v := 0)] at hP hD
  refine lv_aload_n hx hb dX6_flightOf_5 rfl (lv_at hl 0 rfl) ?_
  refine lv_iload_n hx hb dX6_flightOf_6 rfl (lv_at hl 1 rfl) ?_
  refine c_pVi (rest := []) hC hE hP (metX6_isBag l (thr G 0) T b) gc_RX6_128 hd_X6_isBag ⟨rfl, rfl⟩ ⟨Nat.le_of_ble_eq_true rfl, Nat.le_of_ble_eq_true rfl⟩ 0 gw_0 rfl rfl hl.1 (Nat.le_of_ble_eq_true rfl) ⟨Nat.le_of_ble_eq_true rfl, Nat.le_of_ble_eq_true rfl⟩ dX6_flightOf_7 ?_
  refine w_top (congrArg (fun z_ => bI (mIn b 0 (z_ - 1))) (show _ = nI n from hn)) ?_
  refine lv_if_eq (tgt := 22) hx hb dX6_flightOf_10 (by decide) (fun c_1 => ?_) (fun c_1 => ?_)
  · have c_1 := bI_0 c_1
    refine lv_aload_n hx hb dX6_flightOf_22 rfl (lv_at hl 0 rfl) ?_
    refine lv_iconst (v := 1) hx hb dX6_flightOf_23 (by decide) ?_
    refine c_mVi (rest := []) hC hE hP hD hS mt_same (metX6_no l (thr G 0) T 1) gc_RX6_110 hd_X6_no ⟨rfl, rfl⟩ ⟨Nat.le_of_ble_eq_true rfl, Nat.le_of_ble_eq_true rfl⟩ 0 gw_0 rfl rfl hl.1 (Nat.le_of_ble_eq_true rfl) ⟨Nat.le_of_ble_eq_true rfl, Nat.le_of_ble_eq_true rfl⟩ dX6_flightOf_24 (fun H locs hP hD hS => ?_)
    have e9 : qflightOf_g G T b n nf = thr (thr G 0) 1 := by rw [qflightOf_g, sel_f (show ¬ (mIn b 0 (nI n - 1)) from c_1)]; first | done | rfl
    exact m_iret hx hb hr hlk dX6_flightOf_27 (by rw [e9]; exact hP) hS (by rw [qflightOf_r, sel_f (show ¬ (mIn b 0 (nI n - 1)) from c_1)]; first | done | rfl)
  · have c_1 := bI_n c_1
    have hx_b := mIn_n hn40 c_1
    have hl : lv_has ls 2 [(0, .ref (g 0)), (1, .int (nI (ix b)))] := by rw [← hx_b.1]; exact hl
    refine lv_aload_n hx hb dX6_flightOf_13 rfl (lv_at hl 0 rfl) ?_
    refine va_get (D := D) (ci := 6) (v := .ref (g 4)) (C := RX6) (T := TX6) (N := 13) hx hb hts tu_6 hown hE.1 hP 0 gw_0 rfl 7 (by decide) (hts _ tw_792) (fun _ h9 => h9) rfl dX6_flightOf_14 ?_
    refine lv_iload_n hx hb dX6_flightOf_17 rfl (lv_at hl 1 rfl) ?_
    refine k_iald (j := (ix b)) hx hb hE hP 4 gw_4 (Nat.lt_of_lt_of_le hx_b.2 hn40) (by decide) dX6_flightOf_18 ?_
    refine lv_goto (tgt := 27) hx hb dX6_flightOf_19 (by decide) ?_
    have e9 : qflightOf_g G T b n nf = thr G 0 := by rw [qflightOf_g, sel_t (show mIn b 0 (nI n - 1) from c_1)]; first | done | rfl
    exact m_iret hx hb hr hlk dX6_flightOf_27 (by rw [e9]; exact hP) hS (by rw [qflightOf_r, sel_t (show mIn b 0 (nI n - 1) from c_1)]; first | done | rfl)

set_option maxHeartbeats 4000000 in
set_option maxRecDepth 100000 in
theorem metX6_whereIs (l : Launch) {D : va_G} {k : Nat → ClassId} {g t : Nat → Nat} {sq : Nat} {R : va_W} (G T : HS) (b : Int32) (n : Nat) (hn : G 0 3 = nI n) (hn40 : n ≤ 40) (nf : Nat) (hnf : G 0 1 = nI nf) (hnf6 : nf ≤ 6) (hF : okF G) (hZ : ∀ f_, f_ < 6 → G 2 f_ = 0 ∨ G 2 f_ = 1) : MM l yX6_whereIs cX6_whereIs 2 (some FieldType.int) rmX6_whereIs D k (gw k g (t 0) sq G ++ (tw k t T ++ R)) [.ref (g 0), .int b] (some (.int (qwhereIs_r G T b n nf))) (gw k g (t 0) sq (qwhereIs_g G T b n nf) ++ (tw k t T ++ R)) := by
  refine MM_of rfl (Nat.le_of_ble_eq_true rfl) ?_
  intro p e s m below meth c hC hr hlk hin hE hP hD hS ls hl
  have hC : CallFix p m c cX6_whereIs 2 s _ lw_all RX6 := hC
  have hx := hC.1
  have hb := hC.2.1
  have hown : s.vm.findClass RX6 = some m.cls := hC.2.2.2.1
  have hts := hC.2.2.2.2
  have hl : lv_has ls 2 [(0, .ref (g 0)), (1, .int b)] := hl
  refine lv_aload_n hx hb dX6_whereIs_0 rfl (lv_at hl 0 rfl) ?_
  refine lv_iconst (v := 0) hx hb dX6_whereIs_1 (by decide) ?_
  refine va_put (D := D) (ci := 6) (v := .int 0) (ty := .int) (C := RX6) (T := TX6) (N := 13) hx hb hts tu_6 tyX6 tyX6_ok nmX6 hown hE.1 hP hD hS 0 gw_0 rfl 0 (by decide) (hts _ tw_785) (fun _ h9 => h9) rfl (by decide +kernel) rfl rfl (Nat.le_of_ble_eq_true rfl) dX6_whereIs_2 (fun H locs hP hD hS => ?_)
  rw [gwp_t (G := G) (v := 0)] at hP hD
  refine lv_aload_n hx hb dX6_whereIs_5 rfl (lv_at hl 0 rfl) ?_
  refine lv_iload_n hx hb dX6_whereIs_6 rfl (lv_at hl 1 rfl) ?_
  refine c_pVi (rest := []) hC hE hP (metX6_isBag l (thr G 0) T b) gc_RX6_128 hd_X6_isBag ⟨rfl, rfl⟩ ⟨Nat.le_of_ble_eq_true rfl, Nat.le_of_ble_eq_true rfl⟩ 0 gw_0 rfl rfl hl.1 (Nat.le_of_ble_eq_true rfl) ⟨Nat.le_of_ble_eq_true rfl, Nat.le_of_ble_eq_true rfl⟩ dX6_whereIs_7 ?_
  refine w_top (congrArg (fun z_ => bI (mIn b 0 (z_ - 1))) (show _ = nI n from hn)) ?_
  refine lv_if_eq (tgt := 25) hx hb dX6_whereIs_10 (by decide) (fun c_1 => ?_) (fun c_1 => ?_)
  · have c_1 := bI_0 c_1
    refine lv_aload_n hx hb dX6_whereIs_25 rfl (lv_at hl 0 rfl) ?_
    refine lv_iconst (v := 1) hx hb dX6_whereIs_26 (by decide) ?_
    refine c_mVi (rest := []) hC hE hP hD hS mt_same (metX6_no l (thr G 0) T 1) gc_RX6_110 hd_X6_no ⟨rfl, rfl⟩ ⟨Nat.le_of_ble_eq_true rfl, Nat.le_of_ble_eq_true rfl⟩ 0 gw_0 rfl rfl hl.1 (Nat.le_of_ble_eq_true rfl) ⟨Nat.le_of_ble_eq_true rfl, Nat.le_of_ble_eq_true rfl⟩ dX6_whereIs_27 (fun H locs hP hD hS => ?_)
    have e9 : qwhereIs_g G T b n nf = thr (thr G 0) 1 := by rw [qwhereIs_g, sel_f (show ¬ (mIn b 0 (nI n - 1)) from c_1)]; first | done | rfl
    exact m_iret hx hb hr hlk dX6_whereIs_30 (by rw [e9]; exact hP) hS (by rw [qwhereIs_r, sel_f (show ¬ (mIn b 0 (nI n - 1)) from c_1)]; first | done | rfl)
  · have c_1 := bI_n c_1
    have hx_b := mIn_n hn40 c_1
    have hl : lv_has ls 2 [(0, .ref (g 0)), (1, .int (nI (ix b)))] := by rw [← hx_b.1]; exact hl
    refine lv_aload_n hx hb dX6_whereIs_13 rfl (lv_at hl 0 rfl) ?_
    refine va_get (D := D) (ci := 6) (v := .ref (t 0)) (C := RX6) (T := TX6) (N := 13) hx hb hts tu_6 hown hE.1 hP 0 gw_0 rfl 11 (by decide) (hts _ tw_796) (fun _ h9 => h9) rfl dX6_whereIs_14 ?_
    refine va_getN (D := D) (ci := 5) (v := .ref (t 1)) (C := RX5) (T := TX5) (N := 9) hx hb hts tu_5 hown hE.1 hP 8 mt_0 rfl 1 (by decide) (va_Nw.use rfl hE.2.2.1) (fun _ h9 => h9) rfl dX6_whereIs_17 ?_
    refine lv_iload_n hx hb dX6_whereIs_20 rfl (lv_at hl 1 rfl) ?_
    refine k_iald (j := (ix b)) hx hb hE hP 9 mt_1 (Nat.lt_of_lt_of_le hx_b.2 hn40) (by decide) dX6_whereIs_21 ?_
    refine lv_goto (tgt := 30) hx hb dX6_whereIs_22 (by decide) ?_
    have e9 : qwhereIs_g G T b n nf = thr G 0 := by rw [qwhereIs_g, sel_t (show mIn b 0 (nI n - 1) from c_1)]; first | done | rfl
    exact m_iret hx hb hr hlk dX6_whereIs_30 (by rw [e9]; exact hP) hS (by rw [qwhereIs_r, sel_t (show mIn b 0 (nI n - 1) from c_1)]; first | done | rfl)

set_option maxHeartbeats 4000000 in
set_option maxRecDepth 100000 in
theorem metX6_placeOf (l : Launch) {D : va_G} {k : Nat → ClassId} {g t : Nat → Nat} {sq : Nat} {R : va_W} (G T : HS) (b : Int32) (n : Nat) (hn : G 0 3 = nI n) (hn40 : n ≤ 40) (nf : Nat) (hnf : G 0 1 = nI nf) (hnf6 : nf ≤ 6) (hF : okF G) (hZ : ∀ f_, f_ < 6 → G 2 f_ = 0 ∨ G 2 f_ = 1) : MM l yX6_placeOf cX6_placeOf 2 (some FieldType.int) rmX6_placeOf D k (gw k g (t 0) sq G ++ (tw k t T ++ R)) [.ref (g 0), .int b] (some (.int (qplaceOf_r G T b n nf))) (gw k g (t 0) sq (qplaceOf_g G T b n nf) ++ (tw k t T ++ R)) := by
  refine MM_of rfl (Nat.le_of_ble_eq_true rfl) ?_
  intro p e s m below meth c hC hr hlk hin hE hP hD hS ls hl
  have hC : CallFix p m c cX6_placeOf 2 s _ lw_all RX6 := hC
  have hx := hC.1
  have hb := hC.2.1
  have hown : s.vm.findClass RX6 = some m.cls := hC.2.2.2.1
  have hts := hC.2.2.2.2
  have hl : lv_has ls 2 [(0, .ref (g 0)), (1, .int b)] := hl
  refine lv_aload_n hx hb dX6_placeOf_0 rfl (lv_at hl 0 rfl) ?_
  refine lv_iconst (v := 0) hx hb dX6_placeOf_1 (by decide) ?_
  refine va_put (D := D) (ci := 6) (v := .int 0) (ty := .int) (C := RX6) (T := TX6) (N := 13) hx hb hts tu_6 tyX6 tyX6_ok nmX6 hown hE.1 hP hD hS 0 gw_0 rfl 0 (by decide) (hts _ tw_785) (fun _ h9 => h9) rfl (by decide +kernel) rfl rfl (Nat.le_of_ble_eq_true rfl) dX6_placeOf_2 (fun H locs hP hD hS => ?_)
  rw [gwp_t (G := G) (v := 0)] at hP hD
  refine lv_aload_n hx hb dX6_placeOf_5 rfl (lv_at hl 0 rfl) ?_
  refine lv_iload_n hx hb dX6_placeOf_6 rfl (lv_at hl 1 rfl) ?_
  refine c_pVi (rest := []) hC hE hP (metX6_isBag l (thr G 0) T b) gc_RX6_128 hd_X6_isBag ⟨rfl, rfl⟩ ⟨Nat.le_of_ble_eq_true rfl, Nat.le_of_ble_eq_true rfl⟩ 0 gw_0 rfl rfl hl.1 (Nat.le_of_ble_eq_true rfl) ⟨Nat.le_of_ble_eq_true rfl, Nat.le_of_ble_eq_true rfl⟩ dX6_placeOf_7 ?_
  refine w_top (congrArg (fun z_ => bI (mIn b 0 (z_ - 1))) (show _ = nI n from hn)) ?_
  refine lv_if_eq (tgt := 22) hx hb dX6_placeOf_10 (by decide) (fun c_1 => ?_) (fun c_1 => ?_)
  · have c_1 := bI_0 c_1
    refine lv_aload_n hx hb dX6_placeOf_22 rfl (lv_at hl 0 rfl) ?_
    refine lv_iconst (v := 1) hx hb dX6_placeOf_23 (by decide) ?_
    refine c_mVi (rest := []) hC hE hP hD hS mt_same (metX6_no l (thr G 0) T 1) gc_RX6_110 hd_X6_no ⟨rfl, rfl⟩ ⟨Nat.le_of_ble_eq_true rfl, Nat.le_of_ble_eq_true rfl⟩ 0 gw_0 rfl rfl hl.1 (Nat.le_of_ble_eq_true rfl) ⟨Nat.le_of_ble_eq_true rfl, Nat.le_of_ble_eq_true rfl⟩ dX6_placeOf_24 (fun H locs hP hD hS => ?_)
    have e9 : qplaceOf_g G T b n nf = thr (thr G 0) 1 := by rw [qplaceOf_g, sel_f (show ¬ (mIn b 0 (nI n - 1)) from c_1)]; first | done | rfl
    exact m_iret hx hb hr hlk dX6_placeOf_27 (by rw [e9]; exact hP) hS (by rw [qplaceOf_r, sel_f (show ¬ (mIn b 0 (nI n - 1)) from c_1)]; first | done | rfl)
  · have c_1 := bI_n c_1
    have hx_b := mIn_n hn40 c_1
    have hl : lv_has ls 2 [(0, .ref (g 0)), (1, .int (nI (ix b)))] := by rw [← hx_b.1]; exact hl
    refine lv_aload_n hx hb dX6_placeOf_13 rfl (lv_at hl 0 rfl) ?_
    refine lv_iload_n hx hb dX6_placeOf_14 rfl (lv_at hl 1 rfl) ?_
    refine lv_iconst (v := 1) hx hb dX6_placeOf_15 (by decide) ?_
    refine c_pVi (rest := []) hC hE hP (metX6_placed l (thr G 0) T (ix b) 1 (Nat.lt_of_lt_of_le hx_b.2 hn40)) gc_RX6_146 hd_X6_placed ⟨rfl, rfl⟩ ⟨Nat.le_of_ble_eq_true rfl, Nat.le_of_ble_eq_true rfl⟩ 0 gw_0 rfl rfl hl.1 (Nat.le_of_ble_eq_true rfl) ⟨Nat.le_of_ble_eq_true rfl, Nat.le_of_ble_eq_true rfl⟩ dX6_placeOf_16 ?_
    refine lv_goto (tgt := 27) hx hb dX6_placeOf_19 (by decide) ?_
    have e9 : qplaceOf_g G T b n nf = thr G 0 := by rw [qplaceOf_g, sel_t (show mIn b 0 (nI n - 1) from c_1)]; first | done | rfl
    exact m_iret hx hb hr hlk dX6_placeOf_27 (by rw [e9]; exact hP) hS (by rw [qplaceOf_r, sel_t (show mIn b 0 (nI n - 1) from c_1)]; first | done | rfl)

set_option maxHeartbeats 4000000 in
set_option maxRecDepth 100000 in
theorem metX6_chuteOf (l : Launch) {D : va_G} {k : Nat → ClassId} {g t : Nat → Nat} {sq : Nat} {R : va_W} (G T : HS) (b : Int32) (n : Nat) (hn : G 0 3 = nI n) (hn40 : n ≤ 40) (nf : Nat) (hnf : G 0 1 = nI nf) (hnf6 : nf ≤ 6) (hF : okF G) (hZ : ∀ f_, f_ < 6 → G 2 f_ = 0 ∨ G 2 f_ = 1) : MM l yX6_chuteOf cX6_chuteOf 2 (some FieldType.int) rmX6_chuteOf D k (gw k g (t 0) sq G ++ (tw k t T ++ R)) [.ref (g 0), .int b] (some (.int (qchuteOf_r G T b n nf))) (gw k g (t 0) sq (qchuteOf_g G T b n nf) ++ (tw k t T ++ R)) := by
  refine MM_of rfl (Nat.le_of_ble_eq_true rfl) ?_
  intro p e s m below meth c hC hr hlk hin hE hP hD hS ls hl
  have hC : CallFix p m c cX6_chuteOf 2 s _ lw_all RX6 := hC
  have hx := hC.1
  have hb := hC.2.1
  have hown : s.vm.findClass RX6 = some m.cls := hC.2.2.2.1
  have hts := hC.2.2.2.2
  have hl : lv_has ls 2 [(0, .ref (g 0)), (1, .int b)] := hl
  refine lv_aload_n hx hb dX6_chuteOf_0 rfl (lv_at hl 0 rfl) ?_
  refine lv_iconst (v := 0) hx hb dX6_chuteOf_1 (by decide) ?_
  refine va_put (D := D) (ci := 6) (v := .int 0) (ty := .int) (C := RX6) (T := TX6) (N := 13) hx hb hts tu_6 tyX6 tyX6_ok nmX6 hown hE.1 hP hD hS 0 gw_0 rfl 0 (by decide) (hts _ tw_785) (fun _ h9 => h9) rfl (by decide +kernel) rfl rfl (Nat.le_of_ble_eq_true rfl) dX6_chuteOf_2 (fun H locs hP hD hS => ?_)
  rw [gwp_t (G := G) (v := 0)] at hP hD
  refine lv_aload_n hx hb dX6_chuteOf_5 rfl (lv_at hl 0 rfl) ?_
  refine lv_iload_n hx hb dX6_chuteOf_6 rfl (lv_at hl 1 rfl) ?_
  refine c_pVi (rest := []) hC hE hP (metX6_isBag l (thr G 0) T b) gc_RX6_128 hd_X6_isBag ⟨rfl, rfl⟩ ⟨Nat.le_of_ble_eq_true rfl, Nat.le_of_ble_eq_true rfl⟩ 0 gw_0 rfl rfl hl.1 (Nat.le_of_ble_eq_true rfl) ⟨Nat.le_of_ble_eq_true rfl, Nat.le_of_ble_eq_true rfl⟩ dX6_chuteOf_7 ?_
  refine w_top (congrArg (fun z_ => bI (mIn b 0 (z_ - 1))) (show _ = nI n from hn)) ?_
  refine lv_if_eq (tgt := 22) hx hb dX6_chuteOf_10 (by decide) (fun c_1 => ?_) (fun c_1 => ?_)
  · have c_1 := bI_0 c_1
    refine lv_aload_n hx hb dX6_chuteOf_22 rfl (lv_at hl 0 rfl) ?_
    refine lv_iconst (v := 1) hx hb dX6_chuteOf_23 (by decide) ?_
    refine c_mVi (rest := []) hC hE hP hD hS mt_same (metX6_no l (thr G 0) T 1) gc_RX6_110 hd_X6_no ⟨rfl, rfl⟩ ⟨Nat.le_of_ble_eq_true rfl, Nat.le_of_ble_eq_true rfl⟩ 0 gw_0 rfl rfl hl.1 (Nat.le_of_ble_eq_true rfl) ⟨Nat.le_of_ble_eq_true rfl, Nat.le_of_ble_eq_true rfl⟩ dX6_chuteOf_24 (fun H locs hP hD hS => ?_)
    have e9 : qchuteOf_g G T b n nf = thr (thr G 0) 1 := by rw [qchuteOf_g, sel_f (show ¬ (mIn b 0 (nI n - 1)) from c_1)]; first | done | rfl
    exact m_iret hx hb hr hlk dX6_chuteOf_27 (by rw [e9]; exact hP) hS (by rw [qchuteOf_r, sel_f (show ¬ (mIn b 0 (nI n - 1)) from c_1)]; first | done | rfl)
  · have c_1 := bI_n c_1
    have hx_b := mIn_n hn40 c_1
    have hl : lv_has ls 2 [(0, .ref (g 0)), (1, .int (nI (ix b)))] := by rw [← hx_b.1]; exact hl
    refine lv_aload_n hx hb dX6_chuteOf_13 rfl (lv_at hl 0 rfl) ?_
    refine lv_iload_n hx hb dX6_chuteOf_14 rfl (lv_at hl 1 rfl) ?_
    refine lv_iconst (v := 2) hx hb dX6_chuteOf_15 (by decide) ?_
    refine c_pVi (rest := []) hC hE hP (metX6_placed l (thr G 0) T (ix b) 2 (Nat.lt_of_lt_of_le hx_b.2 hn40)) gc_RX6_146 hd_X6_placed ⟨rfl, rfl⟩ ⟨Nat.le_of_ble_eq_true rfl, Nat.le_of_ble_eq_true rfl⟩ 0 gw_0 rfl rfl hl.1 (Nat.le_of_ble_eq_true rfl) ⟨Nat.le_of_ble_eq_true rfl, Nat.le_of_ble_eq_true rfl⟩ dX6_chuteOf_16 ?_
    refine lv_goto (tgt := 27) hx hb dX6_chuteOf_19 (by decide) ?_
    have e9 : qchuteOf_g G T b n nf = thr G 0 := by rw [qchuteOf_g, sel_t (show mIn b 0 (nI n - 1) from c_1)]; first | done | rfl
    exact m_iret hx hb hr hlk dX6_chuteOf_27 (by rw [e9]; exact hP) hS (by rw [qchuteOf_r, sel_t (show mIn b 0 (nI n - 1) from c_1)]; first | done | rfl)

set_option maxHeartbeats 4000000 in
set_option maxRecDepth 100000 in
theorem metX6_readFor (l : Launch) {D : va_G} {k : Nat → ClassId} {g t : Nat → Nat} {sq : Nat} {R : va_W} (G T : HS) (b : Int32) (n : Nat) (hn : G 0 3 = nI n) (hn40 : n ≤ 40) (nf : Nat) (hnf : G 0 1 = nI nf) (hnf6 : nf ≤ 6) (hF : okF G) (hZ : ∀ f_, f_ < 6 → G 2 f_ = 0 ∨ G 2 f_ = 1) : MM l yX6_readFor cX6_readFor 2 (some FieldType.int) rmX6_readFor D k (gw k g (t 0) sq G ++ (tw k t T ++ R)) [.ref (g 0), .int b] (some (.int (qreadFor_r G T b n nf))) (gw k g (t 0) sq (qreadFor_g G T b n nf) ++ (tw k t T ++ R)) := by
  refine MM_of rfl (Nat.le_of_ble_eq_true rfl) ?_
  intro p e s m below meth c hC hr hlk hin hE hP hD hS ls hl
  have hC : CallFix p m c cX6_readFor 2 s _ lw_all RX6 := hC
  have hx := hC.1
  have hb := hC.2.1
  have hown : s.vm.findClass RX6 = some m.cls := hC.2.2.2.1
  have hts := hC.2.2.2.2
  have hl : lv_has ls 2 [(0, .ref (g 0)), (1, .int b)] := hl
  refine lv_aload_n hx hb dX6_readFor_0 rfl (lv_at hl 0 rfl) ?_
  refine lv_iconst (v := 0) hx hb dX6_readFor_1 (by decide) ?_
  refine va_put (D := D) (ci := 6) (v := .int 0) (ty := .int) (C := RX6) (T := TX6) (N := 13) hx hb hts tu_6 tyX6 tyX6_ok nmX6 hown hE.1 hP hD hS 0 gw_0 rfl 0 (by decide) (hts _ tw_785) (fun _ h9 => h9) rfl (by decide +kernel) rfl rfl (Nat.le_of_ble_eq_true rfl) dX6_readFor_2 (fun H locs hP hD hS => ?_)
  rw [gwp_t (G := G) (v := 0)] at hP hD
  refine lv_aload_n hx hb dX6_readFor_5 rfl (lv_at hl 0 rfl) ?_
  refine lv_iload_n hx hb dX6_readFor_6 rfl (lv_at hl 1 rfl) ?_
  refine c_pVi (rest := []) hC hE hP (metX6_isBag l (thr G 0) T b) gc_RX6_128 hd_X6_isBag ⟨rfl, rfl⟩ ⟨Nat.le_of_ble_eq_true rfl, Nat.le_of_ble_eq_true rfl⟩ 0 gw_0 rfl rfl hl.1 (Nat.le_of_ble_eq_true rfl) ⟨Nat.le_of_ble_eq_true rfl, Nat.le_of_ble_eq_true rfl⟩ dX6_readFor_7 ?_
  refine w_top (congrArg (fun z_ => bI (mIn b 0 (z_ - 1))) (show _ = nI n from hn)) ?_
  refine lv_if_eq (tgt := 25) hx hb dX6_readFor_10 (by decide) (fun c_1 => ?_) (fun c_1 => ?_)
  · have c_1 := bI_0 c_1
    refine lv_aload_n hx hb dX6_readFor_25 rfl (lv_at hl 0 rfl) ?_
    refine lv_iconst (v := 1) hx hb dX6_readFor_26 (by decide) ?_
    refine c_mVi (rest := []) hC hE hP hD hS mt_same (metX6_no l (thr G 0) T 1) gc_RX6_110 hd_X6_no ⟨rfl, rfl⟩ ⟨Nat.le_of_ble_eq_true rfl, Nat.le_of_ble_eq_true rfl⟩ 0 gw_0 rfl rfl hl.1 (Nat.le_of_ble_eq_true rfl) ⟨Nat.le_of_ble_eq_true rfl, Nat.le_of_ble_eq_true rfl⟩ dX6_readFor_27 (fun H locs hP hD hS => ?_)
    have e9 : qreadFor_g G T b n nf = thr (thr G 0) 1 := by rw [qreadFor_g, sel_f (show ¬ (mIn b 0 (nI n - 1)) from c_1)]; first | done | rfl
    exact m_iret hx hb hr hlk dX6_readFor_30 (by rw [e9]; exact hP) hS (by rw [qreadFor_r, sel_f (show ¬ (mIn b 0 (nI n - 1)) from c_1)]; first | done | rfl)
  · have c_1 := bI_n c_1
    have hx_b := mIn_n hn40 c_1
    have hl : lv_has ls 2 [(0, .ref (g 0)), (1, .int (nI (ix b)))] := by rw [← hx_b.1]; exact hl
    refine lv_aload_n hx hb dX6_readFor_13 rfl (lv_at hl 0 rfl) ?_
    refine va_get (D := D) (ci := 6) (v := .ref (t 0)) (C := RX6) (T := TX6) (N := 13) hx hb hts tu_6 hown hE.1 hP 0 gw_0 rfl 11 (by decide) (hts _ tw_796) (fun _ h9 => h9) rfl dX6_readFor_14 ?_
    refine va_getN (D := D) (ci := 5) (v := .ref (t 3)) (C := RX5) (T := TX5) (N := 9) hx hb hts tu_5 hown hE.1 hP 8 mt_0 rfl 3 (by decide) (va_Nw.use rfl hE.2.2.2.2.1) (fun _ h9 => h9) rfl dX6_readFor_17 ?_
    refine lv_iload_n hx hb dX6_readFor_20 rfl (lv_at hl 1 rfl) ?_
    refine k_iald (j := (ix b)) hx hb hE hP 11 mt_3 (Nat.lt_of_lt_of_le hx_b.2 hn40) (by decide) dX6_readFor_21 ?_
    refine lv_goto (tgt := 30) hx hb dX6_readFor_22 (by decide) ?_
    have e9 : qreadFor_g G T b n nf = thr G 0 := by rw [qreadFor_g, sel_t (show mIn b 0 (nI n - 1) from c_1)]; first | done | rfl
    exact m_iret hx hb hr hlk dX6_readFor_30 (by rw [e9]; exact hP) hS (by rw [qreadFor_r, sel_t (show mIn b 0 (nI n - 1) from c_1)]; first | done | rfl)

set_option maxHeartbeats 4000000 in
set_option maxRecDepth 100000 in
theorem metX6_missesOf (l : Launch) {D : va_G} {k : Nat → ClassId} {g t : Nat → Nat} {sq : Nat} {R : va_W} (G T : HS) (b : Int32) (n : Nat) (hn : G 0 3 = nI n) (hn40 : n ≤ 40) (nf : Nat) (hnf : G 0 1 = nI nf) (hnf6 : nf ≤ 6) (hF : okF G) (hZ : ∀ f_, f_ < 6 → G 2 f_ = 0 ∨ G 2 f_ = 1) : MM l yX6_missesOf cX6_missesOf 2 (some FieldType.int) rmX6_missesOf D k (gw k g (t 0) sq G ++ (tw k t T ++ R)) [.ref (g 0), .int b] (some (.int (qmissesOf_r G T b n nf))) (gw k g (t 0) sq (qmissesOf_g G T b n nf) ++ (tw k t T ++ R)) := by
  refine MM_of rfl (Nat.le_of_ble_eq_true rfl) ?_
  intro p e s m below meth c hC hr hlk hin hE hP hD hS ls hl
  have hC : CallFix p m c cX6_missesOf 2 s _ lw_all RX6 := hC
  have hx := hC.1
  have hb := hC.2.1
  have hown : s.vm.findClass RX6 = some m.cls := hC.2.2.2.1
  have hts := hC.2.2.2.2
  have hl : lv_has ls 2 [(0, .ref (g 0)), (1, .int b)] := hl
  refine lv_aload_n hx hb dX6_missesOf_0 rfl (lv_at hl 0 rfl) ?_
  refine lv_iconst (v := 0) hx hb dX6_missesOf_1 (by decide) ?_
  refine va_put (D := D) (ci := 6) (v := .int 0) (ty := .int) (C := RX6) (T := TX6) (N := 13) hx hb hts tu_6 tyX6 tyX6_ok nmX6 hown hE.1 hP hD hS 0 gw_0 rfl 0 (by decide) (hts _ tw_785) (fun _ h9 => h9) rfl (by decide +kernel) rfl rfl (Nat.le_of_ble_eq_true rfl) dX6_missesOf_2 (fun H locs hP hD hS => ?_)
  rw [gwp_t (G := G) (v := 0)] at hP hD
  refine lv_aload_n hx hb dX6_missesOf_5 rfl (lv_at hl 0 rfl) ?_
  refine lv_iload_n hx hb dX6_missesOf_6 rfl (lv_at hl 1 rfl) ?_
  refine c_pVi (rest := []) hC hE hP (metX6_isBag l (thr G 0) T b) gc_RX6_128 hd_X6_isBag ⟨rfl, rfl⟩ ⟨Nat.le_of_ble_eq_true rfl, Nat.le_of_ble_eq_true rfl⟩ 0 gw_0 rfl rfl hl.1 (Nat.le_of_ble_eq_true rfl) ⟨Nat.le_of_ble_eq_true rfl, Nat.le_of_ble_eq_true rfl⟩ dX6_missesOf_7 ?_
  refine w_top (congrArg (fun z_ => bI (mIn b 0 (z_ - 1))) (show _ = nI n from hn)) ?_
  refine lv_if_eq (tgt := 25) hx hb dX6_missesOf_10 (by decide) (fun c_1 => ?_) (fun c_1 => ?_)
  · have c_1 := bI_0 c_1
    refine lv_aload_n hx hb dX6_missesOf_25 rfl (lv_at hl 0 rfl) ?_
    refine lv_iconst (v := 1) hx hb dX6_missesOf_26 (by decide) ?_
    refine c_mVi (rest := []) hC hE hP hD hS mt_same (metX6_no l (thr G 0) T 1) gc_RX6_110 hd_X6_no ⟨rfl, rfl⟩ ⟨Nat.le_of_ble_eq_true rfl, Nat.le_of_ble_eq_true rfl⟩ 0 gw_0 rfl rfl hl.1 (Nat.le_of_ble_eq_true rfl) ⟨Nat.le_of_ble_eq_true rfl, Nat.le_of_ble_eq_true rfl⟩ dX6_missesOf_27 (fun H locs hP hD hS => ?_)
    have e9 : qmissesOf_g G T b n nf = thr (thr G 0) 1 := by rw [qmissesOf_g, sel_f (show ¬ (mIn b 0 (nI n - 1)) from c_1)]; first | done | rfl
    exact m_iret hx hb hr hlk dX6_missesOf_30 (by rw [e9]; exact hP) hS (by rw [qmissesOf_r, sel_f (show ¬ (mIn b 0 (nI n - 1)) from c_1)]; first | done | rfl)
  · have c_1 := bI_n c_1
    have hx_b := mIn_n hn40 c_1
    have hl : lv_has ls 2 [(0, .ref (g 0)), (1, .int (nI (ix b)))] := by rw [← hx_b.1]; exact hl
    refine lv_aload_n hx hb dX6_missesOf_13 rfl (lv_at hl 0 rfl) ?_
    refine va_get (D := D) (ci := 6) (v := .ref (t 0)) (C := RX6) (T := TX6) (N := 13) hx hb hts tu_6 hown hE.1 hP 0 gw_0 rfl 11 (by decide) (hts _ tw_796) (fun _ h9 => h9) rfl dX6_missesOf_14 ?_
    refine va_getN (D := D) (ci := 5) (v := .ref (t 4)) (C := RX5) (T := TX5) (N := 9) hx hb hts tu_5 hown hE.1 hP 8 mt_0 rfl 4 (by decide) (va_Nw.use rfl hE.2.2.2.2.2.1) (fun _ h9 => h9) rfl dX6_missesOf_17 ?_
    refine lv_iload_n hx hb dX6_missesOf_20 rfl (lv_at hl 1 rfl) ?_
    refine k_iald (j := (ix b)) hx hb hE hP 12 mt_4 (Nat.lt_of_lt_of_le hx_b.2 hn40) (by decide) dX6_missesOf_21 ?_
    refine lv_goto (tgt := 30) hx hb dX6_missesOf_22 (by decide) ?_
    have e9 : qmissesOf_g G T b n nf = thr G 0 := by rw [qmissesOf_g, sel_t (show mIn b 0 (nI n - 1) from c_1)]; first | done | rfl
    exact m_iret hx hb hr hlk dX6_missesOf_30 (by rw [e9]; exact hP) hS (by rw [qmissesOf_r, sel_t (show mIn b 0 (nI n - 1) from c_1)]; first | done | rfl)

set_option maxHeartbeats 4000000 in
set_option maxRecDepth 100000 in
theorem metX6_isMisrouted (l : Launch) {D : va_G} {k : Nat → ClassId} {g t : Nat → Nat} {sq : Nat} {R : va_W} (G T : HS) (b : Int32) (n : Nat) (hn : G 0 3 = nI n) (hn40 : n ≤ 40) (nf : Nat) (hnf : G 0 1 = nI nf) (hnf6 : nf ≤ 6) (hF : okF G) (hZ : ∀ f_, f_ < 6 → G 2 f_ = 0 ∨ G 2 f_ = 1) : MM l yX6_isMisrouted cX6_isMisrouted 2 (some FieldType.boolean) rmX6_isMisrouted D k (gw k g (t 0) sq G ++ (tw k t T ++ R)) [.ref (g 0), .int b] (some (.int (qisMisrouted_r G T b n nf))) (gw k g (t 0) sq (qisMisrouted_g G T b n nf) ++ (tw k t T ++ R)) := by
  refine MM_of rfl (Nat.le_of_ble_eq_true rfl) ?_
  intro p e s m below meth c hC hr hlk hin hE hP hD hS ls hl
  have hC : CallFix p m c cX6_isMisrouted 2 s _ lw_all RX6 := hC
  have hx := hC.1
  have hb := hC.2.1
  have hown : s.vm.findClass RX6 = some m.cls := hC.2.2.2.1
  have hts := hC.2.2.2.2
  have hl : lv_has ls 2 [(0, .ref (g 0)), (1, .int b)] := hl
  refine lv_aload_n hx hb dX6_isMisrouted_0 rfl (lv_at hl 0 rfl) ?_
  refine lv_iconst (v := 0) hx hb dX6_isMisrouted_1 (by decide) ?_
  refine va_put (D := D) (ci := 6) (v := .int 0) (ty := .int) (C := RX6) (T := TX6) (N := 13) hx hb hts tu_6 tyX6 tyX6_ok nmX6 hown hE.1 hP hD hS 0 gw_0 rfl 0 (by decide) (hts _ tw_785) (fun _ h9 => h9) rfl (by decide +kernel) rfl rfl (Nat.le_of_ble_eq_true rfl) dX6_isMisrouted_2 (fun H locs hP hD hS => ?_)
  rw [gwp_t (G := G) (v := 0)] at hP hD
  refine lv_aload_n hx hb dX6_isMisrouted_5 rfl (lv_at hl 0 rfl) ?_
  refine lv_iload_n hx hb dX6_isMisrouted_6 rfl (lv_at hl 1 rfl) ?_
  refine c_pVi (rest := []) hC hE hP (metX6_isBag l (thr G 0) T b) gc_RX6_128 hd_X6_isBag ⟨rfl, rfl⟩ ⟨Nat.le_of_ble_eq_true rfl, Nat.le_of_ble_eq_true rfl⟩ 0 gw_0 rfl rfl hl.1 (Nat.le_of_ble_eq_true rfl) ⟨Nat.le_of_ble_eq_true rfl, Nat.le_of_ble_eq_true rfl⟩ dX6_isMisrouted_7 ?_
  refine w_top (congrArg (fun z_ => bI (mIn b 0 (z_ - 1))) (show _ = nI n from hn)) ?_
  refine lv_if_eq (tgt := 21) hx hb dX6_isMisrouted_10 (by decide) (fun c_1 => ?_) (fun c_1 => ?_)
  · have c_1 := bI_0 c_1
    refine lv_aload_n hx hb dX6_isMisrouted_21 rfl (lv_at hl 0 rfl) ?_
    refine lv_iconst (v := 1) hx hb dX6_isMisrouted_22 (by decide) ?_
    refine c_mVi (rest := []) hC hE hP hD hS mt_same (metX6_isNot l (thr G 0) T 1) gc_RX6_150 hd_X6_isNot ⟨rfl, rfl⟩ ⟨Nat.le_of_ble_eq_true rfl, Nat.le_of_ble_eq_true rfl⟩ 0 gw_0 rfl rfl hl.1 (Nat.le_of_ble_eq_true rfl) ⟨Nat.le_of_ble_eq_true rfl, Nat.le_of_ble_eq_true rfl⟩ dX6_isMisrouted_23 (fun H locs hP hD hS => ?_)
    have e9 : qisMisrouted_g G T b n nf = thr (thr G 0) 1 := by rw [qisMisrouted_g, sel_f (show ¬ (mIn b 0 (nI n - 1)) from c_1)]; first | done | rfl
    exact m_zret hx hb hr rfl hlk dX6_isMisrouted_26 (by rw [e9]; exact hP) hS (by rw [qisMisrouted_r, sel_f (show ¬ (mIn b 0 (nI n - 1)) from c_1)]; first | done | rfl)
  · have c_1 := bI_n c_1
    have hx_b := mIn_n hn40 c_1
    have hl : lv_has ls 2 [(0, .ref (g 0)), (1, .int (nI (ix b)))] := by rw [← hx_b.1]; exact hl
    refine lv_aload_n hx hb dX6_isMisrouted_13 rfl (lv_at hl 0 rfl) ?_
    refine lv_iload_n hx hb dX6_isMisrouted_14 rfl (lv_at hl 1 rfl) ?_
    refine c_pVi (rest := []) hC hE hP (metX6_misrouted l (thr G 0) T (ix b) (Nat.lt_of_lt_of_le hx_b.2 hn40) hF) gc_RX6_137 hd_X6_misrouted ⟨rfl, rfl⟩ ⟨Nat.le_of_ble_eq_true rfl, Nat.le_of_ble_eq_true rfl⟩ 0 gw_0 rfl rfl hl.1 (Nat.le_of_ble_eq_true rfl) ⟨Nat.le_of_ble_eq_true rfl, Nat.le_of_ble_eq_true rfl⟩ dX6_isMisrouted_15 ?_
    refine lv_goto (tgt := 26) hx hb dX6_isMisrouted_18 (by decide) ?_
    have e9 : qisMisrouted_g G T b n nf = thr G 0 := by rw [qisMisrouted_g, sel_t (show mIn b 0 (nI n - 1) from c_1)]; first | done | rfl
    exact m_zret hx hb hr (bI_narrow _) hlk dX6_isMisrouted_26 (by rw [e9]; exact hP) hS (by rw [qisMisrouted_r, sel_t (show mIn b 0 (nI n - 1) from c_1)]; first | done | rfl)

set_option maxHeartbeats 4000000 in
set_option maxRecDepth 100000 in
theorem metX6_hasOpenFile (l : Launch) {D : va_G} {k : Nat → ClassId} {g t : Nat → Nat} {sq : Nat} {R : va_W} (G T : HS) (b : Int32) (n : Nat) (hn : G 0 3 = nI n) (hn40 : n ≤ 40) (nf : Nat) (hnf : G 0 1 = nI nf) (hnf6 : nf ≤ 6) (hF : okF G) (hZ : ∀ f_, f_ < 6 → G 2 f_ = 0 ∨ G 2 f_ = 1) : MM l yX6_hasOpenFile cX6_hasOpenFile 2 (some FieldType.boolean) rmX6_hasOpenFile D k (gw k g (t 0) sq G ++ (tw k t T ++ R)) [.ref (g 0), .int b] (some (.int (qhasOpenFile_r G T b n nf))) (gw k g (t 0) sq (qhasOpenFile_g G T b n nf) ++ (tw k t T ++ R)) := by
  refine MM_of rfl (Nat.le_of_ble_eq_true rfl) ?_
  intro p e s m below meth c hC hr hlk hin hE hP hD hS ls hl
  have hC : CallFix p m c cX6_hasOpenFile 2 s _ lw_all RX6 := hC
  have hx := hC.1
  have hb := hC.2.1
  have hown : s.vm.findClass RX6 = some m.cls := hC.2.2.2.1
  have hts := hC.2.2.2.2
  have hl : lv_has ls 2 [(0, .ref (g 0)), (1, .int b)] := hl
  refine lv_aload_n hx hb dX6_hasOpenFile_0 rfl (lv_at hl 0 rfl) ?_
  refine lv_iconst (v := 0) hx hb dX6_hasOpenFile_1 (by decide) ?_
  refine va_put (D := D) (ci := 6) (v := .int 0) (ty := .int) (C := RX6) (T := TX6) (N := 13) hx hb hts tu_6 tyX6 tyX6_ok nmX6 hown hE.1 hP hD hS 0 gw_0 rfl 0 (by decide) (hts _ tw_785) (fun _ h9 => h9) rfl (by decide +kernel) rfl rfl (Nat.le_of_ble_eq_true rfl) dX6_hasOpenFile_2 (fun H locs hP hD hS => ?_)
  rw [gwp_t (G := G) (v := 0)] at hP hD
  refine lv_aload_n hx hb dX6_hasOpenFile_5 rfl (lv_at hl 0 rfl) ?_
  refine lv_iload_n hx hb dX6_hasOpenFile_6 rfl (lv_at hl 1 rfl) ?_
  refine c_pVi (rest := []) hC hE hP (metX6_isBag l (thr G 0) T b) gc_RX6_128 hd_X6_isBag ⟨rfl, rfl⟩ ⟨Nat.le_of_ble_eq_true rfl, Nat.le_of_ble_eq_true rfl⟩ 0 gw_0 rfl rfl hl.1 (Nat.le_of_ble_eq_true rfl) ⟨Nat.le_of_ble_eq_true rfl, Nat.le_of_ble_eq_true rfl⟩ dX6_hasOpenFile_7 ?_
  refine w_top (congrArg (fun z_ => bI (mIn b 0 (z_ - 1))) (show _ = nI n from hn)) ?_
  refine lv_if_eq (tgt := 31) hx hb dX6_hasOpenFile_10 (by decide) (fun c_1 => ?_) (fun c_1 => ?_)
  · have c_1 := bI_0 c_1
    refine lv_aload_n hx hb dX6_hasOpenFile_31 rfl (lv_at hl 0 rfl) ?_
    refine lv_iconst (v := 1) hx hb dX6_hasOpenFile_32 (by decide) ?_
    refine c_mVi (rest := []) hC hE hP hD hS mt_same (metX6_isNot l (thr G 0) T 1) gc_RX6_150 hd_X6_isNot ⟨rfl, rfl⟩ ⟨Nat.le_of_ble_eq_true rfl, Nat.le_of_ble_eq_true rfl⟩ 0 gw_0 rfl rfl hl.1 (Nat.le_of_ble_eq_true rfl) ⟨Nat.le_of_ble_eq_true rfl, Nat.le_of_ble_eq_true rfl⟩ dX6_hasOpenFile_33 (fun H locs hP hD hS => ?_)
    have e9 : qhasOpenFile_g G T b n nf = thr (thr G 0) 1 := by rw [qhasOpenFile_g, sel_f (show ¬ (mIn b 0 (nI n - 1)) from c_1)]; first | done | rfl
    exact m_zret hx hb hr rfl hlk dX6_hasOpenFile_36 (by rw [e9]; exact hP) hS (by rw [qhasOpenFile_r, sel_f (show ¬ (mIn b 0 (nI n - 1)) from c_1)]; first | done | rfl)
  · have c_1 := bI_n c_1
    have hx_b := mIn_n hn40 c_1
    have hl : lv_has ls 2 [(0, .ref (g 0)), (1, .int (nI (ix b)))] := by rw [← hx_b.1]; exact hl
    refine lv_aload_n hx hb dX6_hasOpenFile_13 rfl (lv_at hl 0 rfl) ?_
    refine va_get (D := D) (ci := 6) (v := .ref (g 7)) (C := RX6) (T := TX6) (N := 13) hx hb hts tu_6 hown hE.1 hP 0 gw_0 rfl 10 (by decide) (hts _ tw_795) (fun _ h9 => h9) rfl dX6_hasOpenFile_14 ?_
    refine lv_iload_n hx hb dX6_hasOpenFile_17 rfl (lv_at hl 1 rfl) ?_
    refine k_iald (j := (ix b)) hx hb hE hP 7 gw_7 (Nat.lt_of_lt_of_le hx_b.2 hn40) (by decide) dX6_hasOpenFile_18 ?_
    refine lv_iconst (v := 1) hx hb dX6_hasOpenFile_19 (by decide) ?_
    refine lv_icmp_ne (tgt := 27) hx hb dX6_hasOpenFile_20 (by decide) (fun c_2 => ?_) (fun c_2 => ?_)
    · refine lv_iconst (v := 0) hx hb dX6_hasOpenFile_27 (by decide) ?_
      refine lv_goto (tgt := 36) hx hb dX6_hasOpenFile_28 (by decide) ?_
      have e9 : qhasOpenFile_g G T b n nf = thr G 0 := by rw [qhasOpenFile_g, sel_t (show mIn b 0 (nI n - 1) from c_1)]; first | done | rfl
      exact m_zret hx hb hr rfl hlk dX6_hasOpenFile_36 (by rw [e9]; exact hP) hS (by rw [qhasOpenFile_r, sel_t (show mIn b 0 (nI n - 1) from c_1), bI_f (show ¬ (G 7 (ix b) = 1) from c_2)]; first | done | rfl)
    · refine lv_iconst (v := 1) hx hb dX6_hasOpenFile_23 (by decide) ?_
      refine lv_goto (tgt := 36) hx hb dX6_hasOpenFile_24 (by decide) ?_
      have e9 : qhasOpenFile_g G T b n nf = thr G 0 := by rw [qhasOpenFile_g, sel_t (show mIn b 0 (nI n - 1) from c_1)]; first | done | rfl
      exact m_zret hx hb hr rfl hlk dX6_hasOpenFile_36 (by rw [e9]; exact hP) hS (by rw [qhasOpenFile_r, sel_t (show mIn b 0 (nI n - 1) from c_1), bI_t (show G 7 (ix b) = 1 from c_2)]; first | done | rfl)

set_option maxHeartbeats 4000000 in
set_option maxRecDepth 100000 in
theorem metX6_bagAt (l : Launch) {D : va_G} {k : Nat → ClassId} {g t : Nat → Nat} {sq : Nat} {R : va_W} (G T : HS) (q : Int32) (n : Nat) (hn : G 0 3 = nI n) (hn40 : n ≤ 40) (nf : Nat) (hnf : G 0 1 = nI nf) (hnf6 : nf ≤ 6) (hF : okF G) (hZ : ∀ f_, f_ < 6 → G 2 f_ = 0 ∨ G 2 f_ = 1) : MM l yX6_bagAt cX6_bagAt 2 (some FieldType.int) rmX6_bagAt D k (gw k g (t 0) sq G ++ (tw k t T ++ R)) [.ref (g 0), .int q] (some (.int (qbagAt_r G T q n nf))) (gw k g (t 0) sq (qbagAt_g G T q n nf) ++ (tw k t T ++ R)) := by
  refine MM_of rfl (Nat.le_of_ble_eq_true rfl) ?_
  intro p e s m below meth c hC hr hlk hin hE hP hD hS ls hl
  have hC : CallFix p m c cX6_bagAt 2 s _ lw_all RX6 := hC
  have hx := hC.1
  have hb := hC.2.1
  have hown : s.vm.findClass RX6 = some m.cls := hC.2.2.2.1
  have hts := hC.2.2.2.2
  have hl : lv_has ls 2 [(0, .ref (g 0)), (1, .int q)] := hl
  refine lv_aload_n hx hb dX6_bagAt_0 rfl (lv_at hl 0 rfl) ?_
  refine lv_iconst (v := 0) hx hb dX6_bagAt_1 (by decide) ?_
  refine va_put (D := D) (ci := 6) (v := .int 0) (ty := .int) (C := RX6) (T := TX6) (N := 13) hx hb hts tu_6 tyX6 tyX6_ok nmX6 hown hE.1 hP hD hS 0 gw_0 rfl 0 (by decide) (hts _ tw_785) (fun _ h9 => h9) rfl (by decide +kernel) rfl rfl (Nat.le_of_ble_eq_true rfl) dX6_bagAt_2 (fun H locs hP hD hS => ?_)
  rw [gwp_t (G := G) (v := 0)] at hP hD
  refine lv_iload_n hx hb dX6_bagAt_5 rfl (lv_at hl 1 rfl) ?_
  refine lv_iconst (v := 0) hx hb dX6_bagAt_6 (by decide) ?_
  refine lv_bipush (v := 11) hx hb dX6_bagAt_7 (by decide) ?_
  refine c_pSi (rest := []) hC hE hP (metX6_isIn l q 0 11) gc_RX6_52 hd_X6_isIn ⟨rfl, rfl⟩ ⟨Nat.le_of_ble_eq_true rfl, Nat.le_of_ble_eq_true rfl⟩ rfl hl.1 (Nat.le_of_ble_eq_true rfl) ⟨Nat.le_of_ble_eq_true rfl, Nat.le_of_ble_eq_true rfl⟩ dX6_bagAt_9 ?_
  refine lv_if_eq (tgt := 27) hx hb dX6_bagAt_12 (by decide) (fun c_1 => ?_) (fun c_1 => ?_)
  · have c_1 := bI_0 c_1
    refine lv_aload_n hx hb dX6_bagAt_27 rfl (lv_at hl 0 rfl) ?_
    refine lv_iconst (v := 1) hx hb dX6_bagAt_28 (by decide) ?_
    refine c_mVi (rest := []) hC hE hP hD hS mt_same (metX6_no l (thr G 0) T 1) gc_RX6_110 hd_X6_no ⟨rfl, rfl⟩ ⟨Nat.le_of_ble_eq_true rfl, Nat.le_of_ble_eq_true rfl⟩ 0 gw_0 rfl rfl hl.1 (Nat.le_of_ble_eq_true rfl) ⟨Nat.le_of_ble_eq_true rfl, Nat.le_of_ble_eq_true rfl⟩ dX6_bagAt_29 (fun H locs hP hD hS => ?_)
    have e9 : qbagAt_g G T q n nf = thr (thr G 0) 1 := by rw [qbagAt_g, sel_f (show ¬ (mIn q 0 11) from c_1)]; first | done | rfl
    exact m_iret hx hb hr hlk dX6_bagAt_32 (by rw [e9]; exact hP) hS (by rw [qbagAt_r, sel_f (show ¬ (mIn q 0 11) from c_1)]; first | done | rfl)
  · have c_1 := bI_n c_1
    have hx_q := mIn_k (n := 11) (by decide) c_1
    have hl : lv_has ls 2 [(0, .ref (g 0)), (1, .int (nI (ix q)))] := by rw [← hx_q.1]; exact hl
    refine lv_aload_n hx hb dX6_bagAt_15 rfl (lv_at hl 0 rfl) ?_
    refine va_get (D := D) (ci := 6) (v := .ref (t 0)) (C := RX6) (T := TX6) (N := 13) hx hb hts tu_6 hown hE.1 hP 0 gw_0 rfl 11 (by decide) (hts _ tw_796) (fun _ h9 => h9) rfl dX6_bagAt_16 ?_
    refine va_getN (D := D) (ci := 5) (v := .ref (t 5)) (C := RX5) (T := TX5) (N := 9) hx hb hts tu_5 hown hE.1 hP 8 mt_0 rfl 5 (by decide) (va_Nw.use rfl hE.2.2.2.2.2.2.1) (fun _ h9 => h9) rfl dX6_bagAt_19 ?_
    refine lv_iload_n hx hb dX6_bagAt_22 rfl (lv_at hl 1 rfl) ?_
    refine k_iald (j := (ix q)) hx hb hE hP 13 mt_5 (Nat.lt_succ_of_le hx_q.2) (by decide) dX6_bagAt_23 ?_
    refine lv_goto (tgt := 32) hx hb dX6_bagAt_24 (by decide) ?_
    have e9 : qbagAt_g G T q n nf = thr G 0 := by rw [qbagAt_g, sel_t (show mIn q 0 11 from c_1)]; first | done | rfl
    exact m_iret hx hb hr hlk dX6_bagAt_32 (by rw [e9]; exact hP) hS (by rw [qbagAt_r, sel_t (show mIn q 0 11 from c_1)]; first | done | rfl)

set_option maxHeartbeats 4000000 in
set_option maxRecDepth 100000 in
theorem metX6_bagsIn (l : Launch) {D : va_G} {k : Nat → ClassId} {g t : Nat → Nat} {sq : Nat} {R : va_W} (G T : HS) (ch : Int32) (n : Nat) (hn : G 0 3 = nI n) (hn40 : n ≤ 40) (nf : Nat) (hnf : G 0 1 = nI nf) (hnf6 : nf ≤ 6) (hF : okF G) (hZ : ∀ f_, f_ < 6 → G 2 f_ = 0 ∨ G 2 f_ = 1) : MM l yX6_bagsIn cX6_bagsIn 2 (some FieldType.int) rmX6_bagsIn D k (gw k g (t 0) sq G ++ (tw k t T ++ R)) [.ref (g 0), .int ch] (some (.int (qbagsIn_r G T ch n nf))) (gw k g (t 0) sq (qbagsIn_g G T ch n nf) ++ (tw k t T ++ R)) := by
  refine MM_of rfl (Nat.le_of_ble_eq_true rfl) ?_
  intro p e s m below meth c hC hr hlk hin hE hP hD hS ls hl
  have hC : CallFix p m c cX6_bagsIn 2 s _ lw_all RX6 := hC
  have hx := hC.1
  have hb := hC.2.1
  have hown : s.vm.findClass RX6 = some m.cls := hC.2.2.2.1
  have hts := hC.2.2.2.2
  have hl : lv_has ls 2 [(0, .ref (g 0)), (1, .int ch)] := hl
  refine lv_aload_n hx hb dX6_bagsIn_0 rfl (lv_at hl 0 rfl) ?_
  refine lv_iconst (v := 0) hx hb dX6_bagsIn_1 (by decide) ?_
  refine va_put (D := D) (ci := 6) (v := .int 0) (ty := .int) (C := RX6) (T := TX6) (N := 13) hx hb hts tu_6 tyX6 tyX6_ok nmX6 hown hE.1 hP hD hS 0 gw_0 rfl 0 (by decide) (hts _ tw_785) (fun _ h9 => h9) rfl (by decide +kernel) rfl rfl (Nat.le_of_ble_eq_true rfl) dX6_bagsIn_2 (fun H locs hP hD hS => ?_)
  rw [gwp_t (G := G) (v := 0)] at hP hD
  refine lv_iload_n hx hb dX6_bagsIn_5 rfl (lv_at hl 1 rfl) ?_
  refine c_pSi (rest := []) hC hE hP (metX6_isChute l ch) gc_RX6_118 hd_X6_isChute ⟨rfl, rfl⟩ ⟨Nat.le_of_ble_eq_true rfl, Nat.le_of_ble_eq_true rfl⟩ rfl hl.1 (Nat.le_of_ble_eq_true rfl) ⟨Nat.le_of_ble_eq_true rfl, Nat.le_of_ble_eq_true rfl⟩ dX6_bagsIn_6 ?_
  refine lv_if_eq (tgt := 24) hx hb dX6_bagsIn_9 (by decide) (fun c_1 => ?_) (fun c_1 => ?_)
  · have c_1 := bI_0 c_1
    refine lv_aload_n hx hb dX6_bagsIn_24 rfl (lv_at hl 0 rfl) ?_
    refine lv_iconst (v := 1) hx hb dX6_bagsIn_25 (by decide) ?_
    refine c_mVi (rest := []) hC hE hP hD hS mt_same (metX6_no l (thr G 0) T 1) gc_RX6_110 hd_X6_no ⟨rfl, rfl⟩ ⟨Nat.le_of_ble_eq_true rfl, Nat.le_of_ble_eq_true rfl⟩ 0 gw_0 rfl rfl hl.1 (Nat.le_of_ble_eq_true rfl) ⟨Nat.le_of_ble_eq_true rfl, Nat.le_of_ble_eq_true rfl⟩ dX6_bagsIn_26 (fun H locs hP hD hS => ?_)
    have e9 : qbagsIn_g G T ch n nf = thr (thr G 0) 1 := by rw [qbagsIn_g, sel_f (show ¬ (mIn ch 0 3) from c_1)]; first | done | rfl
    exact m_iret hx hb hr hlk dX6_bagsIn_29 (by rw [e9]; exact hP) hS (by rw [qbagsIn_r, sel_f (show ¬ (mIn ch 0 3) from c_1)]; first | done | rfl)
  · have c_1 := bI_n c_1
    have hx_ch := mIn_k (n := 3) (by decide) c_1
    have hl : lv_has ls 2 [(0, .ref (g 0)), (1, .int (nI (ix ch)))] := by rw [← hx_ch.1]; exact hl
    refine lv_aload_n hx hb dX6_bagsIn_12 rfl (lv_at hl 0 rfl) ?_
    refine va_get (D := D) (ci := 6) (v := .ref (t 0)) (C := RX6) (T := TX6) (N := 13) hx hb hts tu_6 hown hE.1 hP 0 gw_0 rfl 11 (by decide) (hts _ tw_796) (fun _ h9 => h9) rfl dX6_bagsIn_13 ?_
    refine va_getN (D := D) (ci := 5) (v := .ref (t 7)) (C := RX5) (T := TX5) (N := 9) hx hb hts tu_5 hown hE.1 hP 8 mt_0 rfl 8 (by decide) (va_Nw.use rfl hE.2.2.2.2.2.2.2.2) (fun _ h9 => h9) rfl dX6_bagsIn_16 ?_
    refine lv_iload_n hx hb dX6_bagsIn_19 rfl (lv_at hl 1 rfl) ?_
    refine k_iald (j := (ix ch)) hx hb hE hP 15 mt_7 (Nat.lt_succ_of_le hx_ch.2) (by decide) dX6_bagsIn_20 ?_
    refine lv_goto (tgt := 29) hx hb dX6_bagsIn_21 (by decide) ?_
    have e9 : qbagsIn_g G T ch n nf = thr G 0 := by rw [qbagsIn_g, sel_t (show mIn ch 0 3 from c_1)]; first | done | rfl
    exact m_iret hx hb hr hlk dX6_bagsIn_29 (by rw [e9]; exact hP) hS (by rw [qbagsIn_r, sel_t (show mIn ch 0 3 from c_1)]; first | done | rfl)

set_option maxHeartbeats 4000000 in
set_option maxRecDepth 100000 in
theorem metX6_misroutedIn (l : Launch) {D : va_G} {k : Nat → ClassId} {g t : Nat → Nat} {sq : Nat} {R : va_W} (G T : HS) (ch : Int32) (n : Nat) (hn : G 0 3 = nI n) (hn40 : n ≤ 40) (nf : Nat) (hnf : G 0 1 = nI nf) (hnf6 : nf ≤ 6) (hF : okF G) (hZ : ∀ f_, f_ < 6 → G 2 f_ = 0 ∨ G 2 f_ = 1) : MM l yX6_misroutedIn cX6_misroutedIn 2 (some FieldType.int) rmX6_misroutedIn D k (gw k g (t 0) sq G ++ (tw k t T ++ R)) [.ref (g 0), .int ch] (some (.int (qmisroutedIn_r G T ch n nf))) (gw k g (t 0) sq (qmisroutedIn_g G T ch n nf) ++ (tw k t T ++ R)) := by
  refine MM_of rfl (Nat.le_of_ble_eq_true rfl) ?_
  intro p e s m below meth c hC hr hlk hin hE hP hD hS ls hl
  have hC : CallFix p m c cX6_misroutedIn 2 s _ lw_all RX6 := hC
  have hx := hC.1
  have hb := hC.2.1
  have hown : s.vm.findClass RX6 = some m.cls := hC.2.2.2.1
  have hts := hC.2.2.2.2
  have hl : lv_has ls 2 [(0, .ref (g 0)), (1, .int ch)] := hl
  refine lv_aload_n hx hb dX6_misroutedIn_0 rfl (lv_at hl 0 rfl) ?_
  refine lv_iconst (v := 0) hx hb dX6_misroutedIn_1 (by decide) ?_
  refine va_put (D := D) (ci := 6) (v := .int 0) (ty := .int) (C := RX6) (T := TX6) (N := 13) hx hb hts tu_6 tyX6 tyX6_ok nmX6 hown hE.1 hP hD hS 0 gw_0 rfl 0 (by decide) (hts _ tw_785) (fun _ h9 => h9) rfl (by decide +kernel) rfl rfl (Nat.le_of_ble_eq_true rfl) dX6_misroutedIn_2 (fun H locs hP hD hS => ?_)
  rw [gwp_t (G := G) (v := 0)] at hP hD
  refine lv_iload_n hx hb dX6_misroutedIn_5 rfl (lv_at hl 1 rfl) ?_
  refine c_pSi (rest := []) hC hE hP (metX6_isChute l ch) gc_RX6_118 hd_X6_isChute ⟨rfl, rfl⟩ ⟨Nat.le_of_ble_eq_true rfl, Nat.le_of_ble_eq_true rfl⟩ rfl hl.1 (Nat.le_of_ble_eq_true rfl) ⟨Nat.le_of_ble_eq_true rfl, Nat.le_of_ble_eq_true rfl⟩ dX6_misroutedIn_6 ?_
  refine lv_if_eq (tgt := 20) hx hb dX6_misroutedIn_9 (by decide) (fun c_1 => ?_) (fun c_1 => ?_)
  · have c_1 := bI_0 c_1
    refine lv_aload_n hx hb dX6_misroutedIn_20 rfl (lv_at hl 0 rfl) ?_
    refine lv_iconst (v := 1) hx hb dX6_misroutedIn_21 (by decide) ?_
    refine c_mVi (rest := []) hC hE hP hD hS mt_same (metX6_no l (thr G 0) T 1) gc_RX6_110 hd_X6_no ⟨rfl, rfl⟩ ⟨Nat.le_of_ble_eq_true rfl, Nat.le_of_ble_eq_true rfl⟩ 0 gw_0 rfl rfl hl.1 (Nat.le_of_ble_eq_true rfl) ⟨Nat.le_of_ble_eq_true rfl, Nat.le_of_ble_eq_true rfl⟩ dX6_misroutedIn_22 (fun H locs hP hD hS => ?_)
    have e9 : qmisroutedIn_g G T ch n nf = thr (thr G 0) 1 := by rw [qmisroutedIn_g, sel_f (show ¬ (mIn ch 0 3) from c_1)]; first | done | rfl
    exact m_iret hx hb hr hlk dX6_misroutedIn_25 (by rw [e9]; exact hP) hS (by rw [qmisroutedIn_r, sel_f (show ¬ (mIn ch 0 3) from c_1)]; first | done | rfl)
  · have c_1 := bI_n c_1
    have hx_ch := mIn_k (n := 3) (by decide) c_1
    have hl : lv_has ls 2 [(0, .ref (g 0)), (1, .int (nI (ix ch)))] := by rw [← hx_ch.1]; exact hl
    refine lv_aload_n hx hb dX6_misroutedIn_12 rfl (lv_at hl 0 rfl) ?_
    refine lv_iload_n hx hb dX6_misroutedIn_13 rfl (lv_at hl 1 rfl) ?_
    refine c_pVi (rest := []) hC hE hP (metX6_badIn l (thr G 0) T (nI (ix ch)) n hn hn40 hF) gc_RX6_153 hd_X6_badIn ⟨rfl, rfl⟩ ⟨Nat.le_of_ble_eq_true rfl, Nat.le_of_ble_eq_true rfl⟩ 0 gw_0 rfl rfl hl.1 (Nat.le_of_ble_eq_true rfl) ⟨Nat.le_of_ble_eq_true rfl, Nat.le_of_ble_eq_true rfl⟩ dX6_misroutedIn_14 ?_
    refine lv_goto (tgt := 25) hx hb dX6_misroutedIn_17 (by decide) ?_
    have e9 : qmisroutedIn_g G T ch n nf = thr G 0 := by rw [qmisroutedIn_g, sel_t (show mIn ch 0 3 from c_1)]; first | done | rfl
    exact m_iret hx hb hr hlk dX6_misroutedIn_25 (by rw [e9]; exact hP) hS (by rw [qmisroutedIn_r, sel_t (show mIn ch 0 3 from c_1)]; first | done | rfl)

set_option maxHeartbeats 4000000 in
set_option maxRecDepth 100000 in
theorem metX6_roomOf (l : Launch) {D : va_G} {k : Nat → ClassId} {g t : Nat → Nat} {sq : Nat} {R : va_W} (G T : HS) (ch : Int32) (n : Nat) (hn : G 0 3 = nI n) (hn40 : n ≤ 40) (nf : Nat) (hnf : G 0 1 = nI nf) (hnf6 : nf ≤ 6) (hF : okF G) (hZ : ∀ f_, f_ < 6 → G 2 f_ = 0 ∨ G 2 f_ = 1) : MM l yX6_roomOf cX6_roomOf 2 (some FieldType.int) rmX6_roomOf D k (gw k g (t 0) sq G ++ (tw k t T ++ R)) [.ref (g 0), .int ch] (some (.int (qroomOf_r G T ch n nf))) (gw k g (t 0) sq (qroomOf_g G T ch n nf) ++ (tw k t T ++ R)) := by
  refine MM_of rfl (Nat.le_of_ble_eq_true rfl) ?_
  intro p e s m below meth c hC hr hlk hin hE hP hD hS ls hl
  have hC : CallFix p m c cX6_roomOf 2 s _ lw_all RX6 := hC
  have hx := hC.1
  have hb := hC.2.1
  have hown : s.vm.findClass RX6 = some m.cls := hC.2.2.2.1
  have hts := hC.2.2.2.2
  have hl : lv_has ls 2 [(0, .ref (g 0)), (1, .int ch)] := hl
  refine lv_aload_n hx hb dX6_roomOf_0 rfl (lv_at hl 0 rfl) ?_
  refine lv_iconst (v := 0) hx hb dX6_roomOf_1 (by decide) ?_
  refine va_put (D := D) (ci := 6) (v := .int 0) (ty := .int) (C := RX6) (T := TX6) (N := 13) hx hb hts tu_6 tyX6 tyX6_ok nmX6 hown hE.1 hP hD hS 0 gw_0 rfl 0 (by decide) (hts _ tw_785) (fun _ h9 => h9) rfl (by decide +kernel) rfl rfl (Nat.le_of_ble_eq_true rfl) dX6_roomOf_2 (fun H locs hP hD hS => ?_)
  rw [gwp_t (G := G) (v := 0)] at hP hD
  refine lv_iload_n hx hb dX6_roomOf_5 rfl (lv_at hl 1 rfl) ?_
  refine c_pSi (rest := []) hC hE hP (metX6_isChute l ch) gc_RX6_118 hd_X6_isChute ⟨rfl, rfl⟩ ⟨Nat.le_of_ble_eq_true rfl, Nat.le_of_ble_eq_true rfl⟩ rfl hl.1 (Nat.le_of_ble_eq_true rfl) ⟨Nat.le_of_ble_eq_true rfl, Nat.le_of_ble_eq_true rfl⟩ dX6_roomOf_6 ?_
  refine lv_if_eq (tgt := 21) hx hb dX6_roomOf_9 (by decide) (fun c_1 => ?_) (fun c_1 => ?_)
  · have c_1 := bI_0 c_1
    refine lv_aload_n hx hb dX6_roomOf_21 rfl (lv_at hl 0 rfl) ?_
    refine lv_iconst (v := 1) hx hb dX6_roomOf_22 (by decide) ?_
    refine c_mVi (rest := []) hC hE hP hD hS mt_same (metX6_no l (thr G 0) T 1) gc_RX6_110 hd_X6_no ⟨rfl, rfl⟩ ⟨Nat.le_of_ble_eq_true rfl, Nat.le_of_ble_eq_true rfl⟩ 0 gw_0 rfl rfl hl.1 (Nat.le_of_ble_eq_true rfl) ⟨Nat.le_of_ble_eq_true rfl, Nat.le_of_ble_eq_true rfl⟩ dX6_roomOf_23 (fun H locs hP hD hS => ?_)
    have e9 : qroomOf_g G T ch n nf = thr (thr G 0) 1 := by rw [qroomOf_g, sel_f (show ¬ (mIn ch 0 3) from c_1)]; first | done | rfl
    exact m_iret hx hb hr hlk dX6_roomOf_26 (by rw [e9]; exact hP) hS (by rw [qroomOf_r, sel_f (show ¬ (mIn ch 0 3) from c_1)]; first | done | rfl)
  · have c_1 := bI_n c_1
    have hx_ch := mIn_k (n := 3) (by decide) c_1
    have hl : lv_has ls 2 [(0, .ref (g 0)), (1, .int (nI (ix ch)))] := by rw [← hx_ch.1]; exact hl
    refine lv_aload_n hx hb dX6_roomOf_12 rfl (lv_at hl 0 rfl) ?_
    refine va_get (D := D) (ci := 6) (v := .ref (g 3)) (C := RX6) (T := TX6) (N := 13) hx hb hts tu_6 hown hE.1 hP 0 gw_0 rfl 4 (by decide) (hts _ tw_789) (fun _ h9 => h9) rfl dX6_roomOf_13 ?_
    refine lv_iload_n hx hb dX6_roomOf_16 rfl (lv_at hl 1 rfl) ?_
    refine k_iald (j := (ix ch)) hx hb hE hP 3 gw_3 (Nat.lt_succ_of_le hx_ch.2) (by decide) dX6_roomOf_17 ?_
    refine lv_goto (tgt := 26) hx hb dX6_roomOf_18 (by decide) ?_
    have e9 : qroomOf_g G T ch n nf = thr G 0 := by rw [qroomOf_g, sel_t (show mIn ch 0 3 from c_1)]; first | done | rfl
    exact m_iret hx hb hr hlk dX6_roomOf_26 (by rw [e9]; exact hP) hS (by rw [qroomOf_r, sel_t (show mIn ch 0 3 from c_1)]; first | done | rfl)

set_option maxHeartbeats 4000000 in
set_option maxRecDepth 100000 in
theorem metX6_chuteOfFlight (l : Launch) {D : va_G} {k : Nat → ClassId} {g t : Nat → Nat} {sq : Nat} {R : va_W} (G T : HS) (f : Int32) (n : Nat) (hn : G 0 3 = nI n) (hn40 : n ≤ 40) (nf : Nat) (hnf : G 0 1 = nI nf) (hnf6 : nf ≤ 6) (hF : okF G) (hZ : ∀ f_, f_ < 6 → G 2 f_ = 0 ∨ G 2 f_ = 1) : MM l yX6_chuteOfFlight cX6_chuteOfFlight 2 (some FieldType.int) rmX6_chuteOfFlight D k (gw k g (t 0) sq G ++ (tw k t T ++ R)) [.ref (g 0), .int f] (some (.int (qchuteOfFlight_r G T f n nf))) (gw k g (t 0) sq (qchuteOfFlight_g G T f n nf) ++ (tw k t T ++ R)) := by
  refine MM_of rfl (Nat.le_of_ble_eq_true rfl) ?_
  intro p e s m below meth c hC hr hlk hin hE hP hD hS ls hl
  have hC : CallFix p m c cX6_chuteOfFlight 2 s _ lw_all RX6 := hC
  have hx := hC.1
  have hb := hC.2.1
  have hown : s.vm.findClass RX6 = some m.cls := hC.2.2.2.1
  have hts := hC.2.2.2.2
  have hl : lv_has ls 2 [(0, .ref (g 0)), (1, .int f)] := hl
  refine lv_aload_n hx hb dX6_chuteOfFlight_0 rfl (lv_at hl 0 rfl) ?_
  refine lv_iconst (v := 0) hx hb dX6_chuteOfFlight_1 (by decide) ?_
  refine va_put (D := D) (ci := 6) (v := .int 0) (ty := .int) (C := RX6) (T := TX6) (N := 13) hx hb hts tu_6 tyX6 tyX6_ok nmX6 hown hE.1 hP hD hS 0 gw_0 rfl 0 (by decide) (hts _ tw_785) (fun _ h9 => h9) rfl (by decide +kernel) rfl rfl (Nat.le_of_ble_eq_true rfl) dX6_chuteOfFlight_2 (fun H locs hP hD hS => ?_)
  rw [gwp_t (G := G) (v := 0)] at hP hD
  refine lv_aload_n hx hb dX6_chuteOfFlight_5 rfl (lv_at hl 0 rfl) ?_
  refine lv_iload_n hx hb dX6_chuteOfFlight_6 rfl (lv_at hl 1 rfl) ?_
  refine c_pVi (rest := []) hC hE hP (metX6_isFlight l (thr G 0) T f) gc_RX6_114 hd_X6_isFlight ⟨rfl, rfl⟩ ⟨Nat.le_of_ble_eq_true rfl, Nat.le_of_ble_eq_true rfl⟩ 0 gw_0 rfl rfl hl.1 (Nat.le_of_ble_eq_true rfl) ⟨Nat.le_of_ble_eq_true rfl, Nat.le_of_ble_eq_true rfl⟩ dX6_chuteOfFlight_7 ?_
  refine w_top (congrArg (fun z_ => bI (mIn f 0 (z_ - 1))) (show _ = nI nf from hnf)) ?_
  refine lv_if_eq (tgt := 22) hx hb dX6_chuteOfFlight_10 (by decide) (fun c_1 => ?_) (fun c_1 => ?_)
  · have c_1 := bI_0 c_1
    refine lv_aload_n hx hb dX6_chuteOfFlight_22 rfl (lv_at hl 0 rfl) ?_
    refine lv_iconst (v := 1) hx hb dX6_chuteOfFlight_23 (by decide) ?_
    refine c_mVi (rest := []) hC hE hP hD hS mt_same (metX6_no l (thr G 0) T 1) gc_RX6_110 hd_X6_no ⟨rfl, rfl⟩ ⟨Nat.le_of_ble_eq_true rfl, Nat.le_of_ble_eq_true rfl⟩ 0 gw_0 rfl rfl hl.1 (Nat.le_of_ble_eq_true rfl) ⟨Nat.le_of_ble_eq_true rfl, Nat.le_of_ble_eq_true rfl⟩ dX6_chuteOfFlight_24 (fun H locs hP hD hS => ?_)
    have e9 : qchuteOfFlight_g G T f n nf = thr (thr G 0) 1 := by rw [qchuteOfFlight_g, sel_f (show ¬ (mIn f 0 (nI nf - 1)) from c_1)]; first | done | rfl
    exact m_iret hx hb hr hlk dX6_chuteOfFlight_27 (by rw [e9]; exact hP) hS (by rw [qchuteOfFlight_r, sel_f (show ¬ (mIn f 0 (nI nf - 1)) from c_1)]; first | done | rfl)
  · have c_1 := bI_n c_1
    have hx_f := mIn_n (Nat.le_trans hnf6 (by decide)) c_1
    have hl : lv_has ls 2 [(0, .ref (g 0)), (1, .int (nI (ix f)))] := by rw [← hx_f.1]; exact hl
    refine lv_aload_n hx hb dX6_chuteOfFlight_13 rfl (lv_at hl 0 rfl) ?_
    refine va_get (D := D) (ci := 6) (v := .ref (g 1)) (C := RX6) (T := TX6) (N := 13) hx hb hts tu_6 hown hE.1 hP 0 gw_0 rfl 2 (by decide) (hts _ tw_787) (fun _ h9 => h9) rfl dX6_chuteOfFlight_14 ?_
    refine lv_iload_n hx hb dX6_chuteOfFlight_17 rfl (lv_at hl 1 rfl) ?_
    refine k_iald (j := (ix f)) hx hb hE hP 1 gw_1 (Nat.lt_of_lt_of_le hx_f.2 hnf6) (by decide) dX6_chuteOfFlight_18 ?_
    refine lv_goto (tgt := 27) hx hb dX6_chuteOfFlight_19 (by decide) ?_
    have e9 : qchuteOfFlight_g G T f n nf = thr G 0 := by rw [qchuteOfFlight_g, sel_t (show mIn f 0 (nI nf - 1) from c_1)]; first | done | rfl
    exact m_iret hx hb hr hlk dX6_chuteOfFlight_27 (by rw [e9]; exact hP) hS (by rw [qchuteOfFlight_r, sel_t (show mIn f 0 (nI nf - 1) from c_1)]; first | done | rfl)

set_option maxHeartbeats 4000000 in
set_option maxRecDepth 100000 in
theorem metX6_isGone (l : Launch) {D : va_G} {k : Nat → ClassId} {g t : Nat → Nat} {sq : Nat} {R : va_W} (G T : HS) (f : Int32) (n : Nat) (hn : G 0 3 = nI n) (hn40 : n ≤ 40) (nf : Nat) (hnf : G 0 1 = nI nf) (hnf6 : nf ≤ 6) (hF : okF G) (hZ : ∀ f_, f_ < 6 → G 2 f_ = 0 ∨ G 2 f_ = 1) : MM l yX6_isGone cX6_isGone 2 (some FieldType.boolean) rmX6_isGone D k (gw k g (t 0) sq G ++ (tw k t T ++ R)) [.ref (g 0), .int f] (some (.int (qisGone_r G T f n nf))) (gw k g (t 0) sq (qisGone_g G T f n nf) ++ (tw k t T ++ R)) := by
  refine MM_of rfl (Nat.le_of_ble_eq_true rfl) ?_
  intro p e s m below meth c hC hr hlk hin hE hP hD hS ls hl
  have hC : CallFix p m c cX6_isGone 2 s _ lw_all RX6 := hC
  have hx := hC.1
  have hb := hC.2.1
  have hown : s.vm.findClass RX6 = some m.cls := hC.2.2.2.1
  have hts := hC.2.2.2.2
  have hl : lv_has ls 2 [(0, .ref (g 0)), (1, .int f)] := hl
  refine lv_aload_n hx hb dX6_isGone_0 rfl (lv_at hl 0 rfl) ?_
  refine lv_iconst (v := 0) hx hb dX6_isGone_1 (by decide) ?_
  refine va_put (D := D) (ci := 6) (v := .int 0) (ty := .int) (C := RX6) (T := TX6) (N := 13) hx hb hts tu_6 tyX6 tyX6_ok nmX6 hown hE.1 hP hD hS 0 gw_0 rfl 0 (by decide) (hts _ tw_785) (fun _ h9 => h9) rfl (by decide +kernel) rfl rfl (Nat.le_of_ble_eq_true rfl) dX6_isGone_2 (fun H locs hP hD hS => ?_)
  rw [gwp_t (G := G) (v := 0)] at hP hD
  refine lv_aload_n hx hb dX6_isGone_5 rfl (lv_at hl 0 rfl) ?_
  refine lv_iload_n hx hb dX6_isGone_6 rfl (lv_at hl 1 rfl) ?_
  refine c_pVi (rest := []) hC hE hP (metX6_isFlight l (thr G 0) T f) gc_RX6_114 hd_X6_isFlight ⟨rfl, rfl⟩ ⟨Nat.le_of_ble_eq_true rfl, Nat.le_of_ble_eq_true rfl⟩ 0 gw_0 rfl rfl hl.1 (Nat.le_of_ble_eq_true rfl) ⟨Nat.le_of_ble_eq_true rfl, Nat.le_of_ble_eq_true rfl⟩ dX6_isGone_7 ?_
  refine w_top (congrArg (fun z_ => bI (mIn f 0 (z_ - 1))) (show _ = nI nf from hnf)) ?_
  refine lv_if_eq (tgt := 22) hx hb dX6_isGone_10 (by decide) (fun c_1 => ?_) (fun c_1 => ?_)
  · have c_1 := bI_0 c_1
    refine lv_aload_n hx hb dX6_isGone_22 rfl (lv_at hl 0 rfl) ?_
    refine lv_iconst (v := 1) hx hb dX6_isGone_23 (by decide) ?_
    refine c_mVi (rest := []) hC hE hP hD hS mt_same (metX6_isNot l (thr G 0) T 1) gc_RX6_150 hd_X6_isNot ⟨rfl, rfl⟩ ⟨Nat.le_of_ble_eq_true rfl, Nat.le_of_ble_eq_true rfl⟩ 0 gw_0 rfl rfl hl.1 (Nat.le_of_ble_eq_true rfl) ⟨Nat.le_of_ble_eq_true rfl, Nat.le_of_ble_eq_true rfl⟩ dX6_isGone_24 (fun H locs hP hD hS => ?_)
    have e9 : qisGone_g G T f n nf = thr (thr G 0) 1 := by rw [qisGone_g, sel_f (show ¬ (mIn f 0 (nI nf - 1)) from c_1)]; first | done | rfl
    exact m_zret hx hb hr rfl hlk dX6_isGone_27 (by rw [e9]; exact hP) hS (by rw [qisGone_r, sel_f (show ¬ (mIn f 0 (nI nf - 1)) from c_1)]; first | done | rfl)
  · have c_1 := bI_n c_1
    have hx_f := mIn_n (Nat.le_trans hnf6 (by decide)) c_1
    have hl : lv_has ls 2 [(0, .ref (g 0)), (1, .int (nI (ix f)))] := by rw [← hx_f.1]; exact hl
    refine lv_aload_n hx hb dX6_isGone_13 rfl (lv_at hl 0 rfl) ?_
    refine va_get (D := D) (ci := 6) (v := .ref (g 2)) (C := RX6) (T := TX6) (N := 13) hx hb hts tu_6 hown hE.1 hP 0 gw_0 rfl 3 (by decide) (hts _ tw_788) (fun _ h9 => h9) rfl dX6_isGone_14 ?_
    refine lv_iload_n hx hb dX6_isGone_17 rfl (lv_at hl 1 rfl) ?_
    refine k_zald (j := (ix f)) hx hb hE hP 2 gw_2 (Nat.lt_of_lt_of_le hx_f.2 hnf6) (by decide) dX6_isGone_18 ?_
    refine lv_goto (tgt := 27) hx hb dX6_isGone_19 (by decide) ?_
    have e9 : qisGone_g G T f n nf = thr G 0 := by rw [qisGone_g, sel_t (show mIn f 0 (nI nf - 1) from c_1)]; first | done | rfl
    exact m_zret hx hb hr (hZ_n (hZ (ix f) (Nat.lt_of_lt_of_le hx_f.2 hnf6))) hlk dX6_isGone_27 (by rw [e9]; exact hP) hS (by rw [qisGone_r, sel_t (show mIn f 0 (nI nf - 1) from c_1)]; first | done | rfl)

set_option maxHeartbeats 4000000 in
set_option maxRecDepth 100000 in
theorem metX6_readyOf (l : Launch) {D : va_G} {k : Nat → ClassId} {g t : Nat → Nat} {sq : Nat} {R : va_W} (G T : HS) (f : Int32) (n : Nat) (hn : G 0 3 = nI n) (hn40 : n ≤ 40) (nf : Nat) (hnf : G 0 1 = nI nf) (hnf6 : nf ≤ 6) (hF : okF G) (hZ : ∀ f_, f_ < 6 → G 2 f_ = 0 ∨ G 2 f_ = 1) : MM l yX6_readyOf cX6_readyOf 2 (some FieldType.int) rmX6_readyOf D k (gw k g (t 0) sq G ++ (tw k t T ++ R)) [.ref (g 0), .int f] (some (.int (qreadyOf_r G T f n nf))) (gw k g (t 0) sq (qreadyOf_g G T f n nf) ++ (tw k t T ++ R)) := by
  refine MM_of rfl (Nat.le_of_ble_eq_true rfl) ?_
  intro p e s m below meth c hC hr hlk hin hE hP hD hS ls hl
  have hC : CallFix p m c cX6_readyOf 2 s _ lw_all RX6 := hC
  have hx := hC.1
  have hb := hC.2.1
  have hown : s.vm.findClass RX6 = some m.cls := hC.2.2.2.1
  have hts := hC.2.2.2.2
  have hl : lv_has ls 2 [(0, .ref (g 0)), (1, .int f)] := hl
  refine lv_aload_n hx hb dX6_readyOf_0 rfl (lv_at hl 0 rfl) ?_
  refine lv_iconst (v := 0) hx hb dX6_readyOf_1 (by decide) ?_
  refine va_put (D := D) (ci := 6) (v := .int 0) (ty := .int) (C := RX6) (T := TX6) (N := 13) hx hb hts tu_6 tyX6 tyX6_ok nmX6 hown hE.1 hP hD hS 0 gw_0 rfl 0 (by decide) (hts _ tw_785) (fun _ h9 => h9) rfl (by decide +kernel) rfl rfl (Nat.le_of_ble_eq_true rfl) dX6_readyOf_2 (fun H locs hP hD hS => ?_)
  rw [gwp_t (G := G) (v := 0)] at hP hD
  refine lv_aload_n hx hb dX6_readyOf_5 rfl (lv_at hl 0 rfl) ?_
  refine lv_iload_n hx hb dX6_readyOf_6 rfl (lv_at hl 1 rfl) ?_
  refine c_pVi (rest := []) hC hE hP (metX6_isFlight l (thr G 0) T f) gc_RX6_114 hd_X6_isFlight ⟨rfl, rfl⟩ ⟨Nat.le_of_ble_eq_true rfl, Nat.le_of_ble_eq_true rfl⟩ 0 gw_0 rfl rfl hl.1 (Nat.le_of_ble_eq_true rfl) ⟨Nat.le_of_ble_eq_true rfl, Nat.le_of_ble_eq_true rfl⟩ dX6_readyOf_7 ?_
  refine w_top (congrArg (fun z_ => bI (mIn f 0 (z_ - 1))) (show _ = nI nf from hnf)) ?_
  refine lv_if_eq (tgt := 25) hx hb dX6_readyOf_10 (by decide) (fun c_1 => ?_) (fun c_1 => ?_)
  · have c_1 := bI_0 c_1
    refine lv_aload_n hx hb dX6_readyOf_25 rfl (lv_at hl 0 rfl) ?_
    refine lv_iconst (v := 1) hx hb dX6_readyOf_26 (by decide) ?_
    refine c_mVi (rest := []) hC hE hP hD hS mt_same (metX6_no l (thr G 0) T 1) gc_RX6_110 hd_X6_no ⟨rfl, rfl⟩ ⟨Nat.le_of_ble_eq_true rfl, Nat.le_of_ble_eq_true rfl⟩ 0 gw_0 rfl rfl hl.1 (Nat.le_of_ble_eq_true rfl) ⟨Nat.le_of_ble_eq_true rfl, Nat.le_of_ble_eq_true rfl⟩ dX6_readyOf_27 (fun H locs hP hD hS => ?_)
    have e9 : qreadyOf_g G T f n nf = thr (thr G 0) 1 := by rw [qreadyOf_g, sel_f (show ¬ (mIn f 0 (nI nf - 1)) from c_1)]; first | done | rfl
    exact m_iret hx hb hr hlk dX6_readyOf_30 (by rw [e9]; exact hP) hS (by rw [qreadyOf_r, sel_f (show ¬ (mIn f 0 (nI nf - 1)) from c_1)]; first | done | rfl)
  · have c_1 := bI_n c_1
    have hx_f := mIn_n (Nat.le_trans hnf6 (by decide)) c_1
    have hl : lv_has ls 2 [(0, .ref (g 0)), (1, .int (nI (ix f)))] := by rw [← hx_f.1]; exact hl
    refine lv_aload_n hx hb dX6_readyOf_13 rfl (lv_at hl 0 rfl) ?_
    refine lv_aload_n hx hb dX6_readyOf_14 rfl (lv_at hl 0 rfl) ?_
    refine va_get (D := D) (ci := 6) (v := .ref (t 0)) (C := RX6) (T := TX6) (N := 13) hx hb hts tu_6 hown hE.1 hP 0 gw_0 rfl 11 (by decide) (hts _ tw_796) (fun _ h9 => h9) rfl dX6_readyOf_15 ?_
    refine lv_iload_n hx hb dX6_readyOf_18 rfl (lv_at hl 1 rfl) ?_
    refine c_pVi (rest := []) hC hE hP (metX6_readyIn l (thr G 0) T (ix f) n hn hn40 (Nat.lt_of_lt_of_le hx_f.2 hnf6)) gc_RX6_156 hd_X6_readyIn ⟨rfl, rfl⟩ ⟨Nat.le_of_ble_eq_true rfl, Nat.le_of_ble_eq_true rfl⟩ 0 gw_0 rfl rfl hl.1 (Nat.le_of_ble_eq_true rfl) ⟨Nat.le_of_ble_eq_true rfl, Nat.le_of_ble_eq_true rfl⟩ dX6_readyOf_19 ?_
    refine lv_goto (tgt := 30) hx hb dX6_readyOf_22 (by decide) ?_
    have e9 : qreadyOf_g G T f n nf = thr G 0 := by rw [qreadyOf_g, sel_t (show mIn f 0 (nI nf - 1) from c_1)]; first | done | rfl
    exact m_iret hx hb hr hlk dX6_readyOf_30 (by rw [e9]; exact hP) hS (by rw [qreadyOf_r, sel_t (show mIn f 0 (nI nf - 1) from c_1)]; first | done | rfl)

set_option maxHeartbeats 4000000 in
set_option maxRecDepth 100000 in
theorem metX6_missingOf (l : Launch) {D : va_G} {k : Nat → ClassId} {g t : Nat → Nat} {sq : Nat} {R : va_W} (G T : HS) (f : Int32) (n : Nat) (hn : G 0 3 = nI n) (hn40 : n ≤ 40) (nf : Nat) (hnf : G 0 1 = nI nf) (hnf6 : nf ≤ 6) (hF : okF G) (hZ : ∀ f_, f_ < 6 → G 2 f_ = 0 ∨ G 2 f_ = 1) : MM l yX6_missingOf cX6_missingOf 2 (some FieldType.int) rmX6_missingOf D k (gw k g (t 0) sq G ++ (tw k t T ++ R)) [.ref (g 0), .int f] (some (.int (qmissingOf_r G T f n nf))) (gw k g (t 0) sq (qmissingOf_g G T f n nf) ++ (tw k t T ++ R)) := by
  refine MM_of rfl (Nat.le_of_ble_eq_true rfl) ?_
  intro p e s m below meth c hC hr hlk hin hE hP hD hS ls hl
  have hC : CallFix p m c cX6_missingOf 2 s _ lw_all RX6 := hC
  have hx := hC.1
  have hb := hC.2.1
  have hown : s.vm.findClass RX6 = some m.cls := hC.2.2.2.1
  have hts := hC.2.2.2.2
  have hl : lv_has ls 2 [(0, .ref (g 0)), (1, .int f)] := hl
  refine lv_aload_n hx hb dX6_missingOf_0 rfl (lv_at hl 0 rfl) ?_
  refine lv_iconst (v := 0) hx hb dX6_missingOf_1 (by decide) ?_
  refine va_put (D := D) (ci := 6) (v := .int 0) (ty := .int) (C := RX6) (T := TX6) (N := 13) hx hb hts tu_6 tyX6 tyX6_ok nmX6 hown hE.1 hP hD hS 0 gw_0 rfl 0 (by decide) (hts _ tw_785) (fun _ h9 => h9) rfl (by decide +kernel) rfl rfl (Nat.le_of_ble_eq_true rfl) dX6_missingOf_2 (fun H locs hP hD hS => ?_)
  rw [gwp_t (G := G) (v := 0)] at hP hD
  refine lv_aload_n hx hb dX6_missingOf_5 rfl (lv_at hl 0 rfl) ?_
  refine lv_iload_n hx hb dX6_missingOf_6 rfl (lv_at hl 1 rfl) ?_
  refine c_pVi (rest := []) hC hE hP (metX6_isFlight l (thr G 0) T f) gc_RX6_114 hd_X6_isFlight ⟨rfl, rfl⟩ ⟨Nat.le_of_ble_eq_true rfl, Nat.le_of_ble_eq_true rfl⟩ 0 gw_0 rfl rfl hl.1 (Nat.le_of_ble_eq_true rfl) ⟨Nat.le_of_ble_eq_true rfl, Nat.le_of_ble_eq_true rfl⟩ dX6_missingOf_7 ?_
  refine w_top (congrArg (fun z_ => bI (mIn f 0 (z_ - 1))) (show _ = nI nf from hnf)) ?_
  refine lv_if_eq (tgt := 21) hx hb dX6_missingOf_10 (by decide) (fun c_1 => ?_) (fun c_1 => ?_)
  · have c_1 := bI_0 c_1
    refine lv_aload_n hx hb dX6_missingOf_21 rfl (lv_at hl 0 rfl) ?_
    refine lv_iconst (v := 1) hx hb dX6_missingOf_22 (by decide) ?_
    refine c_mVi (rest := []) hC hE hP hD hS mt_same (metX6_no l (thr G 0) T 1) gc_RX6_110 hd_X6_no ⟨rfl, rfl⟩ ⟨Nat.le_of_ble_eq_true rfl, Nat.le_of_ble_eq_true rfl⟩ 0 gw_0 rfl rfl hl.1 (Nat.le_of_ble_eq_true rfl) ⟨Nat.le_of_ble_eq_true rfl, Nat.le_of_ble_eq_true rfl⟩ dX6_missingOf_23 (fun H locs hP hD hS => ?_)
    have e9 : qmissingOf_g G T f n nf = thr (thr G 0) 1 := by rw [qmissingOf_g, sel_f (show ¬ (mIn f 0 (nI nf - 1)) from c_1)]; first | done | rfl
    exact m_iret hx hb hr hlk dX6_missingOf_26 (by rw [e9]; exact hP) hS (by rw [qmissingOf_r, sel_f (show ¬ (mIn f 0 (nI nf - 1)) from c_1)]; first | done | rfl)
  · have c_1 := bI_n c_1
    have hx_f := mIn_n (Nat.le_trans hnf6 (by decide)) c_1
    have hl : lv_has ls 2 [(0, .ref (g 0)), (1, .int (nI (ix f)))] := by rw [← hx_f.1]; exact hl
    refine lv_aload_n hx hb dX6_missingOf_13 rfl (lv_at hl 0 rfl) ?_
    refine lv_iload_n hx hb dX6_missingOf_14 rfl (lv_at hl 1 rfl) ?_
    refine c_pVi (rest := []) hC hE hP (metX6_missing l (thr G 0) T (ix f) n hn hn40 (Nat.lt_of_lt_of_le hx_f.2 hnf6)) gc_RX6_159 hd_X6_missing ⟨rfl, rfl⟩ ⟨Nat.le_of_ble_eq_true rfl, Nat.le_of_ble_eq_true rfl⟩ 0 gw_0 rfl rfl hl.1 (Nat.le_of_ble_eq_true rfl) ⟨Nat.le_of_ble_eq_true rfl, Nat.le_of_ble_eq_true rfl⟩ dX6_missingOf_15 ?_
    refine lv_goto (tgt := 26) hx hb dX6_missingOf_18 (by decide) ?_
    have e9 : qmissingOf_g G T f n nf = thr G 0 := by rw [qmissingOf_g, sel_t (show mIn f 0 (nI nf - 1) from c_1)]; first | done | rfl
    exact m_iret hx hb hr hlk dX6_missingOf_26 (by rw [e9]; exact hP) hS (by rw [qmissingOf_r, sel_t (show mIn f 0 (nI nf - 1) from c_1)]; first | done | rfl)

set_option maxHeartbeats 4000000 in
set_option maxRecDepth 100000 in
theorem metX6_minute (l : Launch) {D : va_G} {k : Nat → ClassId} {g t : Nat → Nat} {sq : Nat} {R : va_W} (G T : HS) (n : Nat) (hn : G 0 3 = nI n) (hn40 : n ≤ 40) (nf : Nat) (hnf : G 0 1 = nI nf) (hnf6 : nf ≤ 6) (hF : okF G) (hZ : ∀ f_, f_ < 6 → G 2 f_ = 0 ∨ G 2 f_ = 1) : MM l yX6_minute cX6_minute 1 (some FieldType.int) rmX6_minute D k (gw k g (t 0) sq G ++ (tw k t T ++ R)) [.ref (g 0)] (some (.int (qminute_r G T  n nf))) (gw k g (t 0) sq (qminute_g G T  n nf) ++ (tw k t T ++ R)) := by
  refine MM_of rfl (Nat.le_of_ble_eq_true rfl) ?_
  intro p e s m below meth c hC hr hlk hin hE hP hD hS ls hl
  have hC : CallFix p m c cX6_minute 1 s _ lw_all RX6 := hC
  have hx := hC.1
  have hb := hC.2.1
  have hown : s.vm.findClass RX6 = some m.cls := hC.2.2.2.1
  have hts := hC.2.2.2.2
  have hl : lv_has ls 1 [(0, .ref (g 0))] := hl
  refine lv_aload_n hx hb dX6_minute_0 rfl (lv_at hl 0 rfl) ?_
  refine lv_aload_n hx hb dX6_minute_1 rfl (lv_at hl 0 rfl) ?_
  refine va_get (D := D) (ci := 6) (v := .ref (t 0)) (C := RX6) (T := TX6) (N := 13) hx hb hts tu_6 hown hE.1 hP 0 gw_0 rfl 11 (by decide) (hts _ tw_796) (fun _ h9 => h9) rfl dX6_minute_2 ?_
  refine va_getN (D := D) (ci := 5) (v := .int (T 0 0)) (C := RX5) (T := TX5) (N := 9) hx hb hts tu_5 hown hE.1 hP 8 mt_0 rfl 0 (by decide) (va_Nw.use rfl hE.2.1) (fun _ h9 => h9) rfl dX6_minute_5 ?_
  refine c_mVi (rest := []) hC hE hP hD hS mt_same (metX6_ok l G T (T 0 0)) gc_RX6_162 hd_X6_ok ⟨rfl, rfl⟩ ⟨Nat.le_of_ble_eq_true rfl, Nat.le_of_ble_eq_true rfl⟩ 0 gw_0 rfl rfl hl.1 (Nat.le_of_ble_eq_true rfl) ⟨Nat.le_of_ble_eq_true rfl, Nat.le_of_ble_eq_true rfl⟩ dX6_minute_8 (fun H locs hP hD hS => ?_)
  have e9 : qminute_g G T  n nf = thr G 0 := by rw [qminute_g]; first | done | rfl
  exact m_iret hx hb hr hlk dX6_minute_11 (by rw [e9]; exact hP) hS (by rw [qminute_r]; first | done | rfl)

set_option maxHeartbeats 4000000 in
set_option maxRecDepth 100000 in
theorem metX6_flights (l : Launch) {D : va_G} {k : Nat → ClassId} {g t : Nat → Nat} {sq : Nat} {R : va_W} (G T : HS) (n : Nat) (hn : G 0 3 = nI n) (hn40 : n ≤ 40) (nf : Nat) (hnf : G 0 1 = nI nf) (hnf6 : nf ≤ 6) (hF : okF G) (hZ : ∀ f_, f_ < 6 → G 2 f_ = 0 ∨ G 2 f_ = 1) : MM l yX6_flights cX6_flights 1 (some FieldType.int) rmX6_flights D k (gw k g (t 0) sq G ++ (tw k t T ++ R)) [.ref (g 0)] (some (.int (qflights_r G T  n nf))) (gw k g (t 0) sq (qflights_g G T  n nf) ++ (tw k t T ++ R)) := by
  refine MM_of rfl (Nat.le_of_ble_eq_true rfl) ?_
  intro p e s m below meth c hC hr hlk hin hE hP hD hS ls hl
  have hC : CallFix p m c cX6_flights 1 s _ lw_all RX6 := hC
  have hx := hC.1
  have hb := hC.2.1
  have hown : s.vm.findClass RX6 = some m.cls := hC.2.2.2.1
  have hts := hC.2.2.2.2
  have hl : lv_has ls 1 [(0, .ref (g 0))] := hl
  refine lv_aload_n hx hb dX6_flights_0 rfl (lv_at hl 0 rfl) ?_
  refine lv_aload_n hx hb dX6_flights_1 rfl (lv_at hl 0 rfl) ?_
  refine va_get (D := D) (ci := 6) (v := .int (G 0 1)) (C := RX6) (T := TX6) (N := 13) hx hb hts tu_6 hown hE.1 hP 0 gw_0 rfl 1 (by decide) (hts _ tw_786) (fun _ h9 => h9) rfl dX6_flights_2 ?_
  refine c_mVi (rest := []) hC hE hP hD hS mt_same (metX6_ok l G T (G 0 1)) gc_RX6_162 hd_X6_ok ⟨rfl, rfl⟩ ⟨Nat.le_of_ble_eq_true rfl, Nat.le_of_ble_eq_true rfl⟩ 0 gw_0 rfl rfl hl.1 (Nat.le_of_ble_eq_true rfl) ⟨Nat.le_of_ble_eq_true rfl, Nat.le_of_ble_eq_true rfl⟩ dX6_flights_5 (fun H locs hP hD hS => ?_)
  have e9 : qflights_g G T  n nf = thr G 0 := by rw [qflights_g]; first | done | rfl
  exact m_iret hx hb hr hlk dX6_flights_8 (by rw [e9]; exact hP) hS (by rw [qflights_r]; first | done | rfl)

set_option maxHeartbeats 4000000 in
set_option maxRecDepth 100000 in
theorem metX6_bags (l : Launch) {D : va_G} {k : Nat → ClassId} {g t : Nat → Nat} {sq : Nat} {R : va_W} (G T : HS) (n : Nat) (hn : G 0 3 = nI n) (hn40 : n ≤ 40) (nf : Nat) (hnf : G 0 1 = nI nf) (hnf6 : nf ≤ 6) (hF : okF G) (hZ : ∀ f_, f_ < 6 → G 2 f_ = 0 ∨ G 2 f_ = 1) : MM l yX6_bags cX6_bags 1 (some FieldType.int) rmX6_bags D k (gw k g (t 0) sq G ++ (tw k t T ++ R)) [.ref (g 0)] (some (.int (qbags_r G T  n nf))) (gw k g (t 0) sq (qbags_g G T  n nf) ++ (tw k t T ++ R)) := by
  refine MM_of rfl (Nat.le_of_ble_eq_true rfl) ?_
  intro p e s m below meth c hC hr hlk hin hE hP hD hS ls hl
  have hC : CallFix p m c cX6_bags 1 s _ lw_all RX6 := hC
  have hx := hC.1
  have hb := hC.2.1
  have hown : s.vm.findClass RX6 = some m.cls := hC.2.2.2.1
  have hts := hC.2.2.2.2
  have hl : lv_has ls 1 [(0, .ref (g 0))] := hl
  refine lv_aload_n hx hb dX6_bags_0 rfl (lv_at hl 0 rfl) ?_
  refine lv_aload_n hx hb dX6_bags_1 rfl (lv_at hl 0 rfl) ?_
  refine va_get (D := D) (ci := 6) (v := .int (G 0 3)) (C := RX6) (T := TX6) (N := 13) hx hb hts tu_6 hown hE.1 hP 0 gw_0 rfl 6 (by decide) (hts _ tw_791) (fun _ h9 => h9) rfl dX6_bags_2 ?_
  refine c_mVi (rest := []) hC hE hP hD hS mt_same (metX6_ok l G T (G 0 3)) gc_RX6_162 hd_X6_ok ⟨rfl, rfl⟩ ⟨Nat.le_of_ble_eq_true rfl, Nat.le_of_ble_eq_true rfl⟩ 0 gw_0 rfl rfl hl.1 (Nat.le_of_ble_eq_true rfl) ⟨Nat.le_of_ble_eq_true rfl, Nat.le_of_ble_eq_true rfl⟩ dX6_bags_5 (fun H locs hP hD hS => ?_)
  have e9 : qbags_g G T  n nf = thr G 0 := by rw [qbags_g]; first | done | rfl
  exact m_iret hx hb hr hlk dX6_bags_8 (by rw [e9]; exact hP) hS (by rw [qbags_r]; first | done | rfl)

set_option maxHeartbeats 4000000 in
set_option maxRecDepth 100000 in
theorem metX6_inLine (l : Launch) {D : va_G} {k : Nat → ClassId} {g t : Nat → Nat} {sq : Nat} {R : va_W} (G T : HS) (n : Nat) (hn : G 0 3 = nI n) (hn40 : n ≤ 40) (nf : Nat) (hnf : G 0 1 = nI nf) (hnf6 : nf ≤ 6) (hF : okF G) (hZ : ∀ f_, f_ < 6 → G 2 f_ = 0 ∨ G 2 f_ = 1) : MM l yX6_inLine cX6_inLine 1 (some FieldType.int) rmX6_inLine D k (gw k g (t 0) sq G ++ (tw k t T ++ R)) [.ref (g 0)] (some (.int (qinLine_r G T  n nf))) (gw k g (t 0) sq (qinLine_g G T  n nf) ++ (tw k t T ++ R)) := by
  refine MM_of rfl (Nat.le_of_ble_eq_true rfl) ?_
  intro p e s m below meth c hC hr hlk hin hE hP hD hS ls hl
  have hC : CallFix p m c cX6_inLine 1 s _ lw_all RX6 := hC
  have hx := hC.1
  have hb := hC.2.1
  have hown : s.vm.findClass RX6 = some m.cls := hC.2.2.2.1
  have hts := hC.2.2.2.2
  have hl : lv_has ls 1 [(0, .ref (g 0))] := hl
  refine lv_aload_n hx hb dX6_inLine_0 rfl (lv_at hl 0 rfl) ?_
  refine lv_aload_n hx hb dX6_inLine_1 rfl (lv_at hl 0 rfl) ?_
  refine va_get (D := D) (ci := 6) (v := .ref (t 0)) (C := RX6) (T := TX6) (N := 13) hx hb hts tu_6 hown hE.1 hP 0 gw_0 rfl 11 (by decide) (hts _ tw_796) (fun _ h9 => h9) rfl dX6_inLine_2 ?_
  refine va_getN (D := D) (ci := 5) (v := .int (T 0 1)) (C := RX5) (T := TX5) (N := 9) hx hb hts tu_5 hown hE.1 hP 8 mt_0 rfl 7 (by decide) (va_Nw.use rfl hE.2.2.2.2.2.2.2.1) (fun _ h9 => h9) rfl dX6_inLine_5 ?_
  refine c_mVi (rest := []) hC hE hP hD hS mt_same (metX6_ok l G T (T 0 1)) gc_RX6_162 hd_X6_ok ⟨rfl, rfl⟩ ⟨Nat.le_of_ble_eq_true rfl, Nat.le_of_ble_eq_true rfl⟩ 0 gw_0 rfl rfl hl.1 (Nat.le_of_ble_eq_true rfl) ⟨Nat.le_of_ble_eq_true rfl, Nat.le_of_ble_eq_true rfl⟩ dX6_inLine_8 (fun H locs hP hD hS => ?_)
  have e9 : qinLine_g G T  n nf = thr G 0 := by rw [qinLine_g]; first | done | rfl
  exact m_iret hx hb hr hlk dX6_inLine_11 (by rw [e9]; exact hP) hS (by rw [qinLine_r]; first | done | rfl)

set_option maxHeartbeats 4000000 in
set_option maxRecDepth 100000 in
theorem metX6_reader (l : Launch) {D : va_G} {k : Nat → ClassId} {g t : Nat → Nat} {sq : Nat} {R : va_W} (G T : HS) (n : Nat) (hn : G 0 3 = nI n) (hn40 : n ≤ 40) (nf : Nat) (hnf : G 0 1 = nI nf) (hnf6 : nf ≤ 6) (hF : okF G) (hZ : ∀ f_, f_ < 6 → G 2 f_ = 0 ∨ G 2 f_ = 1) : MM l yX6_reader cX6_reader 1 (some FieldType.int) rmX6_reader D k (gw k g (t 0) sq G ++ (tw k t T ++ R)) [.ref (g 0)] (some (.int (qreader_r G T  n nf))) (gw k g (t 0) sq (qreader_g G T  n nf) ++ (tw k t T ++ R)) := by
  refine MM_of rfl (Nat.le_of_ble_eq_true rfl) ?_
  intro p e s m below meth c hC hr hlk hin hE hP hD hS ls hl
  have hC : CallFix p m c cX6_reader 1 s _ lw_all RX6 := hC
  have hx := hC.1
  have hb := hC.2.1
  have hown : s.vm.findClass RX6 = some m.cls := hC.2.2.2.1
  have hts := hC.2.2.2.2
  have hl : lv_has ls 1 [(0, .ref (g 0))] := hl
  refine lv_aload_n hx hb dX6_reader_0 rfl (lv_at hl 0 rfl) ?_
  refine lv_aload_n hx hb dX6_reader_1 rfl (lv_at hl 0 rfl) ?_
  refine va_get (D := D) (ci := 6) (v := .int (G 0 2)) (C := RX6) (T := TX6) (N := 13) hx hb hts tu_6 hown hE.1 hP 0 gw_0 rfl 5 (by decide) (hts _ tw_790) (fun _ h9 => h9) rfl dX6_reader_2 ?_
  refine c_mVi (rest := []) hC hE hP hD hS mt_same (metX6_ok l G T (G 0 2)) gc_RX6_162 hd_X6_ok ⟨rfl, rfl⟩ ⟨Nat.le_of_ble_eq_true rfl, Nat.le_of_ble_eq_true rfl⟩ 0 gw_0 rfl rfl hl.1 (Nat.le_of_ble_eq_true rfl) ⟨Nat.le_of_ble_eq_true rfl, Nat.le_of_ble_eq_true rfl⟩ dX6_reader_5 (fun H locs hP hD hS => ?_)
  have e9 : qreader_g G T  n nf = thr G 0 := by rw [qreader_g]; first | done | rfl
  exact m_iret hx hb hr hlk dX6_reader_8 (by rw [e9]; exact hP) hS (by rw [qreader_r]; first | done | rfl)

set_option maxHeartbeats 4000000 in
set_option maxRecDepth 100000 in
theorem metX6_onBelt (l : Launch) {D : va_G} {k : Nat → ClassId} {g t : Nat → Nat} {sq : Nat} {R : va_W} (G T : HS) (n : Nat) (hn : G 0 3 = nI n) (hn40 : n ≤ 40) (nf : Nat) (hnf : G 0 1 = nI nf) (hnf6 : nf ≤ 6) (hF : okF G) (hZ : ∀ f_, f_ < 6 → G 2 f_ = 0 ∨ G 2 f_ = 1) : MM l yX6_onBelt cX6_onBelt 1 (some FieldType.int) rmX6_onBelt D k (gw k g (t 0) sq G ++ (tw k t T ++ R)) [.ref (g 0)] (some (.int (qonBelt_r G T  n nf))) (gw k g (t 0) sq (qonBelt_g G T  n nf) ++ (tw k t T ++ R)) := by
  refine MM_of rfl (Nat.le_of_ble_eq_true rfl) ?_
  intro p e s m below meth c hC hr hlk hin hE hP hD hS ls hl
  have hC : CallFix p m c cX6_onBelt 1 s _ lw_all RX6 := hC
  have hx := hC.1
  have hb := hC.2.1
  have hown : s.vm.findClass RX6 = some m.cls := hC.2.2.2.1
  have hts := hC.2.2.2.2
  have hl : lv_has ls 1 [(0, .ref (g 0))] := hl
  refine lv_aload_n hx hb dX6_onBelt_0 rfl (lv_at hl 0 rfl) ?_
  refine lv_aload_n hx hb dX6_onBelt_1 rfl (lv_at hl 0 rfl) ?_
  refine lv_iconst (v := 1) hx hb dX6_onBelt_2 (by decide) ?_
  refine c_pVi (rest := [.ref (g 0)]) hC hE hP (metX6_counted l G T 1 n hn hn40) gc_RX6_165 hd_X6_counted ⟨rfl, rfl⟩ ⟨Nat.le_of_ble_eq_true rfl, Nat.le_of_ble_eq_true rfl⟩ 0 gw_0 rfl rfl hl.1 (Nat.le_of_ble_eq_true rfl) ⟨Nat.le_of_ble_eq_true rfl, Nat.le_of_ble_eq_true rfl⟩ dX6_onBelt_3 ?_
  refine c_mVi (rest := []) hC hE hP hD hS mt_same (metX6_ok l G T (nI (mCnt T 1 n))) gc_RX6_162 hd_X6_ok ⟨rfl, rfl⟩ ⟨Nat.le_of_ble_eq_true rfl, Nat.le_of_ble_eq_true rfl⟩ 0 gw_0 rfl rfl hl.1 (Nat.le_of_ble_eq_true rfl) ⟨Nat.le_of_ble_eq_true rfl, Nat.le_of_ble_eq_true rfl⟩ dX6_onBelt_6 (fun H locs hP hD hS => ?_)
  have e9 : qonBelt_g G T  n nf = thr G 0 := by rw [qonBelt_g]; first | done | rfl
  exact m_iret hx hb hr hlk dX6_onBelt_9 (by rw [e9]; exact hP) hS (by rw [qonBelt_r]; first | done | rfl)

set_option maxHeartbeats 4000000 in
set_option maxRecDepth 100000 in
theorem metX6_atDesk (l : Launch) {D : va_G} {k : Nat → ClassId} {g t : Nat → Nat} {sq : Nat} {R : va_W} (G T : HS) (n : Nat) (hn : G 0 3 = nI n) (hn40 : n ≤ 40) (nf : Nat) (hnf : G 0 1 = nI nf) (hnf6 : nf ≤ 6) (hF : okF G) (hZ : ∀ f_, f_ < 6 → G 2 f_ = 0 ∨ G 2 f_ = 1) : MM l yX6_atDesk cX6_atDesk 1 (some FieldType.int) rmX6_atDesk D k (gw k g (t 0) sq G ++ (tw k t T ++ R)) [.ref (g 0)] (some (.int (qatDesk_r G T  n nf))) (gw k g (t 0) sq (qatDesk_g G T  n nf) ++ (tw k t T ++ R)) := by
  refine MM_of rfl (Nat.le_of_ble_eq_true rfl) ?_
  intro p e s m below meth c hC hr hlk hin hE hP hD hS ls hl
  have hC : CallFix p m c cX6_atDesk 1 s _ lw_all RX6 := hC
  have hx := hC.1
  have hb := hC.2.1
  have hown : s.vm.findClass RX6 = some m.cls := hC.2.2.2.1
  have hts := hC.2.2.2.2
  have hl : lv_has ls 1 [(0, .ref (g 0))] := hl
  refine lv_aload_n hx hb dX6_atDesk_0 rfl (lv_at hl 0 rfl) ?_
  refine lv_aload_n hx hb dX6_atDesk_1 rfl (lv_at hl 0 rfl) ?_
  refine lv_iconst (v := 3) hx hb dX6_atDesk_2 (by decide) ?_
  refine c_pVi (rest := [.ref (g 0)]) hC hE hP (metX6_counted l G T 3 n hn hn40) gc_RX6_165 hd_X6_counted ⟨rfl, rfl⟩ ⟨Nat.le_of_ble_eq_true rfl, Nat.le_of_ble_eq_true rfl⟩ 0 gw_0 rfl rfl hl.1 (Nat.le_of_ble_eq_true rfl) ⟨Nat.le_of_ble_eq_true rfl, Nat.le_of_ble_eq_true rfl⟩ dX6_atDesk_3 ?_
  refine c_mVi (rest := []) hC hE hP hD hS mt_same (metX6_ok l G T (nI (mCnt T 3 n))) gc_RX6_162 hd_X6_ok ⟨rfl, rfl⟩ ⟨Nat.le_of_ble_eq_true rfl, Nat.le_of_ble_eq_true rfl⟩ 0 gw_0 rfl rfl hl.1 (Nat.le_of_ble_eq_true rfl) ⟨Nat.le_of_ble_eq_true rfl, Nat.le_of_ble_eq_true rfl⟩ dX6_atDesk_6 (fun H locs hP hD hS => ?_)
  have e9 : qatDesk_g G T  n nf = thr G 0 := by rw [qatDesk_g]; first | done | rfl
  exact m_iret hx hb hr hlk dX6_atDesk_9 (by rw [e9]; exact hP) hS (by rw [qatDesk_r]; first | done | rfl)

set_option maxHeartbeats 4000000 in
set_option maxRecDepth 100000 in
theorem metX6_openFiles (l : Launch) {D : va_G} {k : Nat → ClassId} {g t : Nat → Nat} {sq : Nat} {R : va_W} (G T : HS) (n : Nat) (hn : G 0 3 = nI n) (hn40 : n ≤ 40) (nf : Nat) (hnf : G 0 1 = nI nf) (hnf6 : nf ≤ 6) (hF : okF G) (hZ : ∀ f_, f_ < 6 → G 2 f_ = 0 ∨ G 2 f_ = 1) : MM l yX6_openFiles cX6_openFiles 1 (some FieldType.int) rmX6_openFiles D k (gw k g (t 0) sq G ++ (tw k t T ++ R)) [.ref (g 0)] (some (.int (qopenFiles_r G T  n nf))) (gw k g (t 0) sq (qopenFiles_g G T  n nf) ++ (tw k t T ++ R)) := by
  refine MM_of rfl (Nat.le_of_ble_eq_true rfl) ?_
  intro p e s m below meth c hC hr hlk hin hE hP hD hS ls hl
  have hC : CallFix p m c cX6_openFiles 1 s _ lw_all RX6 := hC
  have hx := hC.1
  have hb := hC.2.1
  have hown : s.vm.findClass RX6 = some m.cls := hC.2.2.2.1
  have hts := hC.2.2.2.2
  have hl : lv_has ls 1 [(0, .ref (g 0))] := hl
  refine lv_aload_n hx hb dX6_openFiles_0 rfl (lv_at hl 0 rfl) ?_
  refine lv_aload_n hx hb dX6_openFiles_1 rfl (lv_at hl 0 rfl) ?_
  refine lv_iconst (v := 1) hx hb dX6_openFiles_2 (by decide) ?_
  refine c_pVi (rest := [.ref (g 0)]) hC hE hP (metX6_files l G T 1 n hn hn40) gc_RX6_168 hd_X6_files ⟨rfl, rfl⟩ ⟨Nat.le_of_ble_eq_true rfl, Nat.le_of_ble_eq_true rfl⟩ 0 gw_0 rfl rfl hl.1 (Nat.le_of_ble_eq_true rfl) ⟨Nat.le_of_ble_eq_true rfl, Nat.le_of_ble_eq_true rfl⟩ dX6_openFiles_3 ?_
  refine c_mVi (rest := []) hC hE hP hD hS mt_same (metX6_ok l G T (nI (mFil G 1 n))) gc_RX6_162 hd_X6_ok ⟨rfl, rfl⟩ ⟨Nat.le_of_ble_eq_true rfl, Nat.le_of_ble_eq_true rfl⟩ 0 gw_0 rfl rfl hl.1 (Nat.le_of_ble_eq_true rfl) ⟨Nat.le_of_ble_eq_true rfl, Nat.le_of_ble_eq_true rfl⟩ dX6_openFiles_6 (fun H locs hP hD hS => ?_)
  have e9 : qopenFiles_g G T  n nf = thr G 0 := by rw [qopenFiles_g]; first | done | rfl
  exact m_iret hx hb hr hlk dX6_openFiles_9 (by rw [e9]; exact hP) hS (by rw [qopenFiles_r]; first | done | rfl)

set_option maxHeartbeats 4000000 in
set_option maxRecDepth 100000 in
theorem metX6_closedFiles (l : Launch) {D : va_G} {k : Nat → ClassId} {g t : Nat → Nat} {sq : Nat} {R : va_W} (G T : HS) (n : Nat) (hn : G 0 3 = nI n) (hn40 : n ≤ 40) (nf : Nat) (hnf : G 0 1 = nI nf) (hnf6 : nf ≤ 6) (hF : okF G) (hZ : ∀ f_, f_ < 6 → G 2 f_ = 0 ∨ G 2 f_ = 1) : MM l yX6_closedFiles cX6_closedFiles 1 (some FieldType.int) rmX6_closedFiles D k (gw k g (t 0) sq G ++ (tw k t T ++ R)) [.ref (g 0)] (some (.int (qclosedFiles_r G T  n nf))) (gw k g (t 0) sq (qclosedFiles_g G T  n nf) ++ (tw k t T ++ R)) := by
  refine MM_of rfl (Nat.le_of_ble_eq_true rfl) ?_
  intro p e s m below meth c hC hr hlk hin hE hP hD hS ls hl
  have hC : CallFix p m c cX6_closedFiles 1 s _ lw_all RX6 := hC
  have hx := hC.1
  have hb := hC.2.1
  have hown : s.vm.findClass RX6 = some m.cls := hC.2.2.2.1
  have hts := hC.2.2.2.2
  have hl : lv_has ls 1 [(0, .ref (g 0))] := hl
  refine lv_aload_n hx hb dX6_closedFiles_0 rfl (lv_at hl 0 rfl) ?_
  refine lv_aload_n hx hb dX6_closedFiles_1 rfl (lv_at hl 0 rfl) ?_
  refine lv_iconst (v := 2) hx hb dX6_closedFiles_2 (by decide) ?_
  refine c_pVi (rest := [.ref (g 0)]) hC hE hP (metX6_files l G T 2 n hn hn40) gc_RX6_168 hd_X6_files ⟨rfl, rfl⟩ ⟨Nat.le_of_ble_eq_true rfl, Nat.le_of_ble_eq_true rfl⟩ 0 gw_0 rfl rfl hl.1 (Nat.le_of_ble_eq_true rfl) ⟨Nat.le_of_ble_eq_true rfl, Nat.le_of_ble_eq_true rfl⟩ dX6_closedFiles_3 ?_
  refine c_mVi (rest := []) hC hE hP hD hS mt_same (metX6_ok l G T (nI (mFil G 2 n))) gc_RX6_162 hd_X6_ok ⟨rfl, rfl⟩ ⟨Nat.le_of_ble_eq_true rfl, Nat.le_of_ble_eq_true rfl⟩ 0 gw_0 rfl rfl hl.1 (Nat.le_of_ble_eq_true rfl) ⟨Nat.le_of_ble_eq_true rfl, Nat.le_of_ble_eq_true rfl⟩ dX6_closedFiles_6 (fun H locs hP hD hS => ?_)
  have e9 : qclosedFiles_g G T  n nf = thr G 0 := by rw [qclosedFiles_g]; first | done | rfl
  exact m_iret hx hb hr hlk dX6_closedFiles_9 (by rw [e9]; exact hP) hS (by rw [qclosedFiles_r]; first | done | rfl)

set_option maxHeartbeats 4000000 in
set_option maxRecDepth 100000 in
theorem metX6_thrown (l : Launch) {D : va_G} {k : Nat → ClassId} {g t : Nat → Nat} {sq : Nat} {R : va_W} (G T : HS) : PM l yX6_thrown cX6_thrown 1 (some FieldType.int) rmX6_thrown D k (gw k g (t 0) sq G ++ (tw k t T ++ R)) [.ref (g 0)] (some (.int (G 0 0))) := by
  refine PM_of rfl (Nat.le_of_ble_eq_true rfl) ?_
  intro p e s m below meth c hC hr hlk hin hE hP ls hl
  have hC : CallFix p m c cX6_thrown 1 s _ lw_all RX6 := hC
  have hx := hC.1
  have hb := hC.2.1
  have hown : s.vm.findClass RX6 = some m.cls := hC.2.2.2.1
  have hts := hC.2.2.2.2
  have hl : lv_has ls 1 [(0, .ref (g 0))] := hl
  refine lv_aload_n hx hb dX6_thrown_0 rfl (lv_at hl 0 rfl) ?_
  refine va_get (D := D) (ci := 6) (v := .int (G 0 0)) (C := RX6) (T := TX6) (N := 13) hx hb hts tu_6 hown hE.1 hP 0 gw_0 rfl 0 (by decide) (hts _ tw_785) (fun _ h9 => h9) rfl dX6_thrown_1 ?_
  exact p_iret hx hb hr hlk dX6_thrown_4 (rfl)

