set_option maxHeartbeats 1000000 in
set_option maxRecDepth 100000 in
theorem law_C {p : Program} {l : Launch} {e : Env} {s : State} {m : MethodId} {args : Array Value} {below : List Frame} {meth : Method} {c : Code} {D : va_G} {k : Nat → ClassId} {A : Nat → Prop} {a tr o fa ba : Nat → Nat} {b x : Nat} {S U G T : HS} {n nf : Nat} {R : va_W} {ls : Array Slot} {H : Heap} {locs : List Loc} {Q : State → Prop} {cc ss t : Nat} {xv : Int32} (hC : CallFix p m c cL_law 28 s args lw_all RL) (hE : eK D k s) (hA : ∀ q : Nat, s.heap.size ≤ q → A q) (hcc : cc + 60 ≤ 600130) (hss : ss + 3000 ≤ 7301080) (hnf0 : 0 < nf) (hra : RA S G n nf) (hrb : RB S T n) (hti : TI T n) (hgi : GI G T n nf) {q1 q2 q3 : Nat} (hl : lv_has ls 28 [(0, .ref b), (1, .ref x), (2, .ref (o 0)), (3, .int (nI t)), (4, .int xv), (5, .long (xDig S n nf)), (7, .int (nI n)), (8, .ref q1), (9, .ref q2), (10, .ref q3), (11, .int (nI (mFil G 1 n)))]) (hP : va_P D vwCl (LW k a tr o fa ba x S U G T n nf (mL T n) (R ++ [(q1, .inl (k 0, 6, .inl (atG T n))), (q2, .inl (k 0, 4, .inl (inG T n))), (q3, .inl (k 0, 4, .inl (baG G T n)))])) H) (hD : va_D A (LW k a tr o fa ba x S U G T n nf (mL T n) (R ++ [(q1, .inl (k 0, 6, .inl (atG T n))), (q2, .inl (k 0, 4, .inl (inG T n))), (q3, .inl (k 0, 4, .inl (baG G T n)))]))) (hS : va_S A s.heap H locs) (K : ∀ (ls : Array Slot) (H : Heap) (locs : List Loc), lv_has ls 28 [(0, .ref b), (1, .ref x), (2, .ref (o 0)), (3, .int (nI t)), (4, .int xv), (5, .long (xDig S n nf)), (7, .int (nI n)), (8, .ref q1), (9, .ref q2), (10, .ref q3), (11, .int (nI (mFil G 1 n)))] → va_P D vwCl (LW k a tr o fa ba x S U G T n nf (mL T n) (R ++ [(q1, .inl (k 0, 6, .inl (atG T n))), (q2, .inl (k 0, 4, .inl (inG T n))), (q3, .inl (k 0, 4, .inl (baG G T n)))])) H → va_D A (LW k a tr o fa ba x S U G T n nf (mL T n) (R ++ [(q1, .inl (k 0, 6, .inl (atG T n))), (q2, .inl (k 0, 4, .inl (inG T n))), (q3, .inl (k 0, 4, .inl (baG G T n)))])) → va_S A s.heap H locs → W p l e room_1 s m args below meth c H locs cc ss Q (F0 m 602 ls [])) : W p l e room_1 s m args below meth c H locs cc ss Q (F0 m 341 ls []) := by
  have hx := hC.1
  have hb := hC.2.1
  have hown : s.vm.findClass RL = some m.cls := hC.2.2.2.1
  have hts := hC.2.2.2.2
  have hn := hra.n40
  have hnf := hra.nf6
  have hLn : mL T n ≤ n := ct_le _ n
  refine lv_aload hx hb dL_law_341 (lv_at hl 7 rfl) ?_
  refine lv_iconst (v := 0) hx hb dL_law_343 (by decide) ?_
  refine k_iald (j := 0) hx hb hE hP (64 + nf + n + (R.length + 0)) ((lw_Ri (i := 0)).trans rfl) (by decide) (by decide) dL_law_344 ?_
  refine w_top (show (atG T n) 0 = nI (mCnt T 0 n) from atG_c (j := 0) (by decide)) ?_
  refine lv_aload_n hx hb dL_law_345 rfl (lv_at hl 1 rfl) ?_
  refine c_pVi (rest := [.int (nI (mCnt T 0 n))]) hC hE hP (lx_inLine l S ) gc_RL_142 hd_X4_inLine ⟨rfl, rfl⟩ ⟨Nat.le_of_ble_eq_true rfl, Nat.le_of_ble_eq_true rfl⟩ 29 lw_29 rfl rfl hl.1 (Nat.le_of_ble_eq_true rfl) ⟨(by show cc ≤ 600130; omega), (by show ss ≤ 7301080; omega)⟩ dL_law_346 ?_
  refine w_top (show nI (ct (fun j_ => S 6 j_ = 0) 40) = nI (mCnt T 0 n) from congrArg nI (where_ct hrb (by decide))) ?_
  refine lv_icmp_ne (tgt := 395) hx hb dL_law_349 (by decide) (fun c_ => absurd rfl c_) (fun c_1 => ?_)
  refine lv_aload hx hb dL_law_352 (lv_at hl 7 rfl) ?_
  refine lv_iconst (v := 1) hx hb dL_law_354 (by decide) ?_
  refine k_iald (j := 1) hx hb hE hP (64 + nf + n + (R.length + 0)) ((lw_Ri (i := 0)).trans rfl) (by decide) (by decide) dL_law_355 ?_
  refine w_top (show (atG T n) 1 = nI (mCnt T 1 n) from atG_c (j := 1) (by decide)) ?_
  refine lv_aload_n hx hb dL_law_356 rfl (lv_at hl 1 rfl) ?_
  refine c_pVi (rest := [.int (nI (mCnt T 1 n))]) hC hE hP (lx_onBelt l S ) gc_RL_145 hd_X4_onBelt ⟨rfl, rfl⟩ ⟨Nat.le_of_ble_eq_true rfl, Nat.le_of_ble_eq_true rfl⟩ 29 lw_29 rfl rfl hl.1 (Nat.le_of_ble_eq_true rfl) ⟨(by show cc ≤ 600130; omega), (by show ss ≤ 7301080; omega)⟩ dL_law_357 ?_
  refine w_top (show nI (ct (fun j_ => S 6 j_ = 1) 40) = nI (mCnt T 1 n) from congrArg nI (where_ct hrb (by decide))) ?_
  refine lv_icmp_ne (tgt := 395) hx hb dL_law_360 (by decide) (fun c_ => absurd rfl c_) (fun c_2 => ?_)
  refine lv_aload hx hb dL_law_363 (lv_at hl 7 rfl) ?_
  refine lv_iconst (v := 3) hx hb dL_law_365 (by decide) ?_
  refine k_iald (j := 3) hx hb hE hP (64 + nf + n + (R.length + 0)) ((lw_Ri (i := 0)).trans rfl) (by decide) (by decide) dL_law_366 ?_
  refine w_top (show (atG T n) 3 = nI (mCnt T 3 n) from atG_c (j := 3) (by decide)) ?_
  refine lv_aload_n hx hb dL_law_367 rfl (lv_at hl 1 rfl) ?_
  refine c_pVi (rest := [.int (nI (mCnt T 3 n))]) hC hE hP (lx_atDesk l S ) gc_RL_148 hd_X4_atDesk ⟨rfl, rfl⟩ ⟨Nat.le_of_ble_eq_true rfl, Nat.le_of_ble_eq_true rfl⟩ 29 lw_29 rfl rfl hl.1 (Nat.le_of_ble_eq_true rfl) ⟨(by show cc ≤ 600130; omega), (by show ss ≤ 7301080; omega)⟩ dL_law_368 ?_
  refine w_top (show nI (ct (fun j_ => S 6 j_ = 3) 40) = nI (mCnt T 3 n) from congrArg nI (where_ct hrb (by decide))) ?_
  refine lv_icmp_ne (tgt := 395) hx hb dL_law_371 (by decide) (fun c_ => absurd rfl c_) (fun c_3 => ?_)
  refine lv_iload hx hb dL_law_374 (lv_at hl 10 rfl) ?_
  refine lv_aload_n hx hb dL_law_376 rfl (lv_at hl 1 rfl) ?_
  refine c_pVi (rest := [.int (nI (mFil G 1 n))]) hC hE hP (lx_openFiles l S ) gc_RL_151 hd_X4_openFiles ⟨rfl, rfl⟩ ⟨Nat.le_of_ble_eq_true rfl, Nat.le_of_ble_eq_true rfl⟩ 29 lw_29 rfl rfl hl.1 (Nat.le_of_ble_eq_true rfl) ⟨(by show cc ≤ 600130; omega), (by show ss ≤ 7301080; omega)⟩ dL_law_377 ?_
  refine w_top (show nI (ct (fun j_ => S 10 j_ = 1) 40) = nI (mFil G 1 n) from congrArg nI (file_ct hra (by decide))) ?_
  refine lv_icmp_ne (tgt := 395) hx hb dL_law_380 (by decide) (fun c_ => absurd rfl c_) (fun c_4 => ?_)
  refine lv_iload hx hb dL_law_383 (lv_at hl 10 rfl) ?_
  refine lv_aload_n hx hb dL_law_385 rfl (lv_at hl 1 rfl) ?_
  refine c_pVi (rest := [.int (nI (mFil G 1 n))]) hC hE hP (lx_closedFiles l S ) gc_RL_154 hd_X4_closedFiles ⟨rfl, rfl⟩ ⟨Nat.le_of_ble_eq_true rfl, Nat.le_of_ble_eq_true rfl⟩ 29 lw_29 rfl rfl hl.1 (Nat.le_of_ble_eq_true rfl) ⟨(by show cc ≤ 600130; omega), (by show ss ≤ 7301080; omega)⟩ dL_law_386 ?_
  refine w_top (show nI (ct (fun j_ => S 10 j_ = 2) 40) = nI (mFil G 2 n) from congrArg nI (file_ct hra (by decide))) ?_
  have f1 := fil_le G n
  refine lv_iadd hx hb dL_law_389 ?_
  refine w_top (show (nI (mFil G 1 n)) + (nI (mFil G 2 n)) = nI (mFil G 1 n + mFil G 2 n) from nI_add _ _) ?_
  refine lv_iload hx hb dL_law_390 (lv_at hl 6 rfl) ?_
  refine lv_icmp_le (tgt := 397) hx hb dL_law_392 (by decide) (fun c_5 => ?_) (fun c_ => absurd (nI_le f1 (Nat.lt_of_le_of_lt hn (by decide))) c_)
  refine lv_iconst (v := 0) hx hb dL_law_397 (by decide) ?_
  refine lv_istore (lv' := [(12, .int 0), (0, .ref b), (1, .ref x), (2, .ref (o 0)), (3, .int (nI t)), (4, .int xv), (5, .long (xDig S n nf)), (7, .int (nI n)), (8, .ref q1), (9, .ref q2), (10, .ref q3), (11, .int (nI (mFil G 1 n)))]) hx hb dL_law_398 hl (by decide) rfl (fun ls hl => ?_)
  refine lv_iconst (v := 0) hx hb dL_law_400 (by decide) ?_
  refine lv_istore (lv' := [(13, .int 0), (12, .int 0), (0, .ref b), (1, .ref x), (2, .ref (o 0)), (3, .int (nI t)), (4, .int xv), (5, .long (xDig S n nf)), (7, .int (nI n)), (8, .ref q1), (9, .ref q2), (10, .ref q3), (11, .int (nI (mFil G 1 n)))]) hx hb dL_law_401 hl (by decide) rfl (fun ls hl => ?_)
  refine w_for (N := 12) (fun _ => True) (fun i => [(0, .ref b), (1, .ref x), (2, .ref (o 0)), (3, .int (nI t)), (4, .int xv), (5, .long (xDig S n nf)), (7, .int (nI n)), (8, .ref q1), (9, .ref q2), (10, .ref q3), (11, .int (nI (mFil G 1 n))), (12, .int (nI (onN T i))), (13, .int (nI i))]) (fun ls hI hl => ?_) (fun i hi hI ih ls hl => ?_) 0 (Nat.zero_le _) trivial (lv_sub hl [2, 3, 4, 5, 6, 7, 8, 9, 10, 11, 12, 1, 0] rfl)
  · have hl : lv_has ls 28 [(0, .ref b), (1, .ref x), (2, .ref (o 0)), (3, .int (nI t)), (4, .int xv), (5, .long (xDig S n nf)), (7, .int (nI n)), (8, .ref q1), (9, .ref q2), (10, .ref q3), (11, .int (nI (mFil G 1 n))), (12, .int (nI (onN T 12))), (13, .int (nI 12))] := hl
    refine lv_iload hx hb dL_law_403 (lv_at hl 12 rfl) ?_
    refine lv_bipush (v := 12) hx hb dL_law_405 (by decide) ?_
    refine lv_icmp_ge (tgt := 457) hx hb dL_law_407 (by decide) (fun c_6 => ?_) (fun c_ => absurd (nI_le (a := 12) (b := 12) (Nat.le_refl 12) (by decide)) c_)
    refine lv_iconst (v := 0) hx hb dL_law_457 (by decide) ?_
    refine lv_istore (lv' := [(13, .int 0), (0, .ref b), (1, .ref x), (2, .ref (o 0)), (3, .int (nI t)), (4, .int xv), (5, .long (xDig S n nf)), (7, .int (nI n)), (8, .ref q1), (9, .ref q2), (10, .ref q3), (11, .int (nI (mFil G 1 n))), (12, .int (nI (onN T 12)))]) hx hb dL_law_458 hl (by decide) rfl (fun ls hl => ?_)
    refine w_for (N := 4) (fun _ => True) (fun i => [(0, .ref b), (1, .ref x), (2, .ref (o 0)), (3, .int (nI t)), (4, .int xv), (5, .long (xDig S n nf)), (7, .int (nI n)), (8, .ref q1), (9, .ref q2), (10, .ref q3), (11, .int (nI (mFil G 1 n))), (12, .int (nI (onN T 12))), (13, .int (nI i))]) (fun ls hI hl => ?_) (fun i hi hI ih ls hl => ?_) 0 (Nat.zero_le _) trivial (lv_sub hl [1, 2, 3, 4, 5, 6, 7, 8, 9, 10, 11, 12, 0] rfl)
    · have hl : lv_has ls 28 [(0, .ref b), (1, .ref x), (2, .ref (o 0)), (3, .int (nI t)), (4, .int xv), (5, .long (xDig S n nf)), (7, .int (nI n)), (8, .ref q1), (9, .ref q2), (10, .ref q3), (11, .int (nI (mFil G 1 n))), (12, .int (nI (onN T 12))), (13, .int (nI 4))] := hl
      refine lv_iload hx hb dL_law_460 (lv_at hl 12 rfl) ?_
      refine lv_iconst (v := 4) hx hb dL_law_462 (by decide) ?_
      refine lv_icmp_ge (tgt := 515) hx hb dL_law_463 (by decide) (fun c_7 => ?_) (fun c_ => absurd (nI_le (a := 4) (b := 4) (Nat.le_refl 4) (by decide)) c_)
      refine lv_iconst (v := 0) hx hb dL_law_515 (by decide) ?_
      refine lv_istore (lv' := [(13, .int 0), (0, .ref b), (1, .ref x), (2, .ref (o 0)), (3, .int (nI t)), (4, .int xv), (5, .long (xDig S n nf)), (7, .int (nI n)), (8, .ref q1), (9, .ref q2), (10, .ref q3), (11, .int (nI (mFil G 1 n))), (12, .int (nI (onN T 12)))]) hx hb dL_law_516 hl (by decide) rfl (fun ls hl => ?_)
      refine lv_iconst (v := 0) hx hb dL_law_518 (by decide) ?_
      refine lv_istore (lv' := [(14, .int 0), (13, .int 0), (0, .ref b), (1, .ref x), (2, .ref (o 0)), (3, .int (nI t)), (4, .int xv), (5, .long (xDig S n nf)), (7, .int (nI n)), (8, .ref q1), (9, .ref q2), (10, .ref q3), (11, .int (nI (mFil G 1 n))), (12, .int (nI (onN T 12)))]) hx hb dL_law_519 hl (by decide) rfl (fun ls hl => ?_)
      refine w_for (N := nf) (fun _ => True) (fun i => [(0, .ref b), (1, .ref x), (2, .ref (o 0)), (3, .int (nI t)), (4, .int xv), (5, .long (xDig S n nf)), (7, .int (nI n)), (8, .ref q1), (9, .ref q2), (10, .ref q3), (11, .int (nI (mFil G 1 n))), (12, .int (nI (onN T 12))), (13, .int (nI (sF G n i))), (14, .int (nI i))]) (fun ls hI hl => ?_) (fun i hi hI ih ls hl => ?_) 0 (Nat.zero_le _) trivial (lv_sub hl [2, 3, 4, 5, 6, 7, 8, 9, 10, 11, 12, 13, 1, 0] rfl)
      · have hl : lv_has ls 28 [(0, .ref b), (1, .ref x), (2, .ref (o 0)), (3, .int (nI t)), (4, .int xv), (5, .long (xDig S n nf)), (7, .int (nI n)), (8, .ref q1), (9, .ref q2), (10, .ref q3), (11, .int (nI (mFil G 1 n))), (12, .int (nI (onN T 12))), (13, .int (nI (sF G n nf))), (14, .int (nI nf))] := hl
        refine lv_iload hx hb dL_law_521 (lv_at hl 13 rfl) ?_
        refine lv_aload_n hx hb dL_law_523 rfl (lv_at hl 1 rfl) ?_
        refine c_pVi (rest := [.int (nI nf)]) hC hE hP (lx_flights l S ) gc_RL_163 hd_X4_flights ⟨rfl, rfl⟩ ⟨Nat.le_of_ble_eq_true rfl, Nat.le_of_ble_eq_true rfl⟩ 29 lw_29 rfl rfl hl.1 (Nat.le_of_ble_eq_true rfl) ⟨(by show cc ≤ 600130; omega), (by show ss ≤ 7301080; omega)⟩ dL_law_524 ?_
        refine w_top (show S 0 3 = nI nf from hra.sf_) ?_
        refine lv_icmp_ge (tgt := 574) hx hb dL_law_527 (by decide) (fun c_8 => ?_) (fun c_ => absurd (nI_le (Nat.le_refl nf) (Nat.lt_of_le_of_lt hnf (by decide))) c_)
        refine lv_iload hx hb dL_law_574 (lv_at hl 11 rfl) ?_
        refine w_top (show nI (onN T 12) = nI (mCnt T 1 n) from congrArg nI (on_ct hrb)) ?_
        refine lv_aload_n hx hb dL_law_576 rfl (lv_at hl 1 rfl) ?_
        refine c_pVi (rest := [.int (nI (mCnt T 1 n))]) hC hE hP (lx_onBelt l S ) gc_RL_145 hd_X4_onBelt ⟨rfl, rfl⟩ ⟨Nat.le_of_ble_eq_true rfl, Nat.le_of_ble_eq_true rfl⟩ 29 lw_29 rfl rfl hl.1 (Nat.le_of_ble_eq_true rfl) ⟨(by show cc ≤ 600130; omega), (by show ss ≤ 7301080; omega)⟩ dL_law_577 ?_
        refine w_top (show nI (ct (fun j_ => S 6 j_ = 1) 40) = nI (mCnt T 1 n) from congrArg nI (where_ct hrb (by decide))) ?_
        refine lv_icmp_ne (tgt := 600) hx hb dL_law_580 (by decide) (fun c_ => absurd rfl c_) (fun c_9 => ?_)
        refine lv_iload hx hb dL_law_583 (lv_at hl 12 rfl) ?_
        refine w_top (show nI (sF G n nf) = nI n from congrArg nI (sF_le hra)) ?_
        refine lv_iload hx hb dL_law_585 (lv_at hl 6 rfl) ?_
        refine lv_icmp_ne (tgt := 600) hx hb dL_law_587 (by decide) (fun c_ => absurd rfl c_) (fun c_10 => ?_)
        refine lv_aload_n hx hb dL_law_590 rfl (lv_at hl 1 rfl) ?_
        refine c_pVl (rest := []) hC hE hP (lx_digest l S n hra.sn hn nf hra.sf_ hnf) gc_RL_108 hd_X4_digest ⟨rfl, rfl⟩ ⟨Nat.le_of_ble_eq_true rfl, Nat.le_of_ble_eq_true rfl⟩ 29 lw_29 rfl rfl hl.1 (Nat.le_of_ble_eq_true rfl) ⟨(by show cc ≤ 600130; omega), (by show ss ≤ 7301080; omega)⟩ dL_law_591 ?_
        refine lv_lload hx hb dL_law_594 (lv_at hl 5 rfl) ?_
        refine W.lcmp hx hb dL_law_596 ?_
        refine w_top (lg_self rfl) ?_
        refine lv_if_eq (tgt := 602) hx hb dL_law_597 (by decide) (fun c_11 => ?_) (fun c_ => absurd rfl c_)
        exact K ls H locs (lv_sub hl [0, 1, 2, 3, 4, 5, 6, 7, 8, 9, 10] rfl) hP hD hS
      · have hl : lv_has ls 28 [(0, .ref b), (1, .ref x), (2, .ref (o 0)), (3, .int (nI t)), (4, .int xv), (5, .long (xDig S n nf)), (7, .int (nI n)), (8, .ref q1), (9, .ref q2), (10, .ref q3), (11, .int (nI (mFil G 1 n))), (12, .int (nI (onN T 12))), (13, .int (nI (sF G n i))), (14, .int (nI i))] := hl
        refine lv_iload hx hb dL_law_521 (lv_at hl 13 rfl) ?_
        refine lv_aload_n hx hb dL_law_523 rfl (lv_at hl 1 rfl) ?_
        refine c_pVi (rest := [.int (nI i)]) hC hE hP (lx_flights l S ) gc_RL_163 hd_X4_flights ⟨rfl, rfl⟩ ⟨Nat.le_of_ble_eq_true rfl, Nat.le_of_ble_eq_true rfl⟩ 29 lw_29 rfl rfl hl.1 (Nat.le_of_ble_eq_true rfl) ⟨(by show cc ≤ 600130; omega), (by show ss ≤ 7301080; omega)⟩ dL_law_524 ?_
        refine w_top (show S 0 3 = nI nf from hra.sf_) ?_
        refine lv_icmp_ge (tgt := 574) hx hb dL_law_527 (by decide) (fun c_ => absurd c_ (nI_ge hi (Nat.lt_of_le_of_lt hnf (by decide)))) (fun c_12 => ?_)
        have r1 := rdy_le G T i n
        have r2 := of_le G (nI i) n
        refine lv_aload_n hx hb dL_law_530 rfl (lv_at hl 1 rfl) ?_
        refine lv_iload hx hb dL_law_531 (lv_at hl 13 rfl) ?_
        refine c_pVi (rest := []) hC hE hP (lx_readyOf l S (nI i) n hra.sn hn (xflt_n hra hi)) gc_RL_165 hd_X4_readyOf ⟨rfl, rfl⟩ ⟨Nat.le_of_ble_eq_true rfl, Nat.le_of_ble_eq_true rfl⟩ 29 lw_29 rfl rfl hl.1 (Nat.le_of_ble_eq_true rfl) ⟨(by show cc ≤ 600130; omega), (by show ss ≤ 7301080; omega)⟩ dL_law_533 ?_
        refine w_top (show nI (xRdyN S (nI i) n) = nI (mRdyN G T i n) from congrArg nI (rdy_ct hra hrb hi)) ?_
        refine lv_if_lt (tgt := 548) hx hb dL_law_536 (by decide) (fun c_ => absurd c_ (nI_pos (by omega))) (fun c_13 => ?_)
        refine lv_aload_n hx hb dL_law_539 rfl (lv_at hl 1 rfl) ?_
        refine lv_iload hx hb dL_law_540 (lv_at hl 13 rfl) ?_
        refine c_pVi (rest := []) hC hE hP (lx_missingOf l S (nI i) n hra.sn hn (xflt_n hra hi)) gc_RL_168 hd_X4_missingOf ⟨rfl, rfl⟩ ⟨Nat.le_of_ble_eq_true rfl, Nat.le_of_ble_eq_true rfl⟩ 29 lw_29 rfl rfl hl.1 (Nat.le_of_ble_eq_true rfl) ⟨(by show cc ≤ 600130; omega), (by show ss ≤ 7301080; omega)⟩ dL_law_542 ?_
        refine w_top (show nI (ct (fun j_ => S 3 j_ = nI i) 40) - nI (xRdyN S (nI i) n) = mMissing G T i n from by rw [rdy_ct hra hrb hi, of_ct hra hi]; rfl) ?_
        refine w_top (show mMissing G T i n = nI (mOf G (nI i) n - mRdyN G T i n) from nI_sub r1) ?_
        refine lv_if_ge (tgt := 550) hx hb dL_law_545 (by decide) (fun c_14 => ?_) (fun c_ => absurd (Int32.not_lt.mp (nI_pos (by omega))) c_)
        refine lv_iload hx hb dL_law_550 (lv_at hl 12 rfl) ?_
        refine lv_aload_n hx hb dL_law_552 rfl (lv_at hl 1 rfl) ?_
        refine lv_iload hx hb dL_law_553 (lv_at hl 13 rfl) ?_
        refine c_pVi (rest := [.int (nI (sF G n i))]) hC hE hP (lx_readyOf l S (nI i) n hra.sn hn (xflt_n hra hi)) gc_RL_165 hd_X4_readyOf ⟨rfl, rfl⟩ ⟨Nat.le_of_ble_eq_true rfl, Nat.le_of_ble_eq_true rfl⟩ 29 lw_29 rfl rfl hl.1 (Nat.le_of_ble_eq_true rfl) ⟨(by show cc ≤ 600130; omega), (by show ss ≤ 7301080; omega)⟩ dL_law_555 ?_
        refine w_top (show nI (xRdyN S (nI i) n) = nI (mRdyN G T i n) from congrArg nI (rdy_ct hra hrb hi)) ?_
        refine lv_aload_n hx hb dL_law_558 rfl (lv_at hl 1 rfl) ?_
        refine lv_iload hx hb dL_law_559 (lv_at hl 13 rfl) ?_
        refine c_pVi (rest := [.int (nI (mRdyN G T i n)), .int (nI (sF G n i))]) hC hE hP (lx_missingOf l S (nI i) n hra.sn hn (xflt_n hra hi)) gc_RL_168 hd_X4_missingOf ⟨rfl, rfl⟩ ⟨Nat.le_of_ble_eq_true rfl, Nat.le_of_ble_eq_true rfl⟩ 29 lw_29 rfl rfl hl.1 (Nat.le_of_ble_eq_true rfl) ⟨(by show cc ≤ 600130; omega), (by show ss ≤ 7301080; omega)⟩ dL_law_561 ?_
        refine w_top (show nI (ct (fun j_ => S 3 j_ = nI i) 40) - nI (xRdyN S (nI i) n) = mMissing G T i n from by rw [rdy_ct hra hrb hi, of_ct hra hi]; rfl) ?_
        refine w_top (show mMissing G T i n = nI (mOf G (nI i) n - mRdyN G T i n) from nI_sub r1) ?_
        refine lv_iadd hx hb dL_law_564 ?_
        refine w_top (show (nI (mRdyN G T i n)) + (nI (mOf G (nI i) n - mRdyN G T i n)) = nI (mOf G (nI i) n) from (nI_add _ _).trans (congrArg nI (by omega))) ?_
        refine lv_iadd hx hb dL_law_565 ?_
        refine w_top (show (nI (sF G n i)) + (nI (mOf G (nI i) n)) = nI (sF G n (i + 1)) from nI_add _ _) ?_
        refine lv_istore (lv' := [(13, .int (nI (sF G n (i + 1)))), (0, .ref b), (1, .ref x), (2, .ref (o 0)), (3, .int (nI t)), (4, .int xv), (5, .long (xDig S n nf)), (7, .int (nI n)), (8, .ref q1), (9, .ref q2), (10, .ref q3), (11, .int (nI (mFil G 1 n))), (12, .int (nI (onN T 12))), (14, .int (nI i))]) hx hb dL_law_566 hl (by decide) rfl (fun ls hl => ?_)
        refine lv_iinc (v := nI (i + 1)) (lv' := [(14, .int (nI (i + 1))), (13, .int (nI (sF G n (i + 1)))), (0, .ref b), (1, .ref x), (2, .ref (o 0)), (3, .int (nI t)), (4, .int xv), (5, .long (xDig S n nf)), (7, .int (nI n)), (8, .ref q1), (9, .ref q2), (10, .ref q3), (11, .int (nI (mFil G 1 n))), (12, .int (nI (onN T 12)))]) hx hb dL_law_568 hl (k := 13) rfl (iinc1 _) (by decide) rfl (fun ls hl => ?_)
        refine lv_goto (tgt := 521) hx hb dL_law_571 (by decide) ?_
        exact ih ls trivial (lv_sub hl [2, 3, 4, 5, 6, 7, 8, 9, 10, 11, 12, 13, 1, 0] rfl)
    · have hl : lv_has ls 28 [(0, .ref b), (1, .ref x), (2, .ref (o 0)), (3, .int (nI t)), (4, .int xv), (5, .long (xDig S n nf)), (7, .int (nI n)), (8, .ref q1), (9, .ref q2), (10, .ref q3), (11, .int (nI (mFil G 1 n))), (12, .int (nI (onN T 12))), (13, .int (nI i))] := hl
      refine lv_iload hx hb dL_law_460 (lv_at hl 12 rfl) ?_
      refine lv_iconst (v := 4) hx hb dL_law_462 (by decide) ?_
      refine lv_icmp_ge (tgt := 515) hx hb dL_law_463 (by decide) (fun c_ => absurd c_ (nI_ge (b := 4) hi (by decide))) (fun c_15 => ?_)
      refine lv_aload_n hx hb dL_law_466 rfl (lv_at hl 1 rfl) ?_
      refine lv_iload hx hb dL_law_467 (lv_at hl 12 rfl) ?_
      refine c_pVi (rest := []) hC hE hP (lx_bagsIn l S (nI i) (xch_n hi)) gc_RL_157 hd_X4_bagsIn ⟨rfl, rfl⟩ ⟨Nat.le_of_ble_eq_true rfl, Nat.le_of_ble_eq_true rfl⟩ 29 lw_29 rfl rfl hl.1 (Nat.le_of_ble_eq_true rfl) ⟨(by show cc ≤ 600130; omega), (by show ss ≤ 7301080; omega)⟩ dL_law_469 ?_
      refine w_top (show nI (ct (fun j_ => S 7 j_ = nI i) 40) = T 7 i from in_ct hrb hi) ?_
      refine w_top (show T 7 i = nI (inC T n i) from T7_c hrb hi) ?_
      refine lv_aload hx hb dL_law_472 (lv_at hl 8 rfl) ?_
      refine lv_iload hx hb dL_law_474 (lv_at hl 12 rfl) ?_
      refine k_iald (j := i) hx hb hE hP (64 + nf + n + (R.length + 1)) ((lw_Ri (i := 1)).trans rfl) hi (by decide) dL_law_476 ?_
      refine w_top (show (inG T n) i = nI (inC T n i) from inG_c hi) ?_
      refine lv_icmp_ne (tgt := 507) hx hb dL_law_477 (by decide) (fun c_ => absurd rfl c_) (fun c_16 => ?_)
      refine lv_aload_n hx hb dL_law_480 rfl (lv_at hl 1 rfl) ?_
      refine lv_iload hx hb dL_law_481 (lv_at hl 12 rfl) ?_
      refine c_pVi (rest := []) hC hE hP (lx_misroutedIn l S (nI i) n hra.sn hn (xch_n hi)) gc_RL_160 hd_X4_misroutedIn ⟨rfl, rfl⟩ ⟨Nat.le_of_ble_eq_true rfl, Nat.le_of_ble_eq_true rfl⟩ 29 lw_29 rfl rfl hl.1 (Nat.le_of_ble_eq_true rfl) ⟨(by show cc ≤ 600130; omega), (by show ss ≤ 7301080; omega)⟩ dL_law_483 ?_
      refine w_top (show nI (xMisN S (nI i) n) = nI (mBad G T (nI i) n) from congrArg nI (mis_ct hra hrb hi)) ?_
      refine lv_aload hx hb dL_law_486 (lv_at hl 9 rfl) ?_
      refine lv_iload hx hb dL_law_488 (lv_at hl 12 rfl) ?_
      refine k_iald (j := i) hx hb hE hP (64 + nf + n + (R.length + 2)) ((lw_Ri (i := 2)).trans rfl) hi (by decide) dL_law_490 ?_
      refine w_top (show (baG G T n) i = nI (mBad G T (nI i) n) from baG_c hi) ?_
      refine lv_icmp_ne (tgt := 507) hx hb dL_law_491 (by decide) (fun c_ => absurd rfl c_) (fun c_17 => ?_)
      refine lv_aload hx hb dL_law_494 (lv_at hl 9 rfl) ?_
      refine lv_iload hx hb dL_law_496 (lv_at hl 12 rfl) ?_
      refine k_iald (j := i) hx hb hE hP (64 + nf + n + (R.length + 2)) ((lw_Ri (i := 2)).trans rfl) hi (by decide) dL_law_498 ?_
      refine w_top (show (baG G T n) i = nI (mBad G T (nI i) n) from baG_c hi) ?_
      refine lv_aload hx hb dL_law_499 (lv_at hl 8 rfl) ?_
      refine lv_iload hx hb dL_law_501 (lv_at hl 12 rfl) ?_
      refine k_iald (j := i) hx hb hE hP (64 + nf + n + (R.length + 1)) ((lw_Ri (i := 1)).trans rfl) hi (by decide) dL_law_503 ?_
      refine w_top (show (inG T n) i = nI (inC T n i) from inG_c hi) ?_
      refine lv_icmp_le (tgt := 509) hx hb dL_law_504 (by decide) (fun c_18 => ?_) (fun c_ => absurd (nI_le (bad_le G T i n) (Nat.lt_of_le_of_lt (ct_le _ n) (Nat.lt_of_le_of_lt hn (by decide)))) c_)
      refine lv_iinc (v := nI (i + 1)) (lv' := [(13, .int (nI (i + 1))), (0, .ref b), (1, .ref x), (2, .ref (o 0)), (3, .int (nI t)), (4, .int xv), (5, .long (xDig S n nf)), (7, .int (nI n)), (8, .ref q1), (9, .ref q2), (10, .ref q3), (11, .int (nI (mFil G 1 n))), (12, .int (nI (onN T 12)))]) hx hb dL_law_509 hl (k := 12) rfl (iinc1 _) (by decide) rfl (fun ls hl => ?_)
      refine lv_goto (tgt := 460) hx hb dL_law_512 (by decide) ?_
      exact ih ls trivial (lv_sub hl [1, 2, 3, 4, 5, 6, 7, 8, 9, 10, 11, 12, 0] rfl)
  · have hl : lv_has ls 28 [(0, .ref b), (1, .ref x), (2, .ref (o 0)), (3, .int (nI t)), (4, .int xv), (5, .long (xDig S n nf)), (7, .int (nI n)), (8, .ref q1), (9, .ref q2), (10, .ref q3), (11, .int (nI (mFil G 1 n))), (12, .int (nI (onN T i))), (13, .int (nI i))] := hl
    refine lv_iload hx hb dL_law_403 (lv_at hl 12 rfl) ?_
    refine lv_bipush (v := 12) hx hb dL_law_405 (by decide) ?_
    refine lv_icmp_ge (tgt := 457) hx hb dL_law_407 (by decide) (fun c_ => absurd c_ (nI_ge (b := 12) hi (by decide))) (fun c_19 => ?_)
    refine lv_aload_n hx hb dL_law_410 rfl (lv_at hl 1 rfl) ?_
    refine lv_iload hx hb dL_law_411 (lv_at hl 12 rfl) ?_
    refine c_pVi (rest := []) hC hE hP (lx_bagAt l S (nI i) ⟨nI_pos (by omega), lt_12 hi⟩) gc_RL_123 hd_X4_bagAt ⟨rfl, rfl⟩ ⟨Nat.le_of_ble_eq_true rfl, Nat.le_of_ble_eq_true rfl⟩ 29 lw_29 rfl rfl hl.1 (Nat.le_of_ble_eq_true rfl) ⟨(by show cc ≤ 600130; omega), (by show ss ≤ 7301080; omega)⟩ dL_law_413 ?_
    refine w_top (show rd 12 (S 12) (nI i) = T 5 i from (rd_12 hi).trans (hrb.bel i hi)) ?_
    by_cases z1 : T 5 i = -1
    · refine w_top (show T 5 i = (-1) from z1) ?_
      refine lv_istore (lv' := [(14, .int (-1)), (0, .ref b), (1, .ref x), (2, .ref (o 0)), (3, .int (nI t)), (4, .int xv), (5, .long (xDig S n nf)), (7, .int (nI n)), (8, .ref q1), (9, .ref q2), (10, .ref q3), (11, .int (nI (mFil G 1 n))), (12, .int (nI (onN T i))), (13, .int (nI i))]) hx hb dL_law_416 hl (by decide) rfl (fun ls hl => ?_)
      refine lv_iload hx hb dL_law_418 (lv_at hl 12 rfl) ?_
      refine lv_iload hx hb dL_law_420 (lv_at hl 0 rfl) ?_
      refine lv_if_lt (tgt := 429) hx hb dL_law_422 (by decide) (fun c_20 => ?_) (fun c_ => absurd (by decide) c_)
      refine lv_iconst (v := 0) hx hb dL_law_429 (by decide) ?_
      refine lv_iadd hx hb dL_law_430 ?_
      refine w_top (show (nI (onN T i)) + 0 = nI (onN T i) from Int32.add_zero _) ?_
      refine lv_istore (lv' := [(12, .int (nI (onN T i))), (14, .int (-1)), (0, .ref b), (1, .ref x), (2, .ref (o 0)), (3, .int (nI t)), (4, .int xv), (5, .long (xDig S n nf)), (7, .int (nI n)), (8, .ref q1), (9, .ref q2), (10, .ref q3), (11, .int (nI (mFil G 1 n))), (13, .int (nI i))]) hx hb dL_law_431 hl (by decide) rfl (fun ls hl => ?_)
      refine lv_iload hx hb dL_law_433 (lv_at hl 1 rfl) ?_
      refine lv_if_lt (tgt := 451) hx hb dL_law_435 (by decide) (fun c_21 => ?_) (fun c_ => absurd (by decide) c_)
      refine lv_iinc (v := nI (i + 1)) (lv' := [(13, .int (nI (i + 1))), (12, .int (nI (onN T i))), (14, .int (-1)), (0, .ref b), (1, .ref x), (2, .ref (o 0)), (3, .int (nI t)), (4, .int xv), (5, .long (xDig S n nf)), (7, .int (nI n)), (8, .ref q1), (9, .ref q2), (10, .ref q3), (11, .int (nI (mFil G 1 n)))]) hx hb dL_law_451 hl (k := 13) rfl (iinc1 _) (by decide) rfl (fun ls hl => ?_)
      refine lv_goto (tgt := 403) hx hb dL_law_454 (by decide) ?_
      have e9 : onN T (i + 1) = onN T i := ct_f (p := fun j => ¬ T 5 j = -1) (fun z => z z1)
      exact ih ls trivial (by show lv_has ls 28 [(0, .ref b), (1, .ref x), (2, .ref (o 0)), (3, .int (nI t)), (4, .int xv), (5, .long (xDig S n nf)), (7, .int (nI n)), (8, .ref q1), (9, .ref q2), (10, .ref q3), (11, .int (nI (mFil G 1 n))), (12, .int (nI (onN T (i + 1)))), (13, .int (nI (i + 1)))]; rw [e9]; exact lv_sub hl [3, 4, 5, 6, 7, 8, 9, 10, 11, 12, 13, 1, 0] rfl)
    · obtain ⟨b9, g1, g2, g3, g4⟩ := hrb.bl1 i hi z1
      refine w_top (show T 5 i = nI b9 from g2) ?_
      refine lv_istore (lv' := [(14, .int (nI b9)), (0, .ref b), (1, .ref x), (2, .ref (o 0)), (3, .int (nI t)), (4, .int xv), (5, .long (xDig S n nf)), (7, .int (nI n)), (8, .ref q1), (9, .ref q2), (10, .ref q3), (11, .int (nI (mFil G 1 n))), (12, .int (nI (onN T i))), (13, .int (nI i))]) hx hb dL_law_416 hl (by decide) rfl (fun ls hl => ?_)
      refine lv_iload hx hb dL_law_418 (lv_at hl 12 rfl) ?_
      refine lv_iload hx hb dL_law_420 (lv_at hl 0 rfl) ?_
      refine lv_if_lt (tgt := 429) hx hb dL_law_422 (by decide) (fun c_ => absurd c_ (nI_pos (by omega))) (fun c_22 => ?_)
      refine lv_iconst (v := 1) hx hb dL_law_425 (by decide) ?_
      refine lv_goto (tgt := 430) hx hb dL_law_426 (by decide) ?_
      refine lv_iadd hx hb dL_law_430 ?_
      refine w_top (show (nI (onN T i)) + 1 = nI (onN T i + 1) from nI_1 _) ?_
      refine lv_istore (lv' := [(12, .int (nI (onN T i + 1))), (14, .int (nI b9)), (0, .ref b), (1, .ref x), (2, .ref (o 0)), (3, .int (nI t)), (4, .int xv), (5, .long (xDig S n nf)), (7, .int (nI n)), (8, .ref q1), (9, .ref q2), (10, .ref q3), (11, .int (nI (mFil G 1 n))), (13, .int (nI i))]) hx hb dL_law_431 hl (by decide) rfl (fun ls hl => ?_)
      refine lv_iload hx hb dL_law_433 (lv_at hl 1 rfl) ?_
      refine lv_if_lt (tgt := 451) hx hb dL_law_435 (by decide) (fun c_ => absurd c_ (nI_pos (by omega))) (fun c_23 => ?_)
      refine lv_aload_n hx hb dL_law_438 rfl (lv_at hl 3 rfl) ?_
      refine lv_iload hx hb dL_law_439 (lv_at hl 1 rfl) ?_
      refine c_pVi (rest := []) hC hE hP (lx_placeOf l S (nI b9) (xbag_n hra g1)) gc_RL_117 hd_X4_placeOf ⟨rfl, rfl⟩ ⟨Nat.le_of_ble_eq_true rfl, Nat.le_of_ble_eq_true rfl⟩ 29 lw_29 rfl rfl hl.1 (Nat.le_of_ble_eq_true rfl) ⟨(by show cc ≤ 600130; omega), (by show ss ≤ 7301080; omega)⟩ dL_law_441 ?_
      refine w_top (show fnd (S 12) (nI b9) 0 12 = mPl T b9 1 from place_eq hrb g1) ?_
      refine w_top (show mPl T b9 1 = nI i from (sel_t g3 _ _).trans g4) ?_
      refine lv_iload hx hb dL_law_444 (lv_at hl 13 rfl) ?_
      refine lv_icmp_eq (tgt := 451) hx hb dL_law_446 (by decide) (fun c_24 => ?_) (fun c_ => absurd rfl c_)
      refine lv_iinc (v := nI (i + 1)) (lv' := [(13, .int (nI (i + 1))), (12, .int (nI (onN T i + 1))), (14, .int (nI b9)), (0, .ref b), (1, .ref x), (2, .ref (o 0)), (3, .int (nI t)), (4, .int xv), (5, .long (xDig S n nf)), (7, .int (nI n)), (8, .ref q1), (9, .ref q2), (10, .ref q3), (11, .int (nI (mFil G 1 n)))]) hx hb dL_law_451 hl (k := 13) rfl (iinc1 _) (by decide) rfl (fun ls hl => ?_)
      refine lv_goto (tgt := 403) hx hb dL_law_454 (by decide) ?_
      have e9 : onN T (i + 1) = onN T i + 1 := ct_t (p := fun j => ¬ T 5 j = -1) z1
      exact ih ls trivial (by show lv_has ls 28 [(0, .ref b), (1, .ref x), (2, .ref (o 0)), (3, .int (nI t)), (4, .int xv), (5, .long (xDig S n nf)), (7, .int (nI n)), (8, .ref q1), (9, .ref q2), (10, .ref q3), (11, .int (nI (mFil G 1 n))), (12, .int (nI (onN T (i + 1)))), (13, .int (nI (i + 1)))]; rw [e9]; exact lv_sub hl [3, 4, 5, 6, 7, 8, 9, 10, 11, 12, 13, 1, 0] rfl)
