noncomputable def uF (S U : HS) : Nat → HS
  | 0 => U
  | i + 1 => xUn S (xUnN S (nI i))

set_option maxHeartbeats 1000000 in
set_option maxRecDepth 100000 in
theorem law_H {p : Program} {l : Launch} {e : Env} {s : State} {m : MethodId} {args : Array Value} {below : List Frame} {meth : Method} {c : Code} {D : va_G} {k : Nat → ClassId} {A : Nat → Prop} {a tr o fa ba : Nat → Nat} {b x : Nat} {S U G T : HS} {n nf : Nat} {R : va_W} {ls : Array Slot} {H : Heap} {locs : List Loc} {Q : State → Prop} {cc ss t : Nat} {xv : Int32} (hC : CallFix p m c cL_law 28 s args lw_all RL) (hE : eK D k s) (hA : ∀ q : Nat, s.heap.size ≤ q → A q) (hcc : cc + 60 ≤ 600130) (hss : ss + 3000 ≤ 7301080) (hnf0 : 0 < nf) (hra : RA S G n nf) (hrb : RB S T n) (hti : TI T n) (hgi : GI G T n nf) {y8 y9 y10 : Nat} (hl : lv_has ls 28 [(0, .ref b), (1, .ref x), (2, .ref (o 0)), (3, .int (nI t)), (4, .int xv), (5, .long (xDig S n nf)), (7, .int (nI n)), (8, .ref y8), (9, .ref y9), (10, .ref y10), (11, .int (nI (mFil G 1 n)))]) (hP : va_P D vwCl (LW k a tr o fa ba x S U G T n nf (mL T n) R) H) (hD : va_D A (LW k a tr o fa ba x S U G T n nf (mL T n) R)) (hS : va_S A s.heap H locs) (K : ∀ (N f q1 q2 q3 q4 q5 : Nat) (U2 : HS) (_ : 1 ≤ N) (_ : N ≤ 9) (_ : f < nf) (ls : Array Slot) (H : Heap) (locs : List Loc), lv_has ls 28 [(0, .ref b), (1, .ref x), (2, .ref (o 0)), (3, .int (nI t)), (4, .int xv), (5, .long (xDig S n nf)), (7, .int (nI n)), (8, .ref y8), (9, .ref y9), (10, .ref y10), (11, .int (nI (mFil G 1 n))), (14, .int (nI N)), (15, .int (nI f)), (16, .int (nI (mBeh G T f N n))), (17, .ref q1), (18, .ref q2), (19, .ref q3), (20, .ref q4), (21, .ref q5), (22, .int (nI (mFil G 2 n)))] → va_P D vwCl (LW k a tr o fa ba x S U2 G T n nf (mL T n) (R ++ [(q1, .inl (k 0, n, .inl (hd_ (mUnA G T) n))), (q2, .inl (k 0, n, .inl (hd_ (T 1) n))), (q3, .inl (k 0, n, .inl (hd_ (T 3) n))), (q4, .inl (k 0, n, .inl (hd_ (T 4) n))), (q5, .inl (k 1, n, .inl (hd_ (opG G) n)))])) H → va_D A (LW k a tr o fa ba x S U2 G T n nf (mL T n) (R ++ [(q1, .inl (k 0, n, .inl (hd_ (mUnA G T) n))), (q2, .inl (k 0, n, .inl (hd_ (T 1) n))), (q3, .inl (k 0, n, .inl (hd_ (T 3) n))), (q4, .inl (k 0, n, .inl (hd_ (T 4) n))), (q5, .inl (k 1, n, .inl (hd_ (opG G) n)))])) → va_S A s.heap H locs → W p l e room_1 s m args below meth c H locs (cc + 5) (ss + 200) Q (F0 m 808 ls [])) : W p l e room_1 s m args below meth c H locs cc ss Q (F0 m 602 ls []) := by
  have hx := hC.1
  have hb := hC.2.1
  have hown : s.vm.findClass RL = some m.cls := hC.2.2.2.1
  have hts := hC.2.2.2.2
  have hn := hra.n40
  have hnf := hra.nf6
  have hLn : mL T n ≤ n := ct_le _ n
  refine lv_iconst (v := 1) hx hb dL_law_602 (by decide) ?_
  refine lv_iload hx hb dL_law_603 (lv_at hl 4 rfl) ?_
  refine lv_iconst (v := 4) hx hb dL_law_605 (by decide) ?_
  refine lv_ishr hx hb dL_law_606 ?_
  refine lv_bipush (v := 9) hx hb dL_law_607 (by decide) ?_
  refine c_pSi (rest := [.int 1]) hC hE hP (metL_below l (xv >>> (4 &&& 31)) 9 (by decide) (by decide)) gc_RL_15 hd_L_below ⟨rfl, rfl⟩ ⟨Nat.le_of_ble_eq_true rfl, Nat.le_of_ble_eq_true rfl⟩ rfl hl.1 (Nat.le_of_ble_eq_true rfl) ⟨(by show cc ≤ 600130; omega), (by show ss ≤ 7301080; omega)⟩ dL_law_609 ?_
  obtain ⟨j1, hj1, ej1⟩ := bel_of (N := 9) (xv >>> (4 &&& 31)) (by decide) (by decide)
  refine w_top ej1 ?_
  refine lv_iadd hx hb dL_law_612 ?_
  refine w_top (show 1 + (nI j1) = nI (1 + j1) from (nI_add 1 j1)) ?_
  refine lv_istore (lv' := [(14, .int (nI (1 + j1))), (0, .ref b), (1, .ref x), (2, .ref (o 0)), (3, .int (nI t)), (4, .int xv), (5, .long (xDig S n nf)), (7, .int (nI n)), (8, .ref y8), (9, .ref y9), (10, .ref y10), (11, .int (nI (mFil G 1 n)))]) hx hb dL_law_613 hl (by decide) rfl (fun ls hl => ?_)
  refine lv_iload hx hb dL_law_615 (lv_at hl 5 rfl) ?_
  refine lv_bipush (v := 6) hx hb dL_law_617 (by decide) ?_
  refine lv_ishr hx hb dL_law_619 ?_
  refine lv_aload_n hx hb dL_law_620 rfl (lv_at hl 2 rfl) ?_
  refine c_pVi (rest := [.int (xv >>> (6 &&& 31))]) hC hE hP (lx_flights l S ) gc_RL_163 hd_X4_flights ⟨rfl, rfl⟩ ⟨Nat.le_of_ble_eq_true rfl, Nat.le_of_ble_eq_true rfl⟩ 29 lw_29 rfl rfl hl.1 (Nat.le_of_ble_eq_true rfl) ⟨(by show cc ≤ 600130; omega), (by show ss ≤ 7301080; omega)⟩ dL_law_621 ?_
  refine w_top (show S 0 3 = nI nf from hra.sf_) ?_
  refine c_pSi (rest := []) hC hE hP (metL_below l (xv >>> (6 &&& 31)) nf (by omega) (by omega)) gc_RL_15 hd_L_below ⟨rfl, rfl⟩ ⟨Nat.le_of_ble_eq_true rfl, Nat.le_of_ble_eq_true rfl⟩ rfl hl.1 (Nat.le_of_ble_eq_true rfl) ⟨(by show cc ≤ 600130; omega), (by show ss ≤ 7301080; omega)⟩ dL_law_624 ?_
  obtain ⟨j2, hj2, ej2⟩ := bel_of (N := nf) (xv >>> (6 &&& 31)) (by omega) (by omega)
  refine w_top ej2 ?_
  refine lv_istore (lv' := [(15, .int (nI j2)), (14, .int (nI (1 + j1))), (0, .ref b), (1, .ref x), (2, .ref (o 0)), (3, .int (nI t)), (4, .int xv), (5, .long (xDig S n nf)), (7, .int (nI n)), (8, .ref y8), (9, .ref y9), (10, .ref y10), (11, .int (nI (mFil G 1 n)))]) hx hb dL_law_627 hl (by decide) rfl (fun ls hl => ?_)
  refine lv_aload_n hx hb dL_law_629 rfl (lv_at hl 3 rfl) ?_
  refine lv_iload hx hb dL_law_630 (lv_at hl 0 rfl) ?_
  refine lv_iload hx hb dL_law_632 (lv_at hl 1 rfl) ?_
  refine c_mVi (rest := []) hC hE hP hD hS (ws' := (LW k a tr o fa ba x S (xGo (xChg S (nI j2) (rd 6 (S 1) (nI j2))) (1 + j1)).2 G T n nf (mL T n) R)) lw_same (lx_readyAfter l S U (nI j2) (1 + j1) n hra.sn hn (by omega) (xflt_n hra hj2) ⟨ge1 (by omega) (by omega), le60 (by omega)⟩) gc_RL_171 hd_X4_readyAfter ⟨rfl, rfl⟩ ⟨Nat.le_of_ble_eq_true rfl, Nat.le_of_ble_eq_true rfl⟩ 29 lw_29 rfl rfl hl.1 (Nat.le_of_ble_eq_true rfl) ⟨(by show cc ≤ 600130; omega), (by show ss ≤ 7301080; omega)⟩ dL_law_634 (fun H locs hP hD hS => ?_)
  refine w_top (show nI (xBeh S (nI j2) (rd 6 (S 1) (nI j2)) (1 + j1) n) = nI (mBeh G T j2 (1 + j1) n) from congrArg nI (beh_self hra hrb hj2)) ?_
  obtain ⟨U2, hU2⟩ : ∃ z, z = (xGo (xChg S (nI j2) (rd 6 (S 1) (nI j2))) (1 + j1)).2 := ⟨_, rfl⟩
  rw [← hU2] at hP hD
  have hP : va_P D vwCl (LW k a tr o fa ba x S U2 G T n nf (mL T n) R) H := hP
  have hD : va_D A (LW k a tr o fa ba x S U2 G T n nf (mL T n) R) := hD
  refine lv_istore (lv' := [(16, .int (nI (mBeh G T j2 (1 + j1) n))), (15, .int (nI j2)), (14, .int (nI (1 + j1))), (0, .ref b), (1, .ref x), (2, .ref (o 0)), (3, .int (nI t)), (4, .int xv), (5, .long (xDig S n nf)), (7, .int (nI n)), (8, .ref y8), (9, .ref y9), (10, .ref y10), (11, .int (nI (mFil G 1 n)))]) hx hb dL_law_637 hl (by decide) rfl (fun ls hl => ?_)
  refine lv_iload hx hb dL_law_639 (lv_at hl 9 rfl) ?_
  refine i_newai (N := n) hx hb (hts _ tw_49) hE hP hD hS hA (nI_pos (by omega)) (nI_clamp (by omega)) (by show n * 4 ≤ 536870912; omega) (by show cc + 1 ≤ 600130; omega) (by show ss + n ≤ 7301080; omega) dL_law_641 (fun q1 H hP hD hS => ?_)
  rw [lw_more] at hP hD
  have hP : va_P D vwCl (LW k a tr o fa ba x S U2 G T n nf (mL T n) (R ++ [(q1, .inl (k 0, n, .inl (fun _ => 0)))])) H := hP
  have hD : va_D A (LW k a tr o fa ba x S U2 G T n nf (mL T n) (R ++ [(q1, .inl (k 0, n, .inl (fun _ => 0)))])) := hD
  refine lv_astore (lv' := [(17, .ref q1), (16, .int (nI (mBeh G T j2 (1 + j1) n))), (15, .int (nI j2)), (14, .int (nI (1 + j1))), (0, .ref b), (1, .ref x), (2, .ref (o 0)), (3, .int (nI t)), (4, .int xv), (5, .long (xDig S n nf)), (7, .int (nI n)), (8, .ref y8), (9, .ref y9), (10, .ref y10), (11, .int (nI (mFil G 1 n)))]) hx hb dL_law_643 hl (by decide) rfl (fun ls hl => ?_)
  refine lv_iload hx hb dL_law_645 (lv_at hl 10 rfl) ?_
  refine i_newai (N := n) hx hb (hts _ tw_49) hE hP hD hS hA (nI_pos (by omega)) (nI_clamp (by omega)) (by show n * 4 ≤ 536870912; omega) (by show cc + 1 + 1 ≤ 600130; omega) (by show ss + n + n ≤ 7301080; omega) dL_law_647 (fun q2 H hP hD hS => ?_)
  rw [lw_more, List.append_assoc] at hP hD
  have hP : va_P D vwCl (LW k a tr o fa ba x S U2 G T n nf (mL T n) (R ++ [(q1, .inl (k 0, n, .inl (fun _ => 0))), (q2, .inl (k 0, n, .inl (fun _ => 0)))])) H := hP
  have hD : va_D A (LW k a tr o fa ba x S U2 G T n nf (mL T n) (R ++ [(q1, .inl (k 0, n, .inl (fun _ => 0))), (q2, .inl (k 0, n, .inl (fun _ => 0)))])) := hD
  refine lv_astore (lv' := [(18, .ref q2), (17, .ref q1), (16, .int (nI (mBeh G T j2 (1 + j1) n))), (15, .int (nI j2)), (14, .int (nI (1 + j1))), (0, .ref b), (1, .ref x), (2, .ref (o 0)), (3, .int (nI t)), (4, .int xv), (5, .long (xDig S n nf)), (7, .int (nI n)), (8, .ref y8), (9, .ref y9), (10, .ref y10), (11, .int (nI (mFil G 1 n)))]) hx hb dL_law_649 hl (by decide) rfl (fun ls hl => ?_)
  refine lv_iload hx hb dL_law_651 (lv_at hl 11 rfl) ?_
  refine i_newai (N := n) hx hb (hts _ tw_49) hE hP hD hS hA (nI_pos (by omega)) (nI_clamp (by omega)) (by show n * 4 ≤ 536870912; omega) (by show cc + 1 + 1 + 1 ≤ 600130; omega) (by show ss + n + n + n ≤ 7301080; omega) dL_law_653 (fun q3 H hP hD hS => ?_)
  rw [lw_more, List.append_assoc] at hP hD
  have hP : va_P D vwCl (LW k a tr o fa ba x S U2 G T n nf (mL T n) (R ++ [(q1, .inl (k 0, n, .inl (fun _ => 0))), (q2, .inl (k 0, n, .inl (fun _ => 0))), (q3, .inl (k 0, n, .inl (fun _ => 0)))])) H := hP
  have hD : va_D A (LW k a tr o fa ba x S U2 G T n nf (mL T n) (R ++ [(q1, .inl (k 0, n, .inl (fun _ => 0))), (q2, .inl (k 0, n, .inl (fun _ => 0))), (q3, .inl (k 0, n, .inl (fun _ => 0)))])) := hD
  refine lv_astore (lv' := [(19, .ref q3), (18, .ref q2), (17, .ref q1), (16, .int (nI (mBeh G T j2 (1 + j1) n))), (15, .int (nI j2)), (14, .int (nI (1 + j1))), (0, .ref b), (1, .ref x), (2, .ref (o 0)), (3, .int (nI t)), (4, .int xv), (5, .long (xDig S n nf)), (7, .int (nI n)), (8, .ref y8), (9, .ref y9), (10, .ref y10), (11, .int (nI (mFil G 1 n)))]) hx hb dL_law_655 hl (by decide) rfl (fun ls hl => ?_)
  refine lv_iload hx hb dL_law_657 (lv_at hl 12 rfl) ?_
  refine i_newai (N := n) hx hb (hts _ tw_49) hE hP hD hS hA (nI_pos (by omega)) (nI_clamp (by omega)) (by show n * 4 ≤ 536870912; omega) (by show cc + 1 + 1 + 1 + 1 ≤ 600130; omega) (by show ss + n + n + n + n ≤ 7301080; omega) dL_law_659 (fun q4 H hP hD hS => ?_)
  rw [lw_more, List.append_assoc] at hP hD
  have hP : va_P D vwCl (LW k a tr o fa ba x S U2 G T n nf (mL T n) (R ++ [(q1, .inl (k 0, n, .inl (fun _ => 0))), (q2, .inl (k 0, n, .inl (fun _ => 0))), (q3, .inl (k 0, n, .inl (fun _ => 0))), (q4, .inl (k 0, n, .inl (fun _ => 0)))])) H := hP
  have hD : va_D A (LW k a tr o fa ba x S U2 G T n nf (mL T n) (R ++ [(q1, .inl (k 0, n, .inl (fun _ => 0))), (q2, .inl (k 0, n, .inl (fun _ => 0))), (q3, .inl (k 0, n, .inl (fun _ => 0))), (q4, .inl (k 0, n, .inl (fun _ => 0)))])) := hD
  refine lv_astore (lv' := [(20, .ref q4), (19, .ref q3), (18, .ref q2), (17, .ref q1), (16, .int (nI (mBeh G T j2 (1 + j1) n))), (15, .int (nI j2)), (14, .int (nI (1 + j1))), (0, .ref b), (1, .ref x), (2, .ref (o 0)), (3, .int (nI t)), (4, .int xv), (5, .long (xDig S n nf)), (7, .int (nI n)), (8, .ref y8), (9, .ref y9), (10, .ref y10), (11, .int (nI (mFil G 1 n)))]) hx hb dL_law_661 hl (by decide) rfl (fun ls hl => ?_)
  refine lv_iload hx hb dL_law_663 (lv_at hl 13 rfl) ?_
  refine i_newaz (N := n) hx hb (hts _ tw_756) hE hP hD hS hA (nI_pos (by omega)) (nI_clamp (by omega)) (by show n * 1 ≤ 536870912; omega) (by show cc + 1 + 1 + 1 + 1 + 1 ≤ 600130; omega) (by show ss + n + n + n + n + n ≤ 7301080; omega) dL_law_665 (fun q5 H hP hD hS => ?_)
  rw [lw_more, List.append_assoc] at hP hD
  have hP : va_P D vwCl (LW k a tr o fa ba x S U2 G T n nf (mL T n) (R ++ [(q1, .inl (k 0, n, .inl (fun _ => 0))), (q2, .inl (k 0, n, .inl (fun _ => 0))), (q3, .inl (k 0, n, .inl (fun _ => 0))), (q4, .inl (k 0, n, .inl (fun _ => 0))), (q5, .inl (k 1, n, .inl (fun _ => 0)))])) H := hP
  have hD : va_D A (LW k a tr o fa ba x S U2 G T n nf (mL T n) (R ++ [(q1, .inl (k 0, n, .inl (fun _ => 0))), (q2, .inl (k 0, n, .inl (fun _ => 0))), (q3, .inl (k 0, n, .inl (fun _ => 0))), (q4, .inl (k 0, n, .inl (fun _ => 0))), (q5, .inl (k 1, n, .inl (fun _ => 0)))])) := hD
  refine lv_astore (lv' := [(21, .ref q5), (20, .ref q4), (19, .ref q3), (18, .ref q2), (17, .ref q1), (16, .int (nI (mBeh G T j2 (1 + j1) n))), (15, .int (nI j2)), (14, .int (nI (1 + j1))), (0, .ref b), (1, .ref x), (2, .ref (o 0)), (3, .int (nI t)), (4, .int xv), (5, .long (xDig S n nf)), (7, .int (nI n)), (8, .ref y8), (9, .ref y9), (10, .ref y10), (11, .int (nI (mFil G 1 n)))]) hx hb dL_law_667 hl (by decide) rfl (fun ls hl => ?_)
  refine lv_iconst (v := 0) hx hb dL_law_669 (by decide) ?_
  refine lv_istore (lv' := [(22, .int 0), (21, .ref q5), (20, .ref q4), (19, .ref q3), (18, .ref q2), (17, .ref q1), (16, .int (nI (mBeh G T j2 (1 + j1) n))), (15, .int (nI j2)), (14, .int (nI (1 + j1))), (0, .ref b), (1, .ref x), (2, .ref (o 0)), (3, .int (nI t)), (4, .int xv), (5, .long (xDig S n nf)), (7, .int (nI n)), (8, .ref y8), (9, .ref y9), (10, .ref y10), (11, .int (nI (mFil G 1 n)))]) hx hb dL_law_670 hl (by decide) rfl (fun ls hl => ?_)
  have hP : va_P D vwCl (LW k a tr o fa ba x S (uF S U2 0) G T n nf (mL T n) (R ++ [(q1, .inl (k 0, n, .inl (hd_ (mUnA G T) 0))), (q2, .inl (k 0, n, .inl (hd_ (T 1) 0))), (q3, .inl (k 0, n, .inl (hd_ (T 3) 0))), (q4, .inl (k 0, n, .inl (hd_ (T 4) 0))), (q5, .inl (k 1, n, .inl (hd_ (opG G) 0)))])) H := by rw [hd_0 (mUnA G T), hd_0 (T 1), hd_0 (T 3), hd_0 (T 4), hd_0 (opG G)]; exact hP
  have hD : va_D A (LW k a tr o fa ba x S (uF S U2 0) G T n nf (mL T n) (R ++ [(q1, .inl (k 0, n, .inl (hd_ (mUnA G T) 0))), (q2, .inl (k 0, n, .inl (hd_ (T 1) 0))), (q3, .inl (k 0, n, .inl (hd_ (T 3) 0))), (q4, .inl (k 0, n, .inl (hd_ (T 4) 0))), (q5, .inl (k 1, n, .inl (hd_ (opG G) 0)))])) := by rw [hd_0 (mUnA G T), hd_0 (T 1), hd_0 (T 3), hd_0 (T 4), hd_0 (opG G)]; exact hD
  refine w_forM (D := D) (A := A) (H0 := s.heap) (nL := 28) (N := n) (fun _ => True) (fun i => [(0, .ref b), (1, .ref x), (2, .ref (o 0)), (3, .int (nI t)), (4, .int xv), (5, .long (xDig S n nf)), (7, .int (nI n)), (8, .ref y8), (9, .ref y9), (10, .ref y10), (11, .int (nI (mFil G 1 n))), (14, .int (nI (1 + j1))), (15, .int (nI j2)), (16, .int (nI (mBeh G T j2 (1 + j1) n))), (17, .ref q1), (18, .ref q2), (19, .ref q3), (20, .ref q4), (21, .ref q5), (22, .int (nI i))]) (fun i => (LW k a tr o fa ba x S (uF S U2 i) G T n nf (mL T n) (R ++ [(q1, .inl (k 0, n, .inl (hd_ (mUnA G T) i))), (q2, .inl (k 0, n, .inl (hd_ (T 1) i))), (q3, .inl (k 0, n, .inl (hd_ (T 3) i))), (q4, .inl (k 0, n, .inl (hd_ (T 4) i))), (q5, .inl (k 1, n, .inl (hd_ (opG G) i)))]))) (fun ls H locs hI hl hP hD hS => ?_) (fun i hi hI ih ls H locs hl hP hD hS => ?_) 0 (Nat.zero_le _) trivial ?_ ?_ ?_ ?_
  · have hl : lv_has ls 28 [(0, .ref b), (1, .ref x), (2, .ref (o 0)), (3, .int (nI t)), (4, .int xv), (5, .long (xDig S n nf)), (7, .int (nI n)), (8, .ref y8), (9, .ref y9), (10, .ref y10), (11, .int (nI (mFil G 1 n))), (14, .int (nI (1 + j1))), (15, .int (nI j2)), (16, .int (nI (mBeh G T j2 (1 + j1) n))), (17, .ref q1), (18, .ref q2), (19, .ref q3), (20, .ref q4), (21, .ref q5), (22, .int (nI n))] := hl
    have hP : va_P D vwCl (LW k a tr o fa ba x S (uF S U2 n) G T n nf (mL T n) (R ++ [(q1, .inl (k 0, n, .inl (hd_ (mUnA G T) n))), (q2, .inl (k 0, n, .inl (hd_ (T 1) n))), (q3, .inl (k 0, n, .inl (hd_ (T 3) n))), (q4, .inl (k 0, n, .inl (hd_ (T 4) n))), (q5, .inl (k 1, n, .inl (hd_ (opG G) n)))])) H := hP
    have hD : va_D A (LW k a tr o fa ba x S (uF S U2 n) G T n nf (mL T n) (R ++ [(q1, .inl (k 0, n, .inl (hd_ (mUnA G T) n))), (q2, .inl (k 0, n, .inl (hd_ (T 1) n))), (q3, .inl (k 0, n, .inl (hd_ (T 3) n))), (q4, .inl (k 0, n, .inl (hd_ (T 4) n))), (q5, .inl (k 1, n, .inl (hd_ (opG G) n)))])) := hD
    refine lv_iload hx hb dL_law_672 (lv_at hl 19 rfl) ?_
    refine lv_iload hx hb dL_law_674 (lv_at hl 6 rfl) ?_
    refine lv_icmp_ge (tgt := 790) hx hb dL_law_676 (by decide) (fun c_1 => ?_) (fun c_ => absurd (nI_le (Nat.le_refl n) (Nat.lt_of_le_of_lt hn (by decide))) c_)
    refine lv_aload_n hx hb dL_law_790 rfl (lv_at hl 1 rfl) ?_
    refine c_pVi (rest := []) hC hE hP (lx_closedFiles l S ) gc_RL_154 hd_X4_closedFiles ⟨rfl, rfl⟩ ⟨Nat.le_of_ble_eq_true rfl, Nat.le_of_ble_eq_true rfl⟩ 29 lw_29 rfl rfl hl.1 (Nat.le_of_ble_eq_true rfl) ⟨(by show cc + 1 + 1 + 1 + 1 + 1 ≤ 600130; omega), (by show ss + n + n + n + n + n ≤ 7301080; omega)⟩ dL_law_791 ?_
    refine w_top (show nI (ct (fun j_ => S 10 j_ = 2) 40) = nI (mFil G 2 n) from congrArg nI (file_ct hra (by decide))) ?_
    refine lv_istore (lv' := [(22, .int (nI (mFil G 2 n))), (0, .ref b), (1, .ref x), (2, .ref (o 0)), (3, .int (nI t)), (4, .int xv), (5, .long (xDig S n nf)), (7, .int (nI n)), (8, .ref y8), (9, .ref y9), (10, .ref y10), (11, .int (nI (mFil G 1 n))), (14, .int (nI (1 + j1))), (15, .int (nI j2)), (16, .int (nI (mBeh G T j2 (1 + j1) n))), (17, .ref q1), (18, .ref q2), (19, .ref q3), (20, .ref q4), (21, .ref q5)]) hx hb dL_law_794 hl (by decide) rfl (fun ls hl => ?_)
    refine lv_aload_n hx hb dL_law_796 rfl (lv_at hl 2 rfl) ?_
    refine c_pVl (rest := []) hC hE hP (lx_digest l S n hra.sn hn nf hra.sf_ hnf) gc_RL_108 hd_X4_digest ⟨rfl, rfl⟩ ⟨Nat.le_of_ble_eq_true rfl, Nat.le_of_ble_eq_true rfl⟩ 29 lw_29 rfl rfl hl.1 (Nat.le_of_ble_eq_true rfl) ⟨(by show cc + 1 + 1 + 1 + 1 + 1 ≤ 600130; omega), (by show ss + n + n + n + n + n ≤ 7301080; omega)⟩ dL_law_797 ?_
    refine lv_lload hx hb dL_law_800 (lv_at hl 6 rfl) ?_
    refine W.lcmp hx hb dL_law_802 ?_
    refine w_top (lg_self rfl) ?_
    refine lv_if_eq (tgt := 808) hx hb dL_law_803 (by decide) (fun c_2 => ?_) (fun c_ => absurd rfl c_)
    refine W.widen (k := cc + 5) (n := ss + 200) (by omega) (by omega) ?_
    exact K (1 + j1) j2 q1 q2 q3 q4 q5 (uF S U2 n) (by omega) (by omega) hj2 ls H locs (lv_sub hl [1, 2, 3, 4, 5, 6, 7, 8, 9, 10, 11, 12, 13, 14, 15, 16, 17, 18, 19, 0] rfl) hP hD hS
  · have hl : lv_has ls 28 [(0, .ref b), (1, .ref x), (2, .ref (o 0)), (3, .int (nI t)), (4, .int xv), (5, .long (xDig S n nf)), (7, .int (nI n)), (8, .ref y8), (9, .ref y9), (10, .ref y10), (11, .int (nI (mFil G 1 n))), (14, .int (nI (1 + j1))), (15, .int (nI j2)), (16, .int (nI (mBeh G T j2 (1 + j1) n))), (17, .ref q1), (18, .ref q2), (19, .ref q3), (20, .ref q4), (21, .ref q5), (22, .int (nI i))] := hl
    have hP : va_P D vwCl (LW k a tr o fa ba x S (uF S U2 i) G T n nf (mL T n) (R ++ [(q1, .inl (k 0, n, .inl (hd_ (mUnA G T) i))), (q2, .inl (k 0, n, .inl (hd_ (T 1) i))), (q3, .inl (k 0, n, .inl (hd_ (T 3) i))), (q4, .inl (k 0, n, .inl (hd_ (T 4) i))), (q5, .inl (k 1, n, .inl (hd_ (opG G) i)))])) H := hP
    have hD : va_D A (LW k a tr o fa ba x S (uF S U2 i) G T n nf (mL T n) (R ++ [(q1, .inl (k 0, n, .inl (hd_ (mUnA G T) i))), (q2, .inl (k 0, n, .inl (hd_ (T 1) i))), (q3, .inl (k 0, n, .inl (hd_ (T 3) i))), (q4, .inl (k 0, n, .inl (hd_ (T 4) i))), (q5, .inl (k 1, n, .inl (hd_ (opG G) i)))])) := hD
    refine lv_iload hx hb dL_law_672 (lv_at hl 19 rfl) ?_
    refine lv_iload hx hb dL_law_674 (lv_at hl 6 rfl) ?_
    refine lv_icmp_ge (tgt := 790) hx hb dL_law_676 (by decide) (fun c_ => absurd c_ (nI_ge hi (Nat.lt_of_le_of_lt hn (by decide)))) (fun c_3 => ?_)
    by_cases z2 : T 1 i = 2
    · refine lv_aload hx hb dL_law_679 (lv_at hl 14 rfl) ?_
      refine lv_iload hx hb dL_law_681 (lv_at hl 19 rfl) ?_
      refine lv_aload_n hx hb dL_law_683 rfl (lv_at hl 1 rfl) ?_
      refine lv_iload hx hb dL_law_684 (lv_at hl 19 rfl) ?_
      obtain ⟨R9, hR9⟩ : ∃ R9 : va_W, R9 = R ++ [(q1, .inl (k 0, n, .inl (hd_ (mUnA G T) i))), (q2, .inl (k 0, n, .inl (hd_ (T 1) i))), (q3, .inl (k 0, n, .inl (hd_ (T 3) i))), (q4, .inl (k 0, n, .inl (hd_ (T 4) i))), (q5, .inl (k 1, n, .inl (hd_ (opG G) i)))] := ⟨_, rfl⟩
      rw [← hR9] at hP hD
      refine c_mVi (rest := [.int (nI i), .ref q1]) hC hE hP hD hS (ws' := (LW k a tr o fa ba x S (xUn S (xUnN S (nI i))) G T n nf (mL T n) R9)) lw_same (lx_minutesUntilChute l S (uF S U2 i) (nI i) (xbag_n hra hi)) gc_RL_174 hd_X4_minutesUntilChute ⟨rfl, rfl⟩ ⟨Nat.le_of_ble_eq_true rfl, Nat.le_of_ble_eq_true rfl⟩ 29 lw_29 rfl rfl hl.1 (Nat.le_of_ble_eq_true rfl) ⟨(by show cc + 1 + 1 + 1 + 1 + 1 ≤ 600130; omega), (by show ss + n + n + n + n + n ≤ 7301080; omega)⟩ dL_law_686 (fun H locs hP hD hS => ?_)
      rw [hR9] at hP hD
      refine w_top (show xUnA S (nI i) = mUnA G T i from un_eq hra hrb hi) ?_
      have hP : va_P D vwCl (LW k a tr o fa ba x S (uF S U2 (i + 1)) G T n nf (mL T n) (R ++ [(q1, .inl (k 0, n, .inl (hd_ (mUnA G T) i))), (q2, .inl (k 0, n, .inl (hd_ (T 1) i))), (q3, .inl (k 0, n, .inl (hd_ (T 3) i))), (q4, .inl (k 0, n, .inl (hd_ (T 4) i))), (q5, .inl (k 1, n, .inl (hd_ (opG G) i)))])) H := hP
      have hD : va_D A (LW k a tr o fa ba x S (uF S U2 (i + 1)) G T n nf (mL T n) (R ++ [(q1, .inl (k 0, n, .inl (hd_ (mUnA G T) i))), (q2, .inl (k 0, n, .inl (hd_ (T 1) i))), (q3, .inl (k 0, n, .inl (hd_ (T 3) i))), (q4, .inl (k 0, n, .inl (hd_ (T 4) i))), (q5, .inl (k 1, n, .inl (hd_ (opG G) i)))])) := hD
      refine k_iast (j := i) hx hb hE hP hD hS (64 + nf + n + (R.length + 0)) ((lw_Ri (i := 0)).trans rfl) hi (Nat.lt_of_le_of_lt hn (by decide)) dL_law_689 (fun H locs hP hD hS => ?_)
      rw [lw_Riset (i := 0)] at hP hD
      rw [← hd_s (mUnA G T) i] at hP hD
      have hP : va_P D vwCl (LW k a tr o fa ba x S (uF S U2 (i + 1)) G T n nf (mL T n) (R ++ [(q1, .inl (k 0, n, .inl (hd_ (mUnA G T) (i + 1)))), (q2, .inl (k 0, n, .inl (hd_ (T 1) i))), (q3, .inl (k 0, n, .inl (hd_ (T 3) i))), (q4, .inl (k 0, n, .inl (hd_ (T 4) i))), (q5, .inl (k 1, n, .inl (hd_ (opG G) i)))])) H := hP
      have hD : va_D A (LW k a tr o fa ba x S (uF S U2 (i + 1)) G T n nf (mL T n) (R ++ [(q1, .inl (k 0, n, .inl (hd_ (mUnA G T) (i + 1)))), (q2, .inl (k 0, n, .inl (hd_ (T 1) i))), (q3, .inl (k 0, n, .inl (hd_ (T 3) i))), (q4, .inl (k 0, n, .inl (hd_ (T 4) i))), (q5, .inl (k 1, n, .inl (hd_ (opG G) i)))])) := hD
      refine lv_aload hx hb dL_law_690 (lv_at hl 15 rfl) ?_
      refine lv_iload hx hb dL_law_692 (lv_at hl 19 rfl) ?_
      refine lv_aload_n hx hb dL_law_694 rfl (lv_at hl 1 rfl) ?_
      refine lv_iload hx hb dL_law_695 (lv_at hl 19 rfl) ?_
      refine c_pVi (rest := [.int (nI i), .ref q2]) hC hE hP (lx_whereIs l S (nI i) (xbag_n hra hi)) gc_RL_114 hd_X4_whereIs ⟨rfl, rfl⟩ ⟨Nat.le_of_ble_eq_true rfl, Nat.le_of_ble_eq_true rfl⟩ 29 lw_29 rfl rfl hl.1 (Nat.le_of_ble_eq_true rfl) ⟨(by show cc + 1 + 1 + 1 + 1 + 1 ≤ 600130; omega), (by show ss + n + n + n + n + n ≤ 7301080; omega)⟩ dL_law_697 ?_
      refine w_top (show rd 40 (S 6) (nI i) = T 1 i from (rd_40 (Nat.lt_of_lt_of_le hi hn)).trans (hrb.whr i hi)) ?_
      refine k_iast (j := i) hx hb hE hP hD hS (64 + nf + n + (R.length + 1)) ((lw_Ri (i := 1)).trans rfl) hi (Nat.lt_of_le_of_lt hn (by decide)) dL_law_700 (fun H locs hP hD hS => ?_)
      rw [lw_Riset (i := 1)] at hP hD
      rw [← hd_s (T 1) i] at hP hD
      have hP : va_P D vwCl (LW k a tr o fa ba x S (uF S U2 (i + 1)) G T n nf (mL T n) (R ++ [(q1, .inl (k 0, n, .inl (hd_ (mUnA G T) (i + 1)))), (q2, .inl (k 0, n, .inl (hd_ (T 1) (i + 1)))), (q3, .inl (k 0, n, .inl (hd_ (T 3) i))), (q4, .inl (k 0, n, .inl (hd_ (T 4) i))), (q5, .inl (k 1, n, .inl (hd_ (opG G) i)))])) H := hP
      have hD : va_D A (LW k a tr o fa ba x S (uF S U2 (i + 1)) G T n nf (mL T n) (R ++ [(q1, .inl (k 0, n, .inl (hd_ (mUnA G T) (i + 1)))), (q2, .inl (k 0, n, .inl (hd_ (T 1) (i + 1)))), (q3, .inl (k 0, n, .inl (hd_ (T 3) i))), (q4, .inl (k 0, n, .inl (hd_ (T 4) i))), (q5, .inl (k 1, n, .inl (hd_ (opG G) i)))])) := hD
      refine lv_aload hx hb dL_law_701 (lv_at hl 16 rfl) ?_
      refine lv_iload hx hb dL_law_703 (lv_at hl 19 rfl) ?_
      refine lv_aload_n hx hb dL_law_705 rfl (lv_at hl 1 rfl) ?_
      refine lv_iload hx hb dL_law_706 (lv_at hl 19 rfl) ?_
      refine c_pVi (rest := [.int (nI i), .ref q3]) hC hE hP (lx_readFor l S (nI i) (xbag_n hra hi)) gc_RL_129 hd_X4_readFor ⟨rfl, rfl⟩ ⟨Nat.le_of_ble_eq_true rfl, Nat.le_of_ble_eq_true rfl⟩ 29 lw_29 rfl rfl hl.1 (Nat.le_of_ble_eq_true rfl) ⟨(by show cc + 1 + 1 + 1 + 1 + 1 ≤ 600130; omega), (by show ss + n + n + n + n + n ≤ 7301080; omega)⟩ dL_law_708 ?_
      refine w_top (show rd 40 (S 8) (nI i) = T 3 i from (rd_40 (Nat.lt_of_lt_of_le hi hn)).trans (hrb.rdd i hi)) ?_
      refine k_iast (j := i) hx hb hE hP hD hS (64 + nf + n + (R.length + 2)) ((lw_Ri (i := 2)).trans rfl) hi (Nat.lt_of_le_of_lt hn (by decide)) dL_law_711 (fun H locs hP hD hS => ?_)
      rw [lw_Riset (i := 2)] at hP hD
      rw [← hd_s (T 3) i] at hP hD
      have hP : va_P D vwCl (LW k a tr o fa ba x S (uF S U2 (i + 1)) G T n nf (mL T n) (R ++ [(q1, .inl (k 0, n, .inl (hd_ (mUnA G T) (i + 1)))), (q2, .inl (k 0, n, .inl (hd_ (T 1) (i + 1)))), (q3, .inl (k 0, n, .inl (hd_ (T 3) (i + 1)))), (q4, .inl (k 0, n, .inl (hd_ (T 4) i))), (q5, .inl (k 1, n, .inl (hd_ (opG G) i)))])) H := hP
      have hD : va_D A (LW k a tr o fa ba x S (uF S U2 (i + 1)) G T n nf (mL T n) (R ++ [(q1, .inl (k 0, n, .inl (hd_ (mUnA G T) (i + 1)))), (q2, .inl (k 0, n, .inl (hd_ (T 1) (i + 1)))), (q3, .inl (k 0, n, .inl (hd_ (T 3) (i + 1)))), (q4, .inl (k 0, n, .inl (hd_ (T 4) i))), (q5, .inl (k 1, n, .inl (hd_ (opG G) i)))])) := hD
      refine lv_aload hx hb dL_law_712 (lv_at hl 17 rfl) ?_
      refine lv_iload hx hb dL_law_714 (lv_at hl 19 rfl) ?_
      refine lv_aload_n hx hb dL_law_716 rfl (lv_at hl 1 rfl) ?_
      refine lv_iload hx hb dL_law_717 (lv_at hl 19 rfl) ?_
      refine c_pVi (rest := [.int (nI i), .ref q4]) hC hE hP (lx_missesOf l S (nI i) (xbag_n hra hi)) gc_RL_126 hd_X4_missesOf ⟨rfl, rfl⟩ ⟨Nat.le_of_ble_eq_true rfl, Nat.le_of_ble_eq_true rfl⟩ 29 lw_29 rfl rfl hl.1 (Nat.le_of_ble_eq_true rfl) ⟨(by show cc + 1 + 1 + 1 + 1 + 1 ≤ 600130; omega), (by show ss + n + n + n + n + n ≤ 7301080; omega)⟩ dL_law_719 ?_
      refine w_top (show rd 40 (S 9) (nI i) = T 4 i from (rd_40 (Nat.lt_of_lt_of_le hi hn)).trans (hrb.mis i hi)) ?_
      refine k_iast (j := i) hx hb hE hP hD hS (64 + nf + n + (R.length + 3)) ((lw_Ri (i := 3)).trans rfl) hi (Nat.lt_of_le_of_lt hn (by decide)) dL_law_722 (fun H locs hP hD hS => ?_)
      rw [lw_Riset (i := 3)] at hP hD
      rw [← hd_s (T 4) i] at hP hD
      have hP : va_P D vwCl (LW k a tr o fa ba x S (uF S U2 (i + 1)) G T n nf (mL T n) (R ++ [(q1, .inl (k 0, n, .inl (hd_ (mUnA G T) (i + 1)))), (q2, .inl (k 0, n, .inl (hd_ (T 1) (i + 1)))), (q3, .inl (k 0, n, .inl (hd_ (T 3) (i + 1)))), (q4, .inl (k 0, n, .inl (hd_ (T 4) (i + 1)))), (q5, .inl (k 1, n, .inl (hd_ (opG G) i)))])) H := hP
      have hD : va_D A (LW k a tr o fa ba x S (uF S U2 (i + 1)) G T n nf (mL T n) (R ++ [(q1, .inl (k 0, n, .inl (hd_ (mUnA G T) (i + 1)))), (q2, .inl (k 0, n, .inl (hd_ (T 1) (i + 1)))), (q3, .inl (k 0, n, .inl (hd_ (T 3) (i + 1)))), (q4, .inl (k 0, n, .inl (hd_ (T 4) (i + 1)))), (q5, .inl (k 1, n, .inl (hd_ (opG G) i)))])) := hD
      refine lv_aload hx hb dL_law_723 (lv_at hl 18 rfl) ?_
      refine lv_iload hx hb dL_law_725 (lv_at hl 19 rfl) ?_
      refine lv_aload_n hx hb dL_law_727 rfl (lv_at hl 1 rfl) ?_
      refine lv_iload hx hb dL_law_728 (lv_at hl 19 rfl) ?_
      refine c_pVi (rest := [.int (nI i), .ref q5]) hC hE hP (lx_hasOpenFile l S (nI i) (xbag_n hra hi)) gc_RL_133 hd_X4_hasOpenFile ⟨rfl, rfl⟩ ⟨Nat.le_of_ble_eq_true rfl, Nat.le_of_ble_eq_true rfl⟩ 29 lw_29 rfl rfl hl.1 (Nat.le_of_ble_eq_true rfl) ⟨(by show cc + 1 + 1 + 1 + 1 + 1 ≤ 600130; omega), (by show ss + n + n + n + n + n ≤ 7301080; omega)⟩ dL_law_730 ?_
      refine w_top (show bI (rd 40 (S 10) (nI i) = 1) = bI (G 7 i = 1) from bI_cong (by rw [rd_40 (Nat.lt_of_lt_of_le hi hn), hra.fil i hi])) ?_
      refine w_top (show bI (G 7 i = 1) = opG G i from rfl) ?_
      refine k_zast (j := i) hx hb hE hP hD hS (64 + nf + n + (R.length + 4)) ((lw_Ri (i := 4)).trans rfl) hi (Nat.lt_of_le_of_lt hn (by decide)) dL_law_733 (fun H locs hP hD hS => ?_)
      rw [show vp_nar .boolean (opG G i) = opG G i from bI_nar (G 7 i = 1)] at hP hD
      rw [lw_Riset (i := 4)] at hP hD
      rw [← hd_s (opG G) i] at hP hD
      have hP : va_P D vwCl (LW k a tr o fa ba x S (uF S U2 (i + 1)) G T n nf (mL T n) (R ++ [(q1, .inl (k 0, n, .inl (hd_ (mUnA G T) (i + 1)))), (q2, .inl (k 0, n, .inl (hd_ (T 1) (i + 1)))), (q3, .inl (k 0, n, .inl (hd_ (T 3) (i + 1)))), (q4, .inl (k 0, n, .inl (hd_ (T 4) (i + 1)))), (q5, .inl (k 1, n, .inl (hd_ (opG G) (i + 1))))])) H := hP
      have hD : va_D A (LW k a tr o fa ba x S (uF S U2 (i + 1)) G T n nf (mL T n) (R ++ [(q1, .inl (k 0, n, .inl (hd_ (mUnA G T) (i + 1)))), (q2, .inl (k 0, n, .inl (hd_ (T 1) (i + 1)))), (q3, .inl (k 0, n, .inl (hd_ (T 3) (i + 1)))), (q4, .inl (k 0, n, .inl (hd_ (T 4) (i + 1)))), (q5, .inl (k 1, n, .inl (hd_ (opG G) (i + 1))))])) := hD
      refine lv_aload hx hb dL_law_734 (lv_at hl 14 rfl) ?_
      refine lv_iload hx hb dL_law_736 (lv_at hl 19 rfl) ?_
      refine k_iald (j := i) hx hb hE hP (64 + nf + n + (R.length + 0)) ((lw_Ri (i := 0)).trans rfl) hi (Nat.lt_of_le_of_lt hn (by decide)) dL_law_738 ?_
      refine w_top (show (hd_ (mUnA G T) (i + 1)) i = mUnA G T i from hd_at (Nat.lt_succ_self i)) ?_
      refine lv_if_ne (tgt := 746) hx hb dL_law_739 (by decide) (fun c_ => absurd (un_two z2) c_) (fun c_4 => ?_)
      refine lv_iconst (v := 1) hx hb dL_law_742 (by decide) ?_
      refine lv_goto (tgt := 747) hx hb dL_law_743 (by decide) ?_
      refine lv_aload hx hb dL_law_747 (lv_at hl 15 rfl) ?_
      refine lv_iload hx hb dL_law_749 (lv_at hl 19 rfl) ?_
      refine k_iald (j := i) hx hb hE hP (64 + nf + n + (R.length + 1)) ((lw_Ri (i := 1)).trans rfl) hi (Nat.lt_of_le_of_lt hn (by decide)) dL_law_751 ?_
      refine w_top (show (hd_ (T 1) (i + 1)) i = T 1 i from hd_at (Nat.lt_succ_self i)) ?_
      refine lv_iconst (v := 2) hx hb dL_law_752 (by decide) ?_
      refine lv_icmp_ne (tgt := 760) hx hb dL_law_753 (by decide) (fun c_ => absurd z2 c_) (fun c_5 => ?_)
      refine lv_iconst (v := 1) hx hb dL_law_756 (by decide) ?_
      refine lv_goto (tgt := 761) hx hb dL_law_757 (by decide) ?_
      refine lv_icmp_ne (tgt := 782) hx hb dL_law_761 (by decide) (fun c_ => absurd rfl c_) (fun c_6 => ?_)
      refine lv_aload hx hb dL_law_764 (lv_at hl 15 rfl) ?_
      refine lv_iload hx hb dL_law_766 (lv_at hl 19 rfl) ?_
      refine k_iald (j := i) hx hb hE hP (64 + nf + n + (R.length + 1)) ((lw_Ri (i := 1)).trans rfl) hi (Nat.lt_of_le_of_lt hn (by decide)) dL_law_768 ?_
      refine w_top (show (hd_ (T 1) (i + 1)) i = T 1 i from hd_at (Nat.lt_succ_self i)) ?_
      refine lv_iconst (v := 2) hx hb dL_law_769 (by decide) ?_
      refine lv_icmp_le (tgt := 784) hx hb dL_law_770 (by decide) (fun c_7 => ?_) (fun c_ => absurd (by rw [z2]; decide) c_)
      refine lv_iinc (v := nI (i + 1)) (lv' := [(22, .int (nI (i + 1))), (0, .ref b), (1, .ref x), (2, .ref (o 0)), (3, .int (nI t)), (4, .int xv), (5, .long (xDig S n nf)), (7, .int (nI n)), (8, .ref y8), (9, .ref y9), (10, .ref y10), (11, .int (nI (mFil G 1 n))), (14, .int (nI (1 + j1))), (15, .int (nI j2)), (16, .int (nI (mBeh G T j2 (1 + j1) n))), (17, .ref q1), (18, .ref q2), (19, .ref q3), (20, .ref q4), (21, .ref q5)]) hx hb dL_law_784 hl (k := 19) rfl (iinc1 _) (by decide) rfl (fun ls hl => ?_)
      refine lv_goto (tgt := 672) hx hb dL_law_787 (by decide) ?_
      have hP9 : va_P D vwCl (LW k a tr o fa ba x S (uF S U2 (i + 1)) G T n nf (mL T n) (R ++ [(q1, .inl (k 0, n, .inl (hd_ (mUnA G T) (i + 1)))), (q2, .inl (k 0, n, .inl (hd_ (T 1) (i + 1)))), (q3, .inl (k 0, n, .inl (hd_ (T 3) (i + 1)))), (q4, .inl (k 0, n, .inl (hd_ (T 4) (i + 1)))), (q5, .inl (k 1, n, .inl (hd_ (opG G) (i + 1))))])) H := by exact hP
      have hD9 : va_D A (LW k a tr o fa ba x S (uF S U2 (i + 1)) G T n nf (mL T n) (R ++ [(q1, .inl (k 0, n, .inl (hd_ (mUnA G T) (i + 1)))), (q2, .inl (k 0, n, .inl (hd_ (T 1) (i + 1)))), (q3, .inl (k 0, n, .inl (hd_ (T 3) (i + 1)))), (q4, .inl (k 0, n, .inl (hd_ (T 4) (i + 1)))), (q5, .inl (k 1, n, .inl (hd_ (opG G) (i + 1))))])) := by exact hD
      have h99 := ih ls H locs trivial (lv_sub hl [1, 2, 3, 4, 5, 6, 7, 8, 9, 10, 11, 12, 13, 14, 15, 16, 17, 18, 19, 0] rfl)
      exact h99 hP9 hD9 hS
    · by_cases z3 : T 1 i ≤ 2
      · refine lv_aload hx hb dL_law_679 (lv_at hl 14 rfl) ?_
        refine lv_iload hx hb dL_law_681 (lv_at hl 19 rfl) ?_
        refine lv_aload_n hx hb dL_law_683 rfl (lv_at hl 1 rfl) ?_
        refine lv_iload hx hb dL_law_684 (lv_at hl 19 rfl) ?_
        obtain ⟨R9, hR9⟩ : ∃ R9 : va_W, R9 = R ++ [(q1, .inl (k 0, n, .inl (hd_ (mUnA G T) i))), (q2, .inl (k 0, n, .inl (hd_ (T 1) i))), (q3, .inl (k 0, n, .inl (hd_ (T 3) i))), (q4, .inl (k 0, n, .inl (hd_ (T 4) i))), (q5, .inl (k 1, n, .inl (hd_ (opG G) i)))] := ⟨_, rfl⟩
        rw [← hR9] at hP hD
        refine c_mVi (rest := [.int (nI i), .ref q1]) hC hE hP hD hS (ws' := (LW k a tr o fa ba x S (xUn S (xUnN S (nI i))) G T n nf (mL T n) R9)) lw_same (lx_minutesUntilChute l S (uF S U2 i) (nI i) (xbag_n hra hi)) gc_RL_174 hd_X4_minutesUntilChute ⟨rfl, rfl⟩ ⟨Nat.le_of_ble_eq_true rfl, Nat.le_of_ble_eq_true rfl⟩ 29 lw_29 rfl rfl hl.1 (Nat.le_of_ble_eq_true rfl) ⟨(by show cc + 1 + 1 + 1 + 1 + 1 ≤ 600130; omega), (by show ss + n + n + n + n + n ≤ 7301080; omega)⟩ dL_law_686 (fun H locs hP hD hS => ?_)
        rw [hR9] at hP hD
        refine w_top (show xUnA S (nI i) = mUnA G T i from un_eq hra hrb hi) ?_
        have hP : va_P D vwCl (LW k a tr o fa ba x S (uF S U2 (i + 1)) G T n nf (mL T n) (R ++ [(q1, .inl (k 0, n, .inl (hd_ (mUnA G T) i))), (q2, .inl (k 0, n, .inl (hd_ (T 1) i))), (q3, .inl (k 0, n, .inl (hd_ (T 3) i))), (q4, .inl (k 0, n, .inl (hd_ (T 4) i))), (q5, .inl (k 1, n, .inl (hd_ (opG G) i)))])) H := hP
        have hD : va_D A (LW k a tr o fa ba x S (uF S U2 (i + 1)) G T n nf (mL T n) (R ++ [(q1, .inl (k 0, n, .inl (hd_ (mUnA G T) i))), (q2, .inl (k 0, n, .inl (hd_ (T 1) i))), (q3, .inl (k 0, n, .inl (hd_ (T 3) i))), (q4, .inl (k 0, n, .inl (hd_ (T 4) i))), (q5, .inl (k 1, n, .inl (hd_ (opG G) i)))])) := hD
        refine k_iast (j := i) hx hb hE hP hD hS (64 + nf + n + (R.length + 0)) ((lw_Ri (i := 0)).trans rfl) hi (Nat.lt_of_le_of_lt hn (by decide)) dL_law_689 (fun H locs hP hD hS => ?_)
        rw [lw_Riset (i := 0)] at hP hD
        rw [← hd_s (mUnA G T) i] at hP hD
        have hP : va_P D vwCl (LW k a tr o fa ba x S (uF S U2 (i + 1)) G T n nf (mL T n) (R ++ [(q1, .inl (k 0, n, .inl (hd_ (mUnA G T) (i + 1)))), (q2, .inl (k 0, n, .inl (hd_ (T 1) i))), (q3, .inl (k 0, n, .inl (hd_ (T 3) i))), (q4, .inl (k 0, n, .inl (hd_ (T 4) i))), (q5, .inl (k 1, n, .inl (hd_ (opG G) i)))])) H := hP
        have hD : va_D A (LW k a tr o fa ba x S (uF S U2 (i + 1)) G T n nf (mL T n) (R ++ [(q1, .inl (k 0, n, .inl (hd_ (mUnA G T) (i + 1)))), (q2, .inl (k 0, n, .inl (hd_ (T 1) i))), (q3, .inl (k 0, n, .inl (hd_ (T 3) i))), (q4, .inl (k 0, n, .inl (hd_ (T 4) i))), (q5, .inl (k 1, n, .inl (hd_ (opG G) i)))])) := hD
        refine lv_aload hx hb dL_law_690 (lv_at hl 15 rfl) ?_
        refine lv_iload hx hb dL_law_692 (lv_at hl 19 rfl) ?_
        refine lv_aload_n hx hb dL_law_694 rfl (lv_at hl 1 rfl) ?_
        refine lv_iload hx hb dL_law_695 (lv_at hl 19 rfl) ?_
        refine c_pVi (rest := [.int (nI i), .ref q2]) hC hE hP (lx_whereIs l S (nI i) (xbag_n hra hi)) gc_RL_114 hd_X4_whereIs ⟨rfl, rfl⟩ ⟨Nat.le_of_ble_eq_true rfl, Nat.le_of_ble_eq_true rfl⟩ 29 lw_29 rfl rfl hl.1 (Nat.le_of_ble_eq_true rfl) ⟨(by show cc + 1 + 1 + 1 + 1 + 1 ≤ 600130; omega), (by show ss + n + n + n + n + n ≤ 7301080; omega)⟩ dL_law_697 ?_
        refine w_top (show rd 40 (S 6) (nI i) = T 1 i from (rd_40 (Nat.lt_of_lt_of_le hi hn)).trans (hrb.whr i hi)) ?_
        refine k_iast (j := i) hx hb hE hP hD hS (64 + nf + n + (R.length + 1)) ((lw_Ri (i := 1)).trans rfl) hi (Nat.lt_of_le_of_lt hn (by decide)) dL_law_700 (fun H locs hP hD hS => ?_)
        rw [lw_Riset (i := 1)] at hP hD
        rw [← hd_s (T 1) i] at hP hD
        have hP : va_P D vwCl (LW k a tr o fa ba x S (uF S U2 (i + 1)) G T n nf (mL T n) (R ++ [(q1, .inl (k 0, n, .inl (hd_ (mUnA G T) (i + 1)))), (q2, .inl (k 0, n, .inl (hd_ (T 1) (i + 1)))), (q3, .inl (k 0, n, .inl (hd_ (T 3) i))), (q4, .inl (k 0, n, .inl (hd_ (T 4) i))), (q5, .inl (k 1, n, .inl (hd_ (opG G) i)))])) H := hP
        have hD : va_D A (LW k a tr o fa ba x S (uF S U2 (i + 1)) G T n nf (mL T n) (R ++ [(q1, .inl (k 0, n, .inl (hd_ (mUnA G T) (i + 1)))), (q2, .inl (k 0, n, .inl (hd_ (T 1) (i + 1)))), (q3, .inl (k 0, n, .inl (hd_ (T 3) i))), (q4, .inl (k 0, n, .inl (hd_ (T 4) i))), (q5, .inl (k 1, n, .inl (hd_ (opG G) i)))])) := hD
        refine lv_aload hx hb dL_law_701 (lv_at hl 16 rfl) ?_
        refine lv_iload hx hb dL_law_703 (lv_at hl 19 rfl) ?_
        refine lv_aload_n hx hb dL_law_705 rfl (lv_at hl 1 rfl) ?_
        refine lv_iload hx hb dL_law_706 (lv_at hl 19 rfl) ?_
        refine c_pVi (rest := [.int (nI i), .ref q3]) hC hE hP (lx_readFor l S (nI i) (xbag_n hra hi)) gc_RL_129 hd_X4_readFor ⟨rfl, rfl⟩ ⟨Nat.le_of_ble_eq_true rfl, Nat.le_of_ble_eq_true rfl⟩ 29 lw_29 rfl rfl hl.1 (Nat.le_of_ble_eq_true rfl) ⟨(by show cc + 1 + 1 + 1 + 1 + 1 ≤ 600130; omega), (by show ss + n + n + n + n + n ≤ 7301080; omega)⟩ dL_law_708 ?_
        refine w_top (show rd 40 (S 8) (nI i) = T 3 i from (rd_40 (Nat.lt_of_lt_of_le hi hn)).trans (hrb.rdd i hi)) ?_
        refine k_iast (j := i) hx hb hE hP hD hS (64 + nf + n + (R.length + 2)) ((lw_Ri (i := 2)).trans rfl) hi (Nat.lt_of_le_of_lt hn (by decide)) dL_law_711 (fun H locs hP hD hS => ?_)
        rw [lw_Riset (i := 2)] at hP hD
        rw [← hd_s (T 3) i] at hP hD
        have hP : va_P D vwCl (LW k a tr o fa ba x S (uF S U2 (i + 1)) G T n nf (mL T n) (R ++ [(q1, .inl (k 0, n, .inl (hd_ (mUnA G T) (i + 1)))), (q2, .inl (k 0, n, .inl (hd_ (T 1) (i + 1)))), (q3, .inl (k 0, n, .inl (hd_ (T 3) (i + 1)))), (q4, .inl (k 0, n, .inl (hd_ (T 4) i))), (q5, .inl (k 1, n, .inl (hd_ (opG G) i)))])) H := hP
        have hD : va_D A (LW k a tr o fa ba x S (uF S U2 (i + 1)) G T n nf (mL T n) (R ++ [(q1, .inl (k 0, n, .inl (hd_ (mUnA G T) (i + 1)))), (q2, .inl (k 0, n, .inl (hd_ (T 1) (i + 1)))), (q3, .inl (k 0, n, .inl (hd_ (T 3) (i + 1)))), (q4, .inl (k 0, n, .inl (hd_ (T 4) i))), (q5, .inl (k 1, n, .inl (hd_ (opG G) i)))])) := hD
        refine lv_aload hx hb dL_law_712 (lv_at hl 17 rfl) ?_
        refine lv_iload hx hb dL_law_714 (lv_at hl 19 rfl) ?_
        refine lv_aload_n hx hb dL_law_716 rfl (lv_at hl 1 rfl) ?_
        refine lv_iload hx hb dL_law_717 (lv_at hl 19 rfl) ?_
        refine c_pVi (rest := [.int (nI i), .ref q4]) hC hE hP (lx_missesOf l S (nI i) (xbag_n hra hi)) gc_RL_126 hd_X4_missesOf ⟨rfl, rfl⟩ ⟨Nat.le_of_ble_eq_true rfl, Nat.le_of_ble_eq_true rfl⟩ 29 lw_29 rfl rfl hl.1 (Nat.le_of_ble_eq_true rfl) ⟨(by show cc + 1 + 1 + 1 + 1 + 1 ≤ 600130; omega), (by show ss + n + n + n + n + n ≤ 7301080; omega)⟩ dL_law_719 ?_
        refine w_top (show rd 40 (S 9) (nI i) = T 4 i from (rd_40 (Nat.lt_of_lt_of_le hi hn)).trans (hrb.mis i hi)) ?_
        refine k_iast (j := i) hx hb hE hP hD hS (64 + nf + n + (R.length + 3)) ((lw_Ri (i := 3)).trans rfl) hi (Nat.lt_of_le_of_lt hn (by decide)) dL_law_722 (fun H locs hP hD hS => ?_)
        rw [lw_Riset (i := 3)] at hP hD
        rw [← hd_s (T 4) i] at hP hD
        have hP : va_P D vwCl (LW k a tr o fa ba x S (uF S U2 (i + 1)) G T n nf (mL T n) (R ++ [(q1, .inl (k 0, n, .inl (hd_ (mUnA G T) (i + 1)))), (q2, .inl (k 0, n, .inl (hd_ (T 1) (i + 1)))), (q3, .inl (k 0, n, .inl (hd_ (T 3) (i + 1)))), (q4, .inl (k 0, n, .inl (hd_ (T 4) (i + 1)))), (q5, .inl (k 1, n, .inl (hd_ (opG G) i)))])) H := hP
        have hD : va_D A (LW k a tr o fa ba x S (uF S U2 (i + 1)) G T n nf (mL T n) (R ++ [(q1, .inl (k 0, n, .inl (hd_ (mUnA G T) (i + 1)))), (q2, .inl (k 0, n, .inl (hd_ (T 1) (i + 1)))), (q3, .inl (k 0, n, .inl (hd_ (T 3) (i + 1)))), (q4, .inl (k 0, n, .inl (hd_ (T 4) (i + 1)))), (q5, .inl (k 1, n, .inl (hd_ (opG G) i)))])) := hD
        refine lv_aload hx hb dL_law_723 (lv_at hl 18 rfl) ?_
        refine lv_iload hx hb dL_law_725 (lv_at hl 19 rfl) ?_
        refine lv_aload_n hx hb dL_law_727 rfl (lv_at hl 1 rfl) ?_
        refine lv_iload hx hb dL_law_728 (lv_at hl 19 rfl) ?_
        refine c_pVi (rest := [.int (nI i), .ref q5]) hC hE hP (lx_hasOpenFile l S (nI i) (xbag_n hra hi)) gc_RL_133 hd_X4_hasOpenFile ⟨rfl, rfl⟩ ⟨Nat.le_of_ble_eq_true rfl, Nat.le_of_ble_eq_true rfl⟩ 29 lw_29 rfl rfl hl.1 (Nat.le_of_ble_eq_true rfl) ⟨(by show cc + 1 + 1 + 1 + 1 + 1 ≤ 600130; omega), (by show ss + n + n + n + n + n ≤ 7301080; omega)⟩ dL_law_730 ?_
        refine w_top (show bI (rd 40 (S 10) (nI i) = 1) = bI (G 7 i = 1) from bI_cong (by rw [rd_40 (Nat.lt_of_lt_of_le hi hn), hra.fil i hi])) ?_
        refine w_top (show bI (G 7 i = 1) = opG G i from rfl) ?_
        refine k_zast (j := i) hx hb hE hP hD hS (64 + nf + n + (R.length + 4)) ((lw_Ri (i := 4)).trans rfl) hi (Nat.lt_of_le_of_lt hn (by decide)) dL_law_733 (fun H locs hP hD hS => ?_)
        rw [show vp_nar .boolean (opG G i) = opG G i from bI_nar (G 7 i = 1)] at hP hD
        rw [lw_Riset (i := 4)] at hP hD
        rw [← hd_s (opG G) i] at hP hD
        have hP : va_P D vwCl (LW k a tr o fa ba x S (uF S U2 (i + 1)) G T n nf (mL T n) (R ++ [(q1, .inl (k 0, n, .inl (hd_ (mUnA G T) (i + 1)))), (q2, .inl (k 0, n, .inl (hd_ (T 1) (i + 1)))), (q3, .inl (k 0, n, .inl (hd_ (T 3) (i + 1)))), (q4, .inl (k 0, n, .inl (hd_ (T 4) (i + 1)))), (q5, .inl (k 1, n, .inl (hd_ (opG G) (i + 1))))])) H := hP
        have hD : va_D A (LW k a tr o fa ba x S (uF S U2 (i + 1)) G T n nf (mL T n) (R ++ [(q1, .inl (k 0, n, .inl (hd_ (mUnA G T) (i + 1)))), (q2, .inl (k 0, n, .inl (hd_ (T 1) (i + 1)))), (q3, .inl (k 0, n, .inl (hd_ (T 3) (i + 1)))), (q4, .inl (k 0, n, .inl (hd_ (T 4) (i + 1)))), (q5, .inl (k 1, n, .inl (hd_ (opG G) (i + 1))))])) := hD
        refine lv_aload hx hb dL_law_734 (lv_at hl 14 rfl) ?_
        refine lv_iload hx hb dL_law_736 (lv_at hl 19 rfl) ?_
        refine k_iald (j := i) hx hb hE hP (64 + nf + n + (R.length + 0)) ((lw_Ri (i := 0)).trans rfl) hi (Nat.lt_of_le_of_lt hn (by decide)) dL_law_738 ?_
        refine w_top (show (hd_ (mUnA G T) (i + 1)) i = mUnA G T i from hd_at (Nat.lt_succ_self i)) ?_
        refine lv_if_ne (tgt := 746) hx hb dL_law_739 (by decide) (fun c_8 => ?_) (fun c_ => absurd c_ (un_zero z2))
        refine lv_iconst (v := 0) hx hb dL_law_746 (by decide) ?_
        refine lv_aload hx hb dL_law_747 (lv_at hl 15 rfl) ?_
        refine lv_iload hx hb dL_law_749 (lv_at hl 19 rfl) ?_
        refine k_iald (j := i) hx hb hE hP (64 + nf + n + (R.length + 1)) ((lw_Ri (i := 1)).trans rfl) hi (Nat.lt_of_le_of_lt hn (by decide)) dL_law_751 ?_
        refine w_top (show (hd_ (T 1) (i + 1)) i = T 1 i from hd_at (Nat.lt_succ_self i)) ?_
        refine lv_iconst (v := 2) hx hb dL_law_752 (by decide) ?_
        refine lv_icmp_ne (tgt := 760) hx hb dL_law_753 (by decide) (fun c_9 => ?_) (fun c_ => absurd c_ z2)
        refine lv_iconst (v := 0) hx hb dL_law_760 (by decide) ?_
        refine lv_icmp_ne (tgt := 782) hx hb dL_law_761 (by decide) (fun c_ => absurd rfl c_) (fun c_10 => ?_)
        refine lv_aload hx hb dL_law_764 (lv_at hl 15 rfl) ?_
        refine lv_iload hx hb dL_law_766 (lv_at hl 19 rfl) ?_
        refine k_iald (j := i) hx hb hE hP (64 + nf + n + (R.length + 1)) ((lw_Ri (i := 1)).trans rfl) hi (Nat.lt_of_le_of_lt hn (by decide)) dL_law_768 ?_
        refine w_top (show (hd_ (T 1) (i + 1)) i = T 1 i from hd_at (Nat.lt_succ_self i)) ?_
        refine lv_iconst (v := 2) hx hb dL_law_769 (by decide) ?_
        refine lv_icmp_le (tgt := 784) hx hb dL_law_770 (by decide) (fun c_11 => ?_) (fun c_ => absurd z3 c_)
        refine lv_iinc (v := nI (i + 1)) (lv' := [(22, .int (nI (i + 1))), (0, .ref b), (1, .ref x), (2, .ref (o 0)), (3, .int (nI t)), (4, .int xv), (5, .long (xDig S n nf)), (7, .int (nI n)), (8, .ref y8), (9, .ref y9), (10, .ref y10), (11, .int (nI (mFil G 1 n))), (14, .int (nI (1 + j1))), (15, .int (nI j2)), (16, .int (nI (mBeh G T j2 (1 + j1) n))), (17, .ref q1), (18, .ref q2), (19, .ref q3), (20, .ref q4), (21, .ref q5)]) hx hb dL_law_784 hl (k := 19) rfl (iinc1 _) (by decide) rfl (fun ls hl => ?_)
        refine lv_goto (tgt := 672) hx hb dL_law_787 (by decide) ?_
        have hP9 : va_P D vwCl (LW k a tr o fa ba x S (uF S U2 (i + 1)) G T n nf (mL T n) (R ++ [(q1, .inl (k 0, n, .inl (hd_ (mUnA G T) (i + 1)))), (q2, .inl (k 0, n, .inl (hd_ (T 1) (i + 1)))), (q3, .inl (k 0, n, .inl (hd_ (T 3) (i + 1)))), (q4, .inl (k 0, n, .inl (hd_ (T 4) (i + 1)))), (q5, .inl (k 1, n, .inl (hd_ (opG G) (i + 1))))])) H := by exact hP
        have hD9 : va_D A (LW k a tr o fa ba x S (uF S U2 (i + 1)) G T n nf (mL T n) (R ++ [(q1, .inl (k 0, n, .inl (hd_ (mUnA G T) (i + 1)))), (q2, .inl (k 0, n, .inl (hd_ (T 1) (i + 1)))), (q3, .inl (k 0, n, .inl (hd_ (T 3) (i + 1)))), (q4, .inl (k 0, n, .inl (hd_ (T 4) (i + 1)))), (q5, .inl (k 1, n, .inl (hd_ (opG G) (i + 1))))])) := by exact hD
        have h99 := ih ls H locs trivial (lv_sub hl [1, 2, 3, 4, 5, 6, 7, 8, 9, 10, 11, 12, 13, 14, 15, 16, 17, 18, 19, 0] rfl)
        exact h99 hP9 hD9 hS
      · refine lv_aload hx hb dL_law_679 (lv_at hl 14 rfl) ?_
        refine lv_iload hx hb dL_law_681 (lv_at hl 19 rfl) ?_
        refine lv_aload_n hx hb dL_law_683 rfl (lv_at hl 1 rfl) ?_
        refine lv_iload hx hb dL_law_684 (lv_at hl 19 rfl) ?_
        obtain ⟨R9, hR9⟩ : ∃ R9 : va_W, R9 = R ++ [(q1, .inl (k 0, n, .inl (hd_ (mUnA G T) i))), (q2, .inl (k 0, n, .inl (hd_ (T 1) i))), (q3, .inl (k 0, n, .inl (hd_ (T 3) i))), (q4, .inl (k 0, n, .inl (hd_ (T 4) i))), (q5, .inl (k 1, n, .inl (hd_ (opG G) i)))] := ⟨_, rfl⟩
        rw [← hR9] at hP hD
        refine c_mVi (rest := [.int (nI i), .ref q1]) hC hE hP hD hS (ws' := (LW k a tr o fa ba x S (xUn S (xUnN S (nI i))) G T n nf (mL T n) R9)) lw_same (lx_minutesUntilChute l S (uF S U2 i) (nI i) (xbag_n hra hi)) gc_RL_174 hd_X4_minutesUntilChute ⟨rfl, rfl⟩ ⟨Nat.le_of_ble_eq_true rfl, Nat.le_of_ble_eq_true rfl⟩ 29 lw_29 rfl rfl hl.1 (Nat.le_of_ble_eq_true rfl) ⟨(by show cc + 1 + 1 + 1 + 1 + 1 ≤ 600130; omega), (by show ss + n + n + n + n + n ≤ 7301080; omega)⟩ dL_law_686 (fun H locs hP hD hS => ?_)
        rw [hR9] at hP hD
        refine w_top (show xUnA S (nI i) = mUnA G T i from un_eq hra hrb hi) ?_
        have hP : va_P D vwCl (LW k a tr o fa ba x S (uF S U2 (i + 1)) G T n nf (mL T n) (R ++ [(q1, .inl (k 0, n, .inl (hd_ (mUnA G T) i))), (q2, .inl (k 0, n, .inl (hd_ (T 1) i))), (q3, .inl (k 0, n, .inl (hd_ (T 3) i))), (q4, .inl (k 0, n, .inl (hd_ (T 4) i))), (q5, .inl (k 1, n, .inl (hd_ (opG G) i)))])) H := hP
        have hD : va_D A (LW k a tr o fa ba x S (uF S U2 (i + 1)) G T n nf (mL T n) (R ++ [(q1, .inl (k 0, n, .inl (hd_ (mUnA G T) i))), (q2, .inl (k 0, n, .inl (hd_ (T 1) i))), (q3, .inl (k 0, n, .inl (hd_ (T 3) i))), (q4, .inl (k 0, n, .inl (hd_ (T 4) i))), (q5, .inl (k 1, n, .inl (hd_ (opG G) i)))])) := hD
        refine k_iast (j := i) hx hb hE hP hD hS (64 + nf + n + (R.length + 0)) ((lw_Ri (i := 0)).trans rfl) hi (Nat.lt_of_le_of_lt hn (by decide)) dL_law_689 (fun H locs hP hD hS => ?_)
        rw [lw_Riset (i := 0)] at hP hD
        rw [← hd_s (mUnA G T) i] at hP hD
        have hP : va_P D vwCl (LW k a tr o fa ba x S (uF S U2 (i + 1)) G T n nf (mL T n) (R ++ [(q1, .inl (k 0, n, .inl (hd_ (mUnA G T) (i + 1)))), (q2, .inl (k 0, n, .inl (hd_ (T 1) i))), (q3, .inl (k 0, n, .inl (hd_ (T 3) i))), (q4, .inl (k 0, n, .inl (hd_ (T 4) i))), (q5, .inl (k 1, n, .inl (hd_ (opG G) i)))])) H := hP
        have hD : va_D A (LW k a tr o fa ba x S (uF S U2 (i + 1)) G T n nf (mL T n) (R ++ [(q1, .inl (k 0, n, .inl (hd_ (mUnA G T) (i + 1)))), (q2, .inl (k 0, n, .inl (hd_ (T 1) i))), (q3, .inl (k 0, n, .inl (hd_ (T 3) i))), (q4, .inl (k 0, n, .inl (hd_ (T 4) i))), (q5, .inl (k 1, n, .inl (hd_ (opG G) i)))])) := hD
        refine lv_aload hx hb dL_law_690 (lv_at hl 15 rfl) ?_
        refine lv_iload hx hb dL_law_692 (lv_at hl 19 rfl) ?_
        refine lv_aload_n hx hb dL_law_694 rfl (lv_at hl 1 rfl) ?_
        refine lv_iload hx hb dL_law_695 (lv_at hl 19 rfl) ?_
        refine c_pVi (rest := [.int (nI i), .ref q2]) hC hE hP (lx_whereIs l S (nI i) (xbag_n hra hi)) gc_RL_114 hd_X4_whereIs ⟨rfl, rfl⟩ ⟨Nat.le_of_ble_eq_true rfl, Nat.le_of_ble_eq_true rfl⟩ 29 lw_29 rfl rfl hl.1 (Nat.le_of_ble_eq_true rfl) ⟨(by show cc + 1 + 1 + 1 + 1 + 1 ≤ 600130; omega), (by show ss + n + n + n + n + n ≤ 7301080; omega)⟩ dL_law_697 ?_
        refine w_top (show rd 40 (S 6) (nI i) = T 1 i from (rd_40 (Nat.lt_of_lt_of_le hi hn)).trans (hrb.whr i hi)) ?_
        refine k_iast (j := i) hx hb hE hP hD hS (64 + nf + n + (R.length + 1)) ((lw_Ri (i := 1)).trans rfl) hi (Nat.lt_of_le_of_lt hn (by decide)) dL_law_700 (fun H locs hP hD hS => ?_)
        rw [lw_Riset (i := 1)] at hP hD
        rw [← hd_s (T 1) i] at hP hD
        have hP : va_P D vwCl (LW k a tr o fa ba x S (uF S U2 (i + 1)) G T n nf (mL T n) (R ++ [(q1, .inl (k 0, n, .inl (hd_ (mUnA G T) (i + 1)))), (q2, .inl (k 0, n, .inl (hd_ (T 1) (i + 1)))), (q3, .inl (k 0, n, .inl (hd_ (T 3) i))), (q4, .inl (k 0, n, .inl (hd_ (T 4) i))), (q5, .inl (k 1, n, .inl (hd_ (opG G) i)))])) H := hP
        have hD : va_D A (LW k a tr o fa ba x S (uF S U2 (i + 1)) G T n nf (mL T n) (R ++ [(q1, .inl (k 0, n, .inl (hd_ (mUnA G T) (i + 1)))), (q2, .inl (k 0, n, .inl (hd_ (T 1) (i + 1)))), (q3, .inl (k 0, n, .inl (hd_ (T 3) i))), (q4, .inl (k 0, n, .inl (hd_ (T 4) i))), (q5, .inl (k 1, n, .inl (hd_ (opG G) i)))])) := hD
        refine lv_aload hx hb dL_law_701 (lv_at hl 16 rfl) ?_
        refine lv_iload hx hb dL_law_703 (lv_at hl 19 rfl) ?_
        refine lv_aload_n hx hb dL_law_705 rfl (lv_at hl 1 rfl) ?_
        refine lv_iload hx hb dL_law_706 (lv_at hl 19 rfl) ?_
        refine c_pVi (rest := [.int (nI i), .ref q3]) hC hE hP (lx_readFor l S (nI i) (xbag_n hra hi)) gc_RL_129 hd_X4_readFor ⟨rfl, rfl⟩ ⟨Nat.le_of_ble_eq_true rfl, Nat.le_of_ble_eq_true rfl⟩ 29 lw_29 rfl rfl hl.1 (Nat.le_of_ble_eq_true rfl) ⟨(by show cc + 1 + 1 + 1 + 1 + 1 ≤ 600130; omega), (by show ss + n + n + n + n + n ≤ 7301080; omega)⟩ dL_law_708 ?_
        refine w_top (show rd 40 (S 8) (nI i) = T 3 i from (rd_40 (Nat.lt_of_lt_of_le hi hn)).trans (hrb.rdd i hi)) ?_
        refine k_iast (j := i) hx hb hE hP hD hS (64 + nf + n + (R.length + 2)) ((lw_Ri (i := 2)).trans rfl) hi (Nat.lt_of_le_of_lt hn (by decide)) dL_law_711 (fun H locs hP hD hS => ?_)
        rw [lw_Riset (i := 2)] at hP hD
        rw [← hd_s (T 3) i] at hP hD
        have hP : va_P D vwCl (LW k a tr o fa ba x S (uF S U2 (i + 1)) G T n nf (mL T n) (R ++ [(q1, .inl (k 0, n, .inl (hd_ (mUnA G T) (i + 1)))), (q2, .inl (k 0, n, .inl (hd_ (T 1) (i + 1)))), (q3, .inl (k 0, n, .inl (hd_ (T 3) (i + 1)))), (q4, .inl (k 0, n, .inl (hd_ (T 4) i))), (q5, .inl (k 1, n, .inl (hd_ (opG G) i)))])) H := hP
        have hD : va_D A (LW k a tr o fa ba x S (uF S U2 (i + 1)) G T n nf (mL T n) (R ++ [(q1, .inl (k 0, n, .inl (hd_ (mUnA G T) (i + 1)))), (q2, .inl (k 0, n, .inl (hd_ (T 1) (i + 1)))), (q3, .inl (k 0, n, .inl (hd_ (T 3) (i + 1)))), (q4, .inl (k 0, n, .inl (hd_ (T 4) i))), (q5, .inl (k 1, n, .inl (hd_ (opG G) i)))])) := hD
        refine lv_aload hx hb dL_law_712 (lv_at hl 17 rfl) ?_
        refine lv_iload hx hb dL_law_714 (lv_at hl 19 rfl) ?_
        refine lv_aload_n hx hb dL_law_716 rfl (lv_at hl 1 rfl) ?_
        refine lv_iload hx hb dL_law_717 (lv_at hl 19 rfl) ?_
        refine c_pVi (rest := [.int (nI i), .ref q4]) hC hE hP (lx_missesOf l S (nI i) (xbag_n hra hi)) gc_RL_126 hd_X4_missesOf ⟨rfl, rfl⟩ ⟨Nat.le_of_ble_eq_true rfl, Nat.le_of_ble_eq_true rfl⟩ 29 lw_29 rfl rfl hl.1 (Nat.le_of_ble_eq_true rfl) ⟨(by show cc + 1 + 1 + 1 + 1 + 1 ≤ 600130; omega), (by show ss + n + n + n + n + n ≤ 7301080; omega)⟩ dL_law_719 ?_
        refine w_top (show rd 40 (S 9) (nI i) = T 4 i from (rd_40 (Nat.lt_of_lt_of_le hi hn)).trans (hrb.mis i hi)) ?_
        refine k_iast (j := i) hx hb hE hP hD hS (64 + nf + n + (R.length + 3)) ((lw_Ri (i := 3)).trans rfl) hi (Nat.lt_of_le_of_lt hn (by decide)) dL_law_722 (fun H locs hP hD hS => ?_)
        rw [lw_Riset (i := 3)] at hP hD
        rw [← hd_s (T 4) i] at hP hD
        have hP : va_P D vwCl (LW k a tr o fa ba x S (uF S U2 (i + 1)) G T n nf (mL T n) (R ++ [(q1, .inl (k 0, n, .inl (hd_ (mUnA G T) (i + 1)))), (q2, .inl (k 0, n, .inl (hd_ (T 1) (i + 1)))), (q3, .inl (k 0, n, .inl (hd_ (T 3) (i + 1)))), (q4, .inl (k 0, n, .inl (hd_ (T 4) (i + 1)))), (q5, .inl (k 1, n, .inl (hd_ (opG G) i)))])) H := hP
        have hD : va_D A (LW k a tr o fa ba x S (uF S U2 (i + 1)) G T n nf (mL T n) (R ++ [(q1, .inl (k 0, n, .inl (hd_ (mUnA G T) (i + 1)))), (q2, .inl (k 0, n, .inl (hd_ (T 1) (i + 1)))), (q3, .inl (k 0, n, .inl (hd_ (T 3) (i + 1)))), (q4, .inl (k 0, n, .inl (hd_ (T 4) (i + 1)))), (q5, .inl (k 1, n, .inl (hd_ (opG G) i)))])) := hD
        refine lv_aload hx hb dL_law_723 (lv_at hl 18 rfl) ?_
        refine lv_iload hx hb dL_law_725 (lv_at hl 19 rfl) ?_
        refine lv_aload_n hx hb dL_law_727 rfl (lv_at hl 1 rfl) ?_
        refine lv_iload hx hb dL_law_728 (lv_at hl 19 rfl) ?_
        refine c_pVi (rest := [.int (nI i), .ref q5]) hC hE hP (lx_hasOpenFile l S (nI i) (xbag_n hra hi)) gc_RL_133 hd_X4_hasOpenFile ⟨rfl, rfl⟩ ⟨Nat.le_of_ble_eq_true rfl, Nat.le_of_ble_eq_true rfl⟩ 29 lw_29 rfl rfl hl.1 (Nat.le_of_ble_eq_true rfl) ⟨(by show cc + 1 + 1 + 1 + 1 + 1 ≤ 600130; omega), (by show ss + n + n + n + n + n ≤ 7301080; omega)⟩ dL_law_730 ?_
        refine w_top (show bI (rd 40 (S 10) (nI i) = 1) = bI (G 7 i = 1) from bI_cong (by rw [rd_40 (Nat.lt_of_lt_of_le hi hn), hra.fil i hi])) ?_
        refine w_top (show bI (G 7 i = 1) = opG G i from rfl) ?_
        refine k_zast (j := i) hx hb hE hP hD hS (64 + nf + n + (R.length + 4)) ((lw_Ri (i := 4)).trans rfl) hi (Nat.lt_of_le_of_lt hn (by decide)) dL_law_733 (fun H locs hP hD hS => ?_)
        rw [show vp_nar .boolean (opG G i) = opG G i from bI_nar (G 7 i = 1)] at hP hD
        rw [lw_Riset (i := 4)] at hP hD
        rw [← hd_s (opG G) i] at hP hD
        have hP : va_P D vwCl (LW k a tr o fa ba x S (uF S U2 (i + 1)) G T n nf (mL T n) (R ++ [(q1, .inl (k 0, n, .inl (hd_ (mUnA G T) (i + 1)))), (q2, .inl (k 0, n, .inl (hd_ (T 1) (i + 1)))), (q3, .inl (k 0, n, .inl (hd_ (T 3) (i + 1)))), (q4, .inl (k 0, n, .inl (hd_ (T 4) (i + 1)))), (q5, .inl (k 1, n, .inl (hd_ (opG G) (i + 1))))])) H := hP
        have hD : va_D A (LW k a tr o fa ba x S (uF S U2 (i + 1)) G T n nf (mL T n) (R ++ [(q1, .inl (k 0, n, .inl (hd_ (mUnA G T) (i + 1)))), (q2, .inl (k 0, n, .inl (hd_ (T 1) (i + 1)))), (q3, .inl (k 0, n, .inl (hd_ (T 3) (i + 1)))), (q4, .inl (k 0, n, .inl (hd_ (T 4) (i + 1)))), (q5, .inl (k 1, n, .inl (hd_ (opG G) (i + 1))))])) := hD
        refine lv_aload hx hb dL_law_734 (lv_at hl 14 rfl) ?_
        refine lv_iload hx hb dL_law_736 (lv_at hl 19 rfl) ?_
        refine k_iald (j := i) hx hb hE hP (64 + nf + n + (R.length + 0)) ((lw_Ri (i := 0)).trans rfl) hi (Nat.lt_of_le_of_lt hn (by decide)) dL_law_738 ?_
        refine w_top (show (hd_ (mUnA G T) (i + 1)) i = mUnA G T i from hd_at (Nat.lt_succ_self i)) ?_
        refine lv_if_ne (tgt := 746) hx hb dL_law_739 (by decide) (fun c_12 => ?_) (fun c_ => absurd c_ (un_zero z2))
        refine lv_iconst (v := 0) hx hb dL_law_746 (by decide) ?_
        refine lv_aload hx hb dL_law_747 (lv_at hl 15 rfl) ?_
        refine lv_iload hx hb dL_law_749 (lv_at hl 19 rfl) ?_
        refine k_iald (j := i) hx hb hE hP (64 + nf + n + (R.length + 1)) ((lw_Ri (i := 1)).trans rfl) hi (Nat.lt_of_le_of_lt hn (by decide)) dL_law_751 ?_
        refine w_top (show (hd_ (T 1) (i + 1)) i = T 1 i from hd_at (Nat.lt_succ_self i)) ?_
        refine lv_iconst (v := 2) hx hb dL_law_752 (by decide) ?_
        refine lv_icmp_ne (tgt := 760) hx hb dL_law_753 (by decide) (fun c_13 => ?_) (fun c_ => absurd c_ z2)
        refine lv_iconst (v := 0) hx hb dL_law_760 (by decide) ?_
        refine lv_icmp_ne (tgt := 782) hx hb dL_law_761 (by decide) (fun c_ => absurd rfl c_) (fun c_14 => ?_)
        refine lv_aload hx hb dL_law_764 (lv_at hl 15 rfl) ?_
        refine lv_iload hx hb dL_law_766 (lv_at hl 19 rfl) ?_
        refine k_iald (j := i) hx hb hE hP (64 + nf + n + (R.length + 1)) ((lw_Ri (i := 1)).trans rfl) hi (Nat.lt_of_le_of_lt hn (by decide)) dL_law_768 ?_
        refine w_top (show (hd_ (T 1) (i + 1)) i = T 1 i from hd_at (Nat.lt_succ_self i)) ?_
        refine lv_iconst (v := 2) hx hb dL_law_769 (by decide) ?_
        refine lv_icmp_le (tgt := 784) hx hb dL_law_770 (by decide) (fun c_ => absurd c_ z3) (fun c_15 => ?_)
        refine lv_aload hx hb dL_law_773 (lv_at hl 14 rfl) ?_
        refine lv_iload hx hb dL_law_775 (lv_at hl 19 rfl) ?_
        refine k_iald (j := i) hx hb hE hP (64 + nf + n + (R.length + 0)) ((lw_Ri (i := 0)).trans rfl) hi (Nat.lt_of_le_of_lt hn (by decide)) dL_law_777 ?_
        refine w_top (show (hd_ (mUnA G T) (i + 1)) i = mUnA G T i from hd_at (Nat.lt_succ_self i)) ?_
        refine lv_iconst (v := (-1)) hx hb dL_law_778 (by decide) ?_
        refine lv_icmp_eq (tgt := 784) hx hb dL_law_779 (by decide) (fun c_16 => ?_) (fun c_ => absurd (un_off hra hrb hti hi (fun z => z3 (by rcases z with z | z <;> (rw [z]; decide))) z2) c_)
        refine lv_iinc (v := nI (i + 1)) (lv' := [(22, .int (nI (i + 1))), (0, .ref b), (1, .ref x), (2, .ref (o 0)), (3, .int (nI t)), (4, .int xv), (5, .long (xDig S n nf)), (7, .int (nI n)), (8, .ref y8), (9, .ref y9), (10, .ref y10), (11, .int (nI (mFil G 1 n))), (14, .int (nI (1 + j1))), (15, .int (nI j2)), (16, .int (nI (mBeh G T j2 (1 + j1) n))), (17, .ref q1), (18, .ref q2), (19, .ref q3), (20, .ref q4), (21, .ref q5)]) hx hb dL_law_784 hl (k := 19) rfl (iinc1 _) (by decide) rfl (fun ls hl => ?_)
        refine lv_goto (tgt := 672) hx hb dL_law_787 (by decide) ?_
        have hP9 : va_P D vwCl (LW k a tr o fa ba x S (uF S U2 (i + 1)) G T n nf (mL T n) (R ++ [(q1, .inl (k 0, n, .inl (hd_ (mUnA G T) (i + 1)))), (q2, .inl (k 0, n, .inl (hd_ (T 1) (i + 1)))), (q3, .inl (k 0, n, .inl (hd_ (T 3) (i + 1)))), (q4, .inl (k 0, n, .inl (hd_ (T 4) (i + 1)))), (q5, .inl (k 1, n, .inl (hd_ (opG G) (i + 1))))])) H := by exact hP
        have hD9 : va_D A (LW k a tr o fa ba x S (uF S U2 (i + 1)) G T n nf (mL T n) (R ++ [(q1, .inl (k 0, n, .inl (hd_ (mUnA G T) (i + 1)))), (q2, .inl (k 0, n, .inl (hd_ (T 1) (i + 1)))), (q3, .inl (k 0, n, .inl (hd_ (T 3) (i + 1)))), (q4, .inl (k 0, n, .inl (hd_ (T 4) (i + 1)))), (q5, .inl (k 1, n, .inl (hd_ (opG G) (i + 1))))])) := by exact hD
        have h99 := ih ls H locs trivial (lv_sub hl [1, 2, 3, 4, 5, 6, 7, 8, 9, 10, 11, 12, 13, 14, 15, 16, 17, 18, 19, 0] rfl)
        exact h99 hP9 hD9 hS
  · exact lv_sub hl [9, 10, 11, 12, 13, 14, 15, 16, 17, 18, 19, 8, 7, 6, 5, 4, 3, 2, 1, 0] rfl
  · exact hP
  · exact hD
  · exact hS
set_option maxHeartbeats 1000000 in
set_option maxRecDepth 100000 in
theorem law_J {p : Program} {l : Launch} {e : Env} {s : State} {m : MethodId} {args : Array Value} {below : List Frame} {meth : Method} {c : Code} {D : va_G} {k : Nat → ClassId} {A : Nat → Prop} {a tr o fa ba : Nat → Nat} {b x : Nat} {S U G T : HS} {n nf : Nat} {R : va_W} {ls : Array Slot} {H : Heap} {locs : List Loc} {Q : State → Prop} {cc ss t : Nat} {xv : Int32} (hC : CallFix p m c cL_law 28 s args lw_all RL) (hE : eK D k s) (hA : ∀ q : Nat, s.heap.size ≤ q → A q) (hcc : cc + 60 ≤ 600130) (hss : ss + 3000 ≤ 7301080) (hnf0 : 0 < nf) (hra : RA S G n nf) (hrb : RB S T n) (hti : TI T n) (hgi : GI G T n nf) {y8 y9 y10 N f q1 q2 q3 q4 q5 : Nat} (hN1 : 1 ≤ N) (hN9 : N ≤ 9) (hl : lv_has ls 28 [(0, .ref b), (1, .ref x), (2, .ref (o 0)), (3, .int (nI t)), (4, .int xv), (5, .long (xDig S n nf)), (7, .int (nI n)), (8, .ref y8), (9, .ref y9), (10, .ref y10), (11, .int (nI (mFil G 1 n))), (14, .int (nI N)), (15, .int (nI f)), (16, .int (nI (mBeh G T f N n))), (17, .ref q1), (18, .ref q2), (19, .ref q3), (20, .ref q4), (21, .ref q5), (22, .int (nI (mFil G 2 n)))]) (hP : va_P D vwCl (LW k a tr o fa ba x S U G T n nf (mL T n) R) H) (hD : va_D A (LW k a tr o fa ba x S U G T n nf (mL T n) R)) (hS : va_S A s.heap H locs) (K : ∀ (o9 : Nat → Nat) (d : Nat) (_ : o9 0 = o 0) (_ : PS G T (mGo G T N).2 n d) (_ : TI (mGo G T N).2 n) (ls : Array Slot) (H : Heap) (locs : List Loc), lv_has ls 28 [(0, .ref b), (1, .ref x), (2, .ref (o 0)), (3, .int (nI t)), (4, .int xv), (5, .long (xDig S n nf)), (7, .int (nI n)), (8, .ref y8), (9, .ref y9), (10, .ref y10), (11, .int (nI (mFil G 1 n))), (14, .int (nI N)), (15, .int (nI f)), (17, .ref q1), (18, .ref q2), (19, .ref q3), (20, .ref q4), (21, .ref q5), (22, .int (nI (mFil G 2 n))), (16, .int (nI (mRdyN G (mGo G T N).2 f n))), (23, .int (nI d))] → va_P D vwCl (LW k a tr o9 fa ba x (xGo S N).2 U G (mGo G T N).2 n nf (mL (mGo G T N).2 n) R) H → va_D A (LW k a tr o9 fa ba x (xGo S N).2 U G (mGo G T N).2 n nf (mL (mGo G T N).2 n) R) → va_S A s.heap H locs → W p l e room_1 s m args below meth c H locs (cc + 30) (ss + 1200) Q (F0 m 822 ls [.int (nI d)])) : W p l e room_1 s m args below meth c H locs cc ss Q (F0 m 808 ls []) := by
  have hx := hC.1
  have hb := hC.2.1
  have hown : s.vm.findClass RL = some m.cls := hC.2.2.2.1
  have hts := hC.2.2.2.2
  have hn := hra.n40
  have hnf := hra.nf6
  have hLn : mL T n ≤ n := ct_le _ n
  refine lv_aload_n hx hb dL_law_808 rfl (lv_at hl 1 rfl) ?_
  refine lv_iload hx hb dL_law_809 (lv_at hl 11 rfl) ?_
  obtain ⟨d, hps, hti2, ed⟩ := go_ps hra hrb hti N
  obtain ⟨hra2, hrb2, e9⟩ := go_rel hra hrb N
  refine c_mVi (rest := []) hC hE hP hD hS (ws' := (LW k a tr o fa ba x (xGo S N).2 U G T n nf (mL T n) R)) lw_same (lx_pass l S N (by omega) ⟨ge1 (by omega) (by omega), le60 (by omega)⟩) gc_RL_88 hd_X4_pass ⟨rfl, rfl⟩ ⟨Nat.le_of_ble_eq_true rfl, Nat.le_of_ble_eq_true rfl⟩ 29 lw_29 rfl rfl hl.1 (Nat.le_of_ble_eq_true rfl) ⟨(by show cc ≤ 600130; omega), (by show ss ≤ 7301080; omega)⟩ dL_law_811 (fun H locs hP hD hS => ?_)
  refine w_top (show (xGo S N).1 = nI d from e9.trans ed) ?_
  refine lv_istore (lv' := [(23, .int (nI d)), (0, .ref b), (1, .ref x), (2, .ref (o 0)), (3, .int (nI t)), (4, .int xv), (5, .long (xDig S n nf)), (7, .int (nI n)), (8, .ref y8), (9, .ref y9), (10, .ref y10), (11, .int (nI (mFil G 1 n))), (14, .int (nI N)), (15, .int (nI f)), (16, .int (nI (mBeh G T f N n))), (17, .ref q1), (18, .ref q2), (19, .ref q3), (20, .ref q4), (21, .ref q5), (22, .int (nI (mFil G 2 n)))]) hx hb dL_law_814 hl (by decide) rfl (fun ls hl => ?_)
  refine lv_aload_n hx hb dL_law_816 rfl (lv_at hl 3 rfl) ?_
  refine lv_iload hx hb dL_law_817 (lv_at hl 12 rfl) ?_
  refine c_gV (rest := []) hC hE hP hD hS hA (metX5_go_ l G T N (by omega) hra hrb hti) (fun _ _ _ => trivial) (fun _ _ _ _ _ => trivial) gc_RL_91 hd_X5_go_ ⟨rfl, rfl⟩ ⟨Nat.le_of_ble_eq_true rfl, Nat.le_of_ble_eq_true rfl⟩ 59 lw_59 rfl rfl hl.1 (Nat.le_of_ble_eq_true rfl) ⟨(by show cc + 30 ≤ 600130; omega), (by show ss + 1200 ≤ 7301080; omega)⟩ dL_law_819 (fun v9 w9 H locs hp hP hD hS => ?_)
  obtain ⟨rfl, o9, ho9, rfl⟩ := hp
  refine w_top (show (mGo G T N).1 = nI d from ed) ?_
  exact K o9 d ho9 hps hti2 ls H locs (lv_sub hl [1, 2, 3, 4, 5, 6, 7, 8, 9, 10, 11, 12, 13, 15, 16, 17, 18, 19, 20, 14, 0] rfl) hP hD hS
