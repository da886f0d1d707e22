theorem bI_nar (P : Prop) : vp_nar .boolean (bI P) = bI P := by
  by_cases h : P
  · rw [bI_t h]; rfl
  · rw [bI_f h]; rfl

set_option maxHeartbeats 1000000 in
set_option maxRecDepth 100000 in
theorem law_B {p : Program} {l : Launch} {e : Env} {s : State} {m : MethodId} {args : Array Value} {below : List Frame} {meth : Method} {c : Code} {D : va_G} {k : Nat → ClassId} {A : Nat → Prop} {a tr o fa ba : Nat → Nat} {b x : Nat} {S U G T : HS} {n nf : Nat} {R : va_W} {ls : Array Slot} {H : Heap} {locs : List Loc} {Q : State → Prop} {cc ss t : Nat} {xv : Int32} (hC : CallFix p m c cL_law 28 s args lw_all RL) (hE : eK D k s) (hA : ∀ q : Nat, s.heap.size ≤ q → A q) (hcc : cc + 60 ≤ 600130) (hss : ss + 3000 ≤ 7301080) (hnf0 : 0 < nf) (hra : RA S G n nf) (hrb : RB S T n) (hti : TI T n) (hgi : GI G T n nf) (hl : lv_has ls 28 [(0, .ref b), (1, .ref x), (2, .ref (o 0)), (3, .int (nI t)), (4, .int xv)]) (hP : va_P D vwCl (LW k a tr o fa ba x S U G T n nf (mL T n) R) H) (hD : va_D A (LW k a tr o fa ba x S U G T n nf (mL T n) R)) (hS : va_S A s.heap H locs) (K : ∀ (q1 q2 q3 : Nat) (ls : Array Slot) (H : Heap) (locs : List Loc), lv_has ls 28 [(0, .ref b), (1, .ref x), (2, .ref (o 0)), (3, .int (nI t)), (4, .int xv), (5, .long (xDig S n nf)), (7, .int (nI n)), (8, .ref q1), (9, .ref q2), (10, .ref q3), (11, .int (nI (mFil G 1 n)))] → va_P D vwCl (LW k a tr o fa ba x S U G T n nf (mL T n) (R ++ [(q1, .inl (k 0, 6, .inl (atG T n))), (q2, .inl (k 0, 4, .inl (inG T n))), (q3, .inl (k 0, 4, .inl (baG G T n)))])) H → va_D A (LW k a tr o fa ba x S U G T n nf (mL T n) (R ++ [(q1, .inl (k 0, 6, .inl (atG T n))), (q2, .inl (k 0, 4, .inl (inG T n))), (q3, .inl (k 0, 4, .inl (baG G T n)))])) → va_S A s.heap H locs → W p l e room_1 s m args below meth c H locs (cc + 1 + 1 + 1) (ss + 6 + 4 + 4) Q (F0 m 341 ls [])) : W p l e room_1 s m args below meth c H locs cc ss Q (F0 m 80 ls []) := by
  have hx := hC.1
  have hb := hC.2.1
  have hown : s.vm.findClass RL = some m.cls := hC.2.2.2.1
  have hts := hC.2.2.2.2
  have hn := hra.n40
  have hnf := hra.nf6
  have hLn : mL T n ≤ n := ct_le _ n
  refine lv_aload_n hx hb dL_law_80 rfl (lv_at hl 1 rfl) ?_
  refine c_pVl (rest := []) hC hE hP (lx_digest l S n hra.sn hn nf hra.sf_ hnf) gc_RL_108 hd_X4_digest ⟨rfl, rfl⟩ ⟨Nat.le_of_ble_eq_true rfl, Nat.le_of_ble_eq_true rfl⟩ 29 lw_29 rfl rfl hl.1 (Nat.le_of_ble_eq_true rfl) ⟨(by show cc ≤ 600130; omega), (by show ss ≤ 7301080; omega)⟩ dL_law_81 ?_
  refine lv_lstore (lv' := [(5, .long (xDig S n nf)), (0, .ref b), (1, .ref x), (2, .ref (o 0)), (3, .int (nI t)), (4, .int xv)]) hx hb dL_law_84 hl (by decide) rfl (fun ls hl => ?_)
  refine lv_aload_n hx hb dL_law_86 rfl (lv_at hl 2 rfl) ?_
  refine c_pVi (rest := []) hC hE hP (lx_bags l S ) gc_RL_112 hd_X4_bags ⟨rfl, rfl⟩ ⟨Nat.le_of_ble_eq_true rfl, Nat.le_of_ble_eq_true rfl⟩ 29 lw_29 rfl rfl hl.1 (Nat.le_of_ble_eq_true rfl) ⟨(by show cc ≤ 600130; omega), (by show ss ≤ 7301080; omega)⟩ dL_law_87 ?_
  refine w_top (show S 0 4 = nI n from hra.sn) ?_
  refine lv_istore (lv' := [(7, .int (nI n)), (5, .long (xDig S n nf)), (0, .ref b), (1, .ref x), (2, .ref (o 0)), (3, .int (nI t)), (4, .int xv)]) hx hb dL_law_90 hl (by decide) rfl (fun ls hl => ?_)
  refine lv_bipush (v := 6) hx hb dL_law_92 (by decide) ?_
  refine i_newai (N := 6) hx hb (hts _ tw_49) hE hP hD hS hA (by decide) rfl (Nat.le_of_ble_eq_true rfl) (by show cc + 1 ≤ 600130; omega) (by show ss + 6 ≤ 7301080; omega) dL_law_94 (fun q1 H hP hD hS => ?_)
  rw [lw_more] at hP hD
  have hP : va_P D vwCl (LW k a tr o fa ba x S U G T n nf (mL T n) (R ++ [(q1, .inl (k 0, 6, .inl (fun _ => 0)))])) H := hP
  have hD : va_D A (LW k a tr o fa ba x S U G T n nf (mL T n) (R ++ [(q1, .inl (k 0, 6, .inl (fun _ => 0)))])) := hD
  refine lv_astore (lv' := [(8, .ref q1), (7, .int (nI n)), (5, .long (xDig S n nf)), (0, .ref b), (1, .ref x), (2, .ref (o 0)), (3, .int (nI t)), (4, .int xv)]) hx hb dL_law_96 hl (by decide) rfl (fun ls hl => ?_)
  refine lv_iconst (v := 4) hx hb dL_law_98 (by decide) ?_
  refine i_newai (N := 4) hx hb (hts _ tw_49) hE hP hD hS hA (by decide) rfl (Nat.le_of_ble_eq_true rfl) (by show cc + 1 + 1 ≤ 600130; omega) (by show ss + 6 + 4 ≤ 7301080; omega) dL_law_99 (fun q2 H hP hD hS => ?_)
  rw [lw_more, List.append_assoc] at hP hD
  have hP : va_P D vwCl (LW k a tr o fa ba x S U G T n nf (mL T n) (R ++ [(q1, .inl (k 0, 6, .inl (fun _ => 0))), (q2, .inl (k 0, 4, .inl (fun _ => 0)))])) H := hP
  have hD : va_D A (LW k a tr o fa ba x S U G T n nf (mL T n) (R ++ [(q1, .inl (k 0, 6, .inl (fun _ => 0))), (q2, .inl (k 0, 4, .inl (fun _ => 0)))])) := hD
  refine lv_astore (lv' := [(9, .ref q2), (8, .ref q1), (7, .int (nI n)), (5, .long (xDig S n nf)), (0, .ref b), (1, .ref x), (2, .ref (o 0)), (3, .int (nI t)), (4, .int xv)]) hx hb dL_law_101 hl (by decide) rfl (fun ls hl => ?_)
  refine lv_iconst (v := 4) hx hb dL_law_103 (by decide) ?_
  refine i_newai (N := 4) hx hb (hts _ tw_49) hE hP hD hS hA (by decide) rfl (Nat.le_of_ble_eq_true rfl) (by show cc + 1 + 1 + 1 ≤ 600130; omega) (by show ss + 6 + 4 + 4 ≤ 7301080; omega) dL_law_104 (fun q3 H hP hD hS => ?_)
  rw [lw_more, List.append_assoc] at hP hD
  have hP : va_P D vwCl (LW k a tr o fa ba x S U G T n nf (mL T n) (R ++ [(q1, .inl (k 0, 6, .inl (fun _ => 0))), (q2, .inl (k 0, 4, .inl (fun _ => 0))), (q3, .inl (k 0, 4, .inl (fun _ => 0)))])) H := hP
  have hD : va_D A (LW k a tr o fa ba x S U G T n nf (mL T n) (R ++ [(q1, .inl (k 0, 6, .inl (fun _ => 0))), (q2, .inl (k 0, 4, .inl (fun _ => 0))), (q3, .inl (k 0, 4, .inl (fun _ => 0)))])) := hD
  refine lv_astore (lv' := [(10, .ref q3), (9, .ref q2), (8, .ref q1), (7, .int (nI n)), (5, .long (xDig S n nf)), (0, .ref b), (1, .ref x), (2, .ref (o 0)), (3, .int (nI t)), (4, .int xv)]) hx hb dL_law_106 hl (by decide) rfl (fun ls hl => ?_)
  refine lv_iconst (v := 0) hx hb dL_law_108 (by decide) ?_
  refine lv_istore (lv' := [(11, .int 0), (10, .ref q3), (9, .ref q2), (8, .ref q1), (7, .int (nI n)), (5, .long (xDig S n nf)), (0, .ref b), (1, .ref x), (2, .ref (o 0)), (3, .int (nI t)), (4, .int xv)]) hx hb dL_law_109 hl (by decide) rfl (fun ls hl => ?_)
  refine lv_iconst (v := 0) hx hb dL_law_111 (by decide) ?_
  refine lv_istore (lv' := [(12, .int 0), (11, .int 0), (10, .ref q3), (9, .ref q2), (8, .ref q1), (7, .int (nI n)), (5, .long (xDig S n nf)), (0, .ref b), (1, .ref x), (2, .ref (o 0)), (3, .int (nI t)), (4, .int xv)]) hx hb dL_law_112 hl (by decide) rfl (fun ls hl => ?_)
  have hP : va_P D vwCl (LW k a tr o fa ba x S U G T n nf (mL T n) (R ++ [(q1, .inl (k 0, 6, .inl (atG T 0))), (q2, .inl (k 0, 4, .inl (inG T 0))), (q3, .inl (k 0, 4, .inl (baG G T 0)))])) H := by rw [atG_0, inG_0, baG_0]; exact hP
  have hD : va_D A (LW k a tr o fa ba x S U G T n nf (mL T n) (R ++ [(q1, .inl (k 0, 6, .inl (atG T 0))), (q2, .inl (k 0, 4, .inl (inG T 0))), (q3, .inl (k 0, 4, .inl (baG G T 0)))])) := by rw [atG_0, inG_0, baG_0]; exact hD
  refine w_forM (D := D) (A := A) (H0 := s.heap) (nL := 28) (N := n) (fun _ => True) (fun i => [(0, .ref b), (1, .ref x), (2, .ref (o 0)), (3, .int (nI t)), (4, .int xv), (5, .long (xDig S n nf)), (7, .int (nI n)), (8, .ref q1), (9, .ref q2), (10, .ref q3), (11, .int (nI (mFil G 1 i))), (12, .int (nI i))]) (fun i => (LW k a tr o fa ba x S U G T n nf (mL T n) (R ++ [(q1, .inl (k 0, 6, .inl (atG T i))), (q2, .inl (k 0, 4, .inl (inG T i))), (q3, .inl (k 0, 4, .inl (baG G T i)))]))) (fun ls H locs hI hl hP hD hS => ?_) (fun i hi hI ih ls H locs hl hP hD hS => ?_) 0 (Nat.zero_le _) trivial ?_ ?_ ?_ ?_
  · have hl : lv_has ls 28 [(0, .ref b), (1, .ref x), (2, .ref (o 0)), (3, .int (nI t)), (4, .int xv), (5, .long (xDig S n nf)), (7, .int (nI n)), (8, .ref q1), (9, .ref q2), (10, .ref q3), (11, .int (nI (mFil G 1 n))), (12, .int (nI n))] := hl
    have hP : va_P D vwCl (LW k a tr o fa ba x S U G T n nf (mL T n) (R ++ [(q1, .inl (k 0, 6, .inl (atG T n))), (q2, .inl (k 0, 4, .inl (inG T n))), (q3, .inl (k 0, 4, .inl (baG G T n)))])) H := hP
    have hD : va_D A (LW k a tr o fa ba x S U G T n nf (mL T n) (R ++ [(q1, .inl (k 0, 6, .inl (atG T n))), (q2, .inl (k 0, 4, .inl (inG T n))), (q3, .inl (k 0, 4, .inl (baG G T n)))])) := hD
    refine lv_iload hx hb dL_law_114 (lv_at hl 11 rfl) ?_
    refine lv_iload hx hb dL_law_116 (lv_at hl 6 rfl) ?_
    refine lv_icmp_ge (tgt := 341) hx hb dL_law_118 (by decide) (fun c_1 => ?_) (fun c_ => absurd (nI_le (Nat.le_refl n) (Nat.lt_of_le_of_lt hn (by decide))) c_)
    exact K q1 q2 q3 ls H locs (lv_sub hl [0, 1, 2, 3, 4, 5, 6, 7, 8, 9, 10] rfl) hP hD hS
  · have hl : lv_has ls 28 [(0, .ref b), (1, .ref x), (2, .ref (o 0)), (3, .int (nI t)), (4, .int xv), (5, .long (xDig S n nf)), (7, .int (nI n)), (8, .ref q1), (9, .ref q2), (10, .ref q3), (11, .int (nI (mFil G 1 i))), (12, .int (nI i))] := hl
    have hP : va_P D vwCl (LW k a tr o fa ba x S U G T n nf (mL T n) (R ++ [(q1, .inl (k 0, 6, .inl (atG T i))), (q2, .inl (k 0, 4, .inl (inG T i))), (q3, .inl (k 0, 4, .inl (baG G T i)))])) H := hP
    have hD : va_D A (LW k a tr o fa ba x S U G T n nf (mL T n) (R ++ [(q1, .inl (k 0, 6, .inl (atG T i))), (q2, .inl (k 0, 4, .inl (inG T i))), (q3, .inl (k 0, 4, .inl (baG G T i)))])) := hD
    refine lv_iload hx hb dL_law_114 (lv_at hl 11 rfl) ?_
    refine lv_iload hx hb dL_law_116 (lv_at hl 6 rfl) ?_
    refine lv_icmp_ge (tgt := 341) hx hb dL_law_118 (by decide) (fun c_ => absurd c_ (nI_ge hi (Nat.lt_of_le_of_lt hn (by decide)))) (fun c_2 => ?_)
    obtain ⟨w9, hw5, ew⟩ := hti.wh i hi
    obtain ⟨m9, hm3, em⟩ := hti.ms i hi
    obtain ⟨f2, k1, k2, k3, k4, k5⟩ := flight_of hra hi
    by_cases z1 : T 1 i = 1
    · obtain ⟨j9, g1, g3, g4⟩ := hrb.bl2 i hi z1
      refine lv_aload_n hx hb dL_law_121 rfl (lv_at hl 1 rfl) ?_
      refine lv_iload hx hb dL_law_122 (lv_at hl 11 rfl) ?_
      refine c_pVi (rest := []) hC hE hP (lx_whereIs l S (nI i) (xbag_n hra hi)) gc_RL_114 hd_X4_whereIs ⟨rfl, rfl⟩ ⟨Nat.le_of_ble_eq_true rfl, Nat.le_of_ble_eq_true rfl⟩ 29 lw_29 rfl rfl hl.1 (Nat.le_of_ble_eq_true rfl) ⟨(by show cc + 1 + 1 + 1 ≤ 600130; omega), (by show ss + 6 + 4 + 4 ≤ 7301080; omega)⟩ dL_law_124 ?_
      refine w_top (show rd 40 (S 6) (nI i) = T 1 i from (rd_40 (Nat.lt_of_lt_of_le hi hn)).trans (hrb.whr i hi)) ?_
      refine w_top (show T 1 i = nI w9 from ew) ?_
      refine lv_istore (lv' := [(13, .int (nI w9)), (0, .ref b), (1, .ref x), (2, .ref (o 0)), (3, .int (nI t)), (4, .int xv), (5, .long (xDig S n nf)), (7, .int (nI n)), (8, .ref q1), (9, .ref q2), (10, .ref q3), (11, .int (nI (mFil G 1 i))), (12, .int (nI i))]) hx hb dL_law_127 hl (by decide) rfl (fun ls hl => ?_)
      refine lv_aload_n hx hb dL_law_129 rfl (lv_at hl 2 rfl) ?_
      refine lv_iload hx hb dL_law_130 (lv_at hl 12 rfl) ?_
      refine c_pVi (rest := []) hC hE hP (lx_placeOf l S (nI i) (xbag_n hra hi)) gc_RL_117 hd_X4_placeOf ⟨rfl, rfl⟩ ⟨Nat.le_of_ble_eq_true rfl, Nat.le_of_ble_eq_true rfl⟩ 29 lw_29 rfl rfl hl.1 (Nat.le_of_ble_eq_true rfl) ⟨(by show cc + 1 + 1 + 1 ≤ 600130; omega), (by show ss + 6 + 4 + 4 ≤ 7301080; omega)⟩ dL_law_132 ?_
      refine w_top (show fnd (S 12) (nI i) 0 12 = mPl T i 1 from place_eq hrb hi) ?_
      refine w_top (show mPl T i 1 = nI j9 from (sel_t z1 _ _).trans g3) ?_
      refine lv_istore (lv' := [(14, .int (nI j9)), (13, .int (nI w9)), (0, .ref b), (1, .ref x), (2, .ref (o 0)), (3, .int (nI t)), (4, .int xv), (5, .long (xDig S n nf)), (7, .int (nI n)), (8, .ref q1), (9, .ref q2), (10, .ref q3), (11, .int (nI (mFil G 1 i))), (12, .int (nI i))]) hx hb dL_law_135 hl (by decide) rfl (fun ls hl => ?_)
      refine lv_aload_n hx hb dL_law_137 rfl (lv_at hl 3 rfl) ?_
      refine lv_iload hx hb dL_law_138 (lv_at hl 13 rfl) ?_
      refine c_pVi (rest := []) hC hE hP (lx_chuteOf l S (nI i) (xbag_n hra hi)) gc_RL_120 hd_X4_chuteOf ⟨rfl, rfl⟩ ⟨Nat.le_of_ble_eq_true rfl, Nat.le_of_ble_eq_true rfl⟩ 29 lw_29 rfl rfl hl.1 (Nat.le_of_ble_eq_true rfl) ⟨(by show cc + 1 + 1 + 1 ≤ 600130; omega), (by show ss + 6 + 4 + 4 ≤ 7301080; omega)⟩ dL_law_140 ?_
      refine w_top (show rd 40 (S 7) (nI i) = mPl T i 2 from (rd_40 (Nat.lt_of_lt_of_le hi hn)).trans (chute_eq hrb hi)) ?_
      refine w_top (show mPl T i 2 = (-1) from sel_f (by rw [z1]; decide) _ _) ?_
      refine lv_istore (lv' := [(15, .int (-1)), (14, .int (nI j9)), (13, .int (nI w9)), (0, .ref b), (1, .ref x), (2, .ref (o 0)), (3, .int (nI t)), (4, .int xv), (5, .long (xDig S n nf)), (7, .int (nI n)), (8, .ref q1), (9, .ref q2), (10, .ref q3), (11, .int (nI (mFil G 1 i))), (12, .int (nI i))]) hx hb dL_law_143 hl (by decide) rfl (fun ls hl => ?_)
      refine lv_iload hx hb dL_law_145 (lv_at hl 2 rfl) ?_
      refine lv_if_lt (tgt := 249) hx hb dL_law_147 (by decide) (fun c_ => absurd c_ (nI_pos (by omega))) (fun c_3 => ?_)
      refine lv_iload hx hb dL_law_150 (lv_at hl 2 rfl) ?_
      refine lv_iconst (v := 5) hx hb dL_law_152 (by decide) ?_
      refine lv_icmp_gt (tgt := 249) hx hb dL_law_153 (by decide) (fun c_ => absurd c_ (le5 (by omega))) (fun c_4 => ?_)
      refine lv_iload hx hb dL_law_156 (lv_at hl 1 rfl) ?_
      refine lv_if_lt (tgt := 165) hx hb dL_law_158 (by decide) (fun c_ => absurd c_ (nI_pos (by omega))) (fun c_5 => ?_)
      refine lv_iconst (v := 1) hx hb dL_law_161 (by decide) ?_
      refine lv_goto (tgt := 166) hx hb dL_law_162 (by decide) ?_
      refine lv_iload hx hb dL_law_166 (lv_at hl 2 rfl) ?_
      refine lv_iconst (v := 1) hx hb dL_law_168 (by decide) ?_
      refine lv_icmp_ne (tgt := 176) hx hb dL_law_169 (by decide) (fun c_ => absurd (ew.symm.trans z1) c_) (fun c_6 => ?_)
      refine lv_iconst (v := 1) hx hb dL_law_172 (by decide) ?_
      refine lv_goto (tgt := 177) hx hb dL_law_173 (by decide) ?_
      refine lv_icmp_ne (tgt := 249) hx hb dL_law_177 (by decide) (fun c_ => absurd rfl c_) (fun c_7 => ?_)
      refine lv_iload hx hb dL_law_180 (lv_at hl 0 rfl) ?_
      refine lv_if_lt (tgt := 189) hx hb dL_law_182 (by decide) (fun c_8 => ?_) (fun c_ => absurd (by decide) c_)
      refine lv_iconst (v := 0) hx hb dL_law_189 (by decide) ?_
      refine lv_iload hx hb dL_law_190 (lv_at hl 2 rfl) ?_
      refine lv_iconst (v := 2) hx hb dL_law_192 (by decide) ?_
      refine lv_icmp_ne (tgt := 200) hx hb dL_law_193 (by decide) (fun c_9 => ?_) (fun c_ => absurd c_ (fun z => absurd (z1.symm.trans (ew.trans z)) (by decide)))
      refine lv_iconst (v := 0) hx hb dL_law_200 (by decide) ?_
      refine lv_icmp_ne (tgt := 249) hx hb dL_law_201 (by decide) (fun c_ => absurd rfl c_) (fun c_10 => ?_)
      refine lv_iload hx hb dL_law_204 (lv_at hl 1 rfl) ?_
      refine lv_if_lt (tgt := 220) hx hb dL_law_206 (by decide) (fun c_ => absurd c_ (nI_pos (by omega))) (fun c_11 => ?_)
      refine lv_aload_n hx hb dL_law_209 rfl (lv_at hl 4 rfl) ?_
      refine lv_iload hx hb dL_law_210 (lv_at hl 1 rfl) ?_
      refine c_pVi (rest := []) hC hE hP (lx_bagAt l S (nI j9) ⟨nI_pos (by omega), lt_12 g1⟩) gc_RL_123 hd_X4_bagAt ⟨rfl, rfl⟩ ⟨Nat.le_of_ble_eq_true rfl, Nat.le_of_ble_eq_true rfl⟩ 29 lw_29 rfl rfl hl.1 (Nat.le_of_ble_eq_true rfl) ⟨(by show cc + 1 + 1 + 1 ≤ 600130; omega), (by show ss + 6 + 4 + 4 ≤ 7301080; omega)⟩ dL_law_212 ?_
      refine w_top (show rd 12 (S 12) (nI j9) = T 5 j9 from (rd_12 g1).trans (hrb.bel j9 g1)) ?_
      refine w_top (show T 5 j9 = nI i from g4) ?_
      refine lv_iload hx hb dL_law_215 (lv_at hl 14 rfl) ?_
      refine lv_icmp_ne (tgt := 249) hx hb dL_law_217 (by decide) (fun c_ => absurd rfl c_) (fun c_12 => ?_)
      refine lv_aload_n hx hb dL_law_220 rfl (lv_at hl 4 rfl) ?_
      refine lv_iload hx hb dL_law_221 (lv_at hl 14 rfl) ?_
      refine c_pVi (rest := []) hC hE hP (lx_missesOf l S (nI i) (xbag_n hra hi)) gc_RL_126 hd_X4_missesOf ⟨rfl, rfl⟩ ⟨Nat.le_of_ble_eq_true rfl, Nat.le_of_ble_eq_true rfl⟩ 29 lw_29 rfl rfl hl.1 (Nat.le_of_ble_eq_true rfl) ⟨(by show cc + 1 + 1 + 1 ≤ 600130; omega), (by show ss + 6 + 4 + 4 ≤ 7301080; omega)⟩ dL_law_223 ?_
      refine w_top (show rd 40 (S 9) (nI i) = T 4 i from (rd_40 (Nat.lt_of_lt_of_le hi hn)).trans (hrb.mis i hi)) ?_
      refine w_top (show T 4 i = nI m9 from em) ?_
      refine lv_if_lt (tgt := 249) hx hb dL_law_226 (by decide) (fun c_ => absurd c_ (nI_pos (by omega))) (fun c_13 => ?_)
      refine lv_aload_n hx hb dL_law_229 rfl (lv_at hl 4 rfl) ?_
      refine lv_iload hx hb dL_law_230 (lv_at hl 14 rfl) ?_
      refine c_pVi (rest := []) hC hE hP (lx_missesOf l S (nI i) (xbag_n hra hi)) gc_RL_126 hd_X4_missesOf ⟨rfl, rfl⟩ ⟨Nat.le_of_ble_eq_true rfl, Nat.le_of_ble_eq_true rfl⟩ 29 lw_29 rfl rfl hl.1 (Nat.le_of_ble_eq_true rfl) ⟨(by show cc + 1 + 1 + 1 ≤ 600130; omega), (by show ss + 6 + 4 + 4 ≤ 7301080; omega)⟩ dL_law_232 ?_
      refine w_top (show rd 40 (S 9) (nI i) = T 4 i from (rd_40 (Nat.lt_of_lt_of_le hi hn)).trans (hrb.mis i hi)) ?_
      refine w_top (show T 4 i = nI m9 from em) ?_
      refine lv_iconst (v := 3) hx hb dL_law_235 (by decide) ?_
      refine lv_icmp_gt (tgt := 249) hx hb dL_law_236 (by decide) (fun c_ => absurd c_ (le3 hm3)) (fun c_14 => ?_)
      refine lv_aload_n hx hb dL_law_239 rfl (lv_at hl 4 rfl) ?_
      refine lv_iload hx hb dL_law_240 (lv_at hl 14 rfl) ?_
      refine c_pVi (rest := []) hC hE hP (lx_readFor l S (nI i) (xbag_n hra hi)) gc_RL_129 hd_X4_readFor ⟨rfl, rfl⟩ ⟨Nat.le_of_ble_eq_true rfl, Nat.le_of_ble_eq_true rfl⟩ 29 lw_29 rfl rfl hl.1 (Nat.le_of_ble_eq_true rfl) ⟨(by show cc + 1 + 1 + 1 ≤ 600130; omega), (by show ss + 6 + 4 + 4 ≤ 7301080; omega)⟩ dL_law_242 ?_
      refine w_top (show rd 40 (S 8) (nI i) = T 3 i from (rd_40 (Nat.lt_of_lt_of_le hi hn)).trans (hrb.rdd i hi)) ?_
      refine lv_iconst (v := 3) hx hb dL_law_245 (by decide) ?_
      refine lv_icmp_le (tgt := 251) hx hb dL_law_246 (by decide) (fun c_15 => ?_) (fun c_ => absurd (rd_le3 (hti.rd i hi)) c_)
      refine lv_aload hx hb dL_law_251 (lv_at hl 10 rfl) ?_
      refine lv_iload hx hb dL_law_253 (lv_at hl 2 rfl) ?_
      refine lv_dup2_11 hx hb dL_law_255 rfl rfl ?_
      refine k_iald (j := w9) hx hb hE hP (64 + nf + n + (R.length + 0)) ((lw_Ri (i := 0)).trans rfl) (by omega) (by decide) dL_law_256 ?_
      refine lv_iconst (v := 1) hx hb dL_law_257 (by decide) ?_
      refine lv_iadd hx hb dL_law_258 ?_
      refine k_iast (j := w9) hx hb hE hP hD hS (64 + nf + n + (R.length + 0)) ((lw_Ri (i := 0)).trans rfl) (by omega) (by decide) dL_law_259 (fun H locs hP hD hS => ?_)
      rw [lw_Riset (i := 0)] at hP hD
      have hP : va_P D vwCl (LW k a tr o fa ba x S U G T n nf (mL T n) (R ++ [(q1, .inl (k 0, 6, .inl (upd (atG T i) w9 (((atG T i) w9) + 1)))), (q2, .inl (k 0, 4, .inl (inG T i))), (q3, .inl (k 0, 4, .inl (baG G T i)))])) H := hP
      have hD : va_D A (LW k a tr o fa ba x S U G T n nf (mL T n) (R ++ [(q1, .inl (k 0, 6, .inl (upd (atG T i) w9 (((atG T i) w9) + 1)))), (q2, .inl (k 0, 4, .inl (inG T i))), (q3, .inl (k 0, 4, .inl (baG G T i)))])) := hD
      refine lv_iload hx hb dL_law_260 (lv_at hl 0 rfl) ?_
      refine lv_if_lt (tgt := 274) hx hb dL_law_262 (by decide) (fun c_16 => ?_) (fun c_ => absurd (by decide) c_)
      refine lv_aload_n hx hb dL_law_274 rfl (lv_at hl 4 rfl) ?_
      refine lv_iload hx hb dL_law_275 (lv_at hl 14 rfl) ?_
      refine c_pVi (rest := []) hC hE hP (lx_isMisrouted l S (nI i) (xbag_n hra hi)) gc_RL_132 hd_X4_isMisrouted ⟨rfl, rfl⟩ ⟨Nat.le_of_ble_eq_true rfl, Nat.le_of_ble_eq_true rfl⟩ 29 lw_29 rfl rfl hl.1 (Nat.le_of_ble_eq_true rfl) ⟨(by show cc + 1 + 1 + 1 ≤ 600130; omega), (by show ss + 6 + 4 + 4 ≤ 7301080; omega)⟩ dL_law_277 ?_
      refine w_top (show bI (xAst S (nI i)) = bI (mMis G T i) from bI_cong (ast_iff hra hrb hi)) ?_
      refine lv_if_eq (tgt := 299) hx hb dL_law_280 (by decide) (fun c_17 => ?_) (fun c_ => absurd (bI_n c_) (fun z => absurd (z1.symm.trans z.1) (by decide)))
      refine lv_aload_n hx hb dL_law_299 rfl (lv_at hl 4 rfl) ?_
      refine lv_iload hx hb dL_law_300 (lv_at hl 14 rfl) ?_
      refine c_pVi (rest := []) hC hE hP (lx_hasOpenFile l S (nI i) (xbag_n hra hi)) gc_RL_133 hd_X4_hasOpenFile ⟨rfl, rfl⟩ ⟨Nat.le_of_ble_eq_true rfl, Nat.le_of_ble_eq_true rfl⟩ 29 lw_29 rfl rfl hl.1 (Nat.le_of_ble_eq_true rfl) ⟨(by show cc + 1 + 1 + 1 ≤ 600130; omega), (by show ss + 6 + 4 + 4 ≤ 7301080; omega)⟩ dL_law_302 ?_
      refine w_top (show bI (rd 40 (S 10) (nI i) = 1) = bI (G 7 i = 1) from bI_cong (by rw [rd_40 (Nat.lt_of_lt_of_le hi hn), hra.fil i hi])) ?_
      refine lv_if_ne (tgt := 311) hx hb dL_law_305 (by decide) (fun c_18 => ?_) (fun c_18 => ?_)
      · have c_18 := bI_n c_18
        refine lv_iinc (v := nI ((mFil G 1 i) + 1)) (lv' := [(11, .int (nI ((mFil G 1 i) + 1))), (15, .int (-1)), (14, .int (nI j9)), (13, .int (nI w9)), (0, .ref b), (1, .ref x), (2, .ref (o 0)), (3, .int (nI t)), (4, .int xv), (5, .long (xDig S n nf)), (7, .int (nI n)), (8, .ref q1), (9, .ref q2), (10, .ref q3), (12, .int (nI i))]) hx hb dL_law_311 hl (k := 13) rfl (iinc1 _) (by decide) rfl (fun ls hl => ?_)
        refine lv_iload hx hb dL_law_314 (lv_at hl 3 rfl) ?_
        refine lv_iconst (v := 5) hx hb dL_law_316 (by decide) ?_
        refine lv_icmp_eq (tgt := 333) hx hb dL_law_317 (by decide) (fun c_ => absurd c_ (fun z => (hgi.op i hi c_18).2 (ew.trans z))) (fun c_19 => ?_)
        refine lv_aload_n hx hb dL_law_320 rfl (lv_at hl 5 rfl) ?_
        refine lv_aload_n hx hb dL_law_321 rfl (lv_at hl 5 rfl) ?_
        refine lv_iload hx hb dL_law_322 (lv_at hl 14 rfl) ?_
        refine c_pVi (rest := [.ref x]) hC hE hP (lx_flightOf l S (nI i) (xbag_n hra hi)) gc_RL_136 hd_X4_flightOf ⟨rfl, rfl⟩ ⟨Nat.le_of_ble_eq_true rfl, Nat.le_of_ble_eq_true rfl⟩ 29 lw_29 rfl rfl hl.1 (Nat.le_of_ble_eq_true rfl) ⟨(by show cc + 1 + 1 + 1 ≤ 600130; omega), (by show ss + 6 + 4 + 4 ≤ 7301080; omega)⟩ dL_law_324 ?_
        refine w_top (show rd 40 (S 3) (nI i) = G 4 i from (rd_40 (Nat.lt_of_lt_of_le hi hn)).trans (hra.fli i hi).1) ?_
        refine w_top (show G 4 i = nI f2 from k3) ?_
        refine c_pVi (rest := []) hC hE hP (lx_isGone l S (nI f2) (xflt_n hra k1)) gc_RL_139 hd_X4_isGone ⟨rfl, rfl⟩ ⟨Nat.le_of_ble_eq_true rfl, Nat.le_of_ble_eq_true rfl⟩ 29 lw_29 rfl rfl hl.1 (Nat.le_of_ble_eq_true rfl) ⟨(by show cc + 1 + 1 + 1 ≤ 600130; omega), (by show ss + 6 + 4 + 4 ≤ 7301080; omega)⟩ dL_law_327 ?_
        refine w_top (show bI (xGone S (nI f2)) = bI (G 2 f2 = 1) from bI_cong (by show rd 6 (S 2) (nI f2) = 1 ↔ _; rw [rd_6 (Nat.lt_of_lt_of_le k1 hnf), hra.gon f2 (Nat.lt_of_lt_of_le k1 hnf)])) ?_
        refine lv_if_ne (tgt := 335) hx hb dL_law_330 (by decide) (fun c_20 => ?_) (fun c_ => absurd (by have z := (hgi.op i hi c_18).1; rw [k5] at z; exact z) (bI_0 c_))
        refine lv_iinc (v := nI (i + 1)) (lv' := [(12, .int (nI (i + 1))), (11, .int (nI ((mFil G 1 i) + 1))), (15, .int (-1)), (14, .int (nI j9)), (13, .int (nI w9)), (0, .ref b), (1, .ref x), (2, .ref (o 0)), (3, .int (nI t)), (4, .int xv), (5, .long (xDig S n nf)), (7, .int (nI n)), (8, .ref q1), (9, .ref q2), (10, .ref q3)]) hx hb dL_law_335 hl (k := 14) rfl (iinc1 _) (by decide) rfl (fun ls hl => ?_)
        refine lv_goto (tgt := 114) hx hb dL_law_338 (by decide) ?_
        have e9 : atG T (i + 1) = upd (atG T i) w9 (((atG T i) w9) + 1) := atG_s ew (by omega)
        have e8 : inG T (i + 1) = inG T i := inG_s0 (by rw [z1]; decide)
        have e7 : baG G T (i + 1) = baG G T i := baG_s0 (fun z => absurd (z1.symm.trans z.1) (by decide))
        have e6 : mFil G 1 (i + 1) = mFil G 1 i + 1 := ct_t (p := fun b => G 7 b = 1) c_18
        have hP9 : va_P D vwCl (LW k a tr o fa ba x S U G T n nf (mL T n) (R ++ [(q1, .inl (k 0, 6, .inl (atG T (i + 1)))), (q2, .inl (k 0, 4, .inl (inG T (i + 1)))), (q3, .inl (k 0, 4, .inl (baG G T (i + 1))))])) H := by rw [e9, e8, e7]; exact hP
        have hD9 : va_D A (LW k a tr o fa ba x S U G T n nf (mL T n) (R ++ [(q1, .inl (k 0, 6, .inl (atG T (i + 1)))), (q2, .inl (k 0, 4, .inl (inG T (i + 1)))), (q3, .inl (k 0, 4, .inl (baG G T (i + 1))))])) := by rw [e9, e8, e7]; exact hD
        have h99 := ih ls H locs trivial (by show lv_has ls 28 [(0, .ref b), (1, .ref x), (2, .ref (o 0)), (3, .int (nI t)), (4, .int xv), (5, .long (xDig S n nf)), (7, .int (nI n)), (8, .ref q1), (9, .ref q2), (10, .ref q3), (11, .int (nI (mFil G 1 (i + 1)))), (12, .int (nI (i + 1)))]; rw [e6]; exact lv_sub hl [5, 6, 7, 8, 9, 10, 11, 12, 13, 14, 1, 0] rfl)
        exact h99 hP9 hD9 hS
      · have c_18 := bI_0 c_18
        refine lv_goto (tgt := 335) hx hb dL_law_308 (by decide) ?_
        refine lv_iinc (v := nI (i + 1)) (lv' := [(12, .int (nI (i + 1))), (15, .int (-1)), (14, .int (nI j9)), (13, .int (nI w9)), (0, .ref b), (1, .ref x), (2, .ref (o 0)), (3, .int (nI t)), (4, .int xv), (5, .long (xDig S n nf)), (7, .int (nI n)), (8, .ref q1), (9, .ref q2), (10, .ref q3), (11, .int (nI (mFil G 1 i)))]) hx hb dL_law_335 hl (k := 14) rfl (iinc1 _) (by decide) rfl (fun ls hl => ?_)
        refine lv_goto (tgt := 114) hx hb dL_law_338 (by decide) ?_
        have e9 : atG T (i + 1) = upd (atG T i) w9 (((atG T i) w9) + 1) := atG_s ew (by omega)
        have e8 : inG T (i + 1) = inG T i := inG_s0 (by rw [z1]; decide)
        have e7 : baG G T (i + 1) = baG G T i := baG_s0 (fun z => absurd (z1.symm.trans z.1) (by decide))
        have e6 : mFil G 1 (i + 1) = mFil G 1 i := ct_f (p := fun b => G 7 b = 1) c_18
        have hP9 : va_P D vwCl (LW k a tr o fa ba x S U G T n nf (mL T n) (R ++ [(q1, .inl (k 0, 6, .inl (atG T (i + 1)))), (q2, .inl (k 0, 4, .inl (inG T (i + 1)))), (q3, .inl (k 0, 4, .inl (baG G T (i + 1))))])) H := by rw [e9, e8, e7]; exact hP
        have hD9 : va_D A (LW k a tr o fa ba x S U G T n nf (mL T n) (R ++ [(q1, .inl (k 0, 6, .inl (atG T (i + 1)))), (q2, .inl (k 0, 4, .inl (inG T (i + 1)))), (q3, .inl (k 0, 4, .inl (baG G T (i + 1))))])) := by rw [e9, e8, e7]; exact hD
        have h99 := ih ls H locs trivial (by show lv_has ls 28 [(0, .ref b), (1, .ref x), (2, .ref (o 0)), (3, .int (nI t)), (4, .int xv), (5, .long (xDig S n nf)), (7, .int (nI n)), (8, .ref q1), (9, .ref q2), (10, .ref q3), (11, .int (nI (mFil G 1 (i + 1)))), (12, .int (nI (i + 1)))]; rw [e6]; exact lv_sub hl [4, 5, 6, 7, 8, 9, 10, 11, 12, 13, 14, 0] rfl)
        exact h99 hP9 hD9 hS
    · by_cases z2 : T 1 i = 2
      · obtain ⟨-, c9, g1, g3⟩ := hrb.cin i hi z2
        have z1w : ¬ nI w9 = 1 := fun z => z1 (ew.trans z)
        refine lv_aload_n hx hb dL_law_121 rfl (lv_at hl 1 rfl) ?_
        refine lv_iload hx hb dL_law_122 (lv_at hl 11 rfl) ?_
        refine c_pVi (rest := []) hC hE hP (lx_whereIs l S (nI i) (xbag_n hra hi)) gc_RL_114 hd_X4_whereIs ⟨rfl, rfl⟩ ⟨Nat.le_of_ble_eq_true rfl, Nat.le_of_ble_eq_true rfl⟩ 29 lw_29 rfl rfl hl.1 (Nat.le_of_ble_eq_true rfl) ⟨(by show cc + 1 + 1 + 1 ≤ 600130; omega), (by show ss + 6 + 4 + 4 ≤ 7301080; omega)⟩ dL_law_124 ?_
        refine w_top (show rd 40 (S 6) (nI i) = T 1 i from (rd_40 (Nat.lt_of_lt_of_le hi hn)).trans (hrb.whr i hi)) ?_
        refine w_top (show T 1 i = nI w9 from ew) ?_
        refine lv_istore (lv' := [(13, .int (nI w9)), (0, .ref b), (1, .ref x), (2, .ref (o 0)), (3, .int (nI t)), (4, .int xv), (5, .long (xDig S n nf)), (7, .int (nI n)), (8, .ref q1), (9, .ref q2), (10, .ref q3), (11, .int (nI (mFil G 1 i))), (12, .int (nI i))]) hx hb dL_law_127 hl (by decide) rfl (fun ls hl => ?_)
        refine lv_aload_n hx hb dL_law_129 rfl (lv_at hl 2 rfl) ?_
        refine lv_iload hx hb dL_law_130 (lv_at hl 12 rfl) ?_
        refine c_pVi (rest := []) hC hE hP (lx_placeOf l S (nI i) (xbag_n hra hi)) gc_RL_117 hd_X4_placeOf ⟨rfl, rfl⟩ ⟨Nat.le_of_ble_eq_true rfl, Nat.le_of_ble_eq_true rfl⟩ 29 lw_29 rfl rfl hl.1 (Nat.le_of_ble_eq_true rfl) ⟨(by show cc + 1 + 1 + 1 ≤ 600130; omega), (by show ss + 6 + 4 + 4 ≤ 7301080; omega)⟩ dL_law_132 ?_
        refine w_top (show fnd (S 12) (nI i) 0 12 = mPl T i 1 from place_eq hrb hi) ?_
        refine w_top (show mPl T i 1 = (-1) from sel_f z1 _ _) ?_
        refine lv_istore (lv' := [(14, .int (-1)), (13, .int (nI w9)), (0, .ref b), (1, .ref x), (2, .ref (o 0)), (3, .int (nI t)), (4, .int xv), (5, .long (xDig S n nf)), (7, .int (nI n)), (8, .ref q1), (9, .ref q2), (10, .ref q3), (11, .int (nI (mFil G 1 i))), (12, .int (nI i))]) hx hb dL_law_135 hl (by decide) rfl (fun ls hl => ?_)
        refine lv_aload_n hx hb dL_law_137 rfl (lv_at hl 3 rfl) ?_
        refine lv_iload hx hb dL_law_138 (lv_at hl 13 rfl) ?_
        refine c_pVi (rest := []) hC hE hP (lx_chuteOf l S (nI i) (xbag_n hra hi)) gc_RL_120 hd_X4_chuteOf ⟨rfl, rfl⟩ ⟨Nat.le_of_ble_eq_true rfl, Nat.le_of_ble_eq_true rfl⟩ 29 lw_29 rfl rfl hl.1 (Nat.le_of_ble_eq_true rfl) ⟨(by show cc + 1 + 1 + 1 ≤ 600130; omega), (by show ss + 6 + 4 + 4 ≤ 7301080; omega)⟩ dL_law_140 ?_
        refine w_top (show rd 40 (S 7) (nI i) = mPl T i 2 from (rd_40 (Nat.lt_of_lt_of_le hi hn)).trans (chute_eq hrb hi)) ?_
        refine w_top (show mPl T i 2 = nI c9 from (sel_t z2 _ _).trans g3) ?_
        refine lv_istore (lv' := [(15, .int (nI c9)), (14, .int (-1)), (13, .int (nI w9)), (0, .ref b), (1, .ref x), (2, .ref (o 0)), (3, .int (nI t)), (4, .int xv), (5, .long (xDig S n nf)), (7, .int (nI n)), (8, .ref q1), (9, .ref q2), (10, .ref q3), (11, .int (nI (mFil G 1 i))), (12, .int (nI i))]) hx hb dL_law_143 hl (by decide) rfl (fun ls hl => ?_)
        refine lv_iload hx hb dL_law_145 (lv_at hl 2 rfl) ?_
        refine lv_if_lt (tgt := 249) hx hb dL_law_147 (by decide) (fun c_ => absurd c_ (nI_pos (by omega))) (fun c_21 => ?_)
        refine lv_iload hx hb dL_law_150 (lv_at hl 2 rfl) ?_
        refine lv_iconst (v := 5) hx hb dL_law_152 (by decide) ?_
        refine lv_icmp_gt (tgt := 249) hx hb dL_law_153 (by decide) (fun c_ => absurd c_ (le5 (by omega))) (fun c_22 => ?_)
        refine lv_iload hx hb dL_law_156 (lv_at hl 1 rfl) ?_
        refine lv_if_lt (tgt := 165) hx hb dL_law_158 (by decide) (fun c_23 => ?_) (fun c_ => absurd (by decide) c_)
        refine lv_iconst (v := 0) hx hb dL_law_165 (by decide) ?_
        refine lv_iload hx hb dL_law_166 (lv_at hl 2 rfl) ?_
        refine lv_iconst (v := 1) hx hb dL_law_168 (by decide) ?_
        refine lv_icmp_ne (tgt := 176) hx hb dL_law_169 (by decide) (fun c_24 => ?_) (fun c_ => absurd c_ z1w)
        refine lv_iconst (v := 0) hx hb dL_law_176 (by decide) ?_
        refine lv_icmp_ne (tgt := 249) hx hb dL_law_177 (by decide) (fun c_ => absurd rfl c_) (fun c_25 => ?_)
        refine lv_iload hx hb dL_law_180 (lv_at hl 0 rfl) ?_
        refine lv_if_lt (tgt := 189) hx hb dL_law_182 (by decide) (fun c_ => absurd c_ (nI_pos (by omega))) (fun c_26 => ?_)
        refine lv_iconst (v := 1) hx hb dL_law_185 (by decide) ?_
        refine lv_goto (tgt := 190) hx hb dL_law_186 (by decide) ?_
        refine lv_iload hx hb dL_law_190 (lv_at hl 2 rfl) ?_
        refine lv_iconst (v := 2) hx hb dL_law_192 (by decide) ?_
        refine lv_icmp_ne (tgt := 200) hx hb dL_law_193 (by decide) (fun c_ => absurd (ew.symm.trans z2) c_) (fun c_27 => ?_)
        refine lv_iconst (v := 1) hx hb dL_law_196 (by decide) ?_
        refine lv_goto (tgt := 201) hx hb dL_law_197 (by decide) ?_
        refine lv_icmp_ne (tgt := 249) hx hb dL_law_201 (by decide) (fun c_ => absurd rfl c_) (fun c_28 => ?_)
        refine lv_iload hx hb dL_law_204 (lv_at hl 1 rfl) ?_
        refine lv_if_lt (tgt := 220) hx hb dL_law_206 (by decide) (fun c_29 => ?_) (fun c_ => absurd (by decide) c_)
        refine lv_aload_n hx hb dL_law_220 rfl (lv_at hl 4 rfl) ?_
        refine lv_iload hx hb dL_law_221 (lv_at hl 14 rfl) ?_
        refine c_pVi (rest := []) hC hE hP (lx_missesOf l S (nI i) (xbag_n hra hi)) gc_RL_126 hd_X4_missesOf ⟨rfl, rfl⟩ ⟨Nat.le_of_ble_eq_true rfl, Nat.le_of_ble_eq_true rfl⟩ 29 lw_29 rfl rfl hl.1 (Nat.le_of_ble_eq_true rfl) ⟨(by show cc + 1 + 1 + 1 ≤ 600130; omega), (by show ss + 6 + 4 + 4 ≤ 7301080; omega)⟩ dL_law_223 ?_
        refine w_top (show rd 40 (S 9) (nI i) = T 4 i from (rd_40 (Nat.lt_of_lt_of_le hi hn)).trans (hrb.mis i hi)) ?_
        refine w_top (show T 4 i = nI m9 from em) ?_
        refine lv_if_lt (tgt := 249) hx hb dL_law_226 (by decide) (fun c_ => absurd c_ (nI_pos (by omega))) (fun c_30 => ?_)
        refine lv_aload_n hx hb dL_law_229 rfl (lv_at hl 4 rfl) ?_
        refine lv_iload hx hb dL_law_230 (lv_at hl 14 rfl) ?_
        refine c_pVi (rest := []) hC hE hP (lx_missesOf l S (nI i) (xbag_n hra hi)) gc_RL_126 hd_X4_missesOf ⟨rfl, rfl⟩ ⟨Nat.le_of_ble_eq_true rfl, Nat.le_of_ble_eq_true rfl⟩ 29 lw_29 rfl rfl hl.1 (Nat.le_of_ble_eq_true rfl) ⟨(by show cc + 1 + 1 + 1 ≤ 600130; omega), (by show ss + 6 + 4 + 4 ≤ 7301080; omega)⟩ dL_law_232 ?_
        refine w_top (show rd 40 (S 9) (nI i) = T 4 i from (rd_40 (Nat.lt_of_lt_of_le hi hn)).trans (hrb.mis i hi)) ?_
        refine w_top (show T 4 i = nI m9 from em) ?_
        refine lv_iconst (v := 3) hx hb dL_law_235 (by decide) ?_
        refine lv_icmp_gt (tgt := 249) hx hb dL_law_236 (by decide) (fun c_ => absurd c_ (le3 hm3)) (fun c_31 => ?_)
        refine lv_aload_n hx hb dL_law_239 rfl (lv_at hl 4 rfl) ?_
        refine lv_iload hx hb dL_law_240 (lv_at hl 14 rfl) ?_
        refine c_pVi (rest := []) hC hE hP (lx_readFor l S (nI i) (xbag_n hra hi)) gc_RL_129 hd_X4_readFor ⟨rfl, rfl⟩ ⟨Nat.le_of_ble_eq_true rfl, Nat.le_of_ble_eq_true rfl⟩ 29 lw_29 rfl rfl hl.1 (Nat.le_of_ble_eq_true rfl) ⟨(by show cc + 1 + 1 + 1 ≤ 600130; omega), (by show ss + 6 + 4 + 4 ≤ 7301080; omega)⟩ dL_law_242 ?_
        refine w_top (show rd 40 (S 8) (nI i) = T 3 i from (rd_40 (Nat.lt_of_lt_of_le hi hn)).trans (hrb.rdd i hi)) ?_
        refine lv_iconst (v := 3) hx hb dL_law_245 (by decide) ?_
        refine lv_icmp_le (tgt := 251) hx hb dL_law_246 (by decide) (fun c_32 => ?_) (fun c_ => absurd (rd_le3 (hti.rd i hi)) c_)
        refine lv_aload hx hb dL_law_251 (lv_at hl 10 rfl) ?_
        refine lv_iload hx hb dL_law_253 (lv_at hl 2 rfl) ?_
        refine lv_dup2_11 hx hb dL_law_255 rfl rfl ?_
        refine k_iald (j := w9) hx hb hE hP (64 + nf + n + (R.length + 0)) ((lw_Ri (i := 0)).trans rfl) (by omega) (by decide) dL_law_256 ?_
        refine lv_iconst (v := 1) hx hb dL_law_257 (by decide) ?_
        refine lv_iadd hx hb dL_law_258 ?_
        refine k_iast (j := w9) hx hb hE hP hD hS (64 + nf + n + (R.length + 0)) ((lw_Ri (i := 0)).trans rfl) (by omega) (by decide) dL_law_259 (fun H locs hP hD hS => ?_)
        rw [lw_Riset (i := 0)] at hP hD
        have hP : va_P D vwCl (LW k a tr o fa ba x S U G T n nf (mL T n) (R ++ [(q1, .inl (k 0, 6, .inl (upd (atG T i) w9 (((atG T i) w9) + 1)))), (q2, .inl (k 0, 4, .inl (inG T i))), (q3, .inl (k 0, 4, .inl (baG G T i)))])) H := hP
        have hD : va_D A (LW k a tr o fa ba x S U G T n nf (mL T n) (R ++ [(q1, .inl (k 0, 6, .inl (upd (atG T i) w9 (((atG T i) w9) + 1)))), (q2, .inl (k 0, 4, .inl (inG T i))), (q3, .inl (k 0, 4, .inl (baG G T i)))])) := hD
        refine lv_iload hx hb dL_law_260 (lv_at hl 0 rfl) ?_
        refine lv_if_lt (tgt := 274) hx hb dL_law_262 (by decide) (fun c_ => absurd c_ (nI_pos (by omega))) (fun c_33 => ?_)
        refine lv_aload hx hb dL_law_265 (lv_at hl 11 rfl) ?_
        refine lv_iload hx hb dL_law_267 (lv_at hl 0 rfl) ?_
        refine lv_dup2_11 hx hb dL_law_269 rfl rfl ?_
        refine k_iald (j := c9) hx hb hE hP (64 + nf + n + (R.length + 1)) ((lw_Ri (i := 1)).trans rfl) g1 (by decide) dL_law_270 ?_
        refine lv_iconst (v := 1) hx hb dL_law_271 (by decide) ?_
        refine lv_iadd hx hb dL_law_272 ?_
        refine k_iast (j := c9) hx hb hE hP hD hS (64 + nf + n + (R.length + 1)) ((lw_Ri (i := 1)).trans rfl) g1 (by decide) dL_law_273 (fun H locs hP hD hS => ?_)
        rw [lw_Riset (i := 1)] at hP hD
        have hP : va_P D vwCl (LW k a tr o fa ba x S U G T n nf (mL T n) (R ++ [(q1, .inl (k 0, 6, .inl (upd (atG T i) w9 (((atG T i) w9) + 1)))), (q2, .inl (k 0, 4, .inl (upd (inG T i) c9 (((inG T i) c9) + 1)))), (q3, .inl (k 0, 4, .inl (baG G T i)))])) H := hP
        have hD : va_D A (LW k a tr o fa ba x S U G T n nf (mL T n) (R ++ [(q1, .inl (k 0, 6, .inl (upd (atG T i) w9 (((atG T i) w9) + 1)))), (q2, .inl (k 0, 4, .inl (upd (inG T i) c9 (((inG T i) c9) + 1)))), (q3, .inl (k 0, 4, .inl (baG G T i)))])) := hD
        refine lv_aload_n hx hb dL_law_274 rfl (lv_at hl 4 rfl) ?_
        refine lv_iload hx hb dL_law_275 (lv_at hl 14 rfl) ?_
        refine c_pVi (rest := []) hC hE hP (lx_isMisrouted l S (nI i) (xbag_n hra hi)) gc_RL_132 hd_X4_isMisrouted ⟨rfl, rfl⟩ ⟨Nat.le_of_ble_eq_true rfl, Nat.le_of_ble_eq_true rfl⟩ 29 lw_29 rfl rfl hl.1 (Nat.le_of_ble_eq_true rfl) ⟨(by show cc + 1 + 1 + 1 ≤ 600130; omega), (by show ss + 6 + 4 + 4 ≤ 7301080; omega)⟩ dL_law_277 ?_
        refine w_top (show bI (xAst S (nI i)) = bI (mMis G T i) from bI_cong (ast_iff hra hrb hi)) ?_
        refine lv_if_eq (tgt := 299) hx hb dL_law_280 (by decide) (fun c_34 => ?_) (fun c_34 => ?_)
        · have c_34 := bI_0 c_34
          refine lv_aload_n hx hb dL_law_299 rfl (lv_at hl 4 rfl) ?_
          refine lv_iload hx hb dL_law_300 (lv_at hl 14 rfl) ?_
          refine c_pVi (rest := []) hC hE hP (lx_hasOpenFile l S (nI i) (xbag_n hra hi)) gc_RL_133 hd_X4_hasOpenFile ⟨rfl, rfl⟩ ⟨Nat.le_of_ble_eq_true rfl, Nat.le_of_ble_eq_true rfl⟩ 29 lw_29 rfl rfl hl.1 (Nat.le_of_ble_eq_true rfl) ⟨(by show cc + 1 + 1 + 1 ≤ 600130; omega), (by show ss + 6 + 4 + 4 ≤ 7301080; omega)⟩ dL_law_302 ?_
          refine w_top (show bI (rd 40 (S 10) (nI i) = 1) = bI (G 7 i = 1) from bI_cong (by rw [rd_40 (Nat.lt_of_lt_of_le hi hn), hra.fil i hi])) ?_
          refine lv_if_ne (tgt := 311) hx hb dL_law_305 (by decide) (fun c_35 => ?_) (fun c_35 => ?_)
          · have c_35 := bI_n c_35
            refine lv_iinc (v := nI ((mFil G 1 i) + 1)) (lv' := [(11, .int (nI ((mFil G 1 i) + 1))), (15, .int (nI c9)), (14, .int (-1)), (13, .int (nI w9)), (0, .ref b), (1, .ref x), (2, .ref (o 0)), (3, .int (nI t)), (4, .int xv), (5, .long (xDig S n nf)), (7, .int (nI n)), (8, .ref q1), (9, .ref q2), (10, .ref q3), (12, .int (nI i))]) hx hb dL_law_311 hl (k := 13) rfl (iinc1 _) (by decide) rfl (fun ls hl => ?_)
            refine lv_iload hx hb dL_law_314 (lv_at hl 3 rfl) ?_
            refine lv_iconst (v := 5) hx hb dL_law_316 (by decide) ?_
            refine lv_icmp_eq (tgt := 333) hx hb dL_law_317 (by decide) (fun c_ => absurd c_ (fun z => (hgi.op i hi c_35).2 (ew.trans z))) (fun c_36 => ?_)
            refine lv_aload_n hx hb dL_law_320 rfl (lv_at hl 5 rfl) ?_
            refine lv_aload_n hx hb dL_law_321 rfl (lv_at hl 5 rfl) ?_
            refine lv_iload hx hb dL_law_322 (lv_at hl 14 rfl) ?_
            refine c_pVi (rest := [.ref x]) hC hE hP (lx_flightOf l S (nI i) (xbag_n hra hi)) gc_RL_136 hd_X4_flightOf ⟨rfl, rfl⟩ ⟨Nat.le_of_ble_eq_true rfl, Nat.le_of_ble_eq_true rfl⟩ 29 lw_29 rfl rfl hl.1 (Nat.le_of_ble_eq_true rfl) ⟨(by show cc + 1 + 1 + 1 ≤ 600130; omega), (by show ss + 6 + 4 + 4 ≤ 7301080; omega)⟩ dL_law_324 ?_
            refine w_top (show rd 40 (S 3) (nI i) = G 4 i from (rd_40 (Nat.lt_of_lt_of_le hi hn)).trans (hra.fli i hi).1) ?_
            refine w_top (show G 4 i = nI f2 from k3) ?_
            refine c_pVi (rest := []) hC hE hP (lx_isGone l S (nI f2) (xflt_n hra k1)) gc_RL_139 hd_X4_isGone ⟨rfl, rfl⟩ ⟨Nat.le_of_ble_eq_true rfl, Nat.le_of_ble_eq_true rfl⟩ 29 lw_29 rfl rfl hl.1 (Nat.le_of_ble_eq_true rfl) ⟨(by show cc + 1 + 1 + 1 ≤ 600130; omega), (by show ss + 6 + 4 + 4 ≤ 7301080; omega)⟩ dL_law_327 ?_
            refine w_top (show bI (xGone S (nI f2)) = bI (G 2 f2 = 1) from bI_cong (by show rd 6 (S 2) (nI f2) = 1 ↔ _; rw [rd_6 (Nat.lt_of_lt_of_le k1 hnf), hra.gon f2 (Nat.lt_of_lt_of_le k1 hnf)])) ?_
            refine lv_if_ne (tgt := 335) hx hb dL_law_330 (by decide) (fun c_37 => ?_) (fun c_ => absurd (by have z := (hgi.op i hi c_35).1; rw [k5] at z; exact z) (bI_0 c_))
            refine lv_iinc (v := nI (i + 1)) (lv' := [(12, .int (nI (i + 1))), (11, .int (nI ((mFil G 1 i) + 1))), (15, .int (nI c9)), (14, .int (-1)), (13, .int (nI w9)), (0, .ref b), (1, .ref x), (2, .ref (o 0)), (3, .int (nI t)), (4, .int xv), (5, .long (xDig S n nf)), (7, .int (nI n)), (8, .ref q1), (9, .ref q2), (10, .ref q3)]) hx hb dL_law_335 hl (k := 14) rfl (iinc1 _) (by decide) rfl (fun ls hl => ?_)
            refine lv_goto (tgt := 114) hx hb dL_law_338 (by decide) ?_
            have e9 : atG T (i + 1) = upd (atG T i) w9 (((atG T i) w9) + 1) := atG_s ew (by omega)
            have e8 : inG T (i + 1) = upd (inG T i) c9 (((inG T i) c9) + 1) := inG_s1 z2 g3 g1
            have e7 : baG G T (i + 1) = baG G T i := baG_s0 c_34
            have e6 : mFil G 1 (i + 1) = mFil G 1 i + 1 := ct_t (p := fun b => G 7 b = 1) c_35
            have hP9 : va_P D vwCl (LW k a tr o fa ba x S U G T n nf (mL T n) (R ++ [(q1, .inl (k 0, 6, .inl (atG T (i + 1)))), (q2, .inl (k 0, 4, .inl (inG T (i + 1)))), (q3, .inl (k 0, 4, .inl (baG G T (i + 1))))])) H := by rw [e9, e8, e7]; exact hP
            have hD9 : va_D A (LW k a tr o fa ba x S U G T n nf (mL T n) (R ++ [(q1, .inl (k 0, 6, .inl (atG T (i + 1)))), (q2, .inl (k 0, 4, .inl (inG T (i + 1)))), (q3, .inl (k 0, 4, .inl (baG G T (i + 1))))])) := by rw [e9, e8, e7]; exact hD
            have h99 := ih ls H locs trivial (by show lv_has ls 28 [(0, .ref b), (1, .ref x), (2, .ref (o 0)), (3, .int (nI t)), (4, .int xv), (5, .long (xDig S n nf)), (7, .int (nI n)), (8, .ref q1), (9, .ref q2), (10, .ref q3), (11, .int (nI (mFil G 1 (i + 1)))), (12, .int (nI (i + 1)))]; rw [e6]; exact lv_sub hl [5, 6, 7, 8, 9, 10, 11, 12, 13, 14, 1, 0] rfl)
            exact h99 hP9 hD9 hS
          · have c_35 := bI_0 c_35
            refine lv_goto (tgt := 335) hx hb dL_law_308 (by decide) ?_
            refine lv_iinc (v := nI (i + 1)) (lv' := [(12, .int (nI (i + 1))), (15, .int (nI c9)), (14, .int (-1)), (13, .int (nI w9)), (0, .ref b), (1, .ref x), (2, .ref (o 0)), (3, .int (nI t)), (4, .int xv), (5, .long (xDig S n nf)), (7, .int (nI n)), (8, .ref q1), (9, .ref q2), (10, .ref q3), (11, .int (nI (mFil G 1 i)))]) hx hb dL_law_335 hl (k := 14) rfl (iinc1 _) (by decide) rfl (fun ls hl => ?_)
            refine lv_goto (tgt := 114) hx hb dL_law_338 (by decide) ?_
            have e9 : atG T (i + 1) = upd (atG T i) w9 (((atG T i) w9) + 1) := atG_s ew (by omega)
            have e8 : inG T (i + 1) = upd (inG T i) c9 (((inG T i) c9) + 1) := inG_s1 z2 g3 g1
            have e7 : baG G T (i + 1) = baG G T i := baG_s0 c_34
            have e6 : mFil G 1 (i + 1) = mFil G 1 i := ct_f (p := fun b => G 7 b = 1) c_35
            have hP9 : va_P D vwCl (LW k a tr o fa ba x S U G T n nf (mL T n) (R ++ [(q1, .inl (k 0, 6, .inl (atG T (i + 1)))), (q2, .inl (k 0, 4, .inl (inG T (i + 1)))), (q3, .inl (k 0, 4, .inl (baG G T (i + 1))))])) H := by rw [e9, e8, e7]; exact hP
            have hD9 : va_D A (LW k a tr o fa ba x S U G T n nf (mL T n) (R ++ [(q1, .inl (k 0, 6, .inl (atG T (i + 1)))), (q2, .inl (k 0, 4, .inl (inG T (i + 1)))), (q3, .inl (k 0, 4, .inl (baG G T (i + 1))))])) := by rw [e9, e8, e7]; exact hD
            have h99 := ih ls H locs trivial (by show lv_has ls 28 [(0, .ref b), (1, .ref x), (2, .ref (o 0)), (3, .int (nI t)), (4, .int xv), (5, .long (xDig S n nf)), (7, .int (nI n)), (8, .ref q1), (9, .ref q2), (10, .ref q3), (11, .int (nI (mFil G 1 (i + 1)))), (12, .int (nI (i + 1)))]; rw [e6]; exact lv_sub hl [4, 5, 6, 7, 8, 9, 10, 11, 12, 13, 14, 0] rfl)
            exact h99 hP9 hD9 hS
        · have c_34 := bI_n c_34
          refine lv_iload hx hb dL_law_283 (lv_at hl 0 rfl) ?_
          refine lv_if_ge (tgt := 290) hx hb dL_law_285 (by decide) (fun c_38 => ?_) (fun c_ => absurd (Int32.not_lt.mp (nI_pos (by omega))) c_)
          refine lv_aload hx hb dL_law_290 (lv_at hl 12 rfl) ?_
          refine lv_iload hx hb dL_law_292 (lv_at hl 0 rfl) ?_
          refine lv_dup2_11 hx hb dL_law_294 rfl rfl ?_
          refine k_iald (j := c9) hx hb hE hP (64 + nf + n + (R.length + 2)) ((lw_Ri (i := 2)).trans rfl) g1 (by decide) dL_law_295 ?_
          refine lv_iconst (v := 1) hx hb dL_law_296 (by decide) ?_
          refine lv_iadd hx hb dL_law_297 ?_
          refine k_iast (j := c9) hx hb hE hP hD hS (64 + nf + n + (R.length + 2)) ((lw_Ri (i := 2)).trans rfl) g1 (by decide) dL_law_298 (fun H locs hP hD hS => ?_)
          rw [lw_Riset (i := 2)] at hP hD
          have hP : va_P D vwCl (LW k a tr o fa ba x S U G T n nf (mL T n) (R ++ [(q1, .inl (k 0, 6, .inl (upd (atG T i) w9 (((atG T i) w9) + 1)))), (q2, .inl (k 0, 4, .inl (upd (inG T i) c9 (((inG T i) c9) + 1)))), (q3, .inl (k 0, 4, .inl (upd (baG G T i) c9 (((baG G T i) c9) + 1))))])) H := hP
          have hD : va_D A (LW k a tr o fa ba x S U G T n nf (mL T n) (R ++ [(q1, .inl (k 0, 6, .inl (upd (atG T i) w9 (((atG T i) w9) + 1)))), (q2, .inl (k 0, 4, .inl (upd (inG T i) c9 (((inG T i) c9) + 1)))), (q3, .inl (k 0, 4, .inl (upd (baG G T i) c9 (((baG G T i) c9) + 1))))])) := hD
          refine lv_aload_n hx hb dL_law_299 rfl (lv_at hl 4 rfl) ?_
          refine lv_iload hx hb dL_law_300 (lv_at hl 14 rfl) ?_
          refine c_pVi (rest := []) hC hE hP (lx_hasOpenFile l S (nI i) (xbag_n hra hi)) gc_RL_133 hd_X4_hasOpenFile ⟨rfl, rfl⟩ ⟨Nat.le_of_ble_eq_true rfl, Nat.le_of_ble_eq_true rfl⟩ 29 lw_29 rfl rfl hl.1 (Nat.le_of_ble_eq_true rfl) ⟨(by show cc + 1 + 1 + 1 ≤ 600130; omega), (by show ss + 6 + 4 + 4 ≤ 7301080; omega)⟩ dL_law_302 ?_
          refine w_top (show bI (rd 40 (S 10) (nI i) = 1) = bI (G 7 i = 1) from bI_cong (by rw [rd_40 (Nat.lt_of_lt_of_le hi hn), hra.fil i hi])) ?_
          refine lv_if_ne (tgt := 311) hx hb dL_law_305 (by decide) (fun c_39 => ?_) (fun c_39 => ?_)
          · have c_39 := bI_n c_39
            refine lv_iinc (v := nI ((mFil G 1 i) + 1)) (lv' := [(11, .int (nI ((mFil G 1 i) + 1))), (15, .int (nI c9)), (14, .int (-1)), (13, .int (nI w9)), (0, .ref b), (1, .ref x), (2, .ref (o 0)), (3, .int (nI t)), (4, .int xv), (5, .long (xDig S n nf)), (7, .int (nI n)), (8, .ref q1), (9, .ref q2), (10, .ref q3), (12, .int (nI i))]) hx hb dL_law_311 hl (k := 13) rfl (iinc1 _) (by decide) rfl (fun ls hl => ?_)
            refine lv_iload hx hb dL_law_314 (lv_at hl 3 rfl) ?_
            refine lv_iconst (v := 5) hx hb dL_law_316 (by decide) ?_
            refine lv_icmp_eq (tgt := 333) hx hb dL_law_317 (by decide) (fun c_ => absurd c_ (fun z => (hgi.op i hi c_39).2 (ew.trans z))) (fun c_40 => ?_)
            refine lv_aload_n hx hb dL_law_320 rfl (lv_at hl 5 rfl) ?_
            refine lv_aload_n hx hb dL_law_321 rfl (lv_at hl 5 rfl) ?_
            refine lv_iload hx hb dL_law_322 (lv_at hl 14 rfl) ?_
            refine c_pVi (rest := [.ref x]) hC hE hP (lx_flightOf l S (nI i) (xbag_n hra hi)) gc_RL_136 hd_X4_flightOf ⟨rfl, rfl⟩ ⟨Nat.le_of_ble_eq_true rfl, Nat.le_of_ble_eq_true rfl⟩ 29 lw_29 rfl rfl hl.1 (Nat.le_of_ble_eq_true rfl) ⟨(by show cc + 1 + 1 + 1 ≤ 600130; omega), (by show ss + 6 + 4 + 4 ≤ 7301080; omega)⟩ dL_law_324 ?_
            refine w_top (show rd 40 (S 3) (nI i) = G 4 i from (rd_40 (Nat.lt_of_lt_of_le hi hn)).trans (hra.fli i hi).1) ?_
            refine w_top (show G 4 i = nI f2 from k3) ?_
            refine c_pVi (rest := []) hC hE hP (lx_isGone l S (nI f2) (xflt_n hra k1)) gc_RL_139 hd_X4_isGone ⟨rfl, rfl⟩ ⟨Nat.le_of_ble_eq_true rfl, Nat.le_of_ble_eq_true rfl⟩ 29 lw_29 rfl rfl hl.1 (Nat.le_of_ble_eq_true rfl) ⟨(by show cc + 1 + 1 + 1 ≤ 600130; omega), (by show ss + 6 + 4 + 4 ≤ 7301080; omega)⟩ dL_law_327 ?_
            refine w_top (show bI (xGone S (nI f2)) = bI (G 2 f2 = 1) from bI_cong (by show rd 6 (S 2) (nI f2) = 1 ↔ _; rw [rd_6 (Nat.lt_of_lt_of_le k1 hnf), hra.gon f2 (Nat.lt_of_lt_of_le k1 hnf)])) ?_
            refine lv_if_ne (tgt := 335) hx hb dL_law_330 (by decide) (fun c_41 => ?_) (fun c_ => absurd (by have z := (hgi.op i hi c_39).1; rw [k5] at z; exact z) (bI_0 c_))
            refine lv_iinc (v := nI (i + 1)) (lv' := [(12, .int (nI (i + 1))), (11, .int (nI ((mFil G 1 i) + 1))), (15, .int (nI c9)), (14, .int (-1)), (13, .int (nI w9)), (0, .ref b), (1, .ref x), (2, .ref (o 0)), (3, .int (nI t)), (4, .int xv), (5, .long (xDig S n nf)), (7, .int (nI n)), (8, .ref q1), (9, .ref q2), (10, .ref q3)]) hx hb dL_law_335 hl (k := 14) rfl (iinc1 _) (by decide) rfl (fun ls hl => ?_)
            refine lv_goto (tgt := 114) hx hb dL_law_338 (by decide) ?_
            have e9 : atG T (i + 1) = upd (atG T i) w9 (((atG T i) w9) + 1) := atG_s ew (by omega)
            have e8 : inG T (i + 1) = upd (inG T i) c9 (((inG T i) c9) + 1) := inG_s1 z2 g3 g1
            have e7 : baG G T (i + 1) = upd (baG G T i) c9 (((baG G T i) c9) + 1) := baG_s1 c_34 g3 g1
            have e6 : mFil G 1 (i + 1) = mFil G 1 i + 1 := ct_t (p := fun b => G 7 b = 1) c_39
            have hP9 : va_P D vwCl (LW k a tr o fa ba x S U G T n nf (mL T n) (R ++ [(q1, .inl (k 0, 6, .inl (atG T (i + 1)))), (q2, .inl (k 0, 4, .inl (inG T (i + 1)))), (q3, .inl (k 0, 4, .inl (baG G T (i + 1))))])) H := by rw [e9, e8, e7]; exact hP
            have hD9 : va_D A (LW k a tr o fa ba x S U G T n nf (mL T n) (R ++ [(q1, .inl (k 0, 6, .inl (atG T (i + 1)))), (q2, .inl (k 0, 4, .inl (inG T (i + 1)))), (q3, .inl (k 0, 4, .inl (baG G T (i + 1))))])) := by rw [e9, e8, e7]; exact hD
            have h99 := ih ls H locs trivial (by show lv_has ls 28 [(0, .ref b), (1, .ref x), (2, .ref (o 0)), (3, .int (nI t)), (4, .int xv), (5, .long (xDig S n nf)), (7, .int (nI n)), (8, .ref q1), (9, .ref q2), (10, .ref q3), (11, .int (nI (mFil G 1 (i + 1)))), (12, .int (nI (i + 1)))]; rw [e6]; exact lv_sub hl [5, 6, 7, 8, 9, 10, 11, 12, 13, 14, 1, 0] rfl)
            exact h99 hP9 hD9 hS
          · have c_39 := bI_0 c_39
            refine lv_goto (tgt := 335) hx hb dL_law_308 (by decide) ?_
            refine lv_iinc (v := nI (i + 1)) (lv' := [(12, .int (nI (i + 1))), (15, .int (nI c9)), (14, .int (-1)), (13, .int (nI w9)), (0, .ref b), (1, .ref x), (2, .ref (o 0)), (3, .int (nI t)), (4, .int xv), (5, .long (xDig S n nf)), (7, .int (nI n)), (8, .ref q1), (9, .ref q2), (10, .ref q3), (11, .int (nI (mFil G 1 i)))]) hx hb dL_law_335 hl (k := 14) rfl (iinc1 _) (by decide) rfl (fun ls hl => ?_)
            refine lv_goto (tgt := 114) hx hb dL_law_338 (by decide) ?_
            have e9 : atG T (i + 1) = upd (atG T i) w9 (((atG T i) w9) + 1) := atG_s ew (by omega)
            have e8 : inG T (i + 1) = upd (inG T i) c9 (((inG T i) c9) + 1) := inG_s1 z2 g3 g1
            have e7 : baG G T (i + 1) = upd (baG G T i) c9 (((baG G T i) c9) + 1) := baG_s1 c_34 g3 g1
            have e6 : mFil G 1 (i + 1) = mFil G 1 i := ct_f (p := fun b => G 7 b = 1) c_39
            have hP9 : va_P D vwCl (LW k a tr o fa ba x S U G T n nf (mL T n) (R ++ [(q1, .inl (k 0, 6, .inl (atG T (i + 1)))), (q2, .inl (k 0, 4, .inl (inG T (i + 1)))), (q3, .inl (k 0, 4, .inl (baG G T (i + 1))))])) H := by rw [e9, e8, e7]; exact hP
            have hD9 : va_D A (LW k a tr o fa ba x S U G T n nf (mL T n) (R ++ [(q1, .inl (k 0, 6, .inl (atG T (i + 1)))), (q2, .inl (k 0, 4, .inl (inG T (i + 1)))), (q3, .inl (k 0, 4, .inl (baG G T (i + 1))))])) := by rw [e9, e8, e7]; exact hD
            have h99 := ih ls H locs trivial (by show lv_has ls 28 [(0, .ref b), (1, .ref x), (2, .ref (o 0)), (3, .int (nI t)), (4, .int xv), (5, .long (xDig S n nf)), (7, .int (nI n)), (8, .ref q1), (9, .ref q2), (10, .ref q3), (11, .int (nI (mFil G 1 (i + 1)))), (12, .int (nI (i + 1)))]; rw [e6]; exact lv_sub hl [4, 5, 6, 7, 8, 9, 10, 11, 12, 13, 14, 0] rfl)
            exact h99 hP9 hD9 hS
      · refine lv_aload_n hx hb dL_law_121 rfl (lv_at hl 1 rfl) ?_
        refine lv_iload hx hb dL_law_122 (lv_at hl 11 rfl) ?_
        refine c_pVi (rest := []) hC hE hP (lx_whereIs l S (nI i) (xbag_n hra hi)) gc_RL_114 hd_X4_whereIs ⟨rfl, rfl⟩ ⟨Nat.le_of_ble_eq_true rfl, Nat.le_of_ble_eq_true rfl⟩ 29 lw_29 rfl rfl hl.1 (Nat.le_of_ble_eq_true rfl) ⟨(by show cc + 1 + 1 + 1 ≤ 600130; omega), (by show ss + 6 + 4 + 4 ≤ 7301080; omega)⟩ dL_law_124 ?_
        refine w_top (show rd 40 (S 6) (nI i) = T 1 i from (rd_40 (Nat.lt_of_lt_of_le hi hn)).trans (hrb.whr i hi)) ?_
        refine w_top (show T 1 i = nI w9 from ew) ?_
        refine lv_istore (lv' := [(13, .int (nI w9)), (0, .ref b), (1, .ref x), (2, .ref (o 0)), (3, .int (nI t)), (4, .int xv), (5, .long (xDig S n nf)), (7, .int (nI n)), (8, .ref q1), (9, .ref q2), (10, .ref q3), (11, .int (nI (mFil G 1 i))), (12, .int (nI i))]) hx hb dL_law_127 hl (by decide) rfl (fun ls hl => ?_)
        refine lv_aload_n hx hb dL_law_129 rfl (lv_at hl 2 rfl) ?_
        refine lv_iload hx hb dL_law_130 (lv_at hl 12 rfl) ?_
        refine c_pVi (rest := []) hC hE hP (lx_placeOf l S (nI i) (xbag_n hra hi)) gc_RL_117 hd_X4_placeOf ⟨rfl, rfl⟩ ⟨Nat.le_of_ble_eq_true rfl, Nat.le_of_ble_eq_true rfl⟩ 29 lw_29 rfl rfl hl.1 (Nat.le_of_ble_eq_true rfl) ⟨(by show cc + 1 + 1 + 1 ≤ 600130; omega), (by show ss + 6 + 4 + 4 ≤ 7301080; omega)⟩ dL_law_132 ?_
        refine w_top (show fnd (S 12) (nI i) 0 12 = mPl T i 1 from place_eq hrb hi) ?_
        refine w_top (show mPl T i 1 = (-1) from sel_f z1 _ _) ?_
        refine lv_istore (lv' := [(14, .int (-1)), (13, .int (nI w9)), (0, .ref b), (1, .ref x), (2, .ref (o 0)), (3, .int (nI t)), (4, .int xv), (5, .long (xDig S n nf)), (7, .int (nI n)), (8, .ref q1), (9, .ref q2), (10, .ref q3), (11, .int (nI (mFil G 1 i))), (12, .int (nI i))]) hx hb dL_law_135 hl (by decide) rfl (fun ls hl => ?_)
        refine lv_aload_n hx hb dL_law_137 rfl (lv_at hl 3 rfl) ?_
        refine lv_iload hx hb dL_law_138 (lv_at hl 13 rfl) ?_
        refine c_pVi (rest := []) hC hE hP (lx_chuteOf l S (nI i) (xbag_n hra hi)) gc_RL_120 hd_X4_chuteOf ⟨rfl, rfl⟩ ⟨Nat.le_of_ble_eq_true rfl, Nat.le_of_ble_eq_true rfl⟩ 29 lw_29 rfl rfl hl.1 (Nat.le_of_ble_eq_true rfl) ⟨(by show cc + 1 + 1 + 1 ≤ 600130; omega), (by show ss + 6 + 4 + 4 ≤ 7301080; omega)⟩ dL_law_140 ?_
        refine w_top (show rd 40 (S 7) (nI i) = mPl T i 2 from (rd_40 (Nat.lt_of_lt_of_le hi hn)).trans (chute_eq hrb hi)) ?_
        refine w_top (show mPl T i 2 = (-1) from sel_f z2 _ _) ?_
        refine lv_istore (lv' := [(15, .int (-1)), (14, .int (-1)), (13, .int (nI w9)), (0, .ref b), (1, .ref x), (2, .ref (o 0)), (3, .int (nI t)), (4, .int xv), (5, .long (xDig S n nf)), (7, .int (nI n)), (8, .ref q1), (9, .ref q2), (10, .ref q3), (11, .int (nI (mFil G 1 i))), (12, .int (nI i))]) hx hb dL_law_143 hl (by decide) rfl (fun ls hl => ?_)
        refine lv_iload hx hb dL_law_145 (lv_at hl 2 rfl) ?_
        refine lv_if_lt (tgt := 249) hx hb dL_law_147 (by decide) (fun c_ => absurd c_ (nI_pos (by omega))) (fun c_42 => ?_)
        refine lv_iload hx hb dL_law_150 (lv_at hl 2 rfl) ?_
        refine lv_iconst (v := 5) hx hb dL_law_152 (by decide) ?_
        refine lv_icmp_gt (tgt := 249) hx hb dL_law_153 (by decide) (fun c_ => absurd c_ (le5 (by omega))) (fun c_43 => ?_)
        refine lv_iload hx hb dL_law_156 (lv_at hl 1 rfl) ?_
        refine lv_if_lt (tgt := 165) hx hb dL_law_158 (by decide) (fun c_44 => ?_) (fun c_ => absurd (by decide) c_)
        refine lv_iconst (v := 0) hx hb dL_law_165 (by decide) ?_
        refine lv_iload hx hb dL_law_166 (lv_at hl 2 rfl) ?_
        refine lv_iconst (v := 1) hx hb dL_law_168 (by decide) ?_
        refine lv_icmp_ne (tgt := 176) hx hb dL_law_169 (by decide) (fun c_45 => ?_) (fun c_ => absurd c_ (fun z => z1 (ew.trans z)))
        refine lv_iconst (v := 0) hx hb dL_law_176 (by decide) ?_
        refine lv_icmp_ne (tgt := 249) hx hb dL_law_177 (by decide) (fun c_ => absurd rfl c_) (fun c_46 => ?_)
        refine lv_iload hx hb dL_law_180 (lv_at hl 0 rfl) ?_
        refine lv_if_lt (tgt := 189) hx hb dL_law_182 (by decide) (fun c_47 => ?_) (fun c_ => absurd (by decide) c_)
        refine lv_iconst (v := 0) hx hb dL_law_189 (by decide) ?_
        refine lv_iload hx hb dL_law_190 (lv_at hl 2 rfl) ?_
        refine lv_iconst (v := 2) hx hb dL_law_192 (by decide) ?_
        refine lv_icmp_ne (tgt := 200) hx hb dL_law_193 (by decide) (fun c_48 => ?_) (fun c_ => absurd c_ (fun z => z2 (ew.trans z)))
        refine lv_iconst (v := 0) hx hb dL_law_200 (by decide) ?_
        refine lv_icmp_ne (tgt := 249) hx hb dL_law_201 (by decide) (fun c_ => absurd rfl c_) (fun c_49 => ?_)
        refine lv_iload hx hb dL_law_204 (lv_at hl 1 rfl) ?_
        refine lv_if_lt (tgt := 220) hx hb dL_law_206 (by decide) (fun c_50 => ?_) (fun c_ => absurd (by decide) c_)
        refine lv_aload_n hx hb dL_law_220 rfl (lv_at hl 4 rfl) ?_
        refine lv_iload hx hb dL_law_221 (lv_at hl 14 rfl) ?_
        refine c_pVi (rest := []) hC hE hP (lx_missesOf l S (nI i) (xbag_n hra hi)) gc_RL_126 hd_X4_missesOf ⟨rfl, rfl⟩ ⟨Nat.le_of_ble_eq_true rfl, Nat.le_of_ble_eq_true rfl⟩ 29 lw_29 rfl rfl hl.1 (Nat.le_of_ble_eq_true rfl) ⟨(by show cc + 1 + 1 + 1 ≤ 600130; omega), (by show ss + 6 + 4 + 4 ≤ 7301080; omega)⟩ dL_law_223 ?_
        refine w_top (show rd 40 (S 9) (nI i) = T 4 i from (rd_40 (Nat.lt_of_lt_of_le hi hn)).trans (hrb.mis i hi)) ?_
        refine w_top (show T 4 i = nI m9 from em) ?_
        refine lv_if_lt (tgt := 249) hx hb dL_law_226 (by decide) (fun c_ => absurd c_ (nI_pos (by omega))) (fun c_51 => ?_)
        refine lv_aload_n hx hb dL_law_229 rfl (lv_at hl 4 rfl) ?_
        refine lv_iload hx hb dL_law_230 (lv_at hl 14 rfl) ?_
        refine c_pVi (rest := []) hC hE hP (lx_missesOf l S (nI i) (xbag_n hra hi)) gc_RL_126 hd_X4_missesOf ⟨rfl, rfl⟩ ⟨Nat.le_of_ble_eq_true rfl, Nat.le_of_ble_eq_true rfl⟩ 29 lw_29 rfl rfl hl.1 (Nat.le_of_ble_eq_true rfl) ⟨(by show cc + 1 + 1 + 1 ≤ 600130; omega), (by show ss + 6 + 4 + 4 ≤ 7301080; omega)⟩ dL_law_232 ?_
        refine w_top (show rd 40 (S 9) (nI i) = T 4 i from (rd_40 (Nat.lt_of_lt_of_le hi hn)).trans (hrb.mis i hi)) ?_
        refine w_top (show T 4 i = nI m9 from em) ?_
        refine lv_iconst (v := 3) hx hb dL_law_235 (by decide) ?_
        refine lv_icmp_gt (tgt := 249) hx hb dL_law_236 (by decide) (fun c_ => absurd c_ (le3 hm3)) (fun c_52 => ?_)
        refine lv_aload_n hx hb dL_law_239 rfl (lv_at hl 4 rfl) ?_
        refine lv_iload hx hb dL_law_240 (lv_at hl 14 rfl) ?_
        refine c_pVi (rest := []) hC hE hP (lx_readFor l S (nI i) (xbag_n hra hi)) gc_RL_129 hd_X4_readFor ⟨rfl, rfl⟩ ⟨Nat.le_of_ble_eq_true rfl, Nat.le_of_ble_eq_true rfl⟩ 29 lw_29 rfl rfl hl.1 (Nat.le_of_ble_eq_true rfl) ⟨(by show cc + 1 + 1 + 1 ≤ 600130; omega), (by show ss + 6 + 4 + 4 ≤ 7301080; omega)⟩ dL_law_242 ?_
        refine w_top (show rd 40 (S 8) (nI i) = T 3 i from (rd_40 (Nat.lt_of_lt_of_le hi hn)).trans (hrb.rdd i hi)) ?_
        refine lv_iconst (v := 3) hx hb dL_law_245 (by decide) ?_
        refine lv_icmp_le (tgt := 251) hx hb dL_law_246 (by decide) (fun c_53 => ?_) (fun c_ => absurd (rd_le3 (hti.rd i hi)) c_)
        refine lv_aload hx hb dL_law_251 (lv_at hl 10 rfl) ?_
        refine lv_iload hx hb dL_law_253 (lv_at hl 2 rfl) ?_
        refine lv_dup2_11 hx hb dL_law_255 rfl rfl ?_
        refine k_iald (j := w9) hx hb hE hP (64 + nf + n + (R.length + 0)) ((lw_Ri (i := 0)).trans rfl) (by omega) (by decide) dL_law_256 ?_
        refine lv_iconst (v := 1) hx hb dL_law_257 (by decide) ?_
        refine lv_iadd hx hb dL_law_258 ?_
        refine k_iast (j := w9) hx hb hE hP hD hS (64 + nf + n + (R.length + 0)) ((lw_Ri (i := 0)).trans rfl) (by omega) (by decide) dL_law_259 (fun H locs hP hD hS => ?_)
        rw [lw_Riset (i := 0)] at hP hD
        have hP : va_P D vwCl (LW k a tr o fa ba x S U G T n nf (mL T n) (R ++ [(q1, .inl (k 0, 6, .inl (upd (atG T i) w9 (((atG T i) w9) + 1)))), (q2, .inl (k 0, 4, .inl (inG T i))), (q3, .inl (k 0, 4, .inl (baG G T i)))])) H := hP
        have hD : va_D A (LW k a tr o fa ba x S U G T n nf (mL T n) (R ++ [(q1, .inl (k 0, 6, .inl (upd (atG T i) w9 (((atG T i) w9) + 1)))), (q2, .inl (k 0, 4, .inl (inG T i))), (q3, .inl (k 0, 4, .inl (baG G T i)))])) := hD
        refine lv_iload hx hb dL_law_260 (lv_at hl 0 rfl) ?_
        refine lv_if_lt (tgt := 274) hx hb dL_law_262 (by decide) (fun c_54 => ?_) (fun c_ => absurd (by decide) c_)
        refine lv_aload_n hx hb dL_law_274 rfl (lv_at hl 4 rfl) ?_
        refine lv_iload hx hb dL_law_275 (lv_at hl 14 rfl) ?_
        refine c_pVi (rest := []) hC hE hP (lx_isMisrouted l S (nI i) (xbag_n hra hi)) gc_RL_132 hd_X4_isMisrouted ⟨rfl, rfl⟩ ⟨Nat.le_of_ble_eq_true rfl, Nat.le_of_ble_eq_true rfl⟩ 29 lw_29 rfl rfl hl.1 (Nat.le_of_ble_eq_true rfl) ⟨(by show cc + 1 + 1 + 1 ≤ 600130; omega), (by show ss + 6 + 4 + 4 ≤ 7301080; omega)⟩ dL_law_277 ?_
        refine w_top (show bI (xAst S (nI i)) = bI (mMis G T i) from bI_cong (ast_iff hra hrb hi)) ?_
        refine lv_if_eq (tgt := 299) hx hb dL_law_280 (by decide) (fun c_55 => ?_) (fun c_ => absurd (bI_n c_) (fun z => z2 z.1))
        refine lv_aload_n hx hb dL_law_299 rfl (lv_at hl 4 rfl) ?_
        refine lv_iload hx hb dL_law_300 (lv_at hl 14 rfl) ?_
        refine c_pVi (rest := []) hC hE hP (lx_hasOpenFile l S (nI i) (xbag_n hra hi)) gc_RL_133 hd_X4_hasOpenFile ⟨rfl, rfl⟩ ⟨Nat.le_of_ble_eq_true rfl, Nat.le_of_ble_eq_true rfl⟩ 29 lw_29 rfl rfl hl.1 (Nat.le_of_ble_eq_true rfl) ⟨(by show cc + 1 + 1 + 1 ≤ 600130; omega), (by show ss + 6 + 4 + 4 ≤ 7301080; omega)⟩ dL_law_302 ?_
        refine w_top (show bI (rd 40 (S 10) (nI i) = 1) = bI (G 7 i = 1) from bI_cong (by rw [rd_40 (Nat.lt_of_lt_of_le hi hn), hra.fil i hi])) ?_
        refine lv_if_ne (tgt := 311) hx hb dL_law_305 (by decide) (fun c_56 => ?_) (fun c_56 => ?_)
        · have c_56 := bI_n c_56
          refine lv_iinc (v := nI ((mFil G 1 i) + 1)) (lv' := [(11, .int (nI ((mFil G 1 i) + 1))), (15, .int (-1)), (14, .int (-1)), (13, .int (nI w9)), (0, .ref b), (1, .ref x), (2, .ref (o 0)), (3, .int (nI t)), (4, .int xv), (5, .long (xDig S n nf)), (7, .int (nI n)), (8, .ref q1), (9, .ref q2), (10, .ref q3), (12, .int (nI i))]) hx hb dL_law_311 hl (k := 13) rfl (iinc1 _) (by decide) rfl (fun ls hl => ?_)
          refine lv_iload hx hb dL_law_314 (lv_at hl 3 rfl) ?_
          refine lv_iconst (v := 5) hx hb dL_law_316 (by decide) ?_
          refine lv_icmp_eq (tgt := 333) hx hb dL_law_317 (by decide) (fun c_ => absurd c_ (fun z => (hgi.op i hi c_56).2 (ew.trans z))) (fun c_57 => ?_)
          refine lv_aload_n hx hb dL_law_320 rfl (lv_at hl 5 rfl) ?_
          refine lv_aload_n hx hb dL_law_321 rfl (lv_at hl 5 rfl) ?_
          refine lv_iload hx hb dL_law_322 (lv_at hl 14 rfl) ?_
          refine c_pVi (rest := [.ref x]) hC hE hP (lx_flightOf l S (nI i) (xbag_n hra hi)) gc_RL_136 hd_X4_flightOf ⟨rfl, rfl⟩ ⟨Nat.le_of_ble_eq_true rfl, Nat.le_of_ble_eq_true rfl⟩ 29 lw_29 rfl rfl hl.1 (Nat.le_of_ble_eq_true rfl) ⟨(by show cc + 1 + 1 + 1 ≤ 600130; omega), (by show ss + 6 + 4 + 4 ≤ 7301080; omega)⟩ dL_law_324 ?_
          refine w_top (show rd 40 (S 3) (nI i) = G 4 i from (rd_40 (Nat.lt_of_lt_of_le hi hn)).trans (hra.fli i hi).1) ?_
          refine w_top (show G 4 i = nI f2 from k3) ?_
          refine c_pVi (rest := []) hC hE hP (lx_isGone l S (nI f2) (xflt_n hra k1)) gc_RL_139 hd_X4_isGone ⟨rfl, rfl⟩ ⟨Nat.le_of_ble_eq_true rfl, Nat.le_of_ble_eq_true rfl⟩ 29 lw_29 rfl rfl hl.1 (Nat.le_of_ble_eq_true rfl) ⟨(by show cc + 1 + 1 + 1 ≤ 600130; omega), (by show ss + 6 + 4 + 4 ≤ 7301080; omega)⟩ dL_law_327 ?_
          refine w_top (show bI (xGone S (nI f2)) = bI (G 2 f2 = 1) from bI_cong (by show rd 6 (S 2) (nI f2) = 1 ↔ _; rw [rd_6 (Nat.lt_of_lt_of_le k1 hnf), hra.gon f2 (Nat.lt_of_lt_of_le k1 hnf)])) ?_
          refine lv_if_ne (tgt := 335) hx hb dL_law_330 (by decide) (fun c_58 => ?_) (fun c_ => absurd (by have z := (hgi.op i hi c_56).1; rw [k5] at z; exact z) (bI_0 c_))
          refine lv_iinc (v := nI (i + 1)) (lv' := [(12, .int (nI (i + 1))), (11, .int (nI ((mFil G 1 i) + 1))), (15, .int (-1)), (14, .int (-1)), (13, .int (nI w9)), (0, .ref b), (1, .ref x), (2, .ref (o 0)), (3, .int (nI t)), (4, .int xv), (5, .long (xDig S n nf)), (7, .int (nI n)), (8, .ref q1), (9, .ref q2), (10, .ref q3)]) hx hb dL_law_335 hl (k := 14) rfl (iinc1 _) (by decide) rfl (fun ls hl => ?_)
          refine lv_goto (tgt := 114) hx hb dL_law_338 (by decide) ?_
          have e9 : atG T (i + 1) = upd (atG T i) w9 (((atG T i) w9) + 1) := atG_s ew (by omega)
          have e8 : inG T (i + 1) = inG T i := inG_s0 z2
          have e7 : baG G T (i + 1) = baG G T i := baG_s0 (fun z => z2 z.1)
          have e6 : mFil G 1 (i + 1) = mFil G 1 i + 1 := ct_t (p := fun b => G 7 b = 1) c_56
          have hP9 : va_P D vwCl (LW k a tr o fa ba x S U G T n nf (mL T n) (R ++ [(q1, .inl (k 0, 6, .inl (atG T (i + 1)))), (q2, .inl (k 0, 4, .inl (inG T (i + 1)))), (q3, .inl (k 0, 4, .inl (baG G T (i + 1))))])) H := by rw [e9, e8, e7]; exact hP
          have hD9 : va_D A (LW k a tr o fa ba x S U G T n nf (mL T n) (R ++ [(q1, .inl (k 0, 6, .inl (atG T (i + 1)))), (q2, .inl (k 0, 4, .inl (inG T (i + 1)))), (q3, .inl (k 0, 4, .inl (baG G T (i + 1))))])) := by rw [e9, e8, e7]; exact hD
          have h99 := ih ls H locs trivial (by show lv_has ls 28 [(0, .ref b), (1, .ref x), (2, .ref (o 0)), (3, .int (nI t)), (4, .int xv), (5, .long (xDig S n nf)), (7, .int (nI n)), (8, .ref q1), (9, .ref q2), (10, .ref q3), (11, .int (nI (mFil G 1 (i + 1)))), (12, .int (nI (i + 1)))]; rw [e6]; exact lv_sub hl [5, 6, 7, 8, 9, 10, 11, 12, 13, 14, 1, 0] rfl)
          exact h99 hP9 hD9 hS
        · have c_56 := bI_0 c_56
          refine lv_goto (tgt := 335) hx hb dL_law_308 (by decide) ?_
          refine lv_iinc (v := nI (i + 1)) (lv' := [(12, .int (nI (i + 1))), (15, .int (-1)), (14, .int (-1)), (13, .int (nI w9)), (0, .ref b), (1, .ref x), (2, .ref (o 0)), (3, .int (nI t)), (4, .int xv), (5, .long (xDig S n nf)), (7, .int (nI n)), (8, .ref q1), (9, .ref q2), (10, .ref q3), (11, .int (nI (mFil G 1 i)))]) hx hb dL_law_335 hl (k := 14) rfl (iinc1 _) (by decide) rfl (fun ls hl => ?_)
          refine lv_goto (tgt := 114) hx hb dL_law_338 (by decide) ?_
          have e9 : atG T (i + 1) = upd (atG T i) w9 (((atG T i) w9) + 1) := atG_s ew (by omega)
          have e8 : inG T (i + 1) = inG T i := inG_s0 z2
          have e7 : baG G T (i + 1) = baG G T i := baG_s0 (fun z => z2 z.1)
          have e6 : mFil G 1 (i + 1) = mFil G 1 i := ct_f (p := fun b => G 7 b = 1) c_56
          have hP9 : va_P D vwCl (LW k a tr o fa ba x S U G T n nf (mL T n) (R ++ [(q1, .inl (k 0, 6, .inl (atG T (i + 1)))), (q2, .inl (k 0, 4, .inl (inG T (i + 1)))), (q3, .inl (k 0, 4, .inl (baG G T (i + 1))))])) H := by rw [e9, e8, e7]; exact hP
          have hD9 : va_D A (LW k a tr o fa ba x S U G T n nf (mL T n) (R ++ [(q1, .inl (k 0, 6, .inl (atG T (i + 1)))), (q2, .inl (k 0, 4, .inl (inG T (i + 1)))), (q3, .inl (k 0, 4, .inl (baG G T (i + 1))))])) := by rw [e9, e8, e7]; exact hD
          have h99 := ih ls H locs trivial (by show lv_has ls 28 [(0, .ref b), (1, .ref x), (2, .ref (o 0)), (3, .int (nI t)), (4, .int xv), (5, .long (xDig S n nf)), (7, .int (nI n)), (8, .ref q1), (9, .ref q2), (10, .ref q3), (11, .int (nI (mFil G 1 (i + 1)))), (12, .int (nI (i + 1)))]; rw [e6]; exact lv_sub hl [4, 5, 6, 7, 8, 9, 10, 11, 12, 13, 14, 0] rfl)
          exact h99 hP9 hD9 hS
  · exact lv_sub hl [7, 8, 9, 10, 11, 6, 5, 4, 3, 2, 1, 0] rfl
  · exact hP
  · exact hD
  · exact hS
