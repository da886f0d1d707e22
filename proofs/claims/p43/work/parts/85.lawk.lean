set_option maxHeartbeats 1000000 in
set_option maxRecDepth 100000 in
theorem law_K {p : Program} {l : Launch} {e : Env} {s : State} {m : MethodId} {args : Array Value} {below : List Frame} {meth : Method} {c : Code} {D : va_G} {k : Nat → ClassId} {A : Nat → Prop} {a tr o fa ba : Nat → Nat} {b x : Nat} {S U G T : HS} {n nf : Nat} {R : va_W} {ls : Array Slot} {H : Heap} {locs : List Loc} {Q : State → Prop} {cc ss t : Nat} {xv : Int32} (hC : CallFix p m c cL_law 28 s args lw_all RL) (hE : eK D k s) (hA : ∀ q : Nat, s.heap.size ≤ q → A q) (hcc : cc + 60 ≤ 600130) (hss : ss + 3000 ≤ 7301080) (hnf0 : 0 < nf) (hra : RA S G n nf) (hrb : RB S T n) (hti : TI T n) (hgi : GI G T n nf) {V : HS} {q0 y8 y9 y10 N f d q1 q2 q3 q4 q5 : Nat} {dg : Int64} (hf : f < nf) (hvi : TI V n) (hps : PS G V T n d) (hun : UNF G V T n N) (hl : lv_has ls 28 [(0, .ref b), (1, .ref x), (2, .ref q0), (3, .int (nI t)), (4, .int xv), (5, .long dg), (7, .int (nI n)), (8, .ref y8), (9, .ref y9), (10, .ref y10), (11, .int (nI (mFil G 1 n))), (14, .int (nI N)), (15, .int (nI f)), (16, .int (nI (mRdyN G T f n))), (17, .ref q1), (18, .ref q2), (19, .ref q3), (20, .ref q4), (21, .ref q5), (22, .int (nI (mFil G 2 n))), (23, .int (nI d))]) (hP : va_P D vwCl (LW k a tr o fa ba x S U G T n nf (mL T n) (R ++ [(q1, .inl (k 0, n, .inl (hd_ (mUnA G V) n))), (q2, .inl (k 0, n, .inl (hd_ (V 1) n))), (q3, .inl (k 0, n, .inl (hd_ (V 3) n))), (q4, .inl (k 0, n, .inl (hd_ (V 4) n))), (q5, .inl (k 1, n, .inl (hd_ (opG G) n)))])) H) (hD : va_D A (LW k a tr o fa ba x S U G T n nf (mL T n) (R ++ [(q1, .inl (k 0, n, .inl (hd_ (mUnA G V) n))), (q2, .inl (k 0, n, .inl (hd_ (V 1) n))), (q3, .inl (k 0, n, .inl (hd_ (V 3) n))), (q4, .inl (k 0, n, .inl (hd_ (V 4) n))), (q5, .inl (k 1, n, .inl (hd_ (opG G) n)))]))) (hS : va_S A s.heap H locs) (K : ∀ (ls : Array Slot) (H : Heap) (locs : List Loc), lv_has ls 28 [(0, .ref b), (1, .ref x), (2, .ref q0), (3, .int (nI t)), (9, .ref y9)] → va_P D vwCl (LW k a tr o fa ba x S U G T n nf (mL T n) (R ++ [(q1, .inl (k 0, n, .inl (hd_ (mUnA G V) n))), (q2, .inl (k 0, n, .inl (hd_ (V 1) n))), (q3, .inl (k 0, n, .inl (hd_ (V 3) n))), (q4, .inl (k 0, n, .inl (hd_ (V 4) n))), (q5, .inl (k 1, n, .inl (hd_ (opG G) n)))])) H → va_D A (LW k a tr o fa ba x S U G T n nf (mL T n) (R ++ [(q1, .inl (k 0, n, .inl (hd_ (mUnA G V) n))), (q2, .inl (k 0, n, .inl (hd_ (V 1) n))), (q3, .inl (k 0, n, .inl (hd_ (V 3) n))), (q4, .inl (k 0, n, .inl (hd_ (V 4) n))), (q5, .inl (k 1, n, .inl (hd_ (opG G) n)))])) → va_S A s.heap H locs → W p l e room_1 s m args below meth c H locs cc ss Q (F0 m 1137 ls [])) : W p l e room_1 s m args below meth c H locs cc ss Q (F0 m 822 ls [.int (nI d)]) := by
  have hx := hC.1
  have hb := hC.2.1
  have hown : s.vm.findClass RL = some m.cls := hC.2.2.2.1
  have hts := hC.2.2.2.2
  have hn := hra.n40
  have hnf := hra.nf6
  have hLn : mL T n ≤ n := ct_le _ n
  refine lv_iload hx hb dL_law_822 (lv_at hl 20 rfl) ?_
  refine lv_icmp_ne (tgt := 856) hx hb dL_law_824 (by decide) (fun c_ => absurd rfl c_) (fun c_1 => ?_)
  refine lv_aload_n hx hb dL_law_827 rfl (lv_at hl 1 rfl) ?_
  refine lv_iload hx hb dL_law_828 (lv_at hl 12 rfl) ?_
  refine c_pVi (rest := []) hC hE hP (lx_readyOf l S (nI f) n hra.sn hn (xflt_n hra hf)) gc_RL_165 hd_X4_readyOf ⟨rfl, rfl⟩ ⟨Nat.le_of_ble_eq_true rfl, Nat.le_of_ble_eq_true rfl⟩ 29 lw_29 rfl rfl hl.1 (Nat.le_of_ble_eq_true rfl) ⟨(by show cc ≤ 600130; omega), (by show ss ≤ 7301080; omega)⟩ dL_law_830 ?_
  refine w_top (show nI (xRdyN S (nI f) n) = nI (mRdyN G T f n) from congrArg nI (rdy_ct hra hrb hf)) ?_
  refine lv_iload hx hb dL_law_833 (lv_at hl 13 rfl) ?_
  refine lv_icmp_ne (tgt := 856) hx hb dL_law_835 (by decide) (fun c_ => absurd rfl c_) (fun c_2 => ?_)
  refine lv_aload_n hx hb dL_law_838 rfl (lv_at hl 1 rfl) ?_
  refine c_pVi (rest := []) hC hE hP (lx_closedFiles l S ) gc_RL_154 hd_X4_closedFiles ⟨rfl, rfl⟩ ⟨Nat.le_of_ble_eq_true rfl, Nat.le_of_ble_eq_true rfl⟩ 29 lw_29 rfl rfl hl.1 (Nat.le_of_ble_eq_true rfl) ⟨(by show cc ≤ 600130; omega), (by show ss ≤ 7301080; omega)⟩ dL_law_839 ?_
  refine w_top (show nI (ct (fun j_ => S 10 j_ = 2) 40) = nI (mFil G 2 n) from congrArg nI (file_ct hra (by decide))) ?_
  refine lv_iload hx hb dL_law_842 (lv_at hl 19 rfl) ?_
  refine lv_icmp_ne (tgt := 856) hx hb dL_law_844 (by decide) (fun c_ => absurd rfl c_) (fun c_3 => ?_)
  refine lv_aload_n hx hb dL_law_847 rfl (lv_at hl 1 rfl) ?_
  refine c_pVi (rest := []) hC hE hP (lx_openFiles l S ) gc_RL_151 hd_X4_openFiles ⟨rfl, rfl⟩ ⟨Nat.le_of_ble_eq_true rfl, Nat.le_of_ble_eq_true rfl⟩ 29 lw_29 rfl rfl hl.1 (Nat.le_of_ble_eq_true rfl) ⟨(by show cc ≤ 600130; omega), (by show ss ≤ 7301080; omega)⟩ dL_law_848 ?_
  refine w_top (show nI (ct (fun j_ => S 10 j_ = 1) 40) = nI (mFil G 1 n) from congrArg nI (file_ct hra (by decide))) ?_
  refine lv_iload hx hb dL_law_851 (lv_at hl 10 rfl) ?_
  refine lv_icmp_eq (tgt := 858) hx hb dL_law_853 (by decide) (fun c_4 => ?_) (fun c_ => absurd rfl c_)
  refine lv_iconst (v := 0) hx hb dL_law_858 (by decide) ?_
  refine lv_istore (lv' := [(24, .int 0), (0, .ref b), (1, .ref x), (2, .ref q0), (3, .int (nI t)), (4, .int xv), (5, .long dg), (7, .int (nI n)), (8, .ref y8), (9, .ref y9), (10, .ref y10), (11, .int (nI (mFil G 1 n))), (14, .int (nI N)), (15, .int (nI f)), (16, .int (nI (mRdyN G T f n))), (17, .ref q1), (18, .ref q2), (19, .ref q3), (20, .ref q4), (21, .ref q5), (22, .int (nI (mFil G 2 n))), (23, .int (nI d))]) hx hb dL_law_859 hl (by decide) rfl (fun ls hl => ?_)
  refine lv_iconst (v := 0) hx hb dL_law_861 (by decide) ?_
  refine lv_istore (lv' := [(25, .int 0), (24, .int 0), (0, .ref b), (1, .ref x), (2, .ref q0), (3, .int (nI t)), (4, .int xv), (5, .long dg), (7, .int (nI n)), (8, .ref y8), (9, .ref y9), (10, .ref y10), (11, .int (nI (mFil G 1 n))), (14, .int (nI N)), (15, .int (nI f)), (16, .int (nI (mRdyN G T f n))), (17, .ref q1), (18, .ref q2), (19, .ref q3), (20, .ref q4), (21, .ref q5), (22, .int (nI (mFil G 2 n))), (23, .int (nI d))]) hx hb dL_law_862 hl (by decide) rfl (fun ls hl => ?_)
  refine w_for (N := n) (fun _ => True) (fun i => [(0, .ref b), (1, .ref x), (2, .ref q0), (3, .int (nI t)), (4, .int xv), (5, .long dg), (7, .int (nI n)), (8, .ref y8), (9, .ref y9), (10, .ref y10), (11, .int (nI (mFil G 1 n))), (14, .int (nI N)), (15, .int (nI f)), (16, .int (nI (mRdyN G T f n))), (17, .ref q1), (18, .ref q2), (19, .ref q3), (20, .ref q4), (21, .ref q5), (22, .int (nI (mFil G 2 n))), (23, .int (nI d)), (24, .int (nI (moN V T i))), (25, .int (nI i))]) (fun ls hI hl => ?_) (fun i hi hI ih ls hl => ?_) 0 (Nat.zero_le _) trivial (lv_sub hl [2, 3, 4, 5, 6, 7, 8, 9, 10, 11, 12, 13, 14, 15, 16, 17, 18, 19, 20, 21, 22, 1, 0] rfl)
  · have hl : lv_has ls 28 [(0, .ref b), (1, .ref x), (2, .ref q0), (3, .int (nI t)), (4, .int xv), (5, .long dg), (7, .int (nI n)), (8, .ref y8), (9, .ref y9), (10, .ref y10), (11, .int (nI (mFil G 1 n))), (14, .int (nI N)), (15, .int (nI f)), (16, .int (nI (mRdyN G T f n))), (17, .ref q1), (18, .ref q2), (19, .ref q3), (20, .ref q4), (21, .ref q5), (22, .int (nI (mFil G 2 n))), (23, .int (nI d)), (24, .int (nI (moN V T n))), (25, .int (nI n))] := hl
    refine lv_iload hx hb dL_law_864 (lv_at hl 22 rfl) ?_
    refine lv_iload hx hb dL_law_866 (lv_at hl 6 rfl) ?_
    refine lv_icmp_ge (tgt := 1128) hx hb dL_law_868 (by decide) (fun c_5 => ?_) (fun c_ => absurd (nI_le (Nat.le_refl n) (Nat.lt_of_le_of_lt hn (by decide))) c_)
    refine lv_iload hx hb dL_law_1128 (lv_at hl 21 rfl) ?_
    refine w_top (show nI (moN V T n) = nI d from congrArg nI (more_ct hps)) ?_
    refine lv_iload hx hb dL_law_1130 (lv_at hl 20 rfl) ?_
    refine lv_icmp_eq (tgt := 1137) hx hb dL_law_1132 (by decide) (fun c_6 => ?_) (fun c_ => absurd rfl c_)
    exact K ls H locs (lv_sub hl [0, 1, 2, 3, 8] rfl) hP hD hS
  · have hl : lv_has ls 28 [(0, .ref b), (1, .ref x), (2, .ref q0), (3, .int (nI t)), (4, .int xv), (5, .long dg), (7, .int (nI n)), (8, .ref y8), (9, .ref y9), (10, .ref y10), (11, .int (nI (mFil G 1 n))), (14, .int (nI N)), (15, .int (nI f)), (16, .int (nI (mRdyN G T f n))), (17, .ref q1), (18, .ref q2), (19, .ref q3), (20, .ref q4), (21, .ref q5), (22, .int (nI (mFil G 2 n))), (23, .int (nI d)), (24, .int (nI (moN V T i))), (25, .int (nI i))] := hl
    refine lv_iload hx hb dL_law_864 (lv_at hl 22 rfl) ?_
    refine lv_iload hx hb dL_law_866 (lv_at hl 6 rfl) ?_
    refine lv_icmp_ge (tgt := 1128) hx hb dL_law_868 (by decide) (fun c_ => absurd c_ (nI_ge hi (Nat.lt_of_le_of_lt hn (by decide)))) (fun c_7 => ?_)
    obtain ⟨s1, -, s3, s4, s5, s6, -⟩ := hps.1 i hi
    obtain ⟨u1, u2, u3, u4⟩ := hun i hi
    rcases case11 hvi hps.1 hi with ⟨hv, ht⟩ | ⟨hv, ht⟩ | ⟨hv, ht⟩ | ⟨hv, ht⟩ | ⟨hv, ht⟩ | ⟨hv, ht⟩ | ⟨hv, ht⟩ | ⟨hv, ht⟩ | ⟨hv, ht⟩ | ⟨hv, ht⟩ | ⟨hv, ht⟩
    · obtain ⟨-, p2, p3, p4⟩ := s1 (fun z => by rcases z with z | z <;> (rw [z] at hv; exact absurd hv (by decide)))
      refine lv_aload_n hx hb dL_law_871 rfl (lv_at hl 1 rfl) ?_
      refine lv_iload hx hb dL_law_872 (lv_at hl 22 rfl) ?_
      refine c_pVi (rest := []) hC hE hP (lx_whereIs l S (nI i) (xbag_n hra hi)) gc_RL_114 hd_X4_whereIs ⟨rfl, rfl⟩ ⟨Nat.le_of_ble_eq_true rfl, Nat.le_of_ble_eq_true rfl⟩ 29 lw_29 rfl rfl hl.1 (Nat.le_of_ble_eq_true rfl) ⟨(by show cc ≤ 600130; omega), (by show ss ≤ 7301080; omega)⟩ dL_law_874 ?_
      refine w_top (show rd 40 (S 6) (nI i) = T 1 i from (rd_40 (Nat.lt_of_lt_of_le hi hn)).trans (hrb.whr i hi)) ?_
      refine w_top (show T 1 i = 2 from ht) ?_
      refine lv_istore (lv' := [(26, .int 2), (0, .ref b), (1, .ref x), (2, .ref q0), (3, .int (nI t)), (4, .int xv), (5, .long dg), (7, .int (nI n)), (8, .ref y8), (9, .ref y9), (10, .ref y10), (11, .int (nI (mFil G 1 n))), (14, .int (nI N)), (15, .int (nI f)), (16, .int (nI (mRdyN G T f n))), (17, .ref q1), (18, .ref q2), (19, .ref q3), (20, .ref q4), (21, .ref q5), (22, .int (nI (mFil G 2 n))), (23, .int (nI d)), (24, .int (nI (moN V T i))), (25, .int (nI i))]) hx hb dL_law_877 hl (by decide) rfl (fun ls hl => ?_)
      refine lv_aload hx hb dL_law_879 (lv_at hl 15 rfl) ?_
      refine lv_iload hx hb dL_law_881 (lv_at hl 23 rfl) ?_
      refine k_iald (j := i) hx hb hE hP (64 + nf + n + (R.length + 0)) ((lw_Ri (i := 0)).trans rfl) hi (Nat.lt_of_le_of_lt hn (by decide)) dL_law_883 ?_
      refine w_top (show (hd_ (mUnA G V) n) i = 0 from (hd_at hi).trans (u1 hv)) ?_
      refine lv_if_le (tgt := 901) hx hb dL_law_884 (by decide) (fun c_8 => ?_) (fun c_ => absurd (by decide) c_)
      refine lv_iconst (v := 0) hx hb dL_law_901 (by decide) ?_
      refine lv_istore (lv' := [(27, .int 0), (26, .int 2), (0, .ref b), (1, .ref x), (2, .ref q0), (3, .int (nI t)), (4, .int xv), (5, .long dg), (7, .int (nI n)), (8, .ref y8), (9, .ref y9), (10, .ref y10), (11, .int (nI (mFil G 1 n))), (14, .int (nI N)), (15, .int (nI f)), (16, .int (nI (mRdyN G T f n))), (17, .ref q1), (18, .ref q2), (19, .ref q3), (20, .ref q4), (21, .ref q5), (22, .int (nI (mFil G 2 n))), (23, .int (nI d)), (24, .int (nI (moN V T i))), (25, .int (nI i))]) hx hb dL_law_902 hl (by decide) rfl (fun ls hl => ?_)
      refine lv_iload hx hb dL_law_904 (lv_at hl 23 rfl) ?_
      refine lv_iload hx hb dL_law_906 (lv_at hl 0 rfl) ?_
      refine lv_if_eq (tgt := 915) hx hb dL_law_908 (by decide) (fun c_9 => ?_) (fun c_ => absurd rfl c_)
      refine lv_iconst (v := 0) hx hb dL_law_915 (by decide) ?_
      refine lv_iadd hx hb dL_law_916 ?_
      refine w_top (show (nI (moN V T i)) + 0 = nI (moN V T i) from Int32.add_zero _) ?_
      refine lv_istore (lv' := [(24, .int (nI (moN V T i))), (27, .int 0), (26, .int 2), (0, .ref b), (1, .ref x), (2, .ref q0), (3, .int (nI t)), (4, .int xv), (5, .long dg), (7, .int (nI n)), (8, .ref y8), (9, .ref y9), (10, .ref y10), (11, .int (nI (mFil G 1 n))), (14, .int (nI N)), (15, .int (nI f)), (16, .int (nI (mRdyN G T f n))), (17, .ref q1), (18, .ref q2), (19, .ref q3), (20, .ref q4), (21, .ref q5), (22, .int (nI (mFil G 2 n))), (23, .int (nI d)), (25, .int (nI i))]) hx hb dL_law_917 hl (by decide) rfl (fun ls hl => ?_)
      refine lv_iload hx hb dL_law_919 (lv_at hl 1 rfl) ?_
      refine lv_iload hx hb dL_law_921 (lv_at hl 2 rfl) ?_
      refine lv_iconst (v := 2) hx hb dL_law_923 (by decide) ?_
      refine lv_icmp_ne (tgt := 940) hx hb dL_law_924 (by decide) (fun c_ => absurd rfl c_) (fun c_10 => ?_)
      refine lv_aload hx hb dL_law_927 (lv_at hl 18 rfl) ?_
      refine lv_iload hx hb dL_law_929 (lv_at hl 24 rfl) ?_
      refine k_iald (j := i) hx hb hE hP (64 + nf + n + (R.length + 1)) ((lw_Ri (i := 1)).trans rfl) hi (Nat.lt_of_le_of_lt hn (by decide)) dL_law_931 ?_
      refine w_top (show (hd_ (V 1) n) i = 2 from (hd_at hi).trans hv) ?_
      refine lv_iconst (v := 2) hx hb dL_law_932 (by decide) ?_
      refine lv_icmp_eq (tgt := 940) hx hb dL_law_933 (by decide) (fun c_11 => ?_) (fun c_ => absurd rfl c_)
      refine lv_iconst (v := 0) hx hb dL_law_940 (by decide) ?_
      refine lv_icmp_ne (tgt := 990) hx hb dL_law_941 (by decide) (fun c_ => absurd rfl c_) (fun c_12 => ?_)
      refine lv_aload hx hb dL_law_944 (lv_at hl 18 rfl) ?_
      refine lv_iload hx hb dL_law_946 (lv_at hl 24 rfl) ?_
      refine k_iald (j := i) hx hb hE hP (64 + nf + n + (R.length + 1)) ((lw_Ri (i := 1)).trans rfl) hi (Nat.lt_of_le_of_lt hn (by decide)) dL_law_948 ?_
      refine w_top (show (hd_ (V 1) n) i = 2 from (hd_at hi).trans hv) ?_
      refine lv_iconst (v := 1) hx hb dL_law_949 (by decide) ?_
      refine lv_icmp_le (tgt := 963) hx hb dL_law_950 (by decide) (fun c_ => absurd c_ (by decide)) (fun c_13 => ?_)
      refine lv_iload hx hb dL_law_953 (lv_at hl 2 rfl) ?_
      refine lv_aload hx hb dL_law_955 (lv_at hl 18 rfl) ?_
      refine lv_iload hx hb dL_law_957 (lv_at hl 24 rfl) ?_
      refine k_iald (j := i) hx hb hE hP (64 + nf + n + (R.length + 1)) ((lw_Ri (i := 1)).trans rfl) hi (Nat.lt_of_le_of_lt hn (by decide)) dL_law_959 ?_
      refine w_top (show (hd_ (V 1) n) i = 2 from (hd_at hi).trans hv) ?_
      refine lv_icmp_ne (tgt := 990) hx hb dL_law_960 (by decide) (fun c_ => absurd rfl c_) (fun c_14 => ?_)
      refine lv_iload hx hb dL_law_963 (lv_at hl 2 rfl) ?_
      refine lv_if_ne (tgt := 976) hx hb dL_law_965 (by decide) (fun c_15 => ?_) (fun c_ => absurd c_ (by decide))
      refine lv_aload_n hx hb dL_law_976 rfl (lv_at hl 4 rfl) ?_
      refine lv_iload hx hb dL_law_977 (lv_at hl 24 rfl) ?_
      refine c_pVi (rest := []) hC hE hP (lx_hasOpenFile l S (nI i) (xbag_n hra hi)) gc_RL_133 hd_X4_hasOpenFile ⟨rfl, rfl⟩ ⟨Nat.le_of_ble_eq_true rfl, Nat.le_of_ble_eq_true rfl⟩ 29 lw_29 rfl rfl hl.1 (Nat.le_of_ble_eq_true rfl) ⟨(by show cc ≤ 600130; omega), (by show ss ≤ 7301080; omega)⟩ dL_law_979 ?_
      refine w_top (show bI (rd 40 (S 10) (nI i) = 1) = bI (G 7 i = 1) from bI_cong (by rw [rd_40 (Nat.lt_of_lt_of_le hi hn), hra.fil i hi])) ?_
      refine lv_aload hx hb dL_law_982 (lv_at hl 21 rfl) ?_
      refine lv_iload hx hb dL_law_984 (lv_at hl 24 rfl) ?_
      refine k_zald (j := i) hx hb hE hP (64 + nf + n + (R.length + 4)) ((lw_Ri (i := 4)).trans rfl) hi (Nat.lt_of_le_of_lt hn (by decide)) dL_law_986 ?_
      refine w_top (show (hd_ (opG G) n) i = bI (G 7 i = 1) from hd_at (g := opG G) hi) ?_
      refine lv_icmp_eq (tgt := 992) hx hb dL_law_987 (by decide) (fun c_16 => ?_) (fun c_ => absurd rfl c_)
      refine lv_aload hx hb dL_law_992 (lv_at hl 19 rfl) ?_
      refine lv_iload hx hb dL_law_994 (lv_at hl 24 rfl) ?_
      refine k_iald (j := i) hx hb hE hP (64 + nf + n + (R.length + 2)) ((lw_Ri (i := 2)).trans rfl) hi (Nat.lt_of_le_of_lt hn (by decide)) dL_law_996 ?_
      refine w_top (show (hd_ (V 3) n) i = V 3 i from hd_at hi) ?_
      refine lv_if_lt (tgt := 1014) hx hb dL_law_997 (by decide) (fun c_17 => ?_) (fun c_17 => ?_)
      · refine lv_aload_n hx hb dL_law_1014 rfl (lv_at hl 4 rfl) ?_
        refine lv_iload hx hb dL_law_1015 (lv_at hl 24 rfl) ?_
        refine c_pVi (rest := []) hC hE hP (lx_missesOf l S (nI i) (xbag_n hra hi)) gc_RL_126 hd_X4_missesOf ⟨rfl, rfl⟩ ⟨Nat.le_of_ble_eq_true rfl, Nat.le_of_ble_eq_true rfl⟩ 29 lw_29 rfl rfl hl.1 (Nat.le_of_ble_eq_true rfl) ⟨(by show cc ≤ 600130; omega), (by show ss ≤ 7301080; omega)⟩ dL_law_1017 ?_
        refine w_top (show rd 40 (S 9) (nI i) = T 4 i from (rd_40 (Nat.lt_of_lt_of_le hi hn)).trans (hrb.mis i hi)) ?_
        refine lv_aload hx hb dL_law_1020 (lv_at hl 20 rfl) ?_
        refine lv_iload hx hb dL_law_1022 (lv_at hl 24 rfl) ?_
        refine k_iald (j := i) hx hb hE hP (64 + nf + n + (R.length + 3)) ((lw_Ri (i := 3)).trans rfl) hi (Nat.lt_of_le_of_lt hn (by decide)) dL_law_1024 ?_
        refine w_top (show (hd_ (V 4) n) i = V 4 i from hd_at hi) ?_
        refine lv_icmp_lt (tgt := 1120) hx hb dL_law_1025 (by decide) (fun c_ => absurd c_ (Int32.not_lt.mpr s4)) (fun c_18 => ?_)
        refine lv_aload hx hb dL_law_1028 (lv_at hl 18 rfl) ?_
        refine lv_iload hx hb dL_law_1030 (lv_at hl 24 rfl) ?_
        refine k_iald (j := i) hx hb hE hP (64 + nf + n + (R.length + 1)) ((lw_Ri (i := 1)).trans rfl) hi (Nat.lt_of_le_of_lt hn (by decide)) dL_law_1032 ?_
        refine w_top (show (hd_ (V 1) n) i = 2 from (hd_at hi).trans hv) ?_
        refine lv_iconst (v := 1) hx hb dL_law_1033 (by decide) ?_
        refine lv_icmp_le (tgt := 1065) hx hb dL_law_1034 (by decide) (fun c_ => absurd c_ (by decide)) (fun c_19 => ?_)
        refine lv_aload_n hx hb dL_law_1037 rfl (lv_at hl 4 rfl) ?_
        refine lv_iload hx hb dL_law_1038 (lv_at hl 24 rfl) ?_
        refine c_pVi (rest := []) hC hE hP (lx_readFor l S (nI i) (xbag_n hra hi)) gc_RL_129 hd_X4_readFor ⟨rfl, rfl⟩ ⟨Nat.le_of_ble_eq_true rfl, Nat.le_of_ble_eq_true rfl⟩ 29 lw_29 rfl rfl hl.1 (Nat.le_of_ble_eq_true rfl) ⟨(by show cc ≤ 600130; omega), (by show ss ≤ 7301080; omega)⟩ dL_law_1040 ?_
        refine w_top (show rd 40 (S 8) (nI i) = T 3 i from (rd_40 (Nat.lt_of_lt_of_le hi hn)).trans (hrb.rdd i hi)) ?_
        refine lv_aload hx hb dL_law_1043 (lv_at hl 19 rfl) ?_
        refine lv_iload hx hb dL_law_1045 (lv_at hl 24 rfl) ?_
        refine k_iald (j := i) hx hb hE hP (64 + nf + n + (R.length + 2)) ((lw_Ri (i := 2)).trans rfl) hi (Nat.lt_of_le_of_lt hn (by decide)) dL_law_1047 ?_
        refine w_top (show (hd_ (V 3) n) i = V 3 i from hd_at hi) ?_
        refine lv_icmp_ne (tgt := 1120) hx hb dL_law_1048 (by decide) (fun c_ => absurd p3 c_) (fun c_20 => ?_)
        refine lv_aload_n hx hb dL_law_1051 rfl (lv_at hl 4 rfl) ?_
        refine lv_iload hx hb dL_law_1052 (lv_at hl 24 rfl) ?_
        refine c_pVi (rest := []) hC hE hP (lx_missesOf l S (nI i) (xbag_n hra hi)) gc_RL_126 hd_X4_missesOf ⟨rfl, rfl⟩ ⟨Nat.le_of_ble_eq_true rfl, Nat.le_of_ble_eq_true rfl⟩ 29 lw_29 rfl rfl hl.1 (Nat.le_of_ble_eq_true rfl) ⟨(by show cc ≤ 600130; omega), (by show ss ≤ 7301080; omega)⟩ dL_law_1054 ?_
        refine w_top (show rd 40 (S 9) (nI i) = T 4 i from (rd_40 (Nat.lt_of_lt_of_le hi hn)).trans (hrb.mis i hi)) ?_
        refine lv_aload hx hb dL_law_1057 (lv_at hl 20 rfl) ?_
        refine lv_iload hx hb dL_law_1059 (lv_at hl 24 rfl) ?_
        refine k_iald (j := i) hx hb hE hP (64 + nf + n + (R.length + 3)) ((lw_Ri (i := 3)).trans rfl) hi (Nat.lt_of_le_of_lt hn (by decide)) dL_law_1061 ?_
        refine w_top (show (hd_ (V 4) n) i = V 4 i from hd_at hi) ?_
        refine lv_icmp_ne (tgt := 1120) hx hb dL_law_1062 (by decide) (fun c_ => absurd p4 c_) (fun c_21 => ?_)
        refine lv_iload hx hb dL_law_1065 (lv_at hl 2 rfl) ?_
        refine lv_iconst (v := 2) hx hb dL_law_1067 (by decide) ?_
        refine lv_icmp_ne (tgt := 1095) hx hb dL_law_1068 (by decide) (fun c_ => absurd rfl c_) (fun c_22 => ?_)
        refine lv_aload hx hb dL_law_1071 (lv_at hl 18 rfl) ?_
        refine lv_iload hx hb dL_law_1073 (lv_at hl 24 rfl) ?_
        refine k_iald (j := i) hx hb hE hP (64 + nf + n + (R.length + 1)) ((lw_Ri (i := 1)).trans rfl) hi (Nat.lt_of_le_of_lt hn (by decide)) dL_law_1075 ?_
        refine w_top (show (hd_ (V 1) n) i = 2 from (hd_at hi).trans hv) ?_
        refine lv_iconst (v := 2) hx hb dL_law_1076 (by decide) ?_
        refine lv_icmp_ge (tgt := 1095) hx hb dL_law_1077 (by decide) (fun c_23 => ?_) (fun c_ => absurd (by decide) c_)
        refine lv_iload hx hb dL_law_1095 (lv_at hl 2 rfl) ?_
        refine lv_iconst (v := 3) hx hb dL_law_1097 (by decide) ?_
        refine lv_icmp_ne (tgt := 1122) hx hb dL_law_1098 (by decide) (fun c_24 => ?_) (fun c_ => absurd c_ (by decide))
        refine lv_iinc (v := nI (i + 1)) (lv' := [(25, .int (nI (i + 1))), (24, .int (nI (moN V T i))), (27, .int 0), (26, .int 2), (0, .ref b), (1, .ref x), (2, .ref q0), (3, .int (nI t)), (4, .int xv), (5, .long dg), (7, .int (nI n)), (8, .ref y8), (9, .ref y9), (10, .ref y10), (11, .int (nI (mFil G 1 n))), (14, .int (nI N)), (15, .int (nI f)), (16, .int (nI (mRdyN G T f n))), (17, .ref q1), (18, .ref q2), (19, .ref q3), (20, .ref q4), (21, .ref q5), (22, .int (nI (mFil G 2 n))), (23, .int (nI d))]) hx hb dL_law_1122 hl (k := 24) rfl (iinc1 _) (by decide) rfl (fun ls hl => ?_)
        refine lv_goto (tgt := 864) hx hb dL_law_1125 (by decide) ?_
        have e9 : moN V T (i + 1) = moN V T i := moN_f (fun z => z.2 hv)
        exact ih ls trivial (by show lv_has ls 28 [(0, .ref b), (1, .ref x), (2, .ref q0), (3, .int (nI t)), (4, .int xv), (5, .long dg), (7, .int (nI n)), (8, .ref y8), (9, .ref y9), (10, .ref y10), (11, .int (nI (mFil G 1 n))), (14, .int (nI N)), (15, .int (nI f)), (16, .int (nI (mRdyN G T f n))), (17, .ref q1), (18, .ref q2), (19, .ref q3), (20, .ref q4), (21, .ref q5), (22, .int (nI (mFil G 2 n))), (23, .int (nI d)), (24, .int (nI (moN V T (i + 1)))), (25, .int (nI (i + 1)))]; rw [e9]; exact lv_sub hl [4, 5, 6, 7, 8, 9, 10, 11, 12, 13, 14, 15, 16, 17, 18, 19, 20, 21, 22, 23, 24, 1, 0] rfl)
      · refine lv_aload_n hx hb dL_law_1000 rfl (lv_at hl 4 rfl) ?_
        refine lv_iload hx hb dL_law_1001 (lv_at hl 24 rfl) ?_
        refine c_pVi (rest := []) hC hE hP (lx_readFor l S (nI i) (xbag_n hra hi)) gc_RL_129 hd_X4_readFor ⟨rfl, rfl⟩ ⟨Nat.le_of_ble_eq_true rfl, Nat.le_of_ble_eq_true rfl⟩ 29 lw_29 rfl rfl hl.1 (Nat.le_of_ble_eq_true rfl) ⟨(by show cc ≤ 600130; omega), (by show ss ≤ 7301080; omega)⟩ dL_law_1003 ?_
        refine w_top (show rd 40 (S 8) (nI i) = T 3 i from (rd_40 (Nat.lt_of_lt_of_le hi hn)).trans (hrb.rdd i hi)) ?_
        refine lv_aload hx hb dL_law_1006 (lv_at hl 19 rfl) ?_
        refine lv_iload hx hb dL_law_1008 (lv_at hl 24 rfl) ?_
        refine k_iald (j := i) hx hb hE hP (64 + nf + n + (R.length + 2)) ((lw_Ri (i := 2)).trans rfl) hi (Nat.lt_of_le_of_lt hn (by decide)) dL_law_1010 ?_
        refine w_top (show (hd_ (V 3) n) i = V 3 i from hd_at hi) ?_
        refine lv_icmp_ne (tgt := 1120) hx hb dL_law_1011 (by decide) (fun c_ => absurd p3 c_) (fun c_25 => ?_)
        refine lv_aload_n hx hb dL_law_1014 rfl (lv_at hl 4 rfl) ?_
        refine lv_iload hx hb dL_law_1015 (lv_at hl 24 rfl) ?_
        refine c_pVi (rest := []) hC hE hP (lx_missesOf l S (nI i) (xbag_n hra hi)) gc_RL_126 hd_X4_missesOf ⟨rfl, rfl⟩ ⟨Nat.le_of_ble_eq_true rfl, Nat.le_of_ble_eq_true rfl⟩ 29 lw_29 rfl rfl hl.1 (Nat.le_of_ble_eq_true rfl) ⟨(by show cc ≤ 600130; omega), (by show ss ≤ 7301080; omega)⟩ dL_law_1017 ?_
        refine w_top (show rd 40 (S 9) (nI i) = T 4 i from (rd_40 (Nat.lt_of_lt_of_le hi hn)).trans (hrb.mis i hi)) ?_
        refine lv_aload hx hb dL_law_1020 (lv_at hl 20 rfl) ?_
        refine lv_iload hx hb dL_law_1022 (lv_at hl 24 rfl) ?_
        refine k_iald (j := i) hx hb hE hP (64 + nf + n + (R.length + 3)) ((lw_Ri (i := 3)).trans rfl) hi (Nat.lt_of_le_of_lt hn (by decide)) dL_law_1024 ?_
        refine w_top (show (hd_ (V 4) n) i = V 4 i from hd_at hi) ?_
        refine lv_icmp_lt (tgt := 1120) hx hb dL_law_1025 (by decide) (fun c_ => absurd c_ (Int32.not_lt.mpr s4)) (fun c_26 => ?_)
        refine lv_aload hx hb dL_law_1028 (lv_at hl 18 rfl) ?_
        refine lv_iload hx hb dL_law_1030 (lv_at hl 24 rfl) ?_
        refine k_iald (j := i) hx hb hE hP (64 + nf + n + (R.length + 1)) ((lw_Ri (i := 1)).trans rfl) hi (Nat.lt_of_le_of_lt hn (by decide)) dL_law_1032 ?_
        refine w_top (show (hd_ (V 1) n) i = 2 from (hd_at hi).trans hv) ?_
        refine lv_iconst (v := 1) hx hb dL_law_1033 (by decide) ?_
        refine lv_icmp_le (tgt := 1065) hx hb dL_law_1034 (by decide) (fun c_ => absurd c_ (by decide)) (fun c_27 => ?_)
        refine lv_aload_n hx hb dL_law_1037 rfl (lv_at hl 4 rfl) ?_
        refine lv_iload hx hb dL_law_1038 (lv_at hl 24 rfl) ?_
        refine c_pVi (rest := []) hC hE hP (lx_readFor l S (nI i) (xbag_n hra hi)) gc_RL_129 hd_X4_readFor ⟨rfl, rfl⟩ ⟨Nat.le_of_ble_eq_true rfl, Nat.le_of_ble_eq_true rfl⟩ 29 lw_29 rfl rfl hl.1 (Nat.le_of_ble_eq_true rfl) ⟨(by show cc ≤ 600130; omega), (by show ss ≤ 7301080; omega)⟩ dL_law_1040 ?_
        refine w_top (show rd 40 (S 8) (nI i) = T 3 i from (rd_40 (Nat.lt_of_lt_of_le hi hn)).trans (hrb.rdd i hi)) ?_
        refine lv_aload hx hb dL_law_1043 (lv_at hl 19 rfl) ?_
        refine lv_iload hx hb dL_law_1045 (lv_at hl 24 rfl) ?_
        refine k_iald (j := i) hx hb hE hP (64 + nf + n + (R.length + 2)) ((lw_Ri (i := 2)).trans rfl) hi (Nat.lt_of_le_of_lt hn (by decide)) dL_law_1047 ?_
        refine w_top (show (hd_ (V 3) n) i = V 3 i from hd_at hi) ?_
        refine lv_icmp_ne (tgt := 1120) hx hb dL_law_1048 (by decide) (fun c_ => absurd p3 c_) (fun c_28 => ?_)
        refine lv_aload_n hx hb dL_law_1051 rfl (lv_at hl 4 rfl) ?_
        refine lv_iload hx hb dL_law_1052 (lv_at hl 24 rfl) ?_
        refine c_pVi (rest := []) hC hE hP (lx_missesOf l S (nI i) (xbag_n hra hi)) gc_RL_126 hd_X4_missesOf ⟨rfl, rfl⟩ ⟨Nat.le_of_ble_eq_true rfl, Nat.le_of_ble_eq_true rfl⟩ 29 lw_29 rfl rfl hl.1 (Nat.le_of_ble_eq_true rfl) ⟨(by show cc ≤ 600130; omega), (by show ss ≤ 7301080; omega)⟩ dL_law_1054 ?_
        refine w_top (show rd 40 (S 9) (nI i) = T 4 i from (rd_40 (Nat.lt_of_lt_of_le hi hn)).trans (hrb.mis i hi)) ?_
        refine lv_aload hx hb dL_law_1057 (lv_at hl 20 rfl) ?_
        refine lv_iload hx hb dL_law_1059 (lv_at hl 24 rfl) ?_
        refine k_iald (j := i) hx hb hE hP (64 + nf + n + (R.length + 3)) ((lw_Ri (i := 3)).trans rfl) hi (Nat.lt_of_le_of_lt hn (by decide)) dL_law_1061 ?_
        refine w_top (show (hd_ (V 4) n) i = V 4 i from hd_at hi) ?_
        refine lv_icmp_ne (tgt := 1120) hx hb dL_law_1062 (by decide) (fun c_ => absurd p4 c_) (fun c_29 => ?_)
        refine lv_iload hx hb dL_law_1065 (lv_at hl 2 rfl) ?_
        refine lv_iconst (v := 2) hx hb dL_law_1067 (by decide) ?_
        refine lv_icmp_ne (tgt := 1095) hx hb dL_law_1068 (by decide) (fun c_ => absurd rfl c_) (fun c_30 => ?_)
        refine lv_aload hx hb dL_law_1071 (lv_at hl 18 rfl) ?_
        refine lv_iload hx hb dL_law_1073 (lv_at hl 24 rfl) ?_
        refine k_iald (j := i) hx hb hE hP (64 + nf + n + (R.length + 1)) ((lw_Ri (i := 1)).trans rfl) hi (Nat.lt_of_le_of_lt hn (by decide)) dL_law_1075 ?_
        refine w_top (show (hd_ (V 1) n) i = 2 from (hd_at hi).trans hv) ?_
        refine lv_iconst (v := 2) hx hb dL_law_1076 (by decide) ?_
        refine lv_icmp_ge (tgt := 1095) hx hb dL_law_1077 (by decide) (fun c_31 => ?_) (fun c_ => absurd (by decide) c_)
        refine lv_iload hx hb dL_law_1095 (lv_at hl 2 rfl) ?_
        refine lv_iconst (v := 3) hx hb dL_law_1097 (by decide) ?_
        refine lv_icmp_ne (tgt := 1122) hx hb dL_law_1098 (by decide) (fun c_32 => ?_) (fun c_ => absurd c_ (by decide))
        refine lv_iinc (v := nI (i + 1)) (lv' := [(25, .int (nI (i + 1))), (24, .int (nI (moN V T i))), (27, .int 0), (26, .int 2), (0, .ref b), (1, .ref x), (2, .ref q0), (3, .int (nI t)), (4, .int xv), (5, .long dg), (7, .int (nI n)), (8, .ref y8), (9, .ref y9), (10, .ref y10), (11, .int (nI (mFil G 1 n))), (14, .int (nI N)), (15, .int (nI f)), (16, .int (nI (mRdyN G T f n))), (17, .ref q1), (18, .ref q2), (19, .ref q3), (20, .ref q4), (21, .ref q5), (22, .int (nI (mFil G 2 n))), (23, .int (nI d))]) hx hb dL_law_1122 hl (k := 24) rfl (iinc1 _) (by decide) rfl (fun ls hl => ?_)
        refine lv_goto (tgt := 864) hx hb dL_law_1125 (by decide) ?_
        have e9 : moN V T (i + 1) = moN V T i := moN_f (fun z => z.2 hv)
        exact ih ls trivial (by show lv_has ls 28 [(0, .ref b), (1, .ref x), (2, .ref q0), (3, .int (nI t)), (4, .int xv), (5, .long dg), (7, .int (nI n)), (8, .ref y8), (9, .ref y9), (10, .ref y10), (11, .int (nI (mFil G 1 n))), (14, .int (nI N)), (15, .int (nI f)), (16, .int (nI (mRdyN G T f n))), (17, .ref q1), (18, .ref q2), (19, .ref q3), (20, .ref q4), (21, .ref q5), (22, .int (nI (mFil G 2 n))), (23, .int (nI d)), (24, .int (nI (moN V T (i + 1)))), (25, .int (nI (i + 1)))]; rw [e9]; exact lv_sub hl [4, 5, 6, 7, 8, 9, 10, 11, 12, 13, 14, 15, 16, 17, 18, 19, 20, 21, 22, 23, 24, 1, 0] rfl)
    · obtain ⟨-, p2, p3, p4⟩ := s1 (fun z => by rcases z with z | z <;> (rw [z] at hv; exact absurd hv (by decide)))
      refine lv_aload_n hx hb dL_law_871 rfl (lv_at hl 1 rfl) ?_
      refine lv_iload hx hb dL_law_872 (lv_at hl 22 rfl) ?_
      refine c_pVi (rest := []) hC hE hP (lx_whereIs l S (nI i) (xbag_n hra hi)) gc_RL_114 hd_X4_whereIs ⟨rfl, rfl⟩ ⟨Nat.le_of_ble_eq_true rfl, Nat.le_of_ble_eq_true rfl⟩ 29 lw_29 rfl rfl hl.1 (Nat.le_of_ble_eq_true rfl) ⟨(by show cc ≤ 600130; omega), (by show ss ≤ 7301080; omega)⟩ dL_law_874 ?_
      refine w_top (show rd 40 (S 6) (nI i) = T 1 i from (rd_40 (Nat.lt_of_lt_of_le hi hn)).trans (hrb.whr i hi)) ?_
      refine w_top (show T 1 i = 3 from ht) ?_
      refine lv_istore (lv' := [(26, .int 3), (0, .ref b), (1, .ref x), (2, .ref q0), (3, .int (nI t)), (4, .int xv), (5, .long dg), (7, .int (nI n)), (8, .ref y8), (9, .ref y9), (10, .ref y10), (11, .int (nI (mFil G 1 n))), (14, .int (nI N)), (15, .int (nI f)), (16, .int (nI (mRdyN G T f n))), (17, .ref q1), (18, .ref q2), (19, .ref q3), (20, .ref q4), (21, .ref q5), (22, .int (nI (mFil G 2 n))), (23, .int (nI d)), (24, .int (nI (moN V T i))), (25, .int (nI i))]) hx hb dL_law_877 hl (by decide) rfl (fun ls hl => ?_)
      refine lv_aload hx hb dL_law_879 (lv_at hl 15 rfl) ?_
      refine lv_iload hx hb dL_law_881 (lv_at hl 23 rfl) ?_
      refine k_iald (j := i) hx hb hE hP (64 + nf + n + (R.length + 0)) ((lw_Ri (i := 0)).trans rfl) hi (Nat.lt_of_le_of_lt hn (by decide)) dL_law_883 ?_
      refine w_top (show (hd_ (mUnA G V) n) i = (-1) from (hd_at hi).trans (u2 (fun z => by rcases z with z | z <;> (rw [z] at hv; exact absurd hv (by decide))) (by rw [hv]; decide))) ?_
      refine lv_if_le (tgt := 901) hx hb dL_law_884 (by decide) (fun c_33 => ?_) (fun c_ => absurd (by decide) c_)
      refine lv_iconst (v := 0) hx hb dL_law_901 (by decide) ?_
      refine lv_istore (lv' := [(27, .int 0), (26, .int 3), (0, .ref b), (1, .ref x), (2, .ref q0), (3, .int (nI t)), (4, .int xv), (5, .long dg), (7, .int (nI n)), (8, .ref y8), (9, .ref y9), (10, .ref y10), (11, .int (nI (mFil G 1 n))), (14, .int (nI N)), (15, .int (nI f)), (16, .int (nI (mRdyN G T f n))), (17, .ref q1), (18, .ref q2), (19, .ref q3), (20, .ref q4), (21, .ref q5), (22, .int (nI (mFil G 2 n))), (23, .int (nI d)), (24, .int (nI (moN V T i))), (25, .int (nI i))]) hx hb dL_law_902 hl (by decide) rfl (fun ls hl => ?_)
      refine lv_iload hx hb dL_law_904 (lv_at hl 23 rfl) ?_
      refine lv_iload hx hb dL_law_906 (lv_at hl 0 rfl) ?_
      refine lv_if_eq (tgt := 915) hx hb dL_law_908 (by decide) (fun c_34 => ?_) (fun c_ => absurd rfl c_)
      refine lv_iconst (v := 0) hx hb dL_law_915 (by decide) ?_
      refine lv_iadd hx hb dL_law_916 ?_
      refine w_top (show (nI (moN V T i)) + 0 = nI (moN V T i) from Int32.add_zero _) ?_
      refine lv_istore (lv' := [(24, .int (nI (moN V T i))), (27, .int 0), (26, .int 3), (0, .ref b), (1, .ref x), (2, .ref q0), (3, .int (nI t)), (4, .int xv), (5, .long dg), (7, .int (nI n)), (8, .ref y8), (9, .ref y9), (10, .ref y10), (11, .int (nI (mFil G 1 n))), (14, .int (nI N)), (15, .int (nI f)), (16, .int (nI (mRdyN G T f n))), (17, .ref q1), (18, .ref q2), (19, .ref q3), (20, .ref q4), (21, .ref q5), (22, .int (nI (mFil G 2 n))), (23, .int (nI d)), (25, .int (nI i))]) hx hb dL_law_917 hl (by decide) rfl (fun ls hl => ?_)
      refine lv_iload hx hb dL_law_919 (lv_at hl 1 rfl) ?_
      refine lv_iload hx hb dL_law_921 (lv_at hl 2 rfl) ?_
      refine lv_iconst (v := 2) hx hb dL_law_923 (by decide) ?_
      refine lv_icmp_ne (tgt := 940) hx hb dL_law_924 (by decide) (fun c_35 => ?_) (fun c_ => absurd c_ (by decide))
      refine lv_iconst (v := 0) hx hb dL_law_940 (by decide) ?_
      refine lv_icmp_ne (tgt := 990) hx hb dL_law_941 (by decide) (fun c_ => absurd rfl c_) (fun c_36 => ?_)
      refine lv_aload hx hb dL_law_944 (lv_at hl 18 rfl) ?_
      refine lv_iload hx hb dL_law_946 (lv_at hl 24 rfl) ?_
      refine k_iald (j := i) hx hb hE hP (64 + nf + n + (R.length + 1)) ((lw_Ri (i := 1)).trans rfl) hi (Nat.lt_of_le_of_lt hn (by decide)) dL_law_948 ?_
      refine w_top (show (hd_ (V 1) n) i = 3 from (hd_at hi).trans hv) ?_
      refine lv_iconst (v := 1) hx hb dL_law_949 (by decide) ?_
      refine lv_icmp_le (tgt := 963) hx hb dL_law_950 (by decide) (fun c_ => absurd c_ (by decide)) (fun c_37 => ?_)
      refine lv_iload hx hb dL_law_953 (lv_at hl 2 rfl) ?_
      refine lv_aload hx hb dL_law_955 (lv_at hl 18 rfl) ?_
      refine lv_iload hx hb dL_law_957 (lv_at hl 24 rfl) ?_
      refine k_iald (j := i) hx hb hE hP (64 + nf + n + (R.length + 1)) ((lw_Ri (i := 1)).trans rfl) hi (Nat.lt_of_le_of_lt hn (by decide)) dL_law_959 ?_
      refine w_top (show (hd_ (V 1) n) i = 3 from (hd_at hi).trans hv) ?_
      refine lv_icmp_ne (tgt := 990) hx hb dL_law_960 (by decide) (fun c_ => absurd rfl c_) (fun c_38 => ?_)
      refine lv_iload hx hb dL_law_963 (lv_at hl 2 rfl) ?_
      refine lv_if_ne (tgt := 976) hx hb dL_law_965 (by decide) (fun c_39 => ?_) (fun c_ => absurd c_ (by decide))
      refine lv_aload_n hx hb dL_law_976 rfl (lv_at hl 4 rfl) ?_
      refine lv_iload hx hb dL_law_977 (lv_at hl 24 rfl) ?_
      refine c_pVi (rest := []) hC hE hP (lx_hasOpenFile l S (nI i) (xbag_n hra hi)) gc_RL_133 hd_X4_hasOpenFile ⟨rfl, rfl⟩ ⟨Nat.le_of_ble_eq_true rfl, Nat.le_of_ble_eq_true rfl⟩ 29 lw_29 rfl rfl hl.1 (Nat.le_of_ble_eq_true rfl) ⟨(by show cc ≤ 600130; omega), (by show ss ≤ 7301080; omega)⟩ dL_law_979 ?_
      refine w_top (show bI (rd 40 (S 10) (nI i) = 1) = bI (G 7 i = 1) from bI_cong (by rw [rd_40 (Nat.lt_of_lt_of_le hi hn), hra.fil i hi])) ?_
      refine lv_aload hx hb dL_law_982 (lv_at hl 21 rfl) ?_
      refine lv_iload hx hb dL_law_984 (lv_at hl 24 rfl) ?_
      refine k_zald (j := i) hx hb hE hP (64 + nf + n + (R.length + 4)) ((lw_Ri (i := 4)).trans rfl) hi (Nat.lt_of_le_of_lt hn (by decide)) dL_law_986 ?_
      refine w_top (show (hd_ (opG G) n) i = bI (G 7 i = 1) from hd_at (g := opG G) hi) ?_
      refine lv_icmp_eq (tgt := 992) hx hb dL_law_987 (by decide) (fun c_40 => ?_) (fun c_ => absurd rfl c_)
      refine lv_aload hx hb dL_law_992 (lv_at hl 19 rfl) ?_
      refine lv_iload hx hb dL_law_994 (lv_at hl 24 rfl) ?_
      refine k_iald (j := i) hx hb hE hP (64 + nf + n + (R.length + 2)) ((lw_Ri (i := 2)).trans rfl) hi (Nat.lt_of_le_of_lt hn (by decide)) dL_law_996 ?_
      refine w_top (show (hd_ (V 3) n) i = V 3 i from hd_at hi) ?_
      refine lv_if_lt (tgt := 1014) hx hb dL_law_997 (by decide) (fun c_41 => ?_) (fun c_41 => ?_)
      · refine lv_aload_n hx hb dL_law_1014 rfl (lv_at hl 4 rfl) ?_
        refine lv_iload hx hb dL_law_1015 (lv_at hl 24 rfl) ?_
        refine c_pVi (rest := []) hC hE hP (lx_missesOf l S (nI i) (xbag_n hra hi)) gc_RL_126 hd_X4_missesOf ⟨rfl, rfl⟩ ⟨Nat.le_of_ble_eq_true rfl, Nat.le_of_ble_eq_true rfl⟩ 29 lw_29 rfl rfl hl.1 (Nat.le_of_ble_eq_true rfl) ⟨(by show cc ≤ 600130; omega), (by show ss ≤ 7301080; omega)⟩ dL_law_1017 ?_
        refine w_top (show rd 40 (S 9) (nI i) = T 4 i from (rd_40 (Nat.lt_of_lt_of_le hi hn)).trans (hrb.mis i hi)) ?_
        refine lv_aload hx hb dL_law_1020 (lv_at hl 20 rfl) ?_
        refine lv_iload hx hb dL_law_1022 (lv_at hl 24 rfl) ?_
        refine k_iald (j := i) hx hb hE hP (64 + nf + n + (R.length + 3)) ((lw_Ri (i := 3)).trans rfl) hi (Nat.lt_of_le_of_lt hn (by decide)) dL_law_1024 ?_
        refine w_top (show (hd_ (V 4) n) i = V 4 i from hd_at hi) ?_
        refine lv_icmp_lt (tgt := 1120) hx hb dL_law_1025 (by decide) (fun c_ => absurd c_ (Int32.not_lt.mpr s4)) (fun c_42 => ?_)
        refine lv_aload hx hb dL_law_1028 (lv_at hl 18 rfl) ?_
        refine lv_iload hx hb dL_law_1030 (lv_at hl 24 rfl) ?_
        refine k_iald (j := i) hx hb hE hP (64 + nf + n + (R.length + 1)) ((lw_Ri (i := 1)).trans rfl) hi (Nat.lt_of_le_of_lt hn (by decide)) dL_law_1032 ?_
        refine w_top (show (hd_ (V 1) n) i = 3 from (hd_at hi).trans hv) ?_
        refine lv_iconst (v := 1) hx hb dL_law_1033 (by decide) ?_
        refine lv_icmp_le (tgt := 1065) hx hb dL_law_1034 (by decide) (fun c_ => absurd c_ (by decide)) (fun c_43 => ?_)
        refine lv_aload_n hx hb dL_law_1037 rfl (lv_at hl 4 rfl) ?_
        refine lv_iload hx hb dL_law_1038 (lv_at hl 24 rfl) ?_
        refine c_pVi (rest := []) hC hE hP (lx_readFor l S (nI i) (xbag_n hra hi)) gc_RL_129 hd_X4_readFor ⟨rfl, rfl⟩ ⟨Nat.le_of_ble_eq_true rfl, Nat.le_of_ble_eq_true rfl⟩ 29 lw_29 rfl rfl hl.1 (Nat.le_of_ble_eq_true rfl) ⟨(by show cc ≤ 600130; omega), (by show ss ≤ 7301080; omega)⟩ dL_law_1040 ?_
        refine w_top (show rd 40 (S 8) (nI i) = T 3 i from (rd_40 (Nat.lt_of_lt_of_le hi hn)).trans (hrb.rdd i hi)) ?_
        refine lv_aload hx hb dL_law_1043 (lv_at hl 19 rfl) ?_
        refine lv_iload hx hb dL_law_1045 (lv_at hl 24 rfl) ?_
        refine k_iald (j := i) hx hb hE hP (64 + nf + n + (R.length + 2)) ((lw_Ri (i := 2)).trans rfl) hi (Nat.lt_of_le_of_lt hn (by decide)) dL_law_1047 ?_
        refine w_top (show (hd_ (V 3) n) i = V 3 i from hd_at hi) ?_
        refine lv_icmp_ne (tgt := 1120) hx hb dL_law_1048 (by decide) (fun c_ => absurd p3 c_) (fun c_44 => ?_)
        refine lv_aload_n hx hb dL_law_1051 rfl (lv_at hl 4 rfl) ?_
        refine lv_iload hx hb dL_law_1052 (lv_at hl 24 rfl) ?_
        refine c_pVi (rest := []) hC hE hP (lx_missesOf l S (nI i) (xbag_n hra hi)) gc_RL_126 hd_X4_missesOf ⟨rfl, rfl⟩ ⟨Nat.le_of_ble_eq_true rfl, Nat.le_of_ble_eq_true rfl⟩ 29 lw_29 rfl rfl hl.1 (Nat.le_of_ble_eq_true rfl) ⟨(by show cc ≤ 600130; omega), (by show ss ≤ 7301080; omega)⟩ dL_law_1054 ?_
        refine w_top (show rd 40 (S 9) (nI i) = T 4 i from (rd_40 (Nat.lt_of_lt_of_le hi hn)).trans (hrb.mis i hi)) ?_
        refine lv_aload hx hb dL_law_1057 (lv_at hl 20 rfl) ?_
        refine lv_iload hx hb dL_law_1059 (lv_at hl 24 rfl) ?_
        refine k_iald (j := i) hx hb hE hP (64 + nf + n + (R.length + 3)) ((lw_Ri (i := 3)).trans rfl) hi (Nat.lt_of_le_of_lt hn (by decide)) dL_law_1061 ?_
        refine w_top (show (hd_ (V 4) n) i = V 4 i from hd_at hi) ?_
        refine lv_icmp_ne (tgt := 1120) hx hb dL_law_1062 (by decide) (fun c_ => absurd p4 c_) (fun c_45 => ?_)
        refine lv_iload hx hb dL_law_1065 (lv_at hl 2 rfl) ?_
        refine lv_iconst (v := 2) hx hb dL_law_1067 (by decide) ?_
        refine lv_icmp_ne (tgt := 1095) hx hb dL_law_1068 (by decide) (fun c_46 => ?_) (fun c_ => absurd c_ (by decide))
        refine lv_iload hx hb dL_law_1095 (lv_at hl 2 rfl) ?_
        refine lv_iconst (v := 3) hx hb dL_law_1097 (by decide) ?_
        refine lv_icmp_ne (tgt := 1122) hx hb dL_law_1098 (by decide) (fun c_ => absurd rfl c_) (fun c_47 => ?_)
        refine lv_aload hx hb dL_law_1101 (lv_at hl 18 rfl) ?_
        refine lv_iload hx hb dL_law_1103 (lv_at hl 24 rfl) ?_
        refine k_iald (j := i) hx hb hE hP (64 + nf + n + (R.length + 1)) ((lw_Ri (i := 1)).trans rfl) hi (Nat.lt_of_le_of_lt hn (by decide)) dL_law_1105 ?_
        refine w_top (show (hd_ (V 1) n) i = 3 from (hd_at hi).trans hv) ?_
        refine lv_iconst (v := 1) hx hb dL_law_1106 (by decide) ?_
        refine lv_icmp_ne (tgt := 1122) hx hb dL_law_1107 (by decide) (fun c_48 => ?_) (fun c_ => absurd c_ (by decide))
        refine lv_iinc (v := nI (i + 1)) (lv' := [(25, .int (nI (i + 1))), (24, .int (nI (moN V T i))), (27, .int 0), (26, .int 3), (0, .ref b), (1, .ref x), (2, .ref q0), (3, .int (nI t)), (4, .int xv), (5, .long dg), (7, .int (nI n)), (8, .ref y8), (9, .ref y9), (10, .ref y10), (11, .int (nI (mFil G 1 n))), (14, .int (nI N)), (15, .int (nI f)), (16, .int (nI (mRdyN G T f n))), (17, .ref q1), (18, .ref q2), (19, .ref q3), (20, .ref q4), (21, .ref q5), (22, .int (nI (mFil G 2 n))), (23, .int (nI d))]) hx hb dL_law_1122 hl (k := 24) rfl (iinc1 _) (by decide) rfl (fun ls hl => ?_)
        refine lv_goto (tgt := 864) hx hb dL_law_1125 (by decide) ?_
        have e9 : moN V T (i + 1) = moN V T i := moN_f (fun z => absurd (ht.symm.trans z.1) (by decide))
        exact ih ls trivial (by show lv_has ls 28 [(0, .ref b), (1, .ref x), (2, .ref q0), (3, .int (nI t)), (4, .int xv), (5, .long dg), (7, .int (nI n)), (8, .ref y8), (9, .ref y9), (10, .ref y10), (11, .int (nI (mFil G 1 n))), (14, .int (nI N)), (15, .int (nI f)), (16, .int (nI (mRdyN G T f n))), (17, .ref q1), (18, .ref q2), (19, .ref q3), (20, .ref q4), (21, .ref q5), (22, .int (nI (mFil G 2 n))), (23, .int (nI d)), (24, .int (nI (moN V T (i + 1)))), (25, .int (nI (i + 1)))]; rw [e9]; exact lv_sub hl [4, 5, 6, 7, 8, 9, 10, 11, 12, 13, 14, 15, 16, 17, 18, 19, 20, 21, 22, 23, 24, 1, 0] rfl)
      · refine lv_aload_n hx hb dL_law_1000 rfl (lv_at hl 4 rfl) ?_
        refine lv_iload hx hb dL_law_1001 (lv_at hl 24 rfl) ?_
        refine c_pVi (rest := []) hC hE hP (lx_readFor l S (nI i) (xbag_n hra hi)) gc_RL_129 hd_X4_readFor ⟨rfl, rfl⟩ ⟨Nat.le_of_ble_eq_true rfl, Nat.le_of_ble_eq_true rfl⟩ 29 lw_29 rfl rfl hl.1 (Nat.le_of_ble_eq_true rfl) ⟨(by show cc ≤ 600130; omega), (by show ss ≤ 7301080; omega)⟩ dL_law_1003 ?_
        refine w_top (show rd 40 (S 8) (nI i) = T 3 i from (rd_40 (Nat.lt_of_lt_of_le hi hn)).trans (hrb.rdd i hi)) ?_
        refine lv_aload hx hb dL_law_1006 (lv_at hl 19 rfl) ?_
        refine lv_iload hx hb dL_law_1008 (lv_at hl 24 rfl) ?_
        refine k_iald (j := i) hx hb hE hP (64 + nf + n + (R.length + 2)) ((lw_Ri (i := 2)).trans rfl) hi (Nat.lt_of_le_of_lt hn (by decide)) dL_law_1010 ?_
        refine w_top (show (hd_ (V 3) n) i = V 3 i from hd_at hi) ?_
        refine lv_icmp_ne (tgt := 1120) hx hb dL_law_1011 (by decide) (fun c_ => absurd p3 c_) (fun c_49 => ?_)
        refine lv_aload_n hx hb dL_law_1014 rfl (lv_at hl 4 rfl) ?_
        refine lv_iload hx hb dL_law_1015 (lv_at hl 24 rfl) ?_
        refine c_pVi (rest := []) hC hE hP (lx_missesOf l S (nI i) (xbag_n hra hi)) gc_RL_126 hd_X4_missesOf ⟨rfl, rfl⟩ ⟨Nat.le_of_ble_eq_true rfl, Nat.le_of_ble_eq_true rfl⟩ 29 lw_29 rfl rfl hl.1 (Nat.le_of_ble_eq_true rfl) ⟨(by show cc ≤ 600130; omega), (by show ss ≤ 7301080; omega)⟩ dL_law_1017 ?_
        refine w_top (show rd 40 (S 9) (nI i) = T 4 i from (rd_40 (Nat.lt_of_lt_of_le hi hn)).trans (hrb.mis i hi)) ?_
        refine lv_aload hx hb dL_law_1020 (lv_at hl 20 rfl) ?_
        refine lv_iload hx hb dL_law_1022 (lv_at hl 24 rfl) ?_
        refine k_iald (j := i) hx hb hE hP (64 + nf + n + (R.length + 3)) ((lw_Ri (i := 3)).trans rfl) hi (Nat.lt_of_le_of_lt hn (by decide)) dL_law_1024 ?_
        refine w_top (show (hd_ (V 4) n) i = V 4 i from hd_at hi) ?_
        refine lv_icmp_lt (tgt := 1120) hx hb dL_law_1025 (by decide) (fun c_ => absurd c_ (Int32.not_lt.mpr s4)) (fun c_50 => ?_)
        refine lv_aload hx hb dL_law_1028 (lv_at hl 18 rfl) ?_
        refine lv_iload hx hb dL_law_1030 (lv_at hl 24 rfl) ?_
        refine k_iald (j := i) hx hb hE hP (64 + nf + n + (R.length + 1)) ((lw_Ri (i := 1)).trans rfl) hi (Nat.lt_of_le_of_lt hn (by decide)) dL_law_1032 ?_
        refine w_top (show (hd_ (V 1) n) i = 3 from (hd_at hi).trans hv) ?_
        refine lv_iconst (v := 1) hx hb dL_law_1033 (by decide) ?_
        refine lv_icmp_le (tgt := 1065) hx hb dL_law_1034 (by decide) (fun c_ => absurd c_ (by decide)) (fun c_51 => ?_)
        refine lv_aload_n hx hb dL_law_1037 rfl (lv_at hl 4 rfl) ?_
        refine lv_iload hx hb dL_law_1038 (lv_at hl 24 rfl) ?_
        refine c_pVi (rest := []) hC hE hP (lx_readFor l S (nI i) (xbag_n hra hi)) gc_RL_129 hd_X4_readFor ⟨rfl, rfl⟩ ⟨Nat.le_of_ble_eq_true rfl, Nat.le_of_ble_eq_true rfl⟩ 29 lw_29 rfl rfl hl.1 (Nat.le_of_ble_eq_true rfl) ⟨(by show cc ≤ 600130; omega), (by show ss ≤ 7301080; omega)⟩ dL_law_1040 ?_
        refine w_top (show rd 40 (S 8) (nI i) = T 3 i from (rd_40 (Nat.lt_of_lt_of_le hi hn)).trans (hrb.rdd i hi)) ?_
        refine lv_aload hx hb dL_law_1043 (lv_at hl 19 rfl) ?_
        refine lv_iload hx hb dL_law_1045 (lv_at hl 24 rfl) ?_
        refine k_iald (j := i) hx hb hE hP (64 + nf + n + (R.length + 2)) ((lw_Ri (i := 2)).trans rfl) hi (Nat.lt_of_le_of_lt hn (by decide)) dL_law_1047 ?_
        refine w_top (show (hd_ (V 3) n) i = V 3 i from hd_at hi) ?_
        refine lv_icmp_ne (tgt := 1120) hx hb dL_law_1048 (by decide) (fun c_ => absurd p3 c_) (fun c_52 => ?_)
        refine lv_aload_n hx hb dL_law_1051 rfl (lv_at hl 4 rfl) ?_
        refine lv_iload hx hb dL_law_1052 (lv_at hl 24 rfl) ?_
        refine c_pVi (rest := []) hC hE hP (lx_missesOf l S (nI i) (xbag_n hra hi)) gc_RL_126 hd_X4_missesOf ⟨rfl, rfl⟩ ⟨Nat.le_of_ble_eq_true rfl, Nat.le_of_ble_eq_true rfl⟩ 29 lw_29 rfl rfl hl.1 (Nat.le_of_ble_eq_true rfl) ⟨(by show cc ≤ 600130; omega), (by show ss ≤ 7301080; omega)⟩ dL_law_1054 ?_
        refine w_top (show rd 40 (S 9) (nI i) = T 4 i from (rd_40 (Nat.lt_of_lt_of_le hi hn)).trans (hrb.mis i hi)) ?_
        refine lv_aload hx hb dL_law_1057 (lv_at hl 20 rfl) ?_
        refine lv_iload hx hb dL_law_1059 (lv_at hl 24 rfl) ?_
        refine k_iald (j := i) hx hb hE hP (64 + nf + n + (R.length + 3)) ((lw_Ri (i := 3)).trans rfl) hi (Nat.lt_of_le_of_lt hn (by decide)) dL_law_1061 ?_
        refine w_top (show (hd_ (V 4) n) i = V 4 i from hd_at hi) ?_
        refine lv_icmp_ne (tgt := 1120) hx hb dL_law_1062 (by decide) (fun c_ => absurd p4 c_) (fun c_53 => ?_)
        refine lv_iload hx hb dL_law_1065 (lv_at hl 2 rfl) ?_
        refine lv_iconst (v := 2) hx hb dL_law_1067 (by decide) ?_
        refine lv_icmp_ne (tgt := 1095) hx hb dL_law_1068 (by decide) (fun c_54 => ?_) (fun c_ => absurd c_ (by decide))
        refine lv_iload hx hb dL_law_1095 (lv_at hl 2 rfl) ?_
        refine lv_iconst (v := 3) hx hb dL_law_1097 (by decide) ?_
        refine lv_icmp_ne (tgt := 1122) hx hb dL_law_1098 (by decide) (fun c_ => absurd rfl c_) (fun c_55 => ?_)
        refine lv_aload hx hb dL_law_1101 (lv_at hl 18 rfl) ?_
        refine lv_iload hx hb dL_law_1103 (lv_at hl 24 rfl) ?_
        refine k_iald (j := i) hx hb hE hP (64 + nf + n + (R.length + 1)) ((lw_Ri (i := 1)).trans rfl) hi (Nat.lt_of_le_of_lt hn (by decide)) dL_law_1105 ?_
        refine w_top (show (hd_ (V 1) n) i = 3 from (hd_at hi).trans hv) ?_
        refine lv_iconst (v := 1) hx hb dL_law_1106 (by decide) ?_
        refine lv_icmp_ne (tgt := 1122) hx hb dL_law_1107 (by decide) (fun c_56 => ?_) (fun c_ => absurd c_ (by decide))
        refine lv_iinc (v := nI (i + 1)) (lv' := [(25, .int (nI (i + 1))), (24, .int (nI (moN V T i))), (27, .int 0), (26, .int 3), (0, .ref b), (1, .ref x), (2, .ref q0), (3, .int (nI t)), (4, .int xv), (5, .long dg), (7, .int (nI n)), (8, .ref y8), (9, .ref y9), (10, .ref y10), (11, .int (nI (mFil G 1 n))), (14, .int (nI N)), (15, .int (nI f)), (16, .int (nI (mRdyN G T f n))), (17, .ref q1), (18, .ref q2), (19, .ref q3), (20, .ref q4), (21, .ref q5), (22, .int (nI (mFil G 2 n))), (23, .int (nI d))]) hx hb dL_law_1122 hl (k := 24) rfl (iinc1 _) (by decide) rfl (fun ls hl => ?_)
        refine lv_goto (tgt := 864) hx hb dL_law_1125 (by decide) ?_
        have e9 : moN V T (i + 1) = moN V T i := moN_f (fun z => absurd (ht.symm.trans z.1) (by decide))
        exact ih ls trivial (by show lv_has ls 28 [(0, .ref b), (1, .ref x), (2, .ref q0), (3, .int (nI t)), (4, .int xv), (5, .long dg), (7, .int (nI n)), (8, .ref y8), (9, .ref y9), (10, .ref y10), (11, .int (nI (mFil G 1 n))), (14, .int (nI N)), (15, .int (nI f)), (16, .int (nI (mRdyN G T f n))), (17, .ref q1), (18, .ref q2), (19, .ref q3), (20, .ref q4), (21, .ref q5), (22, .int (nI (mFil G 2 n))), (23, .int (nI d)), (24, .int (nI (moN V T (i + 1)))), (25, .int (nI (i + 1)))]; rw [e9]; exact lv_sub hl [4, 5, 6, 7, 8, 9, 10, 11, 12, 13, 14, 15, 16, 17, 18, 19, 20, 21, 22, 23, 24, 1, 0] rfl)
    · obtain ⟨-, p2, p3, p4⟩ := s1 (fun z => by rcases z with z | z <;> (rw [z] at hv; exact absurd hv (by decide)))
      refine lv_aload_n hx hb dL_law_871 rfl (lv_at hl 1 rfl) ?_
      refine lv_iload hx hb dL_law_872 (lv_at hl 22 rfl) ?_
      refine c_pVi (rest := []) hC hE hP (lx_whereIs l S (nI i) (xbag_n hra hi)) gc_RL_114 hd_X4_whereIs ⟨rfl, rfl⟩ ⟨Nat.le_of_ble_eq_true rfl, Nat.le_of_ble_eq_true rfl⟩ 29 lw_29 rfl rfl hl.1 (Nat.le_of_ble_eq_true rfl) ⟨(by show cc ≤ 600130; omega), (by show ss ≤ 7301080; omega)⟩ dL_law_874 ?_
      refine w_top (show rd 40 (S 6) (nI i) = T 1 i from (rd_40 (Nat.lt_of_lt_of_le hi hn)).trans (hrb.whr i hi)) ?_
      refine w_top (show T 1 i = 4 from ht) ?_
      refine lv_istore (lv' := [(26, .int 4), (0, .ref b), (1, .ref x), (2, .ref q0), (3, .int (nI t)), (4, .int xv), (5, .long dg), (7, .int (nI n)), (8, .ref y8), (9, .ref y9), (10, .ref y10), (11, .int (nI (mFil G 1 n))), (14, .int (nI N)), (15, .int (nI f)), (16, .int (nI (mRdyN G T f n))), (17, .ref q1), (18, .ref q2), (19, .ref q3), (20, .ref q4), (21, .ref q5), (22, .int (nI (mFil G 2 n))), (23, .int (nI d)), (24, .int (nI (moN V T i))), (25, .int (nI i))]) hx hb dL_law_877 hl (by decide) rfl (fun ls hl => ?_)
      refine lv_aload hx hb dL_law_879 (lv_at hl 15 rfl) ?_
      refine lv_iload hx hb dL_law_881 (lv_at hl 23 rfl) ?_
      refine k_iald (j := i) hx hb hE hP (64 + nf + n + (R.length + 0)) ((lw_Ri (i := 0)).trans rfl) hi (Nat.lt_of_le_of_lt hn (by decide)) dL_law_883 ?_
      refine w_top (show (hd_ (mUnA G V) n) i = (-1) from (hd_at hi).trans (u2 (fun z => by rcases z with z | z <;> (rw [z] at hv; exact absurd hv (by decide))) (by rw [hv]; decide))) ?_
      refine lv_if_le (tgt := 901) hx hb dL_law_884 (by decide) (fun c_57 => ?_) (fun c_ => absurd (by decide) c_)
      refine lv_iconst (v := 0) hx hb dL_law_901 (by decide) ?_
      refine lv_istore (lv' := [(27, .int 0), (26, .int 4), (0, .ref b), (1, .ref x), (2, .ref q0), (3, .int (nI t)), (4, .int xv), (5, .long dg), (7, .int (nI n)), (8, .ref y8), (9, .ref y9), (10, .ref y10), (11, .int (nI (mFil G 1 n))), (14, .int (nI N)), (15, .int (nI f)), (16, .int (nI (mRdyN G T f n))), (17, .ref q1), (18, .ref q2), (19, .ref q3), (20, .ref q4), (21, .ref q5), (22, .int (nI (mFil G 2 n))), (23, .int (nI d)), (24, .int (nI (moN V T i))), (25, .int (nI i))]) hx hb dL_law_902 hl (by decide) rfl (fun ls hl => ?_)
      refine lv_iload hx hb dL_law_904 (lv_at hl 23 rfl) ?_
      refine lv_iload hx hb dL_law_906 (lv_at hl 0 rfl) ?_
      refine lv_if_eq (tgt := 915) hx hb dL_law_908 (by decide) (fun c_58 => ?_) (fun c_ => absurd rfl c_)
      refine lv_iconst (v := 0) hx hb dL_law_915 (by decide) ?_
      refine lv_iadd hx hb dL_law_916 ?_
      refine w_top (show (nI (moN V T i)) + 0 = nI (moN V T i) from Int32.add_zero _) ?_
      refine lv_istore (lv' := [(24, .int (nI (moN V T i))), (27, .int 0), (26, .int 4), (0, .ref b), (1, .ref x), (2, .ref q0), (3, .int (nI t)), (4, .int xv), (5, .long dg), (7, .int (nI n)), (8, .ref y8), (9, .ref y9), (10, .ref y10), (11, .int (nI (mFil G 1 n))), (14, .int (nI N)), (15, .int (nI f)), (16, .int (nI (mRdyN G T f n))), (17, .ref q1), (18, .ref q2), (19, .ref q3), (20, .ref q4), (21, .ref q5), (22, .int (nI (mFil G 2 n))), (23, .int (nI d)), (25, .int (nI i))]) hx hb dL_law_917 hl (by decide) rfl (fun ls hl => ?_)
      refine lv_iload hx hb dL_law_919 (lv_at hl 1 rfl) ?_
      refine lv_iload hx hb dL_law_921 (lv_at hl 2 rfl) ?_
      refine lv_iconst (v := 2) hx hb dL_law_923 (by decide) ?_
      refine lv_icmp_ne (tgt := 940) hx hb dL_law_924 (by decide) (fun c_59 => ?_) (fun c_ => absurd c_ (by decide))
      refine lv_iconst (v := 0) hx hb dL_law_940 (by decide) ?_
      refine lv_icmp_ne (tgt := 990) hx hb dL_law_941 (by decide) (fun c_ => absurd rfl c_) (fun c_60 => ?_)
      refine lv_aload hx hb dL_law_944 (lv_at hl 18 rfl) ?_
      refine lv_iload hx hb dL_law_946 (lv_at hl 24 rfl) ?_
      refine k_iald (j := i) hx hb hE hP (64 + nf + n + (R.length + 1)) ((lw_Ri (i := 1)).trans rfl) hi (Nat.lt_of_le_of_lt hn (by decide)) dL_law_948 ?_
      refine w_top (show (hd_ (V 1) n) i = 4 from (hd_at hi).trans hv) ?_
      refine lv_iconst (v := 1) hx hb dL_law_949 (by decide) ?_
      refine lv_icmp_le (tgt := 963) hx hb dL_law_950 (by decide) (fun c_ => absurd c_ (by decide)) (fun c_61 => ?_)
      refine lv_iload hx hb dL_law_953 (lv_at hl 2 rfl) ?_
      refine lv_aload hx hb dL_law_955 (lv_at hl 18 rfl) ?_
      refine lv_iload hx hb dL_law_957 (lv_at hl 24 rfl) ?_
      refine k_iald (j := i) hx hb hE hP (64 + nf + n + (R.length + 1)) ((lw_Ri (i := 1)).trans rfl) hi (Nat.lt_of_le_of_lt hn (by decide)) dL_law_959 ?_
      refine w_top (show (hd_ (V 1) n) i = 4 from (hd_at hi).trans hv) ?_
      refine lv_icmp_ne (tgt := 990) hx hb dL_law_960 (by decide) (fun c_ => absurd rfl c_) (fun c_62 => ?_)
      refine lv_iload hx hb dL_law_963 (lv_at hl 2 rfl) ?_
      refine lv_if_ne (tgt := 976) hx hb dL_law_965 (by decide) (fun c_63 => ?_) (fun c_ => absurd c_ (by decide))
      refine lv_aload_n hx hb dL_law_976 rfl (lv_at hl 4 rfl) ?_
      refine lv_iload hx hb dL_law_977 (lv_at hl 24 rfl) ?_
      refine c_pVi (rest := []) hC hE hP (lx_hasOpenFile l S (nI i) (xbag_n hra hi)) gc_RL_133 hd_X4_hasOpenFile ⟨rfl, rfl⟩ ⟨Nat.le_of_ble_eq_true rfl, Nat.le_of_ble_eq_true rfl⟩ 29 lw_29 rfl rfl hl.1 (Nat.le_of_ble_eq_true rfl) ⟨(by show cc ≤ 600130; omega), (by show ss ≤ 7301080; omega)⟩ dL_law_979 ?_
      refine w_top (show bI (rd 40 (S 10) (nI i) = 1) = bI (G 7 i = 1) from bI_cong (by rw [rd_40 (Nat.lt_of_lt_of_le hi hn), hra.fil i hi])) ?_
      refine lv_aload hx hb dL_law_982 (lv_at hl 21 rfl) ?_
      refine lv_iload hx hb dL_law_984 (lv_at hl 24 rfl) ?_
      refine k_zald (j := i) hx hb hE hP (64 + nf + n + (R.length + 4)) ((lw_Ri (i := 4)).trans rfl) hi (Nat.lt_of_le_of_lt hn (by decide)) dL_law_986 ?_
      refine w_top (show (hd_ (opG G) n) i = bI (G 7 i = 1) from hd_at (g := opG G) hi) ?_
      refine lv_icmp_eq (tgt := 992) hx hb dL_law_987 (by decide) (fun c_64 => ?_) (fun c_ => absurd rfl c_)
      refine lv_aload hx hb dL_law_992 (lv_at hl 19 rfl) ?_
      refine lv_iload hx hb dL_law_994 (lv_at hl 24 rfl) ?_
      refine k_iald (j := i) hx hb hE hP (64 + nf + n + (R.length + 2)) ((lw_Ri (i := 2)).trans rfl) hi (Nat.lt_of_le_of_lt hn (by decide)) dL_law_996 ?_
      refine w_top (show (hd_ (V 3) n) i = V 3 i from hd_at hi) ?_
      refine lv_if_lt (tgt := 1014) hx hb dL_law_997 (by decide) (fun c_65 => ?_) (fun c_65 => ?_)
      · refine lv_aload_n hx hb dL_law_1014 rfl (lv_at hl 4 rfl) ?_
        refine lv_iload hx hb dL_law_1015 (lv_at hl 24 rfl) ?_
        refine c_pVi (rest := []) hC hE hP (lx_missesOf l S (nI i) (xbag_n hra hi)) gc_RL_126 hd_X4_missesOf ⟨rfl, rfl⟩ ⟨Nat.le_of_ble_eq_true rfl, Nat.le_of_ble_eq_true rfl⟩ 29 lw_29 rfl rfl hl.1 (Nat.le_of_ble_eq_true rfl) ⟨(by show cc ≤ 600130; omega), (by show ss ≤ 7301080; omega)⟩ dL_law_1017 ?_
        refine w_top (show rd 40 (S 9) (nI i) = T 4 i from (rd_40 (Nat.lt_of_lt_of_le hi hn)).trans (hrb.mis i hi)) ?_
        refine lv_aload hx hb dL_law_1020 (lv_at hl 20 rfl) ?_
        refine lv_iload hx hb dL_law_1022 (lv_at hl 24 rfl) ?_
        refine k_iald (j := i) hx hb hE hP (64 + nf + n + (R.length + 3)) ((lw_Ri (i := 3)).trans rfl) hi (Nat.lt_of_le_of_lt hn (by decide)) dL_law_1024 ?_
        refine w_top (show (hd_ (V 4) n) i = V 4 i from hd_at hi) ?_
        refine lv_icmp_lt (tgt := 1120) hx hb dL_law_1025 (by decide) (fun c_ => absurd c_ (Int32.not_lt.mpr s4)) (fun c_66 => ?_)
        refine lv_aload hx hb dL_law_1028 (lv_at hl 18 rfl) ?_
        refine lv_iload hx hb dL_law_1030 (lv_at hl 24 rfl) ?_
        refine k_iald (j := i) hx hb hE hP (64 + nf + n + (R.length + 1)) ((lw_Ri (i := 1)).trans rfl) hi (Nat.lt_of_le_of_lt hn (by decide)) dL_law_1032 ?_
        refine w_top (show (hd_ (V 1) n) i = 4 from (hd_at hi).trans hv) ?_
        refine lv_iconst (v := 1) hx hb dL_law_1033 (by decide) ?_
        refine lv_icmp_le (tgt := 1065) hx hb dL_law_1034 (by decide) (fun c_ => absurd c_ (by decide)) (fun c_67 => ?_)
        refine lv_aload_n hx hb dL_law_1037 rfl (lv_at hl 4 rfl) ?_
        refine lv_iload hx hb dL_law_1038 (lv_at hl 24 rfl) ?_
        refine c_pVi (rest := []) hC hE hP (lx_readFor l S (nI i) (xbag_n hra hi)) gc_RL_129 hd_X4_readFor ⟨rfl, rfl⟩ ⟨Nat.le_of_ble_eq_true rfl, Nat.le_of_ble_eq_true rfl⟩ 29 lw_29 rfl rfl hl.1 (Nat.le_of_ble_eq_true rfl) ⟨(by show cc ≤ 600130; omega), (by show ss ≤ 7301080; omega)⟩ dL_law_1040 ?_
        refine w_top (show rd 40 (S 8) (nI i) = T 3 i from (rd_40 (Nat.lt_of_lt_of_le hi hn)).trans (hrb.rdd i hi)) ?_
        refine lv_aload hx hb dL_law_1043 (lv_at hl 19 rfl) ?_
        refine lv_iload hx hb dL_law_1045 (lv_at hl 24 rfl) ?_
        refine k_iald (j := i) hx hb hE hP (64 + nf + n + (R.length + 2)) ((lw_Ri (i := 2)).trans rfl) hi (Nat.lt_of_le_of_lt hn (by decide)) dL_law_1047 ?_
        refine w_top (show (hd_ (V 3) n) i = V 3 i from hd_at hi) ?_
        refine lv_icmp_ne (tgt := 1120) hx hb dL_law_1048 (by decide) (fun c_ => absurd p3 c_) (fun c_68 => ?_)
        refine lv_aload_n hx hb dL_law_1051 rfl (lv_at hl 4 rfl) ?_
        refine lv_iload hx hb dL_law_1052 (lv_at hl 24 rfl) ?_
        refine c_pVi (rest := []) hC hE hP (lx_missesOf l S (nI i) (xbag_n hra hi)) gc_RL_126 hd_X4_missesOf ⟨rfl, rfl⟩ ⟨Nat.le_of_ble_eq_true rfl, Nat.le_of_ble_eq_true rfl⟩ 29 lw_29 rfl rfl hl.1 (Nat.le_of_ble_eq_true rfl) ⟨(by show cc ≤ 600130; omega), (by show ss ≤ 7301080; omega)⟩ dL_law_1054 ?_
        refine w_top (show rd 40 (S 9) (nI i) = T 4 i from (rd_40 (Nat.lt_of_lt_of_le hi hn)).trans (hrb.mis i hi)) ?_
        refine lv_aload hx hb dL_law_1057 (lv_at hl 20 rfl) ?_
        refine lv_iload hx hb dL_law_1059 (lv_at hl 24 rfl) ?_
        refine k_iald (j := i) hx hb hE hP (64 + nf + n + (R.length + 3)) ((lw_Ri (i := 3)).trans rfl) hi (Nat.lt_of_le_of_lt hn (by decide)) dL_law_1061 ?_
        refine w_top (show (hd_ (V 4) n) i = V 4 i from hd_at hi) ?_
        refine lv_icmp_ne (tgt := 1120) hx hb dL_law_1062 (by decide) (fun c_ => absurd p4 c_) (fun c_69 => ?_)
        refine lv_iload hx hb dL_law_1065 (lv_at hl 2 rfl) ?_
        refine lv_iconst (v := 2) hx hb dL_law_1067 (by decide) ?_
        refine lv_icmp_ne (tgt := 1095) hx hb dL_law_1068 (by decide) (fun c_70 => ?_) (fun c_ => absurd c_ (by decide))
        refine lv_iload hx hb dL_law_1095 (lv_at hl 2 rfl) ?_
        refine lv_iconst (v := 3) hx hb dL_law_1097 (by decide) ?_
        refine lv_icmp_ne (tgt := 1122) hx hb dL_law_1098 (by decide) (fun c_71 => ?_) (fun c_ => absurd c_ (by decide))
        refine lv_iinc (v := nI (i + 1)) (lv' := [(25, .int (nI (i + 1))), (24, .int (nI (moN V T i))), (27, .int 0), (26, .int 4), (0, .ref b), (1, .ref x), (2, .ref q0), (3, .int (nI t)), (4, .int xv), (5, .long dg), (7, .int (nI n)), (8, .ref y8), (9, .ref y9), (10, .ref y10), (11, .int (nI (mFil G 1 n))), (14, .int (nI N)), (15, .int (nI f)), (16, .int (nI (mRdyN G T f n))), (17, .ref q1), (18, .ref q2), (19, .ref q3), (20, .ref q4), (21, .ref q5), (22, .int (nI (mFil G 2 n))), (23, .int (nI d))]) hx hb dL_law_1122 hl (k := 24) rfl (iinc1 _) (by decide) rfl (fun ls hl => ?_)
        refine lv_goto (tgt := 864) hx hb dL_law_1125 (by decide) ?_
        have e9 : moN V T (i + 1) = moN V T i := moN_f (fun z => absurd (ht.symm.trans z.1) (by decide))
        exact ih ls trivial (by show lv_has ls 28 [(0, .ref b), (1, .ref x), (2, .ref q0), (3, .int (nI t)), (4, .int xv), (5, .long dg), (7, .int (nI n)), (8, .ref y8), (9, .ref y9), (10, .ref y10), (11, .int (nI (mFil G 1 n))), (14, .int (nI N)), (15, .int (nI f)), (16, .int (nI (mRdyN G T f n))), (17, .ref q1), (18, .ref q2), (19, .ref q3), (20, .ref q4), (21, .ref q5), (22, .int (nI (mFil G 2 n))), (23, .int (nI d)), (24, .int (nI (moN V T (i + 1)))), (25, .int (nI (i + 1)))]; rw [e9]; exact lv_sub hl [4, 5, 6, 7, 8, 9, 10, 11, 12, 13, 14, 15, 16, 17, 18, 19, 20, 21, 22, 23, 24, 1, 0] rfl)
      · refine lv_aload_n hx hb dL_law_1000 rfl (lv_at hl 4 rfl) ?_
        refine lv_iload hx hb dL_law_1001 (lv_at hl 24 rfl) ?_
        refine c_pVi (rest := []) hC hE hP (lx_readFor l S (nI i) (xbag_n hra hi)) gc_RL_129 hd_X4_readFor ⟨rfl, rfl⟩ ⟨Nat.le_of_ble_eq_true rfl, Nat.le_of_ble_eq_true rfl⟩ 29 lw_29 rfl rfl hl.1 (Nat.le_of_ble_eq_true rfl) ⟨(by show cc ≤ 600130; omega), (by show ss ≤ 7301080; omega)⟩ dL_law_1003 ?_
        refine w_top (show rd 40 (S 8) (nI i) = T 3 i from (rd_40 (Nat.lt_of_lt_of_le hi hn)).trans (hrb.rdd i hi)) ?_
        refine lv_aload hx hb dL_law_1006 (lv_at hl 19 rfl) ?_
        refine lv_iload hx hb dL_law_1008 (lv_at hl 24 rfl) ?_
        refine k_iald (j := i) hx hb hE hP (64 + nf + n + (R.length + 2)) ((lw_Ri (i := 2)).trans rfl) hi (Nat.lt_of_le_of_lt hn (by decide)) dL_law_1010 ?_
        refine w_top (show (hd_ (V 3) n) i = V 3 i from hd_at hi) ?_
        refine lv_icmp_ne (tgt := 1120) hx hb dL_law_1011 (by decide) (fun c_ => absurd p3 c_) (fun c_72 => ?_)
        refine lv_aload_n hx hb dL_law_1014 rfl (lv_at hl 4 rfl) ?_
        refine lv_iload hx hb dL_law_1015 (lv_at hl 24 rfl) ?_
        refine c_pVi (rest := []) hC hE hP (lx_missesOf l S (nI i) (xbag_n hra hi)) gc_RL_126 hd_X4_missesOf ⟨rfl, rfl⟩ ⟨Nat.le_of_ble_eq_true rfl, Nat.le_of_ble_eq_true rfl⟩ 29 lw_29 rfl rfl hl.1 (Nat.le_of_ble_eq_true rfl) ⟨(by show cc ≤ 600130; omega), (by show ss ≤ 7301080; omega)⟩ dL_law_1017 ?_
        refine w_top (show rd 40 (S 9) (nI i) = T 4 i from (rd_40 (Nat.lt_of_lt_of_le hi hn)).trans (hrb.mis i hi)) ?_
        refine lv_aload hx hb dL_law_1020 (lv_at hl 20 rfl) ?_
        refine lv_iload hx hb dL_law_1022 (lv_at hl 24 rfl) ?_
        refine k_iald (j := i) hx hb hE hP (64 + nf + n + (R.length + 3)) ((lw_Ri (i := 3)).trans rfl) hi (Nat.lt_of_le_of_lt hn (by decide)) dL_law_1024 ?_
        refine w_top (show (hd_ (V 4) n) i = V 4 i from hd_at hi) ?_
        refine lv_icmp_lt (tgt := 1120) hx hb dL_law_1025 (by decide) (fun c_ => absurd c_ (Int32.not_lt.mpr s4)) (fun c_73 => ?_)
        refine lv_aload hx hb dL_law_1028 (lv_at hl 18 rfl) ?_
        refine lv_iload hx hb dL_law_1030 (lv_at hl 24 rfl) ?_
        refine k_iald (j := i) hx hb hE hP (64 + nf + n + (R.length + 1)) ((lw_Ri (i := 1)).trans rfl) hi (Nat.lt_of_le_of_lt hn (by decide)) dL_law_1032 ?_
        refine w_top (show (hd_ (V 1) n) i = 4 from (hd_at hi).trans hv) ?_
        refine lv_iconst (v := 1) hx hb dL_law_1033 (by decide) ?_
        refine lv_icmp_le (tgt := 1065) hx hb dL_law_1034 (by decide) (fun c_ => absurd c_ (by decide)) (fun c_74 => ?_)
        refine lv_aload_n hx hb dL_law_1037 rfl (lv_at hl 4 rfl) ?_
        refine lv_iload hx hb dL_law_1038 (lv_at hl 24 rfl) ?_
        refine c_pVi (rest := []) hC hE hP (lx_readFor l S (nI i) (xbag_n hra hi)) gc_RL_129 hd_X4_readFor ⟨rfl, rfl⟩ ⟨Nat.le_of_ble_eq_true rfl, Nat.le_of_ble_eq_true rfl⟩ 29 lw_29 rfl rfl hl.1 (Nat.le_of_ble_eq_true rfl) ⟨(by show cc ≤ 600130; omega), (by show ss ≤ 7301080; omega)⟩ dL_law_1040 ?_
        refine w_top (show rd 40 (S 8) (nI i) = T 3 i from (rd_40 (Nat.lt_of_lt_of_le hi hn)).trans (hrb.rdd i hi)) ?_
        refine lv_aload hx hb dL_law_1043 (lv_at hl 19 rfl) ?_
        refine lv_iload hx hb dL_law_1045 (lv_at hl 24 rfl) ?_
        refine k_iald (j := i) hx hb hE hP (64 + nf + n + (R.length + 2)) ((lw_Ri (i := 2)).trans rfl) hi (Nat.lt_of_le_of_lt hn (by decide)) dL_law_1047 ?_
        refine w_top (show (hd_ (V 3) n) i = V 3 i from hd_at hi) ?_
        refine lv_icmp_ne (tgt := 1120) hx hb dL_law_1048 (by decide) (fun c_ => absurd p3 c_) (fun c_75 => ?_)
        refine lv_aload_n hx hb dL_law_1051 rfl (lv_at hl 4 rfl) ?_
        refine lv_iload hx hb dL_law_1052 (lv_at hl 24 rfl) ?_
        refine c_pVi (rest := []) hC hE hP (lx_missesOf l S (nI i) (xbag_n hra hi)) gc_RL_126 hd_X4_missesOf ⟨rfl, rfl⟩ ⟨Nat.le_of_ble_eq_true rfl, Nat.le_of_ble_eq_true rfl⟩ 29 lw_29 rfl rfl hl.1 (Nat.le_of_ble_eq_true rfl) ⟨(by show cc ≤ 600130; omega), (by show ss ≤ 7301080; omega)⟩ dL_law_1054 ?_
        refine w_top (show rd 40 (S 9) (nI i) = T 4 i from (rd_40 (Nat.lt_of_lt_of_le hi hn)).trans (hrb.mis i hi)) ?_
        refine lv_aload hx hb dL_law_1057 (lv_at hl 20 rfl) ?_
        refine lv_iload hx hb dL_law_1059 (lv_at hl 24 rfl) ?_
        refine k_iald (j := i) hx hb hE hP (64 + nf + n + (R.length + 3)) ((lw_Ri (i := 3)).trans rfl) hi (Nat.lt_of_le_of_lt hn (by decide)) dL_law_1061 ?_
        refine w_top (show (hd_ (V 4) n) i = V 4 i from hd_at hi) ?_
        refine lv_icmp_ne (tgt := 1120) hx hb dL_law_1062 (by decide) (fun c_ => absurd p4 c_) (fun c_76 => ?_)
        refine lv_iload hx hb dL_law_1065 (lv_at hl 2 rfl) ?_
        refine lv_iconst (v := 2) hx hb dL_law_1067 (by decide) ?_
        refine lv_icmp_ne (tgt := 1095) hx hb dL_law_1068 (by decide) (fun c_77 => ?_) (fun c_ => absurd c_ (by decide))
        refine lv_iload hx hb dL_law_1095 (lv_at hl 2 rfl) ?_
        refine lv_iconst (v := 3) hx hb dL_law_1097 (by decide) ?_
        refine lv_icmp_ne (tgt := 1122) hx hb dL_law_1098 (by decide) (fun c_78 => ?_) (fun c_ => absurd c_ (by decide))
        refine lv_iinc (v := nI (i + 1)) (lv' := [(25, .int (nI (i + 1))), (24, .int (nI (moN V T i))), (27, .int 0), (26, .int 4), (0, .ref b), (1, .ref x), (2, .ref q0), (3, .int (nI t)), (4, .int xv), (5, .long dg), (7, .int (nI n)), (8, .ref y8), (9, .ref y9), (10, .ref y10), (11, .int (nI (mFil G 1 n))), (14, .int (nI N)), (15, .int (nI f)), (16, .int (nI (mRdyN G T f n))), (17, .ref q1), (18, .ref q2), (19, .ref q3), (20, .ref q4), (21, .ref q5), (22, .int (nI (mFil G 2 n))), (23, .int (nI d))]) hx hb dL_law_1122 hl (k := 24) rfl (iinc1 _) (by decide) rfl (fun ls hl => ?_)
        refine lv_goto (tgt := 864) hx hb dL_law_1125 (by decide) ?_
        have e9 : moN V T (i + 1) = moN V T i := moN_f (fun z => absurd (ht.symm.trans z.1) (by decide))
        exact ih ls trivial (by show lv_has ls 28 [(0, .ref b), (1, .ref x), (2, .ref q0), (3, .int (nI t)), (4, .int xv), (5, .long dg), (7, .int (nI n)), (8, .ref y8), (9, .ref y9), (10, .ref y10), (11, .int (nI (mFil G 1 n))), (14, .int (nI N)), (15, .int (nI f)), (16, .int (nI (mRdyN G T f n))), (17, .ref q1), (18, .ref q2), (19, .ref q3), (20, .ref q4), (21, .ref q5), (22, .int (nI (mFil G 2 n))), (23, .int (nI d)), (24, .int (nI (moN V T (i + 1)))), (25, .int (nI (i + 1)))]; rw [e9]; exact lv_sub hl [4, 5, 6, 7, 8, 9, 10, 11, 12, 13, 14, 15, 16, 17, 18, 19, 20, 21, 22, 23, 24, 1, 0] rfl)
    · obtain ⟨-, p2, p3, p4⟩ := s1 (fun z => by rcases z with z | z <;> (rw [z] at hv; exact absurd hv (by decide)))
      refine lv_aload_n hx hb dL_law_871 rfl (lv_at hl 1 rfl) ?_
      refine lv_iload hx hb dL_law_872 (lv_at hl 22 rfl) ?_
      refine c_pVi (rest := []) hC hE hP (lx_whereIs l S (nI i) (xbag_n hra hi)) gc_RL_114 hd_X4_whereIs ⟨rfl, rfl⟩ ⟨Nat.le_of_ble_eq_true rfl, Nat.le_of_ble_eq_true rfl⟩ 29 lw_29 rfl rfl hl.1 (Nat.le_of_ble_eq_true rfl) ⟨(by show cc ≤ 600130; omega), (by show ss ≤ 7301080; omega)⟩ dL_law_874 ?_
      refine w_top (show rd 40 (S 6) (nI i) = T 1 i from (rd_40 (Nat.lt_of_lt_of_le hi hn)).trans (hrb.whr i hi)) ?_
      refine w_top (show T 1 i = 5 from ht) ?_
      refine lv_istore (lv' := [(26, .int 5), (0, .ref b), (1, .ref x), (2, .ref q0), (3, .int (nI t)), (4, .int xv), (5, .long dg), (7, .int (nI n)), (8, .ref y8), (9, .ref y9), (10, .ref y10), (11, .int (nI (mFil G 1 n))), (14, .int (nI N)), (15, .int (nI f)), (16, .int (nI (mRdyN G T f n))), (17, .ref q1), (18, .ref q2), (19, .ref q3), (20, .ref q4), (21, .ref q5), (22, .int (nI (mFil G 2 n))), (23, .int (nI d)), (24, .int (nI (moN V T i))), (25, .int (nI i))]) hx hb dL_law_877 hl (by decide) rfl (fun ls hl => ?_)
      refine lv_aload hx hb dL_law_879 (lv_at hl 15 rfl) ?_
      refine lv_iload hx hb dL_law_881 (lv_at hl 23 rfl) ?_
      refine k_iald (j := i) hx hb hE hP (64 + nf + n + (R.length + 0)) ((lw_Ri (i := 0)).trans rfl) hi (Nat.lt_of_le_of_lt hn (by decide)) dL_law_883 ?_
      refine w_top (show (hd_ (mUnA G V) n) i = (-1) from (hd_at hi).trans (u2 (fun z => by rcases z with z | z <;> (rw [z] at hv; exact absurd hv (by decide))) (by rw [hv]; decide))) ?_
      refine lv_if_le (tgt := 901) hx hb dL_law_884 (by decide) (fun c_79 => ?_) (fun c_ => absurd (by decide) c_)
      refine lv_iconst (v := 0) hx hb dL_law_901 (by decide) ?_
      refine lv_istore (lv' := [(27, .int 0), (26, .int 5), (0, .ref b), (1, .ref x), (2, .ref q0), (3, .int (nI t)), (4, .int xv), (5, .long dg), (7, .int (nI n)), (8, .ref y8), (9, .ref y9), (10, .ref y10), (11, .int (nI (mFil G 1 n))), (14, .int (nI N)), (15, .int (nI f)), (16, .int (nI (mRdyN G T f n))), (17, .ref q1), (18, .ref q2), (19, .ref q3), (20, .ref q4), (21, .ref q5), (22, .int (nI (mFil G 2 n))), (23, .int (nI d)), (24, .int (nI (moN V T i))), (25, .int (nI i))]) hx hb dL_law_902 hl (by decide) rfl (fun ls hl => ?_)
      refine lv_iload hx hb dL_law_904 (lv_at hl 23 rfl) ?_
      refine lv_iload hx hb dL_law_906 (lv_at hl 0 rfl) ?_
      refine lv_if_eq (tgt := 915) hx hb dL_law_908 (by decide) (fun c_80 => ?_) (fun c_ => absurd rfl c_)
      refine lv_iconst (v := 0) hx hb dL_law_915 (by decide) ?_
      refine lv_iadd hx hb dL_law_916 ?_
      refine w_top (show (nI (moN V T i)) + 0 = nI (moN V T i) from Int32.add_zero _) ?_
      refine lv_istore (lv' := [(24, .int (nI (moN V T i))), (27, .int 0), (26, .int 5), (0, .ref b), (1, .ref x), (2, .ref q0), (3, .int (nI t)), (4, .int xv), (5, .long dg), (7, .int (nI n)), (8, .ref y8), (9, .ref y9), (10, .ref y10), (11, .int (nI (mFil G 1 n))), (14, .int (nI N)), (15, .int (nI f)), (16, .int (nI (mRdyN G T f n))), (17, .ref q1), (18, .ref q2), (19, .ref q3), (20, .ref q4), (21, .ref q5), (22, .int (nI (mFil G 2 n))), (23, .int (nI d)), (25, .int (nI i))]) hx hb dL_law_917 hl (by decide) rfl (fun ls hl => ?_)
      refine lv_iload hx hb dL_law_919 (lv_at hl 1 rfl) ?_
      refine lv_iload hx hb dL_law_921 (lv_at hl 2 rfl) ?_
      refine lv_iconst (v := 2) hx hb dL_law_923 (by decide) ?_
      refine lv_icmp_ne (tgt := 940) hx hb dL_law_924 (by decide) (fun c_81 => ?_) (fun c_ => absurd c_ (by decide))
      refine lv_iconst (v := 0) hx hb dL_law_940 (by decide) ?_
      refine lv_icmp_ne (tgt := 990) hx hb dL_law_941 (by decide) (fun c_ => absurd rfl c_) (fun c_82 => ?_)
      refine lv_aload hx hb dL_law_944 (lv_at hl 18 rfl) ?_
      refine lv_iload hx hb dL_law_946 (lv_at hl 24 rfl) ?_
      refine k_iald (j := i) hx hb hE hP (64 + nf + n + (R.length + 1)) ((lw_Ri (i := 1)).trans rfl) hi (Nat.lt_of_le_of_lt hn (by decide)) dL_law_948 ?_
      refine w_top (show (hd_ (V 1) n) i = 5 from (hd_at hi).trans hv) ?_
      refine lv_iconst (v := 1) hx hb dL_law_949 (by decide) ?_
      refine lv_icmp_le (tgt := 963) hx hb dL_law_950 (by decide) (fun c_ => absurd c_ (by decide)) (fun c_83 => ?_)
      refine lv_iload hx hb dL_law_953 (lv_at hl 2 rfl) ?_
      refine lv_aload hx hb dL_law_955 (lv_at hl 18 rfl) ?_
      refine lv_iload hx hb dL_law_957 (lv_at hl 24 rfl) ?_
      refine k_iald (j := i) hx hb hE hP (64 + nf + n + (R.length + 1)) ((lw_Ri (i := 1)).trans rfl) hi (Nat.lt_of_le_of_lt hn (by decide)) dL_law_959 ?_
      refine w_top (show (hd_ (V 1) n) i = 5 from (hd_at hi).trans hv) ?_
      refine lv_icmp_ne (tgt := 990) hx hb dL_law_960 (by decide) (fun c_ => absurd rfl c_) (fun c_84 => ?_)
      refine lv_iload hx hb dL_law_963 (lv_at hl 2 rfl) ?_
      refine lv_if_ne (tgt := 976) hx hb dL_law_965 (by decide) (fun c_85 => ?_) (fun c_ => absurd c_ (by decide))
      refine lv_aload_n hx hb dL_law_976 rfl (lv_at hl 4 rfl) ?_
      refine lv_iload hx hb dL_law_977 (lv_at hl 24 rfl) ?_
      refine c_pVi (rest := []) hC hE hP (lx_hasOpenFile l S (nI i) (xbag_n hra hi)) gc_RL_133 hd_X4_hasOpenFile ⟨rfl, rfl⟩ ⟨Nat.le_of_ble_eq_true rfl, Nat.le_of_ble_eq_true rfl⟩ 29 lw_29 rfl rfl hl.1 (Nat.le_of_ble_eq_true rfl) ⟨(by show cc ≤ 600130; omega), (by show ss ≤ 7301080; omega)⟩ dL_law_979 ?_
      refine w_top (show bI (rd 40 (S 10) (nI i) = 1) = bI (G 7 i = 1) from bI_cong (by rw [rd_40 (Nat.lt_of_lt_of_le hi hn), hra.fil i hi])) ?_
      refine lv_aload hx hb dL_law_982 (lv_at hl 21 rfl) ?_
      refine lv_iload hx hb dL_law_984 (lv_at hl 24 rfl) ?_
      refine k_zald (j := i) hx hb hE hP (64 + nf + n + (R.length + 4)) ((lw_Ri (i := 4)).trans rfl) hi (Nat.lt_of_le_of_lt hn (by decide)) dL_law_986 ?_
      refine w_top (show (hd_ (opG G) n) i = bI (G 7 i = 1) from hd_at (g := opG G) hi) ?_
      refine lv_icmp_eq (tgt := 992) hx hb dL_law_987 (by decide) (fun c_86 => ?_) (fun c_ => absurd rfl c_)
      refine lv_aload hx hb dL_law_992 (lv_at hl 19 rfl) ?_
      refine lv_iload hx hb dL_law_994 (lv_at hl 24 rfl) ?_
      refine k_iald (j := i) hx hb hE hP (64 + nf + n + (R.length + 2)) ((lw_Ri (i := 2)).trans rfl) hi (Nat.lt_of_le_of_lt hn (by decide)) dL_law_996 ?_
      refine w_top (show (hd_ (V 3) n) i = V 3 i from hd_at hi) ?_
      refine lv_if_lt (tgt := 1014) hx hb dL_law_997 (by decide) (fun c_87 => ?_) (fun c_87 => ?_)
      · refine lv_aload_n hx hb dL_law_1014 rfl (lv_at hl 4 rfl) ?_
        refine lv_iload hx hb dL_law_1015 (lv_at hl 24 rfl) ?_
        refine c_pVi (rest := []) hC hE hP (lx_missesOf l S (nI i) (xbag_n hra hi)) gc_RL_126 hd_X4_missesOf ⟨rfl, rfl⟩ ⟨Nat.le_of_ble_eq_true rfl, Nat.le_of_ble_eq_true rfl⟩ 29 lw_29 rfl rfl hl.1 (Nat.le_of_ble_eq_true rfl) ⟨(by show cc ≤ 600130; omega), (by show ss ≤ 7301080; omega)⟩ dL_law_1017 ?_
        refine w_top (show rd 40 (S 9) (nI i) = T 4 i from (rd_40 (Nat.lt_of_lt_of_le hi hn)).trans (hrb.mis i hi)) ?_
        refine lv_aload hx hb dL_law_1020 (lv_at hl 20 rfl) ?_
        refine lv_iload hx hb dL_law_1022 (lv_at hl 24 rfl) ?_
        refine k_iald (j := i) hx hb hE hP (64 + nf + n + (R.length + 3)) ((lw_Ri (i := 3)).trans rfl) hi (Nat.lt_of_le_of_lt hn (by decide)) dL_law_1024 ?_
        refine w_top (show (hd_ (V 4) n) i = V 4 i from hd_at hi) ?_
        refine lv_icmp_lt (tgt := 1120) hx hb dL_law_1025 (by decide) (fun c_ => absurd c_ (Int32.not_lt.mpr s4)) (fun c_88 => ?_)
        refine lv_aload hx hb dL_law_1028 (lv_at hl 18 rfl) ?_
        refine lv_iload hx hb dL_law_1030 (lv_at hl 24 rfl) ?_
        refine k_iald (j := i) hx hb hE hP (64 + nf + n + (R.length + 1)) ((lw_Ri (i := 1)).trans rfl) hi (Nat.lt_of_le_of_lt hn (by decide)) dL_law_1032 ?_
        refine w_top (show (hd_ (V 1) n) i = 5 from (hd_at hi).trans hv) ?_
        refine lv_iconst (v := 1) hx hb dL_law_1033 (by decide) ?_
        refine lv_icmp_le (tgt := 1065) hx hb dL_law_1034 (by decide) (fun c_ => absurd c_ (by decide)) (fun c_89 => ?_)
        refine lv_aload_n hx hb dL_law_1037 rfl (lv_at hl 4 rfl) ?_
        refine lv_iload hx hb dL_law_1038 (lv_at hl 24 rfl) ?_
        refine c_pVi (rest := []) hC hE hP (lx_readFor l S (nI i) (xbag_n hra hi)) gc_RL_129 hd_X4_readFor ⟨rfl, rfl⟩ ⟨Nat.le_of_ble_eq_true rfl, Nat.le_of_ble_eq_true rfl⟩ 29 lw_29 rfl rfl hl.1 (Nat.le_of_ble_eq_true rfl) ⟨(by show cc ≤ 600130; omega), (by show ss ≤ 7301080; omega)⟩ dL_law_1040 ?_
        refine w_top (show rd 40 (S 8) (nI i) = T 3 i from (rd_40 (Nat.lt_of_lt_of_le hi hn)).trans (hrb.rdd i hi)) ?_
        refine lv_aload hx hb dL_law_1043 (lv_at hl 19 rfl) ?_
        refine lv_iload hx hb dL_law_1045 (lv_at hl 24 rfl) ?_
        refine k_iald (j := i) hx hb hE hP (64 + nf + n + (R.length + 2)) ((lw_Ri (i := 2)).trans rfl) hi (Nat.lt_of_le_of_lt hn (by decide)) dL_law_1047 ?_
        refine w_top (show (hd_ (V 3) n) i = V 3 i from hd_at hi) ?_
        refine lv_icmp_ne (tgt := 1120) hx hb dL_law_1048 (by decide) (fun c_ => absurd p3 c_) (fun c_90 => ?_)
        refine lv_aload_n hx hb dL_law_1051 rfl (lv_at hl 4 rfl) ?_
        refine lv_iload hx hb dL_law_1052 (lv_at hl 24 rfl) ?_
        refine c_pVi (rest := []) hC hE hP (lx_missesOf l S (nI i) (xbag_n hra hi)) gc_RL_126 hd_X4_missesOf ⟨rfl, rfl⟩ ⟨Nat.le_of_ble_eq_true rfl, Nat.le_of_ble_eq_true rfl⟩ 29 lw_29 rfl rfl hl.1 (Nat.le_of_ble_eq_true rfl) ⟨(by show cc ≤ 600130; omega), (by show ss ≤ 7301080; omega)⟩ dL_law_1054 ?_
        refine w_top (show rd 40 (S 9) (nI i) = T 4 i from (rd_40 (Nat.lt_of_lt_of_le hi hn)).trans (hrb.mis i hi)) ?_
        refine lv_aload hx hb dL_law_1057 (lv_at hl 20 rfl) ?_
        refine lv_iload hx hb dL_law_1059 (lv_at hl 24 rfl) ?_
        refine k_iald (j := i) hx hb hE hP (64 + nf + n + (R.length + 3)) ((lw_Ri (i := 3)).trans rfl) hi (Nat.lt_of_le_of_lt hn (by decide)) dL_law_1061 ?_
        refine w_top (show (hd_ (V 4) n) i = V 4 i from hd_at hi) ?_
        refine lv_icmp_ne (tgt := 1120) hx hb dL_law_1062 (by decide) (fun c_ => absurd p4 c_) (fun c_91 => ?_)
        refine lv_iload hx hb dL_law_1065 (lv_at hl 2 rfl) ?_
        refine lv_iconst (v := 2) hx hb dL_law_1067 (by decide) ?_
        refine lv_icmp_ne (tgt := 1095) hx hb dL_law_1068 (by decide) (fun c_92 => ?_) (fun c_ => absurd c_ (by decide))
        refine lv_iload hx hb dL_law_1095 (lv_at hl 2 rfl) ?_
        refine lv_iconst (v := 3) hx hb dL_law_1097 (by decide) ?_
        refine lv_icmp_ne (tgt := 1122) hx hb dL_law_1098 (by decide) (fun c_93 => ?_) (fun c_ => absurd c_ (by decide))
        refine lv_iinc (v := nI (i + 1)) (lv' := [(25, .int (nI (i + 1))), (24, .int (nI (moN V T i))), (27, .int 0), (26, .int 5), (0, .ref b), (1, .ref x), (2, .ref q0), (3, .int (nI t)), (4, .int xv), (5, .long dg), (7, .int (nI n)), (8, .ref y8), (9, .ref y9), (10, .ref y10), (11, .int (nI (mFil G 1 n))), (14, .int (nI N)), (15, .int (nI f)), (16, .int (nI (mRdyN G T f n))), (17, .ref q1), (18, .ref q2), (19, .ref q3), (20, .ref q4), (21, .ref q5), (22, .int (nI (mFil G 2 n))), (23, .int (nI d))]) hx hb dL_law_1122 hl (k := 24) rfl (iinc1 _) (by decide) rfl (fun ls hl => ?_)
        refine lv_goto (tgt := 864) hx hb dL_law_1125 (by decide) ?_
        have e9 : moN V T (i + 1) = moN V T i := moN_f (fun z => absurd (ht.symm.trans z.1) (by decide))
        exact ih ls trivial (by show lv_has ls 28 [(0, .ref b), (1, .ref x), (2, .ref q0), (3, .int (nI t)), (4, .int xv), (5, .long dg), (7, .int (nI n)), (8, .ref y8), (9, .ref y9), (10, .ref y10), (11, .int (nI (mFil G 1 n))), (14, .int (nI N)), (15, .int (nI f)), (16, .int (nI (mRdyN G T f n))), (17, .ref q1), (18, .ref q2), (19, .ref q3), (20, .ref q4), (21, .ref q5), (22, .int (nI (mFil G 2 n))), (23, .int (nI d)), (24, .int (nI (moN V T (i + 1)))), (25, .int (nI (i + 1)))]; rw [e9]; exact lv_sub hl [4, 5, 6, 7, 8, 9, 10, 11, 12, 13, 14, 15, 16, 17, 18, 19, 20, 21, 22, 23, 24, 1, 0] rfl)
      · refine lv_aload_n hx hb dL_law_1000 rfl (lv_at hl 4 rfl) ?_
        refine lv_iload hx hb dL_law_1001 (lv_at hl 24 rfl) ?_
        refine c_pVi (rest := []) hC hE hP (lx_readFor l S (nI i) (xbag_n hra hi)) gc_RL_129 hd_X4_readFor ⟨rfl, rfl⟩ ⟨Nat.le_of_ble_eq_true rfl, Nat.le_of_ble_eq_true rfl⟩ 29 lw_29 rfl rfl hl.1 (Nat.le_of_ble_eq_true rfl) ⟨(by show cc ≤ 600130; omega), (by show ss ≤ 7301080; omega)⟩ dL_law_1003 ?_
        refine w_top (show rd 40 (S 8) (nI i) = T 3 i from (rd_40 (Nat.lt_of_lt_of_le hi hn)).trans (hrb.rdd i hi)) ?_
        refine lv_aload hx hb dL_law_1006 (lv_at hl 19 rfl) ?_
        refine lv_iload hx hb dL_law_1008 (lv_at hl 24 rfl) ?_
        refine k_iald (j := i) hx hb hE hP (64 + nf + n + (R.length + 2)) ((lw_Ri (i := 2)).trans rfl) hi (Nat.lt_of_le_of_lt hn (by decide)) dL_law_1010 ?_
        refine w_top (show (hd_ (V 3) n) i = V 3 i from hd_at hi) ?_
        refine lv_icmp_ne (tgt := 1120) hx hb dL_law_1011 (by decide) (fun c_ => absurd p3 c_) (fun c_94 => ?_)
        refine lv_aload_n hx hb dL_law_1014 rfl (lv_at hl 4 rfl) ?_
        refine lv_iload hx hb dL_law_1015 (lv_at hl 24 rfl) ?_
        refine c_pVi (rest := []) hC hE hP (lx_missesOf l S (nI i) (xbag_n hra hi)) gc_RL_126 hd_X4_missesOf ⟨rfl, rfl⟩ ⟨Nat.le_of_ble_eq_true rfl, Nat.le_of_ble_eq_true rfl⟩ 29 lw_29 rfl rfl hl.1 (Nat.le_of_ble_eq_true rfl) ⟨(by show cc ≤ 600130; omega), (by show ss ≤ 7301080; omega)⟩ dL_law_1017 ?_
        refine w_top (show rd 40 (S 9) (nI i) = T 4 i from (rd_40 (Nat.lt_of_lt_of_le hi hn)).trans (hrb.mis i hi)) ?_
        refine lv_aload hx hb dL_law_1020 (lv_at hl 20 rfl) ?_
        refine lv_iload hx hb dL_law_1022 (lv_at hl 24 rfl) ?_
        refine k_iald (j := i) hx hb hE hP (64 + nf + n + (R.length + 3)) ((lw_Ri (i := 3)).trans rfl) hi (Nat.lt_of_le_of_lt hn (by decide)) dL_law_1024 ?_
        refine w_top (show (hd_ (V 4) n) i = V 4 i from hd_at hi) ?_
        refine lv_icmp_lt (tgt := 1120) hx hb dL_law_1025 (by decide) (fun c_ => absurd c_ (Int32.not_lt.mpr s4)) (fun c_95 => ?_)
        refine lv_aload hx hb dL_law_1028 (lv_at hl 18 rfl) ?_
        refine lv_iload hx hb dL_law_1030 (lv_at hl 24 rfl) ?_
        refine k_iald (j := i) hx hb hE hP (64 + nf + n + (R.length + 1)) ((lw_Ri (i := 1)).trans rfl) hi (Nat.lt_of_le_of_lt hn (by decide)) dL_law_1032 ?_
        refine w_top (show (hd_ (V 1) n) i = 5 from (hd_at hi).trans hv) ?_
        refine lv_iconst (v := 1) hx hb dL_law_1033 (by decide) ?_
        refine lv_icmp_le (tgt := 1065) hx hb dL_law_1034 (by decide) (fun c_ => absurd c_ (by decide)) (fun c_96 => ?_)
        refine lv_aload_n hx hb dL_law_1037 rfl (lv_at hl 4 rfl) ?_
        refine lv_iload hx hb dL_law_1038 (lv_at hl 24 rfl) ?_
        refine c_pVi (rest := []) hC hE hP (lx_readFor l S (nI i) (xbag_n hra hi)) gc_RL_129 hd_X4_readFor ⟨rfl, rfl⟩ ⟨Nat.le_of_ble_eq_true rfl, Nat.le_of_ble_eq_true rfl⟩ 29 lw_29 rfl rfl hl.1 (Nat.le_of_ble_eq_true rfl) ⟨(by show cc ≤ 600130; omega), (by show ss ≤ 7301080; omega)⟩ dL_law_1040 ?_
        refine w_top (show rd 40 (S 8) (nI i) = T 3 i from (rd_40 (Nat.lt_of_lt_of_le hi hn)).trans (hrb.rdd i hi)) ?_
        refine lv_aload hx hb dL_law_1043 (lv_at hl 19 rfl) ?_
        refine lv_iload hx hb dL_law_1045 (lv_at hl 24 rfl) ?_
        refine k_iald (j := i) hx hb hE hP (64 + nf + n + (R.length + 2)) ((lw_Ri (i := 2)).trans rfl) hi (Nat.lt_of_le_of_lt hn (by decide)) dL_law_1047 ?_
        refine w_top (show (hd_ (V 3) n) i = V 3 i from hd_at hi) ?_
        refine lv_icmp_ne (tgt := 1120) hx hb dL_law_1048 (by decide) (fun c_ => absurd p3 c_) (fun c_97 => ?_)
        refine lv_aload_n hx hb dL_law_1051 rfl (lv_at hl 4 rfl) ?_
        refine lv_iload hx hb dL_law_1052 (lv_at hl 24 rfl) ?_
        refine c_pVi (rest := []) hC hE hP (lx_missesOf l S (nI i) (xbag_n hra hi)) gc_RL_126 hd_X4_missesOf ⟨rfl, rfl⟩ ⟨Nat.le_of_ble_eq_true rfl, Nat.le_of_ble_eq_true rfl⟩ 29 lw_29 rfl rfl hl.1 (Nat.le_of_ble_eq_true rfl) ⟨(by show cc ≤ 600130; omega), (by show ss ≤ 7301080; omega)⟩ dL_law_1054 ?_
        refine w_top (show rd 40 (S 9) (nI i) = T 4 i from (rd_40 (Nat.lt_of_lt_of_le hi hn)).trans (hrb.mis i hi)) ?_
        refine lv_aload hx hb dL_law_1057 (lv_at hl 20 rfl) ?_
        refine lv_iload hx hb dL_law_1059 (lv_at hl 24 rfl) ?_
        refine k_iald (j := i) hx hb hE hP (64 + nf + n + (R.length + 3)) ((lw_Ri (i := 3)).trans rfl) hi (Nat.lt_of_le_of_lt hn (by decide)) dL_law_1061 ?_
        refine w_top (show (hd_ (V 4) n) i = V 4 i from hd_at hi) ?_
        refine lv_icmp_ne (tgt := 1120) hx hb dL_law_1062 (by decide) (fun c_ => absurd p4 c_) (fun c_98 => ?_)
        refine lv_iload hx hb dL_law_1065 (lv_at hl 2 rfl) ?_
        refine lv_iconst (v := 2) hx hb dL_law_1067 (by decide) ?_
        refine lv_icmp_ne (tgt := 1095) hx hb dL_law_1068 (by decide) (fun c_99 => ?_) (fun c_ => absurd c_ (by decide))
        refine lv_iload hx hb dL_law_1095 (lv_at hl 2 rfl) ?_
        refine lv_iconst (v := 3) hx hb dL_law_1097 (by decide) ?_
        refine lv_icmp_ne (tgt := 1122) hx hb dL_law_1098 (by decide) (fun c_100 => ?_) (fun c_ => absurd c_ (by decide))
        refine lv_iinc (v := nI (i + 1)) (lv' := [(25, .int (nI (i + 1))), (24, .int (nI (moN V T i))), (27, .int 0), (26, .int 5), (0, .ref b), (1, .ref x), (2, .ref q0), (3, .int (nI t)), (4, .int xv), (5, .long dg), (7, .int (nI n)), (8, .ref y8), (9, .ref y9), (10, .ref y10), (11, .int (nI (mFil G 1 n))), (14, .int (nI N)), (15, .int (nI f)), (16, .int (nI (mRdyN G T f n))), (17, .ref q1), (18, .ref q2), (19, .ref q3), (20, .ref q4), (21, .ref q5), (22, .int (nI (mFil G 2 n))), (23, .int (nI d))]) hx hb dL_law_1122 hl (k := 24) rfl (iinc1 _) (by decide) rfl (fun ls hl => ?_)
        refine lv_goto (tgt := 864) hx hb dL_law_1125 (by decide) ?_
        have e9 : moN V T (i + 1) = moN V T i := moN_f (fun z => absurd (ht.symm.trans z.1) (by decide))
        exact ih ls trivial (by show lv_has ls 28 [(0, .ref b), (1, .ref x), (2, .ref q0), (3, .int (nI t)), (4, .int xv), (5, .long dg), (7, .int (nI n)), (8, .ref y8), (9, .ref y9), (10, .ref y10), (11, .int (nI (mFil G 1 n))), (14, .int (nI N)), (15, .int (nI f)), (16, .int (nI (mRdyN G T f n))), (17, .ref q1), (18, .ref q2), (19, .ref q3), (20, .ref q4), (21, .ref q5), (22, .int (nI (mFil G 2 n))), (23, .int (nI d)), (24, .int (nI (moN V T (i + 1)))), (25, .int (nI (i + 1)))]; rw [e9]; exact lv_sub hl [4, 5, 6, 7, 8, 9, 10, 11, 12, 13, 14, 15, 16, 17, 18, 19, 20, 21, 22, 23, 24, 1, 0] rfl)
    · by_cases z9 : mUnA G V i ≤ 0
      · refine lv_aload_n hx hb dL_law_871 rfl (lv_at hl 1 rfl) ?_
        refine lv_iload hx hb dL_law_872 (lv_at hl 22 rfl) ?_
        refine c_pVi (rest := []) hC hE hP (lx_whereIs l S (nI i) (xbag_n hra hi)) gc_RL_114 hd_X4_whereIs ⟨rfl, rfl⟩ ⟨Nat.le_of_ble_eq_true rfl, Nat.le_of_ble_eq_true rfl⟩ 29 lw_29 rfl rfl hl.1 (Nat.le_of_ble_eq_true rfl) ⟨(by show cc ≤ 600130; omega), (by show ss ≤ 7301080; omega)⟩ dL_law_874 ?_
        refine w_top (show rd 40 (S 6) (nI i) = T 1 i from (rd_40 (Nat.lt_of_lt_of_le hi hn)).trans (hrb.whr i hi)) ?_
        refine w_top (show T 1 i = 0 from ht) ?_
        refine lv_istore (lv' := [(26, .int 0), (0, .ref b), (1, .ref x), (2, .ref q0), (3, .int (nI t)), (4, .int xv), (5, .long dg), (7, .int (nI n)), (8, .ref y8), (9, .ref y9), (10, .ref y10), (11, .int (nI (mFil G 1 n))), (14, .int (nI N)), (15, .int (nI f)), (16, .int (nI (mRdyN G T f n))), (17, .ref q1), (18, .ref q2), (19, .ref q3), (20, .ref q4), (21, .ref q5), (22, .int (nI (mFil G 2 n))), (23, .int (nI d)), (24, .int (nI (moN V T i))), (25, .int (nI i))]) hx hb dL_law_877 hl (by decide) rfl (fun ls hl => ?_)
        refine lv_aload hx hb dL_law_879 (lv_at hl 15 rfl) ?_
        refine lv_iload hx hb dL_law_881 (lv_at hl 23 rfl) ?_
        refine k_iald (j := i) hx hb hE hP (64 + nf + n + (R.length + 0)) ((lw_Ri (i := 0)).trans rfl) hi (Nat.lt_of_le_of_lt hn (by decide)) dL_law_883 ?_
        refine w_top (show (hd_ (mUnA G V) n) i = mUnA G V i from hd_at hi) ?_
        refine lv_if_le (tgt := 901) hx hb dL_law_884 (by decide) (fun c_101 => ?_) (fun c_ => absurd z9 c_)
        refine lv_iconst (v := 0) hx hb dL_law_901 (by decide) ?_
        refine lv_istore (lv' := [(27, .int 0), (26, .int 0), (0, .ref b), (1, .ref x), (2, .ref q0), (3, .int (nI t)), (4, .int xv), (5, .long dg), (7, .int (nI n)), (8, .ref y8), (9, .ref y9), (10, .ref y10), (11, .int (nI (mFil G 1 n))), (14, .int (nI N)), (15, .int (nI f)), (16, .int (nI (mRdyN G T f n))), (17, .ref q1), (18, .ref q2), (19, .ref q3), (20, .ref q4), (21, .ref q5), (22, .int (nI (mFil G 2 n))), (23, .int (nI d)), (24, .int (nI (moN V T i))), (25, .int (nI i))]) hx hb dL_law_902 hl (by decide) rfl (fun ls hl => ?_)
        refine lv_iload hx hb dL_law_904 (lv_at hl 23 rfl) ?_
        refine lv_iload hx hb dL_law_906 (lv_at hl 0 rfl) ?_
        refine lv_if_eq (tgt := 915) hx hb dL_law_908 (by decide) (fun c_102 => ?_) (fun c_ => absurd rfl c_)
        refine lv_iconst (v := 0) hx hb dL_law_915 (by decide) ?_
        refine lv_iadd hx hb dL_law_916 ?_
        refine w_top (show (nI (moN V T i)) + 0 = nI (moN V T i) from Int32.add_zero _) ?_
        refine lv_istore (lv' := [(24, .int (nI (moN V T i))), (27, .int 0), (26, .int 0), (0, .ref b), (1, .ref x), (2, .ref q0), (3, .int (nI t)), (4, .int xv), (5, .long dg), (7, .int (nI n)), (8, .ref y8), (9, .ref y9), (10, .ref y10), (11, .int (nI (mFil G 1 n))), (14, .int (nI N)), (15, .int (nI f)), (16, .int (nI (mRdyN G T f n))), (17, .ref q1), (18, .ref q2), (19, .ref q3), (20, .ref q4), (21, .ref q5), (22, .int (nI (mFil G 2 n))), (23, .int (nI d)), (25, .int (nI i))]) hx hb dL_law_917 hl (by decide) rfl (fun ls hl => ?_)
        refine lv_iload hx hb dL_law_919 (lv_at hl 1 rfl) ?_
        refine lv_iload hx hb dL_law_921 (lv_at hl 2 rfl) ?_
        refine lv_iconst (v := 2) hx hb dL_law_923 (by decide) ?_
        refine lv_icmp_ne (tgt := 940) hx hb dL_law_924 (by decide) (fun c_103 => ?_) (fun c_ => absurd c_ (by decide))
        refine lv_iconst (v := 0) hx hb dL_law_940 (by decide) ?_
        refine lv_icmp_ne (tgt := 990) hx hb dL_law_941 (by decide) (fun c_ => absurd rfl c_) (fun c_104 => ?_)
        refine lv_aload hx hb dL_law_944 (lv_at hl 18 rfl) ?_
        refine lv_iload hx hb dL_law_946 (lv_at hl 24 rfl) ?_
        refine k_iald (j := i) hx hb hE hP (64 + nf + n + (R.length + 1)) ((lw_Ri (i := 1)).trans rfl) hi (Nat.lt_of_le_of_lt hn (by decide)) dL_law_948 ?_
        refine w_top (show (hd_ (V 1) n) i = 0 from (hd_at hi).trans hv) ?_
        refine lv_iconst (v := 1) hx hb dL_law_949 (by decide) ?_
        refine lv_icmp_le (tgt := 963) hx hb dL_law_950 (by decide) (fun c_105 => ?_) (fun c_ => absurd (by decide) c_)
        refine lv_iload hx hb dL_law_963 (lv_at hl 2 rfl) ?_
        refine lv_if_ne (tgt := 976) hx hb dL_law_965 (by decide) (fun c_ => absurd rfl c_) (fun c_106 => ?_)
        refine lv_aload hx hb dL_law_968 (lv_at hl 18 rfl) ?_
        refine lv_iload hx hb dL_law_970 (lv_at hl 24 rfl) ?_
        refine k_iald (j := i) hx hb hE hP (64 + nf + n + (R.length + 1)) ((lw_Ri (i := 1)).trans rfl) hi (Nat.lt_of_le_of_lt hn (by decide)) dL_law_972 ?_
        refine w_top (show (hd_ (V 1) n) i = 0 from (hd_at hi).trans hv) ?_
        refine lv_if_ne (tgt := 990) hx hb dL_law_973 (by decide) (fun c_ => absurd rfl c_) (fun c_107 => ?_)
        refine lv_aload_n hx hb dL_law_976 rfl (lv_at hl 4 rfl) ?_
        refine lv_iload hx hb dL_law_977 (lv_at hl 24 rfl) ?_
        refine c_pVi (rest := []) hC hE hP (lx_hasOpenFile l S (nI i) (xbag_n hra hi)) gc_RL_133 hd_X4_hasOpenFile ⟨rfl, rfl⟩ ⟨Nat.le_of_ble_eq_true rfl, Nat.le_of_ble_eq_true rfl⟩ 29 lw_29 rfl rfl hl.1 (Nat.le_of_ble_eq_true rfl) ⟨(by show cc ≤ 600130; omega), (by show ss ≤ 7301080; omega)⟩ dL_law_979 ?_
        refine w_top (show bI (rd 40 (S 10) (nI i) = 1) = bI (G 7 i = 1) from bI_cong (by rw [rd_40 (Nat.lt_of_lt_of_le hi hn), hra.fil i hi])) ?_
        refine lv_aload hx hb dL_law_982 (lv_at hl 21 rfl) ?_
        refine lv_iload hx hb dL_law_984 (lv_at hl 24 rfl) ?_
        refine k_zald (j := i) hx hb hE hP (64 + nf + n + (R.length + 4)) ((lw_Ri (i := 4)).trans rfl) hi (Nat.lt_of_le_of_lt hn (by decide)) dL_law_986 ?_
        refine w_top (show (hd_ (opG G) n) i = bI (G 7 i = 1) from hd_at (g := opG G) hi) ?_
        refine lv_icmp_eq (tgt := 992) hx hb dL_law_987 (by decide) (fun c_108 => ?_) (fun c_ => absurd rfl c_)
        refine lv_aload hx hb dL_law_992 (lv_at hl 19 rfl) ?_
        refine lv_iload hx hb dL_law_994 (lv_at hl 24 rfl) ?_
        refine k_iald (j := i) hx hb hE hP (64 + nf + n + (R.length + 2)) ((lw_Ri (i := 2)).trans rfl) hi (Nat.lt_of_le_of_lt hn (by decide)) dL_law_996 ?_
        refine w_top (show (hd_ (V 3) n) i = V 3 i from hd_at hi) ?_
        refine lv_if_lt (tgt := 1014) hx hb dL_law_997 (by decide) (fun c_109 => ?_) (fun c_109 => ?_)
        · refine lv_aload_n hx hb dL_law_1014 rfl (lv_at hl 4 rfl) ?_
          refine lv_iload hx hb dL_law_1015 (lv_at hl 24 rfl) ?_
          refine c_pVi (rest := []) hC hE hP (lx_missesOf l S (nI i) (xbag_n hra hi)) gc_RL_126 hd_X4_missesOf ⟨rfl, rfl⟩ ⟨Nat.le_of_ble_eq_true rfl, Nat.le_of_ble_eq_true rfl⟩ 29 lw_29 rfl rfl hl.1 (Nat.le_of_ble_eq_true rfl) ⟨(by show cc ≤ 600130; omega), (by show ss ≤ 7301080; omega)⟩ dL_law_1017 ?_
          refine w_top (show rd 40 (S 9) (nI i) = T 4 i from (rd_40 (Nat.lt_of_lt_of_le hi hn)).trans (hrb.mis i hi)) ?_
          refine lv_aload hx hb dL_law_1020 (lv_at hl 20 rfl) ?_
          refine lv_iload hx hb dL_law_1022 (lv_at hl 24 rfl) ?_
          refine k_iald (j := i) hx hb hE hP (64 + nf + n + (R.length + 3)) ((lw_Ri (i := 3)).trans rfl) hi (Nat.lt_of_le_of_lt hn (by decide)) dL_law_1024 ?_
          refine w_top (show (hd_ (V 4) n) i = V 4 i from hd_at hi) ?_
          refine lv_icmp_lt (tgt := 1120) hx hb dL_law_1025 (by decide) (fun c_ => absurd c_ (Int32.not_lt.mpr s4)) (fun c_110 => ?_)
          refine lv_aload hx hb dL_law_1028 (lv_at hl 18 rfl) ?_
          refine lv_iload hx hb dL_law_1030 (lv_at hl 24 rfl) ?_
          refine k_iald (j := i) hx hb hE hP (64 + nf + n + (R.length + 1)) ((lw_Ri (i := 1)).trans rfl) hi (Nat.lt_of_le_of_lt hn (by decide)) dL_law_1032 ?_
          refine w_top (show (hd_ (V 1) n) i = 0 from (hd_at hi).trans hv) ?_
          refine lv_iconst (v := 1) hx hb dL_law_1033 (by decide) ?_
          refine lv_icmp_le (tgt := 1065) hx hb dL_law_1034 (by decide) (fun c_111 => ?_) (fun c_ => absurd (by decide) c_)
          refine lv_iload hx hb dL_law_1065 (lv_at hl 2 rfl) ?_
          refine lv_iconst (v := 2) hx hb dL_law_1067 (by decide) ?_
          refine lv_icmp_ne (tgt := 1095) hx hb dL_law_1068 (by decide) (fun c_112 => ?_) (fun c_ => absurd c_ (by decide))
          refine lv_iload hx hb dL_law_1095 (lv_at hl 2 rfl) ?_
          refine lv_iconst (v := 3) hx hb dL_law_1097 (by decide) ?_
          refine lv_icmp_ne (tgt := 1122) hx hb dL_law_1098 (by decide) (fun c_113 => ?_) (fun c_ => absurd c_ (by decide))
          refine lv_iinc (v := nI (i + 1)) (lv' := [(25, .int (nI (i + 1))), (24, .int (nI (moN V T i))), (27, .int 0), (26, .int 0), (0, .ref b), (1, .ref x), (2, .ref q0), (3, .int (nI t)), (4, .int xv), (5, .long dg), (7, .int (nI n)), (8, .ref y8), (9, .ref y9), (10, .ref y10), (11, .int (nI (mFil G 1 n))), (14, .int (nI N)), (15, .int (nI f)), (16, .int (nI (mRdyN G T f n))), (17, .ref q1), (18, .ref q2), (19, .ref q3), (20, .ref q4), (21, .ref q5), (22, .int (nI (mFil G 2 n))), (23, .int (nI d))]) hx hb dL_law_1122 hl (k := 24) rfl (iinc1 _) (by decide) rfl (fun ls hl => ?_)
          refine lv_goto (tgt := 864) hx hb dL_law_1125 (by decide) ?_
          have e9 : moN V T (i + 1) = moN V T i := moN_f (fun z => absurd (ht.symm.trans z.1) (by decide))
          exact ih ls trivial (by show lv_has ls 28 [(0, .ref b), (1, .ref x), (2, .ref q0), (3, .int (nI t)), (4, .int xv), (5, .long dg), (7, .int (nI n)), (8, .ref y8), (9, .ref y9), (10, .ref y10), (11, .int (nI (mFil G 1 n))), (14, .int (nI N)), (15, .int (nI f)), (16, .int (nI (mRdyN G T f n))), (17, .ref q1), (18, .ref q2), (19, .ref q3), (20, .ref q4), (21, .ref q5), (22, .int (nI (mFil G 2 n))), (23, .int (nI d)), (24, .int (nI (moN V T (i + 1)))), (25, .int (nI (i + 1)))]; rw [e9]; exact lv_sub hl [4, 5, 6, 7, 8, 9, 10, 11, 12, 13, 14, 15, 16, 17, 18, 19, 20, 21, 22, 23, 24, 1, 0] rfl)
        · refine lv_aload_n hx hb dL_law_1000 rfl (lv_at hl 4 rfl) ?_
          refine lv_iload hx hb dL_law_1001 (lv_at hl 24 rfl) ?_
          refine c_pVi (rest := []) hC hE hP (lx_readFor l S (nI i) (xbag_n hra hi)) gc_RL_129 hd_X4_readFor ⟨rfl, rfl⟩ ⟨Nat.le_of_ble_eq_true rfl, Nat.le_of_ble_eq_true rfl⟩ 29 lw_29 rfl rfl hl.1 (Nat.le_of_ble_eq_true rfl) ⟨(by show cc ≤ 600130; omega), (by show ss ≤ 7301080; omega)⟩ dL_law_1003 ?_
          refine w_top (show rd 40 (S 8) (nI i) = T 3 i from (rd_40 (Nat.lt_of_lt_of_le hi hn)).trans (hrb.rdd i hi)) ?_
          refine lv_aload hx hb dL_law_1006 (lv_at hl 19 rfl) ?_
          refine lv_iload hx hb dL_law_1008 (lv_at hl 24 rfl) ?_
          refine k_iald (j := i) hx hb hE hP (64 + nf + n + (R.length + 2)) ((lw_Ri (i := 2)).trans rfl) hi (Nat.lt_of_le_of_lt hn (by decide)) dL_law_1010 ?_
          refine w_top (show (hd_ (V 3) n) i = V 3 i from hd_at hi) ?_
          refine lv_icmp_ne (tgt := 1120) hx hb dL_law_1011 (by decide) (fun c_ => absurd (s3 (fun z => c_109 (by rw [z]; decide))) c_) (fun c_114 => ?_)
          refine lv_aload_n hx hb dL_law_1014 rfl (lv_at hl 4 rfl) ?_
          refine lv_iload hx hb dL_law_1015 (lv_at hl 24 rfl) ?_
          refine c_pVi (rest := []) hC hE hP (lx_missesOf l S (nI i) (xbag_n hra hi)) gc_RL_126 hd_X4_missesOf ⟨rfl, rfl⟩ ⟨Nat.le_of_ble_eq_true rfl, Nat.le_of_ble_eq_true rfl⟩ 29 lw_29 rfl rfl hl.1 (Nat.le_of_ble_eq_true rfl) ⟨(by show cc ≤ 600130; omega), (by show ss ≤ 7301080; omega)⟩ dL_law_1017 ?_
          refine w_top (show rd 40 (S 9) (nI i) = T 4 i from (rd_40 (Nat.lt_of_lt_of_le hi hn)).trans (hrb.mis i hi)) ?_
          refine lv_aload hx hb dL_law_1020 (lv_at hl 20 rfl) ?_
          refine lv_iload hx hb dL_law_1022 (lv_at hl 24 rfl) ?_
          refine k_iald (j := i) hx hb hE hP (64 + nf + n + (R.length + 3)) ((lw_Ri (i := 3)).trans rfl) hi (Nat.lt_of_le_of_lt hn (by decide)) dL_law_1024 ?_
          refine w_top (show (hd_ (V 4) n) i = V 4 i from hd_at hi) ?_
          refine lv_icmp_lt (tgt := 1120) hx hb dL_law_1025 (by decide) (fun c_ => absurd c_ (Int32.not_lt.mpr s4)) (fun c_115 => ?_)
          refine lv_aload hx hb dL_law_1028 (lv_at hl 18 rfl) ?_
          refine lv_iload hx hb dL_law_1030 (lv_at hl 24 rfl) ?_
          refine k_iald (j := i) hx hb hE hP (64 + nf + n + (R.length + 1)) ((lw_Ri (i := 1)).trans rfl) hi (Nat.lt_of_le_of_lt hn (by decide)) dL_law_1032 ?_
          refine w_top (show (hd_ (V 1) n) i = 0 from (hd_at hi).trans hv) ?_
          refine lv_iconst (v := 1) hx hb dL_law_1033 (by decide) ?_
          refine lv_icmp_le (tgt := 1065) hx hb dL_law_1034 (by decide) (fun c_116 => ?_) (fun c_ => absurd (by decide) c_)
          refine lv_iload hx hb dL_law_1065 (lv_at hl 2 rfl) ?_
          refine lv_iconst (v := 2) hx hb dL_law_1067 (by decide) ?_
          refine lv_icmp_ne (tgt := 1095) hx hb dL_law_1068 (by decide) (fun c_117 => ?_) (fun c_ => absurd c_ (by decide))
          refine lv_iload hx hb dL_law_1095 (lv_at hl 2 rfl) ?_
          refine lv_iconst (v := 3) hx hb dL_law_1097 (by decide) ?_
          refine lv_icmp_ne (tgt := 1122) hx hb dL_law_1098 (by decide) (fun c_118 => ?_) (fun c_ => absurd c_ (by decide))
          refine lv_iinc (v := nI (i + 1)) (lv' := [(25, .int (nI (i + 1))), (24, .int (nI (moN V T i))), (27, .int 0), (26, .int 0), (0, .ref b), (1, .ref x), (2, .ref q0), (3, .int (nI t)), (4, .int xv), (5, .long dg), (7, .int (nI n)), (8, .ref y8), (9, .ref y9), (10, .ref y10), (11, .int (nI (mFil G 1 n))), (14, .int (nI N)), (15, .int (nI f)), (16, .int (nI (mRdyN G T f n))), (17, .ref q1), (18, .ref q2), (19, .ref q3), (20, .ref q4), (21, .ref q5), (22, .int (nI (mFil G 2 n))), (23, .int (nI d))]) hx hb dL_law_1122 hl (k := 24) rfl (iinc1 _) (by decide) rfl (fun ls hl => ?_)
          refine lv_goto (tgt := 864) hx hb dL_law_1125 (by decide) ?_
          have e9 : moN V T (i + 1) = moN V T i := moN_f (fun z => absurd (ht.symm.trans z.1) (by decide))
          exact ih ls trivial (by show lv_has ls 28 [(0, .ref b), (1, .ref x), (2, .ref q0), (3, .int (nI t)), (4, .int xv), (5, .long dg), (7, .int (nI n)), (8, .ref y8), (9, .ref y9), (10, .ref y10), (11, .int (nI (mFil G 1 n))), (14, .int (nI N)), (15, .int (nI f)), (16, .int (nI (mRdyN G T f n))), (17, .ref q1), (18, .ref q2), (19, .ref q3), (20, .ref q4), (21, .ref q5), (22, .int (nI (mFil G 2 n))), (23, .int (nI d)), (24, .int (nI (moN V T (i + 1)))), (25, .int (nI (i + 1)))]; rw [e9]; exact lv_sub hl [4, 5, 6, 7, 8, 9, 10, 11, 12, 13, 14, 15, 16, 17, 18, 19, 20, 21, 22, 23, 24, 1, 0] rfl)
      · refine lv_aload_n hx hb dL_law_871 rfl (lv_at hl 1 rfl) ?_
        refine lv_iload hx hb dL_law_872 (lv_at hl 22 rfl) ?_
        refine c_pVi (rest := []) hC hE hP (lx_whereIs l S (nI i) (xbag_n hra hi)) gc_RL_114 hd_X4_whereIs ⟨rfl, rfl⟩ ⟨Nat.le_of_ble_eq_true rfl, Nat.le_of_ble_eq_true rfl⟩ 29 lw_29 rfl rfl hl.1 (Nat.le_of_ble_eq_true rfl) ⟨(by show cc ≤ 600130; omega), (by show ss ≤ 7301080; omega)⟩ dL_law_874 ?_
        refine w_top (show rd 40 (S 6) (nI i) = T 1 i from (rd_40 (Nat.lt_of_lt_of_le hi hn)).trans (hrb.whr i hi)) ?_
        refine w_top (show T 1 i = 0 from ht) ?_
        refine lv_istore (lv' := [(26, .int 0), (0, .ref b), (1, .ref x), (2, .ref q0), (3, .int (nI t)), (4, .int xv), (5, .long dg), (7, .int (nI n)), (8, .ref y8), (9, .ref y9), (10, .ref y10), (11, .int (nI (mFil G 1 n))), (14, .int (nI N)), (15, .int (nI f)), (16, .int (nI (mRdyN G T f n))), (17, .ref q1), (18, .ref q2), (19, .ref q3), (20, .ref q4), (21, .ref q5), (22, .int (nI (mFil G 2 n))), (23, .int (nI d)), (24, .int (nI (moN V T i))), (25, .int (nI i))]) hx hb dL_law_877 hl (by decide) rfl (fun ls hl => ?_)
        refine lv_aload hx hb dL_law_879 (lv_at hl 15 rfl) ?_
        refine lv_iload hx hb dL_law_881 (lv_at hl 23 rfl) ?_
        refine k_iald (j := i) hx hb hE hP (64 + nf + n + (R.length + 0)) ((lw_Ri (i := 0)).trans rfl) hi (Nat.lt_of_le_of_lt hn (by decide)) dL_law_883 ?_
        refine w_top (show (hd_ (mUnA G V) n) i = mUnA G V i from hd_at hi) ?_
        refine lv_if_le (tgt := 901) hx hb dL_law_884 (by decide) (fun c_ => absurd c_ z9) (fun c_119 => ?_)
        refine lv_aload hx hb dL_law_887 (lv_at hl 15 rfl) ?_
        refine lv_iload hx hb dL_law_889 (lv_at hl 23 rfl) ?_
        refine k_iald (j := i) hx hb hE hP (64 + nf + n + (R.length + 0)) ((lw_Ri (i := 0)).trans rfl) hi (Nat.lt_of_le_of_lt hn (by decide)) dL_law_891 ?_
        refine w_top (show (hd_ (mUnA G V) n) i = mUnA G V i from hd_at hi) ?_
        refine lv_iload hx hb dL_law_892 (lv_at hl 12 rfl) ?_
        refine lv_icmp_gt (tgt := 901) hx hb dL_law_894 (by decide) (fun c_120 => ?_) (fun c_ => absurd (u4 (Or.inl hv) (by rw [ht]; decide) z9) c_)
        refine lv_iconst (v := 0) hx hb dL_law_901 (by decide) ?_
        refine lv_istore (lv' := [(27, .int 0), (26, .int 0), (0, .ref b), (1, .ref x), (2, .ref q0), (3, .int (nI t)), (4, .int xv), (5, .long dg), (7, .int (nI n)), (8, .ref y8), (9, .ref y9), (10, .ref y10), (11, .int (nI (mFil G 1 n))), (14, .int (nI N)), (15, .int (nI f)), (16, .int (nI (mRdyN G T f n))), (17, .ref q1), (18, .ref q2), (19, .ref q3), (20, .ref q4), (21, .ref q5), (22, .int (nI (mFil G 2 n))), (23, .int (nI d)), (24, .int (nI (moN V T i))), (25, .int (nI i))]) hx hb dL_law_902 hl (by decide) rfl (fun ls hl => ?_)
        refine lv_iload hx hb dL_law_904 (lv_at hl 23 rfl) ?_
        refine lv_iload hx hb dL_law_906 (lv_at hl 0 rfl) ?_
        refine lv_if_eq (tgt := 915) hx hb dL_law_908 (by decide) (fun c_121 => ?_) (fun c_ => absurd rfl c_)
        refine lv_iconst (v := 0) hx hb dL_law_915 (by decide) ?_
        refine lv_iadd hx hb dL_law_916 ?_
        refine w_top (show (nI (moN V T i)) + 0 = nI (moN V T i) from Int32.add_zero _) ?_
        refine lv_istore (lv' := [(24, .int (nI (moN V T i))), (27, .int 0), (26, .int 0), (0, .ref b), (1, .ref x), (2, .ref q0), (3, .int (nI t)), (4, .int xv), (5, .long dg), (7, .int (nI n)), (8, .ref y8), (9, .ref y9), (10, .ref y10), (11, .int (nI (mFil G 1 n))), (14, .int (nI N)), (15, .int (nI f)), (16, .int (nI (mRdyN G T f n))), (17, .ref q1), (18, .ref q2), (19, .ref q3), (20, .ref q4), (21, .ref q5), (22, .int (nI (mFil G 2 n))), (23, .int (nI d)), (25, .int (nI i))]) hx hb dL_law_917 hl (by decide) rfl (fun ls hl => ?_)
        refine lv_iload hx hb dL_law_919 (lv_at hl 1 rfl) ?_
        refine lv_iload hx hb dL_law_921 (lv_at hl 2 rfl) ?_
        refine lv_iconst (v := 2) hx hb dL_law_923 (by decide) ?_
        refine lv_icmp_ne (tgt := 940) hx hb dL_law_924 (by decide) (fun c_122 => ?_) (fun c_ => absurd c_ (by decide))
        refine lv_iconst (v := 0) hx hb dL_law_940 (by decide) ?_
        refine lv_icmp_ne (tgt := 990) hx hb dL_law_941 (by decide) (fun c_ => absurd rfl c_) (fun c_123 => ?_)
        refine lv_aload hx hb dL_law_944 (lv_at hl 18 rfl) ?_
        refine lv_iload hx hb dL_law_946 (lv_at hl 24 rfl) ?_
        refine k_iald (j := i) hx hb hE hP (64 + nf + n + (R.length + 1)) ((lw_Ri (i := 1)).trans rfl) hi (Nat.lt_of_le_of_lt hn (by decide)) dL_law_948 ?_
        refine w_top (show (hd_ (V 1) n) i = 0 from (hd_at hi).trans hv) ?_
        refine lv_iconst (v := 1) hx hb dL_law_949 (by decide) ?_
        refine lv_icmp_le (tgt := 963) hx hb dL_law_950 (by decide) (fun c_124 => ?_) (fun c_ => absurd (by decide) c_)
        refine lv_iload hx hb dL_law_963 (lv_at hl 2 rfl) ?_
        refine lv_if_ne (tgt := 976) hx hb dL_law_965 (by decide) (fun c_ => absurd rfl c_) (fun c_125 => ?_)
        refine lv_aload hx hb dL_law_968 (lv_at hl 18 rfl) ?_
        refine lv_iload hx hb dL_law_970 (lv_at hl 24 rfl) ?_
        refine k_iald (j := i) hx hb hE hP (64 + nf + n + (R.length + 1)) ((lw_Ri (i := 1)).trans rfl) hi (Nat.lt_of_le_of_lt hn (by decide)) dL_law_972 ?_
        refine w_top (show (hd_ (V 1) n) i = 0 from (hd_at hi).trans hv) ?_
        refine lv_if_ne (tgt := 990) hx hb dL_law_973 (by decide) (fun c_ => absurd rfl c_) (fun c_126 => ?_)
        refine lv_aload_n hx hb dL_law_976 rfl (lv_at hl 4 rfl) ?_
        refine lv_iload hx hb dL_law_977 (lv_at hl 24 rfl) ?_
        refine c_pVi (rest := []) hC hE hP (lx_hasOpenFile l S (nI i) (xbag_n hra hi)) gc_RL_133 hd_X4_hasOpenFile ⟨rfl, rfl⟩ ⟨Nat.le_of_ble_eq_true rfl, Nat.le_of_ble_eq_true rfl⟩ 29 lw_29 rfl rfl hl.1 (Nat.le_of_ble_eq_true rfl) ⟨(by show cc ≤ 600130; omega), (by show ss ≤ 7301080; omega)⟩ dL_law_979 ?_
        refine w_top (show bI (rd 40 (S 10) (nI i) = 1) = bI (G 7 i = 1) from bI_cong (by rw [rd_40 (Nat.lt_of_lt_of_le hi hn), hra.fil i hi])) ?_
        refine lv_aload hx hb dL_law_982 (lv_at hl 21 rfl) ?_
        refine lv_iload hx hb dL_law_984 (lv_at hl 24 rfl) ?_
        refine k_zald (j := i) hx hb hE hP (64 + nf + n + (R.length + 4)) ((lw_Ri (i := 4)).trans rfl) hi (Nat.lt_of_le_of_lt hn (by decide)) dL_law_986 ?_
        refine w_top (show (hd_ (opG G) n) i = bI (G 7 i = 1) from hd_at (g := opG G) hi) ?_
        refine lv_icmp_eq (tgt := 992) hx hb dL_law_987 (by decide) (fun c_127 => ?_) (fun c_ => absurd rfl c_)
        refine lv_aload hx hb dL_law_992 (lv_at hl 19 rfl) ?_
        refine lv_iload hx hb dL_law_994 (lv_at hl 24 rfl) ?_
        refine k_iald (j := i) hx hb hE hP (64 + nf + n + (R.length + 2)) ((lw_Ri (i := 2)).trans rfl) hi (Nat.lt_of_le_of_lt hn (by decide)) dL_law_996 ?_
        refine w_top (show (hd_ (V 3) n) i = V 3 i from hd_at hi) ?_
        refine lv_if_lt (tgt := 1014) hx hb dL_law_997 (by decide) (fun c_128 => ?_) (fun c_128 => ?_)
        · refine lv_aload_n hx hb dL_law_1014 rfl (lv_at hl 4 rfl) ?_
          refine lv_iload hx hb dL_law_1015 (lv_at hl 24 rfl) ?_
          refine c_pVi (rest := []) hC hE hP (lx_missesOf l S (nI i) (xbag_n hra hi)) gc_RL_126 hd_X4_missesOf ⟨rfl, rfl⟩ ⟨Nat.le_of_ble_eq_true rfl, Nat.le_of_ble_eq_true rfl⟩ 29 lw_29 rfl rfl hl.1 (Nat.le_of_ble_eq_true rfl) ⟨(by show cc ≤ 600130; omega), (by show ss ≤ 7301080; omega)⟩ dL_law_1017 ?_
          refine w_top (show rd 40 (S 9) (nI i) = T 4 i from (rd_40 (Nat.lt_of_lt_of_le hi hn)).trans (hrb.mis i hi)) ?_
          refine lv_aload hx hb dL_law_1020 (lv_at hl 20 rfl) ?_
          refine lv_iload hx hb dL_law_1022 (lv_at hl 24 rfl) ?_
          refine k_iald (j := i) hx hb hE hP (64 + nf + n + (R.length + 3)) ((lw_Ri (i := 3)).trans rfl) hi (Nat.lt_of_le_of_lt hn (by decide)) dL_law_1024 ?_
          refine w_top (show (hd_ (V 4) n) i = V 4 i from hd_at hi) ?_
          refine lv_icmp_lt (tgt := 1120) hx hb dL_law_1025 (by decide) (fun c_ => absurd c_ (Int32.not_lt.mpr s4)) (fun c_129 => ?_)
          refine lv_aload hx hb dL_law_1028 (lv_at hl 18 rfl) ?_
          refine lv_iload hx hb dL_law_1030 (lv_at hl 24 rfl) ?_
          refine k_iald (j := i) hx hb hE hP (64 + nf + n + (R.length + 1)) ((lw_Ri (i := 1)).trans rfl) hi (Nat.lt_of_le_of_lt hn (by decide)) dL_law_1032 ?_
          refine w_top (show (hd_ (V 1) n) i = 0 from (hd_at hi).trans hv) ?_
          refine lv_iconst (v := 1) hx hb dL_law_1033 (by decide) ?_
          refine lv_icmp_le (tgt := 1065) hx hb dL_law_1034 (by decide) (fun c_130 => ?_) (fun c_ => absurd (by decide) c_)
          refine lv_iload hx hb dL_law_1065 (lv_at hl 2 rfl) ?_
          refine lv_iconst (v := 2) hx hb dL_law_1067 (by decide) ?_
          refine lv_icmp_ne (tgt := 1095) hx hb dL_law_1068 (by decide) (fun c_131 => ?_) (fun c_ => absurd c_ (by decide))
          refine lv_iload hx hb dL_law_1095 (lv_at hl 2 rfl) ?_
          refine lv_iconst (v := 3) hx hb dL_law_1097 (by decide) ?_
          refine lv_icmp_ne (tgt := 1122) hx hb dL_law_1098 (by decide) (fun c_132 => ?_) (fun c_ => absurd c_ (by decide))
          refine lv_iinc (v := nI (i + 1)) (lv' := [(25, .int (nI (i + 1))), (24, .int (nI (moN V T i))), (27, .int 0), (26, .int 0), (0, .ref b), (1, .ref x), (2, .ref q0), (3, .int (nI t)), (4, .int xv), (5, .long dg), (7, .int (nI n)), (8, .ref y8), (9, .ref y9), (10, .ref y10), (11, .int (nI (mFil G 1 n))), (14, .int (nI N)), (15, .int (nI f)), (16, .int (nI (mRdyN G T f n))), (17, .ref q1), (18, .ref q2), (19, .ref q3), (20, .ref q4), (21, .ref q5), (22, .int (nI (mFil G 2 n))), (23, .int (nI d))]) hx hb dL_law_1122 hl (k := 24) rfl (iinc1 _) (by decide) rfl (fun ls hl => ?_)
          refine lv_goto (tgt := 864) hx hb dL_law_1125 (by decide) ?_
          have e9 : moN V T (i + 1) = moN V T i := moN_f (fun z => absurd (ht.symm.trans z.1) (by decide))
          exact ih ls trivial (by show lv_has ls 28 [(0, .ref b), (1, .ref x), (2, .ref q0), (3, .int (nI t)), (4, .int xv), (5, .long dg), (7, .int (nI n)), (8, .ref y8), (9, .ref y9), (10, .ref y10), (11, .int (nI (mFil G 1 n))), (14, .int (nI N)), (15, .int (nI f)), (16, .int (nI (mRdyN G T f n))), (17, .ref q1), (18, .ref q2), (19, .ref q3), (20, .ref q4), (21, .ref q5), (22, .int (nI (mFil G 2 n))), (23, .int (nI d)), (24, .int (nI (moN V T (i + 1)))), (25, .int (nI (i + 1)))]; rw [e9]; exact lv_sub hl [4, 5, 6, 7, 8, 9, 10, 11, 12, 13, 14, 15, 16, 17, 18, 19, 20, 21, 22, 23, 24, 1, 0] rfl)
        · refine lv_aload_n hx hb dL_law_1000 rfl (lv_at hl 4 rfl) ?_
          refine lv_iload hx hb dL_law_1001 (lv_at hl 24 rfl) ?_
          refine c_pVi (rest := []) hC hE hP (lx_readFor l S (nI i) (xbag_n hra hi)) gc_RL_129 hd_X4_readFor ⟨rfl, rfl⟩ ⟨Nat.le_of_ble_eq_true rfl, Nat.le_of_ble_eq_true rfl⟩ 29 lw_29 rfl rfl hl.1 (Nat.le_of_ble_eq_true rfl) ⟨(by show cc ≤ 600130; omega), (by show ss ≤ 7301080; omega)⟩ dL_law_1003 ?_
          refine w_top (show rd 40 (S 8) (nI i) = T 3 i from (rd_40 (Nat.lt_of_lt_of_le hi hn)).trans (hrb.rdd i hi)) ?_
          refine lv_aload hx hb dL_law_1006 (lv_at hl 19 rfl) ?_
          refine lv_iload hx hb dL_law_1008 (lv_at hl 24 rfl) ?_
          refine k_iald (j := i) hx hb hE hP (64 + nf + n + (R.length + 2)) ((lw_Ri (i := 2)).trans rfl) hi (Nat.lt_of_le_of_lt hn (by decide)) dL_law_1010 ?_
          refine w_top (show (hd_ (V 3) n) i = V 3 i from hd_at hi) ?_
          refine lv_icmp_ne (tgt := 1120) hx hb dL_law_1011 (by decide) (fun c_ => absurd (s3 (fun z => c_128 (by rw [z]; decide))) c_) (fun c_133 => ?_)
          refine lv_aload_n hx hb dL_law_1014 rfl (lv_at hl 4 rfl) ?_
          refine lv_iload hx hb dL_law_1015 (lv_at hl 24 rfl) ?_
          refine c_pVi (rest := []) hC hE hP (lx_missesOf l S (nI i) (xbag_n hra hi)) gc_RL_126 hd_X4_missesOf ⟨rfl, rfl⟩ ⟨Nat.le_of_ble_eq_true rfl, Nat.le_of_ble_eq_true rfl⟩ 29 lw_29 rfl rfl hl.1 (Nat.le_of_ble_eq_true rfl) ⟨(by show cc ≤ 600130; omega), (by show ss ≤ 7301080; omega)⟩ dL_law_1017 ?_
          refine w_top (show rd 40 (S 9) (nI i) = T 4 i from (rd_40 (Nat.lt_of_lt_of_le hi hn)).trans (hrb.mis i hi)) ?_
          refine lv_aload hx hb dL_law_1020 (lv_at hl 20 rfl) ?_
          refine lv_iload hx hb dL_law_1022 (lv_at hl 24 rfl) ?_
          refine k_iald (j := i) hx hb hE hP (64 + nf + n + (R.length + 3)) ((lw_Ri (i := 3)).trans rfl) hi (Nat.lt_of_le_of_lt hn (by decide)) dL_law_1024 ?_
          refine w_top (show (hd_ (V 4) n) i = V 4 i from hd_at hi) ?_
          refine lv_icmp_lt (tgt := 1120) hx hb dL_law_1025 (by decide) (fun c_ => absurd c_ (Int32.not_lt.mpr s4)) (fun c_134 => ?_)
          refine lv_aload hx hb dL_law_1028 (lv_at hl 18 rfl) ?_
          refine lv_iload hx hb dL_law_1030 (lv_at hl 24 rfl) ?_
          refine k_iald (j := i) hx hb hE hP (64 + nf + n + (R.length + 1)) ((lw_Ri (i := 1)).trans rfl) hi (Nat.lt_of_le_of_lt hn (by decide)) dL_law_1032 ?_
          refine w_top (show (hd_ (V 1) n) i = 0 from (hd_at hi).trans hv) ?_
          refine lv_iconst (v := 1) hx hb dL_law_1033 (by decide) ?_
          refine lv_icmp_le (tgt := 1065) hx hb dL_law_1034 (by decide) (fun c_135 => ?_) (fun c_ => absurd (by decide) c_)
          refine lv_iload hx hb dL_law_1065 (lv_at hl 2 rfl) ?_
          refine lv_iconst (v := 2) hx hb dL_law_1067 (by decide) ?_
          refine lv_icmp_ne (tgt := 1095) hx hb dL_law_1068 (by decide) (fun c_136 => ?_) (fun c_ => absurd c_ (by decide))
          refine lv_iload hx hb dL_law_1095 (lv_at hl 2 rfl) ?_
          refine lv_iconst (v := 3) hx hb dL_law_1097 (by decide) ?_
          refine lv_icmp_ne (tgt := 1122) hx hb dL_law_1098 (by decide) (fun c_137 => ?_) (fun c_ => absurd c_ (by decide))
          refine lv_iinc (v := nI (i + 1)) (lv' := [(25, .int (nI (i + 1))), (24, .int (nI (moN V T i))), (27, .int 0), (26, .int 0), (0, .ref b), (1, .ref x), (2, .ref q0), (3, .int (nI t)), (4, .int xv), (5, .long dg), (7, .int (nI n)), (8, .ref y8), (9, .ref y9), (10, .ref y10), (11, .int (nI (mFil G 1 n))), (14, .int (nI N)), (15, .int (nI f)), (16, .int (nI (mRdyN G T f n))), (17, .ref q1), (18, .ref q2), (19, .ref q3), (20, .ref q4), (21, .ref q5), (22, .int (nI (mFil G 2 n))), (23, .int (nI d))]) hx hb dL_law_1122 hl (k := 24) rfl (iinc1 _) (by decide) rfl (fun ls hl => ?_)
          refine lv_goto (tgt := 864) hx hb dL_law_1125 (by decide) ?_
          have e9 : moN V T (i + 1) = moN V T i := moN_f (fun z => absurd (ht.symm.trans z.1) (by decide))
          exact ih ls trivial (by show lv_has ls 28 [(0, .ref b), (1, .ref x), (2, .ref q0), (3, .int (nI t)), (4, .int xv), (5, .long dg), (7, .int (nI n)), (8, .ref y8), (9, .ref y9), (10, .ref y10), (11, .int (nI (mFil G 1 n))), (14, .int (nI N)), (15, .int (nI f)), (16, .int (nI (mRdyN G T f n))), (17, .ref q1), (18, .ref q2), (19, .ref q3), (20, .ref q4), (21, .ref q5), (22, .int (nI (mFil G 2 n))), (23, .int (nI d)), (24, .int (nI (moN V T (i + 1)))), (25, .int (nI (i + 1)))]; rw [e9]; exact lv_sub hl [4, 5, 6, 7, 8, 9, 10, 11, 12, 13, 14, 15, 16, 17, 18, 19, 20, 21, 22, 23, 24, 1, 0] rfl)
    · by_cases z9 : mUnA G V i ≤ 0
      · refine lv_aload_n hx hb dL_law_871 rfl (lv_at hl 1 rfl) ?_
        refine lv_iload hx hb dL_law_872 (lv_at hl 22 rfl) ?_
        refine c_pVi (rest := []) hC hE hP (lx_whereIs l S (nI i) (xbag_n hra hi)) gc_RL_114 hd_X4_whereIs ⟨rfl, rfl⟩ ⟨Nat.le_of_ble_eq_true rfl, Nat.le_of_ble_eq_true rfl⟩ 29 lw_29 rfl rfl hl.1 (Nat.le_of_ble_eq_true rfl) ⟨(by show cc ≤ 600130; omega), (by show ss ≤ 7301080; omega)⟩ dL_law_874 ?_
        refine w_top (show rd 40 (S 6) (nI i) = T 1 i from (rd_40 (Nat.lt_of_lt_of_le hi hn)).trans (hrb.whr i hi)) ?_
        refine w_top (show T 1 i = 1 from ht) ?_
        refine lv_istore (lv' := [(26, .int 1), (0, .ref b), (1, .ref x), (2, .ref q0), (3, .int (nI t)), (4, .int xv), (5, .long dg), (7, .int (nI n)), (8, .ref y8), (9, .ref y9), (10, .ref y10), (11, .int (nI (mFil G 1 n))), (14, .int (nI N)), (15, .int (nI f)), (16, .int (nI (mRdyN G T f n))), (17, .ref q1), (18, .ref q2), (19, .ref q3), (20, .ref q4), (21, .ref q5), (22, .int (nI (mFil G 2 n))), (23, .int (nI d)), (24, .int (nI (moN V T i))), (25, .int (nI i))]) hx hb dL_law_877 hl (by decide) rfl (fun ls hl => ?_)
        refine lv_aload hx hb dL_law_879 (lv_at hl 15 rfl) ?_
        refine lv_iload hx hb dL_law_881 (lv_at hl 23 rfl) ?_
        refine k_iald (j := i) hx hb hE hP (64 + nf + n + (R.length + 0)) ((lw_Ri (i := 0)).trans rfl) hi (Nat.lt_of_le_of_lt hn (by decide)) dL_law_883 ?_
        refine w_top (show (hd_ (mUnA G V) n) i = mUnA G V i from hd_at hi) ?_
        refine lv_if_le (tgt := 901) hx hb dL_law_884 (by decide) (fun c_138 => ?_) (fun c_ => absurd z9 c_)
        refine lv_iconst (v := 0) hx hb dL_law_901 (by decide) ?_
        refine lv_istore (lv' := [(27, .int 0), (26, .int 1), (0, .ref b), (1, .ref x), (2, .ref q0), (3, .int (nI t)), (4, .int xv), (5, .long dg), (7, .int (nI n)), (8, .ref y8), (9, .ref y9), (10, .ref y10), (11, .int (nI (mFil G 1 n))), (14, .int (nI N)), (15, .int (nI f)), (16, .int (nI (mRdyN G T f n))), (17, .ref q1), (18, .ref q2), (19, .ref q3), (20, .ref q4), (21, .ref q5), (22, .int (nI (mFil G 2 n))), (23, .int (nI d)), (24, .int (nI (moN V T i))), (25, .int (nI i))]) hx hb dL_law_902 hl (by decide) rfl (fun ls hl => ?_)
        refine lv_iload hx hb dL_law_904 (lv_at hl 23 rfl) ?_
        refine lv_iload hx hb dL_law_906 (lv_at hl 0 rfl) ?_
        refine lv_if_eq (tgt := 915) hx hb dL_law_908 (by decide) (fun c_139 => ?_) (fun c_ => absurd rfl c_)
        refine lv_iconst (v := 0) hx hb dL_law_915 (by decide) ?_
        refine lv_iadd hx hb dL_law_916 ?_
        refine w_top (show (nI (moN V T i)) + 0 = nI (moN V T i) from Int32.add_zero _) ?_
        refine lv_istore (lv' := [(24, .int (nI (moN V T i))), (27, .int 0), (26, .int 1), (0, .ref b), (1, .ref x), (2, .ref q0), (3, .int (nI t)), (4, .int xv), (5, .long dg), (7, .int (nI n)), (8, .ref y8), (9, .ref y9), (10, .ref y10), (11, .int (nI (mFil G 1 n))), (14, .int (nI N)), (15, .int (nI f)), (16, .int (nI (mRdyN G T f n))), (17, .ref q1), (18, .ref q2), (19, .ref q3), (20, .ref q4), (21, .ref q5), (22, .int (nI (mFil G 2 n))), (23, .int (nI d)), (25, .int (nI i))]) hx hb dL_law_917 hl (by decide) rfl (fun ls hl => ?_)
        refine lv_iload hx hb dL_law_919 (lv_at hl 1 rfl) ?_
        refine lv_iload hx hb dL_law_921 (lv_at hl 2 rfl) ?_
        refine lv_iconst (v := 2) hx hb dL_law_923 (by decide) ?_
        refine lv_icmp_ne (tgt := 940) hx hb dL_law_924 (by decide) (fun c_140 => ?_) (fun c_ => absurd c_ (by decide))
        refine lv_iconst (v := 0) hx hb dL_law_940 (by decide) ?_
        refine lv_icmp_ne (tgt := 990) hx hb dL_law_941 (by decide) (fun c_ => absurd rfl c_) (fun c_141 => ?_)
        refine lv_aload hx hb dL_law_944 (lv_at hl 18 rfl) ?_
        refine lv_iload hx hb dL_law_946 (lv_at hl 24 rfl) ?_
        refine k_iald (j := i) hx hb hE hP (64 + nf + n + (R.length + 1)) ((lw_Ri (i := 1)).trans rfl) hi (Nat.lt_of_le_of_lt hn (by decide)) dL_law_948 ?_
        refine w_top (show (hd_ (V 1) n) i = 0 from (hd_at hi).trans hv) ?_
        refine lv_iconst (v := 1) hx hb dL_law_949 (by decide) ?_
        refine lv_icmp_le (tgt := 963) hx hb dL_law_950 (by decide) (fun c_142 => ?_) (fun c_ => absurd (by decide) c_)
        refine lv_iload hx hb dL_law_963 (lv_at hl 2 rfl) ?_
        refine lv_if_ne (tgt := 976) hx hb dL_law_965 (by decide) (fun c_143 => ?_) (fun c_ => absurd c_ (by decide))
        refine lv_aload_n hx hb dL_law_976 rfl (lv_at hl 4 rfl) ?_
        refine lv_iload hx hb dL_law_977 (lv_at hl 24 rfl) ?_
        refine c_pVi (rest := []) hC hE hP (lx_hasOpenFile l S (nI i) (xbag_n hra hi)) gc_RL_133 hd_X4_hasOpenFile ⟨rfl, rfl⟩ ⟨Nat.le_of_ble_eq_true rfl, Nat.le_of_ble_eq_true rfl⟩ 29 lw_29 rfl rfl hl.1 (Nat.le_of_ble_eq_true rfl) ⟨(by show cc ≤ 600130; omega), (by show ss ≤ 7301080; omega)⟩ dL_law_979 ?_
        refine w_top (show bI (rd 40 (S 10) (nI i) = 1) = bI (G 7 i = 1) from bI_cong (by rw [rd_40 (Nat.lt_of_lt_of_le hi hn), hra.fil i hi])) ?_
        refine lv_aload hx hb dL_law_982 (lv_at hl 21 rfl) ?_
        refine lv_iload hx hb dL_law_984 (lv_at hl 24 rfl) ?_
        refine k_zald (j := i) hx hb hE hP (64 + nf + n + (R.length + 4)) ((lw_Ri (i := 4)).trans rfl) hi (Nat.lt_of_le_of_lt hn (by decide)) dL_law_986 ?_
        refine w_top (show (hd_ (opG G) n) i = bI (G 7 i = 1) from hd_at (g := opG G) hi) ?_
        refine lv_icmp_eq (tgt := 992) hx hb dL_law_987 (by decide) (fun c_144 => ?_) (fun c_ => absurd rfl c_)
        refine lv_aload hx hb dL_law_992 (lv_at hl 19 rfl) ?_
        refine lv_iload hx hb dL_law_994 (lv_at hl 24 rfl) ?_
        refine k_iald (j := i) hx hb hE hP (64 + nf + n + (R.length + 2)) ((lw_Ri (i := 2)).trans rfl) hi (Nat.lt_of_le_of_lt hn (by decide)) dL_law_996 ?_
        refine w_top (show (hd_ (V 3) n) i = V 3 i from hd_at hi) ?_
        refine lv_if_lt (tgt := 1014) hx hb dL_law_997 (by decide) (fun c_145 => ?_) (fun c_145 => ?_)
        · refine lv_aload_n hx hb dL_law_1014 rfl (lv_at hl 4 rfl) ?_
          refine lv_iload hx hb dL_law_1015 (lv_at hl 24 rfl) ?_
          refine c_pVi (rest := []) hC hE hP (lx_missesOf l S (nI i) (xbag_n hra hi)) gc_RL_126 hd_X4_missesOf ⟨rfl, rfl⟩ ⟨Nat.le_of_ble_eq_true rfl, Nat.le_of_ble_eq_true rfl⟩ 29 lw_29 rfl rfl hl.1 (Nat.le_of_ble_eq_true rfl) ⟨(by show cc ≤ 600130; omega), (by show ss ≤ 7301080; omega)⟩ dL_law_1017 ?_
          refine w_top (show rd 40 (S 9) (nI i) = T 4 i from (rd_40 (Nat.lt_of_lt_of_le hi hn)).trans (hrb.mis i hi)) ?_
          refine lv_aload hx hb dL_law_1020 (lv_at hl 20 rfl) ?_
          refine lv_iload hx hb dL_law_1022 (lv_at hl 24 rfl) ?_
          refine k_iald (j := i) hx hb hE hP (64 + nf + n + (R.length + 3)) ((lw_Ri (i := 3)).trans rfl) hi (Nat.lt_of_le_of_lt hn (by decide)) dL_law_1024 ?_
          refine w_top (show (hd_ (V 4) n) i = V 4 i from hd_at hi) ?_
          refine lv_icmp_lt (tgt := 1120) hx hb dL_law_1025 (by decide) (fun c_ => absurd c_ (Int32.not_lt.mpr s4)) (fun c_146 => ?_)
          refine lv_aload hx hb dL_law_1028 (lv_at hl 18 rfl) ?_
          refine lv_iload hx hb dL_law_1030 (lv_at hl 24 rfl) ?_
          refine k_iald (j := i) hx hb hE hP (64 + nf + n + (R.length + 1)) ((lw_Ri (i := 1)).trans rfl) hi (Nat.lt_of_le_of_lt hn (by decide)) dL_law_1032 ?_
          refine w_top (show (hd_ (V 1) n) i = 0 from (hd_at hi).trans hv) ?_
          refine lv_iconst (v := 1) hx hb dL_law_1033 (by decide) ?_
          refine lv_icmp_le (tgt := 1065) hx hb dL_law_1034 (by decide) (fun c_147 => ?_) (fun c_ => absurd (by decide) c_)
          refine lv_iload hx hb dL_law_1065 (lv_at hl 2 rfl) ?_
          refine lv_iconst (v := 2) hx hb dL_law_1067 (by decide) ?_
          refine lv_icmp_ne (tgt := 1095) hx hb dL_law_1068 (by decide) (fun c_148 => ?_) (fun c_ => absurd c_ (by decide))
          refine lv_iload hx hb dL_law_1095 (lv_at hl 2 rfl) ?_
          refine lv_iconst (v := 3) hx hb dL_law_1097 (by decide) ?_
          refine lv_icmp_ne (tgt := 1122) hx hb dL_law_1098 (by decide) (fun c_149 => ?_) (fun c_ => absurd c_ (by decide))
          refine lv_iinc (v := nI (i + 1)) (lv' := [(25, .int (nI (i + 1))), (24, .int (nI (moN V T i))), (27, .int 0), (26, .int 1), (0, .ref b), (1, .ref x), (2, .ref q0), (3, .int (nI t)), (4, .int xv), (5, .long dg), (7, .int (nI n)), (8, .ref y8), (9, .ref y9), (10, .ref y10), (11, .int (nI (mFil G 1 n))), (14, .int (nI N)), (15, .int (nI f)), (16, .int (nI (mRdyN G T f n))), (17, .ref q1), (18, .ref q2), (19, .ref q3), (20, .ref q4), (21, .ref q5), (22, .int (nI (mFil G 2 n))), (23, .int (nI d))]) hx hb dL_law_1122 hl (k := 24) rfl (iinc1 _) (by decide) rfl (fun ls hl => ?_)
          refine lv_goto (tgt := 864) hx hb dL_law_1125 (by decide) ?_
          have e9 : moN V T (i + 1) = moN V T i := moN_f (fun z => absurd (ht.symm.trans z.1) (by decide))
          exact ih ls trivial (by show lv_has ls 28 [(0, .ref b), (1, .ref x), (2, .ref q0), (3, .int (nI t)), (4, .int xv), (5, .long dg), (7, .int (nI n)), (8, .ref y8), (9, .ref y9), (10, .ref y10), (11, .int (nI (mFil G 1 n))), (14, .int (nI N)), (15, .int (nI f)), (16, .int (nI (mRdyN G T f n))), (17, .ref q1), (18, .ref q2), (19, .ref q3), (20, .ref q4), (21, .ref q5), (22, .int (nI (mFil G 2 n))), (23, .int (nI d)), (24, .int (nI (moN V T (i + 1)))), (25, .int (nI (i + 1)))]; rw [e9]; exact lv_sub hl [4, 5, 6, 7, 8, 9, 10, 11, 12, 13, 14, 15, 16, 17, 18, 19, 20, 21, 22, 23, 24, 1, 0] rfl)
        · refine lv_aload_n hx hb dL_law_1000 rfl (lv_at hl 4 rfl) ?_
          refine lv_iload hx hb dL_law_1001 (lv_at hl 24 rfl) ?_
          refine c_pVi (rest := []) hC hE hP (lx_readFor l S (nI i) (xbag_n hra hi)) gc_RL_129 hd_X4_readFor ⟨rfl, rfl⟩ ⟨Nat.le_of_ble_eq_true rfl, Nat.le_of_ble_eq_true rfl⟩ 29 lw_29 rfl rfl hl.1 (Nat.le_of_ble_eq_true rfl) ⟨(by show cc ≤ 600130; omega), (by show ss ≤ 7301080; omega)⟩ dL_law_1003 ?_
          refine w_top (show rd 40 (S 8) (nI i) = T 3 i from (rd_40 (Nat.lt_of_lt_of_le hi hn)).trans (hrb.rdd i hi)) ?_
          refine lv_aload hx hb dL_law_1006 (lv_at hl 19 rfl) ?_
          refine lv_iload hx hb dL_law_1008 (lv_at hl 24 rfl) ?_
          refine k_iald (j := i) hx hb hE hP (64 + nf + n + (R.length + 2)) ((lw_Ri (i := 2)).trans rfl) hi (Nat.lt_of_le_of_lt hn (by decide)) dL_law_1010 ?_
          refine w_top (show (hd_ (V 3) n) i = V 3 i from hd_at hi) ?_
          refine lv_icmp_ne (tgt := 1120) hx hb dL_law_1011 (by decide) (fun c_ => absurd (s3 (fun z => c_145 (by rw [z]; decide))) c_) (fun c_150 => ?_)
          refine lv_aload_n hx hb dL_law_1014 rfl (lv_at hl 4 rfl) ?_
          refine lv_iload hx hb dL_law_1015 (lv_at hl 24 rfl) ?_
          refine c_pVi (rest := []) hC hE hP (lx_missesOf l S (nI i) (xbag_n hra hi)) gc_RL_126 hd_X4_missesOf ⟨rfl, rfl⟩ ⟨Nat.le_of_ble_eq_true rfl, Nat.le_of_ble_eq_true rfl⟩ 29 lw_29 rfl rfl hl.1 (Nat.le_of_ble_eq_true rfl) ⟨(by show cc ≤ 600130; omega), (by show ss ≤ 7301080; omega)⟩ dL_law_1017 ?_
          refine w_top (show rd 40 (S 9) (nI i) = T 4 i from (rd_40 (Nat.lt_of_lt_of_le hi hn)).trans (hrb.mis i hi)) ?_
          refine lv_aload hx hb dL_law_1020 (lv_at hl 20 rfl) ?_
          refine lv_iload hx hb dL_law_1022 (lv_at hl 24 rfl) ?_
          refine k_iald (j := i) hx hb hE hP (64 + nf + n + (R.length + 3)) ((lw_Ri (i := 3)).trans rfl) hi (Nat.lt_of_le_of_lt hn (by decide)) dL_law_1024 ?_
          refine w_top (show (hd_ (V 4) n) i = V 4 i from hd_at hi) ?_
          refine lv_icmp_lt (tgt := 1120) hx hb dL_law_1025 (by decide) (fun c_ => absurd c_ (Int32.not_lt.mpr s4)) (fun c_151 => ?_)
          refine lv_aload hx hb dL_law_1028 (lv_at hl 18 rfl) ?_
          refine lv_iload hx hb dL_law_1030 (lv_at hl 24 rfl) ?_
          refine k_iald (j := i) hx hb hE hP (64 + nf + n + (R.length + 1)) ((lw_Ri (i := 1)).trans rfl) hi (Nat.lt_of_le_of_lt hn (by decide)) dL_law_1032 ?_
          refine w_top (show (hd_ (V 1) n) i = 0 from (hd_at hi).trans hv) ?_
          refine lv_iconst (v := 1) hx hb dL_law_1033 (by decide) ?_
          refine lv_icmp_le (tgt := 1065) hx hb dL_law_1034 (by decide) (fun c_152 => ?_) (fun c_ => absurd (by decide) c_)
          refine lv_iload hx hb dL_law_1065 (lv_at hl 2 rfl) ?_
          refine lv_iconst (v := 2) hx hb dL_law_1067 (by decide) ?_
          refine lv_icmp_ne (tgt := 1095) hx hb dL_law_1068 (by decide) (fun c_153 => ?_) (fun c_ => absurd c_ (by decide))
          refine lv_iload hx hb dL_law_1095 (lv_at hl 2 rfl) ?_
          refine lv_iconst (v := 3) hx hb dL_law_1097 (by decide) ?_
          refine lv_icmp_ne (tgt := 1122) hx hb dL_law_1098 (by decide) (fun c_154 => ?_) (fun c_ => absurd c_ (by decide))
          refine lv_iinc (v := nI (i + 1)) (lv' := [(25, .int (nI (i + 1))), (24, .int (nI (moN V T i))), (27, .int 0), (26, .int 1), (0, .ref b), (1, .ref x), (2, .ref q0), (3, .int (nI t)), (4, .int xv), (5, .long dg), (7, .int (nI n)), (8, .ref y8), (9, .ref y9), (10, .ref y10), (11, .int (nI (mFil G 1 n))), (14, .int (nI N)), (15, .int (nI f)), (16, .int (nI (mRdyN G T f n))), (17, .ref q1), (18, .ref q2), (19, .ref q3), (20, .ref q4), (21, .ref q5), (22, .int (nI (mFil G 2 n))), (23, .int (nI d))]) hx hb dL_law_1122 hl (k := 24) rfl (iinc1 _) (by decide) rfl (fun ls hl => ?_)
          refine lv_goto (tgt := 864) hx hb dL_law_1125 (by decide) ?_
          have e9 : moN V T (i + 1) = moN V T i := moN_f (fun z => absurd (ht.symm.trans z.1) (by decide))
          exact ih ls trivial (by show lv_has ls 28 [(0, .ref b), (1, .ref x), (2, .ref q0), (3, .int (nI t)), (4, .int xv), (5, .long dg), (7, .int (nI n)), (8, .ref y8), (9, .ref y9), (10, .ref y10), (11, .int (nI (mFil G 1 n))), (14, .int (nI N)), (15, .int (nI f)), (16, .int (nI (mRdyN G T f n))), (17, .ref q1), (18, .ref q2), (19, .ref q3), (20, .ref q4), (21, .ref q5), (22, .int (nI (mFil G 2 n))), (23, .int (nI d)), (24, .int (nI (moN V T (i + 1)))), (25, .int (nI (i + 1)))]; rw [e9]; exact lv_sub hl [4, 5, 6, 7, 8, 9, 10, 11, 12, 13, 14, 15, 16, 17, 18, 19, 20, 21, 22, 23, 24, 1, 0] rfl)
      · refine lv_aload_n hx hb dL_law_871 rfl (lv_at hl 1 rfl) ?_
        refine lv_iload hx hb dL_law_872 (lv_at hl 22 rfl) ?_
        refine c_pVi (rest := []) hC hE hP (lx_whereIs l S (nI i) (xbag_n hra hi)) gc_RL_114 hd_X4_whereIs ⟨rfl, rfl⟩ ⟨Nat.le_of_ble_eq_true rfl, Nat.le_of_ble_eq_true rfl⟩ 29 lw_29 rfl rfl hl.1 (Nat.le_of_ble_eq_true rfl) ⟨(by show cc ≤ 600130; omega), (by show ss ≤ 7301080; omega)⟩ dL_law_874 ?_
        refine w_top (show rd 40 (S 6) (nI i) = T 1 i from (rd_40 (Nat.lt_of_lt_of_le hi hn)).trans (hrb.whr i hi)) ?_
        refine w_top (show T 1 i = 1 from ht) ?_
        refine lv_istore (lv' := [(26, .int 1), (0, .ref b), (1, .ref x), (2, .ref q0), (3, .int (nI t)), (4, .int xv), (5, .long dg), (7, .int (nI n)), (8, .ref y8), (9, .ref y9), (10, .ref y10), (11, .int (nI (mFil G 1 n))), (14, .int (nI N)), (15, .int (nI f)), (16, .int (nI (mRdyN G T f n))), (17, .ref q1), (18, .ref q2), (19, .ref q3), (20, .ref q4), (21, .ref q5), (22, .int (nI (mFil G 2 n))), (23, .int (nI d)), (24, .int (nI (moN V T i))), (25, .int (nI i))]) hx hb dL_law_877 hl (by decide) rfl (fun ls hl => ?_)
        refine lv_aload hx hb dL_law_879 (lv_at hl 15 rfl) ?_
        refine lv_iload hx hb dL_law_881 (lv_at hl 23 rfl) ?_
        refine k_iald (j := i) hx hb hE hP (64 + nf + n + (R.length + 0)) ((lw_Ri (i := 0)).trans rfl) hi (Nat.lt_of_le_of_lt hn (by decide)) dL_law_883 ?_
        refine w_top (show (hd_ (mUnA G V) n) i = mUnA G V i from hd_at hi) ?_
        refine lv_if_le (tgt := 901) hx hb dL_law_884 (by decide) (fun c_ => absurd c_ z9) (fun c_155 => ?_)
        refine lv_aload hx hb dL_law_887 (lv_at hl 15 rfl) ?_
        refine lv_iload hx hb dL_law_889 (lv_at hl 23 rfl) ?_
        refine k_iald (j := i) hx hb hE hP (64 + nf + n + (R.length + 0)) ((lw_Ri (i := 0)).trans rfl) hi (Nat.lt_of_le_of_lt hn (by decide)) dL_law_891 ?_
        refine w_top (show (hd_ (mUnA G V) n) i = mUnA G V i from hd_at hi) ?_
        refine lv_iload hx hb dL_law_892 (lv_at hl 12 rfl) ?_
        refine lv_icmp_gt (tgt := 901) hx hb dL_law_894 (by decide) (fun c_156 => ?_) (fun c_ => absurd (u4 (Or.inl hv) (by rw [ht]; decide) z9) c_)
        refine lv_iconst (v := 0) hx hb dL_law_901 (by decide) ?_
        refine lv_istore (lv' := [(27, .int 0), (26, .int 1), (0, .ref b), (1, .ref x), (2, .ref q0), (3, .int (nI t)), (4, .int xv), (5, .long dg), (7, .int (nI n)), (8, .ref y8), (9, .ref y9), (10, .ref y10), (11, .int (nI (mFil G 1 n))), (14, .int (nI N)), (15, .int (nI f)), (16, .int (nI (mRdyN G T f n))), (17, .ref q1), (18, .ref q2), (19, .ref q3), (20, .ref q4), (21, .ref q5), (22, .int (nI (mFil G 2 n))), (23, .int (nI d)), (24, .int (nI (moN V T i))), (25, .int (nI i))]) hx hb dL_law_902 hl (by decide) rfl (fun ls hl => ?_)
        refine lv_iload hx hb dL_law_904 (lv_at hl 23 rfl) ?_
        refine lv_iload hx hb dL_law_906 (lv_at hl 0 rfl) ?_
        refine lv_if_eq (tgt := 915) hx hb dL_law_908 (by decide) (fun c_157 => ?_) (fun c_ => absurd rfl c_)
        refine lv_iconst (v := 0) hx hb dL_law_915 (by decide) ?_
        refine lv_iadd hx hb dL_law_916 ?_
        refine w_top (show (nI (moN V T i)) + 0 = nI (moN V T i) from Int32.add_zero _) ?_
        refine lv_istore (lv' := [(24, .int (nI (moN V T i))), (27, .int 0), (26, .int 1), (0, .ref b), (1, .ref x), (2, .ref q0), (3, .int (nI t)), (4, .int xv), (5, .long dg), (7, .int (nI n)), (8, .ref y8), (9, .ref y9), (10, .ref y10), (11, .int (nI (mFil G 1 n))), (14, .int (nI N)), (15, .int (nI f)), (16, .int (nI (mRdyN G T f n))), (17, .ref q1), (18, .ref q2), (19, .ref q3), (20, .ref q4), (21, .ref q5), (22, .int (nI (mFil G 2 n))), (23, .int (nI d)), (25, .int (nI i))]) hx hb dL_law_917 hl (by decide) rfl (fun ls hl => ?_)
        refine lv_iload hx hb dL_law_919 (lv_at hl 1 rfl) ?_
        refine lv_iload hx hb dL_law_921 (lv_at hl 2 rfl) ?_
        refine lv_iconst (v := 2) hx hb dL_law_923 (by decide) ?_
        refine lv_icmp_ne (tgt := 940) hx hb dL_law_924 (by decide) (fun c_158 => ?_) (fun c_ => absurd c_ (by decide))
        refine lv_iconst (v := 0) hx hb dL_law_940 (by decide) ?_
        refine lv_icmp_ne (tgt := 990) hx hb dL_law_941 (by decide) (fun c_ => absurd rfl c_) (fun c_159 => ?_)
        refine lv_aload hx hb dL_law_944 (lv_at hl 18 rfl) ?_
        refine lv_iload hx hb dL_law_946 (lv_at hl 24 rfl) ?_
        refine k_iald (j := i) hx hb hE hP (64 + nf + n + (R.length + 1)) ((lw_Ri (i := 1)).trans rfl) hi (Nat.lt_of_le_of_lt hn (by decide)) dL_law_948 ?_
        refine w_top (show (hd_ (V 1) n) i = 0 from (hd_at hi).trans hv) ?_
        refine lv_iconst (v := 1) hx hb dL_law_949 (by decide) ?_
        refine lv_icmp_le (tgt := 963) hx hb dL_law_950 (by decide) (fun c_160 => ?_) (fun c_ => absurd (by decide) c_)
        refine lv_iload hx hb dL_law_963 (lv_at hl 2 rfl) ?_
        refine lv_if_ne (tgt := 976) hx hb dL_law_965 (by decide) (fun c_161 => ?_) (fun c_ => absurd c_ (by decide))
        refine lv_aload_n hx hb dL_law_976 rfl (lv_at hl 4 rfl) ?_
        refine lv_iload hx hb dL_law_977 (lv_at hl 24 rfl) ?_
        refine c_pVi (rest := []) hC hE hP (lx_hasOpenFile l S (nI i) (xbag_n hra hi)) gc_RL_133 hd_X4_hasOpenFile ⟨rfl, rfl⟩ ⟨Nat.le_of_ble_eq_true rfl, Nat.le_of_ble_eq_true rfl⟩ 29 lw_29 rfl rfl hl.1 (Nat.le_of_ble_eq_true rfl) ⟨(by show cc ≤ 600130; omega), (by show ss ≤ 7301080; omega)⟩ dL_law_979 ?_
        refine w_top (show bI (rd 40 (S 10) (nI i) = 1) = bI (G 7 i = 1) from bI_cong (by rw [rd_40 (Nat.lt_of_lt_of_le hi hn), hra.fil i hi])) ?_
        refine lv_aload hx hb dL_law_982 (lv_at hl 21 rfl) ?_
        refine lv_iload hx hb dL_law_984 (lv_at hl 24 rfl) ?_
        refine k_zald (j := i) hx hb hE hP (64 + nf + n + (R.length + 4)) ((lw_Ri (i := 4)).trans rfl) hi (Nat.lt_of_le_of_lt hn (by decide)) dL_law_986 ?_
        refine w_top (show (hd_ (opG G) n) i = bI (G 7 i = 1) from hd_at (g := opG G) hi) ?_
        refine lv_icmp_eq (tgt := 992) hx hb dL_law_987 (by decide) (fun c_162 => ?_) (fun c_ => absurd rfl c_)
        refine lv_aload hx hb dL_law_992 (lv_at hl 19 rfl) ?_
        refine lv_iload hx hb dL_law_994 (lv_at hl 24 rfl) ?_
        refine k_iald (j := i) hx hb hE hP (64 + nf + n + (R.length + 2)) ((lw_Ri (i := 2)).trans rfl) hi (Nat.lt_of_le_of_lt hn (by decide)) dL_law_996 ?_
        refine w_top (show (hd_ (V 3) n) i = V 3 i from hd_at hi) ?_
        refine lv_if_lt (tgt := 1014) hx hb dL_law_997 (by decide) (fun c_163 => ?_) (fun c_163 => ?_)
        · refine lv_aload_n hx hb dL_law_1014 rfl (lv_at hl 4 rfl) ?_
          refine lv_iload hx hb dL_law_1015 (lv_at hl 24 rfl) ?_
          refine c_pVi (rest := []) hC hE hP (lx_missesOf l S (nI i) (xbag_n hra hi)) gc_RL_126 hd_X4_missesOf ⟨rfl, rfl⟩ ⟨Nat.le_of_ble_eq_true rfl, Nat.le_of_ble_eq_true rfl⟩ 29 lw_29 rfl rfl hl.1 (Nat.le_of_ble_eq_true rfl) ⟨(by show cc ≤ 600130; omega), (by show ss ≤ 7301080; omega)⟩ dL_law_1017 ?_
          refine w_top (show rd 40 (S 9) (nI i) = T 4 i from (rd_40 (Nat.lt_of_lt_of_le hi hn)).trans (hrb.mis i hi)) ?_
          refine lv_aload hx hb dL_law_1020 (lv_at hl 20 rfl) ?_
          refine lv_iload hx hb dL_law_1022 (lv_at hl 24 rfl) ?_
          refine k_iald (j := i) hx hb hE hP (64 + nf + n + (R.length + 3)) ((lw_Ri (i := 3)).trans rfl) hi (Nat.lt_of_le_of_lt hn (by decide)) dL_law_1024 ?_
          refine w_top (show (hd_ (V 4) n) i = V 4 i from hd_at hi) ?_
          refine lv_icmp_lt (tgt := 1120) hx hb dL_law_1025 (by decide) (fun c_ => absurd c_ (Int32.not_lt.mpr s4)) (fun c_164 => ?_)
          refine lv_aload hx hb dL_law_1028 (lv_at hl 18 rfl) ?_
          refine lv_iload hx hb dL_law_1030 (lv_at hl 24 rfl) ?_
          refine k_iald (j := i) hx hb hE hP (64 + nf + n + (R.length + 1)) ((lw_Ri (i := 1)).trans rfl) hi (Nat.lt_of_le_of_lt hn (by decide)) dL_law_1032 ?_
          refine w_top (show (hd_ (V 1) n) i = 0 from (hd_at hi).trans hv) ?_
          refine lv_iconst (v := 1) hx hb dL_law_1033 (by decide) ?_
          refine lv_icmp_le (tgt := 1065) hx hb dL_law_1034 (by decide) (fun c_165 => ?_) (fun c_ => absurd (by decide) c_)
          refine lv_iload hx hb dL_law_1065 (lv_at hl 2 rfl) ?_
          refine lv_iconst (v := 2) hx hb dL_law_1067 (by decide) ?_
          refine lv_icmp_ne (tgt := 1095) hx hb dL_law_1068 (by decide) (fun c_166 => ?_) (fun c_ => absurd c_ (by decide))
          refine lv_iload hx hb dL_law_1095 (lv_at hl 2 rfl) ?_
          refine lv_iconst (v := 3) hx hb dL_law_1097 (by decide) ?_
          refine lv_icmp_ne (tgt := 1122) hx hb dL_law_1098 (by decide) (fun c_167 => ?_) (fun c_ => absurd c_ (by decide))
          refine lv_iinc (v := nI (i + 1)) (lv' := [(25, .int (nI (i + 1))), (24, .int (nI (moN V T i))), (27, .int 0), (26, .int 1), (0, .ref b), (1, .ref x), (2, .ref q0), (3, .int (nI t)), (4, .int xv), (5, .long dg), (7, .int (nI n)), (8, .ref y8), (9, .ref y9), (10, .ref y10), (11, .int (nI (mFil G 1 n))), (14, .int (nI N)), (15, .int (nI f)), (16, .int (nI (mRdyN G T f n))), (17, .ref q1), (18, .ref q2), (19, .ref q3), (20, .ref q4), (21, .ref q5), (22, .int (nI (mFil G 2 n))), (23, .int (nI d))]) hx hb dL_law_1122 hl (k := 24) rfl (iinc1 _) (by decide) rfl (fun ls hl => ?_)
          refine lv_goto (tgt := 864) hx hb dL_law_1125 (by decide) ?_
          have e9 : moN V T (i + 1) = moN V T i := moN_f (fun z => absurd (ht.symm.trans z.1) (by decide))
          exact ih ls trivial (by show lv_has ls 28 [(0, .ref b), (1, .ref x), (2, .ref q0), (3, .int (nI t)), (4, .int xv), (5, .long dg), (7, .int (nI n)), (8, .ref y8), (9, .ref y9), (10, .ref y10), (11, .int (nI (mFil G 1 n))), (14, .int (nI N)), (15, .int (nI f)), (16, .int (nI (mRdyN G T f n))), (17, .ref q1), (18, .ref q2), (19, .ref q3), (20, .ref q4), (21, .ref q5), (22, .int (nI (mFil G 2 n))), (23, .int (nI d)), (24, .int (nI (moN V T (i + 1)))), (25, .int (nI (i + 1)))]; rw [e9]; exact lv_sub hl [4, 5, 6, 7, 8, 9, 10, 11, 12, 13, 14, 15, 16, 17, 18, 19, 20, 21, 22, 23, 24, 1, 0] rfl)
        · refine lv_aload_n hx hb dL_law_1000 rfl (lv_at hl 4 rfl) ?_
          refine lv_iload hx hb dL_law_1001 (lv_at hl 24 rfl) ?_
          refine c_pVi (rest := []) hC hE hP (lx_readFor l S (nI i) (xbag_n hra hi)) gc_RL_129 hd_X4_readFor ⟨rfl, rfl⟩ ⟨Nat.le_of_ble_eq_true rfl, Nat.le_of_ble_eq_true rfl⟩ 29 lw_29 rfl rfl hl.1 (Nat.le_of_ble_eq_true rfl) ⟨(by show cc ≤ 600130; omega), (by show ss ≤ 7301080; omega)⟩ dL_law_1003 ?_
          refine w_top (show rd 40 (S 8) (nI i) = T 3 i from (rd_40 (Nat.lt_of_lt_of_le hi hn)).trans (hrb.rdd i hi)) ?_
          refine lv_aload hx hb dL_law_1006 (lv_at hl 19 rfl) ?_
          refine lv_iload hx hb dL_law_1008 (lv_at hl 24 rfl) ?_
          refine k_iald (j := i) hx hb hE hP (64 + nf + n + (R.length + 2)) ((lw_Ri (i := 2)).trans rfl) hi (Nat.lt_of_le_of_lt hn (by decide)) dL_law_1010 ?_
          refine w_top (show (hd_ (V 3) n) i = V 3 i from hd_at hi) ?_
          refine lv_icmp_ne (tgt := 1120) hx hb dL_law_1011 (by decide) (fun c_ => absurd (s3 (fun z => c_163 (by rw [z]; decide))) c_) (fun c_168 => ?_)
          refine lv_aload_n hx hb dL_law_1014 rfl (lv_at hl 4 rfl) ?_
          refine lv_iload hx hb dL_law_1015 (lv_at hl 24 rfl) ?_
          refine c_pVi (rest := []) hC hE hP (lx_missesOf l S (nI i) (xbag_n hra hi)) gc_RL_126 hd_X4_missesOf ⟨rfl, rfl⟩ ⟨Nat.le_of_ble_eq_true rfl, Nat.le_of_ble_eq_true rfl⟩ 29 lw_29 rfl rfl hl.1 (Nat.le_of_ble_eq_true rfl) ⟨(by show cc ≤ 600130; omega), (by show ss ≤ 7301080; omega)⟩ dL_law_1017 ?_
          refine w_top (show rd 40 (S 9) (nI i) = T 4 i from (rd_40 (Nat.lt_of_lt_of_le hi hn)).trans (hrb.mis i hi)) ?_
          refine lv_aload hx hb dL_law_1020 (lv_at hl 20 rfl) ?_
          refine lv_iload hx hb dL_law_1022 (lv_at hl 24 rfl) ?_
          refine k_iald (j := i) hx hb hE hP (64 + nf + n + (R.length + 3)) ((lw_Ri (i := 3)).trans rfl) hi (Nat.lt_of_le_of_lt hn (by decide)) dL_law_1024 ?_
          refine w_top (show (hd_ (V 4) n) i = V 4 i from hd_at hi) ?_
          refine lv_icmp_lt (tgt := 1120) hx hb dL_law_1025 (by decide) (fun c_ => absurd c_ (Int32.not_lt.mpr s4)) (fun c_169 => ?_)
          refine lv_aload hx hb dL_law_1028 (lv_at hl 18 rfl) ?_
          refine lv_iload hx hb dL_law_1030 (lv_at hl 24 rfl) ?_
          refine k_iald (j := i) hx hb hE hP (64 + nf + n + (R.length + 1)) ((lw_Ri (i := 1)).trans rfl) hi (Nat.lt_of_le_of_lt hn (by decide)) dL_law_1032 ?_
          refine w_top (show (hd_ (V 1) n) i = 0 from (hd_at hi).trans hv) ?_
          refine lv_iconst (v := 1) hx hb dL_law_1033 (by decide) ?_
          refine lv_icmp_le (tgt := 1065) hx hb dL_law_1034 (by decide) (fun c_170 => ?_) (fun c_ => absurd (by decide) c_)
          refine lv_iload hx hb dL_law_1065 (lv_at hl 2 rfl) ?_
          refine lv_iconst (v := 2) hx hb dL_law_1067 (by decide) ?_
          refine lv_icmp_ne (tgt := 1095) hx hb dL_law_1068 (by decide) (fun c_171 => ?_) (fun c_ => absurd c_ (by decide))
          refine lv_iload hx hb dL_law_1095 (lv_at hl 2 rfl) ?_
          refine lv_iconst (v := 3) hx hb dL_law_1097 (by decide) ?_
          refine lv_icmp_ne (tgt := 1122) hx hb dL_law_1098 (by decide) (fun c_172 => ?_) (fun c_ => absurd c_ (by decide))
          refine lv_iinc (v := nI (i + 1)) (lv' := [(25, .int (nI (i + 1))), (24, .int (nI (moN V T i))), (27, .int 0), (26, .int 1), (0, .ref b), (1, .ref x), (2, .ref q0), (3, .int (nI t)), (4, .int xv), (5, .long dg), (7, .int (nI n)), (8, .ref y8), (9, .ref y9), (10, .ref y10), (11, .int (nI (mFil G 1 n))), (14, .int (nI N)), (15, .int (nI f)), (16, .int (nI (mRdyN G T f n))), (17, .ref q1), (18, .ref q2), (19, .ref q3), (20, .ref q4), (21, .ref q5), (22, .int (nI (mFil G 2 n))), (23, .int (nI d))]) hx hb dL_law_1122 hl (k := 24) rfl (iinc1 _) (by decide) rfl (fun ls hl => ?_)
          refine lv_goto (tgt := 864) hx hb dL_law_1125 (by decide) ?_
          have e9 : moN V T (i + 1) = moN V T i := moN_f (fun z => absurd (ht.symm.trans z.1) (by decide))
          exact ih ls trivial (by show lv_has ls 28 [(0, .ref b), (1, .ref x), (2, .ref q0), (3, .int (nI t)), (4, .int xv), (5, .long dg), (7, .int (nI n)), (8, .ref y8), (9, .ref y9), (10, .ref y10), (11, .int (nI (mFil G 1 n))), (14, .int (nI N)), (15, .int (nI f)), (16, .int (nI (mRdyN G T f n))), (17, .ref q1), (18, .ref q2), (19, .ref q3), (20, .ref q4), (21, .ref q5), (22, .int (nI (mFil G 2 n))), (23, .int (nI d)), (24, .int (nI (moN V T (i + 1)))), (25, .int (nI (i + 1)))]; rw [e9]; exact lv_sub hl [4, 5, 6, 7, 8, 9, 10, 11, 12, 13, 14, 15, 16, 17, 18, 19, 20, 21, 22, 23, 24, 1, 0] rfl)
    · obtain ⟨p1, p2⟩ := u3 (Or.inl hv) ht
      refine lv_aload_n hx hb dL_law_871 rfl (lv_at hl 1 rfl) ?_
      refine lv_iload hx hb dL_law_872 (lv_at hl 22 rfl) ?_
      refine c_pVi (rest := []) hC hE hP (lx_whereIs l S (nI i) (xbag_n hra hi)) gc_RL_114 hd_X4_whereIs ⟨rfl, rfl⟩ ⟨Nat.le_of_ble_eq_true rfl, Nat.le_of_ble_eq_true rfl⟩ 29 lw_29 rfl rfl hl.1 (Nat.le_of_ble_eq_true rfl) ⟨(by show cc ≤ 600130; omega), (by show ss ≤ 7301080; omega)⟩ dL_law_874 ?_
      refine w_top (show rd 40 (S 6) (nI i) = T 1 i from (rd_40 (Nat.lt_of_lt_of_le hi hn)).trans (hrb.whr i hi)) ?_
      refine w_top (show T 1 i = 2 from ht) ?_
      refine lv_istore (lv' := [(26, .int 2), (0, .ref b), (1, .ref x), (2, .ref q0), (3, .int (nI t)), (4, .int xv), (5, .long dg), (7, .int (nI n)), (8, .ref y8), (9, .ref y9), (10, .ref y10), (11, .int (nI (mFil G 1 n))), (14, .int (nI N)), (15, .int (nI f)), (16, .int (nI (mRdyN G T f n))), (17, .ref q1), (18, .ref q2), (19, .ref q3), (20, .ref q4), (21, .ref q5), (22, .int (nI (mFil G 2 n))), (23, .int (nI d)), (24, .int (nI (moN V T i))), (25, .int (nI i))]) hx hb dL_law_877 hl (by decide) rfl (fun ls hl => ?_)
      refine lv_aload hx hb dL_law_879 (lv_at hl 15 rfl) ?_
      refine lv_iload hx hb dL_law_881 (lv_at hl 23 rfl) ?_
      refine k_iald (j := i) hx hb hE hP (64 + nf + n + (R.length + 0)) ((lw_Ri (i := 0)).trans rfl) hi (Nat.lt_of_le_of_lt hn (by decide)) dL_law_883 ?_
      refine w_top (show (hd_ (mUnA G V) n) i = mUnA G V i from hd_at hi) ?_
      refine lv_if_le (tgt := 901) hx hb dL_law_884 (by decide) (fun c_ => absurd c_ p1) (fun c_173 => ?_)
      refine lv_aload hx hb dL_law_887 (lv_at hl 15 rfl) ?_
      refine lv_iload hx hb dL_law_889 (lv_at hl 23 rfl) ?_
      refine k_iald (j := i) hx hb hE hP (64 + nf + n + (R.length + 0)) ((lw_Ri (i := 0)).trans rfl) hi (Nat.lt_of_le_of_lt hn (by decide)) dL_law_891 ?_
      refine w_top (show (hd_ (mUnA G V) n) i = mUnA G V i from hd_at hi) ?_
      refine lv_iload hx hb dL_law_892 (lv_at hl 12 rfl) ?_
      refine lv_icmp_gt (tgt := 901) hx hb dL_law_894 (by decide) (fun c_ => absurd c_ p2) (fun c_174 => ?_)
      refine lv_iconst (v := 1) hx hb dL_law_897 (by decide) ?_
      refine lv_goto (tgt := 902) hx hb dL_law_898 (by decide) ?_
      refine lv_istore (lv' := [(27, .int 1), (26, .int 2), (0, .ref b), (1, .ref x), (2, .ref q0), (3, .int (nI t)), (4, .int xv), (5, .long dg), (7, .int (nI n)), (8, .ref y8), (9, .ref y9), (10, .ref y10), (11, .int (nI (mFil G 1 n))), (14, .int (nI N)), (15, .int (nI f)), (16, .int (nI (mRdyN G T f n))), (17, .ref q1), (18, .ref q2), (19, .ref q3), (20, .ref q4), (21, .ref q5), (22, .int (nI (mFil G 2 n))), (23, .int (nI d)), (24, .int (nI (moN V T i))), (25, .int (nI i))]) hx hb dL_law_902 hl (by decide) rfl (fun ls hl => ?_)
      refine lv_iload hx hb dL_law_904 (lv_at hl 23 rfl) ?_
      refine lv_iload hx hb dL_law_906 (lv_at hl 0 rfl) ?_
      refine lv_if_eq (tgt := 915) hx hb dL_law_908 (by decide) (fun c_ => absurd c_ (by decide)) (fun c_175 => ?_)
      refine lv_iconst (v := 1) hx hb dL_law_911 (by decide) ?_
      refine lv_goto (tgt := 916) hx hb dL_law_912 (by decide) ?_
      refine lv_iadd hx hb dL_law_916 ?_
      refine w_top (show (nI (moN V T i)) + 1 = nI (moN V T i + 1) from nI_1 _) ?_
      refine lv_istore (lv' := [(24, .int (nI (moN V T i + 1))), (27, .int 1), (26, .int 2), (0, .ref b), (1, .ref x), (2, .ref q0), (3, .int (nI t)), (4, .int xv), (5, .long dg), (7, .int (nI n)), (8, .ref y8), (9, .ref y9), (10, .ref y10), (11, .int (nI (mFil G 1 n))), (14, .int (nI N)), (15, .int (nI f)), (16, .int (nI (mRdyN G T f n))), (17, .ref q1), (18, .ref q2), (19, .ref q3), (20, .ref q4), (21, .ref q5), (22, .int (nI (mFil G 2 n))), (23, .int (nI d)), (25, .int (nI i))]) hx hb dL_law_917 hl (by decide) rfl (fun ls hl => ?_)
      refine lv_iload hx hb dL_law_919 (lv_at hl 1 rfl) ?_
      refine lv_iload hx hb dL_law_921 (lv_at hl 2 rfl) ?_
      refine lv_iconst (v := 2) hx hb dL_law_923 (by decide) ?_
      refine lv_icmp_ne (tgt := 940) hx hb dL_law_924 (by decide) (fun c_ => absurd rfl c_) (fun c_176 => ?_)
      refine lv_aload hx hb dL_law_927 (lv_at hl 18 rfl) ?_
      refine lv_iload hx hb dL_law_929 (lv_at hl 24 rfl) ?_
      refine k_iald (j := i) hx hb hE hP (64 + nf + n + (R.length + 1)) ((lw_Ri (i := 1)).trans rfl) hi (Nat.lt_of_le_of_lt hn (by decide)) dL_law_931 ?_
      refine w_top (show (hd_ (V 1) n) i = 0 from (hd_at hi).trans hv) ?_
      refine lv_iconst (v := 2) hx hb dL_law_932 (by decide) ?_
      refine lv_icmp_eq (tgt := 940) hx hb dL_law_933 (by decide) (fun c_ => absurd c_ (by decide)) (fun c_177 => ?_)
      refine lv_iconst (v := 1) hx hb dL_law_936 (by decide) ?_
      refine lv_goto (tgt := 941) hx hb dL_law_937 (by decide) ?_
      refine lv_icmp_ne (tgt := 990) hx hb dL_law_941 (by decide) (fun c_ => absurd rfl c_) (fun c_178 => ?_)
      refine lv_aload hx hb dL_law_944 (lv_at hl 18 rfl) ?_
      refine lv_iload hx hb dL_law_946 (lv_at hl 24 rfl) ?_
      refine k_iald (j := i) hx hb hE hP (64 + nf + n + (R.length + 1)) ((lw_Ri (i := 1)).trans rfl) hi (Nat.lt_of_le_of_lt hn (by decide)) dL_law_948 ?_
      refine w_top (show (hd_ (V 1) n) i = 0 from (hd_at hi).trans hv) ?_
      refine lv_iconst (v := 1) hx hb dL_law_949 (by decide) ?_
      refine lv_icmp_le (tgt := 963) hx hb dL_law_950 (by decide) (fun c_179 => ?_) (fun c_ => absurd (by decide) c_)
      refine lv_iload hx hb dL_law_963 (lv_at hl 2 rfl) ?_
      refine lv_if_ne (tgt := 976) hx hb dL_law_965 (by decide) (fun c_180 => ?_) (fun c_ => absurd c_ (by decide))
      refine lv_aload_n hx hb dL_law_976 rfl (lv_at hl 4 rfl) ?_
      refine lv_iload hx hb dL_law_977 (lv_at hl 24 rfl) ?_
      refine c_pVi (rest := []) hC hE hP (lx_hasOpenFile l S (nI i) (xbag_n hra hi)) gc_RL_133 hd_X4_hasOpenFile ⟨rfl, rfl⟩ ⟨Nat.le_of_ble_eq_true rfl, Nat.le_of_ble_eq_true rfl⟩ 29 lw_29 rfl rfl hl.1 (Nat.le_of_ble_eq_true rfl) ⟨(by show cc ≤ 600130; omega), (by show ss ≤ 7301080; omega)⟩ dL_law_979 ?_
      refine w_top (show bI (rd 40 (S 10) (nI i) = 1) = bI (G 7 i = 1) from bI_cong (by rw [rd_40 (Nat.lt_of_lt_of_le hi hn), hra.fil i hi])) ?_
      refine lv_aload hx hb dL_law_982 (lv_at hl 21 rfl) ?_
      refine lv_iload hx hb dL_law_984 (lv_at hl 24 rfl) ?_
      refine k_zald (j := i) hx hb hE hP (64 + nf + n + (R.length + 4)) ((lw_Ri (i := 4)).trans rfl) hi (Nat.lt_of_le_of_lt hn (by decide)) dL_law_986 ?_
      refine w_top (show (hd_ (opG G) n) i = bI (G 7 i = 1) from hd_at (g := opG G) hi) ?_
      refine lv_icmp_eq (tgt := 992) hx hb dL_law_987 (by decide) (fun c_181 => ?_) (fun c_ => absurd rfl c_)
      refine lv_aload hx hb dL_law_992 (lv_at hl 19 rfl) ?_
      refine lv_iload hx hb dL_law_994 (lv_at hl 24 rfl) ?_
      refine k_iald (j := i) hx hb hE hP (64 + nf + n + (R.length + 2)) ((lw_Ri (i := 2)).trans rfl) hi (Nat.lt_of_le_of_lt hn (by decide)) dL_law_996 ?_
      refine w_top (show (hd_ (V 3) n) i = V 3 i from hd_at hi) ?_
      refine lv_if_lt (tgt := 1014) hx hb dL_law_997 (by decide) (fun c_182 => ?_) (fun c_182 => ?_)
      · refine lv_aload_n hx hb dL_law_1014 rfl (lv_at hl 4 rfl) ?_
        refine lv_iload hx hb dL_law_1015 (lv_at hl 24 rfl) ?_
        refine c_pVi (rest := []) hC hE hP (lx_missesOf l S (nI i) (xbag_n hra hi)) gc_RL_126 hd_X4_missesOf ⟨rfl, rfl⟩ ⟨Nat.le_of_ble_eq_true rfl, Nat.le_of_ble_eq_true rfl⟩ 29 lw_29 rfl rfl hl.1 (Nat.le_of_ble_eq_true rfl) ⟨(by show cc ≤ 600130; omega), (by show ss ≤ 7301080; omega)⟩ dL_law_1017 ?_
        refine w_top (show rd 40 (S 9) (nI i) = T 4 i from (rd_40 (Nat.lt_of_lt_of_le hi hn)).trans (hrb.mis i hi)) ?_
        refine lv_aload hx hb dL_law_1020 (lv_at hl 20 rfl) ?_
        refine lv_iload hx hb dL_law_1022 (lv_at hl 24 rfl) ?_
        refine k_iald (j := i) hx hb hE hP (64 + nf + n + (R.length + 3)) ((lw_Ri (i := 3)).trans rfl) hi (Nat.lt_of_le_of_lt hn (by decide)) dL_law_1024 ?_
        refine w_top (show (hd_ (V 4) n) i = V 4 i from hd_at hi) ?_
        refine lv_icmp_lt (tgt := 1120) hx hb dL_law_1025 (by decide) (fun c_ => absurd c_ (Int32.not_lt.mpr s4)) (fun c_183 => ?_)
        refine lv_aload hx hb dL_law_1028 (lv_at hl 18 rfl) ?_
        refine lv_iload hx hb dL_law_1030 (lv_at hl 24 rfl) ?_
        refine k_iald (j := i) hx hb hE hP (64 + nf + n + (R.length + 1)) ((lw_Ri (i := 1)).trans rfl) hi (Nat.lt_of_le_of_lt hn (by decide)) dL_law_1032 ?_
        refine w_top (show (hd_ (V 1) n) i = 0 from (hd_at hi).trans hv) ?_
        refine lv_iconst (v := 1) hx hb dL_law_1033 (by decide) ?_
        refine lv_icmp_le (tgt := 1065) hx hb dL_law_1034 (by decide) (fun c_184 => ?_) (fun c_ => absurd (by decide) c_)
        refine lv_iload hx hb dL_law_1065 (lv_at hl 2 rfl) ?_
        refine lv_iconst (v := 2) hx hb dL_law_1067 (by decide) ?_
        refine lv_icmp_ne (tgt := 1095) hx hb dL_law_1068 (by decide) (fun c_ => absurd rfl c_) (fun c_185 => ?_)
        refine lv_aload hx hb dL_law_1071 (lv_at hl 18 rfl) ?_
        refine lv_iload hx hb dL_law_1073 (lv_at hl 24 rfl) ?_
        refine k_iald (j := i) hx hb hE hP (64 + nf + n + (R.length + 1)) ((lw_Ri (i := 1)).trans rfl) hi (Nat.lt_of_le_of_lt hn (by decide)) dL_law_1075 ?_
        refine w_top (show (hd_ (V 1) n) i = 0 from (hd_at hi).trans hv) ?_
        refine lv_iconst (v := 2) hx hb dL_law_1076 (by decide) ?_
        refine lv_icmp_ge (tgt := 1095) hx hb dL_law_1077 (by decide) (fun c_ => absurd c_ (by decide)) (fun c_186 => ?_)
        refine lv_aload_n hx hb dL_law_1080 rfl (lv_at hl 4 rfl) ?_
        refine lv_iload hx hb dL_law_1081 (lv_at hl 24 rfl) ?_
        refine c_pVi (rest := []) hC hE hP (lx_chuteOf l S (nI i) (xbag_n hra hi)) gc_RL_120 hd_X4_chuteOf ⟨rfl, rfl⟩ ⟨Nat.le_of_ble_eq_true rfl, Nat.le_of_ble_eq_true rfl⟩ 29 lw_29 rfl rfl hl.1 (Nat.le_of_ble_eq_true rfl) ⟨(by show cc ≤ 600130; omega), (by show ss ≤ 7301080; omega)⟩ dL_law_1083 ?_
        refine w_top (show rd 40 (S 7) (nI i) = mPl T i 2 from (rd_40 (Nat.lt_of_lt_of_le hi hn)).trans (chute_eq hrb hi)) ?_
        refine w_top (show mPl T i 2 = T 2 i from sel_t ht _ _) ?_
        refine lv_aload_n hx hb dL_law_1086 rfl (lv_at hl 4 rfl) ?_
        refine lv_iload hx hb dL_law_1087 (lv_at hl 24 rfl) ?_
        refine c_pVi (rest := [.int (T 2 i)]) hC hE hP (lx_readFor l S (nI i) (xbag_n hra hi)) gc_RL_129 hd_X4_readFor ⟨rfl, rfl⟩ ⟨Nat.le_of_ble_eq_true rfl, Nat.le_of_ble_eq_true rfl⟩ 29 lw_29 rfl rfl hl.1 (Nat.le_of_ble_eq_true rfl) ⟨(by show cc ≤ 600130; omega), (by show ss ≤ 7301080; omega)⟩ dL_law_1089 ?_
        refine w_top (show rd 40 (S 8) (nI i) = T 3 i from (rd_40 (Nat.lt_of_lt_of_le hi hn)).trans (hrb.rdd i hi)) ?_
        refine lv_icmp_ne (tgt := 1120) hx hb dL_law_1092 (by decide) (fun c_ => absurd (s5 (Or.inl hv) ht) c_) (fun c_187 => ?_)
        refine lv_iload hx hb dL_law_1095 (lv_at hl 2 rfl) ?_
        refine lv_iconst (v := 3) hx hb dL_law_1097 (by decide) ?_
        refine lv_icmp_ne (tgt := 1122) hx hb dL_law_1098 (by decide) (fun c_188 => ?_) (fun c_ => absurd c_ (by decide))
        refine lv_iinc (v := nI (i + 1)) (lv' := [(25, .int (nI (i + 1))), (24, .int (nI (moN V T i + 1))), (27, .int 1), (26, .int 2), (0, .ref b), (1, .ref x), (2, .ref q0), (3, .int (nI t)), (4, .int xv), (5, .long dg), (7, .int (nI n)), (8, .ref y8), (9, .ref y9), (10, .ref y10), (11, .int (nI (mFil G 1 n))), (14, .int (nI N)), (15, .int (nI f)), (16, .int (nI (mRdyN G T f n))), (17, .ref q1), (18, .ref q2), (19, .ref q3), (20, .ref q4), (21, .ref q5), (22, .int (nI (mFil G 2 n))), (23, .int (nI d))]) hx hb dL_law_1122 hl (k := 24) rfl (iinc1 _) (by decide) rfl (fun ls hl => ?_)
        refine lv_goto (tgt := 864) hx hb dL_law_1125 (by decide) ?_
        have e9 : moN V T (i + 1) = moN V T i + 1 := moN_t ht (by rw [hv]; decide)
        exact ih ls trivial (by show lv_has ls 28 [(0, .ref b), (1, .ref x), (2, .ref q0), (3, .int (nI t)), (4, .int xv), (5, .long dg), (7, .int (nI n)), (8, .ref y8), (9, .ref y9), (10, .ref y10), (11, .int (nI (mFil G 1 n))), (14, .int (nI N)), (15, .int (nI f)), (16, .int (nI (mRdyN G T f n))), (17, .ref q1), (18, .ref q2), (19, .ref q3), (20, .ref q4), (21, .ref q5), (22, .int (nI (mFil G 2 n))), (23, .int (nI d)), (24, .int (nI (moN V T (i + 1)))), (25, .int (nI (i + 1)))]; rw [e9]; exact lv_sub hl [4, 5, 6, 7, 8, 9, 10, 11, 12, 13, 14, 15, 16, 17, 18, 19, 20, 21, 22, 23, 24, 1, 0] rfl)
      · refine lv_aload_n hx hb dL_law_1000 rfl (lv_at hl 4 rfl) ?_
        refine lv_iload hx hb dL_law_1001 (lv_at hl 24 rfl) ?_
        refine c_pVi (rest := []) hC hE hP (lx_readFor l S (nI i) (xbag_n hra hi)) gc_RL_129 hd_X4_readFor ⟨rfl, rfl⟩ ⟨Nat.le_of_ble_eq_true rfl, Nat.le_of_ble_eq_true rfl⟩ 29 lw_29 rfl rfl hl.1 (Nat.le_of_ble_eq_true rfl) ⟨(by show cc ≤ 600130; omega), (by show ss ≤ 7301080; omega)⟩ dL_law_1003 ?_
        refine w_top (show rd 40 (S 8) (nI i) = T 3 i from (rd_40 (Nat.lt_of_lt_of_le hi hn)).trans (hrb.rdd i hi)) ?_
        refine lv_aload hx hb dL_law_1006 (lv_at hl 19 rfl) ?_
        refine lv_iload hx hb dL_law_1008 (lv_at hl 24 rfl) ?_
        refine k_iald (j := i) hx hb hE hP (64 + nf + n + (R.length + 2)) ((lw_Ri (i := 2)).trans rfl) hi (Nat.lt_of_le_of_lt hn (by decide)) dL_law_1010 ?_
        refine w_top (show (hd_ (V 3) n) i = V 3 i from hd_at hi) ?_
        refine lv_icmp_ne (tgt := 1120) hx hb dL_law_1011 (by decide) (fun c_ => absurd (s3 (fun z => c_182 (by rw [z]; decide))) c_) (fun c_189 => ?_)
        refine lv_aload_n hx hb dL_law_1014 rfl (lv_at hl 4 rfl) ?_
        refine lv_iload hx hb dL_law_1015 (lv_at hl 24 rfl) ?_
        refine c_pVi (rest := []) hC hE hP (lx_missesOf l S (nI i) (xbag_n hra hi)) gc_RL_126 hd_X4_missesOf ⟨rfl, rfl⟩ ⟨Nat.le_of_ble_eq_true rfl, Nat.le_of_ble_eq_true rfl⟩ 29 lw_29 rfl rfl hl.1 (Nat.le_of_ble_eq_true rfl) ⟨(by show cc ≤ 600130; omega), (by show ss ≤ 7301080; omega)⟩ dL_law_1017 ?_
        refine w_top (show rd 40 (S 9) (nI i) = T 4 i from (rd_40 (Nat.lt_of_lt_of_le hi hn)).trans (hrb.mis i hi)) ?_
        refine lv_aload hx hb dL_law_1020 (lv_at hl 20 rfl) ?_
        refine lv_iload hx hb dL_law_1022 (lv_at hl 24 rfl) ?_
        refine k_iald (j := i) hx hb hE hP (64 + nf + n + (R.length + 3)) ((lw_Ri (i := 3)).trans rfl) hi (Nat.lt_of_le_of_lt hn (by decide)) dL_law_1024 ?_
        refine w_top (show (hd_ (V 4) n) i = V 4 i from hd_at hi) ?_
        refine lv_icmp_lt (tgt := 1120) hx hb dL_law_1025 (by decide) (fun c_ => absurd c_ (Int32.not_lt.mpr s4)) (fun c_190 => ?_)
        refine lv_aload hx hb dL_law_1028 (lv_at hl 18 rfl) ?_
        refine lv_iload hx hb dL_law_1030 (lv_at hl 24 rfl) ?_
        refine k_iald (j := i) hx hb hE hP (64 + nf + n + (R.length + 1)) ((lw_Ri (i := 1)).trans rfl) hi (Nat.lt_of_le_of_lt hn (by decide)) dL_law_1032 ?_
        refine w_top (show (hd_ (V 1) n) i = 0 from (hd_at hi).trans hv) ?_
        refine lv_iconst (v := 1) hx hb dL_law_1033 (by decide) ?_
        refine lv_icmp_le (tgt := 1065) hx hb dL_law_1034 (by decide) (fun c_191 => ?_) (fun c_ => absurd (by decide) c_)
        refine lv_iload hx hb dL_law_1065 (lv_at hl 2 rfl) ?_
        refine lv_iconst (v := 2) hx hb dL_law_1067 (by decide) ?_
        refine lv_icmp_ne (tgt := 1095) hx hb dL_law_1068 (by decide) (fun c_ => absurd rfl c_) (fun c_192 => ?_)
        refine lv_aload hx hb dL_law_1071 (lv_at hl 18 rfl) ?_
        refine lv_iload hx hb dL_law_1073 (lv_at hl 24 rfl) ?_
        refine k_iald (j := i) hx hb hE hP (64 + nf + n + (R.length + 1)) ((lw_Ri (i := 1)).trans rfl) hi (Nat.lt_of_le_of_lt hn (by decide)) dL_law_1075 ?_
        refine w_top (show (hd_ (V 1) n) i = 0 from (hd_at hi).trans hv) ?_
        refine lv_iconst (v := 2) hx hb dL_law_1076 (by decide) ?_
        refine lv_icmp_ge (tgt := 1095) hx hb dL_law_1077 (by decide) (fun c_ => absurd c_ (by decide)) (fun c_193 => ?_)
        refine lv_aload_n hx hb dL_law_1080 rfl (lv_at hl 4 rfl) ?_
        refine lv_iload hx hb dL_law_1081 (lv_at hl 24 rfl) ?_
        refine c_pVi (rest := []) hC hE hP (lx_chuteOf l S (nI i) (xbag_n hra hi)) gc_RL_120 hd_X4_chuteOf ⟨rfl, rfl⟩ ⟨Nat.le_of_ble_eq_true rfl, Nat.le_of_ble_eq_true rfl⟩ 29 lw_29 rfl rfl hl.1 (Nat.le_of_ble_eq_true rfl) ⟨(by show cc ≤ 600130; omega), (by show ss ≤ 7301080; omega)⟩ dL_law_1083 ?_
        refine w_top (show rd 40 (S 7) (nI i) = mPl T i 2 from (rd_40 (Nat.lt_of_lt_of_le hi hn)).trans (chute_eq hrb hi)) ?_
        refine w_top (show mPl T i 2 = T 2 i from sel_t ht _ _) ?_
        refine lv_aload_n hx hb dL_law_1086 rfl (lv_at hl 4 rfl) ?_
        refine lv_iload hx hb dL_law_1087 (lv_at hl 24 rfl) ?_
        refine c_pVi (rest := [.int (T 2 i)]) hC hE hP (lx_readFor l S (nI i) (xbag_n hra hi)) gc_RL_129 hd_X4_readFor ⟨rfl, rfl⟩ ⟨Nat.le_of_ble_eq_true rfl, Nat.le_of_ble_eq_true rfl⟩ 29 lw_29 rfl rfl hl.1 (Nat.le_of_ble_eq_true rfl) ⟨(by show cc ≤ 600130; omega), (by show ss ≤ 7301080; omega)⟩ dL_law_1089 ?_
        refine w_top (show rd 40 (S 8) (nI i) = T 3 i from (rd_40 (Nat.lt_of_lt_of_le hi hn)).trans (hrb.rdd i hi)) ?_
        refine lv_icmp_ne (tgt := 1120) hx hb dL_law_1092 (by decide) (fun c_ => absurd (s5 (Or.inl hv) ht) c_) (fun c_194 => ?_)
        refine lv_iload hx hb dL_law_1095 (lv_at hl 2 rfl) ?_
        refine lv_iconst (v := 3) hx hb dL_law_1097 (by decide) ?_
        refine lv_icmp_ne (tgt := 1122) hx hb dL_law_1098 (by decide) (fun c_195 => ?_) (fun c_ => absurd c_ (by decide))
        refine lv_iinc (v := nI (i + 1)) (lv' := [(25, .int (nI (i + 1))), (24, .int (nI (moN V T i + 1))), (27, .int 1), (26, .int 2), (0, .ref b), (1, .ref x), (2, .ref q0), (3, .int (nI t)), (4, .int xv), (5, .long dg), (7, .int (nI n)), (8, .ref y8), (9, .ref y9), (10, .ref y10), (11, .int (nI (mFil G 1 n))), (14, .int (nI N)), (15, .int (nI f)), (16, .int (nI (mRdyN G T f n))), (17, .ref q1), (18, .ref q2), (19, .ref q3), (20, .ref q4), (21, .ref q5), (22, .int (nI (mFil G 2 n))), (23, .int (nI d))]) hx hb dL_law_1122 hl (k := 24) rfl (iinc1 _) (by decide) rfl (fun ls hl => ?_)
        refine lv_goto (tgt := 864) hx hb dL_law_1125 (by decide) ?_
        have e9 : moN V T (i + 1) = moN V T i + 1 := moN_t ht (by rw [hv]; decide)
        exact ih ls trivial (by show lv_has ls 28 [(0, .ref b), (1, .ref x), (2, .ref q0), (3, .int (nI t)), (4, .int xv), (5, .long dg), (7, .int (nI n)), (8, .ref y8), (9, .ref y9), (10, .ref y10), (11, .int (nI (mFil G 1 n))), (14, .int (nI N)), (15, .int (nI f)), (16, .int (nI (mRdyN G T f n))), (17, .ref q1), (18, .ref q2), (19, .ref q3), (20, .ref q4), (21, .ref q5), (22, .int (nI (mFil G 2 n))), (23, .int (nI d)), (24, .int (nI (moN V T (i + 1)))), (25, .int (nI (i + 1)))]; rw [e9]; exact lv_sub hl [4, 5, 6, 7, 8, 9, 10, 11, 12, 13, 14, 15, 16, 17, 18, 19, 20, 21, 22, 23, 24, 1, 0] rfl)
    · by_cases z9 : mUnA G V i ≤ 0
      · refine lv_aload_n hx hb dL_law_871 rfl (lv_at hl 1 rfl) ?_
        refine lv_iload hx hb dL_law_872 (lv_at hl 22 rfl) ?_
        refine c_pVi (rest := []) hC hE hP (lx_whereIs l S (nI i) (xbag_n hra hi)) gc_RL_114 hd_X4_whereIs ⟨rfl, rfl⟩ ⟨Nat.le_of_ble_eq_true rfl, Nat.le_of_ble_eq_true rfl⟩ 29 lw_29 rfl rfl hl.1 (Nat.le_of_ble_eq_true rfl) ⟨(by show cc ≤ 600130; omega), (by show ss ≤ 7301080; omega)⟩ dL_law_874 ?_
        refine w_top (show rd 40 (S 6) (nI i) = T 1 i from (rd_40 (Nat.lt_of_lt_of_le hi hn)).trans (hrb.whr i hi)) ?_
        refine w_top (show T 1 i = 3 from ht) ?_
        refine lv_istore (lv' := [(26, .int 3), (0, .ref b), (1, .ref x), (2, .ref q0), (3, .int (nI t)), (4, .int xv), (5, .long dg), (7, .int (nI n)), (8, .ref y8), (9, .ref y9), (10, .ref y10), (11, .int (nI (mFil G 1 n))), (14, .int (nI N)), (15, .int (nI f)), (16, .int (nI (mRdyN G T f n))), (17, .ref q1), (18, .ref q2), (19, .ref q3), (20, .ref q4), (21, .ref q5), (22, .int (nI (mFil G 2 n))), (23, .int (nI d)), (24, .int (nI (moN V T i))), (25, .int (nI i))]) hx hb dL_law_877 hl (by decide) rfl (fun ls hl => ?_)
        refine lv_aload hx hb dL_law_879 (lv_at hl 15 rfl) ?_
        refine lv_iload hx hb dL_law_881 (lv_at hl 23 rfl) ?_
        refine k_iald (j := i) hx hb hE hP (64 + nf + n + (R.length + 0)) ((lw_Ri (i := 0)).trans rfl) hi (Nat.lt_of_le_of_lt hn (by decide)) dL_law_883 ?_
        refine w_top (show (hd_ (mUnA G V) n) i = mUnA G V i from hd_at hi) ?_
        refine lv_if_le (tgt := 901) hx hb dL_law_884 (by decide) (fun c_196 => ?_) (fun c_ => absurd z9 c_)
        refine lv_iconst (v := 0) hx hb dL_law_901 (by decide) ?_
        refine lv_istore (lv' := [(27, .int 0), (26, .int 3), (0, .ref b), (1, .ref x), (2, .ref q0), (3, .int (nI t)), (4, .int xv), (5, .long dg), (7, .int (nI n)), (8, .ref y8), (9, .ref y9), (10, .ref y10), (11, .int (nI (mFil G 1 n))), (14, .int (nI N)), (15, .int (nI f)), (16, .int (nI (mRdyN G T f n))), (17, .ref q1), (18, .ref q2), (19, .ref q3), (20, .ref q4), (21, .ref q5), (22, .int (nI (mFil G 2 n))), (23, .int (nI d)), (24, .int (nI (moN V T i))), (25, .int (nI i))]) hx hb dL_law_902 hl (by decide) rfl (fun ls hl => ?_)
        refine lv_iload hx hb dL_law_904 (lv_at hl 23 rfl) ?_
        refine lv_iload hx hb dL_law_906 (lv_at hl 0 rfl) ?_
        refine lv_if_eq (tgt := 915) hx hb dL_law_908 (by decide) (fun c_197 => ?_) (fun c_ => absurd rfl c_)
        refine lv_iconst (v := 0) hx hb dL_law_915 (by decide) ?_
        refine lv_iadd hx hb dL_law_916 ?_
        refine w_top (show (nI (moN V T i)) + 0 = nI (moN V T i) from Int32.add_zero _) ?_
        refine lv_istore (lv' := [(24, .int (nI (moN V T i))), (27, .int 0), (26, .int 3), (0, .ref b), (1, .ref x), (2, .ref q0), (3, .int (nI t)), (4, .int xv), (5, .long dg), (7, .int (nI n)), (8, .ref y8), (9, .ref y9), (10, .ref y10), (11, .int (nI (mFil G 1 n))), (14, .int (nI N)), (15, .int (nI f)), (16, .int (nI (mRdyN G T f n))), (17, .ref q1), (18, .ref q2), (19, .ref q3), (20, .ref q4), (21, .ref q5), (22, .int (nI (mFil G 2 n))), (23, .int (nI d)), (25, .int (nI i))]) hx hb dL_law_917 hl (by decide) rfl (fun ls hl => ?_)
        refine lv_iload hx hb dL_law_919 (lv_at hl 1 rfl) ?_
        refine lv_iload hx hb dL_law_921 (lv_at hl 2 rfl) ?_
        refine lv_iconst (v := 2) hx hb dL_law_923 (by decide) ?_
        refine lv_icmp_ne (tgt := 940) hx hb dL_law_924 (by decide) (fun c_198 => ?_) (fun c_ => absurd c_ (by decide))
        refine lv_iconst (v := 0) hx hb dL_law_940 (by decide) ?_
        refine lv_icmp_ne (tgt := 990) hx hb dL_law_941 (by decide) (fun c_ => absurd rfl c_) (fun c_199 => ?_)
        refine lv_aload hx hb dL_law_944 (lv_at hl 18 rfl) ?_
        refine lv_iload hx hb dL_law_946 (lv_at hl 24 rfl) ?_
        refine k_iald (j := i) hx hb hE hP (64 + nf + n + (R.length + 1)) ((lw_Ri (i := 1)).trans rfl) hi (Nat.lt_of_le_of_lt hn (by decide)) dL_law_948 ?_
        refine w_top (show (hd_ (V 1) n) i = 0 from (hd_at hi).trans hv) ?_
        refine lv_iconst (v := 1) hx hb dL_law_949 (by decide) ?_
        refine lv_icmp_le (tgt := 963) hx hb dL_law_950 (by decide) (fun c_200 => ?_) (fun c_ => absurd (by decide) c_)
        refine lv_iload hx hb dL_law_963 (lv_at hl 2 rfl) ?_
        refine lv_if_ne (tgt := 976) hx hb dL_law_965 (by decide) (fun c_201 => ?_) (fun c_ => absurd c_ (by decide))
        refine lv_aload_n hx hb dL_law_976 rfl (lv_at hl 4 rfl) ?_
        refine lv_iload hx hb dL_law_977 (lv_at hl 24 rfl) ?_
        refine c_pVi (rest := []) hC hE hP (lx_hasOpenFile l S (nI i) (xbag_n hra hi)) gc_RL_133 hd_X4_hasOpenFile ⟨rfl, rfl⟩ ⟨Nat.le_of_ble_eq_true rfl, Nat.le_of_ble_eq_true rfl⟩ 29 lw_29 rfl rfl hl.1 (Nat.le_of_ble_eq_true rfl) ⟨(by show cc ≤ 600130; omega), (by show ss ≤ 7301080; omega)⟩ dL_law_979 ?_
        refine w_top (show bI (rd 40 (S 10) (nI i) = 1) = bI (G 7 i = 1) from bI_cong (by rw [rd_40 (Nat.lt_of_lt_of_le hi hn), hra.fil i hi])) ?_
        refine lv_aload hx hb dL_law_982 (lv_at hl 21 rfl) ?_
        refine lv_iload hx hb dL_law_984 (lv_at hl 24 rfl) ?_
        refine k_zald (j := i) hx hb hE hP (64 + nf + n + (R.length + 4)) ((lw_Ri (i := 4)).trans rfl) hi (Nat.lt_of_le_of_lt hn (by decide)) dL_law_986 ?_
        refine w_top (show (hd_ (opG G) n) i = bI (G 7 i = 1) from hd_at (g := opG G) hi) ?_
        refine lv_icmp_eq (tgt := 992) hx hb dL_law_987 (by decide) (fun c_202 => ?_) (fun c_ => absurd rfl c_)
        refine lv_aload hx hb dL_law_992 (lv_at hl 19 rfl) ?_
        refine lv_iload hx hb dL_law_994 (lv_at hl 24 rfl) ?_
        refine k_iald (j := i) hx hb hE hP (64 + nf + n + (R.length + 2)) ((lw_Ri (i := 2)).trans rfl) hi (Nat.lt_of_le_of_lt hn (by decide)) dL_law_996 ?_
        refine w_top (show (hd_ (V 3) n) i = V 3 i from hd_at hi) ?_
        refine lv_if_lt (tgt := 1014) hx hb dL_law_997 (by decide) (fun c_203 => ?_) (fun c_203 => ?_)
        · refine lv_aload_n hx hb dL_law_1014 rfl (lv_at hl 4 rfl) ?_
          refine lv_iload hx hb dL_law_1015 (lv_at hl 24 rfl) ?_
          refine c_pVi (rest := []) hC hE hP (lx_missesOf l S (nI i) (xbag_n hra hi)) gc_RL_126 hd_X4_missesOf ⟨rfl, rfl⟩ ⟨Nat.le_of_ble_eq_true rfl, Nat.le_of_ble_eq_true rfl⟩ 29 lw_29 rfl rfl hl.1 (Nat.le_of_ble_eq_true rfl) ⟨(by show cc ≤ 600130; omega), (by show ss ≤ 7301080; omega)⟩ dL_law_1017 ?_
          refine w_top (show rd 40 (S 9) (nI i) = T 4 i from (rd_40 (Nat.lt_of_lt_of_le hi hn)).trans (hrb.mis i hi)) ?_
          refine lv_aload hx hb dL_law_1020 (lv_at hl 20 rfl) ?_
          refine lv_iload hx hb dL_law_1022 (lv_at hl 24 rfl) ?_
          refine k_iald (j := i) hx hb hE hP (64 + nf + n + (R.length + 3)) ((lw_Ri (i := 3)).trans rfl) hi (Nat.lt_of_le_of_lt hn (by decide)) dL_law_1024 ?_
          refine w_top (show (hd_ (V 4) n) i = V 4 i from hd_at hi) ?_
          refine lv_icmp_lt (tgt := 1120) hx hb dL_law_1025 (by decide) (fun c_ => absurd c_ (Int32.not_lt.mpr s4)) (fun c_204 => ?_)
          refine lv_aload hx hb dL_law_1028 (lv_at hl 18 rfl) ?_
          refine lv_iload hx hb dL_law_1030 (lv_at hl 24 rfl) ?_
          refine k_iald (j := i) hx hb hE hP (64 + nf + n + (R.length + 1)) ((lw_Ri (i := 1)).trans rfl) hi (Nat.lt_of_le_of_lt hn (by decide)) dL_law_1032 ?_
          refine w_top (show (hd_ (V 1) n) i = 0 from (hd_at hi).trans hv) ?_
          refine lv_iconst (v := 1) hx hb dL_law_1033 (by decide) ?_
          refine lv_icmp_le (tgt := 1065) hx hb dL_law_1034 (by decide) (fun c_205 => ?_) (fun c_ => absurd (by decide) c_)
          refine lv_iload hx hb dL_law_1065 (lv_at hl 2 rfl) ?_
          refine lv_iconst (v := 2) hx hb dL_law_1067 (by decide) ?_
          refine lv_icmp_ne (tgt := 1095) hx hb dL_law_1068 (by decide) (fun c_206 => ?_) (fun c_ => absurd c_ (by decide))
          refine lv_iload hx hb dL_law_1095 (lv_at hl 2 rfl) ?_
          refine lv_iconst (v := 3) hx hb dL_law_1097 (by decide) ?_
          refine lv_icmp_ne (tgt := 1122) hx hb dL_law_1098 (by decide) (fun c_ => absurd rfl c_) (fun c_207 => ?_)
          refine lv_aload hx hb dL_law_1101 (lv_at hl 18 rfl) ?_
          refine lv_iload hx hb dL_law_1103 (lv_at hl 24 rfl) ?_
          refine k_iald (j := i) hx hb hE hP (64 + nf + n + (R.length + 1)) ((lw_Ri (i := 1)).trans rfl) hi (Nat.lt_of_le_of_lt hn (by decide)) dL_law_1105 ?_
          refine w_top (show (hd_ (V 1) n) i = 0 from (hd_at hi).trans hv) ?_
          refine lv_iconst (v := 1) hx hb dL_law_1106 (by decide) ?_
          refine lv_icmp_ne (tgt := 1122) hx hb dL_law_1107 (by decide) (fun c_208 => ?_) (fun c_ => absurd c_ (by decide))
          refine lv_iinc (v := nI (i + 1)) (lv' := [(25, .int (nI (i + 1))), (24, .int (nI (moN V T i))), (27, .int 0), (26, .int 3), (0, .ref b), (1, .ref x), (2, .ref q0), (3, .int (nI t)), (4, .int xv), (5, .long dg), (7, .int (nI n)), (8, .ref y8), (9, .ref y9), (10, .ref y10), (11, .int (nI (mFil G 1 n))), (14, .int (nI N)), (15, .int (nI f)), (16, .int (nI (mRdyN G T f n))), (17, .ref q1), (18, .ref q2), (19, .ref q3), (20, .ref q4), (21, .ref q5), (22, .int (nI (mFil G 2 n))), (23, .int (nI d))]) hx hb dL_law_1122 hl (k := 24) rfl (iinc1 _) (by decide) rfl (fun ls hl => ?_)
          refine lv_goto (tgt := 864) hx hb dL_law_1125 (by decide) ?_
          have e9 : moN V T (i + 1) = moN V T i := moN_f (fun z => absurd (ht.symm.trans z.1) (by decide))
          exact ih ls trivial (by show lv_has ls 28 [(0, .ref b), (1, .ref x), (2, .ref q0), (3, .int (nI t)), (4, .int xv), (5, .long dg), (7, .int (nI n)), (8, .ref y8), (9, .ref y9), (10, .ref y10), (11, .int (nI (mFil G 1 n))), (14, .int (nI N)), (15, .int (nI f)), (16, .int (nI (mRdyN G T f n))), (17, .ref q1), (18, .ref q2), (19, .ref q3), (20, .ref q4), (21, .ref q5), (22, .int (nI (mFil G 2 n))), (23, .int (nI d)), (24, .int (nI (moN V T (i + 1)))), (25, .int (nI (i + 1)))]; rw [e9]; exact lv_sub hl [4, 5, 6, 7, 8, 9, 10, 11, 12, 13, 14, 15, 16, 17, 18, 19, 20, 21, 22, 23, 24, 1, 0] rfl)
        · refine lv_aload_n hx hb dL_law_1000 rfl (lv_at hl 4 rfl) ?_
          refine lv_iload hx hb dL_law_1001 (lv_at hl 24 rfl) ?_
          refine c_pVi (rest := []) hC hE hP (lx_readFor l S (nI i) (xbag_n hra hi)) gc_RL_129 hd_X4_readFor ⟨rfl, rfl⟩ ⟨Nat.le_of_ble_eq_true rfl, Nat.le_of_ble_eq_true rfl⟩ 29 lw_29 rfl rfl hl.1 (Nat.le_of_ble_eq_true rfl) ⟨(by show cc ≤ 600130; omega), (by show ss ≤ 7301080; omega)⟩ dL_law_1003 ?_
          refine w_top (show rd 40 (S 8) (nI i) = T 3 i from (rd_40 (Nat.lt_of_lt_of_le hi hn)).trans (hrb.rdd i hi)) ?_
          refine lv_aload hx hb dL_law_1006 (lv_at hl 19 rfl) ?_
          refine lv_iload hx hb dL_law_1008 (lv_at hl 24 rfl) ?_
          refine k_iald (j := i) hx hb hE hP (64 + nf + n + (R.length + 2)) ((lw_Ri (i := 2)).trans rfl) hi (Nat.lt_of_le_of_lt hn (by decide)) dL_law_1010 ?_
          refine w_top (show (hd_ (V 3) n) i = V 3 i from hd_at hi) ?_
          refine lv_icmp_ne (tgt := 1120) hx hb dL_law_1011 (by decide) (fun c_ => absurd (s3 (fun z => c_203 (by rw [z]; decide))) c_) (fun c_209 => ?_)
          refine lv_aload_n hx hb dL_law_1014 rfl (lv_at hl 4 rfl) ?_
          refine lv_iload hx hb dL_law_1015 (lv_at hl 24 rfl) ?_
          refine c_pVi (rest := []) hC hE hP (lx_missesOf l S (nI i) (xbag_n hra hi)) gc_RL_126 hd_X4_missesOf ⟨rfl, rfl⟩ ⟨Nat.le_of_ble_eq_true rfl, Nat.le_of_ble_eq_true rfl⟩ 29 lw_29 rfl rfl hl.1 (Nat.le_of_ble_eq_true rfl) ⟨(by show cc ≤ 600130; omega), (by show ss ≤ 7301080; omega)⟩ dL_law_1017 ?_
          refine w_top (show rd 40 (S 9) (nI i) = T 4 i from (rd_40 (Nat.lt_of_lt_of_le hi hn)).trans (hrb.mis i hi)) ?_
          refine lv_aload hx hb dL_law_1020 (lv_at hl 20 rfl) ?_
          refine lv_iload hx hb dL_law_1022 (lv_at hl 24 rfl) ?_
          refine k_iald (j := i) hx hb hE hP (64 + nf + n + (R.length + 3)) ((lw_Ri (i := 3)).trans rfl) hi (Nat.lt_of_le_of_lt hn (by decide)) dL_law_1024 ?_
          refine w_top (show (hd_ (V 4) n) i = V 4 i from hd_at hi) ?_
          refine lv_icmp_lt (tgt := 1120) hx hb dL_law_1025 (by decide) (fun c_ => absurd c_ (Int32.not_lt.mpr s4)) (fun c_210 => ?_)
          refine lv_aload hx hb dL_law_1028 (lv_at hl 18 rfl) ?_
          refine lv_iload hx hb dL_law_1030 (lv_at hl 24 rfl) ?_
          refine k_iald (j := i) hx hb hE hP (64 + nf + n + (R.length + 1)) ((lw_Ri (i := 1)).trans rfl) hi (Nat.lt_of_le_of_lt hn (by decide)) dL_law_1032 ?_
          refine w_top (show (hd_ (V 1) n) i = 0 from (hd_at hi).trans hv) ?_
          refine lv_iconst (v := 1) hx hb dL_law_1033 (by decide) ?_
          refine lv_icmp_le (tgt := 1065) hx hb dL_law_1034 (by decide) (fun c_211 => ?_) (fun c_ => absurd (by decide) c_)
          refine lv_iload hx hb dL_law_1065 (lv_at hl 2 rfl) ?_
          refine lv_iconst (v := 2) hx hb dL_law_1067 (by decide) ?_
          refine lv_icmp_ne (tgt := 1095) hx hb dL_law_1068 (by decide) (fun c_212 => ?_) (fun c_ => absurd c_ (by decide))
          refine lv_iload hx hb dL_law_1095 (lv_at hl 2 rfl) ?_
          refine lv_iconst (v := 3) hx hb dL_law_1097 (by decide) ?_
          refine lv_icmp_ne (tgt := 1122) hx hb dL_law_1098 (by decide) (fun c_ => absurd rfl c_) (fun c_213 => ?_)
          refine lv_aload hx hb dL_law_1101 (lv_at hl 18 rfl) ?_
          refine lv_iload hx hb dL_law_1103 (lv_at hl 24 rfl) ?_
          refine k_iald (j := i) hx hb hE hP (64 + nf + n + (R.length + 1)) ((lw_Ri (i := 1)).trans rfl) hi (Nat.lt_of_le_of_lt hn (by decide)) dL_law_1105 ?_
          refine w_top (show (hd_ (V 1) n) i = 0 from (hd_at hi).trans hv) ?_
          refine lv_iconst (v := 1) hx hb dL_law_1106 (by decide) ?_
          refine lv_icmp_ne (tgt := 1122) hx hb dL_law_1107 (by decide) (fun c_214 => ?_) (fun c_ => absurd c_ (by decide))
          refine lv_iinc (v := nI (i + 1)) (lv' := [(25, .int (nI (i + 1))), (24, .int (nI (moN V T i))), (27, .int 0), (26, .int 3), (0, .ref b), (1, .ref x), (2, .ref q0), (3, .int (nI t)), (4, .int xv), (5, .long dg), (7, .int (nI n)), (8, .ref y8), (9, .ref y9), (10, .ref y10), (11, .int (nI (mFil G 1 n))), (14, .int (nI N)), (15, .int (nI f)), (16, .int (nI (mRdyN G T f n))), (17, .ref q1), (18, .ref q2), (19, .ref q3), (20, .ref q4), (21, .ref q5), (22, .int (nI (mFil G 2 n))), (23, .int (nI d))]) hx hb dL_law_1122 hl (k := 24) rfl (iinc1 _) (by decide) rfl (fun ls hl => ?_)
          refine lv_goto (tgt := 864) hx hb dL_law_1125 (by decide) ?_
          have e9 : moN V T (i + 1) = moN V T i := moN_f (fun z => absurd (ht.symm.trans z.1) (by decide))
          exact ih ls trivial (by show lv_has ls 28 [(0, .ref b), (1, .ref x), (2, .ref q0), (3, .int (nI t)), (4, .int xv), (5, .long dg), (7, .int (nI n)), (8, .ref y8), (9, .ref y9), (10, .ref y10), (11, .int (nI (mFil G 1 n))), (14, .int (nI N)), (15, .int (nI f)), (16, .int (nI (mRdyN G T f n))), (17, .ref q1), (18, .ref q2), (19, .ref q3), (20, .ref q4), (21, .ref q5), (22, .int (nI (mFil G 2 n))), (23, .int (nI d)), (24, .int (nI (moN V T (i + 1)))), (25, .int (nI (i + 1)))]; rw [e9]; exact lv_sub hl [4, 5, 6, 7, 8, 9, 10, 11, 12, 13, 14, 15, 16, 17, 18, 19, 20, 21, 22, 23, 24, 1, 0] rfl)
      · refine lv_aload_n hx hb dL_law_871 rfl (lv_at hl 1 rfl) ?_
        refine lv_iload hx hb dL_law_872 (lv_at hl 22 rfl) ?_
        refine c_pVi (rest := []) hC hE hP (lx_whereIs l S (nI i) (xbag_n hra hi)) gc_RL_114 hd_X4_whereIs ⟨rfl, rfl⟩ ⟨Nat.le_of_ble_eq_true rfl, Nat.le_of_ble_eq_true rfl⟩ 29 lw_29 rfl rfl hl.1 (Nat.le_of_ble_eq_true rfl) ⟨(by show cc ≤ 600130; omega), (by show ss ≤ 7301080; omega)⟩ dL_law_874 ?_
        refine w_top (show rd 40 (S 6) (nI i) = T 1 i from (rd_40 (Nat.lt_of_lt_of_le hi hn)).trans (hrb.whr i hi)) ?_
        refine w_top (show T 1 i = 3 from ht) ?_
        refine lv_istore (lv' := [(26, .int 3), (0, .ref b), (1, .ref x), (2, .ref q0), (3, .int (nI t)), (4, .int xv), (5, .long dg), (7, .int (nI n)), (8, .ref y8), (9, .ref y9), (10, .ref y10), (11, .int (nI (mFil G 1 n))), (14, .int (nI N)), (15, .int (nI f)), (16, .int (nI (mRdyN G T f n))), (17, .ref q1), (18, .ref q2), (19, .ref q3), (20, .ref q4), (21, .ref q5), (22, .int (nI (mFil G 2 n))), (23, .int (nI d)), (24, .int (nI (moN V T i))), (25, .int (nI i))]) hx hb dL_law_877 hl (by decide) rfl (fun ls hl => ?_)
        refine lv_aload hx hb dL_law_879 (lv_at hl 15 rfl) ?_
        refine lv_iload hx hb dL_law_881 (lv_at hl 23 rfl) ?_
        refine k_iald (j := i) hx hb hE hP (64 + nf + n + (R.length + 0)) ((lw_Ri (i := 0)).trans rfl) hi (Nat.lt_of_le_of_lt hn (by decide)) dL_law_883 ?_
        refine w_top (show (hd_ (mUnA G V) n) i = mUnA G V i from hd_at hi) ?_
        refine lv_if_le (tgt := 901) hx hb dL_law_884 (by decide) (fun c_ => absurd c_ z9) (fun c_215 => ?_)
        refine lv_aload hx hb dL_law_887 (lv_at hl 15 rfl) ?_
        refine lv_iload hx hb dL_law_889 (lv_at hl 23 rfl) ?_
        refine k_iald (j := i) hx hb hE hP (64 + nf + n + (R.length + 0)) ((lw_Ri (i := 0)).trans rfl) hi (Nat.lt_of_le_of_lt hn (by decide)) dL_law_891 ?_
        refine w_top (show (hd_ (mUnA G V) n) i = mUnA G V i from hd_at hi) ?_
        refine lv_iload hx hb dL_law_892 (lv_at hl 12 rfl) ?_
        refine lv_icmp_gt (tgt := 901) hx hb dL_law_894 (by decide) (fun c_216 => ?_) (fun c_ => absurd (u4 (Or.inl hv) (by rw [ht]; decide) z9) c_)
        refine lv_iconst (v := 0) hx hb dL_law_901 (by decide) ?_
        refine lv_istore (lv' := [(27, .int 0), (26, .int 3), (0, .ref b), (1, .ref x), (2, .ref q0), (3, .int (nI t)), (4, .int xv), (5, .long dg), (7, .int (nI n)), (8, .ref y8), (9, .ref y9), (10, .ref y10), (11, .int (nI (mFil G 1 n))), (14, .int (nI N)), (15, .int (nI f)), (16, .int (nI (mRdyN G T f n))), (17, .ref q1), (18, .ref q2), (19, .ref q3), (20, .ref q4), (21, .ref q5), (22, .int (nI (mFil G 2 n))), (23, .int (nI d)), (24, .int (nI (moN V T i))), (25, .int (nI i))]) hx hb dL_law_902 hl (by decide) rfl (fun ls hl => ?_)
        refine lv_iload hx hb dL_law_904 (lv_at hl 23 rfl) ?_
        refine lv_iload hx hb dL_law_906 (lv_at hl 0 rfl) ?_
        refine lv_if_eq (tgt := 915) hx hb dL_law_908 (by decide) (fun c_217 => ?_) (fun c_ => absurd rfl c_)
        refine lv_iconst (v := 0) hx hb dL_law_915 (by decide) ?_
        refine lv_iadd hx hb dL_law_916 ?_
        refine w_top (show (nI (moN V T i)) + 0 = nI (moN V T i) from Int32.add_zero _) ?_
        refine lv_istore (lv' := [(24, .int (nI (moN V T i))), (27, .int 0), (26, .int 3), (0, .ref b), (1, .ref x), (2, .ref q0), (3, .int (nI t)), (4, .int xv), (5, .long dg), (7, .int (nI n)), (8, .ref y8), (9, .ref y9), (10, .ref y10), (11, .int (nI (mFil G 1 n))), (14, .int (nI N)), (15, .int (nI f)), (16, .int (nI (mRdyN G T f n))), (17, .ref q1), (18, .ref q2), (19, .ref q3), (20, .ref q4), (21, .ref q5), (22, .int (nI (mFil G 2 n))), (23, .int (nI d)), (25, .int (nI i))]) hx hb dL_law_917 hl (by decide) rfl (fun ls hl => ?_)
        refine lv_iload hx hb dL_law_919 (lv_at hl 1 rfl) ?_
        refine lv_iload hx hb dL_law_921 (lv_at hl 2 rfl) ?_
        refine lv_iconst (v := 2) hx hb dL_law_923 (by decide) ?_
        refine lv_icmp_ne (tgt := 940) hx hb dL_law_924 (by decide) (fun c_218 => ?_) (fun c_ => absurd c_ (by decide))
        refine lv_iconst (v := 0) hx hb dL_law_940 (by decide) ?_
        refine lv_icmp_ne (tgt := 990) hx hb dL_law_941 (by decide) (fun c_ => absurd rfl c_) (fun c_219 => ?_)
        refine lv_aload hx hb dL_law_944 (lv_at hl 18 rfl) ?_
        refine lv_iload hx hb dL_law_946 (lv_at hl 24 rfl) ?_
        refine k_iald (j := i) hx hb hE hP (64 + nf + n + (R.length + 1)) ((lw_Ri (i := 1)).trans rfl) hi (Nat.lt_of_le_of_lt hn (by decide)) dL_law_948 ?_
        refine w_top (show (hd_ (V 1) n) i = 0 from (hd_at hi).trans hv) ?_
        refine lv_iconst (v := 1) hx hb dL_law_949 (by decide) ?_
        refine lv_icmp_le (tgt := 963) hx hb dL_law_950 (by decide) (fun c_220 => ?_) (fun c_ => absurd (by decide) c_)
        refine lv_iload hx hb dL_law_963 (lv_at hl 2 rfl) ?_
        refine lv_if_ne (tgt := 976) hx hb dL_law_965 (by decide) (fun c_221 => ?_) (fun c_ => absurd c_ (by decide))
        refine lv_aload_n hx hb dL_law_976 rfl (lv_at hl 4 rfl) ?_
        refine lv_iload hx hb dL_law_977 (lv_at hl 24 rfl) ?_
        refine c_pVi (rest := []) hC hE hP (lx_hasOpenFile l S (nI i) (xbag_n hra hi)) gc_RL_133 hd_X4_hasOpenFile ⟨rfl, rfl⟩ ⟨Nat.le_of_ble_eq_true rfl, Nat.le_of_ble_eq_true rfl⟩ 29 lw_29 rfl rfl hl.1 (Nat.le_of_ble_eq_true rfl) ⟨(by show cc ≤ 600130; omega), (by show ss ≤ 7301080; omega)⟩ dL_law_979 ?_
        refine w_top (show bI (rd 40 (S 10) (nI i) = 1) = bI (G 7 i = 1) from bI_cong (by rw [rd_40 (Nat.lt_of_lt_of_le hi hn), hra.fil i hi])) ?_
        refine lv_aload hx hb dL_law_982 (lv_at hl 21 rfl) ?_
        refine lv_iload hx hb dL_law_984 (lv_at hl 24 rfl) ?_
        refine k_zald (j := i) hx hb hE hP (64 + nf + n + (R.length + 4)) ((lw_Ri (i := 4)).trans rfl) hi (Nat.lt_of_le_of_lt hn (by decide)) dL_law_986 ?_
        refine w_top (show (hd_ (opG G) n) i = bI (G 7 i = 1) from hd_at (g := opG G) hi) ?_
        refine lv_icmp_eq (tgt := 992) hx hb dL_law_987 (by decide) (fun c_222 => ?_) (fun c_ => absurd rfl c_)
        refine lv_aload hx hb dL_law_992 (lv_at hl 19 rfl) ?_
        refine lv_iload hx hb dL_law_994 (lv_at hl 24 rfl) ?_
        refine k_iald (j := i) hx hb hE hP (64 + nf + n + (R.length + 2)) ((lw_Ri (i := 2)).trans rfl) hi (Nat.lt_of_le_of_lt hn (by decide)) dL_law_996 ?_
        refine w_top (show (hd_ (V 3) n) i = V 3 i from hd_at hi) ?_
        refine lv_if_lt (tgt := 1014) hx hb dL_law_997 (by decide) (fun c_223 => ?_) (fun c_223 => ?_)
        · refine lv_aload_n hx hb dL_law_1014 rfl (lv_at hl 4 rfl) ?_
          refine lv_iload hx hb dL_law_1015 (lv_at hl 24 rfl) ?_
          refine c_pVi (rest := []) hC hE hP (lx_missesOf l S (nI i) (xbag_n hra hi)) gc_RL_126 hd_X4_missesOf ⟨rfl, rfl⟩ ⟨Nat.le_of_ble_eq_true rfl, Nat.le_of_ble_eq_true rfl⟩ 29 lw_29 rfl rfl hl.1 (Nat.le_of_ble_eq_true rfl) ⟨(by show cc ≤ 600130; omega), (by show ss ≤ 7301080; omega)⟩ dL_law_1017 ?_
          refine w_top (show rd 40 (S 9) (nI i) = T 4 i from (rd_40 (Nat.lt_of_lt_of_le hi hn)).trans (hrb.mis i hi)) ?_
          refine lv_aload hx hb dL_law_1020 (lv_at hl 20 rfl) ?_
          refine lv_iload hx hb dL_law_1022 (lv_at hl 24 rfl) ?_
          refine k_iald (j := i) hx hb hE hP (64 + nf + n + (R.length + 3)) ((lw_Ri (i := 3)).trans rfl) hi (Nat.lt_of_le_of_lt hn (by decide)) dL_law_1024 ?_
          refine w_top (show (hd_ (V 4) n) i = V 4 i from hd_at hi) ?_
          refine lv_icmp_lt (tgt := 1120) hx hb dL_law_1025 (by decide) (fun c_ => absurd c_ (Int32.not_lt.mpr s4)) (fun c_224 => ?_)
          refine lv_aload hx hb dL_law_1028 (lv_at hl 18 rfl) ?_
          refine lv_iload hx hb dL_law_1030 (lv_at hl 24 rfl) ?_
          refine k_iald (j := i) hx hb hE hP (64 + nf + n + (R.length + 1)) ((lw_Ri (i := 1)).trans rfl) hi (Nat.lt_of_le_of_lt hn (by decide)) dL_law_1032 ?_
          refine w_top (show (hd_ (V 1) n) i = 0 from (hd_at hi).trans hv) ?_
          refine lv_iconst (v := 1) hx hb dL_law_1033 (by decide) ?_
          refine lv_icmp_le (tgt := 1065) hx hb dL_law_1034 (by decide) (fun c_225 => ?_) (fun c_ => absurd (by decide) c_)
          refine lv_iload hx hb dL_law_1065 (lv_at hl 2 rfl) ?_
          refine lv_iconst (v := 2) hx hb dL_law_1067 (by decide) ?_
          refine lv_icmp_ne (tgt := 1095) hx hb dL_law_1068 (by decide) (fun c_226 => ?_) (fun c_ => absurd c_ (by decide))
          refine lv_iload hx hb dL_law_1095 (lv_at hl 2 rfl) ?_
          refine lv_iconst (v := 3) hx hb dL_law_1097 (by decide) ?_
          refine lv_icmp_ne (tgt := 1122) hx hb dL_law_1098 (by decide) (fun c_ => absurd rfl c_) (fun c_227 => ?_)
          refine lv_aload hx hb dL_law_1101 (lv_at hl 18 rfl) ?_
          refine lv_iload hx hb dL_law_1103 (lv_at hl 24 rfl) ?_
          refine k_iald (j := i) hx hb hE hP (64 + nf + n + (R.length + 1)) ((lw_Ri (i := 1)).trans rfl) hi (Nat.lt_of_le_of_lt hn (by decide)) dL_law_1105 ?_
          refine w_top (show (hd_ (V 1) n) i = 0 from (hd_at hi).trans hv) ?_
          refine lv_iconst (v := 1) hx hb dL_law_1106 (by decide) ?_
          refine lv_icmp_ne (tgt := 1122) hx hb dL_law_1107 (by decide) (fun c_228 => ?_) (fun c_ => absurd c_ (by decide))
          refine lv_iinc (v := nI (i + 1)) (lv' := [(25, .int (nI (i + 1))), (24, .int (nI (moN V T i))), (27, .int 0), (26, .int 3), (0, .ref b), (1, .ref x), (2, .ref q0), (3, .int (nI t)), (4, .int xv), (5, .long dg), (7, .int (nI n)), (8, .ref y8), (9, .ref y9), (10, .ref y10), (11, .int (nI (mFil G 1 n))), (14, .int (nI N)), (15, .int (nI f)), (16, .int (nI (mRdyN G T f n))), (17, .ref q1), (18, .ref q2), (19, .ref q3), (20, .ref q4), (21, .ref q5), (22, .int (nI (mFil G 2 n))), (23, .int (nI d))]) hx hb dL_law_1122 hl (k := 24) rfl (iinc1 _) (by decide) rfl (fun ls hl => ?_)
          refine lv_goto (tgt := 864) hx hb dL_law_1125 (by decide) ?_
          have e9 : moN V T (i + 1) = moN V T i := moN_f (fun z => absurd (ht.symm.trans z.1) (by decide))
          exact ih ls trivial (by show lv_has ls 28 [(0, .ref b), (1, .ref x), (2, .ref q0), (3, .int (nI t)), (4, .int xv), (5, .long dg), (7, .int (nI n)), (8, .ref y8), (9, .ref y9), (10, .ref y10), (11, .int (nI (mFil G 1 n))), (14, .int (nI N)), (15, .int (nI f)), (16, .int (nI (mRdyN G T f n))), (17, .ref q1), (18, .ref q2), (19, .ref q3), (20, .ref q4), (21, .ref q5), (22, .int (nI (mFil G 2 n))), (23, .int (nI d)), (24, .int (nI (moN V T (i + 1)))), (25, .int (nI (i + 1)))]; rw [e9]; exact lv_sub hl [4, 5, 6, 7, 8, 9, 10, 11, 12, 13, 14, 15, 16, 17, 18, 19, 20, 21, 22, 23, 24, 1, 0] rfl)
        · refine lv_aload_n hx hb dL_law_1000 rfl (lv_at hl 4 rfl) ?_
          refine lv_iload hx hb dL_law_1001 (lv_at hl 24 rfl) ?_
          refine c_pVi (rest := []) hC hE hP (lx_readFor l S (nI i) (xbag_n hra hi)) gc_RL_129 hd_X4_readFor ⟨rfl, rfl⟩ ⟨Nat.le_of_ble_eq_true rfl, Nat.le_of_ble_eq_true rfl⟩ 29 lw_29 rfl rfl hl.1 (Nat.le_of_ble_eq_true rfl) ⟨(by show cc ≤ 600130; omega), (by show ss ≤ 7301080; omega)⟩ dL_law_1003 ?_
          refine w_top (show rd 40 (S 8) (nI i) = T 3 i from (rd_40 (Nat.lt_of_lt_of_le hi hn)).trans (hrb.rdd i hi)) ?_
          refine lv_aload hx hb dL_law_1006 (lv_at hl 19 rfl) ?_
          refine lv_iload hx hb dL_law_1008 (lv_at hl 24 rfl) ?_
          refine k_iald (j := i) hx hb hE hP (64 + nf + n + (R.length + 2)) ((lw_Ri (i := 2)).trans rfl) hi (Nat.lt_of_le_of_lt hn (by decide)) dL_law_1010 ?_
          refine w_top (show (hd_ (V 3) n) i = V 3 i from hd_at hi) ?_
          refine lv_icmp_ne (tgt := 1120) hx hb dL_law_1011 (by decide) (fun c_ => absurd (s3 (fun z => c_223 (by rw [z]; decide))) c_) (fun c_229 => ?_)
          refine lv_aload_n hx hb dL_law_1014 rfl (lv_at hl 4 rfl) ?_
          refine lv_iload hx hb dL_law_1015 (lv_at hl 24 rfl) ?_
          refine c_pVi (rest := []) hC hE hP (lx_missesOf l S (nI i) (xbag_n hra hi)) gc_RL_126 hd_X4_missesOf ⟨rfl, rfl⟩ ⟨Nat.le_of_ble_eq_true rfl, Nat.le_of_ble_eq_true rfl⟩ 29 lw_29 rfl rfl hl.1 (Nat.le_of_ble_eq_true rfl) ⟨(by show cc ≤ 600130; omega), (by show ss ≤ 7301080; omega)⟩ dL_law_1017 ?_
          refine w_top (show rd 40 (S 9) (nI i) = T 4 i from (rd_40 (Nat.lt_of_lt_of_le hi hn)).trans (hrb.mis i hi)) ?_
          refine lv_aload hx hb dL_law_1020 (lv_at hl 20 rfl) ?_
          refine lv_iload hx hb dL_law_1022 (lv_at hl 24 rfl) ?_
          refine k_iald (j := i) hx hb hE hP (64 + nf + n + (R.length + 3)) ((lw_Ri (i := 3)).trans rfl) hi (Nat.lt_of_le_of_lt hn (by decide)) dL_law_1024 ?_
          refine w_top (show (hd_ (V 4) n) i = V 4 i from hd_at hi) ?_
          refine lv_icmp_lt (tgt := 1120) hx hb dL_law_1025 (by decide) (fun c_ => absurd c_ (Int32.not_lt.mpr s4)) (fun c_230 => ?_)
          refine lv_aload hx hb dL_law_1028 (lv_at hl 18 rfl) ?_
          refine lv_iload hx hb dL_law_1030 (lv_at hl 24 rfl) ?_
          refine k_iald (j := i) hx hb hE hP (64 + nf + n + (R.length + 1)) ((lw_Ri (i := 1)).trans rfl) hi (Nat.lt_of_le_of_lt hn (by decide)) dL_law_1032 ?_
          refine w_top (show (hd_ (V 1) n) i = 0 from (hd_at hi).trans hv) ?_
          refine lv_iconst (v := 1) hx hb dL_law_1033 (by decide) ?_
          refine lv_icmp_le (tgt := 1065) hx hb dL_law_1034 (by decide) (fun c_231 => ?_) (fun c_ => absurd (by decide) c_)
          refine lv_iload hx hb dL_law_1065 (lv_at hl 2 rfl) ?_
          refine lv_iconst (v := 2) hx hb dL_law_1067 (by decide) ?_
          refine lv_icmp_ne (tgt := 1095) hx hb dL_law_1068 (by decide) (fun c_232 => ?_) (fun c_ => absurd c_ (by decide))
          refine lv_iload hx hb dL_law_1095 (lv_at hl 2 rfl) ?_
          refine lv_iconst (v := 3) hx hb dL_law_1097 (by decide) ?_
          refine lv_icmp_ne (tgt := 1122) hx hb dL_law_1098 (by decide) (fun c_ => absurd rfl c_) (fun c_233 => ?_)
          refine lv_aload hx hb dL_law_1101 (lv_at hl 18 rfl) ?_
          refine lv_iload hx hb dL_law_1103 (lv_at hl 24 rfl) ?_
          refine k_iald (j := i) hx hb hE hP (64 + nf + n + (R.length + 1)) ((lw_Ri (i := 1)).trans rfl) hi (Nat.lt_of_le_of_lt hn (by decide)) dL_law_1105 ?_
          refine w_top (show (hd_ (V 1) n) i = 0 from (hd_at hi).trans hv) ?_
          refine lv_iconst (v := 1) hx hb dL_law_1106 (by decide) ?_
          refine lv_icmp_ne (tgt := 1122) hx hb dL_law_1107 (by decide) (fun c_234 => ?_) (fun c_ => absurd c_ (by decide))
          refine lv_iinc (v := nI (i + 1)) (lv' := [(25, .int (nI (i + 1))), (24, .int (nI (moN V T i))), (27, .int 0), (26, .int 3), (0, .ref b), (1, .ref x), (2, .ref q0), (3, .int (nI t)), (4, .int xv), (5, .long dg), (7, .int (nI n)), (8, .ref y8), (9, .ref y9), (10, .ref y10), (11, .int (nI (mFil G 1 n))), (14, .int (nI N)), (15, .int (nI f)), (16, .int (nI (mRdyN G T f n))), (17, .ref q1), (18, .ref q2), (19, .ref q3), (20, .ref q4), (21, .ref q5), (22, .int (nI (mFil G 2 n))), (23, .int (nI d))]) hx hb dL_law_1122 hl (k := 24) rfl (iinc1 _) (by decide) rfl (fun ls hl => ?_)
          refine lv_goto (tgt := 864) hx hb dL_law_1125 (by decide) ?_
          have e9 : moN V T (i + 1) = moN V T i := moN_f (fun z => absurd (ht.symm.trans z.1) (by decide))
          exact ih ls trivial (by show lv_has ls 28 [(0, .ref b), (1, .ref x), (2, .ref q0), (3, .int (nI t)), (4, .int xv), (5, .long dg), (7, .int (nI n)), (8, .ref y8), (9, .ref y9), (10, .ref y10), (11, .int (nI (mFil G 1 n))), (14, .int (nI N)), (15, .int (nI f)), (16, .int (nI (mRdyN G T f n))), (17, .ref q1), (18, .ref q2), (19, .ref q3), (20, .ref q4), (21, .ref q5), (22, .int (nI (mFil G 2 n))), (23, .int (nI d)), (24, .int (nI (moN V T (i + 1)))), (25, .int (nI (i + 1)))]; rw [e9]; exact lv_sub hl [4, 5, 6, 7, 8, 9, 10, 11, 12, 13, 14, 15, 16, 17, 18, 19, 20, 21, 22, 23, 24, 1, 0] rfl)
    · by_cases z9 : mUnA G V i ≤ 0
      · refine lv_aload_n hx hb dL_law_871 rfl (lv_at hl 1 rfl) ?_
        refine lv_iload hx hb dL_law_872 (lv_at hl 22 rfl) ?_
        refine c_pVi (rest := []) hC hE hP (lx_whereIs l S (nI i) (xbag_n hra hi)) gc_RL_114 hd_X4_whereIs ⟨rfl, rfl⟩ ⟨Nat.le_of_ble_eq_true rfl, Nat.le_of_ble_eq_true rfl⟩ 29 lw_29 rfl rfl hl.1 (Nat.le_of_ble_eq_true rfl) ⟨(by show cc ≤ 600130; omega), (by show ss ≤ 7301080; omega)⟩ dL_law_874 ?_
        refine w_top (show rd 40 (S 6) (nI i) = T 1 i from (rd_40 (Nat.lt_of_lt_of_le hi hn)).trans (hrb.whr i hi)) ?_
        refine w_top (show T 1 i = 1 from ht) ?_
        refine lv_istore (lv' := [(26, .int 1), (0, .ref b), (1, .ref x), (2, .ref q0), (3, .int (nI t)), (4, .int xv), (5, .long dg), (7, .int (nI n)), (8, .ref y8), (9, .ref y9), (10, .ref y10), (11, .int (nI (mFil G 1 n))), (14, .int (nI N)), (15, .int (nI f)), (16, .int (nI (mRdyN G T f n))), (17, .ref q1), (18, .ref q2), (19, .ref q3), (20, .ref q4), (21, .ref q5), (22, .int (nI (mFil G 2 n))), (23, .int (nI d)), (24, .int (nI (moN V T i))), (25, .int (nI i))]) hx hb dL_law_877 hl (by decide) rfl (fun ls hl => ?_)
        refine lv_aload hx hb dL_law_879 (lv_at hl 15 rfl) ?_
        refine lv_iload hx hb dL_law_881 (lv_at hl 23 rfl) ?_
        refine k_iald (j := i) hx hb hE hP (64 + nf + n + (R.length + 0)) ((lw_Ri (i := 0)).trans rfl) hi (Nat.lt_of_le_of_lt hn (by decide)) dL_law_883 ?_
        refine w_top (show (hd_ (mUnA G V) n) i = mUnA G V i from hd_at hi) ?_
        refine lv_if_le (tgt := 901) hx hb dL_law_884 (by decide) (fun c_235 => ?_) (fun c_ => absurd z9 c_)
        refine lv_iconst (v := 0) hx hb dL_law_901 (by decide) ?_
        refine lv_istore (lv' := [(27, .int 0), (26, .int 1), (0, .ref b), (1, .ref x), (2, .ref q0), (3, .int (nI t)), (4, .int xv), (5, .long dg), (7, .int (nI n)), (8, .ref y8), (9, .ref y9), (10, .ref y10), (11, .int (nI (mFil G 1 n))), (14, .int (nI N)), (15, .int (nI f)), (16, .int (nI (mRdyN G T f n))), (17, .ref q1), (18, .ref q2), (19, .ref q3), (20, .ref q4), (21, .ref q5), (22, .int (nI (mFil G 2 n))), (23, .int (nI d)), (24, .int (nI (moN V T i))), (25, .int (nI i))]) hx hb dL_law_902 hl (by decide) rfl (fun ls hl => ?_)
        refine lv_iload hx hb dL_law_904 (lv_at hl 23 rfl) ?_
        refine lv_iload hx hb dL_law_906 (lv_at hl 0 rfl) ?_
        refine lv_if_eq (tgt := 915) hx hb dL_law_908 (by decide) (fun c_236 => ?_) (fun c_ => absurd rfl c_)
        refine lv_iconst (v := 0) hx hb dL_law_915 (by decide) ?_
        refine lv_iadd hx hb dL_law_916 ?_
        refine w_top (show (nI (moN V T i)) + 0 = nI (moN V T i) from Int32.add_zero _) ?_
        refine lv_istore (lv' := [(24, .int (nI (moN V T i))), (27, .int 0), (26, .int 1), (0, .ref b), (1, .ref x), (2, .ref q0), (3, .int (nI t)), (4, .int xv), (5, .long dg), (7, .int (nI n)), (8, .ref y8), (9, .ref y9), (10, .ref y10), (11, .int (nI (mFil G 1 n))), (14, .int (nI N)), (15, .int (nI f)), (16, .int (nI (mRdyN G T f n))), (17, .ref q1), (18, .ref q2), (19, .ref q3), (20, .ref q4), (21, .ref q5), (22, .int (nI (mFil G 2 n))), (23, .int (nI d)), (25, .int (nI i))]) hx hb dL_law_917 hl (by decide) rfl (fun ls hl => ?_)
        refine lv_iload hx hb dL_law_919 (lv_at hl 1 rfl) ?_
        refine lv_iload hx hb dL_law_921 (lv_at hl 2 rfl) ?_
        refine lv_iconst (v := 2) hx hb dL_law_923 (by decide) ?_
        refine lv_icmp_ne (tgt := 940) hx hb dL_law_924 (by decide) (fun c_237 => ?_) (fun c_ => absurd c_ (by decide))
        refine lv_iconst (v := 0) hx hb dL_law_940 (by decide) ?_
        refine lv_icmp_ne (tgt := 990) hx hb dL_law_941 (by decide) (fun c_ => absurd rfl c_) (fun c_238 => ?_)
        refine lv_aload hx hb dL_law_944 (lv_at hl 18 rfl) ?_
        refine lv_iload hx hb dL_law_946 (lv_at hl 24 rfl) ?_
        refine k_iald (j := i) hx hb hE hP (64 + nf + n + (R.length + 1)) ((lw_Ri (i := 1)).trans rfl) hi (Nat.lt_of_le_of_lt hn (by decide)) dL_law_948 ?_
        refine w_top (show (hd_ (V 1) n) i = 1 from (hd_at hi).trans hv) ?_
        refine lv_iconst (v := 1) hx hb dL_law_949 (by decide) ?_
        refine lv_icmp_le (tgt := 963) hx hb dL_law_950 (by decide) (fun c_239 => ?_) (fun c_ => absurd (by decide) c_)
        refine lv_iload hx hb dL_law_963 (lv_at hl 2 rfl) ?_
        refine lv_if_ne (tgt := 976) hx hb dL_law_965 (by decide) (fun c_240 => ?_) (fun c_ => absurd c_ (by decide))
        refine lv_aload_n hx hb dL_law_976 rfl (lv_at hl 4 rfl) ?_
        refine lv_iload hx hb dL_law_977 (lv_at hl 24 rfl) ?_
        refine c_pVi (rest := []) hC hE hP (lx_hasOpenFile l S (nI i) (xbag_n hra hi)) gc_RL_133 hd_X4_hasOpenFile ⟨rfl, rfl⟩ ⟨Nat.le_of_ble_eq_true rfl, Nat.le_of_ble_eq_true rfl⟩ 29 lw_29 rfl rfl hl.1 (Nat.le_of_ble_eq_true rfl) ⟨(by show cc ≤ 600130; omega), (by show ss ≤ 7301080; omega)⟩ dL_law_979 ?_
        refine w_top (show bI (rd 40 (S 10) (nI i) = 1) = bI (G 7 i = 1) from bI_cong (by rw [rd_40 (Nat.lt_of_lt_of_le hi hn), hra.fil i hi])) ?_
        refine lv_aload hx hb dL_law_982 (lv_at hl 21 rfl) ?_
        refine lv_iload hx hb dL_law_984 (lv_at hl 24 rfl) ?_
        refine k_zald (j := i) hx hb hE hP (64 + nf + n + (R.length + 4)) ((lw_Ri (i := 4)).trans rfl) hi (Nat.lt_of_le_of_lt hn (by decide)) dL_law_986 ?_
        refine w_top (show (hd_ (opG G) n) i = bI (G 7 i = 1) from hd_at (g := opG G) hi) ?_
        refine lv_icmp_eq (tgt := 992) hx hb dL_law_987 (by decide) (fun c_241 => ?_) (fun c_ => absurd rfl c_)
        refine lv_aload hx hb dL_law_992 (lv_at hl 19 rfl) ?_
        refine lv_iload hx hb dL_law_994 (lv_at hl 24 rfl) ?_
        refine k_iald (j := i) hx hb hE hP (64 + nf + n + (R.length + 2)) ((lw_Ri (i := 2)).trans rfl) hi (Nat.lt_of_le_of_lt hn (by decide)) dL_law_996 ?_
        refine w_top (show (hd_ (V 3) n) i = V 3 i from hd_at hi) ?_
        refine lv_if_lt (tgt := 1014) hx hb dL_law_997 (by decide) (fun c_242 => ?_) (fun c_242 => ?_)
        · refine lv_aload_n hx hb dL_law_1014 rfl (lv_at hl 4 rfl) ?_
          refine lv_iload hx hb dL_law_1015 (lv_at hl 24 rfl) ?_
          refine c_pVi (rest := []) hC hE hP (lx_missesOf l S (nI i) (xbag_n hra hi)) gc_RL_126 hd_X4_missesOf ⟨rfl, rfl⟩ ⟨Nat.le_of_ble_eq_true rfl, Nat.le_of_ble_eq_true rfl⟩ 29 lw_29 rfl rfl hl.1 (Nat.le_of_ble_eq_true rfl) ⟨(by show cc ≤ 600130; omega), (by show ss ≤ 7301080; omega)⟩ dL_law_1017 ?_
          refine w_top (show rd 40 (S 9) (nI i) = T 4 i from (rd_40 (Nat.lt_of_lt_of_le hi hn)).trans (hrb.mis i hi)) ?_
          refine lv_aload hx hb dL_law_1020 (lv_at hl 20 rfl) ?_
          refine lv_iload hx hb dL_law_1022 (lv_at hl 24 rfl) ?_
          refine k_iald (j := i) hx hb hE hP (64 + nf + n + (R.length + 3)) ((lw_Ri (i := 3)).trans rfl) hi (Nat.lt_of_le_of_lt hn (by decide)) dL_law_1024 ?_
          refine w_top (show (hd_ (V 4) n) i = V 4 i from hd_at hi) ?_
          refine lv_icmp_lt (tgt := 1120) hx hb dL_law_1025 (by decide) (fun c_ => absurd c_ (Int32.not_lt.mpr s4)) (fun c_243 => ?_)
          refine lv_aload hx hb dL_law_1028 (lv_at hl 18 rfl) ?_
          refine lv_iload hx hb dL_law_1030 (lv_at hl 24 rfl) ?_
          refine k_iald (j := i) hx hb hE hP (64 + nf + n + (R.length + 1)) ((lw_Ri (i := 1)).trans rfl) hi (Nat.lt_of_le_of_lt hn (by decide)) dL_law_1032 ?_
          refine w_top (show (hd_ (V 1) n) i = 1 from (hd_at hi).trans hv) ?_
          refine lv_iconst (v := 1) hx hb dL_law_1033 (by decide) ?_
          refine lv_icmp_le (tgt := 1065) hx hb dL_law_1034 (by decide) (fun c_244 => ?_) (fun c_ => absurd (by decide) c_)
          refine lv_iload hx hb dL_law_1065 (lv_at hl 2 rfl) ?_
          refine lv_iconst (v := 2) hx hb dL_law_1067 (by decide) ?_
          refine lv_icmp_ne (tgt := 1095) hx hb dL_law_1068 (by decide) (fun c_245 => ?_) (fun c_ => absurd c_ (by decide))
          refine lv_iload hx hb dL_law_1095 (lv_at hl 2 rfl) ?_
          refine lv_iconst (v := 3) hx hb dL_law_1097 (by decide) ?_
          refine lv_icmp_ne (tgt := 1122) hx hb dL_law_1098 (by decide) (fun c_246 => ?_) (fun c_ => absurd c_ (by decide))
          refine lv_iinc (v := nI (i + 1)) (lv' := [(25, .int (nI (i + 1))), (24, .int (nI (moN V T i))), (27, .int 0), (26, .int 1), (0, .ref b), (1, .ref x), (2, .ref q0), (3, .int (nI t)), (4, .int xv), (5, .long dg), (7, .int (nI n)), (8, .ref y8), (9, .ref y9), (10, .ref y10), (11, .int (nI (mFil G 1 n))), (14, .int (nI N)), (15, .int (nI f)), (16, .int (nI (mRdyN G T f n))), (17, .ref q1), (18, .ref q2), (19, .ref q3), (20, .ref q4), (21, .ref q5), (22, .int (nI (mFil G 2 n))), (23, .int (nI d))]) hx hb dL_law_1122 hl (k := 24) rfl (iinc1 _) (by decide) rfl (fun ls hl => ?_)
          refine lv_goto (tgt := 864) hx hb dL_law_1125 (by decide) ?_
          have e9 : moN V T (i + 1) = moN V T i := moN_f (fun z => absurd (ht.symm.trans z.1) (by decide))
          exact ih ls trivial (by show lv_has ls 28 [(0, .ref b), (1, .ref x), (2, .ref q0), (3, .int (nI t)), (4, .int xv), (5, .long dg), (7, .int (nI n)), (8, .ref y8), (9, .ref y9), (10, .ref y10), (11, .int (nI (mFil G 1 n))), (14, .int (nI N)), (15, .int (nI f)), (16, .int (nI (mRdyN G T f n))), (17, .ref q1), (18, .ref q2), (19, .ref q3), (20, .ref q4), (21, .ref q5), (22, .int (nI (mFil G 2 n))), (23, .int (nI d)), (24, .int (nI (moN V T (i + 1)))), (25, .int (nI (i + 1)))]; rw [e9]; exact lv_sub hl [4, 5, 6, 7, 8, 9, 10, 11, 12, 13, 14, 15, 16, 17, 18, 19, 20, 21, 22, 23, 24, 1, 0] rfl)
        · refine lv_aload_n hx hb dL_law_1000 rfl (lv_at hl 4 rfl) ?_
          refine lv_iload hx hb dL_law_1001 (lv_at hl 24 rfl) ?_
          refine c_pVi (rest := []) hC hE hP (lx_readFor l S (nI i) (xbag_n hra hi)) gc_RL_129 hd_X4_readFor ⟨rfl, rfl⟩ ⟨Nat.le_of_ble_eq_true rfl, Nat.le_of_ble_eq_true rfl⟩ 29 lw_29 rfl rfl hl.1 (Nat.le_of_ble_eq_true rfl) ⟨(by show cc ≤ 600130; omega), (by show ss ≤ 7301080; omega)⟩ dL_law_1003 ?_
          refine w_top (show rd 40 (S 8) (nI i) = T 3 i from (rd_40 (Nat.lt_of_lt_of_le hi hn)).trans (hrb.rdd i hi)) ?_
          refine lv_aload hx hb dL_law_1006 (lv_at hl 19 rfl) ?_
          refine lv_iload hx hb dL_law_1008 (lv_at hl 24 rfl) ?_
          refine k_iald (j := i) hx hb hE hP (64 + nf + n + (R.length + 2)) ((lw_Ri (i := 2)).trans rfl) hi (Nat.lt_of_le_of_lt hn (by decide)) dL_law_1010 ?_
          refine w_top (show (hd_ (V 3) n) i = V 3 i from hd_at hi) ?_
          refine lv_icmp_ne (tgt := 1120) hx hb dL_law_1011 (by decide) (fun c_ => absurd (s3 (fun z => c_242 (by rw [z]; decide))) c_) (fun c_247 => ?_)
          refine lv_aload_n hx hb dL_law_1014 rfl (lv_at hl 4 rfl) ?_
          refine lv_iload hx hb dL_law_1015 (lv_at hl 24 rfl) ?_
          refine c_pVi (rest := []) hC hE hP (lx_missesOf l S (nI i) (xbag_n hra hi)) gc_RL_126 hd_X4_missesOf ⟨rfl, rfl⟩ ⟨Nat.le_of_ble_eq_true rfl, Nat.le_of_ble_eq_true rfl⟩ 29 lw_29 rfl rfl hl.1 (Nat.le_of_ble_eq_true rfl) ⟨(by show cc ≤ 600130; omega), (by show ss ≤ 7301080; omega)⟩ dL_law_1017 ?_
          refine w_top (show rd 40 (S 9) (nI i) = T 4 i from (rd_40 (Nat.lt_of_lt_of_le hi hn)).trans (hrb.mis i hi)) ?_
          refine lv_aload hx hb dL_law_1020 (lv_at hl 20 rfl) ?_
          refine lv_iload hx hb dL_law_1022 (lv_at hl 24 rfl) ?_
          refine k_iald (j := i) hx hb hE hP (64 + nf + n + (R.length + 3)) ((lw_Ri (i := 3)).trans rfl) hi (Nat.lt_of_le_of_lt hn (by decide)) dL_law_1024 ?_
          refine w_top (show (hd_ (V 4) n) i = V 4 i from hd_at hi) ?_
          refine lv_icmp_lt (tgt := 1120) hx hb dL_law_1025 (by decide) (fun c_ => absurd c_ (Int32.not_lt.mpr s4)) (fun c_248 => ?_)
          refine lv_aload hx hb dL_law_1028 (lv_at hl 18 rfl) ?_
          refine lv_iload hx hb dL_law_1030 (lv_at hl 24 rfl) ?_
          refine k_iald (j := i) hx hb hE hP (64 + nf + n + (R.length + 1)) ((lw_Ri (i := 1)).trans rfl) hi (Nat.lt_of_le_of_lt hn (by decide)) dL_law_1032 ?_
          refine w_top (show (hd_ (V 1) n) i = 1 from (hd_at hi).trans hv) ?_
          refine lv_iconst (v := 1) hx hb dL_law_1033 (by decide) ?_
          refine lv_icmp_le (tgt := 1065) hx hb dL_law_1034 (by decide) (fun c_249 => ?_) (fun c_ => absurd (by decide) c_)
          refine lv_iload hx hb dL_law_1065 (lv_at hl 2 rfl) ?_
          refine lv_iconst (v := 2) hx hb dL_law_1067 (by decide) ?_
          refine lv_icmp_ne (tgt := 1095) hx hb dL_law_1068 (by decide) (fun c_250 => ?_) (fun c_ => absurd c_ (by decide))
          refine lv_iload hx hb dL_law_1095 (lv_at hl 2 rfl) ?_
          refine lv_iconst (v := 3) hx hb dL_law_1097 (by decide) ?_
          refine lv_icmp_ne (tgt := 1122) hx hb dL_law_1098 (by decide) (fun c_251 => ?_) (fun c_ => absurd c_ (by decide))
          refine lv_iinc (v := nI (i + 1)) (lv' := [(25, .int (nI (i + 1))), (24, .int (nI (moN V T i))), (27, .int 0), (26, .int 1), (0, .ref b), (1, .ref x), (2, .ref q0), (3, .int (nI t)), (4, .int xv), (5, .long dg), (7, .int (nI n)), (8, .ref y8), (9, .ref y9), (10, .ref y10), (11, .int (nI (mFil G 1 n))), (14, .int (nI N)), (15, .int (nI f)), (16, .int (nI (mRdyN G T f n))), (17, .ref q1), (18, .ref q2), (19, .ref q3), (20, .ref q4), (21, .ref q5), (22, .int (nI (mFil G 2 n))), (23, .int (nI d))]) hx hb dL_law_1122 hl (k := 24) rfl (iinc1 _) (by decide) rfl (fun ls hl => ?_)
          refine lv_goto (tgt := 864) hx hb dL_law_1125 (by decide) ?_
          have e9 : moN V T (i + 1) = moN V T i := moN_f (fun z => absurd (ht.symm.trans z.1) (by decide))
          exact ih ls trivial (by show lv_has ls 28 [(0, .ref b), (1, .ref x), (2, .ref q0), (3, .int (nI t)), (4, .int xv), (5, .long dg), (7, .int (nI n)), (8, .ref y8), (9, .ref y9), (10, .ref y10), (11, .int (nI (mFil G 1 n))), (14, .int (nI N)), (15, .int (nI f)), (16, .int (nI (mRdyN G T f n))), (17, .ref q1), (18, .ref q2), (19, .ref q3), (20, .ref q4), (21, .ref q5), (22, .int (nI (mFil G 2 n))), (23, .int (nI d)), (24, .int (nI (moN V T (i + 1)))), (25, .int (nI (i + 1)))]; rw [e9]; exact lv_sub hl [4, 5, 6, 7, 8, 9, 10, 11, 12, 13, 14, 15, 16, 17, 18, 19, 20, 21, 22, 23, 24, 1, 0] rfl)
      · refine lv_aload_n hx hb dL_law_871 rfl (lv_at hl 1 rfl) ?_
        refine lv_iload hx hb dL_law_872 (lv_at hl 22 rfl) ?_
        refine c_pVi (rest := []) hC hE hP (lx_whereIs l S (nI i) (xbag_n hra hi)) gc_RL_114 hd_X4_whereIs ⟨rfl, rfl⟩ ⟨Nat.le_of_ble_eq_true rfl, Nat.le_of_ble_eq_true rfl⟩ 29 lw_29 rfl rfl hl.1 (Nat.le_of_ble_eq_true rfl) ⟨(by show cc ≤ 600130; omega), (by show ss ≤ 7301080; omega)⟩ dL_law_874 ?_
        refine w_top (show rd 40 (S 6) (nI i) = T 1 i from (rd_40 (Nat.lt_of_lt_of_le hi hn)).trans (hrb.whr i hi)) ?_
        refine w_top (show T 1 i = 1 from ht) ?_
        refine lv_istore (lv' := [(26, .int 1), (0, .ref b), (1, .ref x), (2, .ref q0), (3, .int (nI t)), (4, .int xv), (5, .long dg), (7, .int (nI n)), (8, .ref y8), (9, .ref y9), (10, .ref y10), (11, .int (nI (mFil G 1 n))), (14, .int (nI N)), (15, .int (nI f)), (16, .int (nI (mRdyN G T f n))), (17, .ref q1), (18, .ref q2), (19, .ref q3), (20, .ref q4), (21, .ref q5), (22, .int (nI (mFil G 2 n))), (23, .int (nI d)), (24, .int (nI (moN V T i))), (25, .int (nI i))]) hx hb dL_law_877 hl (by decide) rfl (fun ls hl => ?_)
        refine lv_aload hx hb dL_law_879 (lv_at hl 15 rfl) ?_
        refine lv_iload hx hb dL_law_881 (lv_at hl 23 rfl) ?_
        refine k_iald (j := i) hx hb hE hP (64 + nf + n + (R.length + 0)) ((lw_Ri (i := 0)).trans rfl) hi (Nat.lt_of_le_of_lt hn (by decide)) dL_law_883 ?_
        refine w_top (show (hd_ (mUnA G V) n) i = mUnA G V i from hd_at hi) ?_
        refine lv_if_le (tgt := 901) hx hb dL_law_884 (by decide) (fun c_ => absurd c_ z9) (fun c_252 => ?_)
        refine lv_aload hx hb dL_law_887 (lv_at hl 15 rfl) ?_
        refine lv_iload hx hb dL_law_889 (lv_at hl 23 rfl) ?_
        refine k_iald (j := i) hx hb hE hP (64 + nf + n + (R.length + 0)) ((lw_Ri (i := 0)).trans rfl) hi (Nat.lt_of_le_of_lt hn (by decide)) dL_law_891 ?_
        refine w_top (show (hd_ (mUnA G V) n) i = mUnA G V i from hd_at hi) ?_
        refine lv_iload hx hb dL_law_892 (lv_at hl 12 rfl) ?_
        refine lv_icmp_gt (tgt := 901) hx hb dL_law_894 (by decide) (fun c_253 => ?_) (fun c_ => absurd (u4 (Or.inr hv) (by rw [ht]; decide) z9) c_)
        refine lv_iconst (v := 0) hx hb dL_law_901 (by decide) ?_
        refine lv_istore (lv' := [(27, .int 0), (26, .int 1), (0, .ref b), (1, .ref x), (2, .ref q0), (3, .int (nI t)), (4, .int xv), (5, .long dg), (7, .int (nI n)), (8, .ref y8), (9, .ref y9), (10, .ref y10), (11, .int (nI (mFil G 1 n))), (14, .int (nI N)), (15, .int (nI f)), (16, .int (nI (mRdyN G T f n))), (17, .ref q1), (18, .ref q2), (19, .ref q3), (20, .ref q4), (21, .ref q5), (22, .int (nI (mFil G 2 n))), (23, .int (nI d)), (24, .int (nI (moN V T i))), (25, .int (nI i))]) hx hb dL_law_902 hl (by decide) rfl (fun ls hl => ?_)
        refine lv_iload hx hb dL_law_904 (lv_at hl 23 rfl) ?_
        refine lv_iload hx hb dL_law_906 (lv_at hl 0 rfl) ?_
        refine lv_if_eq (tgt := 915) hx hb dL_law_908 (by decide) (fun c_254 => ?_) (fun c_ => absurd rfl c_)
        refine lv_iconst (v := 0) hx hb dL_law_915 (by decide) ?_
        refine lv_iadd hx hb dL_law_916 ?_
        refine w_top (show (nI (moN V T i)) + 0 = nI (moN V T i) from Int32.add_zero _) ?_
        refine lv_istore (lv' := [(24, .int (nI (moN V T i))), (27, .int 0), (26, .int 1), (0, .ref b), (1, .ref x), (2, .ref q0), (3, .int (nI t)), (4, .int xv), (5, .long dg), (7, .int (nI n)), (8, .ref y8), (9, .ref y9), (10, .ref y10), (11, .int (nI (mFil G 1 n))), (14, .int (nI N)), (15, .int (nI f)), (16, .int (nI (mRdyN G T f n))), (17, .ref q1), (18, .ref q2), (19, .ref q3), (20, .ref q4), (21, .ref q5), (22, .int (nI (mFil G 2 n))), (23, .int (nI d)), (25, .int (nI i))]) hx hb dL_law_917 hl (by decide) rfl (fun ls hl => ?_)
        refine lv_iload hx hb dL_law_919 (lv_at hl 1 rfl) ?_
        refine lv_iload hx hb dL_law_921 (lv_at hl 2 rfl) ?_
        refine lv_iconst (v := 2) hx hb dL_law_923 (by decide) ?_
        refine lv_icmp_ne (tgt := 940) hx hb dL_law_924 (by decide) (fun c_255 => ?_) (fun c_ => absurd c_ (by decide))
        refine lv_iconst (v := 0) hx hb dL_law_940 (by decide) ?_
        refine lv_icmp_ne (tgt := 990) hx hb dL_law_941 (by decide) (fun c_ => absurd rfl c_) (fun c_256 => ?_)
        refine lv_aload hx hb dL_law_944 (lv_at hl 18 rfl) ?_
        refine lv_iload hx hb dL_law_946 (lv_at hl 24 rfl) ?_
        refine k_iald (j := i) hx hb hE hP (64 + nf + n + (R.length + 1)) ((lw_Ri (i := 1)).trans rfl) hi (Nat.lt_of_le_of_lt hn (by decide)) dL_law_948 ?_
        refine w_top (show (hd_ (V 1) n) i = 1 from (hd_at hi).trans hv) ?_
        refine lv_iconst (v := 1) hx hb dL_law_949 (by decide) ?_
        refine lv_icmp_le (tgt := 963) hx hb dL_law_950 (by decide) (fun c_257 => ?_) (fun c_ => absurd (by decide) c_)
        refine lv_iload hx hb dL_law_963 (lv_at hl 2 rfl) ?_
        refine lv_if_ne (tgt := 976) hx hb dL_law_965 (by decide) (fun c_258 => ?_) (fun c_ => absurd c_ (by decide))
        refine lv_aload_n hx hb dL_law_976 rfl (lv_at hl 4 rfl) ?_
        refine lv_iload hx hb dL_law_977 (lv_at hl 24 rfl) ?_
        refine c_pVi (rest := []) hC hE hP (lx_hasOpenFile l S (nI i) (xbag_n hra hi)) gc_RL_133 hd_X4_hasOpenFile ⟨rfl, rfl⟩ ⟨Nat.le_of_ble_eq_true rfl, Nat.le_of_ble_eq_true rfl⟩ 29 lw_29 rfl rfl hl.1 (Nat.le_of_ble_eq_true rfl) ⟨(by show cc ≤ 600130; omega), (by show ss ≤ 7301080; omega)⟩ dL_law_979 ?_
        refine w_top (show bI (rd 40 (S 10) (nI i) = 1) = bI (G 7 i = 1) from bI_cong (by rw [rd_40 (Nat.lt_of_lt_of_le hi hn), hra.fil i hi])) ?_
        refine lv_aload hx hb dL_law_982 (lv_at hl 21 rfl) ?_
        refine lv_iload hx hb dL_law_984 (lv_at hl 24 rfl) ?_
        refine k_zald (j := i) hx hb hE hP (64 + nf + n + (R.length + 4)) ((lw_Ri (i := 4)).trans rfl) hi (Nat.lt_of_le_of_lt hn (by decide)) dL_law_986 ?_
        refine w_top (show (hd_ (opG G) n) i = bI (G 7 i = 1) from hd_at (g := opG G) hi) ?_
        refine lv_icmp_eq (tgt := 992) hx hb dL_law_987 (by decide) (fun c_259 => ?_) (fun c_ => absurd rfl c_)
        refine lv_aload hx hb dL_law_992 (lv_at hl 19 rfl) ?_
        refine lv_iload hx hb dL_law_994 (lv_at hl 24 rfl) ?_
        refine k_iald (j := i) hx hb hE hP (64 + nf + n + (R.length + 2)) ((lw_Ri (i := 2)).trans rfl) hi (Nat.lt_of_le_of_lt hn (by decide)) dL_law_996 ?_
        refine w_top (show (hd_ (V 3) n) i = V 3 i from hd_at hi) ?_
        refine lv_if_lt (tgt := 1014) hx hb dL_law_997 (by decide) (fun c_260 => ?_) (fun c_260 => ?_)
        · refine lv_aload_n hx hb dL_law_1014 rfl (lv_at hl 4 rfl) ?_
          refine lv_iload hx hb dL_law_1015 (lv_at hl 24 rfl) ?_
          refine c_pVi (rest := []) hC hE hP (lx_missesOf l S (nI i) (xbag_n hra hi)) gc_RL_126 hd_X4_missesOf ⟨rfl, rfl⟩ ⟨Nat.le_of_ble_eq_true rfl, Nat.le_of_ble_eq_true rfl⟩ 29 lw_29 rfl rfl hl.1 (Nat.le_of_ble_eq_true rfl) ⟨(by show cc ≤ 600130; omega), (by show ss ≤ 7301080; omega)⟩ dL_law_1017 ?_
          refine w_top (show rd 40 (S 9) (nI i) = T 4 i from (rd_40 (Nat.lt_of_lt_of_le hi hn)).trans (hrb.mis i hi)) ?_
          refine lv_aload hx hb dL_law_1020 (lv_at hl 20 rfl) ?_
          refine lv_iload hx hb dL_law_1022 (lv_at hl 24 rfl) ?_
          refine k_iald (j := i) hx hb hE hP (64 + nf + n + (R.length + 3)) ((lw_Ri (i := 3)).trans rfl) hi (Nat.lt_of_le_of_lt hn (by decide)) dL_law_1024 ?_
          refine w_top (show (hd_ (V 4) n) i = V 4 i from hd_at hi) ?_
          refine lv_icmp_lt (tgt := 1120) hx hb dL_law_1025 (by decide) (fun c_ => absurd c_ (Int32.not_lt.mpr s4)) (fun c_261 => ?_)
          refine lv_aload hx hb dL_law_1028 (lv_at hl 18 rfl) ?_
          refine lv_iload hx hb dL_law_1030 (lv_at hl 24 rfl) ?_
          refine k_iald (j := i) hx hb hE hP (64 + nf + n + (R.length + 1)) ((lw_Ri (i := 1)).trans rfl) hi (Nat.lt_of_le_of_lt hn (by decide)) dL_law_1032 ?_
          refine w_top (show (hd_ (V 1) n) i = 1 from (hd_at hi).trans hv) ?_
          refine lv_iconst (v := 1) hx hb dL_law_1033 (by decide) ?_
          refine lv_icmp_le (tgt := 1065) hx hb dL_law_1034 (by decide) (fun c_262 => ?_) (fun c_ => absurd (by decide) c_)
          refine lv_iload hx hb dL_law_1065 (lv_at hl 2 rfl) ?_
          refine lv_iconst (v := 2) hx hb dL_law_1067 (by decide) ?_
          refine lv_icmp_ne (tgt := 1095) hx hb dL_law_1068 (by decide) (fun c_263 => ?_) (fun c_ => absurd c_ (by decide))
          refine lv_iload hx hb dL_law_1095 (lv_at hl 2 rfl) ?_
          refine lv_iconst (v := 3) hx hb dL_law_1097 (by decide) ?_
          refine lv_icmp_ne (tgt := 1122) hx hb dL_law_1098 (by decide) (fun c_264 => ?_) (fun c_ => absurd c_ (by decide))
          refine lv_iinc (v := nI (i + 1)) (lv' := [(25, .int (nI (i + 1))), (24, .int (nI (moN V T i))), (27, .int 0), (26, .int 1), (0, .ref b), (1, .ref x), (2, .ref q0), (3, .int (nI t)), (4, .int xv), (5, .long dg), (7, .int (nI n)), (8, .ref y8), (9, .ref y9), (10, .ref y10), (11, .int (nI (mFil G 1 n))), (14, .int (nI N)), (15, .int (nI f)), (16, .int (nI (mRdyN G T f n))), (17, .ref q1), (18, .ref q2), (19, .ref q3), (20, .ref q4), (21, .ref q5), (22, .int (nI (mFil G 2 n))), (23, .int (nI d))]) hx hb dL_law_1122 hl (k := 24) rfl (iinc1 _) (by decide) rfl (fun ls hl => ?_)
          refine lv_goto (tgt := 864) hx hb dL_law_1125 (by decide) ?_
          have e9 : moN V T (i + 1) = moN V T i := moN_f (fun z => absurd (ht.symm.trans z.1) (by decide))
          exact ih ls trivial (by show lv_has ls 28 [(0, .ref b), (1, .ref x), (2, .ref q0), (3, .int (nI t)), (4, .int xv), (5, .long dg), (7, .int (nI n)), (8, .ref y8), (9, .ref y9), (10, .ref y10), (11, .int (nI (mFil G 1 n))), (14, .int (nI N)), (15, .int (nI f)), (16, .int (nI (mRdyN G T f n))), (17, .ref q1), (18, .ref q2), (19, .ref q3), (20, .ref q4), (21, .ref q5), (22, .int (nI (mFil G 2 n))), (23, .int (nI d)), (24, .int (nI (moN V T (i + 1)))), (25, .int (nI (i + 1)))]; rw [e9]; exact lv_sub hl [4, 5, 6, 7, 8, 9, 10, 11, 12, 13, 14, 15, 16, 17, 18, 19, 20, 21, 22, 23, 24, 1, 0] rfl)
        · refine lv_aload_n hx hb dL_law_1000 rfl (lv_at hl 4 rfl) ?_
          refine lv_iload hx hb dL_law_1001 (lv_at hl 24 rfl) ?_
          refine c_pVi (rest := []) hC hE hP (lx_readFor l S (nI i) (xbag_n hra hi)) gc_RL_129 hd_X4_readFor ⟨rfl, rfl⟩ ⟨Nat.le_of_ble_eq_true rfl, Nat.le_of_ble_eq_true rfl⟩ 29 lw_29 rfl rfl hl.1 (Nat.le_of_ble_eq_true rfl) ⟨(by show cc ≤ 600130; omega), (by show ss ≤ 7301080; omega)⟩ dL_law_1003 ?_
          refine w_top (show rd 40 (S 8) (nI i) = T 3 i from (rd_40 (Nat.lt_of_lt_of_le hi hn)).trans (hrb.rdd i hi)) ?_
          refine lv_aload hx hb dL_law_1006 (lv_at hl 19 rfl) ?_
          refine lv_iload hx hb dL_law_1008 (lv_at hl 24 rfl) ?_
          refine k_iald (j := i) hx hb hE hP (64 + nf + n + (R.length + 2)) ((lw_Ri (i := 2)).trans rfl) hi (Nat.lt_of_le_of_lt hn (by decide)) dL_law_1010 ?_
          refine w_top (show (hd_ (V 3) n) i = V 3 i from hd_at hi) ?_
          refine lv_icmp_ne (tgt := 1120) hx hb dL_law_1011 (by decide) (fun c_ => absurd (s3 (fun z => c_260 (by rw [z]; decide))) c_) (fun c_265 => ?_)
          refine lv_aload_n hx hb dL_law_1014 rfl (lv_at hl 4 rfl) ?_
          refine lv_iload hx hb dL_law_1015 (lv_at hl 24 rfl) ?_
          refine c_pVi (rest := []) hC hE hP (lx_missesOf l S (nI i) (xbag_n hra hi)) gc_RL_126 hd_X4_missesOf ⟨rfl, rfl⟩ ⟨Nat.le_of_ble_eq_true rfl, Nat.le_of_ble_eq_true rfl⟩ 29 lw_29 rfl rfl hl.1 (Nat.le_of_ble_eq_true rfl) ⟨(by show cc ≤ 600130; omega), (by show ss ≤ 7301080; omega)⟩ dL_law_1017 ?_
          refine w_top (show rd 40 (S 9) (nI i) = T 4 i from (rd_40 (Nat.lt_of_lt_of_le hi hn)).trans (hrb.mis i hi)) ?_
          refine lv_aload hx hb dL_law_1020 (lv_at hl 20 rfl) ?_
          refine lv_iload hx hb dL_law_1022 (lv_at hl 24 rfl) ?_
          refine k_iald (j := i) hx hb hE hP (64 + nf + n + (R.length + 3)) ((lw_Ri (i := 3)).trans rfl) hi (Nat.lt_of_le_of_lt hn (by decide)) dL_law_1024 ?_
          refine w_top (show (hd_ (V 4) n) i = V 4 i from hd_at hi) ?_
          refine lv_icmp_lt (tgt := 1120) hx hb dL_law_1025 (by decide) (fun c_ => absurd c_ (Int32.not_lt.mpr s4)) (fun c_266 => ?_)
          refine lv_aload hx hb dL_law_1028 (lv_at hl 18 rfl) ?_
          refine lv_iload hx hb dL_law_1030 (lv_at hl 24 rfl) ?_
          refine k_iald (j := i) hx hb hE hP (64 + nf + n + (R.length + 1)) ((lw_Ri (i := 1)).trans rfl) hi (Nat.lt_of_le_of_lt hn (by decide)) dL_law_1032 ?_
          refine w_top (show (hd_ (V 1) n) i = 1 from (hd_at hi).trans hv) ?_
          refine lv_iconst (v := 1) hx hb dL_law_1033 (by decide) ?_
          refine lv_icmp_le (tgt := 1065) hx hb dL_law_1034 (by decide) (fun c_267 => ?_) (fun c_ => absurd (by decide) c_)
          refine lv_iload hx hb dL_law_1065 (lv_at hl 2 rfl) ?_
          refine lv_iconst (v := 2) hx hb dL_law_1067 (by decide) ?_
          refine lv_icmp_ne (tgt := 1095) hx hb dL_law_1068 (by decide) (fun c_268 => ?_) (fun c_ => absurd c_ (by decide))
          refine lv_iload hx hb dL_law_1095 (lv_at hl 2 rfl) ?_
          refine lv_iconst (v := 3) hx hb dL_law_1097 (by decide) ?_
          refine lv_icmp_ne (tgt := 1122) hx hb dL_law_1098 (by decide) (fun c_269 => ?_) (fun c_ => absurd c_ (by decide))
          refine lv_iinc (v := nI (i + 1)) (lv' := [(25, .int (nI (i + 1))), (24, .int (nI (moN V T i))), (27, .int 0), (26, .int 1), (0, .ref b), (1, .ref x), (2, .ref q0), (3, .int (nI t)), (4, .int xv), (5, .long dg), (7, .int (nI n)), (8, .ref y8), (9, .ref y9), (10, .ref y10), (11, .int (nI (mFil G 1 n))), (14, .int (nI N)), (15, .int (nI f)), (16, .int (nI (mRdyN G T f n))), (17, .ref q1), (18, .ref q2), (19, .ref q3), (20, .ref q4), (21, .ref q5), (22, .int (nI (mFil G 2 n))), (23, .int (nI d))]) hx hb dL_law_1122 hl (k := 24) rfl (iinc1 _) (by decide) rfl (fun ls hl => ?_)
          refine lv_goto (tgt := 864) hx hb dL_law_1125 (by decide) ?_
          have e9 : moN V T (i + 1) = moN V T i := moN_f (fun z => absurd (ht.symm.trans z.1) (by decide))
          exact ih ls trivial (by show lv_has ls 28 [(0, .ref b), (1, .ref x), (2, .ref q0), (3, .int (nI t)), (4, .int xv), (5, .long dg), (7, .int (nI n)), (8, .ref y8), (9, .ref y9), (10, .ref y10), (11, .int (nI (mFil G 1 n))), (14, .int (nI N)), (15, .int (nI f)), (16, .int (nI (mRdyN G T f n))), (17, .ref q1), (18, .ref q2), (19, .ref q3), (20, .ref q4), (21, .ref q5), (22, .int (nI (mFil G 2 n))), (23, .int (nI d)), (24, .int (nI (moN V T (i + 1)))), (25, .int (nI (i + 1)))]; rw [e9]; exact lv_sub hl [4, 5, 6, 7, 8, 9, 10, 11, 12, 13, 14, 15, 16, 17, 18, 19, 20, 21, 22, 23, 24, 1, 0] rfl)
    · obtain ⟨p1, p2⟩ := u3 (Or.inr hv) ht
      refine lv_aload_n hx hb dL_law_871 rfl (lv_at hl 1 rfl) ?_
      refine lv_iload hx hb dL_law_872 (lv_at hl 22 rfl) ?_
      refine c_pVi (rest := []) hC hE hP (lx_whereIs l S (nI i) (xbag_n hra hi)) gc_RL_114 hd_X4_whereIs ⟨rfl, rfl⟩ ⟨Nat.le_of_ble_eq_true rfl, Nat.le_of_ble_eq_true rfl⟩ 29 lw_29 rfl rfl hl.1 (Nat.le_of_ble_eq_true rfl) ⟨(by show cc ≤ 600130; omega), (by show ss ≤ 7301080; omega)⟩ dL_law_874 ?_
      refine w_top (show rd 40 (S 6) (nI i) = T 1 i from (rd_40 (Nat.lt_of_lt_of_le hi hn)).trans (hrb.whr i hi)) ?_
      refine w_top (show T 1 i = 2 from ht) ?_
      refine lv_istore (lv' := [(26, .int 2), (0, .ref b), (1, .ref x), (2, .ref q0), (3, .int (nI t)), (4, .int xv), (5, .long dg), (7, .int (nI n)), (8, .ref y8), (9, .ref y9), (10, .ref y10), (11, .int (nI (mFil G 1 n))), (14, .int (nI N)), (15, .int (nI f)), (16, .int (nI (mRdyN G T f n))), (17, .ref q1), (18, .ref q2), (19, .ref q3), (20, .ref q4), (21, .ref q5), (22, .int (nI (mFil G 2 n))), (23, .int (nI d)), (24, .int (nI (moN V T i))), (25, .int (nI i))]) hx hb dL_law_877 hl (by decide) rfl (fun ls hl => ?_)
      refine lv_aload hx hb dL_law_879 (lv_at hl 15 rfl) ?_
      refine lv_iload hx hb dL_law_881 (lv_at hl 23 rfl) ?_
      refine k_iald (j := i) hx hb hE hP (64 + nf + n + (R.length + 0)) ((lw_Ri (i := 0)).trans rfl) hi (Nat.lt_of_le_of_lt hn (by decide)) dL_law_883 ?_
      refine w_top (show (hd_ (mUnA G V) n) i = mUnA G V i from hd_at hi) ?_
      refine lv_if_le (tgt := 901) hx hb dL_law_884 (by decide) (fun c_ => absurd c_ p1) (fun c_270 => ?_)
      refine lv_aload hx hb dL_law_887 (lv_at hl 15 rfl) ?_
      refine lv_iload hx hb dL_law_889 (lv_at hl 23 rfl) ?_
      refine k_iald (j := i) hx hb hE hP (64 + nf + n + (R.length + 0)) ((lw_Ri (i := 0)).trans rfl) hi (Nat.lt_of_le_of_lt hn (by decide)) dL_law_891 ?_
      refine w_top (show (hd_ (mUnA G V) n) i = mUnA G V i from hd_at hi) ?_
      refine lv_iload hx hb dL_law_892 (lv_at hl 12 rfl) ?_
      refine lv_icmp_gt (tgt := 901) hx hb dL_law_894 (by decide) (fun c_ => absurd c_ p2) (fun c_271 => ?_)
      refine lv_iconst (v := 1) hx hb dL_law_897 (by decide) ?_
      refine lv_goto (tgt := 902) hx hb dL_law_898 (by decide) ?_
      refine lv_istore (lv' := [(27, .int 1), (26, .int 2), (0, .ref b), (1, .ref x), (2, .ref q0), (3, .int (nI t)), (4, .int xv), (5, .long dg), (7, .int (nI n)), (8, .ref y8), (9, .ref y9), (10, .ref y10), (11, .int (nI (mFil G 1 n))), (14, .int (nI N)), (15, .int (nI f)), (16, .int (nI (mRdyN G T f n))), (17, .ref q1), (18, .ref q2), (19, .ref q3), (20, .ref q4), (21, .ref q5), (22, .int (nI (mFil G 2 n))), (23, .int (nI d)), (24, .int (nI (moN V T i))), (25, .int (nI i))]) hx hb dL_law_902 hl (by decide) rfl (fun ls hl => ?_)
      refine lv_iload hx hb dL_law_904 (lv_at hl 23 rfl) ?_
      refine lv_iload hx hb dL_law_906 (lv_at hl 0 rfl) ?_
      refine lv_if_eq (tgt := 915) hx hb dL_law_908 (by decide) (fun c_ => absurd c_ (by decide)) (fun c_272 => ?_)
      refine lv_iconst (v := 1) hx hb dL_law_911 (by decide) ?_
      refine lv_goto (tgt := 916) hx hb dL_law_912 (by decide) ?_
      refine lv_iadd hx hb dL_law_916 ?_
      refine w_top (show (nI (moN V T i)) + 1 = nI (moN V T i + 1) from nI_1 _) ?_
      refine lv_istore (lv' := [(24, .int (nI (moN V T i + 1))), (27, .int 1), (26, .int 2), (0, .ref b), (1, .ref x), (2, .ref q0), (3, .int (nI t)), (4, .int xv), (5, .long dg), (7, .int (nI n)), (8, .ref y8), (9, .ref y9), (10, .ref y10), (11, .int (nI (mFil G 1 n))), (14, .int (nI N)), (15, .int (nI f)), (16, .int (nI (mRdyN G T f n))), (17, .ref q1), (18, .ref q2), (19, .ref q3), (20, .ref q4), (21, .ref q5), (22, .int (nI (mFil G 2 n))), (23, .int (nI d)), (25, .int (nI i))]) hx hb dL_law_917 hl (by decide) rfl (fun ls hl => ?_)
      refine lv_iload hx hb dL_law_919 (lv_at hl 1 rfl) ?_
      refine lv_iload hx hb dL_law_921 (lv_at hl 2 rfl) ?_
      refine lv_iconst (v := 2) hx hb dL_law_923 (by decide) ?_
      refine lv_icmp_ne (tgt := 940) hx hb dL_law_924 (by decide) (fun c_ => absurd rfl c_) (fun c_273 => ?_)
      refine lv_aload hx hb dL_law_927 (lv_at hl 18 rfl) ?_
      refine lv_iload hx hb dL_law_929 (lv_at hl 24 rfl) ?_
      refine k_iald (j := i) hx hb hE hP (64 + nf + n + (R.length + 1)) ((lw_Ri (i := 1)).trans rfl) hi (Nat.lt_of_le_of_lt hn (by decide)) dL_law_931 ?_
      refine w_top (show (hd_ (V 1) n) i = 1 from (hd_at hi).trans hv) ?_
      refine lv_iconst (v := 2) hx hb dL_law_932 (by decide) ?_
      refine lv_icmp_eq (tgt := 940) hx hb dL_law_933 (by decide) (fun c_ => absurd c_ (by decide)) (fun c_274 => ?_)
      refine lv_iconst (v := 1) hx hb dL_law_936 (by decide) ?_
      refine lv_goto (tgt := 941) hx hb dL_law_937 (by decide) ?_
      refine lv_icmp_ne (tgt := 990) hx hb dL_law_941 (by decide) (fun c_ => absurd rfl c_) (fun c_275 => ?_)
      refine lv_aload hx hb dL_law_944 (lv_at hl 18 rfl) ?_
      refine lv_iload hx hb dL_law_946 (lv_at hl 24 rfl) ?_
      refine k_iald (j := i) hx hb hE hP (64 + nf + n + (R.length + 1)) ((lw_Ri (i := 1)).trans rfl) hi (Nat.lt_of_le_of_lt hn (by decide)) dL_law_948 ?_
      refine w_top (show (hd_ (V 1) n) i = 1 from (hd_at hi).trans hv) ?_
      refine lv_iconst (v := 1) hx hb dL_law_949 (by decide) ?_
      refine lv_icmp_le (tgt := 963) hx hb dL_law_950 (by decide) (fun c_276 => ?_) (fun c_ => absurd (by decide) c_)
      refine lv_iload hx hb dL_law_963 (lv_at hl 2 rfl) ?_
      refine lv_if_ne (tgt := 976) hx hb dL_law_965 (by decide) (fun c_277 => ?_) (fun c_ => absurd c_ (by decide))
      refine lv_aload_n hx hb dL_law_976 rfl (lv_at hl 4 rfl) ?_
      refine lv_iload hx hb dL_law_977 (lv_at hl 24 rfl) ?_
      refine c_pVi (rest := []) hC hE hP (lx_hasOpenFile l S (nI i) (xbag_n hra hi)) gc_RL_133 hd_X4_hasOpenFile ⟨rfl, rfl⟩ ⟨Nat.le_of_ble_eq_true rfl, Nat.le_of_ble_eq_true rfl⟩ 29 lw_29 rfl rfl hl.1 (Nat.le_of_ble_eq_true rfl) ⟨(by show cc ≤ 600130; omega), (by show ss ≤ 7301080; omega)⟩ dL_law_979 ?_
      refine w_top (show bI (rd 40 (S 10) (nI i) = 1) = bI (G 7 i = 1) from bI_cong (by rw [rd_40 (Nat.lt_of_lt_of_le hi hn), hra.fil i hi])) ?_
      refine lv_aload hx hb dL_law_982 (lv_at hl 21 rfl) ?_
      refine lv_iload hx hb dL_law_984 (lv_at hl 24 rfl) ?_
      refine k_zald (j := i) hx hb hE hP (64 + nf + n + (R.length + 4)) ((lw_Ri (i := 4)).trans rfl) hi (Nat.lt_of_le_of_lt hn (by decide)) dL_law_986 ?_
      refine w_top (show (hd_ (opG G) n) i = bI (G 7 i = 1) from hd_at (g := opG G) hi) ?_
      refine lv_icmp_eq (tgt := 992) hx hb dL_law_987 (by decide) (fun c_278 => ?_) (fun c_ => absurd rfl c_)
      refine lv_aload hx hb dL_law_992 (lv_at hl 19 rfl) ?_
      refine lv_iload hx hb dL_law_994 (lv_at hl 24 rfl) ?_
      refine k_iald (j := i) hx hb hE hP (64 + nf + n + (R.length + 2)) ((lw_Ri (i := 2)).trans rfl) hi (Nat.lt_of_le_of_lt hn (by decide)) dL_law_996 ?_
      refine w_top (show (hd_ (V 3) n) i = V 3 i from hd_at hi) ?_
      refine lv_if_lt (tgt := 1014) hx hb dL_law_997 (by decide) (fun c_279 => ?_) (fun c_279 => ?_)
      · refine lv_aload_n hx hb dL_law_1014 rfl (lv_at hl 4 rfl) ?_
        refine lv_iload hx hb dL_law_1015 (lv_at hl 24 rfl) ?_
        refine c_pVi (rest := []) hC hE hP (lx_missesOf l S (nI i) (xbag_n hra hi)) gc_RL_126 hd_X4_missesOf ⟨rfl, rfl⟩ ⟨Nat.le_of_ble_eq_true rfl, Nat.le_of_ble_eq_true rfl⟩ 29 lw_29 rfl rfl hl.1 (Nat.le_of_ble_eq_true rfl) ⟨(by show cc ≤ 600130; omega), (by show ss ≤ 7301080; omega)⟩ dL_law_1017 ?_
        refine w_top (show rd 40 (S 9) (nI i) = T 4 i from (rd_40 (Nat.lt_of_lt_of_le hi hn)).trans (hrb.mis i hi)) ?_
        refine lv_aload hx hb dL_law_1020 (lv_at hl 20 rfl) ?_
        refine lv_iload hx hb dL_law_1022 (lv_at hl 24 rfl) ?_
        refine k_iald (j := i) hx hb hE hP (64 + nf + n + (R.length + 3)) ((lw_Ri (i := 3)).trans rfl) hi (Nat.lt_of_le_of_lt hn (by decide)) dL_law_1024 ?_
        refine w_top (show (hd_ (V 4) n) i = V 4 i from hd_at hi) ?_
        refine lv_icmp_lt (tgt := 1120) hx hb dL_law_1025 (by decide) (fun c_ => absurd c_ (Int32.not_lt.mpr s4)) (fun c_280 => ?_)
        refine lv_aload hx hb dL_law_1028 (lv_at hl 18 rfl) ?_
        refine lv_iload hx hb dL_law_1030 (lv_at hl 24 rfl) ?_
        refine k_iald (j := i) hx hb hE hP (64 + nf + n + (R.length + 1)) ((lw_Ri (i := 1)).trans rfl) hi (Nat.lt_of_le_of_lt hn (by decide)) dL_law_1032 ?_
        refine w_top (show (hd_ (V 1) n) i = 1 from (hd_at hi).trans hv) ?_
        refine lv_iconst (v := 1) hx hb dL_law_1033 (by decide) ?_
        refine lv_icmp_le (tgt := 1065) hx hb dL_law_1034 (by decide) (fun c_281 => ?_) (fun c_ => absurd (by decide) c_)
        refine lv_iload hx hb dL_law_1065 (lv_at hl 2 rfl) ?_
        refine lv_iconst (v := 2) hx hb dL_law_1067 (by decide) ?_
        refine lv_icmp_ne (tgt := 1095) hx hb dL_law_1068 (by decide) (fun c_ => absurd rfl c_) (fun c_282 => ?_)
        refine lv_aload hx hb dL_law_1071 (lv_at hl 18 rfl) ?_
        refine lv_iload hx hb dL_law_1073 (lv_at hl 24 rfl) ?_
        refine k_iald (j := i) hx hb hE hP (64 + nf + n + (R.length + 1)) ((lw_Ri (i := 1)).trans rfl) hi (Nat.lt_of_le_of_lt hn (by decide)) dL_law_1075 ?_
        refine w_top (show (hd_ (V 1) n) i = 1 from (hd_at hi).trans hv) ?_
        refine lv_iconst (v := 2) hx hb dL_law_1076 (by decide) ?_
        refine lv_icmp_ge (tgt := 1095) hx hb dL_law_1077 (by decide) (fun c_ => absurd c_ (by decide)) (fun c_283 => ?_)
        refine lv_aload_n hx hb dL_law_1080 rfl (lv_at hl 4 rfl) ?_
        refine lv_iload hx hb dL_law_1081 (lv_at hl 24 rfl) ?_
        refine c_pVi (rest := []) hC hE hP (lx_chuteOf l S (nI i) (xbag_n hra hi)) gc_RL_120 hd_X4_chuteOf ⟨rfl, rfl⟩ ⟨Nat.le_of_ble_eq_true rfl, Nat.le_of_ble_eq_true rfl⟩ 29 lw_29 rfl rfl hl.1 (Nat.le_of_ble_eq_true rfl) ⟨(by show cc ≤ 600130; omega), (by show ss ≤ 7301080; omega)⟩ dL_law_1083 ?_
        refine w_top (show rd 40 (S 7) (nI i) = mPl T i 2 from (rd_40 (Nat.lt_of_lt_of_le hi hn)).trans (chute_eq hrb hi)) ?_
        refine w_top (show mPl T i 2 = T 2 i from sel_t ht _ _) ?_
        refine lv_aload_n hx hb dL_law_1086 rfl (lv_at hl 4 rfl) ?_
        refine lv_iload hx hb dL_law_1087 (lv_at hl 24 rfl) ?_
        refine c_pVi (rest := [.int (T 2 i)]) hC hE hP (lx_readFor l S (nI i) (xbag_n hra hi)) gc_RL_129 hd_X4_readFor ⟨rfl, rfl⟩ ⟨Nat.le_of_ble_eq_true rfl, Nat.le_of_ble_eq_true rfl⟩ 29 lw_29 rfl rfl hl.1 (Nat.le_of_ble_eq_true rfl) ⟨(by show cc ≤ 600130; omega), (by show ss ≤ 7301080; omega)⟩ dL_law_1089 ?_
        refine w_top (show rd 40 (S 8) (nI i) = T 3 i from (rd_40 (Nat.lt_of_lt_of_le hi hn)).trans (hrb.rdd i hi)) ?_
        refine lv_icmp_ne (tgt := 1120) hx hb dL_law_1092 (by decide) (fun c_ => absurd (s5 (Or.inr hv) ht) c_) (fun c_284 => ?_)
        refine lv_iload hx hb dL_law_1095 (lv_at hl 2 rfl) ?_
        refine lv_iconst (v := 3) hx hb dL_law_1097 (by decide) ?_
        refine lv_icmp_ne (tgt := 1122) hx hb dL_law_1098 (by decide) (fun c_285 => ?_) (fun c_ => absurd c_ (by decide))
        refine lv_iinc (v := nI (i + 1)) (lv' := [(25, .int (nI (i + 1))), (24, .int (nI (moN V T i + 1))), (27, .int 1), (26, .int 2), (0, .ref b), (1, .ref x), (2, .ref q0), (3, .int (nI t)), (4, .int xv), (5, .long dg), (7, .int (nI n)), (8, .ref y8), (9, .ref y9), (10, .ref y10), (11, .int (nI (mFil G 1 n))), (14, .int (nI N)), (15, .int (nI f)), (16, .int (nI (mRdyN G T f n))), (17, .ref q1), (18, .ref q2), (19, .ref q3), (20, .ref q4), (21, .ref q5), (22, .int (nI (mFil G 2 n))), (23, .int (nI d))]) hx hb dL_law_1122 hl (k := 24) rfl (iinc1 _) (by decide) rfl (fun ls hl => ?_)
        refine lv_goto (tgt := 864) hx hb dL_law_1125 (by decide) ?_
        have e9 : moN V T (i + 1) = moN V T i + 1 := moN_t ht (by rw [hv]; decide)
        exact ih ls trivial (by show lv_has ls 28 [(0, .ref b), (1, .ref x), (2, .ref q0), (3, .int (nI t)), (4, .int xv), (5, .long dg), (7, .int (nI n)), (8, .ref y8), (9, .ref y9), (10, .ref y10), (11, .int (nI (mFil G 1 n))), (14, .int (nI N)), (15, .int (nI f)), (16, .int (nI (mRdyN G T f n))), (17, .ref q1), (18, .ref q2), (19, .ref q3), (20, .ref q4), (21, .ref q5), (22, .int (nI (mFil G 2 n))), (23, .int (nI d)), (24, .int (nI (moN V T (i + 1)))), (25, .int (nI (i + 1)))]; rw [e9]; exact lv_sub hl [4, 5, 6, 7, 8, 9, 10, 11, 12, 13, 14, 15, 16, 17, 18, 19, 20, 21, 22, 23, 24, 1, 0] rfl)
      · refine lv_aload_n hx hb dL_law_1000 rfl (lv_at hl 4 rfl) ?_
        refine lv_iload hx hb dL_law_1001 (lv_at hl 24 rfl) ?_
        refine c_pVi (rest := []) hC hE hP (lx_readFor l S (nI i) (xbag_n hra hi)) gc_RL_129 hd_X4_readFor ⟨rfl, rfl⟩ ⟨Nat.le_of_ble_eq_true rfl, Nat.le_of_ble_eq_true rfl⟩ 29 lw_29 rfl rfl hl.1 (Nat.le_of_ble_eq_true rfl) ⟨(by show cc ≤ 600130; omega), (by show ss ≤ 7301080; omega)⟩ dL_law_1003 ?_
        refine w_top (show rd 40 (S 8) (nI i) = T 3 i from (rd_40 (Nat.lt_of_lt_of_le hi hn)).trans (hrb.rdd i hi)) ?_
        refine lv_aload hx hb dL_law_1006 (lv_at hl 19 rfl) ?_
        refine lv_iload hx hb dL_law_1008 (lv_at hl 24 rfl) ?_
        refine k_iald (j := i) hx hb hE hP (64 + nf + n + (R.length + 2)) ((lw_Ri (i := 2)).trans rfl) hi (Nat.lt_of_le_of_lt hn (by decide)) dL_law_1010 ?_
        refine w_top (show (hd_ (V 3) n) i = V 3 i from hd_at hi) ?_
        refine lv_icmp_ne (tgt := 1120) hx hb dL_law_1011 (by decide) (fun c_ => absurd (s3 (fun z => c_279 (by rw [z]; decide))) c_) (fun c_286 => ?_)
        refine lv_aload_n hx hb dL_law_1014 rfl (lv_at hl 4 rfl) ?_
        refine lv_iload hx hb dL_law_1015 (lv_at hl 24 rfl) ?_
        refine c_pVi (rest := []) hC hE hP (lx_missesOf l S (nI i) (xbag_n hra hi)) gc_RL_126 hd_X4_missesOf ⟨rfl, rfl⟩ ⟨Nat.le_of_ble_eq_true rfl, Nat.le_of_ble_eq_true rfl⟩ 29 lw_29 rfl rfl hl.1 (Nat.le_of_ble_eq_true rfl) ⟨(by show cc ≤ 600130; omega), (by show ss ≤ 7301080; omega)⟩ dL_law_1017 ?_
        refine w_top (show rd 40 (S 9) (nI i) = T 4 i from (rd_40 (Nat.lt_of_lt_of_le hi hn)).trans (hrb.mis i hi)) ?_
        refine lv_aload hx hb dL_law_1020 (lv_at hl 20 rfl) ?_
        refine lv_iload hx hb dL_law_1022 (lv_at hl 24 rfl) ?_
        refine k_iald (j := i) hx hb hE hP (64 + nf + n + (R.length + 3)) ((lw_Ri (i := 3)).trans rfl) hi (Nat.lt_of_le_of_lt hn (by decide)) dL_law_1024 ?_
        refine w_top (show (hd_ (V 4) n) i = V 4 i from hd_at hi) ?_
        refine lv_icmp_lt (tgt := 1120) hx hb dL_law_1025 (by decide) (fun c_ => absurd c_ (Int32.not_lt.mpr s4)) (fun c_287 => ?_)
        refine lv_aload hx hb dL_law_1028 (lv_at hl 18 rfl) ?_
        refine lv_iload hx hb dL_law_1030 (lv_at hl 24 rfl) ?_
        refine k_iald (j := i) hx hb hE hP (64 + nf + n + (R.length + 1)) ((lw_Ri (i := 1)).trans rfl) hi (Nat.lt_of_le_of_lt hn (by decide)) dL_law_1032 ?_
        refine w_top (show (hd_ (V 1) n) i = 1 from (hd_at hi).trans hv) ?_
        refine lv_iconst (v := 1) hx hb dL_law_1033 (by decide) ?_
        refine lv_icmp_le (tgt := 1065) hx hb dL_law_1034 (by decide) (fun c_288 => ?_) (fun c_ => absurd (by decide) c_)
        refine lv_iload hx hb dL_law_1065 (lv_at hl 2 rfl) ?_
        refine lv_iconst (v := 2) hx hb dL_law_1067 (by decide) ?_
        refine lv_icmp_ne (tgt := 1095) hx hb dL_law_1068 (by decide) (fun c_ => absurd rfl c_) (fun c_289 => ?_)
        refine lv_aload hx hb dL_law_1071 (lv_at hl 18 rfl) ?_
        refine lv_iload hx hb dL_law_1073 (lv_at hl 24 rfl) ?_
        refine k_iald (j := i) hx hb hE hP (64 + nf + n + (R.length + 1)) ((lw_Ri (i := 1)).trans rfl) hi (Nat.lt_of_le_of_lt hn (by decide)) dL_law_1075 ?_
        refine w_top (show (hd_ (V 1) n) i = 1 from (hd_at hi).trans hv) ?_
        refine lv_iconst (v := 2) hx hb dL_law_1076 (by decide) ?_
        refine lv_icmp_ge (tgt := 1095) hx hb dL_law_1077 (by decide) (fun c_ => absurd c_ (by decide)) (fun c_290 => ?_)
        refine lv_aload_n hx hb dL_law_1080 rfl (lv_at hl 4 rfl) ?_
        refine lv_iload hx hb dL_law_1081 (lv_at hl 24 rfl) ?_
        refine c_pVi (rest := []) hC hE hP (lx_chuteOf l S (nI i) (xbag_n hra hi)) gc_RL_120 hd_X4_chuteOf ⟨rfl, rfl⟩ ⟨Nat.le_of_ble_eq_true rfl, Nat.le_of_ble_eq_true rfl⟩ 29 lw_29 rfl rfl hl.1 (Nat.le_of_ble_eq_true rfl) ⟨(by show cc ≤ 600130; omega), (by show ss ≤ 7301080; omega)⟩ dL_law_1083 ?_
        refine w_top (show rd 40 (S 7) (nI i) = mPl T i 2 from (rd_40 (Nat.lt_of_lt_of_le hi hn)).trans (chute_eq hrb hi)) ?_
        refine w_top (show mPl T i 2 = T 2 i from sel_t ht _ _) ?_
        refine lv_aload_n hx hb dL_law_1086 rfl (lv_at hl 4 rfl) ?_
        refine lv_iload hx hb dL_law_1087 (lv_at hl 24 rfl) ?_
        refine c_pVi (rest := [.int (T 2 i)]) hC hE hP (lx_readFor l S (nI i) (xbag_n hra hi)) gc_RL_129 hd_X4_readFor ⟨rfl, rfl⟩ ⟨Nat.le_of_ble_eq_true rfl, Nat.le_of_ble_eq_true rfl⟩ 29 lw_29 rfl rfl hl.1 (Nat.le_of_ble_eq_true rfl) ⟨(by show cc ≤ 600130; omega), (by show ss ≤ 7301080; omega)⟩ dL_law_1089 ?_
        refine w_top (show rd 40 (S 8) (nI i) = T 3 i from (rd_40 (Nat.lt_of_lt_of_le hi hn)).trans (hrb.rdd i hi)) ?_
        refine lv_icmp_ne (tgt := 1120) hx hb dL_law_1092 (by decide) (fun c_ => absurd (s5 (Or.inr hv) ht) c_) (fun c_291 => ?_)
        refine lv_iload hx hb dL_law_1095 (lv_at hl 2 rfl) ?_
        refine lv_iconst (v := 3) hx hb dL_law_1097 (by decide) ?_
        refine lv_icmp_ne (tgt := 1122) hx hb dL_law_1098 (by decide) (fun c_292 => ?_) (fun c_ => absurd c_ (by decide))
        refine lv_iinc (v := nI (i + 1)) (lv' := [(25, .int (nI (i + 1))), (24, .int (nI (moN V T i + 1))), (27, .int 1), (26, .int 2), (0, .ref b), (1, .ref x), (2, .ref q0), (3, .int (nI t)), (4, .int xv), (5, .long dg), (7, .int (nI n)), (8, .ref y8), (9, .ref y9), (10, .ref y10), (11, .int (nI (mFil G 1 n))), (14, .int (nI N)), (15, .int (nI f)), (16, .int (nI (mRdyN G T f n))), (17, .ref q1), (18, .ref q2), (19, .ref q3), (20, .ref q4), (21, .ref q5), (22, .int (nI (mFil G 2 n))), (23, .int (nI d))]) hx hb dL_law_1122 hl (k := 24) rfl (iinc1 _) (by decide) rfl (fun ls hl => ?_)
        refine lv_goto (tgt := 864) hx hb dL_law_1125 (by decide) ?_
        have e9 : moN V T (i + 1) = moN V T i + 1 := moN_t ht (by rw [hv]; decide)
        exact ih ls trivial (by show lv_has ls 28 [(0, .ref b), (1, .ref x), (2, .ref q0), (3, .int (nI t)), (4, .int xv), (5, .long dg), (7, .int (nI n)), (8, .ref y8), (9, .ref y9), (10, .ref y10), (11, .int (nI (mFil G 1 n))), (14, .int (nI N)), (15, .int (nI f)), (16, .int (nI (mRdyN G T f n))), (17, .ref q1), (18, .ref q2), (19, .ref q3), (20, .ref q4), (21, .ref q5), (22, .int (nI (mFil G 2 n))), (23, .int (nI d)), (24, .int (nI (moN V T (i + 1)))), (25, .int (nI (i + 1)))]; rw [e9]; exact lv_sub hl [4, 5, 6, 7, 8, 9, 10, 11, 12, 13, 14, 15, 16, 17, 18, 19, 20, 21, 22, 23, 24, 1, 0] rfl)
    · by_cases z9 : mUnA G V i ≤ 0
      · refine lv_aload_n hx hb dL_law_871 rfl (lv_at hl 1 rfl) ?_
        refine lv_iload hx hb dL_law_872 (lv_at hl 22 rfl) ?_
        refine c_pVi (rest := []) hC hE hP (lx_whereIs l S (nI i) (xbag_n hra hi)) gc_RL_114 hd_X4_whereIs ⟨rfl, rfl⟩ ⟨Nat.le_of_ble_eq_true rfl, Nat.le_of_ble_eq_true rfl⟩ 29 lw_29 rfl rfl hl.1 (Nat.le_of_ble_eq_true rfl) ⟨(by show cc ≤ 600130; omega), (by show ss ≤ 7301080; omega)⟩ dL_law_874 ?_
        refine w_top (show rd 40 (S 6) (nI i) = T 1 i from (rd_40 (Nat.lt_of_lt_of_le hi hn)).trans (hrb.whr i hi)) ?_
        refine w_top (show T 1 i = 3 from ht) ?_
        refine lv_istore (lv' := [(26, .int 3), (0, .ref b), (1, .ref x), (2, .ref q0), (3, .int (nI t)), (4, .int xv), (5, .long dg), (7, .int (nI n)), (8, .ref y8), (9, .ref y9), (10, .ref y10), (11, .int (nI (mFil G 1 n))), (14, .int (nI N)), (15, .int (nI f)), (16, .int (nI (mRdyN G T f n))), (17, .ref q1), (18, .ref q2), (19, .ref q3), (20, .ref q4), (21, .ref q5), (22, .int (nI (mFil G 2 n))), (23, .int (nI d)), (24, .int (nI (moN V T i))), (25, .int (nI i))]) hx hb dL_law_877 hl (by decide) rfl (fun ls hl => ?_)
        refine lv_aload hx hb dL_law_879 (lv_at hl 15 rfl) ?_
        refine lv_iload hx hb dL_law_881 (lv_at hl 23 rfl) ?_
        refine k_iald (j := i) hx hb hE hP (64 + nf + n + (R.length + 0)) ((lw_Ri (i := 0)).trans rfl) hi (Nat.lt_of_le_of_lt hn (by decide)) dL_law_883 ?_
        refine w_top (show (hd_ (mUnA G V) n) i = mUnA G V i from hd_at hi) ?_
        refine lv_if_le (tgt := 901) hx hb dL_law_884 (by decide) (fun c_293 => ?_) (fun c_ => absurd z9 c_)
        refine lv_iconst (v := 0) hx hb dL_law_901 (by decide) ?_
        refine lv_istore (lv' := [(27, .int 0), (26, .int 3), (0, .ref b), (1, .ref x), (2, .ref q0), (3, .int (nI t)), (4, .int xv), (5, .long dg), (7, .int (nI n)), (8, .ref y8), (9, .ref y9), (10, .ref y10), (11, .int (nI (mFil G 1 n))), (14, .int (nI N)), (15, .int (nI f)), (16, .int (nI (mRdyN G T f n))), (17, .ref q1), (18, .ref q2), (19, .ref q3), (20, .ref q4), (21, .ref q5), (22, .int (nI (mFil G 2 n))), (23, .int (nI d)), (24, .int (nI (moN V T i))), (25, .int (nI i))]) hx hb dL_law_902 hl (by decide) rfl (fun ls hl => ?_)
        refine lv_iload hx hb dL_law_904 (lv_at hl 23 rfl) ?_
        refine lv_iload hx hb dL_law_906 (lv_at hl 0 rfl) ?_
        refine lv_if_eq (tgt := 915) hx hb dL_law_908 (by decide) (fun c_294 => ?_) (fun c_ => absurd rfl c_)
        refine lv_iconst (v := 0) hx hb dL_law_915 (by decide) ?_
        refine lv_iadd hx hb dL_law_916 ?_
        refine w_top (show (nI (moN V T i)) + 0 = nI (moN V T i) from Int32.add_zero _) ?_
        refine lv_istore (lv' := [(24, .int (nI (moN V T i))), (27, .int 0), (26, .int 3), (0, .ref b), (1, .ref x), (2, .ref q0), (3, .int (nI t)), (4, .int xv), (5, .long dg), (7, .int (nI n)), (8, .ref y8), (9, .ref y9), (10, .ref y10), (11, .int (nI (mFil G 1 n))), (14, .int (nI N)), (15, .int (nI f)), (16, .int (nI (mRdyN G T f n))), (17, .ref q1), (18, .ref q2), (19, .ref q3), (20, .ref q4), (21, .ref q5), (22, .int (nI (mFil G 2 n))), (23, .int (nI d)), (25, .int (nI i))]) hx hb dL_law_917 hl (by decide) rfl (fun ls hl => ?_)
        refine lv_iload hx hb dL_law_919 (lv_at hl 1 rfl) ?_
        refine lv_iload hx hb dL_law_921 (lv_at hl 2 rfl) ?_
        refine lv_iconst (v := 2) hx hb dL_law_923 (by decide) ?_
        refine lv_icmp_ne (tgt := 940) hx hb dL_law_924 (by decide) (fun c_295 => ?_) (fun c_ => absurd c_ (by decide))
        refine lv_iconst (v := 0) hx hb dL_law_940 (by decide) ?_
        refine lv_icmp_ne (tgt := 990) hx hb dL_law_941 (by decide) (fun c_ => absurd rfl c_) (fun c_296 => ?_)
        refine lv_aload hx hb dL_law_944 (lv_at hl 18 rfl) ?_
        refine lv_iload hx hb dL_law_946 (lv_at hl 24 rfl) ?_
        refine k_iald (j := i) hx hb hE hP (64 + nf + n + (R.length + 1)) ((lw_Ri (i := 1)).trans rfl) hi (Nat.lt_of_le_of_lt hn (by decide)) dL_law_948 ?_
        refine w_top (show (hd_ (V 1) n) i = 1 from (hd_at hi).trans hv) ?_
        refine lv_iconst (v := 1) hx hb dL_law_949 (by decide) ?_
        refine lv_icmp_le (tgt := 963) hx hb dL_law_950 (by decide) (fun c_297 => ?_) (fun c_ => absurd (by decide) c_)
        refine lv_iload hx hb dL_law_963 (lv_at hl 2 rfl) ?_
        refine lv_if_ne (tgt := 976) hx hb dL_law_965 (by decide) (fun c_298 => ?_) (fun c_ => absurd c_ (by decide))
        refine lv_aload_n hx hb dL_law_976 rfl (lv_at hl 4 rfl) ?_
        refine lv_iload hx hb dL_law_977 (lv_at hl 24 rfl) ?_
        refine c_pVi (rest := []) hC hE hP (lx_hasOpenFile l S (nI i) (xbag_n hra hi)) gc_RL_133 hd_X4_hasOpenFile ⟨rfl, rfl⟩ ⟨Nat.le_of_ble_eq_true rfl, Nat.le_of_ble_eq_true rfl⟩ 29 lw_29 rfl rfl hl.1 (Nat.le_of_ble_eq_true rfl) ⟨(by show cc ≤ 600130; omega), (by show ss ≤ 7301080; omega)⟩ dL_law_979 ?_
        refine w_top (show bI (rd 40 (S 10) (nI i) = 1) = bI (G 7 i = 1) from bI_cong (by rw [rd_40 (Nat.lt_of_lt_of_le hi hn), hra.fil i hi])) ?_
        refine lv_aload hx hb dL_law_982 (lv_at hl 21 rfl) ?_
        refine lv_iload hx hb dL_law_984 (lv_at hl 24 rfl) ?_
        refine k_zald (j := i) hx hb hE hP (64 + nf + n + (R.length + 4)) ((lw_Ri (i := 4)).trans rfl) hi (Nat.lt_of_le_of_lt hn (by decide)) dL_law_986 ?_
        refine w_top (show (hd_ (opG G) n) i = bI (G 7 i = 1) from hd_at (g := opG G) hi) ?_
        refine lv_icmp_eq (tgt := 992) hx hb dL_law_987 (by decide) (fun c_299 => ?_) (fun c_ => absurd rfl c_)
        refine lv_aload hx hb dL_law_992 (lv_at hl 19 rfl) ?_
        refine lv_iload hx hb dL_law_994 (lv_at hl 24 rfl) ?_
        refine k_iald (j := i) hx hb hE hP (64 + nf + n + (R.length + 2)) ((lw_Ri (i := 2)).trans rfl) hi (Nat.lt_of_le_of_lt hn (by decide)) dL_law_996 ?_
        refine w_top (show (hd_ (V 3) n) i = V 3 i from hd_at hi) ?_
        refine lv_if_lt (tgt := 1014) hx hb dL_law_997 (by decide) (fun c_300 => ?_) (fun c_300 => ?_)
        · refine lv_aload_n hx hb dL_law_1014 rfl (lv_at hl 4 rfl) ?_
          refine lv_iload hx hb dL_law_1015 (lv_at hl 24 rfl) ?_
          refine c_pVi (rest := []) hC hE hP (lx_missesOf l S (nI i) (xbag_n hra hi)) gc_RL_126 hd_X4_missesOf ⟨rfl, rfl⟩ ⟨Nat.le_of_ble_eq_true rfl, Nat.le_of_ble_eq_true rfl⟩ 29 lw_29 rfl rfl hl.1 (Nat.le_of_ble_eq_true rfl) ⟨(by show cc ≤ 600130; omega), (by show ss ≤ 7301080; omega)⟩ dL_law_1017 ?_
          refine w_top (show rd 40 (S 9) (nI i) = T 4 i from (rd_40 (Nat.lt_of_lt_of_le hi hn)).trans (hrb.mis i hi)) ?_
          refine lv_aload hx hb dL_law_1020 (lv_at hl 20 rfl) ?_
          refine lv_iload hx hb dL_law_1022 (lv_at hl 24 rfl) ?_
          refine k_iald (j := i) hx hb hE hP (64 + nf + n + (R.length + 3)) ((lw_Ri (i := 3)).trans rfl) hi (Nat.lt_of_le_of_lt hn (by decide)) dL_law_1024 ?_
          refine w_top (show (hd_ (V 4) n) i = V 4 i from hd_at hi) ?_
          refine lv_icmp_lt (tgt := 1120) hx hb dL_law_1025 (by decide) (fun c_ => absurd c_ (Int32.not_lt.mpr s4)) (fun c_301 => ?_)
          refine lv_aload hx hb dL_law_1028 (lv_at hl 18 rfl) ?_
          refine lv_iload hx hb dL_law_1030 (lv_at hl 24 rfl) ?_
          refine k_iald (j := i) hx hb hE hP (64 + nf + n + (R.length + 1)) ((lw_Ri (i := 1)).trans rfl) hi (Nat.lt_of_le_of_lt hn (by decide)) dL_law_1032 ?_
          refine w_top (show (hd_ (V 1) n) i = 1 from (hd_at hi).trans hv) ?_
          refine lv_iconst (v := 1) hx hb dL_law_1033 (by decide) ?_
          refine lv_icmp_le (tgt := 1065) hx hb dL_law_1034 (by decide) (fun c_302 => ?_) (fun c_ => absurd (by decide) c_)
          refine lv_iload hx hb dL_law_1065 (lv_at hl 2 rfl) ?_
          refine lv_iconst (v := 2) hx hb dL_law_1067 (by decide) ?_
          refine lv_icmp_ne (tgt := 1095) hx hb dL_law_1068 (by decide) (fun c_303 => ?_) (fun c_ => absurd c_ (by decide))
          refine lv_iload hx hb dL_law_1095 (lv_at hl 2 rfl) ?_
          refine lv_iconst (v := 3) hx hb dL_law_1097 (by decide) ?_
          refine lv_icmp_ne (tgt := 1122) hx hb dL_law_1098 (by decide) (fun c_ => absurd rfl c_) (fun c_304 => ?_)
          refine lv_aload hx hb dL_law_1101 (lv_at hl 18 rfl) ?_
          refine lv_iload hx hb dL_law_1103 (lv_at hl 24 rfl) ?_
          refine k_iald (j := i) hx hb hE hP (64 + nf + n + (R.length + 1)) ((lw_Ri (i := 1)).trans rfl) hi (Nat.lt_of_le_of_lt hn (by decide)) dL_law_1105 ?_
          refine w_top (show (hd_ (V 1) n) i = 1 from (hd_at hi).trans hv) ?_
          refine lv_iconst (v := 1) hx hb dL_law_1106 (by decide) ?_
          refine lv_icmp_ne (tgt := 1122) hx hb dL_law_1107 (by decide) (fun c_ => absurd rfl c_) (fun c_305 => ?_)
          refine lv_aload_n hx hb dL_law_1110 rfl (lv_at hl 4 rfl) ?_
          refine lv_iload hx hb dL_law_1111 (lv_at hl 24 rfl) ?_
          refine c_pVi (rest := []) hC hE hP (lx_missesOf l S (nI i) (xbag_n hra hi)) gc_RL_126 hd_X4_missesOf ⟨rfl, rfl⟩ ⟨Nat.le_of_ble_eq_true rfl, Nat.le_of_ble_eq_true rfl⟩ 29 lw_29 rfl rfl hl.1 (Nat.le_of_ble_eq_true rfl) ⟨(by show cc ≤ 600130; omega), (by show ss ≤ 7301080; omega)⟩ dL_law_1113 ?_
          refine w_top (show rd 40 (S 9) (nI i) = T 4 i from (rd_40 (Nat.lt_of_lt_of_le hi hn)).trans (hrb.mis i hi)) ?_
          refine lv_iconst (v := 3) hx hb dL_law_1116 (by decide) ?_
          refine lv_icmp_eq (tgt := 1122) hx hb dL_law_1117 (by decide) (fun c_306 => ?_) (fun c_ => absurd (s6 (Or.inr hv) ht) c_)
          refine lv_iinc (v := nI (i + 1)) (lv' := [(25, .int (nI (i + 1))), (24, .int (nI (moN V T i))), (27, .int 0), (26, .int 3), (0, .ref b), (1, .ref x), (2, .ref q0), (3, .int (nI t)), (4, .int xv), (5, .long dg), (7, .int (nI n)), (8, .ref y8), (9, .ref y9), (10, .ref y10), (11, .int (nI (mFil G 1 n))), (14, .int (nI N)), (15, .int (nI f)), (16, .int (nI (mRdyN G T f n))), (17, .ref q1), (18, .ref q2), (19, .ref q3), (20, .ref q4), (21, .ref q5), (22, .int (nI (mFil G 2 n))), (23, .int (nI d))]) hx hb dL_law_1122 hl (k := 24) rfl (iinc1 _) (by decide) rfl (fun ls hl => ?_)
          refine lv_goto (tgt := 864) hx hb dL_law_1125 (by decide) ?_
          have e9 : moN V T (i + 1) = moN V T i := moN_f (fun z => absurd (ht.symm.trans z.1) (by decide))
          exact ih ls trivial (by show lv_has ls 28 [(0, .ref b), (1, .ref x), (2, .ref q0), (3, .int (nI t)), (4, .int xv), (5, .long dg), (7, .int (nI n)), (8, .ref y8), (9, .ref y9), (10, .ref y10), (11, .int (nI (mFil G 1 n))), (14, .int (nI N)), (15, .int (nI f)), (16, .int (nI (mRdyN G T f n))), (17, .ref q1), (18, .ref q2), (19, .ref q3), (20, .ref q4), (21, .ref q5), (22, .int (nI (mFil G 2 n))), (23, .int (nI d)), (24, .int (nI (moN V T (i + 1)))), (25, .int (nI (i + 1)))]; rw [e9]; exact lv_sub hl [4, 5, 6, 7, 8, 9, 10, 11, 12, 13, 14, 15, 16, 17, 18, 19, 20, 21, 22, 23, 24, 1, 0] rfl)
        · refine lv_aload_n hx hb dL_law_1000 rfl (lv_at hl 4 rfl) ?_
          refine lv_iload hx hb dL_law_1001 (lv_at hl 24 rfl) ?_
          refine c_pVi (rest := []) hC hE hP (lx_readFor l S (nI i) (xbag_n hra hi)) gc_RL_129 hd_X4_readFor ⟨rfl, rfl⟩ ⟨Nat.le_of_ble_eq_true rfl, Nat.le_of_ble_eq_true rfl⟩ 29 lw_29 rfl rfl hl.1 (Nat.le_of_ble_eq_true rfl) ⟨(by show cc ≤ 600130; omega), (by show ss ≤ 7301080; omega)⟩ dL_law_1003 ?_
          refine w_top (show rd 40 (S 8) (nI i) = T 3 i from (rd_40 (Nat.lt_of_lt_of_le hi hn)).trans (hrb.rdd i hi)) ?_
          refine lv_aload hx hb dL_law_1006 (lv_at hl 19 rfl) ?_
          refine lv_iload hx hb dL_law_1008 (lv_at hl 24 rfl) ?_
          refine k_iald (j := i) hx hb hE hP (64 + nf + n + (R.length + 2)) ((lw_Ri (i := 2)).trans rfl) hi (Nat.lt_of_le_of_lt hn (by decide)) dL_law_1010 ?_
          refine w_top (show (hd_ (V 3) n) i = V 3 i from hd_at hi) ?_
          refine lv_icmp_ne (tgt := 1120) hx hb dL_law_1011 (by decide) (fun c_ => absurd (s3 (fun z => c_300 (by rw [z]; decide))) c_) (fun c_307 => ?_)
          refine lv_aload_n hx hb dL_law_1014 rfl (lv_at hl 4 rfl) ?_
          refine lv_iload hx hb dL_law_1015 (lv_at hl 24 rfl) ?_
          refine c_pVi (rest := []) hC hE hP (lx_missesOf l S (nI i) (xbag_n hra hi)) gc_RL_126 hd_X4_missesOf ⟨rfl, rfl⟩ ⟨Nat.le_of_ble_eq_true rfl, Nat.le_of_ble_eq_true rfl⟩ 29 lw_29 rfl rfl hl.1 (Nat.le_of_ble_eq_true rfl) ⟨(by show cc ≤ 600130; omega), (by show ss ≤ 7301080; omega)⟩ dL_law_1017 ?_
          refine w_top (show rd 40 (S 9) (nI i) = T 4 i from (rd_40 (Nat.lt_of_lt_of_le hi hn)).trans (hrb.mis i hi)) ?_
          refine lv_aload hx hb dL_law_1020 (lv_at hl 20 rfl) ?_
          refine lv_iload hx hb dL_law_1022 (lv_at hl 24 rfl) ?_
          refine k_iald (j := i) hx hb hE hP (64 + nf + n + (R.length + 3)) ((lw_Ri (i := 3)).trans rfl) hi (Nat.lt_of_le_of_lt hn (by decide)) dL_law_1024 ?_
          refine w_top (show (hd_ (V 4) n) i = V 4 i from hd_at hi) ?_
          refine lv_icmp_lt (tgt := 1120) hx hb dL_law_1025 (by decide) (fun c_ => absurd c_ (Int32.not_lt.mpr s4)) (fun c_308 => ?_)
          refine lv_aload hx hb dL_law_1028 (lv_at hl 18 rfl) ?_
          refine lv_iload hx hb dL_law_1030 (lv_at hl 24 rfl) ?_
          refine k_iald (j := i) hx hb hE hP (64 + nf + n + (R.length + 1)) ((lw_Ri (i := 1)).trans rfl) hi (Nat.lt_of_le_of_lt hn (by decide)) dL_law_1032 ?_
          refine w_top (show (hd_ (V 1) n) i = 1 from (hd_at hi).trans hv) ?_
          refine lv_iconst (v := 1) hx hb dL_law_1033 (by decide) ?_
          refine lv_icmp_le (tgt := 1065) hx hb dL_law_1034 (by decide) (fun c_309 => ?_) (fun c_ => absurd (by decide) c_)
          refine lv_iload hx hb dL_law_1065 (lv_at hl 2 rfl) ?_
          refine lv_iconst (v := 2) hx hb dL_law_1067 (by decide) ?_
          refine lv_icmp_ne (tgt := 1095) hx hb dL_law_1068 (by decide) (fun c_310 => ?_) (fun c_ => absurd c_ (by decide))
          refine lv_iload hx hb dL_law_1095 (lv_at hl 2 rfl) ?_
          refine lv_iconst (v := 3) hx hb dL_law_1097 (by decide) ?_
          refine lv_icmp_ne (tgt := 1122) hx hb dL_law_1098 (by decide) (fun c_ => absurd rfl c_) (fun c_311 => ?_)
          refine lv_aload hx hb dL_law_1101 (lv_at hl 18 rfl) ?_
          refine lv_iload hx hb dL_law_1103 (lv_at hl 24 rfl) ?_
          refine k_iald (j := i) hx hb hE hP (64 + nf + n + (R.length + 1)) ((lw_Ri (i := 1)).trans rfl) hi (Nat.lt_of_le_of_lt hn (by decide)) dL_law_1105 ?_
          refine w_top (show (hd_ (V 1) n) i = 1 from (hd_at hi).trans hv) ?_
          refine lv_iconst (v := 1) hx hb dL_law_1106 (by decide) ?_
          refine lv_icmp_ne (tgt := 1122) hx hb dL_law_1107 (by decide) (fun c_ => absurd rfl c_) (fun c_312 => ?_)
          refine lv_aload_n hx hb dL_law_1110 rfl (lv_at hl 4 rfl) ?_
          refine lv_iload hx hb dL_law_1111 (lv_at hl 24 rfl) ?_
          refine c_pVi (rest := []) hC hE hP (lx_missesOf l S (nI i) (xbag_n hra hi)) gc_RL_126 hd_X4_missesOf ⟨rfl, rfl⟩ ⟨Nat.le_of_ble_eq_true rfl, Nat.le_of_ble_eq_true rfl⟩ 29 lw_29 rfl rfl hl.1 (Nat.le_of_ble_eq_true rfl) ⟨(by show cc ≤ 600130; omega), (by show ss ≤ 7301080; omega)⟩ dL_law_1113 ?_
          refine w_top (show rd 40 (S 9) (nI i) = T 4 i from (rd_40 (Nat.lt_of_lt_of_le hi hn)).trans (hrb.mis i hi)) ?_
          refine lv_iconst (v := 3) hx hb dL_law_1116 (by decide) ?_
          refine lv_icmp_eq (tgt := 1122) hx hb dL_law_1117 (by decide) (fun c_313 => ?_) (fun c_ => absurd (s6 (Or.inr hv) ht) c_)
          refine lv_iinc (v := nI (i + 1)) (lv' := [(25, .int (nI (i + 1))), (24, .int (nI (moN V T i))), (27, .int 0), (26, .int 3), (0, .ref b), (1, .ref x), (2, .ref q0), (3, .int (nI t)), (4, .int xv), (5, .long dg), (7, .int (nI n)), (8, .ref y8), (9, .ref y9), (10, .ref y10), (11, .int (nI (mFil G 1 n))), (14, .int (nI N)), (15, .int (nI f)), (16, .int (nI (mRdyN G T f n))), (17, .ref q1), (18, .ref q2), (19, .ref q3), (20, .ref q4), (21, .ref q5), (22, .int (nI (mFil G 2 n))), (23, .int (nI d))]) hx hb dL_law_1122 hl (k := 24) rfl (iinc1 _) (by decide) rfl (fun ls hl => ?_)
          refine lv_goto (tgt := 864) hx hb dL_law_1125 (by decide) ?_
          have e9 : moN V T (i + 1) = moN V T i := moN_f (fun z => absurd (ht.symm.trans z.1) (by decide))
          exact ih ls trivial (by show lv_has ls 28 [(0, .ref b), (1, .ref x), (2, .ref q0), (3, .int (nI t)), (4, .int xv), (5, .long dg), (7, .int (nI n)), (8, .ref y8), (9, .ref y9), (10, .ref y10), (11, .int (nI (mFil G 1 n))), (14, .int (nI N)), (15, .int (nI f)), (16, .int (nI (mRdyN G T f n))), (17, .ref q1), (18, .ref q2), (19, .ref q3), (20, .ref q4), (21, .ref q5), (22, .int (nI (mFil G 2 n))), (23, .int (nI d)), (24, .int (nI (moN V T (i + 1)))), (25, .int (nI (i + 1)))]; rw [e9]; exact lv_sub hl [4, 5, 6, 7, 8, 9, 10, 11, 12, 13, 14, 15, 16, 17, 18, 19, 20, 21, 22, 23, 24, 1, 0] rfl)
      · refine lv_aload_n hx hb dL_law_871 rfl (lv_at hl 1 rfl) ?_
        refine lv_iload hx hb dL_law_872 (lv_at hl 22 rfl) ?_
        refine c_pVi (rest := []) hC hE hP (lx_whereIs l S (nI i) (xbag_n hra hi)) gc_RL_114 hd_X4_whereIs ⟨rfl, rfl⟩ ⟨Nat.le_of_ble_eq_true rfl, Nat.le_of_ble_eq_true rfl⟩ 29 lw_29 rfl rfl hl.1 (Nat.le_of_ble_eq_true rfl) ⟨(by show cc ≤ 600130; omega), (by show ss ≤ 7301080; omega)⟩ dL_law_874 ?_
        refine w_top (show rd 40 (S 6) (nI i) = T 1 i from (rd_40 (Nat.lt_of_lt_of_le hi hn)).trans (hrb.whr i hi)) ?_
        refine w_top (show T 1 i = 3 from ht) ?_
        refine lv_istore (lv' := [(26, .int 3), (0, .ref b), (1, .ref x), (2, .ref q0), (3, .int (nI t)), (4, .int xv), (5, .long dg), (7, .int (nI n)), (8, .ref y8), (9, .ref y9), (10, .ref y10), (11, .int (nI (mFil G 1 n))), (14, .int (nI N)), (15, .int (nI f)), (16, .int (nI (mRdyN G T f n))), (17, .ref q1), (18, .ref q2), (19, .ref q3), (20, .ref q4), (21, .ref q5), (22, .int (nI (mFil G 2 n))), (23, .int (nI d)), (24, .int (nI (moN V T i))), (25, .int (nI i))]) hx hb dL_law_877 hl (by decide) rfl (fun ls hl => ?_)
        refine lv_aload hx hb dL_law_879 (lv_at hl 15 rfl) ?_
        refine lv_iload hx hb dL_law_881 (lv_at hl 23 rfl) ?_
        refine k_iald (j := i) hx hb hE hP (64 + nf + n + (R.length + 0)) ((lw_Ri (i := 0)).trans rfl) hi (Nat.lt_of_le_of_lt hn (by decide)) dL_law_883 ?_
        refine w_top (show (hd_ (mUnA G V) n) i = mUnA G V i from hd_at hi) ?_
        refine lv_if_le (tgt := 901) hx hb dL_law_884 (by decide) (fun c_ => absurd c_ z9) (fun c_314 => ?_)
        refine lv_aload hx hb dL_law_887 (lv_at hl 15 rfl) ?_
        refine lv_iload hx hb dL_law_889 (lv_at hl 23 rfl) ?_
        refine k_iald (j := i) hx hb hE hP (64 + nf + n + (R.length + 0)) ((lw_Ri (i := 0)).trans rfl) hi (Nat.lt_of_le_of_lt hn (by decide)) dL_law_891 ?_
        refine w_top (show (hd_ (mUnA G V) n) i = mUnA G V i from hd_at hi) ?_
        refine lv_iload hx hb dL_law_892 (lv_at hl 12 rfl) ?_
        refine lv_icmp_gt (tgt := 901) hx hb dL_law_894 (by decide) (fun c_315 => ?_) (fun c_ => absurd (u4 (Or.inr hv) (by rw [ht]; decide) z9) c_)
        refine lv_iconst (v := 0) hx hb dL_law_901 (by decide) ?_
        refine lv_istore (lv' := [(27, .int 0), (26, .int 3), (0, .ref b), (1, .ref x), (2, .ref q0), (3, .int (nI t)), (4, .int xv), (5, .long dg), (7, .int (nI n)), (8, .ref y8), (9, .ref y9), (10, .ref y10), (11, .int (nI (mFil G 1 n))), (14, .int (nI N)), (15, .int (nI f)), (16, .int (nI (mRdyN G T f n))), (17, .ref q1), (18, .ref q2), (19, .ref q3), (20, .ref q4), (21, .ref q5), (22, .int (nI (mFil G 2 n))), (23, .int (nI d)), (24, .int (nI (moN V T i))), (25, .int (nI i))]) hx hb dL_law_902 hl (by decide) rfl (fun ls hl => ?_)
        refine lv_iload hx hb dL_law_904 (lv_at hl 23 rfl) ?_
        refine lv_iload hx hb dL_law_906 (lv_at hl 0 rfl) ?_
        refine lv_if_eq (tgt := 915) hx hb dL_law_908 (by decide) (fun c_316 => ?_) (fun c_ => absurd rfl c_)
        refine lv_iconst (v := 0) hx hb dL_law_915 (by decide) ?_
        refine lv_iadd hx hb dL_law_916 ?_
        refine w_top (show (nI (moN V T i)) + 0 = nI (moN V T i) from Int32.add_zero _) ?_
        refine lv_istore (lv' := [(24, .int (nI (moN V T i))), (27, .int 0), (26, .int 3), (0, .ref b), (1, .ref x), (2, .ref q0), (3, .int (nI t)), (4, .int xv), (5, .long dg), (7, .int (nI n)), (8, .ref y8), (9, .ref y9), (10, .ref y10), (11, .int (nI (mFil G 1 n))), (14, .int (nI N)), (15, .int (nI f)), (16, .int (nI (mRdyN G T f n))), (17, .ref q1), (18, .ref q2), (19, .ref q3), (20, .ref q4), (21, .ref q5), (22, .int (nI (mFil G 2 n))), (23, .int (nI d)), (25, .int (nI i))]) hx hb dL_law_917 hl (by decide) rfl (fun ls hl => ?_)
        refine lv_iload hx hb dL_law_919 (lv_at hl 1 rfl) ?_
        refine lv_iload hx hb dL_law_921 (lv_at hl 2 rfl) ?_
        refine lv_iconst (v := 2) hx hb dL_law_923 (by decide) ?_
        refine lv_icmp_ne (tgt := 940) hx hb dL_law_924 (by decide) (fun c_317 => ?_) (fun c_ => absurd c_ (by decide))
        refine lv_iconst (v := 0) hx hb dL_law_940 (by decide) ?_
        refine lv_icmp_ne (tgt := 990) hx hb dL_law_941 (by decide) (fun c_ => absurd rfl c_) (fun c_318 => ?_)
        refine lv_aload hx hb dL_law_944 (lv_at hl 18 rfl) ?_
        refine lv_iload hx hb dL_law_946 (lv_at hl 24 rfl) ?_
        refine k_iald (j := i) hx hb hE hP (64 + nf + n + (R.length + 1)) ((lw_Ri (i := 1)).trans rfl) hi (Nat.lt_of_le_of_lt hn (by decide)) dL_law_948 ?_
        refine w_top (show (hd_ (V 1) n) i = 1 from (hd_at hi).trans hv) ?_
        refine lv_iconst (v := 1) hx hb dL_law_949 (by decide) ?_
        refine lv_icmp_le (tgt := 963) hx hb dL_law_950 (by decide) (fun c_319 => ?_) (fun c_ => absurd (by decide) c_)
        refine lv_iload hx hb dL_law_963 (lv_at hl 2 rfl) ?_
        refine lv_if_ne (tgt := 976) hx hb dL_law_965 (by decide) (fun c_320 => ?_) (fun c_ => absurd c_ (by decide))
        refine lv_aload_n hx hb dL_law_976 rfl (lv_at hl 4 rfl) ?_
        refine lv_iload hx hb dL_law_977 (lv_at hl 24 rfl) ?_
        refine c_pVi (rest := []) hC hE hP (lx_hasOpenFile l S (nI i) (xbag_n hra hi)) gc_RL_133 hd_X4_hasOpenFile ⟨rfl, rfl⟩ ⟨Nat.le_of_ble_eq_true rfl, Nat.le_of_ble_eq_true rfl⟩ 29 lw_29 rfl rfl hl.1 (Nat.le_of_ble_eq_true rfl) ⟨(by show cc ≤ 600130; omega), (by show ss ≤ 7301080; omega)⟩ dL_law_979 ?_
        refine w_top (show bI (rd 40 (S 10) (nI i) = 1) = bI (G 7 i = 1) from bI_cong (by rw [rd_40 (Nat.lt_of_lt_of_le hi hn), hra.fil i hi])) ?_
        refine lv_aload hx hb dL_law_982 (lv_at hl 21 rfl) ?_
        refine lv_iload hx hb dL_law_984 (lv_at hl 24 rfl) ?_
        refine k_zald (j := i) hx hb hE hP (64 + nf + n + (R.length + 4)) ((lw_Ri (i := 4)).trans rfl) hi (Nat.lt_of_le_of_lt hn (by decide)) dL_law_986 ?_
        refine w_top (show (hd_ (opG G) n) i = bI (G 7 i = 1) from hd_at (g := opG G) hi) ?_
        refine lv_icmp_eq (tgt := 992) hx hb dL_law_987 (by decide) (fun c_321 => ?_) (fun c_ => absurd rfl c_)
        refine lv_aload hx hb dL_law_992 (lv_at hl 19 rfl) ?_
        refine lv_iload hx hb dL_law_994 (lv_at hl 24 rfl) ?_
        refine k_iald (j := i) hx hb hE hP (64 + nf + n + (R.length + 2)) ((lw_Ri (i := 2)).trans rfl) hi (Nat.lt_of_le_of_lt hn (by decide)) dL_law_996 ?_
        refine w_top (show (hd_ (V 3) n) i = V 3 i from hd_at hi) ?_
        refine lv_if_lt (tgt := 1014) hx hb dL_law_997 (by decide) (fun c_322 => ?_) (fun c_322 => ?_)
        · refine lv_aload_n hx hb dL_law_1014 rfl (lv_at hl 4 rfl) ?_
          refine lv_iload hx hb dL_law_1015 (lv_at hl 24 rfl) ?_
          refine c_pVi (rest := []) hC hE hP (lx_missesOf l S (nI i) (xbag_n hra hi)) gc_RL_126 hd_X4_missesOf ⟨rfl, rfl⟩ ⟨Nat.le_of_ble_eq_true rfl, Nat.le_of_ble_eq_true rfl⟩ 29 lw_29 rfl rfl hl.1 (Nat.le_of_ble_eq_true rfl) ⟨(by show cc ≤ 600130; omega), (by show ss ≤ 7301080; omega)⟩ dL_law_1017 ?_
          refine w_top (show rd 40 (S 9) (nI i) = T 4 i from (rd_40 (Nat.lt_of_lt_of_le hi hn)).trans (hrb.mis i hi)) ?_
          refine lv_aload hx hb dL_law_1020 (lv_at hl 20 rfl) ?_
          refine lv_iload hx hb dL_law_1022 (lv_at hl 24 rfl) ?_
          refine k_iald (j := i) hx hb hE hP (64 + nf + n + (R.length + 3)) ((lw_Ri (i := 3)).trans rfl) hi (Nat.lt_of_le_of_lt hn (by decide)) dL_law_1024 ?_
          refine w_top (show (hd_ (V 4) n) i = V 4 i from hd_at hi) ?_
          refine lv_icmp_lt (tgt := 1120) hx hb dL_law_1025 (by decide) (fun c_ => absurd c_ (Int32.not_lt.mpr s4)) (fun c_323 => ?_)
          refine lv_aload hx hb dL_law_1028 (lv_at hl 18 rfl) ?_
          refine lv_iload hx hb dL_law_1030 (lv_at hl 24 rfl) ?_
          refine k_iald (j := i) hx hb hE hP (64 + nf + n + (R.length + 1)) ((lw_Ri (i := 1)).trans rfl) hi (Nat.lt_of_le_of_lt hn (by decide)) dL_law_1032 ?_
          refine w_top (show (hd_ (V 1) n) i = 1 from (hd_at hi).trans hv) ?_
          refine lv_iconst (v := 1) hx hb dL_law_1033 (by decide) ?_
          refine lv_icmp_le (tgt := 1065) hx hb dL_law_1034 (by decide) (fun c_324 => ?_) (fun c_ => absurd (by decide) c_)
          refine lv_iload hx hb dL_law_1065 (lv_at hl 2 rfl) ?_
          refine lv_iconst (v := 2) hx hb dL_law_1067 (by decide) ?_
          refine lv_icmp_ne (tgt := 1095) hx hb dL_law_1068 (by decide) (fun c_325 => ?_) (fun c_ => absurd c_ (by decide))
          refine lv_iload hx hb dL_law_1095 (lv_at hl 2 rfl) ?_
          refine lv_iconst (v := 3) hx hb dL_law_1097 (by decide) ?_
          refine lv_icmp_ne (tgt := 1122) hx hb dL_law_1098 (by decide) (fun c_ => absurd rfl c_) (fun c_326 => ?_)
          refine lv_aload hx hb dL_law_1101 (lv_at hl 18 rfl) ?_
          refine lv_iload hx hb dL_law_1103 (lv_at hl 24 rfl) ?_
          refine k_iald (j := i) hx hb hE hP (64 + nf + n + (R.length + 1)) ((lw_Ri (i := 1)).trans rfl) hi (Nat.lt_of_le_of_lt hn (by decide)) dL_law_1105 ?_
          refine w_top (show (hd_ (V 1) n) i = 1 from (hd_at hi).trans hv) ?_
          refine lv_iconst (v := 1) hx hb dL_law_1106 (by decide) ?_
          refine lv_icmp_ne (tgt := 1122) hx hb dL_law_1107 (by decide) (fun c_ => absurd rfl c_) (fun c_327 => ?_)
          refine lv_aload_n hx hb dL_law_1110 rfl (lv_at hl 4 rfl) ?_
          refine lv_iload hx hb dL_law_1111 (lv_at hl 24 rfl) ?_
          refine c_pVi (rest := []) hC hE hP (lx_missesOf l S (nI i) (xbag_n hra hi)) gc_RL_126 hd_X4_missesOf ⟨rfl, rfl⟩ ⟨Nat.le_of_ble_eq_true rfl, Nat.le_of_ble_eq_true rfl⟩ 29 lw_29 rfl rfl hl.1 (Nat.le_of_ble_eq_true rfl) ⟨(by show cc ≤ 600130; omega), (by show ss ≤ 7301080; omega)⟩ dL_law_1113 ?_
          refine w_top (show rd 40 (S 9) (nI i) = T 4 i from (rd_40 (Nat.lt_of_lt_of_le hi hn)).trans (hrb.mis i hi)) ?_
          refine lv_iconst (v := 3) hx hb dL_law_1116 (by decide) ?_
          refine lv_icmp_eq (tgt := 1122) hx hb dL_law_1117 (by decide) (fun c_328 => ?_) (fun c_ => absurd (s6 (Or.inr hv) ht) c_)
          refine lv_iinc (v := nI (i + 1)) (lv' := [(25, .int (nI (i + 1))), (24, .int (nI (moN V T i))), (27, .int 0), (26, .int 3), (0, .ref b), (1, .ref x), (2, .ref q0), (3, .int (nI t)), (4, .int xv), (5, .long dg), (7, .int (nI n)), (8, .ref y8), (9, .ref y9), (10, .ref y10), (11, .int (nI (mFil G 1 n))), (14, .int (nI N)), (15, .int (nI f)), (16, .int (nI (mRdyN G T f n))), (17, .ref q1), (18, .ref q2), (19, .ref q3), (20, .ref q4), (21, .ref q5), (22, .int (nI (mFil G 2 n))), (23, .int (nI d))]) hx hb dL_law_1122 hl (k := 24) rfl (iinc1 _) (by decide) rfl (fun ls hl => ?_)
          refine lv_goto (tgt := 864) hx hb dL_law_1125 (by decide) ?_
          have e9 : moN V T (i + 1) = moN V T i := moN_f (fun z => absurd (ht.symm.trans z.1) (by decide))
          exact ih ls trivial (by show lv_has ls 28 [(0, .ref b), (1, .ref x), (2, .ref q0), (3, .int (nI t)), (4, .int xv), (5, .long dg), (7, .int (nI n)), (8, .ref y8), (9, .ref y9), (10, .ref y10), (11, .int (nI (mFil G 1 n))), (14, .int (nI N)), (15, .int (nI f)), (16, .int (nI (mRdyN G T f n))), (17, .ref q1), (18, .ref q2), (19, .ref q3), (20, .ref q4), (21, .ref q5), (22, .int (nI (mFil G 2 n))), (23, .int (nI d)), (24, .int (nI (moN V T (i + 1)))), (25, .int (nI (i + 1)))]; rw [e9]; exact lv_sub hl [4, 5, 6, 7, 8, 9, 10, 11, 12, 13, 14, 15, 16, 17, 18, 19, 20, 21, 22, 23, 24, 1, 0] rfl)
        · refine lv_aload_n hx hb dL_law_1000 rfl (lv_at hl 4 rfl) ?_
          refine lv_iload hx hb dL_law_1001 (lv_at hl 24 rfl) ?_
          refine c_pVi (rest := []) hC hE hP (lx_readFor l S (nI i) (xbag_n hra hi)) gc_RL_129 hd_X4_readFor ⟨rfl, rfl⟩ ⟨Nat.le_of_ble_eq_true rfl, Nat.le_of_ble_eq_true rfl⟩ 29 lw_29 rfl rfl hl.1 (Nat.le_of_ble_eq_true rfl) ⟨(by show cc ≤ 600130; omega), (by show ss ≤ 7301080; omega)⟩ dL_law_1003 ?_
          refine w_top (show rd 40 (S 8) (nI i) = T 3 i from (rd_40 (Nat.lt_of_lt_of_le hi hn)).trans (hrb.rdd i hi)) ?_
          refine lv_aload hx hb dL_law_1006 (lv_at hl 19 rfl) ?_
          refine lv_iload hx hb dL_law_1008 (lv_at hl 24 rfl) ?_
          refine k_iald (j := i) hx hb hE hP (64 + nf + n + (R.length + 2)) ((lw_Ri (i := 2)).trans rfl) hi (Nat.lt_of_le_of_lt hn (by decide)) dL_law_1010 ?_
          refine w_top (show (hd_ (V 3) n) i = V 3 i from hd_at hi) ?_
          refine lv_icmp_ne (tgt := 1120) hx hb dL_law_1011 (by decide) (fun c_ => absurd (s3 (fun z => c_322 (by rw [z]; decide))) c_) (fun c_329 => ?_)
          refine lv_aload_n hx hb dL_law_1014 rfl (lv_at hl 4 rfl) ?_
          refine lv_iload hx hb dL_law_1015 (lv_at hl 24 rfl) ?_
          refine c_pVi (rest := []) hC hE hP (lx_missesOf l S (nI i) (xbag_n hra hi)) gc_RL_126 hd_X4_missesOf ⟨rfl, rfl⟩ ⟨Nat.le_of_ble_eq_true rfl, Nat.le_of_ble_eq_true rfl⟩ 29 lw_29 rfl rfl hl.1 (Nat.le_of_ble_eq_true rfl) ⟨(by show cc ≤ 600130; omega), (by show ss ≤ 7301080; omega)⟩ dL_law_1017 ?_
          refine w_top (show rd 40 (S 9) (nI i) = T 4 i from (rd_40 (Nat.lt_of_lt_of_le hi hn)).trans (hrb.mis i hi)) ?_
          refine lv_aload hx hb dL_law_1020 (lv_at hl 20 rfl) ?_
          refine lv_iload hx hb dL_law_1022 (lv_at hl 24 rfl) ?_
          refine k_iald (j := i) hx hb hE hP (64 + nf + n + (R.length + 3)) ((lw_Ri (i := 3)).trans rfl) hi (Nat.lt_of_le_of_lt hn (by decide)) dL_law_1024 ?_
          refine w_top (show (hd_ (V 4) n) i = V 4 i from hd_at hi) ?_
          refine lv_icmp_lt (tgt := 1120) hx hb dL_law_1025 (by decide) (fun c_ => absurd c_ (Int32.not_lt.mpr s4)) (fun c_330 => ?_)
          refine lv_aload hx hb dL_law_1028 (lv_at hl 18 rfl) ?_
          refine lv_iload hx hb dL_law_1030 (lv_at hl 24 rfl) ?_
          refine k_iald (j := i) hx hb hE hP (64 + nf + n + (R.length + 1)) ((lw_Ri (i := 1)).trans rfl) hi (Nat.lt_of_le_of_lt hn (by decide)) dL_law_1032 ?_
          refine w_top (show (hd_ (V 1) n) i = 1 from (hd_at hi).trans hv) ?_
          refine lv_iconst (v := 1) hx hb dL_law_1033 (by decide) ?_
          refine lv_icmp_le (tgt := 1065) hx hb dL_law_1034 (by decide) (fun c_331 => ?_) (fun c_ => absurd (by decide) c_)
          refine lv_iload hx hb dL_law_1065 (lv_at hl 2 rfl) ?_
          refine lv_iconst (v := 2) hx hb dL_law_1067 (by decide) ?_
          refine lv_icmp_ne (tgt := 1095) hx hb dL_law_1068 (by decide) (fun c_332 => ?_) (fun c_ => absurd c_ (by decide))
          refine lv_iload hx hb dL_law_1095 (lv_at hl 2 rfl) ?_
          refine lv_iconst (v := 3) hx hb dL_law_1097 (by decide) ?_
          refine lv_icmp_ne (tgt := 1122) hx hb dL_law_1098 (by decide) (fun c_ => absurd rfl c_) (fun c_333 => ?_)
          refine lv_aload hx hb dL_law_1101 (lv_at hl 18 rfl) ?_
          refine lv_iload hx hb dL_law_1103 (lv_at hl 24 rfl) ?_
          refine k_iald (j := i) hx hb hE hP (64 + nf + n + (R.length + 1)) ((lw_Ri (i := 1)).trans rfl) hi (Nat.lt_of_le_of_lt hn (by decide)) dL_law_1105 ?_
          refine w_top (show (hd_ (V 1) n) i = 1 from (hd_at hi).trans hv) ?_
          refine lv_iconst (v := 1) hx hb dL_law_1106 (by decide) ?_
          refine lv_icmp_ne (tgt := 1122) hx hb dL_law_1107 (by decide) (fun c_ => absurd rfl c_) (fun c_334 => ?_)
          refine lv_aload_n hx hb dL_law_1110 rfl (lv_at hl 4 rfl) ?_
          refine lv_iload hx hb dL_law_1111 (lv_at hl 24 rfl) ?_
          refine c_pVi (rest := []) hC hE hP (lx_missesOf l S (nI i) (xbag_n hra hi)) gc_RL_126 hd_X4_missesOf ⟨rfl, rfl⟩ ⟨Nat.le_of_ble_eq_true rfl, Nat.le_of_ble_eq_true rfl⟩ 29 lw_29 rfl rfl hl.1 (Nat.le_of_ble_eq_true rfl) ⟨(by show cc ≤ 600130; omega), (by show ss ≤ 7301080; omega)⟩ dL_law_1113 ?_
          refine w_top (show rd 40 (S 9) (nI i) = T 4 i from (rd_40 (Nat.lt_of_lt_of_le hi hn)).trans (hrb.mis i hi)) ?_
          refine lv_iconst (v := 3) hx hb dL_law_1116 (by decide) ?_
          refine lv_icmp_eq (tgt := 1122) hx hb dL_law_1117 (by decide) (fun c_335 => ?_) (fun c_ => absurd (s6 (Or.inr hv) ht) c_)
          refine lv_iinc (v := nI (i + 1)) (lv' := [(25, .int (nI (i + 1))), (24, .int (nI (moN V T i))), (27, .int 0), (26, .int 3), (0, .ref b), (1, .ref x), (2, .ref q0), (3, .int (nI t)), (4, .int xv), (5, .long dg), (7, .int (nI n)), (8, .ref y8), (9, .ref y9), (10, .ref y10), (11, .int (nI (mFil G 1 n))), (14, .int (nI N)), (15, .int (nI f)), (16, .int (nI (mRdyN G T f n))), (17, .ref q1), (18, .ref q2), (19, .ref q3), (20, .ref q4), (21, .ref q5), (22, .int (nI (mFil G 2 n))), (23, .int (nI d))]) hx hb dL_law_1122 hl (k := 24) rfl (iinc1 _) (by decide) rfl (fun ls hl => ?_)
          refine lv_goto (tgt := 864) hx hb dL_law_1125 (by decide) ?_
          have e9 : moN V T (i + 1) = moN V T i := moN_f (fun z => absurd (ht.symm.trans z.1) (by decide))
          exact ih ls trivial (by show lv_has ls 28 [(0, .ref b), (1, .ref x), (2, .ref q0), (3, .int (nI t)), (4, .int xv), (5, .long dg), (7, .int (nI n)), (8, .ref y8), (9, .ref y9), (10, .ref y10), (11, .int (nI (mFil G 1 n))), (14, .int (nI N)), (15, .int (nI f)), (16, .int (nI (mRdyN G T f n))), (17, .ref q1), (18, .ref q2), (19, .ref q3), (20, .ref q4), (21, .ref q5), (22, .int (nI (mFil G 2 n))), (23, .int (nI d)), (24, .int (nI (moN V T (i + 1)))), (25, .int (nI (i + 1)))]; rw [e9]; exact lv_sub hl [4, 5, 6, 7, 8, 9, 10, 11, 12, 13, 14, 15, 16, 17, 18, 19, 20, 21, 22, 23, 24, 1, 0] rfl)
set_option maxHeartbeats 1000000 in
set_option maxRecDepth 100000 in
theorem law_L {p : Program} {l : Launch} {e : Env} {s : State} {m : MethodId} {args : Array Value} {below : List Frame} {meth : Method} {c : Code} {D : va_G} {k : Nat → ClassId} {A : Nat → Prop} {a tr o fa ba : Nat → Nat} {b x : Nat} {S U G T : HS} {n nf : Nat} {R : va_W} {ls : Array Slot} {H : Heap} {locs : List Loc} {Q : State → Prop} {cc ss t : Nat} {xv : Int32} (hC : CallFix p m c cL_law 28 s args lw_all RL) (hE : eK D k s) (hA : ∀ q : Nat, s.heap.size ≤ q → A q) (hcc : cc + 60 ≤ 600130) (hss : ss + 3000 ≤ 7301080) (hnf0 : 0 < nf) (hra : RA S G n nf) (hrb : RB S T n) (hti : TI T n) (hgi : GI G T n nf) {V : HS} {q0 q1 q2 q3 d : Nat} (hps : PS G V T n d) (hl : lv_has ls 28 [(0, .ref b), (1, .ref x), (2, .ref q0), (3, .int (nI t)), (9, .ref q2)]) (hP : va_P D vwCl (LW k a tr o fa ba x S U G T n nf (mL T n) (R ++ [(q1, .inl (k 0, 6, .inl (atG V n))), (q2, .inl (k 0, 4, .inl (inG V n))), (q3, .inl (k 0, 4, .inl (baG G V n)))])) H) (hD : va_D A (LW k a tr o fa ba x S U G T n nf (mL T n) (R ++ [(q1, .inl (k 0, 6, .inl (atG V n))), (q2, .inl (k 0, 4, .inl (inG V n))), (q3, .inl (k 0, 4, .inl (baG G V n)))]))) (hS : va_S A s.heap H locs) (K : ∀ (ls : Array Slot) (H : Heap) (locs : List Loc), lv_has ls 28 [(0, .ref b), (1, .ref x), (2, .ref q0), (3, .int (nI t))] → va_P D vwCl (LW k a tr o fa ba x S U G T n nf (mL T n) (R ++ [(q1, .inl (k 0, 6, .inl (atG V n))), (q2, .inl (k 0, 4, .inl (inG V n))), (q3, .inl (k 0, 4, .inl (baG G V n)))])) H → va_D A (LW k a tr o fa ba x S U G T n nf (mL T n) (R ++ [(q1, .inl (k 0, 6, .inl (atG V n))), (q2, .inl (k 0, 4, .inl (inG V n))), (q3, .inl (k 0, 4, .inl (baG G V n)))])) → va_S A s.heap H locs → W p l e room_1 s m args below meth c H locs cc ss Q (F0 m 1197 ls [])) : W p l e room_1 s m args below meth c H locs cc ss Q (F0 m 1137 ls []) := by
  have hx := hC.1
  have hb := hC.2.1
  have hown : s.vm.findClass RL = some m.cls := hC.2.2.2.1
  have hts := hC.2.2.2.2
  have hn := hra.n40
  have hnf := hra.nf6
  have hLn : mL T n ≤ n := ct_le _ n
  refine lv_iconst (v := 0) hx hb dL_law_1137 (by decide) ?_
  refine lv_istore (lv' := [(25, .int 0), (0, .ref b), (1, .ref x), (2, .ref q0), (3, .int (nI t)), (9, .ref q2)]) hx hb dL_law_1138 hl (by decide) rfl (fun ls hl => ?_)
  refine w_for (N := 4) (fun _ => True) (fun i => [(0, .ref b), (1, .ref x), (2, .ref q0), (3, .int (nI t)), (9, .ref q2), (25, .int (nI i))]) (fun ls hI hl => ?_) (fun i hi hI ih ls hl => ?_) 0 (Nat.zero_le _) trivial (lv_sub hl [1, 2, 3, 4, 5, 0] rfl)
  · have hl : lv_has ls 28 [(0, .ref b), (1, .ref x), (2, .ref q0), (3, .int (nI t)), (9, .ref q2), (25, .int (nI 4))] := hl
    refine lv_iload hx hb dL_law_1140 (lv_at hl 5 rfl) ?_
    refine lv_iconst (v := 4) hx hb dL_law_1142 (by decide) ?_
    refine lv_icmp_ge (tgt := 1197) hx hb dL_law_1143 (by decide) (fun c_1 => ?_) (fun c_ => absurd (nI_le (a := 4) (b := 4) (Nat.le_refl 4) (by decide)) c_)
    exact K ls H locs (lv_sub hl [0, 1, 2, 3] rfl) hP hD hS
  · have hl : lv_has ls 28 [(0, .ref b), (1, .ref x), (2, .ref q0), (3, .int (nI t)), (9, .ref q2), (25, .int (nI i))] := hl
    refine lv_iload hx hb dL_law_1140 (lv_at hl 5 rfl) ?_
    refine lv_iconst (v := 4) hx hb dL_law_1142 (by decide) ?_
    refine lv_icmp_ge (tgt := 1197) hx hb dL_law_1143 (by decide) (fun c_ => absurd c_ (nI_ge (b := 4) hi (by decide))) (fun c_2 => ?_)
    obtain ⟨c1, c2⟩ := hps.2.2 i hi
    have l1 : inC T n i ≤ n := ct_le _ n
    have l2 : inC V n i ≤ n := ct_le _ n
    by_cases z : inC T n i ≤ inC V n i
    · refine lv_aload_n hx hb dL_law_1146 rfl (lv_at hl 1 rfl) ?_
      refine lv_iload hx hb dL_law_1147 (lv_at hl 5 rfl) ?_
      refine c_pVi (rest := []) hC hE hP (lx_bagsIn l S (nI i) (xch_n hi)) gc_RL_157 hd_X4_bagsIn ⟨rfl, rfl⟩ ⟨Nat.le_of_ble_eq_true rfl, Nat.le_of_ble_eq_true rfl⟩ 29 lw_29 rfl rfl hl.1 (Nat.le_of_ble_eq_true rfl) ⟨(by show cc ≤ 600130; omega), (by show ss ≤ 7301080; omega)⟩ dL_law_1149 ?_
      refine w_top (show nI (ct (fun j_ => S 7 j_ = nI i) 40) = T 7 i from in_ct hrb hi) ?_
      refine w_top (show T 7 i = nI (inC T n i) from T7_c hrb hi) ?_
      refine lv_aload hx hb dL_law_1152 (lv_at hl 4 rfl) ?_
      refine lv_iload hx hb dL_law_1154 (lv_at hl 5 rfl) ?_
      refine k_iald (j := i) hx hb hE hP (64 + nf + n + (R.length + 1)) ((lw_Ri (i := 1)).trans rfl) hi (by decide) dL_law_1156 ?_
      refine w_top (show (inG V n) i = nI (inC V n i) from inG_c hi) ?_
      refine lv_icmp_le (tgt := 1175) hx hb dL_law_1157 (by decide) (fun c_3 => ?_) (fun c_ => absurd (nI_le z (by omega)) c_)
      refine lv_aload_n hx hb dL_law_1175 rfl (lv_at hl 1 rfl) ?_
      refine lv_iload hx hb dL_law_1176 (lv_at hl 5 rfl) ?_
      refine c_pVi (rest := []) hC hE hP (lx_bagsIn l S (nI i) (xch_n hi)) gc_RL_157 hd_X4_bagsIn ⟨rfl, rfl⟩ ⟨Nat.le_of_ble_eq_true rfl, Nat.le_of_ble_eq_true rfl⟩ 29 lw_29 rfl rfl hl.1 (Nat.le_of_ble_eq_true rfl) ⟨(by show cc ≤ 600130; omega), (by show ss ≤ 7301080; omega)⟩ dL_law_1178 ?_
      refine w_top (show nI (ct (fun j_ => S 7 j_ = nI i) 40) = T 7 i from in_ct hrb hi) ?_
      refine w_top (show T 7 i = nI (inC T n i) from T7_c hrb hi) ?_
      refine lv_aload hx hb dL_law_1181 (lv_at hl 4 rfl) ?_
      refine lv_iload hx hb dL_law_1183 (lv_at hl 5 rfl) ?_
      refine k_iald (j := i) hx hb hE hP (64 + nf + n + (R.length + 1)) ((lw_Ri (i := 1)).trans rfl) hi (by decide) dL_law_1185 ?_
      refine w_top (show (inG V n) i = nI (inC V n i) from inG_c hi) ?_
      refine lv_icmp_ge (tgt := 1191) hx hb dL_law_1186 (by decide) (fun c_4 => ?_) (fun c_ => absurd (nI_le c1 (by omega)) c_)
      refine lv_iinc (v := nI (i + 1)) (lv' := [(25, .int (nI (i + 1))), (0, .ref b), (1, .ref x), (2, .ref q0), (3, .int (nI t)), (9, .ref q2)]) hx hb dL_law_1191 hl (k := 5) rfl (iinc1 _) (by decide) rfl (fun ls hl => ?_)
      refine lv_goto (tgt := 1140) hx hb dL_law_1194 (by decide) ?_
      exact ih ls trivial (lv_sub hl [1, 2, 3, 4, 5, 0] rfl)
    · refine lv_aload_n hx hb dL_law_1146 rfl (lv_at hl 1 rfl) ?_
      refine lv_iload hx hb dL_law_1147 (lv_at hl 5 rfl) ?_
      refine c_pVi (rest := []) hC hE hP (lx_bagsIn l S (nI i) (xch_n hi)) gc_RL_157 hd_X4_bagsIn ⟨rfl, rfl⟩ ⟨Nat.le_of_ble_eq_true rfl, Nat.le_of_ble_eq_true rfl⟩ 29 lw_29 rfl rfl hl.1 (Nat.le_of_ble_eq_true rfl) ⟨(by show cc ≤ 600130; omega), (by show ss ≤ 7301080; omega)⟩ dL_law_1149 ?_
      refine w_top (show nI (ct (fun j_ => S 7 j_ = nI i) 40) = T 7 i from in_ct hrb hi) ?_
      refine w_top (show T 7 i = nI (inC T n i) from T7_c hrb hi) ?_
      refine lv_aload hx hb dL_law_1152 (lv_at hl 4 rfl) ?_
      refine lv_iload hx hb dL_law_1154 (lv_at hl 5 rfl) ?_
      refine k_iald (j := i) hx hb hE hP (64 + nf + n + (R.length + 1)) ((lw_Ri (i := 1)).trans rfl) hi (by decide) dL_law_1156 ?_
      refine w_top (show (inG V n) i = nI (inC V n i) from inG_c hi) ?_
      refine lv_icmp_le (tgt := 1175) hx hb dL_law_1157 (by decide) (fun c_ => absurd c_ (nI_ge (Nat.not_le.mp z) (by omega))) (fun c_5 => ?_)
      refine lv_aload_n hx hb dL_law_1160 rfl (lv_at hl 1 rfl) ?_
      refine lv_iload hx hb dL_law_1161 (lv_at hl 5 rfl) ?_
      refine c_pVi (rest := []) hC hE hP (lx_bagsIn l S (nI i) (xch_n hi)) gc_RL_157 hd_X4_bagsIn ⟨rfl, rfl⟩ ⟨Nat.le_of_ble_eq_true rfl, Nat.le_of_ble_eq_true rfl⟩ 29 lw_29 rfl rfl hl.1 (Nat.le_of_ble_eq_true rfl) ⟨(by show cc ≤ 600130; omega), (by show ss ≤ 7301080; omega)⟩ dL_law_1163 ?_
      refine w_top (show nI (ct (fun j_ => S 7 j_ = nI i) 40) = T 7 i from in_ct hrb hi) ?_
      refine w_top (show T 7 i = nI (inC T n i) from T7_c hrb hi) ?_
      refine lv_aload_n hx hb dL_law_1166 rfl (lv_at hl 1 rfl) ?_
      refine lv_iload hx hb dL_law_1167 (lv_at hl 5 rfl) ?_
      refine c_pVi (rest := [.int (nI (inC T n i))]) hC hE hP (lx_roomOf l S (nI i) (xch_n hi)) gc_RL_177 hd_X4_roomOf ⟨rfl, rfl⟩ ⟨Nat.le_of_ble_eq_true rfl, Nat.le_of_ble_eq_true rfl⟩ 29 lw_29 rfl rfl hl.1 (Nat.le_of_ble_eq_true rfl) ⟨(by show cc ≤ 600130; omega), (by show ss ≤ 7301080; omega)⟩ dL_law_1169 ?_
      refine w_top (show rd 4 (S 11) (nI i) = G 3 i from (rd_4 hi).trans (hra.roo i hi)) ?_
      refine lv_icmp_gt (tgt := 1189) hx hb dL_law_1172 (by decide) (fun c_ => absurd c_ (Int32.not_lt.mpr (c2.resolve_left z))) (fun c_6 => ?_)
      refine lv_aload_n hx hb dL_law_1175 rfl (lv_at hl 1 rfl) ?_
      refine lv_iload hx hb dL_law_1176 (lv_at hl 5 rfl) ?_
      refine c_pVi (rest := []) hC hE hP (lx_bagsIn l S (nI i) (xch_n hi)) gc_RL_157 hd_X4_bagsIn ⟨rfl, rfl⟩ ⟨Nat.le_of_ble_eq_true rfl, Nat.le_of_ble_eq_true rfl⟩ 29 lw_29 rfl rfl hl.1 (Nat.le_of_ble_eq_true rfl) ⟨(by show cc ≤ 600130; omega), (by show ss ≤ 7301080; omega)⟩ dL_law_1178 ?_
      refine w_top (show nI (ct (fun j_ => S 7 j_ = nI i) 40) = T 7 i from in_ct hrb hi) ?_
      refine w_top (show T 7 i = nI (inC T n i) from T7_c hrb hi) ?_
      refine lv_aload hx hb dL_law_1181 (lv_at hl 4 rfl) ?_
      refine lv_iload hx hb dL_law_1183 (lv_at hl 5 rfl) ?_
      refine k_iald (j := i) hx hb hE hP (64 + nf + n + (R.length + 1)) ((lw_Ri (i := 1)).trans rfl) hi (by decide) dL_law_1185 ?_
      refine w_top (show (inG V n) i = nI (inC V n i) from inG_c hi) ?_
      refine lv_icmp_ge (tgt := 1191) hx hb dL_law_1186 (by decide) (fun c_7 => ?_) (fun c_ => absurd (nI_le c1 (by omega)) c_)
      refine lv_iinc (v := nI (i + 1)) (lv' := [(25, .int (nI (i + 1))), (0, .ref b), (1, .ref x), (2, .ref q0), (3, .int (nI t)), (9, .ref q2)]) hx hb dL_law_1191 hl (k := 5) rfl (iinc1 _) (by decide) rfl (fun ls hl => ?_)
      refine lv_goto (tgt := 1140) hx hb dL_law_1194 (by decide) ?_
      exact ih ls trivial (lv_sub hl [1, 2, 3, 4, 5, 0] rfl)
