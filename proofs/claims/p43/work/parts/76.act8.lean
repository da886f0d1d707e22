noncomputable def pkB (T : HS) (b : Nat) : Nat → Nat
  | 0 => b
  | i + 1 => sel (mAside T i) i (pkB T b i)
theorem pkB_lt {T : HS} {b n : Nat} (hb : b < n) : ∀ i, i ≤ n → pkB T b i < n
  | 0, _ => hb
  | i + 1, hi => by
    show sel (mAside T i) i (pkB T b i) < n
    by_cases h : mAside T i
    · rw [sel_t h]; omega
    · rw [sel_f h]; exact pkB_lt hb i (by omega)
theorem hand_n {S T : HS} {n b : Nat} (hb : RB S T n) (h : b < n) : xHand S (nI b) ↔ mAside T b := hand_iff hb h
theorem newT_w {k : Nat → ClassId} {a tr o fa ba : Nat → Nat} {x : Nat} {S U G K T V : HS} {n nf L : Nat} {R : va_W} {b : Nat} (hv : V = sf (sf (sf (sf T 1 (upd (T 1) b 0)) 2 (upd (T 2) b (-1))) 3 (upd (T 3) b (-1))) 4 (upd (T 4) b 0)) (hK : K = G) : LW k a tr o fa ba x S U G (mBegin G V b) n nf L R = LW k a tr o fa ba x S U K (mBegin K T b) n nf L R := by
  subst hK
  subst hv
  unfold mBegin
  by_cases q : K 5 b ≤ 7
  · rw [sel_t q, sel_t q]
    refine lw_cong (fun i hi => funext fun j => ?_) (fun _ _ => rfl) rfl
    match j with
    | 0 => rfl
    | 1 => rfl
    | 2 => rfl
    | 3 => exact congrFun (upd_upd (T 1) b 0 0) i
    | 4 => exact congrFun (upd_upd (T 2) b (-1) (-1)) i
    | 5 => exact congrFun (upd_upd (T 3) b (-1) (-1)) i
    | 6 => exact congrFun (upd_upd (T 4) b 0 0) i
    | _ + 7 => rfl
  · rw [sel_f q, sel_f q]
    refine lw_cong (fun i hi => funext fun j => ?_) (fun _ _ => rfl) rfl
    match j with
    | 0 => rfl
    | 1 => rfl
    | 2 => rfl
    | 3 => exact congrFun (upd_upd (T 1) b 0 4) i
    | 4 => exact congrFun (upd_upd (T 2) b (-1) (-1)) i
    | 5 => exact congrFun (upd_upd (T 3) b (-1) (-1)) i
    | 6 => exact congrFun (upd_upd (T 4) b 0 0) i
    | _ + 7 => rfl
abbrev nwT (T : HS) (b : Nat) : HS := sf (sf (sf (sf T 1 (upd (T 1) b 0)) 2 (upd (T 2) b (-1))) 3 (upd (T 3) b (-1))) 4 (upd (T 4) b 0)
theorem nwB_01 {G T : HS} {b : Nat} : mBegin G (nwT T b) b 0 1 = mBegin G T b 0 1 := by
  unfold mBegin
  by_cases q : G 5 b ≤ 7
  · rw [sel_t q, sel_t q]; rfl
  · rw [sel_f q, sel_f q]; rfl
theorem row8 {f z v : Int32} {G T : HS} {n : Nat} {g : Nat} (hf : f = nI g) : ∀ j, j < 8 → upd (upd (upd (upd (upd (upd (upd (upd (fun _ => 0) 0 f) 1 z) 2 v) 3 0) 4 (-1)) 5 (-1)) 6 0) 7 0 j = bgR (chkG G n g z v) (nwT T n) n j := by
  intro j hj
  subst hf
  match j, hj with
  | 0, _ => exact (upd_e (G 4) n (nI g)).symm
  | 1, _ => exact (upd_e (G 5) n z).symm
  | 2, _ => exact (upd_e (G 6) n v).symm
  | 3, _ => exact (upd_e (T 1) n 0).symm
  | 4, _ => exact (upd_e (T 2) n (-1)).symm
  | 5, _ => exact (upd_e (T 3) n (-1)).symm
  | 6, _ => exact (upd_e (T 4) n 0).symm
  | 7, _ => exact (upd_e (G 7) n 0).symm
  | j + 8, hj => exact absurd hj (by omega)
theorem old8 {G T : HS} {n g : Nat} {z v : Int32} : ∀ b, b < n → bgR (chkG G n g z v) (nwT T n) b = bgR G T b := by
  intro b hb
  have e : b ≠ n := Nat.ne_of_lt hb
  funext j
  match j with
  | 0 => exact upd_n e
  | 1 => exact upd_n e
  | 2 => exact upd_n e
  | 3 => exact upd_n e
  | 4 => exact upd_n e
  | 5 => exact upd_n e
  | 6 => exact upd_n e
  | _ + 7 => exact upd_n e
theorem lt_40 {j : Nat} (h : j < 40) : nI j < 40 := Int32.not_le.mp (nI_ge (b := 40) h (by decide))
theorem nlt_40 {j : Nat} (h : ¬ j < 40) (h2 : j < 2 ^ 31) : ¬ nI j < 40 := Int32.not_lt.mpr (nI_le (a := 40) (by omega) h2)

theorem carry_gi {G T : HS} {n nf b c : Nat} (h : GI G T n nf) : GI (thr G 0) (mToCh T b c) n nf := by
  have e1 : ∀ i, mToCh T b c 1 i = 5 → T 1 i = 5 := fun i z => by
    by_cases e : i = b
    · rw [e] at z
      have z2 : mToCh T b c 1 b = 2 := upd_e _ _ _
      rw [z2] at z; exact absurd z (by decide)
    · have z2 : upd (T 1) b 2 i = 5 := z
      rw [upd_n e] at z2; exact z2
  exact ⟨h.fi, fun i hi q => ⟨(h.op i hi q).1, fun z => (h.op i hi q).2 (e1 i z)⟩, fun i hi z => h.ld i hi (e1 i z), h.fr⟩

theorem le60 {j : Nat} (h : j ≤ 60) : ¬ 60 < nI j := Int32.not_lt.mpr (nI_le (a := j) (b := 60) h (by decide))

set_option maxHeartbeats 1000000 in
set_option maxRecDepth 100000 in
theorem act_8b {p : Program} {l : Launch} {e : Env} {s : State} {m : MethodId} {args : Array Value} {below : List Frame} {meth : Method} {c : Code} {D : va_G} {k : Nat → ClassId} {A : Nat → Prop} {a tr o fa ba : Nat → Nat} {x q0 : Nat} {S U G T : HS} {n nf : Nat} {R : va_W} {ls : Array Slot} {H : Heap} {locs : List Loc} (hfl : l.stackTraces = false) (hC : CallFix p m c cL_act 13 s args lw_all RL) (hr : meth.sig.returnType = some .boolean) (hlk : meth.locks = false) (htab : c.exceptionTable.toList = tableOf actT) (hE : eK D k s) (hX : xK s) (hZ : zA A s s.heap) (hA : ∀ q : Nat, s.heap.size ≤ q → A q) (hnf0 : 0 < nf) (hra : RA S G n nf) (hrb : RB S T n) (hti : TI T n) (hgi : GI G T n nf) (ho : o 0 = q0) {v : Int32} {f ch : Nat} (hf : f < nf) (hch : ch < 4) {b : Nat} (hbn : b < n) (hl : lv_has ls 13 [(0, .ref x), (1, .ref (o 0)), (2, .int v), (3, .int (nI f)), (4, .int (nI ch)), (5, .int (nI b)), (7, .int (-1))]) (hP : va_P D vwCl (LW k a tr o fa ba x S U G T n nf (mL T n) R) H) (hD : va_D A (LW k a tr o fa ba x S U G T n nf (mL T n) R)) (hS : va_S A s.heap H locs) : W p l e ({ frames := 8, cells := 40, slots := 1500, locals := 145 } : Room) s m args below meth c H locs 0 0 (MQ below (gQ D A (fun v9 w1 => v9 = some (.int 1) ∧ AS k a tr x q0 R w1)) args s 40 1500 A) (F0 m 781 ls []) := by
  have hx := hC.1
  have hb := hC.2.1
  have hown : s.vm.findClass RL = some m.cls := hC.2.2.2.1
  have hts := hC.2.2.2.2
  have hn := hra.n40
  have hnf := hra.nf6
  have hLn : mL T n ≤ n := ct_le _ n
  obtain ⟨f2, k1, k2, k3, k4, k5⟩ := flight_of hra hbn
  have eb40 : b < 40 := by omega
  have er : rd 40 (S 3) (nI b) = nI f2 := (rd_40 eb40).trans k4
  have er2 : rd 6 (S 1) (nI f2) = G 1 f2 := (rd_6 k2).trans (hra.chu f2 k2)
  by_cases z2 : G 2 f2 = 0
  · by_cases zh : mAside T b
    · rcases (show T 1 b = 3 ∨ T 1 b = 4 from zh) with za | za
      · by_cases z3 : G 1 f2 = -1
        · refine lv_aload_n hx hb dL_act_781 rfl (lv_at hl 1 rfl) ?_
          refine va_get (D := D) (ci := 5) (v := .ref (o 3)) (C := RX5) (T := TX5) (N := 6) hx hb hts tu_5 hown hE.1 hP 59 lw_59 rfl 4 (by decide) (hts _ tw_740) (fun _ h9 => h9) rfl dL_act_782 ?_
          refine lv_iload hx hb dL_act_785 (lv_at hl 5 rfl) ?_
          refine k_aald (j := b) hx hb hE hP 62 lw_62 hbn (Nat.lt_of_le_of_lt hn (by decide)) dL_act_787 ?_
          refine lv_astore (lv' := [(8, .ref (ba b)), (0, .ref x), (1, .ref (o 0)), (2, .int v), (3, .int (nI f)), (4, .int (nI ch)), (5, .int (nI b)), (7, .int (-1))]) hx hb dL_act_788 hl (by decide) rfl (fun ls hl => ?_)
          refine lv_aload hx hb dL_act_790 (lv_at hl 0 rfl) ?_
          refine lv_iconst (v := 3) hx hb dL_act_792 (by decide) ?_
          refine k_iald (j := 3) hx hb hE hP (64 + nf + b) (lw_b hbn) (by decide) (by decide) dL_act_793 ?_
          refine w_top (show bgR G T b 3 = T 1 b from rfl) ?_
          refine lv_iconst (v := 3) hx hb dL_act_794 (by decide) ?_
          refine lv_icmp_eq (tgt := 806) hx hb dL_act_795 (by decide) (fun c_1 => ?_) (fun c_ => absurd za c_)
          refine lv_iconst (v := 1) hx hb dL_act_806 (by decide) ?_
          refine lv_goto (tgt := 811) hx hb dL_act_807 (by decide) ?_
          refine lv_istore (lv' := [(9, .int 1), (8, .ref (ba b)), (0, .ref x), (1, .ref (o 0)), (2, .int v), (3, .int (nI f)), (4, .int (nI ch)), (5, .int (nI b)), (7, .int (-1))]) hx hb dL_act_811 hl (by decide) rfl (fun ls hl => ?_)
          refine lv_aload_n hx hb dL_act_813 rfl (lv_at hl 3 rfl) ?_
          refine va_get (D := D) (ci := 5) (v := .ref (o 2)) (C := RX5) (T := TX5) (N := 6) hx hb hts tu_5 hown hE.1 hP 59 lw_59 rfl 3 (by decide) (hts _ tw_738) (fun _ h9 => h9) rfl dL_act_814 ?_
          refine lv_aload hx hb dL_act_817 (lv_at hl 1 rfl) ?_
          refine lv_iconst (v := 0) hx hb dL_act_819 (by decide) ?_
          refine k_iald (j := 0) hx hb hE hP (64 + nf + b) (lw_b hbn) (by decide) (by decide) dL_act_820 ?_
          refine w_top (show bgR G T b 0 = G 4 b from rfl) ?_
          refine w_top (show G 4 b = nI f2 from k3) ?_
          refine k_aald (j := f2) hx hb hE hP 61 lw_61 k1 (Nat.lt_of_le_of_lt hnf (by decide)) dL_act_821 ?_
          refine lv_astore (lv' := [(10, .ref (fa f2)), (9, .int 1), (8, .ref (ba b)), (0, .ref x), (1, .ref (o 0)), (2, .int v), (3, .int (nI f)), (4, .int (nI ch)), (5, .int (nI b)), (7, .int (-1))]) hx hb dL_act_822 hl (by decide) rfl (fun ls hl => ?_)
          refine lv_aload hx hb dL_act_824 (lv_at hl 0 rfl) ?_
          refine lv_iconst (v := 1) hx hb dL_act_826 (by decide) ?_
          refine k_iald (j := 1) hx hb hE hP (64 + f2) (lw_f k1) (by decide) (by decide) dL_act_827 ?_
          refine w_top (show flR G f2 1 = G 2 f2 from rfl) ?_
          refine w_top (show G 2 f2 = 0 from z2) ?_
          refine lv_if_ne (tgt := 921) hx hb dL_act_828 (by decide) (fun c_ => absurd rfl c_) (fun c_2 => ?_)
          refine lv_iload hx hb dL_act_831 (lv_at hl 1 rfl) ?_
          refine lv_if_eq (tgt := 867) hx hb dL_act_833 (by decide) (fun c_ => absurd c_ (by decide)) (fun c_3 => ?_)
          refine lv_aload hx hb dL_act_836 (lv_at hl 0 rfl) ?_
          refine lv_iconst (v := 0) hx hb dL_act_838 (by decide) ?_
          refine k_iald (j := 0) hx hb hE hP (64 + f2) (lw_f k1) (by decide) (by decide) dL_act_839 ?_
          refine w_top (show flR G f2 0 = G 1 f2 from rfl) ?_
          refine w_top (show G 1 f2 = (-1) from z3) ?_
          refine lv_if_lt (tgt := 867) hx hb dL_act_840 (by decide) (fun c_4 => ?_) (fun c_ => absurd (by decide) c_)
          refine lv_iconst (v := 0) hx hb dL_act_867 (by decide) ?_
          refine lv_istore (lv' := [(11, .int 0), (10, .ref (fa f2)), (9, .int 1), (8, .ref (ba b)), (0, .ref x), (1, .ref (o 0)), (2, .int v), (3, .int (nI f)), (4, .int (nI ch)), (5, .int (nI b)), (7, .int (-1))]) hx hb dL_act_868 hl (by decide) rfl (fun ls hl => ?_)
          refine lv_iload hx hb dL_act_870 (lv_at hl 0 rfl) ?_
          refine lv_if_eq (tgt := 892) hx hb dL_act_872 (by decide) (fun c_5 => ?_) (fun c_ => absurd rfl c_)
          refine lv_aload_n hx hb dL_act_892 rfl (lv_at hl 4 rfl) ?_
          refine lv_iload hx hb dL_act_893 (lv_at hl 9 rfl) ?_
          refine c_xV (rest := []) (E := "java/lang/IllegalStateException") hC hE hP hX (zA_x hZ hS) (lxb_carry_3 l S (nI b) hfl (xbag_n hra hbn) ((hand_n hrb hbn).mpr zh) (by rw [er]; exact ((ng_iff hra k2).mpr z2)) (by rw [er, er2, z3]; exact fun z => z.1.1 (by decide))) gc_RL_71 hd_X4_carry ⟨Nat.le_of_ble_eq_true rfl, Nat.le_of_ble_eq_true rfl⟩ 29 lw_29 rfl rfl hl.1 (Nat.le_of_ble_eq_true rfl) ⟨(Nat.le_of_ble_eq_true rfl), (Nat.le_of_ble_eq_true rfl)⟩ dL_act_895 (fun ce q9 H1 h1 h2 h3 hP1 hz1 hk1 => ?_)
          refine vx_catch (own := RL) (E := "java/lang/IllegalStateException") (name := "java/lang/IllegalStateException") hown [⟨180, 186, 189, 34⟩, ⟨320, 329, 332, 34⟩, ⟨585, 592, 595, 34⟩] ⟨892, 900, 903, 34⟩ [⟨982, 991, 994, 34⟩, ⟨1152, 1163, 1166, 34⟩] htab (fun z hz => Or.inl (by
              simp only [List.mem_cons, List.not_mem_nil, or_false] at hz
              rcases hz with rfl | rfl | rfl <;> rfl)) rfl (by decide) (hts _ tw_602) (va_Nw.use rfl (hX.2.1 (.castable "java/lang/IllegalStateException" "java/lang/IllegalStateException") (by decide +kernel))) h1 h2 h3 ?_
          have hS := vS_grown hS hz1 hk1
          have hP := hP1
          refine lv_astore (lv' := [(12, .ref q9), (11, .int 0), (10, .ref (fa f2)), (9, .int 1), (8, .ref (ba b)), (0, .ref x), (1, .ref (o 0)), (2, .int v), (3, .int (nI f)), (4, .int (nI ch)), (5, .int (nI b)), (7, .int (-1))]) hx hb dL_act_903 hl (by decide) rfl (fun ls hl => ?_)
          refine lv_iconst (v := (-1)) hx hb dL_act_905 (by decide) ?_
          refine lv_istore (lv' := [(6, .int (-1)), (12, .ref q9), (11, .int 0), (10, .ref (fa f2)), (9, .int 1), (8, .ref (ba b)), (0, .ref x), (1, .ref (o 0)), (2, .int v), (3, .int (nI f)), (4, .int (nI ch)), (5, .int (nI b)), (7, .int (-1))]) hx hb dL_act_906 hl (by decide) rfl (fun ls hl => ?_)
          refine lv_iload hx hb dL_act_908 (lv_at hl 0 rfl) ?_
          refine lv_iload hx hb dL_act_910 (lv_at hl 12 rfl) ?_
          refine lv_icmp_ne (tgt := 919) hx hb dL_act_912 (by decide) (fun c_ => absurd rfl c_) (fun c_6 => ?_)
          refine lv_iconst (v := 1) hx hb dL_act_915 (by decide) ?_
          refine lv_goto (tgt := 920) hx hb dL_act_916 (by decide) ?_
          have e99 : (LW k a tr o fa ba x S U G T n nf (mL T n) R) = (LW k a tr o fa ba x S U G T n nf (mL T n) R) := rfl
          rw [← e99] at hP hD
          exact g_zret hx hb hr rfl hlk dL_act_920 hP hD hS ⟨rfl, o, fa, ba, S, U, G, T, n, nf, hnf0, hra, hrb, hti, hgi, ho, rfl⟩ (Nat.le_of_ble_eq_true rfl) (Nat.le_of_ble_eq_true rfl)
        · obtain ⟨c2, hc2, e2⟩ := hra.chr f2 k2 z3
          have eci : nI (inN T (nI c2) n) = T 7 c2 := (hrb.inn c2 hc2).symm
          by_cases z4 : T 7 c2 < G 3 c2
          · refine lv_aload_n hx hb dL_act_781 rfl (lv_at hl 1 rfl) ?_
            refine va_get (D := D) (ci := 5) (v := .ref (o 3)) (C := RX5) (T := TX5) (N := 6) hx hb hts tu_5 hown hE.1 hP 59 lw_59 rfl 4 (by decide) (hts _ tw_740) (fun _ h9 => h9) rfl dL_act_782 ?_
            refine lv_iload hx hb dL_act_785 (lv_at hl 5 rfl) ?_
            refine k_aald (j := b) hx hb hE hP 62 lw_62 hbn (Nat.lt_of_le_of_lt hn (by decide)) dL_act_787 ?_
            refine lv_astore (lv' := [(8, .ref (ba b)), (0, .ref x), (1, .ref (o 0)), (2, .int v), (3, .int (nI f)), (4, .int (nI ch)), (5, .int (nI b)), (7, .int (-1))]) hx hb dL_act_788 hl (by decide) rfl (fun ls hl => ?_)
            refine lv_aload hx hb dL_act_790 (lv_at hl 0 rfl) ?_
            refine lv_iconst (v := 3) hx hb dL_act_792 (by decide) ?_
            refine k_iald (j := 3) hx hb hE hP (64 + nf + b) (lw_b hbn) (by decide) (by decide) dL_act_793 ?_
            refine w_top (show bgR G T b 3 = T 1 b from rfl) ?_
            refine lv_iconst (v := 3) hx hb dL_act_794 (by decide) ?_
            refine lv_icmp_eq (tgt := 806) hx hb dL_act_795 (by decide) (fun c_7 => ?_) (fun c_ => absurd za c_)
            refine lv_iconst (v := 1) hx hb dL_act_806 (by decide) ?_
            refine lv_goto (tgt := 811) hx hb dL_act_807 (by decide) ?_
            refine lv_istore (lv' := [(9, .int 1), (8, .ref (ba b)), (0, .ref x), (1, .ref (o 0)), (2, .int v), (3, .int (nI f)), (4, .int (nI ch)), (5, .int (nI b)), (7, .int (-1))]) hx hb dL_act_811 hl (by decide) rfl (fun ls hl => ?_)
            refine lv_aload_n hx hb dL_act_813 rfl (lv_at hl 3 rfl) ?_
            refine va_get (D := D) (ci := 5) (v := .ref (o 2)) (C := RX5) (T := TX5) (N := 6) hx hb hts tu_5 hown hE.1 hP 59 lw_59 rfl 3 (by decide) (hts _ tw_738) (fun _ h9 => h9) rfl dL_act_814 ?_
            refine lv_aload hx hb dL_act_817 (lv_at hl 1 rfl) ?_
            refine lv_iconst (v := 0) hx hb dL_act_819 (by decide) ?_
            refine k_iald (j := 0) hx hb hE hP (64 + nf + b) (lw_b hbn) (by decide) (by decide) dL_act_820 ?_
            refine w_top (show bgR G T b 0 = G 4 b from rfl) ?_
            refine w_top (show G 4 b = nI f2 from k3) ?_
            refine k_aald (j := f2) hx hb hE hP 61 lw_61 k1 (Nat.lt_of_le_of_lt hnf (by decide)) dL_act_821 ?_
            refine lv_astore (lv' := [(10, .ref (fa f2)), (9, .int 1), (8, .ref (ba b)), (0, .ref x), (1, .ref (o 0)), (2, .int v), (3, .int (nI f)), (4, .int (nI ch)), (5, .int (nI b)), (7, .int (-1))]) hx hb dL_act_822 hl (by decide) rfl (fun ls hl => ?_)
            refine lv_aload hx hb dL_act_824 (lv_at hl 0 rfl) ?_
            refine lv_iconst (v := 1) hx hb dL_act_826 (by decide) ?_
            refine k_iald (j := 1) hx hb hE hP (64 + f2) (lw_f k1) (by decide) (by decide) dL_act_827 ?_
            refine w_top (show flR G f2 1 = G 2 f2 from rfl) ?_
            refine w_top (show G 2 f2 = 0 from z2) ?_
            refine lv_if_ne (tgt := 921) hx hb dL_act_828 (by decide) (fun c_ => absurd rfl c_) (fun c_8 => ?_)
            refine lv_iload hx hb dL_act_831 (lv_at hl 1 rfl) ?_
            refine lv_if_eq (tgt := 867) hx hb dL_act_833 (by decide) (fun c_ => absurd c_ (by decide)) (fun c_9 => ?_)
            refine lv_aload hx hb dL_act_836 (lv_at hl 0 rfl) ?_
            refine lv_iconst (v := 0) hx hb dL_act_838 (by decide) ?_
            refine k_iald (j := 0) hx hb hE hP (64 + f2) (lw_f k1) (by decide) (by decide) dL_act_839 ?_
            refine w_top (show flR G f2 0 = G 1 f2 from rfl) ?_
            refine w_top (show G 1 f2 = nI c2 from e2) ?_
            refine lv_if_lt (tgt := 867) hx hb dL_act_840 (by decide) (fun c_ => absurd c_ (nI_pos (by omega))) (fun c_10 => ?_)
            refine lv_aload_n hx hb dL_act_843 rfl (lv_at hl 4 rfl) ?_
            refine lv_aload hx hb dL_act_844 (lv_at hl 0 rfl) ?_
            refine lv_iconst (v := 0) hx hb dL_act_846 (by decide) ?_
            refine k_iald (j := 0) hx hb hE hP (64 + f2) (lw_f k1) (by decide) (by decide) dL_act_847 ?_
            refine w_top (show flR G f2 0 = G 1 f2 from rfl) ?_
            refine w_top (show G 1 f2 = nI c2 from e2) ?_
            refine c_pVi (rest := []) hC hE hP (metX5_in l G T hn hnf (nI c2) ) gc_RL_68 hd_X5_in ⟨rfl, rfl⟩ ⟨Nat.le_of_ble_eq_true rfl, Nat.le_of_ble_eq_true rfl⟩ 59 lw_59 rfl rfl hl.1 (Nat.le_of_ble_eq_true rfl) ⟨Nat.le_of_ble_eq_true rfl, Nat.le_of_ble_eq_true rfl⟩ dL_act_848 ?_
            refine w_top (show nI (inN T (nI c2) n) = T 7 c2 from eci) ?_
            refine lv_aload_n hx hb dL_act_851 rfl (lv_at hl 4 rfl) ?_
            refine va_get (D := D) (ci := 5) (v := .ref (o 1)) (C := RX5) (T := TX5) (N := 6) hx hb hts tu_5 hown hE.1 hP 59 lw_59 rfl 2 (by decide) (hts _ tw_736) (fun _ h9 => h9) rfl dL_act_852 ?_
            refine lv_aload hx hb dL_act_855 (lv_at hl 0 rfl) ?_
            refine lv_iconst (v := 0) hx hb dL_act_857 (by decide) ?_
            refine k_iald (j := 0) hx hb hE hP (64 + f2) (lw_f k1) (by decide) (by decide) dL_act_858 ?_
            refine w_top (show flR G f2 0 = G 1 f2 from rfl) ?_
            refine w_top (show G 1 f2 = nI c2 from e2) ?_
            refine k_iald (j := c2) hx hb hE hP 60 lw_60 hc2 (by decide) dL_act_859 ?_
            refine lv_icmp_ge (tgt := 867) hx hb dL_act_860 (by decide) (fun c_ => absurd c_ (Int32.not_le.mpr z4)) (fun c_11 => ?_)
            refine lv_iconst (v := 1) hx hb dL_act_863 (by decide) ?_
            refine lv_goto (tgt := 868) hx hb dL_act_864 (by decide) ?_
            refine lv_istore (lv' := [(11, .int 1), (10, .ref (fa f2)), (9, .int 1), (8, .ref (ba b)), (0, .ref x), (1, .ref (o 0)), (2, .int v), (3, .int (nI f)), (4, .int (nI ch)), (5, .int (nI b)), (7, .int (-1))]) hx hb dL_act_868 hl (by decide) rfl (fun ls hl => ?_)
            refine lv_iload hx hb dL_act_870 (lv_at hl 0 rfl) ?_
            refine lv_if_eq (tgt := 892) hx hb dL_act_872 (by decide) (fun c_ => absurd c_ (by decide)) (fun c_12 => ?_)
            refine lv_aload_n hx hb dL_act_875 rfl (lv_at hl 5 rfl) ?_
            refine lv_iload hx hb dL_act_876 (lv_at hl 9 rfl) ?_
            refine lv_iconst (v := 2) hx hb dL_act_878 (by decide) ?_
            refine lv_aload hx hb dL_act_879 (lv_at hl 1 rfl) ?_
            refine lv_iconst (v := 0) hx hb dL_act_881 (by decide) ?_
            refine k_iald (j := 0) hx hb hE hP (64 + f2) (lw_f k1) (by decide) (by decide) dL_act_882 ?_
            refine w_top (show flR G f2 0 = G 1 f2 from rfl) ?_
            refine w_top (show G 1 f2 = nI c2 from e2) ?_
            refine c_mVv (rest := []) hC hE hP hD hS lw_same (metX5_put l G T hn hnf b 2 (nI c2) hbn) gc_RL_58 hd_X5_put ⟨rfl, rfl⟩ ⟨Nat.le_of_ble_eq_true rfl, Nat.le_of_ble_eq_true rfl⟩ 59 lw_59 rfl rfl hl.1 (Nat.le_of_ble_eq_true rfl) ⟨Nat.le_of_ble_eq_true rfl, Nat.le_of_ble_eq_true rfl⟩ dL_act_883 (fun H locs hP hD hS => ?_)
            refine lv_aload hx hb dL_act_886 (lv_at hl 1 rfl) ?_
            refine lv_iconst (v := 0) hx hb dL_act_888 (by decide) ?_
            refine k_iald (j := 0) hx hb hE hP (64 + f2) (lw_f k1) (by decide) (by decide) dL_act_889 ?_
            refine w_top (show flR G f2 0 = G 1 f2 from rfl) ?_
            refine w_top (show G 1 f2 = nI c2 from e2) ?_
            refine lv_istore (lv' := [(7, .int (nI c2)), (11, .int 1), (10, .ref (fa f2)), (9, .int 1), (8, .ref (ba b)), (0, .ref x), (1, .ref (o 0)), (2, .int v), (3, .int (nI f)), (4, .int (nI ch)), (5, .int (nI b))]) hx hb dL_act_890 hl (by decide) rfl (fun ls hl => ?_)
            refine lv_aload_n hx hb dL_act_892 rfl (lv_at hl 5 rfl) ?_
            refine lv_iload hx hb dL_act_893 (lv_at hl 10 rfl) ?_
            have hM := lx_carry l (D := D) (k := k) (a := a) (tr := tr) (x := x) (o9 := o) (fa9 := fa) (ba9 := ba) (U9 := U) (G9 := G) (T9 := mPutB T b 2 (nI c2)) (n9 := n) (nf9 := nf) (L9 := mL T n) (R9 := R) S (nI b) (xbag_n hra hbn) ((hand_n hrb hbn).mpr zh) (by rw [er]; exact ((ng_iff hra k2).mpr z2)) (by rw [er, er2, e2]; exact ⟨xch_n hc2, (room_iff hra hrb hc2).mpr z4⟩)
            rw [er, er2, e2] at hM
            refine c_mVi (rest := []) hC hE hP hD hS (ws' := (LW k a tr o fa ba x (xPut S (nI b) (nI c2)) U G (mPutB T b 2 (nI c2)) n nf (mL T n) R)) lw_same hM gc_RL_71 hd_X4_carry ⟨rfl, rfl⟩ ⟨Nat.le_of_ble_eq_true rfl, Nat.le_of_ble_eq_true rfl⟩ 29 lw_29 rfl rfl hl.1 (Nat.le_of_ble_eq_true rfl) ⟨(Nat.le_of_ble_eq_true rfl), (Nat.le_of_ble_eq_true rfl)⟩ dL_act_895 (fun H locs hP hD hS => ?_)
            refine lv_istore (lv' := [(6, .int (nI c2)), (7, .int (nI c2)), (11, .int 1), (10, .ref (fa f2)), (9, .int 1), (8, .ref (ba b)), (0, .ref x), (1, .ref (o 0)), (2, .int v), (3, .int (nI f)), (4, .int (nI ch)), (5, .int (nI b))]) hx hb dL_act_898 hl (by decide) rfl (fun ls hl => ?_)
            refine lv_goto (tgt := 908) hx hb dL_act_900 (by decide) ?_
            refine lv_iload hx hb dL_act_908 (lv_at hl 0 rfl) ?_
            refine lv_iload hx hb dL_act_910 (lv_at hl 1 rfl) ?_
            refine lv_icmp_ne (tgt := 919) hx hb dL_act_912 (by decide) (fun c_ => absurd rfl c_) (fun c_13 => ?_)
            refine lv_iconst (v := 1) hx hb dL_act_915 (by decide) ?_
            refine lv_goto (tgt := 920) hx hb dL_act_916 (by decide) ?_
            obtain ⟨ha9, hb9⟩ := carry_rel hra hrb hbn hc2 zh
            have e99 : (LW k a tr o fa ba x (xPut S (nI b) (nI c2)) U (thr G 0) (mToCh T b c2) n nf (mL (mToCh T b c2) n) R) = (LW k a tr o fa ba x (xPut S (nI b) (nI c2)) U G (mPutB T b 2 (nI c2)) n nf (mL T n) R) := (by rw [mL_eq hrb hb9 rfl]; rfl)
            rw [← e99] at hP hD
            exact g_zret hx hb hr rfl hlk dL_act_920 hP hD hS ⟨rfl, o, fa, ba, (xPut S (nI b) (nI c2)), U, (thr G 0), (mToCh T b c2), n, nf, hnf0, ha9, hb9, (TI_w hti rfl rfl (fun i hi => by
                by_cases e : i = b
                · rw [e]; exact Or.inr ⟨2, by omega, by omega, upd_e _ _ _⟩
                · exact Or.inl (upd_n e))), (carry_gi hgi), ho, rfl⟩ (Nat.le_of_ble_eq_true rfl) (Nat.le_of_ble_eq_true rfl)
          · refine lv_aload_n hx hb dL_act_781 rfl (lv_at hl 1 rfl) ?_
            refine va_get (D := D) (ci := 5) (v := .ref (o 3)) (C := RX5) (T := TX5) (N := 6) hx hb hts tu_5 hown hE.1 hP 59 lw_59 rfl 4 (by decide) (hts _ tw_740) (fun _ h9 => h9) rfl dL_act_782 ?_
            refine lv_iload hx hb dL_act_785 (lv_at hl 5 rfl) ?_
            refine k_aald (j := b) hx hb hE hP 62 lw_62 hbn (Nat.lt_of_le_of_lt hn (by decide)) dL_act_787 ?_
            refine lv_astore (lv' := [(8, .ref (ba b)), (0, .ref x), (1, .ref (o 0)), (2, .int v), (3, .int (nI f)), (4, .int (nI ch)), (5, .int (nI b)), (7, .int (-1))]) hx hb dL_act_788 hl (by decide) rfl (fun ls hl => ?_)
            refine lv_aload hx hb dL_act_790 (lv_at hl 0 rfl) ?_
            refine lv_iconst (v := 3) hx hb dL_act_792 (by decide) ?_
            refine k_iald (j := 3) hx hb hE hP (64 + nf + b) (lw_b hbn) (by decide) (by decide) dL_act_793 ?_
            refine w_top (show bgR G T b 3 = T 1 b from rfl) ?_
            refine lv_iconst (v := 3) hx hb dL_act_794 (by decide) ?_
            refine lv_icmp_eq (tgt := 806) hx hb dL_act_795 (by decide) (fun c_14 => ?_) (fun c_ => absurd za c_)
            refine lv_iconst (v := 1) hx hb dL_act_806 (by decide) ?_
            refine lv_goto (tgt := 811) hx hb dL_act_807 (by decide) ?_
            refine lv_istore (lv' := [(9, .int 1), (8, .ref (ba b)), (0, .ref x), (1, .ref (o 0)), (2, .int v), (3, .int (nI f)), (4, .int (nI ch)), (5, .int (nI b)), (7, .int (-1))]) hx hb dL_act_811 hl (by decide) rfl (fun ls hl => ?_)
            refine lv_aload_n hx hb dL_act_813 rfl (lv_at hl 3 rfl) ?_
            refine va_get (D := D) (ci := 5) (v := .ref (o 2)) (C := RX5) (T := TX5) (N := 6) hx hb hts tu_5 hown hE.1 hP 59 lw_59 rfl 3 (by decide) (hts _ tw_738) (fun _ h9 => h9) rfl dL_act_814 ?_
            refine lv_aload hx hb dL_act_817 (lv_at hl 1 rfl) ?_
            refine lv_iconst (v := 0) hx hb dL_act_819 (by decide) ?_
            refine k_iald (j := 0) hx hb hE hP (64 + nf + b) (lw_b hbn) (by decide) (by decide) dL_act_820 ?_
            refine w_top (show bgR G T b 0 = G 4 b from rfl) ?_
            refine w_top (show G 4 b = nI f2 from k3) ?_
            refine k_aald (j := f2) hx hb hE hP 61 lw_61 k1 (Nat.lt_of_le_of_lt hnf (by decide)) dL_act_821 ?_
            refine lv_astore (lv' := [(10, .ref (fa f2)), (9, .int 1), (8, .ref (ba b)), (0, .ref x), (1, .ref (o 0)), (2, .int v), (3, .int (nI f)), (4, .int (nI ch)), (5, .int (nI b)), (7, .int (-1))]) hx hb dL_act_822 hl (by decide) rfl (fun ls hl => ?_)
            refine lv_aload hx hb dL_act_824 (lv_at hl 0 rfl) ?_
            refine lv_iconst (v := 1) hx hb dL_act_826 (by decide) ?_
            refine k_iald (j := 1) hx hb hE hP (64 + f2) (lw_f k1) (by decide) (by decide) dL_act_827 ?_
            refine w_top (show flR G f2 1 = G 2 f2 from rfl) ?_
            refine w_top (show G 2 f2 = 0 from z2) ?_
            refine lv_if_ne (tgt := 921) hx hb dL_act_828 (by decide) (fun c_ => absurd rfl c_) (fun c_15 => ?_)
            refine lv_iload hx hb dL_act_831 (lv_at hl 1 rfl) ?_
            refine lv_if_eq (tgt := 867) hx hb dL_act_833 (by decide) (fun c_ => absurd c_ (by decide)) (fun c_16 => ?_)
            refine lv_aload hx hb dL_act_836 (lv_at hl 0 rfl) ?_
            refine lv_iconst (v := 0) hx hb dL_act_838 (by decide) ?_
            refine k_iald (j := 0) hx hb hE hP (64 + f2) (lw_f k1) (by decide) (by decide) dL_act_839 ?_
            refine w_top (show flR G f2 0 = G 1 f2 from rfl) ?_
            refine w_top (show G 1 f2 = nI c2 from e2) ?_
            refine lv_if_lt (tgt := 867) hx hb dL_act_840 (by decide) (fun c_ => absurd c_ (nI_pos (by omega))) (fun c_17 => ?_)
            refine lv_aload_n hx hb dL_act_843 rfl (lv_at hl 4 rfl) ?_
            refine lv_aload hx hb dL_act_844 (lv_at hl 0 rfl) ?_
            refine lv_iconst (v := 0) hx hb dL_act_846 (by decide) ?_
            refine k_iald (j := 0) hx hb hE hP (64 + f2) (lw_f k1) (by decide) (by decide) dL_act_847 ?_
            refine w_top (show flR G f2 0 = G 1 f2 from rfl) ?_
            refine w_top (show G 1 f2 = nI c2 from e2) ?_
            refine c_pVi (rest := []) hC hE hP (metX5_in l G T hn hnf (nI c2) ) gc_RL_68 hd_X5_in ⟨rfl, rfl⟩ ⟨Nat.le_of_ble_eq_true rfl, Nat.le_of_ble_eq_true rfl⟩ 59 lw_59 rfl rfl hl.1 (Nat.le_of_ble_eq_true rfl) ⟨Nat.le_of_ble_eq_true rfl, Nat.le_of_ble_eq_true rfl⟩ dL_act_848 ?_
            refine w_top (show nI (inN T (nI c2) n) = T 7 c2 from eci) ?_
            refine lv_aload_n hx hb dL_act_851 rfl (lv_at hl 4 rfl) ?_
            refine va_get (D := D) (ci := 5) (v := .ref (o 1)) (C := RX5) (T := TX5) (N := 6) hx hb hts tu_5 hown hE.1 hP 59 lw_59 rfl 2 (by decide) (hts _ tw_736) (fun _ h9 => h9) rfl dL_act_852 ?_
            refine lv_aload hx hb dL_act_855 (lv_at hl 0 rfl) ?_
            refine lv_iconst (v := 0) hx hb dL_act_857 (by decide) ?_
            refine k_iald (j := 0) hx hb hE hP (64 + f2) (lw_f k1) (by decide) (by decide) dL_act_858 ?_
            refine w_top (show flR G f2 0 = G 1 f2 from rfl) ?_
            refine w_top (show G 1 f2 = nI c2 from e2) ?_
            refine k_iald (j := c2) hx hb hE hP 60 lw_60 hc2 (by decide) dL_act_859 ?_
            refine lv_icmp_ge (tgt := 867) hx hb dL_act_860 (by decide) (fun c_18 => ?_) (fun c_ => absurd (Int32.not_lt.mp z4) c_)
            refine lv_iconst (v := 0) hx hb dL_act_867 (by decide) ?_
            refine lv_istore (lv' := [(11, .int 0), (10, .ref (fa f2)), (9, .int 1), (8, .ref (ba b)), (0, .ref x), (1, .ref (o 0)), (2, .int v), (3, .int (nI f)), (4, .int (nI ch)), (5, .int (nI b)), (7, .int (-1))]) hx hb dL_act_868 hl (by decide) rfl (fun ls hl => ?_)
            refine lv_iload hx hb dL_act_870 (lv_at hl 0 rfl) ?_
            refine lv_if_eq (tgt := 892) hx hb dL_act_872 (by decide) (fun c_19 => ?_) (fun c_ => absurd rfl c_)
            refine lv_aload_n hx hb dL_act_892 rfl (lv_at hl 4 rfl) ?_
            refine lv_iload hx hb dL_act_893 (lv_at hl 9 rfl) ?_
            refine c_xV (rest := []) (E := "java/lang/IllegalStateException") hC hE hP hX (zA_x hZ hS) (lxb_carry_3 l S (nI b) hfl (xbag_n hra hbn) ((hand_n hrb hbn).mpr zh) (by rw [er]; exact ((ng_iff hra k2).mpr z2)) (by rw [er, er2, e2]; exact fun z => z4 ((room_iff hra hrb hc2).mp z.2))) gc_RL_71 hd_X4_carry ⟨Nat.le_of_ble_eq_true rfl, Nat.le_of_ble_eq_true rfl⟩ 29 lw_29 rfl rfl hl.1 (Nat.le_of_ble_eq_true rfl) ⟨(Nat.le_of_ble_eq_true rfl), (Nat.le_of_ble_eq_true rfl)⟩ dL_act_895 (fun ce q9 H1 h1 h2 h3 hP1 hz1 hk1 => ?_)
            refine vx_catch (own := RL) (E := "java/lang/IllegalStateException") (name := "java/lang/IllegalStateException") hown [⟨180, 186, 189, 34⟩, ⟨320, 329, 332, 34⟩, ⟨585, 592, 595, 34⟩] ⟨892, 900, 903, 34⟩ [⟨982, 991, 994, 34⟩, ⟨1152, 1163, 1166, 34⟩] htab (fun z hz => Or.inl (by
                simp only [List.mem_cons, List.not_mem_nil, or_false] at hz
                rcases hz with rfl | rfl | rfl <;> rfl)) rfl (by decide) (hts _ tw_602) (va_Nw.use rfl (hX.2.1 (.castable "java/lang/IllegalStateException" "java/lang/IllegalStateException") (by decide +kernel))) h1 h2 h3 ?_
            have hS := vS_grown hS hz1 hk1
            have hP := hP1
            refine lv_astore (lv' := [(12, .ref q9), (11, .int 0), (10, .ref (fa f2)), (9, .int 1), (8, .ref (ba b)), (0, .ref x), (1, .ref (o 0)), (2, .int v), (3, .int (nI f)), (4, .int (nI ch)), (5, .int (nI b)), (7, .int (-1))]) hx hb dL_act_903 hl (by decide) rfl (fun ls hl => ?_)
            refine lv_iconst (v := (-1)) hx hb dL_act_905 (by decide) ?_
            refine lv_istore (lv' := [(6, .int (-1)), (12, .ref q9), (11, .int 0), (10, .ref (fa f2)), (9, .int 1), (8, .ref (ba b)), (0, .ref x), (1, .ref (o 0)), (2, .int v), (3, .int (nI f)), (4, .int (nI ch)), (5, .int (nI b)), (7, .int (-1))]) hx hb dL_act_906 hl (by decide) rfl (fun ls hl => ?_)
            refine lv_iload hx hb dL_act_908 (lv_at hl 0 rfl) ?_
            refine lv_iload hx hb dL_act_910 (lv_at hl 12 rfl) ?_
            refine lv_icmp_ne (tgt := 919) hx hb dL_act_912 (by decide) (fun c_ => absurd rfl c_) (fun c_20 => ?_)
            refine lv_iconst (v := 1) hx hb dL_act_915 (by decide) ?_
            refine lv_goto (tgt := 920) hx hb dL_act_916 (by decide) ?_
            have e99 : (LW k a tr o fa ba x S U G T n nf (mL T n) R) = (LW k a tr o fa ba x S U G T n nf (mL T n) R) := rfl
            rw [← e99] at hP hD
            exact g_zret hx hb hr rfl hlk dL_act_920 hP hD hS ⟨rfl, o, fa, ba, S, U, G, T, n, nf, hnf0, hra, hrb, hti, hgi, ho, rfl⟩ (Nat.le_of_ble_eq_true rfl) (Nat.le_of_ble_eq_true rfl)
      · by_cases z3 : G 1 f2 = -1
        · refine lv_aload_n hx hb dL_act_781 rfl (lv_at hl 1 rfl) ?_
          refine va_get (D := D) (ci := 5) (v := .ref (o 3)) (C := RX5) (T := TX5) (N := 6) hx hb hts tu_5 hown hE.1 hP 59 lw_59 rfl 4 (by decide) (hts _ tw_740) (fun _ h9 => h9) rfl dL_act_782 ?_
          refine lv_iload hx hb dL_act_785 (lv_at hl 5 rfl) ?_
          refine k_aald (j := b) hx hb hE hP 62 lw_62 hbn (Nat.lt_of_le_of_lt hn (by decide)) dL_act_787 ?_
          refine lv_astore (lv' := [(8, .ref (ba b)), (0, .ref x), (1, .ref (o 0)), (2, .int v), (3, .int (nI f)), (4, .int (nI ch)), (5, .int (nI b)), (7, .int (-1))]) hx hb dL_act_788 hl (by decide) rfl (fun ls hl => ?_)
          refine lv_aload hx hb dL_act_790 (lv_at hl 0 rfl) ?_
          refine lv_iconst (v := 3) hx hb dL_act_792 (by decide) ?_
          refine k_iald (j := 3) hx hb hE hP (64 + nf + b) (lw_b hbn) (by decide) (by decide) dL_act_793 ?_
          refine w_top (show bgR G T b 3 = T 1 b from rfl) ?_
          refine lv_iconst (v := 3) hx hb dL_act_794 (by decide) ?_
          refine lv_icmp_eq (tgt := 806) hx hb dL_act_795 (by decide) (fun c_ => absurd c_ (by rw [za]; decide)) (fun c_21 => ?_)
          refine lv_aload hx hb dL_act_798 (lv_at hl 0 rfl) ?_
          refine lv_iconst (v := 3) hx hb dL_act_800 (by decide) ?_
          refine k_iald (j := 3) hx hb hE hP (64 + nf + b) (lw_b hbn) (by decide) (by decide) dL_act_801 ?_
          refine w_top (show bgR G T b 3 = T 1 b from rfl) ?_
          refine lv_iconst (v := 4) hx hb dL_act_802 (by decide) ?_
          refine lv_icmp_ne (tgt := 810) hx hb dL_act_803 (by decide) (fun c_ => absurd za c_) (fun c_22 => ?_)
          refine lv_iconst (v := 1) hx hb dL_act_806 (by decide) ?_
          refine lv_goto (tgt := 811) hx hb dL_act_807 (by decide) ?_
          refine lv_istore (lv' := [(9, .int 1), (8, .ref (ba b)), (0, .ref x), (1, .ref (o 0)), (2, .int v), (3, .int (nI f)), (4, .int (nI ch)), (5, .int (nI b)), (7, .int (-1))]) hx hb dL_act_811 hl (by decide) rfl (fun ls hl => ?_)
          refine lv_aload_n hx hb dL_act_813 rfl (lv_at hl 3 rfl) ?_
          refine va_get (D := D) (ci := 5) (v := .ref (o 2)) (C := RX5) (T := TX5) (N := 6) hx hb hts tu_5 hown hE.1 hP 59 lw_59 rfl 3 (by decide) (hts _ tw_738) (fun _ h9 => h9) rfl dL_act_814 ?_
          refine lv_aload hx hb dL_act_817 (lv_at hl 1 rfl) ?_
          refine lv_iconst (v := 0) hx hb dL_act_819 (by decide) ?_
          refine k_iald (j := 0) hx hb hE hP (64 + nf + b) (lw_b hbn) (by decide) (by decide) dL_act_820 ?_
          refine w_top (show bgR G T b 0 = G 4 b from rfl) ?_
          refine w_top (show G 4 b = nI f2 from k3) ?_
          refine k_aald (j := f2) hx hb hE hP 61 lw_61 k1 (Nat.lt_of_le_of_lt hnf (by decide)) dL_act_821 ?_
          refine lv_astore (lv' := [(10, .ref (fa f2)), (9, .int 1), (8, .ref (ba b)), (0, .ref x), (1, .ref (o 0)), (2, .int v), (3, .int (nI f)), (4, .int (nI ch)), (5, .int (nI b)), (7, .int (-1))]) hx hb dL_act_822 hl (by decide) rfl (fun ls hl => ?_)
          refine lv_aload hx hb dL_act_824 (lv_at hl 0 rfl) ?_
          refine lv_iconst (v := 1) hx hb dL_act_826 (by decide) ?_
          refine k_iald (j := 1) hx hb hE hP (64 + f2) (lw_f k1) (by decide) (by decide) dL_act_827 ?_
          refine w_top (show flR G f2 1 = G 2 f2 from rfl) ?_
          refine w_top (show G 2 f2 = 0 from z2) ?_
          refine lv_if_ne (tgt := 921) hx hb dL_act_828 (by decide) (fun c_ => absurd rfl c_) (fun c_23 => ?_)
          refine lv_iload hx hb dL_act_831 (lv_at hl 1 rfl) ?_
          refine lv_if_eq (tgt := 867) hx hb dL_act_833 (by decide) (fun c_ => absurd c_ (by decide)) (fun c_24 => ?_)
          refine lv_aload hx hb dL_act_836 (lv_at hl 0 rfl) ?_
          refine lv_iconst (v := 0) hx hb dL_act_838 (by decide) ?_
          refine k_iald (j := 0) hx hb hE hP (64 + f2) (lw_f k1) (by decide) (by decide) dL_act_839 ?_
          refine w_top (show flR G f2 0 = G 1 f2 from rfl) ?_
          refine w_top (show G 1 f2 = (-1) from z3) ?_
          refine lv_if_lt (tgt := 867) hx hb dL_act_840 (by decide) (fun c_25 => ?_) (fun c_ => absurd (by decide) c_)
          refine lv_iconst (v := 0) hx hb dL_act_867 (by decide) ?_
          refine lv_istore (lv' := [(11, .int 0), (10, .ref (fa f2)), (9, .int 1), (8, .ref (ba b)), (0, .ref x), (1, .ref (o 0)), (2, .int v), (3, .int (nI f)), (4, .int (nI ch)), (5, .int (nI b)), (7, .int (-1))]) hx hb dL_act_868 hl (by decide) rfl (fun ls hl => ?_)
          refine lv_iload hx hb dL_act_870 (lv_at hl 0 rfl) ?_
          refine lv_if_eq (tgt := 892) hx hb dL_act_872 (by decide) (fun c_26 => ?_) (fun c_ => absurd rfl c_)
          refine lv_aload_n hx hb dL_act_892 rfl (lv_at hl 4 rfl) ?_
          refine lv_iload hx hb dL_act_893 (lv_at hl 9 rfl) ?_
          refine c_xV (rest := []) (E := "java/lang/IllegalStateException") hC hE hP hX (zA_x hZ hS) (lxb_carry_3 l S (nI b) hfl (xbag_n hra hbn) ((hand_n hrb hbn).mpr zh) (by rw [er]; exact ((ng_iff hra k2).mpr z2)) (by rw [er, er2, z3]; exact fun z => z.1.1 (by decide))) gc_RL_71 hd_X4_carry ⟨Nat.le_of_ble_eq_true rfl, Nat.le_of_ble_eq_true rfl⟩ 29 lw_29 rfl rfl hl.1 (Nat.le_of_ble_eq_true rfl) ⟨(Nat.le_of_ble_eq_true rfl), (Nat.le_of_ble_eq_true rfl)⟩ dL_act_895 (fun ce q9 H1 h1 h2 h3 hP1 hz1 hk1 => ?_)
          refine vx_catch (own := RL) (E := "java/lang/IllegalStateException") (name := "java/lang/IllegalStateException") hown [⟨180, 186, 189, 34⟩, ⟨320, 329, 332, 34⟩, ⟨585, 592, 595, 34⟩] ⟨892, 900, 903, 34⟩ [⟨982, 991, 994, 34⟩, ⟨1152, 1163, 1166, 34⟩] htab (fun z hz => Or.inl (by
              simp only [List.mem_cons, List.not_mem_nil, or_false] at hz
              rcases hz with rfl | rfl | rfl <;> rfl)) rfl (by decide) (hts _ tw_602) (va_Nw.use rfl (hX.2.1 (.castable "java/lang/IllegalStateException" "java/lang/IllegalStateException") (by decide +kernel))) h1 h2 h3 ?_
          have hS := vS_grown hS hz1 hk1
          have hP := hP1
          refine lv_astore (lv' := [(12, .ref q9), (11, .int 0), (10, .ref (fa f2)), (9, .int 1), (8, .ref (ba b)), (0, .ref x), (1, .ref (o 0)), (2, .int v), (3, .int (nI f)), (4, .int (nI ch)), (5, .int (nI b)), (7, .int (-1))]) hx hb dL_act_903 hl (by decide) rfl (fun ls hl => ?_)
          refine lv_iconst (v := (-1)) hx hb dL_act_905 (by decide) ?_
          refine lv_istore (lv' := [(6, .int (-1)), (12, .ref q9), (11, .int 0), (10, .ref (fa f2)), (9, .int 1), (8, .ref (ba b)), (0, .ref x), (1, .ref (o 0)), (2, .int v), (3, .int (nI f)), (4, .int (nI ch)), (5, .int (nI b)), (7, .int (-1))]) hx hb dL_act_906 hl (by decide) rfl (fun ls hl => ?_)
          refine lv_iload hx hb dL_act_908 (lv_at hl 0 rfl) ?_
          refine lv_iload hx hb dL_act_910 (lv_at hl 12 rfl) ?_
          refine lv_icmp_ne (tgt := 919) hx hb dL_act_912 (by decide) (fun c_ => absurd rfl c_) (fun c_27 => ?_)
          refine lv_iconst (v := 1) hx hb dL_act_915 (by decide) ?_
          refine lv_goto (tgt := 920) hx hb dL_act_916 (by decide) ?_
          have e99 : (LW k a tr o fa ba x S U G T n nf (mL T n) R) = (LW k a tr o fa ba x S U G T n nf (mL T n) R) := rfl
          rw [← e99] at hP hD
          exact g_zret hx hb hr rfl hlk dL_act_920 hP hD hS ⟨rfl, o, fa, ba, S, U, G, T, n, nf, hnf0, hra, hrb, hti, hgi, ho, rfl⟩ (Nat.le_of_ble_eq_true rfl) (Nat.le_of_ble_eq_true rfl)
        · obtain ⟨c2, hc2, e2⟩ := hra.chr f2 k2 z3
          have eci : nI (inN T (nI c2) n) = T 7 c2 := (hrb.inn c2 hc2).symm
          by_cases z4 : T 7 c2 < G 3 c2
          · refine lv_aload_n hx hb dL_act_781 rfl (lv_at hl 1 rfl) ?_
            refine va_get (D := D) (ci := 5) (v := .ref (o 3)) (C := RX5) (T := TX5) (N := 6) hx hb hts tu_5 hown hE.1 hP 59 lw_59 rfl 4 (by decide) (hts _ tw_740) (fun _ h9 => h9) rfl dL_act_782 ?_
            refine lv_iload hx hb dL_act_785 (lv_at hl 5 rfl) ?_
            refine k_aald (j := b) hx hb hE hP 62 lw_62 hbn (Nat.lt_of_le_of_lt hn (by decide)) dL_act_787 ?_
            refine lv_astore (lv' := [(8, .ref (ba b)), (0, .ref x), (1, .ref (o 0)), (2, .int v), (3, .int (nI f)), (4, .int (nI ch)), (5, .int (nI b)), (7, .int (-1))]) hx hb dL_act_788 hl (by decide) rfl (fun ls hl => ?_)
            refine lv_aload hx hb dL_act_790 (lv_at hl 0 rfl) ?_
            refine lv_iconst (v := 3) hx hb dL_act_792 (by decide) ?_
            refine k_iald (j := 3) hx hb hE hP (64 + nf + b) (lw_b hbn) (by decide) (by decide) dL_act_793 ?_
            refine w_top (show bgR G T b 3 = T 1 b from rfl) ?_
            refine lv_iconst (v := 3) hx hb dL_act_794 (by decide) ?_
            refine lv_icmp_eq (tgt := 806) hx hb dL_act_795 (by decide) (fun c_ => absurd c_ (by rw [za]; decide)) (fun c_28 => ?_)
            refine lv_aload hx hb dL_act_798 (lv_at hl 0 rfl) ?_
            refine lv_iconst (v := 3) hx hb dL_act_800 (by decide) ?_
            refine k_iald (j := 3) hx hb hE hP (64 + nf + b) (lw_b hbn) (by decide) (by decide) dL_act_801 ?_
            refine w_top (show bgR G T b 3 = T 1 b from rfl) ?_
            refine lv_iconst (v := 4) hx hb dL_act_802 (by decide) ?_
            refine lv_icmp_ne (tgt := 810) hx hb dL_act_803 (by decide) (fun c_ => absurd za c_) (fun c_29 => ?_)
            refine lv_iconst (v := 1) hx hb dL_act_806 (by decide) ?_
            refine lv_goto (tgt := 811) hx hb dL_act_807 (by decide) ?_
            refine lv_istore (lv' := [(9, .int 1), (8, .ref (ba b)), (0, .ref x), (1, .ref (o 0)), (2, .int v), (3, .int (nI f)), (4, .int (nI ch)), (5, .int (nI b)), (7, .int (-1))]) hx hb dL_act_811 hl (by decide) rfl (fun ls hl => ?_)
            refine lv_aload_n hx hb dL_act_813 rfl (lv_at hl 3 rfl) ?_
            refine va_get (D := D) (ci := 5) (v := .ref (o 2)) (C := RX5) (T := TX5) (N := 6) hx hb hts tu_5 hown hE.1 hP 59 lw_59 rfl 3 (by decide) (hts _ tw_738) (fun _ h9 => h9) rfl dL_act_814 ?_
            refine lv_aload hx hb dL_act_817 (lv_at hl 1 rfl) ?_
            refine lv_iconst (v := 0) hx hb dL_act_819 (by decide) ?_
            refine k_iald (j := 0) hx hb hE hP (64 + nf + b) (lw_b hbn) (by decide) (by decide) dL_act_820 ?_
            refine w_top (show bgR G T b 0 = G 4 b from rfl) ?_
            refine w_top (show G 4 b = nI f2 from k3) ?_
            refine k_aald (j := f2) hx hb hE hP 61 lw_61 k1 (Nat.lt_of_le_of_lt hnf (by decide)) dL_act_821 ?_
            refine lv_astore (lv' := [(10, .ref (fa f2)), (9, .int 1), (8, .ref (ba b)), (0, .ref x), (1, .ref (o 0)), (2, .int v), (3, .int (nI f)), (4, .int (nI ch)), (5, .int (nI b)), (7, .int (-1))]) hx hb dL_act_822 hl (by decide) rfl (fun ls hl => ?_)
            refine lv_aload hx hb dL_act_824 (lv_at hl 0 rfl) ?_
            refine lv_iconst (v := 1) hx hb dL_act_826 (by decide) ?_
            refine k_iald (j := 1) hx hb hE hP (64 + f2) (lw_f k1) (by decide) (by decide) dL_act_827 ?_
            refine w_top (show flR G f2 1 = G 2 f2 from rfl) ?_
            refine w_top (show G 2 f2 = 0 from z2) ?_
            refine lv_if_ne (tgt := 921) hx hb dL_act_828 (by decide) (fun c_ => absurd rfl c_) (fun c_30 => ?_)
            refine lv_iload hx hb dL_act_831 (lv_at hl 1 rfl) ?_
            refine lv_if_eq (tgt := 867) hx hb dL_act_833 (by decide) (fun c_ => absurd c_ (by decide)) (fun c_31 => ?_)
            refine lv_aload hx hb dL_act_836 (lv_at hl 0 rfl) ?_
            refine lv_iconst (v := 0) hx hb dL_act_838 (by decide) ?_
            refine k_iald (j := 0) hx hb hE hP (64 + f2) (lw_f k1) (by decide) (by decide) dL_act_839 ?_
            refine w_top (show flR G f2 0 = G 1 f2 from rfl) ?_
            refine w_top (show G 1 f2 = nI c2 from e2) ?_
            refine lv_if_lt (tgt := 867) hx hb dL_act_840 (by decide) (fun c_ => absurd c_ (nI_pos (by omega))) (fun c_32 => ?_)
            refine lv_aload_n hx hb dL_act_843 rfl (lv_at hl 4 rfl) ?_
            refine lv_aload hx hb dL_act_844 (lv_at hl 0 rfl) ?_
            refine lv_iconst (v := 0) hx hb dL_act_846 (by decide) ?_
            refine k_iald (j := 0) hx hb hE hP (64 + f2) (lw_f k1) (by decide) (by decide) dL_act_847 ?_
            refine w_top (show flR G f2 0 = G 1 f2 from rfl) ?_
            refine w_top (show G 1 f2 = nI c2 from e2) ?_
            refine c_pVi (rest := []) hC hE hP (metX5_in l G T hn hnf (nI c2) ) gc_RL_68 hd_X5_in ⟨rfl, rfl⟩ ⟨Nat.le_of_ble_eq_true rfl, Nat.le_of_ble_eq_true rfl⟩ 59 lw_59 rfl rfl hl.1 (Nat.le_of_ble_eq_true rfl) ⟨Nat.le_of_ble_eq_true rfl, Nat.le_of_ble_eq_true rfl⟩ dL_act_848 ?_
            refine w_top (show nI (inN T (nI c2) n) = T 7 c2 from eci) ?_
            refine lv_aload_n hx hb dL_act_851 rfl (lv_at hl 4 rfl) ?_
            refine va_get (D := D) (ci := 5) (v := .ref (o 1)) (C := RX5) (T := TX5) (N := 6) hx hb hts tu_5 hown hE.1 hP 59 lw_59 rfl 2 (by decide) (hts _ tw_736) (fun _ h9 => h9) rfl dL_act_852 ?_
            refine lv_aload hx hb dL_act_855 (lv_at hl 0 rfl) ?_
            refine lv_iconst (v := 0) hx hb dL_act_857 (by decide) ?_
            refine k_iald (j := 0) hx hb hE hP (64 + f2) (lw_f k1) (by decide) (by decide) dL_act_858 ?_
            refine w_top (show flR G f2 0 = G 1 f2 from rfl) ?_
            refine w_top (show G 1 f2 = nI c2 from e2) ?_
            refine k_iald (j := c2) hx hb hE hP 60 lw_60 hc2 (by decide) dL_act_859 ?_
            refine lv_icmp_ge (tgt := 867) hx hb dL_act_860 (by decide) (fun c_ => absurd c_ (Int32.not_le.mpr z4)) (fun c_33 => ?_)
            refine lv_iconst (v := 1) hx hb dL_act_863 (by decide) ?_
            refine lv_goto (tgt := 868) hx hb dL_act_864 (by decide) ?_
            refine lv_istore (lv' := [(11, .int 1), (10, .ref (fa f2)), (9, .int 1), (8, .ref (ba b)), (0, .ref x), (1, .ref (o 0)), (2, .int v), (3, .int (nI f)), (4, .int (nI ch)), (5, .int (nI b)), (7, .int (-1))]) hx hb dL_act_868 hl (by decide) rfl (fun ls hl => ?_)
            refine lv_iload hx hb dL_act_870 (lv_at hl 0 rfl) ?_
            refine lv_if_eq (tgt := 892) hx hb dL_act_872 (by decide) (fun c_ => absurd c_ (by decide)) (fun c_34 => ?_)
            refine lv_aload_n hx hb dL_act_875 rfl (lv_at hl 5 rfl) ?_
            refine lv_iload hx hb dL_act_876 (lv_at hl 9 rfl) ?_
            refine lv_iconst (v := 2) hx hb dL_act_878 (by decide) ?_
            refine lv_aload hx hb dL_act_879 (lv_at hl 1 rfl) ?_
            refine lv_iconst (v := 0) hx hb dL_act_881 (by decide) ?_
            refine k_iald (j := 0) hx hb hE hP (64 + f2) (lw_f k1) (by decide) (by decide) dL_act_882 ?_
            refine w_top (show flR G f2 0 = G 1 f2 from rfl) ?_
            refine w_top (show G 1 f2 = nI c2 from e2) ?_
            refine c_mVv (rest := []) hC hE hP hD hS lw_same (metX5_put l G T hn hnf b 2 (nI c2) hbn) gc_RL_58 hd_X5_put ⟨rfl, rfl⟩ ⟨Nat.le_of_ble_eq_true rfl, Nat.le_of_ble_eq_true rfl⟩ 59 lw_59 rfl rfl hl.1 (Nat.le_of_ble_eq_true rfl) ⟨Nat.le_of_ble_eq_true rfl, Nat.le_of_ble_eq_true rfl⟩ dL_act_883 (fun H locs hP hD hS => ?_)
            refine lv_aload hx hb dL_act_886 (lv_at hl 1 rfl) ?_
            refine lv_iconst (v := 0) hx hb dL_act_888 (by decide) ?_
            refine k_iald (j := 0) hx hb hE hP (64 + f2) (lw_f k1) (by decide) (by decide) dL_act_889 ?_
            refine w_top (show flR G f2 0 = G 1 f2 from rfl) ?_
            refine w_top (show G 1 f2 = nI c2 from e2) ?_
            refine lv_istore (lv' := [(7, .int (nI c2)), (11, .int 1), (10, .ref (fa f2)), (9, .int 1), (8, .ref (ba b)), (0, .ref x), (1, .ref (o 0)), (2, .int v), (3, .int (nI f)), (4, .int (nI ch)), (5, .int (nI b))]) hx hb dL_act_890 hl (by decide) rfl (fun ls hl => ?_)
            refine lv_aload_n hx hb dL_act_892 rfl (lv_at hl 5 rfl) ?_
            refine lv_iload hx hb dL_act_893 (lv_at hl 10 rfl) ?_
            have hM := lx_carry l (D := D) (k := k) (a := a) (tr := tr) (x := x) (o9 := o) (fa9 := fa) (ba9 := ba) (U9 := U) (G9 := G) (T9 := mPutB T b 2 (nI c2)) (n9 := n) (nf9 := nf) (L9 := mL T n) (R9 := R) S (nI b) (xbag_n hra hbn) ((hand_n hrb hbn).mpr zh) (by rw [er]; exact ((ng_iff hra k2).mpr z2)) (by rw [er, er2, e2]; exact ⟨xch_n hc2, (room_iff hra hrb hc2).mpr z4⟩)
            rw [er, er2, e2] at hM
            refine c_mVi (rest := []) hC hE hP hD hS (ws' := (LW k a tr o fa ba x (xPut S (nI b) (nI c2)) U G (mPutB T b 2 (nI c2)) n nf (mL T n) R)) lw_same hM gc_RL_71 hd_X4_carry ⟨rfl, rfl⟩ ⟨Nat.le_of_ble_eq_true rfl, Nat.le_of_ble_eq_true rfl⟩ 29 lw_29 rfl rfl hl.1 (Nat.le_of_ble_eq_true rfl) ⟨(Nat.le_of_ble_eq_true rfl), (Nat.le_of_ble_eq_true rfl)⟩ dL_act_895 (fun H locs hP hD hS => ?_)
            refine lv_istore (lv' := [(6, .int (nI c2)), (7, .int (nI c2)), (11, .int 1), (10, .ref (fa f2)), (9, .int 1), (8, .ref (ba b)), (0, .ref x), (1, .ref (o 0)), (2, .int v), (3, .int (nI f)), (4, .int (nI ch)), (5, .int (nI b))]) hx hb dL_act_898 hl (by decide) rfl (fun ls hl => ?_)
            refine lv_goto (tgt := 908) hx hb dL_act_900 (by decide) ?_
            refine lv_iload hx hb dL_act_908 (lv_at hl 0 rfl) ?_
            refine lv_iload hx hb dL_act_910 (lv_at hl 1 rfl) ?_
            refine lv_icmp_ne (tgt := 919) hx hb dL_act_912 (by decide) (fun c_ => absurd rfl c_) (fun c_35 => ?_)
            refine lv_iconst (v := 1) hx hb dL_act_915 (by decide) ?_
            refine lv_goto (tgt := 920) hx hb dL_act_916 (by decide) ?_
            obtain ⟨ha9, hb9⟩ := carry_rel hra hrb hbn hc2 zh
            have e99 : (LW k a tr o fa ba x (xPut S (nI b) (nI c2)) U (thr G 0) (mToCh T b c2) n nf (mL (mToCh T b c2) n) R) = (LW k a tr o fa ba x (xPut S (nI b) (nI c2)) U G (mPutB T b 2 (nI c2)) n nf (mL T n) R) := (by rw [mL_eq hrb hb9 rfl]; rfl)
            rw [← e99] at hP hD
            exact g_zret hx hb hr rfl hlk dL_act_920 hP hD hS ⟨rfl, o, fa, ba, (xPut S (nI b) (nI c2)), U, (thr G 0), (mToCh T b c2), n, nf, hnf0, ha9, hb9, (TI_w hti rfl rfl (fun i hi => by
                by_cases e : i = b
                · rw [e]; exact Or.inr ⟨2, by omega, by omega, upd_e _ _ _⟩
                · exact Or.inl (upd_n e))), (carry_gi hgi), ho, rfl⟩ (Nat.le_of_ble_eq_true rfl) (Nat.le_of_ble_eq_true rfl)
          · refine lv_aload_n hx hb dL_act_781 rfl (lv_at hl 1 rfl) ?_
            refine va_get (D := D) (ci := 5) (v := .ref (o 3)) (C := RX5) (T := TX5) (N := 6) hx hb hts tu_5 hown hE.1 hP 59 lw_59 rfl 4 (by decide) (hts _ tw_740) (fun _ h9 => h9) rfl dL_act_782 ?_
            refine lv_iload hx hb dL_act_785 (lv_at hl 5 rfl) ?_
            refine k_aald (j := b) hx hb hE hP 62 lw_62 hbn (Nat.lt_of_le_of_lt hn (by decide)) dL_act_787 ?_
            refine lv_astore (lv' := [(8, .ref (ba b)), (0, .ref x), (1, .ref (o 0)), (2, .int v), (3, .int (nI f)), (4, .int (nI ch)), (5, .int (nI b)), (7, .int (-1))]) hx hb dL_act_788 hl (by decide) rfl (fun ls hl => ?_)
            refine lv_aload hx hb dL_act_790 (lv_at hl 0 rfl) ?_
            refine lv_iconst (v := 3) hx hb dL_act_792 (by decide) ?_
            refine k_iald (j := 3) hx hb hE hP (64 + nf + b) (lw_b hbn) (by decide) (by decide) dL_act_793 ?_
            refine w_top (show bgR G T b 3 = T 1 b from rfl) ?_
            refine lv_iconst (v := 3) hx hb dL_act_794 (by decide) ?_
            refine lv_icmp_eq (tgt := 806) hx hb dL_act_795 (by decide) (fun c_ => absurd c_ (by rw [za]; decide)) (fun c_36 => ?_)
            refine lv_aload hx hb dL_act_798 (lv_at hl 0 rfl) ?_
            refine lv_iconst (v := 3) hx hb dL_act_800 (by decide) ?_
            refine k_iald (j := 3) hx hb hE hP (64 + nf + b) (lw_b hbn) (by decide) (by decide) dL_act_801 ?_
            refine w_top (show bgR G T b 3 = T 1 b from rfl) ?_
            refine lv_iconst (v := 4) hx hb dL_act_802 (by decide) ?_
            refine lv_icmp_ne (tgt := 810) hx hb dL_act_803 (by decide) (fun c_ => absurd za c_) (fun c_37 => ?_)
            refine lv_iconst (v := 1) hx hb dL_act_806 (by decide) ?_
            refine lv_goto (tgt := 811) hx hb dL_act_807 (by decide) ?_
            refine lv_istore (lv' := [(9, .int 1), (8, .ref (ba b)), (0, .ref x), (1, .ref (o 0)), (2, .int v), (3, .int (nI f)), (4, .int (nI ch)), (5, .int (nI b)), (7, .int (-1))]) hx hb dL_act_811 hl (by decide) rfl (fun ls hl => ?_)
            refine lv_aload_n hx hb dL_act_813 rfl (lv_at hl 3 rfl) ?_
            refine va_get (D := D) (ci := 5) (v := .ref (o 2)) (C := RX5) (T := TX5) (N := 6) hx hb hts tu_5 hown hE.1 hP 59 lw_59 rfl 3 (by decide) (hts _ tw_738) (fun _ h9 => h9) rfl dL_act_814 ?_
            refine lv_aload hx hb dL_act_817 (lv_at hl 1 rfl) ?_
            refine lv_iconst (v := 0) hx hb dL_act_819 (by decide) ?_
            refine k_iald (j := 0) hx hb hE hP (64 + nf + b) (lw_b hbn) (by decide) (by decide) dL_act_820 ?_
            refine w_top (show bgR G T b 0 = G 4 b from rfl) ?_
            refine w_top (show G 4 b = nI f2 from k3) ?_
            refine k_aald (j := f2) hx hb hE hP 61 lw_61 k1 (Nat.lt_of_le_of_lt hnf (by decide)) dL_act_821 ?_
            refine lv_astore (lv' := [(10, .ref (fa f2)), (9, .int 1), (8, .ref (ba b)), (0, .ref x), (1, .ref (o 0)), (2, .int v), (3, .int (nI f)), (4, .int (nI ch)), (5, .int (nI b)), (7, .int (-1))]) hx hb dL_act_822 hl (by decide) rfl (fun ls hl => ?_)
            refine lv_aload hx hb dL_act_824 (lv_at hl 0 rfl) ?_
            refine lv_iconst (v := 1) hx hb dL_act_826 (by decide) ?_
            refine k_iald (j := 1) hx hb hE hP (64 + f2) (lw_f k1) (by decide) (by decide) dL_act_827 ?_
            refine w_top (show flR G f2 1 = G 2 f2 from rfl) ?_
            refine w_top (show G 2 f2 = 0 from z2) ?_
            refine lv_if_ne (tgt := 921) hx hb dL_act_828 (by decide) (fun c_ => absurd rfl c_) (fun c_38 => ?_)
            refine lv_iload hx hb dL_act_831 (lv_at hl 1 rfl) ?_
            refine lv_if_eq (tgt := 867) hx hb dL_act_833 (by decide) (fun c_ => absurd c_ (by decide)) (fun c_39 => ?_)
            refine lv_aload hx hb dL_act_836 (lv_at hl 0 rfl) ?_
            refine lv_iconst (v := 0) hx hb dL_act_838 (by decide) ?_
            refine k_iald (j := 0) hx hb hE hP (64 + f2) (lw_f k1) (by decide) (by decide) dL_act_839 ?_
            refine w_top (show flR G f2 0 = G 1 f2 from rfl) ?_
            refine w_top (show G 1 f2 = nI c2 from e2) ?_
            refine lv_if_lt (tgt := 867) hx hb dL_act_840 (by decide) (fun c_ => absurd c_ (nI_pos (by omega))) (fun c_40 => ?_)
            refine lv_aload_n hx hb dL_act_843 rfl (lv_at hl 4 rfl) ?_
            refine lv_aload hx hb dL_act_844 (lv_at hl 0 rfl) ?_
            refine lv_iconst (v := 0) hx hb dL_act_846 (by decide) ?_
            refine k_iald (j := 0) hx hb hE hP (64 + f2) (lw_f k1) (by decide) (by decide) dL_act_847 ?_
            refine w_top (show flR G f2 0 = G 1 f2 from rfl) ?_
            refine w_top (show G 1 f2 = nI c2 from e2) ?_
            refine c_pVi (rest := []) hC hE hP (metX5_in l G T hn hnf (nI c2) ) gc_RL_68 hd_X5_in ⟨rfl, rfl⟩ ⟨Nat.le_of_ble_eq_true rfl, Nat.le_of_ble_eq_true rfl⟩ 59 lw_59 rfl rfl hl.1 (Nat.le_of_ble_eq_true rfl) ⟨Nat.le_of_ble_eq_true rfl, Nat.le_of_ble_eq_true rfl⟩ dL_act_848 ?_
            refine w_top (show nI (inN T (nI c2) n) = T 7 c2 from eci) ?_
            refine lv_aload_n hx hb dL_act_851 rfl (lv_at hl 4 rfl) ?_
            refine va_get (D := D) (ci := 5) (v := .ref (o 1)) (C := RX5) (T := TX5) (N := 6) hx hb hts tu_5 hown hE.1 hP 59 lw_59 rfl 2 (by decide) (hts _ tw_736) (fun _ h9 => h9) rfl dL_act_852 ?_
            refine lv_aload hx hb dL_act_855 (lv_at hl 0 rfl) ?_
            refine lv_iconst (v := 0) hx hb dL_act_857 (by decide) ?_
            refine k_iald (j := 0) hx hb hE hP (64 + f2) (lw_f k1) (by decide) (by decide) dL_act_858 ?_
            refine w_top (show flR G f2 0 = G 1 f2 from rfl) ?_
            refine w_top (show G 1 f2 = nI c2 from e2) ?_
            refine k_iald (j := c2) hx hb hE hP 60 lw_60 hc2 (by decide) dL_act_859 ?_
            refine lv_icmp_ge (tgt := 867) hx hb dL_act_860 (by decide) (fun c_41 => ?_) (fun c_ => absurd (Int32.not_lt.mp z4) c_)
            refine lv_iconst (v := 0) hx hb dL_act_867 (by decide) ?_
            refine lv_istore (lv' := [(11, .int 0), (10, .ref (fa f2)), (9, .int 1), (8, .ref (ba b)), (0, .ref x), (1, .ref (o 0)), (2, .int v), (3, .int (nI f)), (4, .int (nI ch)), (5, .int (nI b)), (7, .int (-1))]) hx hb dL_act_868 hl (by decide) rfl (fun ls hl => ?_)
            refine lv_iload hx hb dL_act_870 (lv_at hl 0 rfl) ?_
            refine lv_if_eq (tgt := 892) hx hb dL_act_872 (by decide) (fun c_42 => ?_) (fun c_ => absurd rfl c_)
            refine lv_aload_n hx hb dL_act_892 rfl (lv_at hl 4 rfl) ?_
            refine lv_iload hx hb dL_act_893 (lv_at hl 9 rfl) ?_
            refine c_xV (rest := []) (E := "java/lang/IllegalStateException") hC hE hP hX (zA_x hZ hS) (lxb_carry_3 l S (nI b) hfl (xbag_n hra hbn) ((hand_n hrb hbn).mpr zh) (by rw [er]; exact ((ng_iff hra k2).mpr z2)) (by rw [er, er2, e2]; exact fun z => z4 ((room_iff hra hrb hc2).mp z.2))) gc_RL_71 hd_X4_carry ⟨Nat.le_of_ble_eq_true rfl, Nat.le_of_ble_eq_true rfl⟩ 29 lw_29 rfl rfl hl.1 (Nat.le_of_ble_eq_true rfl) ⟨(Nat.le_of_ble_eq_true rfl), (Nat.le_of_ble_eq_true rfl)⟩ dL_act_895 (fun ce q9 H1 h1 h2 h3 hP1 hz1 hk1 => ?_)
            refine vx_catch (own := RL) (E := "java/lang/IllegalStateException") (name := "java/lang/IllegalStateException") hown [⟨180, 186, 189, 34⟩, ⟨320, 329, 332, 34⟩, ⟨585, 592, 595, 34⟩] ⟨892, 900, 903, 34⟩ [⟨982, 991, 994, 34⟩, ⟨1152, 1163, 1166, 34⟩] htab (fun z hz => Or.inl (by
                simp only [List.mem_cons, List.not_mem_nil, or_false] at hz
                rcases hz with rfl | rfl | rfl <;> rfl)) rfl (by decide) (hts _ tw_602) (va_Nw.use rfl (hX.2.1 (.castable "java/lang/IllegalStateException" "java/lang/IllegalStateException") (by decide +kernel))) h1 h2 h3 ?_
            have hS := vS_grown hS hz1 hk1
            have hP := hP1
            refine lv_astore (lv' := [(12, .ref q9), (11, .int 0), (10, .ref (fa f2)), (9, .int 1), (8, .ref (ba b)), (0, .ref x), (1, .ref (o 0)), (2, .int v), (3, .int (nI f)), (4, .int (nI ch)), (5, .int (nI b)), (7, .int (-1))]) hx hb dL_act_903 hl (by decide) rfl (fun ls hl => ?_)
            refine lv_iconst (v := (-1)) hx hb dL_act_905 (by decide) ?_
            refine lv_istore (lv' := [(6, .int (-1)), (12, .ref q9), (11, .int 0), (10, .ref (fa f2)), (9, .int 1), (8, .ref (ba b)), (0, .ref x), (1, .ref (o 0)), (2, .int v), (3, .int (nI f)), (4, .int (nI ch)), (5, .int (nI b)), (7, .int (-1))]) hx hb dL_act_906 hl (by decide) rfl (fun ls hl => ?_)
            refine lv_iload hx hb dL_act_908 (lv_at hl 0 rfl) ?_
            refine lv_iload hx hb dL_act_910 (lv_at hl 12 rfl) ?_
            refine lv_icmp_ne (tgt := 919) hx hb dL_act_912 (by decide) (fun c_ => absurd rfl c_) (fun c_43 => ?_)
            refine lv_iconst (v := 1) hx hb dL_act_915 (by decide) ?_
            refine lv_goto (tgt := 920) hx hb dL_act_916 (by decide) ?_
            have e99 : (LW k a tr o fa ba x S U G T n nf (mL T n) R) = (LW k a tr o fa ba x S U G T n nf (mL T n) R) := rfl
            rw [← e99] at hP hD
            exact g_zret hx hb hr rfl hlk dL_act_920 hP hD hS ⟨rfl, o, fa, ba, S, U, G, T, n, nf, hnf0, hra, hrb, hti, hgi, ho, rfl⟩ (Nat.le_of_ble_eq_true rfl) (Nat.le_of_ble_eq_true rfl)
    · have za : ¬ (T 1 b = 3 ∨ T 1 b = 4) := zh
      refine lv_aload_n hx hb dL_act_781 rfl (lv_at hl 1 rfl) ?_
      refine va_get (D := D) (ci := 5) (v := .ref (o 3)) (C := RX5) (T := TX5) (N := 6) hx hb hts tu_5 hown hE.1 hP 59 lw_59 rfl 4 (by decide) (hts _ tw_740) (fun _ h9 => h9) rfl dL_act_782 ?_
      refine lv_iload hx hb dL_act_785 (lv_at hl 5 rfl) ?_
      refine k_aald (j := b) hx hb hE hP 62 lw_62 hbn (Nat.lt_of_le_of_lt hn (by decide)) dL_act_787 ?_
      refine lv_astore (lv' := [(8, .ref (ba b)), (0, .ref x), (1, .ref (o 0)), (2, .int v), (3, .int (nI f)), (4, .int (nI ch)), (5, .int (nI b)), (7, .int (-1))]) hx hb dL_act_788 hl (by decide) rfl (fun ls hl => ?_)
      refine lv_aload hx hb dL_act_790 (lv_at hl 0 rfl) ?_
      refine lv_iconst (v := 3) hx hb dL_act_792 (by decide) ?_
      refine k_iald (j := 3) hx hb hE hP (64 + nf + b) (lw_b hbn) (by decide) (by decide) dL_act_793 ?_
      refine w_top (show bgR G T b 3 = T 1 b from rfl) ?_
      refine lv_iconst (v := 3) hx hb dL_act_794 (by decide) ?_
      refine lv_icmp_eq (tgt := 806) hx hb dL_act_795 (by decide) (fun c_ => absurd c_ (fun z => za (Or.inl z))) (fun c_44 => ?_)
      refine lv_aload hx hb dL_act_798 (lv_at hl 0 rfl) ?_
      refine lv_iconst (v := 3) hx hb dL_act_800 (by decide) ?_
      refine k_iald (j := 3) hx hb hE hP (64 + nf + b) (lw_b hbn) (by decide) (by decide) dL_act_801 ?_
      refine w_top (show bgR G T b 3 = T 1 b from rfl) ?_
      refine lv_iconst (v := 4) hx hb dL_act_802 (by decide) ?_
      refine lv_icmp_ne (tgt := 810) hx hb dL_act_803 (by decide) (fun c_45 => ?_) (fun c_ => absurd c_ (fun z => za (Or.inr z)))
      refine lv_iconst (v := 0) hx hb dL_act_810 (by decide) ?_
      refine lv_istore (lv' := [(9, .int 0), (8, .ref (ba b)), (0, .ref x), (1, .ref (o 0)), (2, .int v), (3, .int (nI f)), (4, .int (nI ch)), (5, .int (nI b)), (7, .int (-1))]) hx hb dL_act_811 hl (by decide) rfl (fun ls hl => ?_)
      refine lv_aload_n hx hb dL_act_813 rfl (lv_at hl 3 rfl) ?_
      refine va_get (D := D) (ci := 5) (v := .ref (o 2)) (C := RX5) (T := TX5) (N := 6) hx hb hts tu_5 hown hE.1 hP 59 lw_59 rfl 3 (by decide) (hts _ tw_738) (fun _ h9 => h9) rfl dL_act_814 ?_
      refine lv_aload hx hb dL_act_817 (lv_at hl 1 rfl) ?_
      refine lv_iconst (v := 0) hx hb dL_act_819 (by decide) ?_
      refine k_iald (j := 0) hx hb hE hP (64 + nf + b) (lw_b hbn) (by decide) (by decide) dL_act_820 ?_
      refine w_top (show bgR G T b 0 = G 4 b from rfl) ?_
      refine w_top (show G 4 b = nI f2 from k3) ?_
      refine k_aald (j := f2) hx hb hE hP 61 lw_61 k1 (Nat.lt_of_le_of_lt hnf (by decide)) dL_act_821 ?_
      refine lv_astore (lv' := [(10, .ref (fa f2)), (9, .int 0), (8, .ref (ba b)), (0, .ref x), (1, .ref (o 0)), (2, .int v), (3, .int (nI f)), (4, .int (nI ch)), (5, .int (nI b)), (7, .int (-1))]) hx hb dL_act_822 hl (by decide) rfl (fun ls hl => ?_)
      refine lv_aload hx hb dL_act_824 (lv_at hl 0 rfl) ?_
      refine lv_iconst (v := 1) hx hb dL_act_826 (by decide) ?_
      refine k_iald (j := 1) hx hb hE hP (64 + f2) (lw_f k1) (by decide) (by decide) dL_act_827 ?_
      refine w_top (show flR G f2 1 = G 2 f2 from rfl) ?_
      refine w_top (show G 2 f2 = 0 from z2) ?_
      refine lv_if_ne (tgt := 921) hx hb dL_act_828 (by decide) (fun c_ => absurd rfl c_) (fun c_46 => ?_)
      refine lv_iload hx hb dL_act_831 (lv_at hl 1 rfl) ?_
      refine lv_if_eq (tgt := 867) hx hb dL_act_833 (by decide) (fun c_47 => ?_) (fun c_ => absurd rfl c_)
      refine lv_iconst (v := 0) hx hb dL_act_867 (by decide) ?_
      refine lv_istore (lv' := [(11, .int 0), (10, .ref (fa f2)), (9, .int 0), (8, .ref (ba b)), (0, .ref x), (1, .ref (o 0)), (2, .int v), (3, .int (nI f)), (4, .int (nI ch)), (5, .int (nI b)), (7, .int (-1))]) hx hb dL_act_868 hl (by decide) rfl (fun ls hl => ?_)
      refine lv_iload hx hb dL_act_870 (lv_at hl 0 rfl) ?_
      refine lv_if_eq (tgt := 892) hx hb dL_act_872 (by decide) (fun c_48 => ?_) (fun c_ => absurd rfl c_)
      refine lv_aload_n hx hb dL_act_892 rfl (lv_at hl 4 rfl) ?_
      refine lv_iload hx hb dL_act_893 (lv_at hl 9 rfl) ?_
      refine c_xV (rest := []) (E := "java/lang/IllegalStateException") hC hE hP hX (zA_x hZ hS) (lxb_carry_1 l S (nI b) hfl (xbag_n hra hbn) (fun z => zh ((hand_n hrb hbn).mp z))) gc_RL_71 hd_X4_carry ⟨Nat.le_of_ble_eq_true rfl, Nat.le_of_ble_eq_true rfl⟩ 29 lw_29 rfl rfl hl.1 (Nat.le_of_ble_eq_true rfl) ⟨(Nat.le_of_ble_eq_true rfl), (Nat.le_of_ble_eq_true rfl)⟩ dL_act_895 (fun ce q9 H1 h1 h2 h3 hP1 hz1 hk1 => ?_)
      refine vx_catch (own := RL) (E := "java/lang/IllegalStateException") (name := "java/lang/IllegalStateException") hown [⟨180, 186, 189, 34⟩, ⟨320, 329, 332, 34⟩, ⟨585, 592, 595, 34⟩] ⟨892, 900, 903, 34⟩ [⟨982, 991, 994, 34⟩, ⟨1152, 1163, 1166, 34⟩] htab (fun z hz => Or.inl (by
          simp only [List.mem_cons, List.not_mem_nil, or_false] at hz
          rcases hz with rfl | rfl | rfl <;> rfl)) rfl (by decide) (hts _ tw_602) (va_Nw.use rfl (hX.2.1 (.castable "java/lang/IllegalStateException" "java/lang/IllegalStateException") (by decide +kernel))) h1 h2 h3 ?_
      have hS := vS_grown hS hz1 hk1
      have hP := hP1
      refine lv_astore (lv' := [(12, .ref q9), (11, .int 0), (10, .ref (fa f2)), (9, .int 0), (8, .ref (ba b)), (0, .ref x), (1, .ref (o 0)), (2, .int v), (3, .int (nI f)), (4, .int (nI ch)), (5, .int (nI b)), (7, .int (-1))]) hx hb dL_act_903 hl (by decide) rfl (fun ls hl => ?_)
      refine lv_iconst (v := (-1)) hx hb dL_act_905 (by decide) ?_
      refine lv_istore (lv' := [(6, .int (-1)), (12, .ref q9), (11, .int 0), (10, .ref (fa f2)), (9, .int 0), (8, .ref (ba b)), (0, .ref x), (1, .ref (o 0)), (2, .int v), (3, .int (nI f)), (4, .int (nI ch)), (5, .int (nI b)), (7, .int (-1))]) hx hb dL_act_906 hl (by decide) rfl (fun ls hl => ?_)
      refine lv_iload hx hb dL_act_908 (lv_at hl 0 rfl) ?_
      refine lv_iload hx hb dL_act_910 (lv_at hl 12 rfl) ?_
      refine lv_icmp_ne (tgt := 919) hx hb dL_act_912 (by decide) (fun c_ => absurd rfl c_) (fun c_49 => ?_)
      refine lv_iconst (v := 1) hx hb dL_act_915 (by decide) ?_
      refine lv_goto (tgt := 920) hx hb dL_act_916 (by decide) ?_
      have e99 : (LW k a tr o fa ba x S U G T n nf (mL T n) R) = (LW k a tr o fa ba x S U G T n nf (mL T n) R) := rfl
      rw [← e99] at hP hD
      exact g_zret hx hb hr rfl hlk dL_act_920 hP hD hS ⟨rfl, o, fa, ba, S, U, G, T, n, nf, hnf0, hra, hrb, hti, hgi, ho, rfl⟩ (Nat.le_of_ble_eq_true rfl) (Nat.le_of_ble_eq_true rfl)
  · have z5 : G 2 f2 = 1 := (hra.gob f2 k2).elim (fun z => absurd z z2) id
    by_cases zh : mAside T b
    · rcases (show T 1 b = 3 ∨ T 1 b = 4 from zh) with za | za
      · by_cases z6 : G 2 f = 0
        · obtain ⟨ha9, hb9⟩ := fwd_rel hra hrb hbn hf zh
          have hb9 : RB (xTakeIn (xRenew S (nI b) (nI f)) (nI b)) (mBegin (sf G 4 (upd (G 4) b (nI f))) T b) n := hb9
          have eV : mBegin (sf (thr G 0) 4 (upd (G 4) b (nI f))) T b = mBegin (sf G 4 (upd (G 4) b (nI f))) T b := rfl
          refine lv_aload_n hx hb dL_act_781 rfl (lv_at hl 1 rfl) ?_
          refine va_get (D := D) (ci := 5) (v := .ref (o 3)) (C := RX5) (T := TX5) (N := 6) hx hb hts tu_5 hown hE.1 hP 59 lw_59 rfl 4 (by decide) (hts _ tw_740) (fun _ h9 => h9) rfl dL_act_782 ?_
          refine lv_iload hx hb dL_act_785 (lv_at hl 5 rfl) ?_
          refine k_aald (j := b) hx hb hE hP 62 lw_62 hbn (Nat.lt_of_le_of_lt hn (by decide)) dL_act_787 ?_
          refine lv_astore (lv' := [(8, .ref (ba b)), (0, .ref x), (1, .ref (o 0)), (2, .int v), (3, .int (nI f)), (4, .int (nI ch)), (5, .int (nI b)), (7, .int (-1))]) hx hb dL_act_788 hl (by decide) rfl (fun ls hl => ?_)
          refine lv_aload hx hb dL_act_790 (lv_at hl 0 rfl) ?_
          refine lv_iconst (v := 3) hx hb dL_act_792 (by decide) ?_
          refine k_iald (j := 3) hx hb hE hP (64 + nf + b) (lw_b hbn) (by decide) (by decide) dL_act_793 ?_
          refine w_top (show bgR G T b 3 = T 1 b from rfl) ?_
          refine lv_iconst (v := 3) hx hb dL_act_794 (by decide) ?_
          refine lv_icmp_eq (tgt := 806) hx hb dL_act_795 (by decide) (fun c_50 => ?_) (fun c_ => absurd za c_)
          refine lv_iconst (v := 1) hx hb dL_act_806 (by decide) ?_
          refine lv_goto (tgt := 811) hx hb dL_act_807 (by decide) ?_
          refine lv_istore (lv' := [(9, .int 1), (8, .ref (ba b)), (0, .ref x), (1, .ref (o 0)), (2, .int v), (3, .int (nI f)), (4, .int (nI ch)), (5, .int (nI b)), (7, .int (-1))]) hx hb dL_act_811 hl (by decide) rfl (fun ls hl => ?_)
          refine lv_aload_n hx hb dL_act_813 rfl (lv_at hl 3 rfl) ?_
          refine va_get (D := D) (ci := 5) (v := .ref (o 2)) (C := RX5) (T := TX5) (N := 6) hx hb hts tu_5 hown hE.1 hP 59 lw_59 rfl 3 (by decide) (hts _ tw_738) (fun _ h9 => h9) rfl dL_act_814 ?_
          refine lv_aload hx hb dL_act_817 (lv_at hl 1 rfl) ?_
          refine lv_iconst (v := 0) hx hb dL_act_819 (by decide) ?_
          refine k_iald (j := 0) hx hb hE hP (64 + nf + b) (lw_b hbn) (by decide) (by decide) dL_act_820 ?_
          refine w_top (show bgR G T b 0 = G 4 b from rfl) ?_
          refine w_top (show G 4 b = nI f2 from k3) ?_
          refine k_aald (j := f2) hx hb hE hP 61 lw_61 k1 (Nat.lt_of_le_of_lt hnf (by decide)) dL_act_821 ?_
          refine lv_astore (lv' := [(10, .ref (fa f2)), (9, .int 1), (8, .ref (ba b)), (0, .ref x), (1, .ref (o 0)), (2, .int v), (3, .int (nI f)), (4, .int (nI ch)), (5, .int (nI b)), (7, .int (-1))]) hx hb dL_act_822 hl (by decide) rfl (fun ls hl => ?_)
          refine lv_aload hx hb dL_act_824 (lv_at hl 0 rfl) ?_
          refine lv_iconst (v := 1) hx hb dL_act_826 (by decide) ?_
          refine k_iald (j := 1) hx hb hE hP (64 + f2) (lw_f k1) (by decide) (by decide) dL_act_827 ?_
          refine w_top (show flR G f2 1 = G 2 f2 from rfl) ?_
          refine lv_if_ne (tgt := 921) hx hb dL_act_828 (by decide) (fun c_51 => ?_) (fun c_ => absurd c_ z2)
          refine lv_iload hx hb dL_act_921 (lv_at hl 1 rfl) ?_
          refine lv_if_eq (tgt := 941) hx hb dL_act_923 (by decide) (fun c_ => absurd c_ (by decide)) (fun c_52 => ?_)
          refine lv_aload_n hx hb dL_act_926 rfl (lv_at hl 4 rfl) ?_
          refine va_get (D := D) (ci := 5) (v := .ref (o 2)) (C := RX5) (T := TX5) (N := 6) hx hb hts tu_5 hown hE.1 hP 59 lw_59 rfl 3 (by decide) (hts _ tw_738) (fun _ h9 => h9) rfl dL_act_927 ?_
          refine lv_iload_n hx hb dL_act_930 rfl (lv_at hl 6 rfl) ?_
          refine k_aald (j := f) hx hb hE hP 61 lw_61 hf (Nat.lt_of_le_of_lt hnf (by decide)) dL_act_931 ?_
          refine lv_iconst (v := 1) hx hb dL_act_932 (by decide) ?_
          refine k_iald (j := 1) hx hb hE hP (64 + f) (lw_f hf) (by decide) (by decide) dL_act_933 ?_
          refine w_top (show flR G f 1 = G 2 f from rfl) ?_
          refine w_top (show G 2 f = 0 from z6) ?_
          refine lv_if_ne (tgt := 941) hx hb dL_act_934 (by decide) (fun c_ => absurd rfl c_) (fun c_53 => ?_)
          refine lv_iconst (v := 1) hx hb dL_act_937 (by decide) ?_
          refine lv_goto (tgt := 942) hx hb dL_act_938 (by decide) ?_
          refine lv_istore (lv' := [(11, .int 1), (10, .ref (fa f2)), (9, .int 1), (8, .ref (ba b)), (0, .ref x), (1, .ref (o 0)), (2, .int v), (3, .int (nI f)), (4, .int (nI ch)), (5, .int (nI b)), (7, .int (-1))]) hx hb dL_act_942 hl (by decide) rfl (fun ls hl => ?_)
          refine lv_iload hx hb dL_act_944 (lv_at hl 0 rfl) ?_
          refine lv_if_eq (tgt := 982) hx hb dL_act_946 (by decide) (fun c_ => absurd c_ (by decide)) (fun c_54 => ?_)
          refine lv_aload hx hb dL_act_949 (lv_at hl 3 rfl) ?_
          refine lv_iconst (v := 0) hx hb dL_act_951 (by decide) ?_
          refine lv_iload_n hx hb dL_act_952 rfl (lv_at hl 7 rfl) ?_
          refine k_iast (j := 0) hx hb hE hP hD hS (64 + nf + b) (lw_b hbn) (by decide) (by decide) dL_act_953 (fun H locs hP hD hS => ?_)
          rw [lws_b0 hbn] at hP hD
          have hP : va_P D vwCl (LW k a tr o fa ba x S U (sf G 4 (upd (G 4) b (nI f))) T n nf (mL T n) R) H := hP
          have hD : va_D A (LW k a tr o fa ba x S U (sf G 4 (upd (G 4) b (nI f))) T n nf (mL T n) R) := hD
          refine lv_aload_n hx hb dL_act_954 rfl (lv_at hl 5 rfl) ?_
          refine lv_iload hx hb dL_act_955 (lv_at hl 9 rfl) ?_
          refine c_gV (rest := []) hC hE hP hD hS hA (metX5_begin l (sf G 4 (upd (G 4) b (nI f))) T hn hnf b hbn (by omega) hrb.len) (fun _ _ _ => trivial) (fun _ _ _ _ _ => trivial) gc_RL_74 hd_X5_begin ⟨rfl, rfl⟩ ⟨Nat.le_of_ble_eq_true rfl, Nat.le_of_ble_eq_true rfl⟩ 59 lw_59 rfl rfl hl.1 (Nat.le_of_ble_eq_true rfl) ⟨(Nat.le_of_ble_eq_true rfl), (Nat.le_of_ble_eq_true rfl)⟩ dL_act_957 (fun v9 w9 H locs hp hP hD hS => ?_)
          obtain ⟨rfl, o9, ho9, rfl⟩ := hp
          have hP : va_P D vwCl (LW k a tr o9 fa ba x S U (sf G 4 (upd (G 4) b (nI f))) (mBegin (sf G 4 (upd (G 4) b (nI f))) T b) n nf (ix (mBegin (sf G 4 (upd (G 4) b (nI f))) T b 0 1)) R) H := hP
          have hD : va_D A (LW k a tr o9 fa ba x S U (sf G 4 (upd (G 4) b (nI f))) (mBegin (sf G 4 (upd (G 4) b (nI f))) T b) n nf (ix (mBegin (sf G 4 (upd (G 4) b (nI f))) T b 0 1)) R) := hD
          rw [show o 0 = o9 0 from ho9.symm] at hl
          refine lv_aload hx hb dL_act_960 (lv_at hl 3 rfl) ?_
          refine lv_bipush (v := 7) hx hb dL_act_962 (by decide) ?_
          refine k_iald (j := 7) hx hb hE hP (64 + nf + b) (lw_b hbn) (by decide) (by decide) dL_act_964 ?_
          refine w_top (show bgR (sf G 4 (upd (G 4) b (nI f))) (mBegin (sf G 4 (upd (G 4) b (nI f))) T b) b 7 = (sf G 4 (upd (G 4) b (nI f))) 7 b from rfl) ?_
          refine lv_iconst (v := 1) hx hb dL_act_965 (by decide) ?_
          refine lv_icmp_ne (tgt := 975) hx hb dL_act_966 (by decide) (fun c_55 => ?_) (fun c_55 => ?_)
          · refine lv_aload_n hx hb dL_act_975 rfl (lv_at hl 5 rfl) ?_
            refine va_get (D := D) (ci := 5) (v := .ref (o9 4)) (C := RX5) (T := TX5) (N := 6) hx hb hts tu_5 hown hE.1 hP 59 lw_59 rfl 5 (by decide) (hts _ tw_742) (fun _ h9 => h9) rfl dL_act_976 ?_
            refine k_alen hx hb hE hP 63 lw_63 dL_act_979 ?_
            have eL : nI (ix (mBegin (sf G 4 (upd (G 4) b (nI f))) T b 0 1)) = (mBegin (sf G 4 (upd (G 4) b (nI f))) T b) 0 1 := by rw [hb9.len, ix_i (by have : mL (mBegin (sf G 4 (upd (G 4) b (nI f))) T b) n ≤ n := ct_le _ n; omega)]
            refine w_top (show nI (ix (mBegin (sf G 4 (upd (G 4) b (nI f))) T b 0 1)) = (mBegin (sf G 4 (upd (G 4) b (nI f))) T b) 0 1 from eL) ?_
            refine lv_istore (lv' := [(7, .int ((mBegin (sf G 4 (upd (G 4) b (nI f))) T b) 0 1)), (11, .int 1), (10, .ref (fa f2)), (9, .int 1), (8, .ref (ba b)), (0, .ref x), (1, .ref (o9 0)), (2, .int v), (3, .int (nI f)), (4, .int (nI ch)), (5, .int (nI b))]) hx hb dL_act_980 hl (by decide) rfl (fun ls hl => ?_)
            refine lv_aload_n hx hb dL_act_982 rfl (lv_at hl 5 rfl) ?_
            refine lv_iload hx hb dL_act_983 (lv_at hl 10 rfl) ?_
            refine lv_iload_n hx hb dL_act_985 rfl (lv_at hl 8 rfl) ?_
            refine c_mVi (rest := []) hC hE hP hD hS (ws' := (LW k a tr o9 fa ba x (xTakeIn (xRenew S (nI b) (nI f)) (nI b)) U (sf G 4 (upd (G 4) b (nI f))) (mBegin (sf G 4 (upd (G 4) b (nI f))) T b) n nf (ix (mBegin (sf G 4 (upd (G 4) b (nI f))) T b 0 1)) R)) lw_same (lx_forward l S (nI b) (nI f) (xbag_n hra hbn) (xflt_n hra hf) ((hand_n hrb hbn).mpr zh) (by rw [er]; exact (gone_iff hra k2).mpr z2) ((ng_iff hra (by omega)).mpr z6)) gc_RL_81 hd_X4_forward ⟨rfl, rfl⟩ ⟨Nat.le_of_ble_eq_true rfl, Nat.le_of_ble_eq_true rfl⟩ 29 lw_29 rfl rfl hl.1 (Nat.le_of_ble_eq_true rfl) ⟨(Nat.le_of_ble_eq_true rfl), (Nat.le_of_ble_eq_true rfl)⟩ dL_act_986 (fun H locs hP hD hS => ?_)
            refine w_top (show (xTakeIn (xRenew S (nI b) (nI f)) (nI b)) 0 2 = (mBegin (sf G 4 (upd (G 4) b (nI f))) T b) 0 1 from hb9.lin) ?_
            refine lv_istore (lv' := [(6, .int ((mBegin (sf G 4 (upd (G 4) b (nI f))) T b) 0 1)), (7, .int ((mBegin (sf G 4 (upd (G 4) b (nI f))) T b) 0 1)), (11, .int 1), (10, .ref (fa f2)), (9, .int 1), (8, .ref (ba b)), (0, .ref x), (1, .ref (o9 0)), (2, .int v), (3, .int (nI f)), (4, .int (nI ch)), (5, .int (nI b))]) hx hb dL_act_989 hl (by decide) rfl (fun ls hl => ?_)
            refine lv_goto (tgt := 999) hx hb dL_act_991 (by decide) ?_
            refine lv_iload hx hb dL_act_999 (lv_at hl 0 rfl) ?_
            refine lv_iload hx hb dL_act_1001 (lv_at hl 1 rfl) ?_
            refine lv_icmp_ne (tgt := 1010) hx hb dL_act_1003 (by decide) (fun c_ => absurd rfl c_) (fun c_56 => ?_)
            refine lv_iconst (v := 1) hx hb dL_act_1006 (by decide) ?_
            refine lv_goto (tgt := 1011) hx hb dL_act_1007 (by decide) ?_
            have eL2 : ix (mBegin (sf G 4 (upd (G 4) b (nI f))) T b 0 1) = mL (mBegin (sf G 4 (upd (G 4) b (nI f))) T b) n := by rw [hb9.len, ix_i (by have : mL (mBegin (sf G 4 (upd (G 4) b (nI f))) T b) n ≤ n := ct_le _ n; omega)]
            have hg9 : GI (mClose (sf (thr G 0) 4 (upd (G 4) b (nI f))) b) (mBegin (sf G 4 (upd (G 4) b (nI f))) T b) n nf := GI_one (b0 := b) hgi (mClose_ne _ _ (by decide)) (mClose_ne _ _ (by decide)) (fun i e => (congrFun (mClose_ne _ _ (by decide)) i).trans (upd_n e)) (fun i e => mClose_7n e) (fun i _ e => ((begin_1 (G := (sf G 4 (upd (G 4) b (nI f)))) (T := T) (b := b)).2.1 i e).1) (mClose_7 (hgi.fi b hbn)) begin_n5
            have eC : (mClose (sf (thr G 0) 4 (upd (G 4) b (nI f))) b) = sf (thr G 0) 4 (upd (G 4) b (nI f)) := sel_f c_55 _ _
            have e99 : (LW k a tr o9 fa ba x (xTakeIn (xRenew S (nI b) (nI f)) (nI b)) U (mClose (sf (thr G 0) 4 (upd (G 4) b (nI f))) b) (mBegin (sf G 4 (upd (G 4) b (nI f))) T b) n nf (mL (mBegin (sf G 4 (upd (G 4) b (nI f))) T b) n) R) = (LW k a tr o9 fa ba x (xTakeIn (xRenew S (nI b) (nI f)) (nI b)) U (sf G 4 (upd (G 4) b (nI f))) (mBegin (sf G 4 (upd (G 4) b (nI f))) T b) n nf (ix (mBegin (sf G 4 (upd (G 4) b (nI f))) T b 0 1)) R) := (by rw [eC, eL2]; rfl)
            rw [← e99] at hP hD
            exact g_zret hx hb hr rfl hlk dL_act_1011 hP hD hS ⟨rfl, o9, fa, ba, (xTakeIn (xRenew S (nI b) (nI f)) (nI b)), U, (mClose (sf (thr G 0) 4 (upd (G 4) b (nI f))) b), (mBegin (sf G 4 (upd (G 4) b (nI f))) T b), n, nf, hnf0, ha9, hb9, (begin_ti hti), hg9, (ho9.trans ho), rfl⟩ (Nat.le_of_ble_eq_true rfl) (Nat.le_of_ble_eq_true rfl)
          · refine lv_aload hx hb dL_act_969 (lv_at hl 3 rfl) ?_
            refine lv_bipush (v := 7) hx hb dL_act_971 (by decide) ?_
            refine lv_iconst (v := 2) hx hb dL_act_973 (by decide) ?_
            refine k_iast (j := 7) hx hb hE hP hD hS (64 + nf + b) (lw_b hbn) (by decide) (by decide) dL_act_974 (fun H locs hP hD hS => ?_)
            have hP := lws_b7P hbn hP
            have hD := lws_b7D hbn hD
            rw [show (sf G 4 (upd (G 4) b (nI f))) 7 = G 7 from rfl] at hP hD
            have hP : va_P D vwCl (LW k a tr o9 fa ba x S U (sf (sf G 4 (upd (G 4) b (nI f))) 7 (upd (G 7) b 2)) (mBegin (sf G 4 (upd (G 4) b (nI f))) T b) n nf (ix (mBegin (sf G 4 (upd (G 4) b (nI f))) T b 0 1)) R) H := hP
            have hD : va_D A (LW k a tr o9 fa ba x S U (sf (sf G 4 (upd (G 4) b (nI f))) 7 (upd (G 7) b 2)) (mBegin (sf G 4 (upd (G 4) b (nI f))) T b) n nf (ix (mBegin (sf G 4 (upd (G 4) b (nI f))) T b 0 1)) R) := hD
            refine lv_aload_n hx hb dL_act_975 rfl (lv_at hl 5 rfl) ?_
            refine va_get (D := D) (ci := 5) (v := .ref (o9 4)) (C := RX5) (T := TX5) (N := 6) hx hb hts tu_5 hown hE.1 hP 59 lw_59 rfl 5 (by decide) (hts _ tw_742) (fun _ h9 => h9) rfl dL_act_976 ?_
            refine k_alen hx hb hE hP 63 lw_63 dL_act_979 ?_
            have eL : nI (ix (mBegin (sf G 4 (upd (G 4) b (nI f))) T b 0 1)) = (mBegin (sf G 4 (upd (G 4) b (nI f))) T b) 0 1 := by rw [hb9.len, ix_i (by have : mL (mBegin (sf G 4 (upd (G 4) b (nI f))) T b) n ≤ n := ct_le _ n; omega)]
            refine w_top (show nI (ix (mBegin (sf G 4 (upd (G 4) b (nI f))) T b 0 1)) = (mBegin (sf G 4 (upd (G 4) b (nI f))) T b) 0 1 from eL) ?_
            refine lv_istore (lv' := [(7, .int ((mBegin (sf G 4 (upd (G 4) b (nI f))) T b) 0 1)), (11, .int 1), (10, .ref (fa f2)), (9, .int 1), (8, .ref (ba b)), (0, .ref x), (1, .ref (o9 0)), (2, .int v), (3, .int (nI f)), (4, .int (nI ch)), (5, .int (nI b))]) hx hb dL_act_980 hl (by decide) rfl (fun ls hl => ?_)
            refine lv_aload_n hx hb dL_act_982 rfl (lv_at hl 5 rfl) ?_
            refine lv_iload hx hb dL_act_983 (lv_at hl 10 rfl) ?_
            refine lv_iload_n hx hb dL_act_985 rfl (lv_at hl 8 rfl) ?_
            refine c_mVi (rest := []) hC hE hP hD hS (ws' := (LW k a tr o9 fa ba x (xTakeIn (xRenew S (nI b) (nI f)) (nI b)) U (sf (sf G 4 (upd (G 4) b (nI f))) 7 (upd (G 7) b 2)) (mBegin (sf G 4 (upd (G 4) b (nI f))) T b) n nf (ix (mBegin (sf G 4 (upd (G 4) b (nI f))) T b 0 1)) R)) lw_same (lx_forward l S (nI b) (nI f) (xbag_n hra hbn) (xflt_n hra hf) ((hand_n hrb hbn).mpr zh) (by rw [er]; exact (gone_iff hra k2).mpr z2) ((ng_iff hra (by omega)).mpr z6)) gc_RL_81 hd_X4_forward ⟨rfl, rfl⟩ ⟨Nat.le_of_ble_eq_true rfl, Nat.le_of_ble_eq_true rfl⟩ 29 lw_29 rfl rfl hl.1 (Nat.le_of_ble_eq_true rfl) ⟨(Nat.le_of_ble_eq_true rfl), (Nat.le_of_ble_eq_true rfl)⟩ dL_act_986 (fun H locs hP hD hS => ?_)
            refine w_top (show (xTakeIn (xRenew S (nI b) (nI f)) (nI b)) 0 2 = (mBegin (sf G 4 (upd (G 4) b (nI f))) T b) 0 1 from hb9.lin) ?_
            refine lv_istore (lv' := [(6, .int ((mBegin (sf G 4 (upd (G 4) b (nI f))) T b) 0 1)), (7, .int ((mBegin (sf G 4 (upd (G 4) b (nI f))) T b) 0 1)), (11, .int 1), (10, .ref (fa f2)), (9, .int 1), (8, .ref (ba b)), (0, .ref x), (1, .ref (o9 0)), (2, .int v), (3, .int (nI f)), (4, .int (nI ch)), (5, .int (nI b))]) hx hb dL_act_989 hl (by decide) rfl (fun ls hl => ?_)
            refine lv_goto (tgt := 999) hx hb dL_act_991 (by decide) ?_
            refine lv_iload hx hb dL_act_999 (lv_at hl 0 rfl) ?_
            refine lv_iload hx hb dL_act_1001 (lv_at hl 1 rfl) ?_
            refine lv_icmp_ne (tgt := 1010) hx hb dL_act_1003 (by decide) (fun c_ => absurd rfl c_) (fun c_57 => ?_)
            refine lv_iconst (v := 1) hx hb dL_act_1006 (by decide) ?_
            refine lv_goto (tgt := 1011) hx hb dL_act_1007 (by decide) ?_
            have eL2 : ix (mBegin (sf G 4 (upd (G 4) b (nI f))) T b 0 1) = mL (mBegin (sf G 4 (upd (G 4) b (nI f))) T b) n := by rw [hb9.len, ix_i (by have : mL (mBegin (sf G 4 (upd (G 4) b (nI f))) T b) n ≤ n := ct_le _ n; omega)]
            have hg9 : GI (mClose (sf (thr G 0) 4 (upd (G 4) b (nI f))) b) (mBegin (sf G 4 (upd (G 4) b (nI f))) T b) n nf := GI_one (b0 := b) hgi (mClose_ne _ _ (by decide)) (mClose_ne _ _ (by decide)) (fun i e => (congrFun (mClose_ne _ _ (by decide)) i).trans (upd_n e)) (fun i e => mClose_7n e) (fun i _ e => ((begin_1 (G := (sf G 4 (upd (G 4) b (nI f)))) (T := T) (b := b)).2.1 i e).1) (mClose_7 (hgi.fi b hbn)) begin_n5
            have eC : (mClose (sf (thr G 0) 4 (upd (G 4) b (nI f))) b) = sf (sf (thr G 0) 4 (upd (G 4) b (nI f))) 7 (upd ((sf (thr G 0) 4 (upd (G 4) b (nI f))) 7) b 2) := sel_t c_55 _ _
            have e99 : (LW k a tr o9 fa ba x (xTakeIn (xRenew S (nI b) (nI f)) (nI b)) U (mClose (sf (thr G 0) 4 (upd (G 4) b (nI f))) b) (mBegin (sf G 4 (upd (G 4) b (nI f))) T b) n nf (mL (mBegin (sf G 4 (upd (G 4) b (nI f))) T b) n) R) = (LW k a tr o9 fa ba x (xTakeIn (xRenew S (nI b) (nI f)) (nI b)) U (sf (sf G 4 (upd (G 4) b (nI f))) 7 (upd (G 7) b 2)) (mBegin (sf G 4 (upd (G 4) b (nI f))) T b) n nf (ix (mBegin (sf G 4 (upd (G 4) b (nI f))) T b 0 1)) R) := (by rw [eC, eL2]; rfl)
            rw [← e99] at hP hD
            exact g_zret hx hb hr rfl hlk dL_act_1011 hP hD hS ⟨rfl, o9, fa, ba, (xTakeIn (xRenew S (nI b) (nI f)) (nI b)), U, (mClose (sf (thr G 0) 4 (upd (G 4) b (nI f))) b), (mBegin (sf G 4 (upd (G 4) b (nI f))) T b), n, nf, hnf0, ha9, hb9, (begin_ti hti), hg9, (ho9.trans ho), rfl⟩ (Nat.le_of_ble_eq_true rfl) (Nat.le_of_ble_eq_true rfl)
        · refine lv_aload_n hx hb dL_act_781 rfl (lv_at hl 1 rfl) ?_
          refine va_get (D := D) (ci := 5) (v := .ref (o 3)) (C := RX5) (T := TX5) (N := 6) hx hb hts tu_5 hown hE.1 hP 59 lw_59 rfl 4 (by decide) (hts _ tw_740) (fun _ h9 => h9) rfl dL_act_782 ?_
          refine lv_iload hx hb dL_act_785 (lv_at hl 5 rfl) ?_
          refine k_aald (j := b) hx hb hE hP 62 lw_62 hbn (Nat.lt_of_le_of_lt hn (by decide)) dL_act_787 ?_
          refine lv_astore (lv' := [(8, .ref (ba b)), (0, .ref x), (1, .ref (o 0)), (2, .int v), (3, .int (nI f)), (4, .int (nI ch)), (5, .int (nI b)), (7, .int (-1))]) hx hb dL_act_788 hl (by decide) rfl (fun ls hl => ?_)
          refine lv_aload hx hb dL_act_790 (lv_at hl 0 rfl) ?_
          refine lv_iconst (v := 3) hx hb dL_act_792 (by decide) ?_
          refine k_iald (j := 3) hx hb hE hP (64 + nf + b) (lw_b hbn) (by decide) (by decide) dL_act_793 ?_
          refine w_top (show bgR G T b 3 = T 1 b from rfl) ?_
          refine lv_iconst (v := 3) hx hb dL_act_794 (by decide) ?_
          refine lv_icmp_eq (tgt := 806) hx hb dL_act_795 (by decide) (fun c_58 => ?_) (fun c_ => absurd za c_)
          refine lv_iconst (v := 1) hx hb dL_act_806 (by decide) ?_
          refine lv_goto (tgt := 811) hx hb dL_act_807 (by decide) ?_
          refine lv_istore (lv' := [(9, .int 1), (8, .ref (ba b)), (0, .ref x), (1, .ref (o 0)), (2, .int v), (3, .int (nI f)), (4, .int (nI ch)), (5, .int (nI b)), (7, .int (-1))]) hx hb dL_act_811 hl (by decide) rfl (fun ls hl => ?_)
          refine lv_aload_n hx hb dL_act_813 rfl (lv_at hl 3 rfl) ?_
          refine va_get (D := D) (ci := 5) (v := .ref (o 2)) (C := RX5) (T := TX5) (N := 6) hx hb hts tu_5 hown hE.1 hP 59 lw_59 rfl 3 (by decide) (hts _ tw_738) (fun _ h9 => h9) rfl dL_act_814 ?_
          refine lv_aload hx hb dL_act_817 (lv_at hl 1 rfl) ?_
          refine lv_iconst (v := 0) hx hb dL_act_819 (by decide) ?_
          refine k_iald (j := 0) hx hb hE hP (64 + nf + b) (lw_b hbn) (by decide) (by decide) dL_act_820 ?_
          refine w_top (show bgR G T b 0 = G 4 b from rfl) ?_
          refine w_top (show G 4 b = nI f2 from k3) ?_
          refine k_aald (j := f2) hx hb hE hP 61 lw_61 k1 (Nat.lt_of_le_of_lt hnf (by decide)) dL_act_821 ?_
          refine lv_astore (lv' := [(10, .ref (fa f2)), (9, .int 1), (8, .ref (ba b)), (0, .ref x), (1, .ref (o 0)), (2, .int v), (3, .int (nI f)), (4, .int (nI ch)), (5, .int (nI b)), (7, .int (-1))]) hx hb dL_act_822 hl (by decide) rfl (fun ls hl => ?_)
          refine lv_aload hx hb dL_act_824 (lv_at hl 0 rfl) ?_
          refine lv_iconst (v := 1) hx hb dL_act_826 (by decide) ?_
          refine k_iald (j := 1) hx hb hE hP (64 + f2) (lw_f k1) (by decide) (by decide) dL_act_827 ?_
          refine w_top (show flR G f2 1 = G 2 f2 from rfl) ?_
          refine lv_if_ne (tgt := 921) hx hb dL_act_828 (by decide) (fun c_59 => ?_) (fun c_ => absurd c_ z2)
          refine lv_iload hx hb dL_act_921 (lv_at hl 1 rfl) ?_
          refine lv_if_eq (tgt := 941) hx hb dL_act_923 (by decide) (fun c_ => absurd c_ (by decide)) (fun c_60 => ?_)
          refine lv_aload_n hx hb dL_act_926 rfl (lv_at hl 4 rfl) ?_
          refine va_get (D := D) (ci := 5) (v := .ref (o 2)) (C := RX5) (T := TX5) (N := 6) hx hb hts tu_5 hown hE.1 hP 59 lw_59 rfl 3 (by decide) (hts _ tw_738) (fun _ h9 => h9) rfl dL_act_927 ?_
          refine lv_iload_n hx hb dL_act_930 rfl (lv_at hl 6 rfl) ?_
          refine k_aald (j := f) hx hb hE hP 61 lw_61 hf (Nat.lt_of_le_of_lt hnf (by decide)) dL_act_931 ?_
          refine lv_iconst (v := 1) hx hb dL_act_932 (by decide) ?_
          refine k_iald (j := 1) hx hb hE hP (64 + f) (lw_f hf) (by decide) (by decide) dL_act_933 ?_
          refine w_top (show flR G f 1 = G 2 f from rfl) ?_
          refine lv_if_ne (tgt := 941) hx hb dL_act_934 (by decide) (fun c_61 => ?_) (fun c_ => absurd c_ z6)
          refine lv_iconst (v := 0) hx hb dL_act_941 (by decide) ?_
          refine lv_istore (lv' := [(11, .int 0), (10, .ref (fa f2)), (9, .int 1), (8, .ref (ba b)), (0, .ref x), (1, .ref (o 0)), (2, .int v), (3, .int (nI f)), (4, .int (nI ch)), (5, .int (nI b)), (7, .int (-1))]) hx hb dL_act_942 hl (by decide) rfl (fun ls hl => ?_)
          refine lv_iload hx hb dL_act_944 (lv_at hl 0 rfl) ?_
          refine lv_if_eq (tgt := 982) hx hb dL_act_946 (by decide) (fun c_62 => ?_) (fun c_ => absurd rfl c_)
          refine lv_aload_n hx hb dL_act_982 rfl (lv_at hl 4 rfl) ?_
          refine lv_iload hx hb dL_act_983 (lv_at hl 9 rfl) ?_
          refine lv_iload_n hx hb dL_act_985 rfl (lv_at hl 7 rfl) ?_
          refine c_xV (rest := []) (E := "java/lang/IllegalStateException") hC hE hP hX (zA_x hZ hS) (lxb_forward_4 l S (nI b) (nI f) hfl (xbag_n hra hbn) (xflt_n hra hf) ((hand_n hrb hbn).mpr zh) (by rw [er]; exact (gone_iff hra k2).mpr z2) (fun z => z6 ((ng_iff hra (by omega)).mp z))) gc_RL_81 hd_X4_forward ⟨Nat.le_of_ble_eq_true rfl, Nat.le_of_ble_eq_true rfl⟩ 29 lw_29 rfl rfl hl.1 (Nat.le_of_ble_eq_true rfl) ⟨(Nat.le_of_ble_eq_true rfl), (Nat.le_of_ble_eq_true rfl)⟩ dL_act_986 (fun ce q9 H1 h1 h2 h3 hP1 hz1 hk1 => ?_)
          refine vx_catch (own := RL) (E := "java/lang/IllegalStateException") (name := "java/lang/IllegalStateException") hown [⟨180, 186, 189, 34⟩, ⟨320, 329, 332, 34⟩, ⟨585, 592, 595, 34⟩, ⟨892, 900, 903, 34⟩] ⟨982, 991, 994, 34⟩ [⟨1152, 1163, 1166, 34⟩] htab (fun z hz => Or.inl (by
              simp only [List.mem_cons, List.not_mem_nil, or_false] at hz
              rcases hz with rfl | rfl | rfl | rfl <;> rfl)) rfl (by decide) (hts _ tw_602) (va_Nw.use rfl (hX.2.1 (.castable "java/lang/IllegalStateException" "java/lang/IllegalStateException") (by decide +kernel))) h1 h2 h3 ?_
          have hS := vS_grown hS hz1 hk1
          have hP := hP1
          refine lv_astore (lv' := [(12, .ref q9), (11, .int 0), (10, .ref (fa f2)), (9, .int 1), (8, .ref (ba b)), (0, .ref x), (1, .ref (o 0)), (2, .int v), (3, .int (nI f)), (4, .int (nI ch)), (5, .int (nI b)), (7, .int (-1))]) hx hb dL_act_994 hl (by decide) rfl (fun ls hl => ?_)
          refine lv_iconst (v := (-1)) hx hb dL_act_996 (by decide) ?_
          refine lv_istore (lv' := [(6, .int (-1)), (12, .ref q9), (11, .int 0), (10, .ref (fa f2)), (9, .int 1), (8, .ref (ba b)), (0, .ref x), (1, .ref (o 0)), (2, .int v), (3, .int (nI f)), (4, .int (nI ch)), (5, .int (nI b)), (7, .int (-1))]) hx hb dL_act_997 hl (by decide) rfl (fun ls hl => ?_)
          refine lv_iload hx hb dL_act_999 (lv_at hl 0 rfl) ?_
          refine lv_iload hx hb dL_act_1001 (lv_at hl 12 rfl) ?_
          refine lv_icmp_ne (tgt := 1010) hx hb dL_act_1003 (by decide) (fun c_ => absurd rfl c_) (fun c_63 => ?_)
          refine lv_iconst (v := 1) hx hb dL_act_1006 (by decide) ?_
          refine lv_goto (tgt := 1011) hx hb dL_act_1007 (by decide) ?_
          have e99 : (LW k a tr o fa ba x S U G T n nf (mL T n) R) = (LW k a tr o fa ba x S U G T n nf (mL T n) R) := rfl
          rw [← e99] at hP hD
          exact g_zret hx hb hr rfl hlk dL_act_1011 hP hD hS ⟨rfl, o, fa, ba, S, U, G, T, n, nf, hnf0, hra, hrb, hti, hgi, ho, rfl⟩ (Nat.le_of_ble_eq_true rfl) (Nat.le_of_ble_eq_true rfl)
      · by_cases z6 : G 2 f = 0
        · obtain ⟨ha9, hb9⟩ := fwd_rel hra hrb hbn hf zh
          have hb9 : RB (xTakeIn (xRenew S (nI b) (nI f)) (nI b)) (mBegin (sf G 4 (upd (G 4) b (nI f))) T b) n := hb9
          have eV : mBegin (sf (thr G 0) 4 (upd (G 4) b (nI f))) T b = mBegin (sf G 4 (upd (G 4) b (nI f))) T b := rfl
          refine lv_aload_n hx hb dL_act_781 rfl (lv_at hl 1 rfl) ?_
          refine va_get (D := D) (ci := 5) (v := .ref (o 3)) (C := RX5) (T := TX5) (N := 6) hx hb hts tu_5 hown hE.1 hP 59 lw_59 rfl 4 (by decide) (hts _ tw_740) (fun _ h9 => h9) rfl dL_act_782 ?_
          refine lv_iload hx hb dL_act_785 (lv_at hl 5 rfl) ?_
          refine k_aald (j := b) hx hb hE hP 62 lw_62 hbn (Nat.lt_of_le_of_lt hn (by decide)) dL_act_787 ?_
          refine lv_astore (lv' := [(8, .ref (ba b)), (0, .ref x), (1, .ref (o 0)), (2, .int v), (3, .int (nI f)), (4, .int (nI ch)), (5, .int (nI b)), (7, .int (-1))]) hx hb dL_act_788 hl (by decide) rfl (fun ls hl => ?_)
          refine lv_aload hx hb dL_act_790 (lv_at hl 0 rfl) ?_
          refine lv_iconst (v := 3) hx hb dL_act_792 (by decide) ?_
          refine k_iald (j := 3) hx hb hE hP (64 + nf + b) (lw_b hbn) (by decide) (by decide) dL_act_793 ?_
          refine w_top (show bgR G T b 3 = T 1 b from rfl) ?_
          refine lv_iconst (v := 3) hx hb dL_act_794 (by decide) ?_
          refine lv_icmp_eq (tgt := 806) hx hb dL_act_795 (by decide) (fun c_ => absurd c_ (by rw [za]; decide)) (fun c_64 => ?_)
          refine lv_aload hx hb dL_act_798 (lv_at hl 0 rfl) ?_
          refine lv_iconst (v := 3) hx hb dL_act_800 (by decide) ?_
          refine k_iald (j := 3) hx hb hE hP (64 + nf + b) (lw_b hbn) (by decide) (by decide) dL_act_801 ?_
          refine w_top (show bgR G T b 3 = T 1 b from rfl) ?_
          refine lv_iconst (v := 4) hx hb dL_act_802 (by decide) ?_
          refine lv_icmp_ne (tgt := 810) hx hb dL_act_803 (by decide) (fun c_ => absurd za c_) (fun c_65 => ?_)
          refine lv_iconst (v := 1) hx hb dL_act_806 (by decide) ?_
          refine lv_goto (tgt := 811) hx hb dL_act_807 (by decide) ?_
          refine lv_istore (lv' := [(9, .int 1), (8, .ref (ba b)), (0, .ref x), (1, .ref (o 0)), (2, .int v), (3, .int (nI f)), (4, .int (nI ch)), (5, .int (nI b)), (7, .int (-1))]) hx hb dL_act_811 hl (by decide) rfl (fun ls hl => ?_)
          refine lv_aload_n hx hb dL_act_813 rfl (lv_at hl 3 rfl) ?_
          refine va_get (D := D) (ci := 5) (v := .ref (o 2)) (C := RX5) (T := TX5) (N := 6) hx hb hts tu_5 hown hE.1 hP 59 lw_59 rfl 3 (by decide) (hts _ tw_738) (fun _ h9 => h9) rfl dL_act_814 ?_
          refine lv_aload hx hb dL_act_817 (lv_at hl 1 rfl) ?_
          refine lv_iconst (v := 0) hx hb dL_act_819 (by decide) ?_
          refine k_iald (j := 0) hx hb hE hP (64 + nf + b) (lw_b hbn) (by decide) (by decide) dL_act_820 ?_
          refine w_top (show bgR G T b 0 = G 4 b from rfl) ?_
          refine w_top (show G 4 b = nI f2 from k3) ?_
          refine k_aald (j := f2) hx hb hE hP 61 lw_61 k1 (Nat.lt_of_le_of_lt hnf (by decide)) dL_act_821 ?_
          refine lv_astore (lv' := [(10, .ref (fa f2)), (9, .int 1), (8, .ref (ba b)), (0, .ref x), (1, .ref (o 0)), (2, .int v), (3, .int (nI f)), (4, .int (nI ch)), (5, .int (nI b)), (7, .int (-1))]) hx hb dL_act_822 hl (by decide) rfl (fun ls hl => ?_)
          refine lv_aload hx hb dL_act_824 (lv_at hl 0 rfl) ?_
          refine lv_iconst (v := 1) hx hb dL_act_826 (by decide) ?_
          refine k_iald (j := 1) hx hb hE hP (64 + f2) (lw_f k1) (by decide) (by decide) dL_act_827 ?_
          refine w_top (show flR G f2 1 = G 2 f2 from rfl) ?_
          refine lv_if_ne (tgt := 921) hx hb dL_act_828 (by decide) (fun c_66 => ?_) (fun c_ => absurd c_ z2)
          refine lv_iload hx hb dL_act_921 (lv_at hl 1 rfl) ?_
          refine lv_if_eq (tgt := 941) hx hb dL_act_923 (by decide) (fun c_ => absurd c_ (by decide)) (fun c_67 => ?_)
          refine lv_aload_n hx hb dL_act_926 rfl (lv_at hl 4 rfl) ?_
          refine va_get (D := D) (ci := 5) (v := .ref (o 2)) (C := RX5) (T := TX5) (N := 6) hx hb hts tu_5 hown hE.1 hP 59 lw_59 rfl 3 (by decide) (hts _ tw_738) (fun _ h9 => h9) rfl dL_act_927 ?_
          refine lv_iload_n hx hb dL_act_930 rfl (lv_at hl 6 rfl) ?_
          refine k_aald (j := f) hx hb hE hP 61 lw_61 hf (Nat.lt_of_le_of_lt hnf (by decide)) dL_act_931 ?_
          refine lv_iconst (v := 1) hx hb dL_act_932 (by decide) ?_
          refine k_iald (j := 1) hx hb hE hP (64 + f) (lw_f hf) (by decide) (by decide) dL_act_933 ?_
          refine w_top (show flR G f 1 = G 2 f from rfl) ?_
          refine w_top (show G 2 f = 0 from z6) ?_
          refine lv_if_ne (tgt := 941) hx hb dL_act_934 (by decide) (fun c_ => absurd rfl c_) (fun c_68 => ?_)
          refine lv_iconst (v := 1) hx hb dL_act_937 (by decide) ?_
          refine lv_goto (tgt := 942) hx hb dL_act_938 (by decide) ?_
          refine lv_istore (lv' := [(11, .int 1), (10, .ref (fa f2)), (9, .int 1), (8, .ref (ba b)), (0, .ref x), (1, .ref (o 0)), (2, .int v), (3, .int (nI f)), (4, .int (nI ch)), (5, .int (nI b)), (7, .int (-1))]) hx hb dL_act_942 hl (by decide) rfl (fun ls hl => ?_)
          refine lv_iload hx hb dL_act_944 (lv_at hl 0 rfl) ?_
          refine lv_if_eq (tgt := 982) hx hb dL_act_946 (by decide) (fun c_ => absurd c_ (by decide)) (fun c_69 => ?_)
          refine lv_aload hx hb dL_act_949 (lv_at hl 3 rfl) ?_
          refine lv_iconst (v := 0) hx hb dL_act_951 (by decide) ?_
          refine lv_iload_n hx hb dL_act_952 rfl (lv_at hl 7 rfl) ?_
          refine k_iast (j := 0) hx hb hE hP hD hS (64 + nf + b) (lw_b hbn) (by decide) (by decide) dL_act_953 (fun H locs hP hD hS => ?_)
          rw [lws_b0 hbn] at hP hD
          have hP : va_P D vwCl (LW k a tr o fa ba x S U (sf G 4 (upd (G 4) b (nI f))) T n nf (mL T n) R) H := hP
          have hD : va_D A (LW k a tr o fa ba x S U (sf G 4 (upd (G 4) b (nI f))) T n nf (mL T n) R) := hD
          refine lv_aload_n hx hb dL_act_954 rfl (lv_at hl 5 rfl) ?_
          refine lv_iload hx hb dL_act_955 (lv_at hl 9 rfl) ?_
          refine c_gV (rest := []) hC hE hP hD hS hA (metX5_begin l (sf G 4 (upd (G 4) b (nI f))) T hn hnf b hbn (by omega) hrb.len) (fun _ _ _ => trivial) (fun _ _ _ _ _ => trivial) gc_RL_74 hd_X5_begin ⟨rfl, rfl⟩ ⟨Nat.le_of_ble_eq_true rfl, Nat.le_of_ble_eq_true rfl⟩ 59 lw_59 rfl rfl hl.1 (Nat.le_of_ble_eq_true rfl) ⟨(Nat.le_of_ble_eq_true rfl), (Nat.le_of_ble_eq_true rfl)⟩ dL_act_957 (fun v9 w9 H locs hp hP hD hS => ?_)
          obtain ⟨rfl, o9, ho9, rfl⟩ := hp
          have hP : va_P D vwCl (LW k a tr o9 fa ba x S U (sf G 4 (upd (G 4) b (nI f))) (mBegin (sf G 4 (upd (G 4) b (nI f))) T b) n nf (ix (mBegin (sf G 4 (upd (G 4) b (nI f))) T b 0 1)) R) H := hP
          have hD : va_D A (LW k a tr o9 fa ba x S U (sf G 4 (upd (G 4) b (nI f))) (mBegin (sf G 4 (upd (G 4) b (nI f))) T b) n nf (ix (mBegin (sf G 4 (upd (G 4) b (nI f))) T b 0 1)) R) := hD
          rw [show o 0 = o9 0 from ho9.symm] at hl
          refine lv_aload hx hb dL_act_960 (lv_at hl 3 rfl) ?_
          refine lv_bipush (v := 7) hx hb dL_act_962 (by decide) ?_
          refine k_iald (j := 7) hx hb hE hP (64 + nf + b) (lw_b hbn) (by decide) (by decide) dL_act_964 ?_
          refine w_top (show bgR (sf G 4 (upd (G 4) b (nI f))) (mBegin (sf G 4 (upd (G 4) b (nI f))) T b) b 7 = (sf G 4 (upd (G 4) b (nI f))) 7 b from rfl) ?_
          refine lv_iconst (v := 1) hx hb dL_act_965 (by decide) ?_
          refine lv_icmp_ne (tgt := 975) hx hb dL_act_966 (by decide) (fun c_70 => ?_) (fun c_70 => ?_)
          · refine lv_aload_n hx hb dL_act_975 rfl (lv_at hl 5 rfl) ?_
            refine va_get (D := D) (ci := 5) (v := .ref (o9 4)) (C := RX5) (T := TX5) (N := 6) hx hb hts tu_5 hown hE.1 hP 59 lw_59 rfl 5 (by decide) (hts _ tw_742) (fun _ h9 => h9) rfl dL_act_976 ?_
            refine k_alen hx hb hE hP 63 lw_63 dL_act_979 ?_
            have eL : nI (ix (mBegin (sf G 4 (upd (G 4) b (nI f))) T b 0 1)) = (mBegin (sf G 4 (upd (G 4) b (nI f))) T b) 0 1 := by rw [hb9.len, ix_i (by have : mL (mBegin (sf G 4 (upd (G 4) b (nI f))) T b) n ≤ n := ct_le _ n; omega)]
            refine w_top (show nI (ix (mBegin (sf G 4 (upd (G 4) b (nI f))) T b 0 1)) = (mBegin (sf G 4 (upd (G 4) b (nI f))) T b) 0 1 from eL) ?_
            refine lv_istore (lv' := [(7, .int ((mBegin (sf G 4 (upd (G 4) b (nI f))) T b) 0 1)), (11, .int 1), (10, .ref (fa f2)), (9, .int 1), (8, .ref (ba b)), (0, .ref x), (1, .ref (o9 0)), (2, .int v), (3, .int (nI f)), (4, .int (nI ch)), (5, .int (nI b))]) hx hb dL_act_980 hl (by decide) rfl (fun ls hl => ?_)
            refine lv_aload_n hx hb dL_act_982 rfl (lv_at hl 5 rfl) ?_
            refine lv_iload hx hb dL_act_983 (lv_at hl 10 rfl) ?_
            refine lv_iload_n hx hb dL_act_985 rfl (lv_at hl 8 rfl) ?_
            refine c_mVi (rest := []) hC hE hP hD hS (ws' := (LW k a tr o9 fa ba x (xTakeIn (xRenew S (nI b) (nI f)) (nI b)) U (sf G 4 (upd (G 4) b (nI f))) (mBegin (sf G 4 (upd (G 4) b (nI f))) T b) n nf (ix (mBegin (sf G 4 (upd (G 4) b (nI f))) T b 0 1)) R)) lw_same (lx_forward l S (nI b) (nI f) (xbag_n hra hbn) (xflt_n hra hf) ((hand_n hrb hbn).mpr zh) (by rw [er]; exact (gone_iff hra k2).mpr z2) ((ng_iff hra (by omega)).mpr z6)) gc_RL_81 hd_X4_forward ⟨rfl, rfl⟩ ⟨Nat.le_of_ble_eq_true rfl, Nat.le_of_ble_eq_true rfl⟩ 29 lw_29 rfl rfl hl.1 (Nat.le_of_ble_eq_true rfl) ⟨(Nat.le_of_ble_eq_true rfl), (Nat.le_of_ble_eq_true rfl)⟩ dL_act_986 (fun H locs hP hD hS => ?_)
            refine w_top (show (xTakeIn (xRenew S (nI b) (nI f)) (nI b)) 0 2 = (mBegin (sf G 4 (upd (G 4) b (nI f))) T b) 0 1 from hb9.lin) ?_
            refine lv_istore (lv' := [(6, .int ((mBegin (sf G 4 (upd (G 4) b (nI f))) T b) 0 1)), (7, .int ((mBegin (sf G 4 (upd (G 4) b (nI f))) T b) 0 1)), (11, .int 1), (10, .ref (fa f2)), (9, .int 1), (8, .ref (ba b)), (0, .ref x), (1, .ref (o9 0)), (2, .int v), (3, .int (nI f)), (4, .int (nI ch)), (5, .int (nI b))]) hx hb dL_act_989 hl (by decide) rfl (fun ls hl => ?_)
            refine lv_goto (tgt := 999) hx hb dL_act_991 (by decide) ?_
            refine lv_iload hx hb dL_act_999 (lv_at hl 0 rfl) ?_
            refine lv_iload hx hb dL_act_1001 (lv_at hl 1 rfl) ?_
            refine lv_icmp_ne (tgt := 1010) hx hb dL_act_1003 (by decide) (fun c_ => absurd rfl c_) (fun c_71 => ?_)
            refine lv_iconst (v := 1) hx hb dL_act_1006 (by decide) ?_
            refine lv_goto (tgt := 1011) hx hb dL_act_1007 (by decide) ?_
            have eL2 : ix (mBegin (sf G 4 (upd (G 4) b (nI f))) T b 0 1) = mL (mBegin (sf G 4 (upd (G 4) b (nI f))) T b) n := by rw [hb9.len, ix_i (by have : mL (mBegin (sf G 4 (upd (G 4) b (nI f))) T b) n ≤ n := ct_le _ n; omega)]
            have hg9 : GI (mClose (sf (thr G 0) 4 (upd (G 4) b (nI f))) b) (mBegin (sf G 4 (upd (G 4) b (nI f))) T b) n nf := GI_one (b0 := b) hgi (mClose_ne _ _ (by decide)) (mClose_ne _ _ (by decide)) (fun i e => (congrFun (mClose_ne _ _ (by decide)) i).trans (upd_n e)) (fun i e => mClose_7n e) (fun i _ e => ((begin_1 (G := (sf G 4 (upd (G 4) b (nI f)))) (T := T) (b := b)).2.1 i e).1) (mClose_7 (hgi.fi b hbn)) begin_n5
            have eC : (mClose (sf (thr G 0) 4 (upd (G 4) b (nI f))) b) = sf (thr G 0) 4 (upd (G 4) b (nI f)) := sel_f c_70 _ _
            have e99 : (LW k a tr o9 fa ba x (xTakeIn (xRenew S (nI b) (nI f)) (nI b)) U (mClose (sf (thr G 0) 4 (upd (G 4) b (nI f))) b) (mBegin (sf G 4 (upd (G 4) b (nI f))) T b) n nf (mL (mBegin (sf G 4 (upd (G 4) b (nI f))) T b) n) R) = (LW k a tr o9 fa ba x (xTakeIn (xRenew S (nI b) (nI f)) (nI b)) U (sf G 4 (upd (G 4) b (nI f))) (mBegin (sf G 4 (upd (G 4) b (nI f))) T b) n nf (ix (mBegin (sf G 4 (upd (G 4) b (nI f))) T b 0 1)) R) := (by rw [eC, eL2]; rfl)
            rw [← e99] at hP hD
            exact g_zret hx hb hr rfl hlk dL_act_1011 hP hD hS ⟨rfl, o9, fa, ba, (xTakeIn (xRenew S (nI b) (nI f)) (nI b)), U, (mClose (sf (thr G 0) 4 (upd (G 4) b (nI f))) b), (mBegin (sf G 4 (upd (G 4) b (nI f))) T b), n, nf, hnf0, ha9, hb9, (begin_ti hti), hg9, (ho9.trans ho), rfl⟩ (Nat.le_of_ble_eq_true rfl) (Nat.le_of_ble_eq_true rfl)
          · refine lv_aload hx hb dL_act_969 (lv_at hl 3 rfl) ?_
            refine lv_bipush (v := 7) hx hb dL_act_971 (by decide) ?_
            refine lv_iconst (v := 2) hx hb dL_act_973 (by decide) ?_
            refine k_iast (j := 7) hx hb hE hP hD hS (64 + nf + b) (lw_b hbn) (by decide) (by decide) dL_act_974 (fun H locs hP hD hS => ?_)
            have hP := lws_b7P hbn hP
            have hD := lws_b7D hbn hD
            rw [show (sf G 4 (upd (G 4) b (nI f))) 7 = G 7 from rfl] at hP hD
            have hP : va_P D vwCl (LW k a tr o9 fa ba x S U (sf (sf G 4 (upd (G 4) b (nI f))) 7 (upd (G 7) b 2)) (mBegin (sf G 4 (upd (G 4) b (nI f))) T b) n nf (ix (mBegin (sf G 4 (upd (G 4) b (nI f))) T b 0 1)) R) H := hP
            have hD : va_D A (LW k a tr o9 fa ba x S U (sf (sf G 4 (upd (G 4) b (nI f))) 7 (upd (G 7) b 2)) (mBegin (sf G 4 (upd (G 4) b (nI f))) T b) n nf (ix (mBegin (sf G 4 (upd (G 4) b (nI f))) T b 0 1)) R) := hD
            refine lv_aload_n hx hb dL_act_975 rfl (lv_at hl 5 rfl) ?_
            refine va_get (D := D) (ci := 5) (v := .ref (o9 4)) (C := RX5) (T := TX5) (N := 6) hx hb hts tu_5 hown hE.1 hP 59 lw_59 rfl 5 (by decide) (hts _ tw_742) (fun _ h9 => h9) rfl dL_act_976 ?_
            refine k_alen hx hb hE hP 63 lw_63 dL_act_979 ?_
            have eL : nI (ix (mBegin (sf G 4 (upd (G 4) b (nI f))) T b 0 1)) = (mBegin (sf G 4 (upd (G 4) b (nI f))) T b) 0 1 := by rw [hb9.len, ix_i (by have : mL (mBegin (sf G 4 (upd (G 4) b (nI f))) T b) n ≤ n := ct_le _ n; omega)]
            refine w_top (show nI (ix (mBegin (sf G 4 (upd (G 4) b (nI f))) T b 0 1)) = (mBegin (sf G 4 (upd (G 4) b (nI f))) T b) 0 1 from eL) ?_
            refine lv_istore (lv' := [(7, .int ((mBegin (sf G 4 (upd (G 4) b (nI f))) T b) 0 1)), (11, .int 1), (10, .ref (fa f2)), (9, .int 1), (8, .ref (ba b)), (0, .ref x), (1, .ref (o9 0)), (2, .int v), (3, .int (nI f)), (4, .int (nI ch)), (5, .int (nI b))]) hx hb dL_act_980 hl (by decide) rfl (fun ls hl => ?_)
            refine lv_aload_n hx hb dL_act_982 rfl (lv_at hl 5 rfl) ?_
            refine lv_iload hx hb dL_act_983 (lv_at hl 10 rfl) ?_
            refine lv_iload_n hx hb dL_act_985 rfl (lv_at hl 8 rfl) ?_
            refine c_mVi (rest := []) hC hE hP hD hS (ws' := (LW k a tr o9 fa ba x (xTakeIn (xRenew S (nI b) (nI f)) (nI b)) U (sf (sf G 4 (upd (G 4) b (nI f))) 7 (upd (G 7) b 2)) (mBegin (sf G 4 (upd (G 4) b (nI f))) T b) n nf (ix (mBegin (sf G 4 (upd (G 4) b (nI f))) T b 0 1)) R)) lw_same (lx_forward l S (nI b) (nI f) (xbag_n hra hbn) (xflt_n hra hf) ((hand_n hrb hbn).mpr zh) (by rw [er]; exact (gone_iff hra k2).mpr z2) ((ng_iff hra (by omega)).mpr z6)) gc_RL_81 hd_X4_forward ⟨rfl, rfl⟩ ⟨Nat.le_of_ble_eq_true rfl, Nat.le_of_ble_eq_true rfl⟩ 29 lw_29 rfl rfl hl.1 (Nat.le_of_ble_eq_true rfl) ⟨(Nat.le_of_ble_eq_true rfl), (Nat.le_of_ble_eq_true rfl)⟩ dL_act_986 (fun H locs hP hD hS => ?_)
            refine w_top (show (xTakeIn (xRenew S (nI b) (nI f)) (nI b)) 0 2 = (mBegin (sf G 4 (upd (G 4) b (nI f))) T b) 0 1 from hb9.lin) ?_
            refine lv_istore (lv' := [(6, .int ((mBegin (sf G 4 (upd (G 4) b (nI f))) T b) 0 1)), (7, .int ((mBegin (sf G 4 (upd (G 4) b (nI f))) T b) 0 1)), (11, .int 1), (10, .ref (fa f2)), (9, .int 1), (8, .ref (ba b)), (0, .ref x), (1, .ref (o9 0)), (2, .int v), (3, .int (nI f)), (4, .int (nI ch)), (5, .int (nI b))]) hx hb dL_act_989 hl (by decide) rfl (fun ls hl => ?_)
            refine lv_goto (tgt := 999) hx hb dL_act_991 (by decide) ?_
            refine lv_iload hx hb dL_act_999 (lv_at hl 0 rfl) ?_
            refine lv_iload hx hb dL_act_1001 (lv_at hl 1 rfl) ?_
            refine lv_icmp_ne (tgt := 1010) hx hb dL_act_1003 (by decide) (fun c_ => absurd rfl c_) (fun c_72 => ?_)
            refine lv_iconst (v := 1) hx hb dL_act_1006 (by decide) ?_
            refine lv_goto (tgt := 1011) hx hb dL_act_1007 (by decide) ?_
            have eL2 : ix (mBegin (sf G 4 (upd (G 4) b (nI f))) T b 0 1) = mL (mBegin (sf G 4 (upd (G 4) b (nI f))) T b) n := by rw [hb9.len, ix_i (by have : mL (mBegin (sf G 4 (upd (G 4) b (nI f))) T b) n ≤ n := ct_le _ n; omega)]
            have hg9 : GI (mClose (sf (thr G 0) 4 (upd (G 4) b (nI f))) b) (mBegin (sf G 4 (upd (G 4) b (nI f))) T b) n nf := GI_one (b0 := b) hgi (mClose_ne _ _ (by decide)) (mClose_ne _ _ (by decide)) (fun i e => (congrFun (mClose_ne _ _ (by decide)) i).trans (upd_n e)) (fun i e => mClose_7n e) (fun i _ e => ((begin_1 (G := (sf G 4 (upd (G 4) b (nI f)))) (T := T) (b := b)).2.1 i e).1) (mClose_7 (hgi.fi b hbn)) begin_n5
            have eC : (mClose (sf (thr G 0) 4 (upd (G 4) b (nI f))) b) = sf (sf (thr G 0) 4 (upd (G 4) b (nI f))) 7 (upd ((sf (thr G 0) 4 (upd (G 4) b (nI f))) 7) b 2) := sel_t c_70 _ _
            have e99 : (LW k a tr o9 fa ba x (xTakeIn (xRenew S (nI b) (nI f)) (nI b)) U (mClose (sf (thr G 0) 4 (upd (G 4) b (nI f))) b) (mBegin (sf G 4 (upd (G 4) b (nI f))) T b) n nf (mL (mBegin (sf G 4 (upd (G 4) b (nI f))) T b) n) R) = (LW k a tr o9 fa ba x (xTakeIn (xRenew S (nI b) (nI f)) (nI b)) U (sf (sf G 4 (upd (G 4) b (nI f))) 7 (upd (G 7) b 2)) (mBegin (sf G 4 (upd (G 4) b (nI f))) T b) n nf (ix (mBegin (sf G 4 (upd (G 4) b (nI f))) T b 0 1)) R) := (by rw [eC, eL2]; rfl)
            rw [← e99] at hP hD
            exact g_zret hx hb hr rfl hlk dL_act_1011 hP hD hS ⟨rfl, o9, fa, ba, (xTakeIn (xRenew S (nI b) (nI f)) (nI b)), U, (mClose (sf (thr G 0) 4 (upd (G 4) b (nI f))) b), (mBegin (sf G 4 (upd (G 4) b (nI f))) T b), n, nf, hnf0, ha9, hb9, (begin_ti hti), hg9, (ho9.trans ho), rfl⟩ (Nat.le_of_ble_eq_true rfl) (Nat.le_of_ble_eq_true rfl)
        · refine lv_aload_n hx hb dL_act_781 rfl (lv_at hl 1 rfl) ?_
          refine va_get (D := D) (ci := 5) (v := .ref (o 3)) (C := RX5) (T := TX5) (N := 6) hx hb hts tu_5 hown hE.1 hP 59 lw_59 rfl 4 (by decide) (hts _ tw_740) (fun _ h9 => h9) rfl dL_act_782 ?_
          refine lv_iload hx hb dL_act_785 (lv_at hl 5 rfl) ?_
          refine k_aald (j := b) hx hb hE hP 62 lw_62 hbn (Nat.lt_of_le_of_lt hn (by decide)) dL_act_787 ?_
          refine lv_astore (lv' := [(8, .ref (ba b)), (0, .ref x), (1, .ref (o 0)), (2, .int v), (3, .int (nI f)), (4, .int (nI ch)), (5, .int (nI b)), (7, .int (-1))]) hx hb dL_act_788 hl (by decide) rfl (fun ls hl => ?_)
          refine lv_aload hx hb dL_act_790 (lv_at hl 0 rfl) ?_
          refine lv_iconst (v := 3) hx hb dL_act_792 (by decide) ?_
          refine k_iald (j := 3) hx hb hE hP (64 + nf + b) (lw_b hbn) (by decide) (by decide) dL_act_793 ?_
          refine w_top (show bgR G T b 3 = T 1 b from rfl) ?_
          refine lv_iconst (v := 3) hx hb dL_act_794 (by decide) ?_
          refine lv_icmp_eq (tgt := 806) hx hb dL_act_795 (by decide) (fun c_ => absurd c_ (by rw [za]; decide)) (fun c_73 => ?_)
          refine lv_aload hx hb dL_act_798 (lv_at hl 0 rfl) ?_
          refine lv_iconst (v := 3) hx hb dL_act_800 (by decide) ?_
          refine k_iald (j := 3) hx hb hE hP (64 + nf + b) (lw_b hbn) (by decide) (by decide) dL_act_801 ?_
          refine w_top (show bgR G T b 3 = T 1 b from rfl) ?_
          refine lv_iconst (v := 4) hx hb dL_act_802 (by decide) ?_
          refine lv_icmp_ne (tgt := 810) hx hb dL_act_803 (by decide) (fun c_ => absurd za c_) (fun c_74 => ?_)
          refine lv_iconst (v := 1) hx hb dL_act_806 (by decide) ?_
          refine lv_goto (tgt := 811) hx hb dL_act_807 (by decide) ?_
          refine lv_istore (lv' := [(9, .int 1), (8, .ref (ba b)), (0, .ref x), (1, .ref (o 0)), (2, .int v), (3, .int (nI f)), (4, .int (nI ch)), (5, .int (nI b)), (7, .int (-1))]) hx hb dL_act_811 hl (by decide) rfl (fun ls hl => ?_)
          refine lv_aload_n hx hb dL_act_813 rfl (lv_at hl 3 rfl) ?_
          refine va_get (D := D) (ci := 5) (v := .ref (o 2)) (C := RX5) (T := TX5) (N := 6) hx hb hts tu_5 hown hE.1 hP 59 lw_59 rfl 3 (by decide) (hts _ tw_738) (fun _ h9 => h9) rfl dL_act_814 ?_
          refine lv_aload hx hb dL_act_817 (lv_at hl 1 rfl) ?_
          refine lv_iconst (v := 0) hx hb dL_act_819 (by decide) ?_
          refine k_iald (j := 0) hx hb hE hP (64 + nf + b) (lw_b hbn) (by decide) (by decide) dL_act_820 ?_
          refine w_top (show bgR G T b 0 = G 4 b from rfl) ?_
          refine w_top (show G 4 b = nI f2 from k3) ?_
          refine k_aald (j := f2) hx hb hE hP 61 lw_61 k1 (Nat.lt_of_le_of_lt hnf (by decide)) dL_act_821 ?_
          refine lv_astore (lv' := [(10, .ref (fa f2)), (9, .int 1), (8, .ref (ba b)), (0, .ref x), (1, .ref (o 0)), (2, .int v), (3, .int (nI f)), (4, .int (nI ch)), (5, .int (nI b)), (7, .int (-1))]) hx hb dL_act_822 hl (by decide) rfl (fun ls hl => ?_)
          refine lv_aload hx hb dL_act_824 (lv_at hl 0 rfl) ?_
          refine lv_iconst (v := 1) hx hb dL_act_826 (by decide) ?_
          refine k_iald (j := 1) hx hb hE hP (64 + f2) (lw_f k1) (by decide) (by decide) dL_act_827 ?_
          refine w_top (show flR G f2 1 = G 2 f2 from rfl) ?_
          refine lv_if_ne (tgt := 921) hx hb dL_act_828 (by decide) (fun c_75 => ?_) (fun c_ => absurd c_ z2)
          refine lv_iload hx hb dL_act_921 (lv_at hl 1 rfl) ?_
          refine lv_if_eq (tgt := 941) hx hb dL_act_923 (by decide) (fun c_ => absurd c_ (by decide)) (fun c_76 => ?_)
          refine lv_aload_n hx hb dL_act_926 rfl (lv_at hl 4 rfl) ?_
          refine va_get (D := D) (ci := 5) (v := .ref (o 2)) (C := RX5) (T := TX5) (N := 6) hx hb hts tu_5 hown hE.1 hP 59 lw_59 rfl 3 (by decide) (hts _ tw_738) (fun _ h9 => h9) rfl dL_act_927 ?_
          refine lv_iload_n hx hb dL_act_930 rfl (lv_at hl 6 rfl) ?_
          refine k_aald (j := f) hx hb hE hP 61 lw_61 hf (Nat.lt_of_le_of_lt hnf (by decide)) dL_act_931 ?_
          refine lv_iconst (v := 1) hx hb dL_act_932 (by decide) ?_
          refine k_iald (j := 1) hx hb hE hP (64 + f) (lw_f hf) (by decide) (by decide) dL_act_933 ?_
          refine w_top (show flR G f 1 = G 2 f from rfl) ?_
          refine lv_if_ne (tgt := 941) hx hb dL_act_934 (by decide) (fun c_77 => ?_) (fun c_ => absurd c_ z6)
          refine lv_iconst (v := 0) hx hb dL_act_941 (by decide) ?_
          refine lv_istore (lv' := [(11, .int 0), (10, .ref (fa f2)), (9, .int 1), (8, .ref (ba b)), (0, .ref x), (1, .ref (o 0)), (2, .int v), (3, .int (nI f)), (4, .int (nI ch)), (5, .int (nI b)), (7, .int (-1))]) hx hb dL_act_942 hl (by decide) rfl (fun ls hl => ?_)
          refine lv_iload hx hb dL_act_944 (lv_at hl 0 rfl) ?_
          refine lv_if_eq (tgt := 982) hx hb dL_act_946 (by decide) (fun c_78 => ?_) (fun c_ => absurd rfl c_)
          refine lv_aload_n hx hb dL_act_982 rfl (lv_at hl 4 rfl) ?_
          refine lv_iload hx hb dL_act_983 (lv_at hl 9 rfl) ?_
          refine lv_iload_n hx hb dL_act_985 rfl (lv_at hl 7 rfl) ?_
          refine c_xV (rest := []) (E := "java/lang/IllegalStateException") hC hE hP hX (zA_x hZ hS) (lxb_forward_4 l S (nI b) (nI f) hfl (xbag_n hra hbn) (xflt_n hra hf) ((hand_n hrb hbn).mpr zh) (by rw [er]; exact (gone_iff hra k2).mpr z2) (fun z => z6 ((ng_iff hra (by omega)).mp z))) gc_RL_81 hd_X4_forward ⟨Nat.le_of_ble_eq_true rfl, Nat.le_of_ble_eq_true rfl⟩ 29 lw_29 rfl rfl hl.1 (Nat.le_of_ble_eq_true rfl) ⟨(Nat.le_of_ble_eq_true rfl), (Nat.le_of_ble_eq_true rfl)⟩ dL_act_986 (fun ce q9 H1 h1 h2 h3 hP1 hz1 hk1 => ?_)
          refine vx_catch (own := RL) (E := "java/lang/IllegalStateException") (name := "java/lang/IllegalStateException") hown [⟨180, 186, 189, 34⟩, ⟨320, 329, 332, 34⟩, ⟨585, 592, 595, 34⟩, ⟨892, 900, 903, 34⟩] ⟨982, 991, 994, 34⟩ [⟨1152, 1163, 1166, 34⟩] htab (fun z hz => Or.inl (by
              simp only [List.mem_cons, List.not_mem_nil, or_false] at hz
              rcases hz with rfl | rfl | rfl | rfl <;> rfl)) rfl (by decide) (hts _ tw_602) (va_Nw.use rfl (hX.2.1 (.castable "java/lang/IllegalStateException" "java/lang/IllegalStateException") (by decide +kernel))) h1 h2 h3 ?_
          have hS := vS_grown hS hz1 hk1
          have hP := hP1
          refine lv_astore (lv' := [(12, .ref q9), (11, .int 0), (10, .ref (fa f2)), (9, .int 1), (8, .ref (ba b)), (0, .ref x), (1, .ref (o 0)), (2, .int v), (3, .int (nI f)), (4, .int (nI ch)), (5, .int (nI b)), (7, .int (-1))]) hx hb dL_act_994 hl (by decide) rfl (fun ls hl => ?_)
          refine lv_iconst (v := (-1)) hx hb dL_act_996 (by decide) ?_
          refine lv_istore (lv' := [(6, .int (-1)), (12, .ref q9), (11, .int 0), (10, .ref (fa f2)), (9, .int 1), (8, .ref (ba b)), (0, .ref x), (1, .ref (o 0)), (2, .int v), (3, .int (nI f)), (4, .int (nI ch)), (5, .int (nI b)), (7, .int (-1))]) hx hb dL_act_997 hl (by decide) rfl (fun ls hl => ?_)
          refine lv_iload hx hb dL_act_999 (lv_at hl 0 rfl) ?_
          refine lv_iload hx hb dL_act_1001 (lv_at hl 12 rfl) ?_
          refine lv_icmp_ne (tgt := 1010) hx hb dL_act_1003 (by decide) (fun c_ => absurd rfl c_) (fun c_79 => ?_)
          refine lv_iconst (v := 1) hx hb dL_act_1006 (by decide) ?_
          refine lv_goto (tgt := 1011) hx hb dL_act_1007 (by decide) ?_
          have e99 : (LW k a tr o fa ba x S U G T n nf (mL T n) R) = (LW k a tr o fa ba x S U G T n nf (mL T n) R) := rfl
          rw [← e99] at hP hD
          exact g_zret hx hb hr rfl hlk dL_act_1011 hP hD hS ⟨rfl, o, fa, ba, S, U, G, T, n, nf, hnf0, hra, hrb, hti, hgi, ho, rfl⟩ (Nat.le_of_ble_eq_true rfl) (Nat.le_of_ble_eq_true rfl)
    · have za : ¬ (T 1 b = 3 ∨ T 1 b = 4) := zh
      refine lv_aload_n hx hb dL_act_781 rfl (lv_at hl 1 rfl) ?_
      refine va_get (D := D) (ci := 5) (v := .ref (o 3)) (C := RX5) (T := TX5) (N := 6) hx hb hts tu_5 hown hE.1 hP 59 lw_59 rfl 4 (by decide) (hts _ tw_740) (fun _ h9 => h9) rfl dL_act_782 ?_
      refine lv_iload hx hb dL_act_785 (lv_at hl 5 rfl) ?_
      refine k_aald (j := b) hx hb hE hP 62 lw_62 hbn (Nat.lt_of_le_of_lt hn (by decide)) dL_act_787 ?_
      refine lv_astore (lv' := [(8, .ref (ba b)), (0, .ref x), (1, .ref (o 0)), (2, .int v), (3, .int (nI f)), (4, .int (nI ch)), (5, .int (nI b)), (7, .int (-1))]) hx hb dL_act_788 hl (by decide) rfl (fun ls hl => ?_)
      refine lv_aload hx hb dL_act_790 (lv_at hl 0 rfl) ?_
      refine lv_iconst (v := 3) hx hb dL_act_792 (by decide) ?_
      refine k_iald (j := 3) hx hb hE hP (64 + nf + b) (lw_b hbn) (by decide) (by decide) dL_act_793 ?_
      refine w_top (show bgR G T b 3 = T 1 b from rfl) ?_
      refine lv_iconst (v := 3) hx hb dL_act_794 (by decide) ?_
      refine lv_icmp_eq (tgt := 806) hx hb dL_act_795 (by decide) (fun c_ => absurd c_ (fun z => za (Or.inl z))) (fun c_80 => ?_)
      refine lv_aload hx hb dL_act_798 (lv_at hl 0 rfl) ?_
      refine lv_iconst (v := 3) hx hb dL_act_800 (by decide) ?_
      refine k_iald (j := 3) hx hb hE hP (64 + nf + b) (lw_b hbn) (by decide) (by decide) dL_act_801 ?_
      refine w_top (show bgR G T b 3 = T 1 b from rfl) ?_
      refine lv_iconst (v := 4) hx hb dL_act_802 (by decide) ?_
      refine lv_icmp_ne (tgt := 810) hx hb dL_act_803 (by decide) (fun c_81 => ?_) (fun c_ => absurd c_ (fun z => za (Or.inr z)))
      refine lv_iconst (v := 0) hx hb dL_act_810 (by decide) ?_
      refine lv_istore (lv' := [(9, .int 0), (8, .ref (ba b)), (0, .ref x), (1, .ref (o 0)), (2, .int v), (3, .int (nI f)), (4, .int (nI ch)), (5, .int (nI b)), (7, .int (-1))]) hx hb dL_act_811 hl (by decide) rfl (fun ls hl => ?_)
      refine lv_aload_n hx hb dL_act_813 rfl (lv_at hl 3 rfl) ?_
      refine va_get (D := D) (ci := 5) (v := .ref (o 2)) (C := RX5) (T := TX5) (N := 6) hx hb hts tu_5 hown hE.1 hP 59 lw_59 rfl 3 (by decide) (hts _ tw_738) (fun _ h9 => h9) rfl dL_act_814 ?_
      refine lv_aload hx hb dL_act_817 (lv_at hl 1 rfl) ?_
      refine lv_iconst (v := 0) hx hb dL_act_819 (by decide) ?_
      refine k_iald (j := 0) hx hb hE hP (64 + nf + b) (lw_b hbn) (by decide) (by decide) dL_act_820 ?_
      refine w_top (show bgR G T b 0 = G 4 b from rfl) ?_
      refine w_top (show G 4 b = nI f2 from k3) ?_
      refine k_aald (j := f2) hx hb hE hP 61 lw_61 k1 (Nat.lt_of_le_of_lt hnf (by decide)) dL_act_821 ?_
      refine lv_astore (lv' := [(10, .ref (fa f2)), (9, .int 0), (8, .ref (ba b)), (0, .ref x), (1, .ref (o 0)), (2, .int v), (3, .int (nI f)), (4, .int (nI ch)), (5, .int (nI b)), (7, .int (-1))]) hx hb dL_act_822 hl (by decide) rfl (fun ls hl => ?_)
      refine lv_aload hx hb dL_act_824 (lv_at hl 0 rfl) ?_
      refine lv_iconst (v := 1) hx hb dL_act_826 (by decide) ?_
      refine k_iald (j := 1) hx hb hE hP (64 + f2) (lw_f k1) (by decide) (by decide) dL_act_827 ?_
      refine w_top (show flR G f2 1 = G 2 f2 from rfl) ?_
      refine lv_if_ne (tgt := 921) hx hb dL_act_828 (by decide) (fun c_82 => ?_) (fun c_ => absurd c_ z2)
      refine lv_iload hx hb dL_act_921 (lv_at hl 1 rfl) ?_
      refine lv_if_eq (tgt := 941) hx hb dL_act_923 (by decide) (fun c_83 => ?_) (fun c_ => absurd rfl c_)
      refine lv_iconst (v := 0) hx hb dL_act_941 (by decide) ?_
      refine lv_istore (lv' := [(11, .int 0), (10, .ref (fa f2)), (9, .int 0), (8, .ref (ba b)), (0, .ref x), (1, .ref (o 0)), (2, .int v), (3, .int (nI f)), (4, .int (nI ch)), (5, .int (nI b)), (7, .int (-1))]) hx hb dL_act_942 hl (by decide) rfl (fun ls hl => ?_)
      refine lv_iload hx hb dL_act_944 (lv_at hl 0 rfl) ?_
      refine lv_if_eq (tgt := 982) hx hb dL_act_946 (by decide) (fun c_84 => ?_) (fun c_ => absurd rfl c_)
      refine lv_aload_n hx hb dL_act_982 rfl (lv_at hl 4 rfl) ?_
      refine lv_iload hx hb dL_act_983 (lv_at hl 9 rfl) ?_
      refine lv_iload_n hx hb dL_act_985 rfl (lv_at hl 7 rfl) ?_
      refine c_xV (rest := []) (E := "java/lang/IllegalStateException") hC hE hP hX (zA_x hZ hS) (lxb_forward_2 l S (nI b) (nI f) hfl (xbag_n hra hbn) (xflt_n hra hf) (fun z => zh ((hand_n hrb hbn).mp z))) gc_RL_81 hd_X4_forward ⟨Nat.le_of_ble_eq_true rfl, Nat.le_of_ble_eq_true rfl⟩ 29 lw_29 rfl rfl hl.1 (Nat.le_of_ble_eq_true rfl) ⟨(Nat.le_of_ble_eq_true rfl), (Nat.le_of_ble_eq_true rfl)⟩ dL_act_986 (fun ce q9 H1 h1 h2 h3 hP1 hz1 hk1 => ?_)
      refine vx_catch (own := RL) (E := "java/lang/IllegalStateException") (name := "java/lang/IllegalStateException") hown [⟨180, 186, 189, 34⟩, ⟨320, 329, 332, 34⟩, ⟨585, 592, 595, 34⟩, ⟨892, 900, 903, 34⟩] ⟨982, 991, 994, 34⟩ [⟨1152, 1163, 1166, 34⟩] htab (fun z hz => Or.inl (by
          simp only [List.mem_cons, List.not_mem_nil, or_false] at hz
          rcases hz with rfl | rfl | rfl | rfl <;> rfl)) rfl (by decide) (hts _ tw_602) (va_Nw.use rfl (hX.2.1 (.castable "java/lang/IllegalStateException" "java/lang/IllegalStateException") (by decide +kernel))) h1 h2 h3 ?_
      have hS := vS_grown hS hz1 hk1
      have hP := hP1
      refine lv_astore (lv' := [(12, .ref q9), (11, .int 0), (10, .ref (fa f2)), (9, .int 0), (8, .ref (ba b)), (0, .ref x), (1, .ref (o 0)), (2, .int v), (3, .int (nI f)), (4, .int (nI ch)), (5, .int (nI b)), (7, .int (-1))]) hx hb dL_act_994 hl (by decide) rfl (fun ls hl => ?_)
      refine lv_iconst (v := (-1)) hx hb dL_act_996 (by decide) ?_
      refine lv_istore (lv' := [(6, .int (-1)), (12, .ref q9), (11, .int 0), (10, .ref (fa f2)), (9, .int 0), (8, .ref (ba b)), (0, .ref x), (1, .ref (o 0)), (2, .int v), (3, .int (nI f)), (4, .int (nI ch)), (5, .int (nI b)), (7, .int (-1))]) hx hb dL_act_997 hl (by decide) rfl (fun ls hl => ?_)
      refine lv_iload hx hb dL_act_999 (lv_at hl 0 rfl) ?_
      refine lv_iload hx hb dL_act_1001 (lv_at hl 12 rfl) ?_
      refine lv_icmp_ne (tgt := 1010) hx hb dL_act_1003 (by decide) (fun c_ => absurd rfl c_) (fun c_85 => ?_)
      refine lv_iconst (v := 1) hx hb dL_act_1006 (by decide) ?_
      refine lv_goto (tgt := 1011) hx hb dL_act_1007 (by decide) ?_
      have e99 : (LW k a tr o fa ba x S U G T n nf (mL T n) R) = (LW k a tr o fa ba x S U G T n nf (mL T n) R) := rfl
      rw [← e99] at hP hD
      exact g_zret hx hb hr rfl hlk dL_act_1011 hP hD hS ⟨rfl, o, fa, ba, S, U, G, T, n, nf, hnf0, hra, hrb, hti, hgi, ho, rfl⟩ (Nat.le_of_ble_eq_true rfl) (Nat.le_of_ble_eq_true rfl)
set_option maxHeartbeats 1000000 in
set_option maxRecDepth 100000 in
theorem act_8 {p : Program} {l : Launch} {e : Env} {s : State} {m : MethodId} {args : Array Value} {below : List Frame} {meth : Method} {c : Code} {D : va_G} {k : Nat → ClassId} {A : Nat → Prop} {a tr o fa ba : Nat → Nat} {x q0 : Nat} {S U G T : HS} {n nf : Nat} {R : va_W} {ls : Array Slot} {H : Heap} {locs : List Loc} (hfl : l.stackTraces = false) (hC : CallFix p m c cL_act 13 s args lw_all RL) (hr : meth.sig.returnType = some .boolean) (hlk : meth.locks = false) (htab : c.exceptionTable.toList = tableOf actT) (hE : eK D k s) (hX : xK s) (hZ : zA A s s.heap) (hA : ∀ q : Nat, s.heap.size ≤ q → A q) (hnf0 : 0 < nf) (hra : RA S G n nf) (hrb : RB S T n) (hti : TI T n) (hgi : GI G T n nf) (ho : o 0 = q0) {v : Int32} {f ch : Nat} (hf : f < nf) (hch : ch < 4) {b : Nat} (hbn : b < n) (hl : lv_has ls 13 [(0, .ref x), (1, .ref (o 0)), (2, .int v), (3, .int (nI f)), (4, .int (nI ch)), (5, .int (nI b)), (7, .int (-1))]) (hP : va_P D vwCl (LW k a tr o fa ba x S U G T n nf (mL T n) R) H) (hD : va_D A (LW k a tr o fa ba x S U G T n nf (mL T n) R)) (hS : va_S A s.heap H locs) : W p l e ({ frames := 8, cells := 40, slots := 1500, locals := 145 } : Room) s m args below meth c H locs 0 0 (MQ below (gQ D A (fun v9 w1 => v9 = some (.int 1) ∧ AS k a tr x q0 R w1)) args s 40 1500 A) (F0 m 714 ls []) := by
  have hx := hC.1
  have hb := hC.2.1
  have hown : s.vm.findClass RL = some m.cls := hC.2.2.2.1
  have hts := hC.2.2.2.2
  have hn := hra.n40
  have hnf := hra.nf6
  have hLn : mL T n ≤ n := ct_le _ n
  by_cases z0 : (0 : Int32) < bel (v >>> (7 &&& 31)) 5
  · refine lv_iload hx hb dL_act_714 (lv_at hl 5 rfl) ?_
    refine lv_if_ge (tgt := 721) hx hb dL_act_716 (by decide) (fun c_1 => ?_) (fun c_ => absurd (Int32.not_lt.mp (nI_pos (by omega))) c_)
    refine lv_iconst (v := 0) hx hb dL_act_721 (by decide) ?_
    refine lv_istore (lv' := [(8, .int 0), (0, .ref x), (1, .ref (o 0)), (2, .int v), (3, .int (nI f)), (4, .int (nI ch)), (5, .int (nI b)), (7, .int (-1))]) hx hb dL_act_722 hl (by decide) rfl (fun ls hl => ?_)
    refine w_for (N := n) (fun _ => True) (fun i => [(0, .ref x), (1, .ref (o 0)), (2, .int v), (3, .int (nI f)), (4, .int (nI ch)), (5, .int (nI (pkB T b i))), (7, .int (-1)), (8, .int (nI i))]) (fun ls hI hl => ?_) (fun i hi hI ih ls hl => ?_) 0 (Nat.zero_le _) trivial (lv_sub hl [1, 2, 3, 4, 5, 6, 7, 0] rfl)
    · have hl : lv_has ls 13 [(0, .ref x), (1, .ref (o 0)), (2, .int v), (3, .int (nI f)), (4, .int (nI ch)), (5, .int (nI (pkB T b n))), (7, .int (-1)), (8, .int (nI n))] := hl
      refine lv_iload hx hb dL_act_724 (lv_at hl 7 rfl) ?_
      refine lv_aload_n hx hb dL_act_726 rfl (lv_at hl 1 rfl) ?_
      refine va_get (D := D) (ci := 5) (v := .ref (o 3)) (C := RX5) (T := TX5) (N := 6) hx hb hts tu_5 hown hE.1 hP 59 lw_59 rfl 4 (by decide) (hts _ tw_740) (fun _ h9 => h9) rfl dL_act_727 ?_
      refine k_olen hx hb hE hP 62 lw_62 dL_act_730 ?_
      refine lv_icmp_ge (tgt := 781) hx hb dL_act_731 (by decide) (fun c_2 => ?_) (fun c_ => absurd (nI_le (Nat.le_refl n) (Nat.lt_of_le_of_lt hn (by decide))) c_)
      exact act_8b hfl hC hr hlk htab hE hX hZ hA hnf0 hra hrb hti hgi ho hf hch (b := (pkB T b n)) (pkB_lt hbn n (Nat.le_refl n)) (lv_sub hl [0, 1, 2, 3, 4, 5, 6] rfl) hP hD hS
    · have hl : lv_has ls 13 [(0, .ref x), (1, .ref (o 0)), (2, .int v), (3, .int (nI f)), (4, .int (nI ch)), (5, .int (nI (pkB T b i))), (7, .int (-1)), (8, .int (nI i))] := hl
      refine lv_iload hx hb dL_act_724 (lv_at hl 7 rfl) ?_
      refine lv_aload_n hx hb dL_act_726 rfl (lv_at hl 1 rfl) ?_
      refine va_get (D := D) (ci := 5) (v := .ref (o 3)) (C := RX5) (T := TX5) (N := 6) hx hb hts tu_5 hown hE.1 hP 59 lw_59 rfl 4 (by decide) (hts _ tw_740) (fun _ h9 => h9) rfl dL_act_727 ?_
      refine k_olen hx hb hE hP 62 lw_62 dL_act_730 ?_
      refine lv_icmp_ge (tgt := 781) hx hb dL_act_731 (by decide) (fun c_ => absurd c_ (nI_ge hi (Nat.lt_of_le_of_lt hn (by decide)))) (fun c_3 => ?_)
      refine lv_iload_n hx hb dL_act_734 rfl (lv_at hl 2 rfl) ?_
      refine lv_bipush (v := 7) hx hb dL_act_735 (by decide) ?_
      refine lv_ishr hx hb dL_act_737 ?_
      refine lv_iconst (v := 5) hx hb dL_act_738 (by decide) ?_
      refine c_pSi (rest := []) hC hE hP (metL_below l (v >>> (7 &&& 31)) 5 (by decide) (by decide)) gc_RL_15 hd_L_below ⟨rfl, rfl⟩ ⟨Nat.le_of_ble_eq_true rfl, Nat.le_of_ble_eq_true rfl⟩ rfl hl.1 (Nat.le_of_ble_eq_true rfl) ⟨(Nat.le_of_ble_eq_true rfl), (Nat.le_of_ble_eq_true rfl)⟩ dL_act_739 ?_
      refine lv_if_le (tgt := 781) hx hb dL_act_742 (by decide) (fun c_ => absurd c_ (Int32.not_le.mpr z0)) (fun c_4 => ?_)
      refine lv_aload_n hx hb dL_act_745 rfl (lv_at hl 1 rfl) ?_
      refine va_get (D := D) (ci := 5) (v := .ref (o 3)) (C := RX5) (T := TX5) (N := 6) hx hb hts tu_5 hown hE.1 hP 59 lw_59 rfl 4 (by decide) (hts _ tw_740) (fun _ h9 => h9) rfl dL_act_746 ?_
      refine lv_iload hx hb dL_act_749 (lv_at hl 7 rfl) ?_
      refine k_aald (j := i) hx hb hE hP 62 lw_62 hi (Nat.lt_of_le_of_lt hn (by decide)) dL_act_751 ?_
      refine lv_iconst (v := 3) hx hb dL_act_752 (by decide) ?_
      refine k_iald (j := 3) hx hb hE hP (64 + nf + i) (lw_b hi) (by decide) (by decide) dL_act_753 ?_
      refine w_top (show bgR G T i 3 = T 1 i from rfl) ?_
      refine lv_iconst (v := 3) hx hb dL_act_754 (by decide) ?_
      refine lv_icmp_eq (tgt := 771) hx hb dL_act_755 (by decide) (fun c_5 => ?_) (fun c_5 => ?_)
      · refine lv_iload hx hb dL_act_771 (lv_at hl 7 rfl) ?_
        refine lv_istore (lv' := [(5, .int (nI i)), (0, .ref x), (1, .ref (o 0)), (2, .int v), (3, .int (nI f)), (4, .int (nI ch)), (7, .int (-1)), (8, .int (nI i))]) hx hb dL_act_773 hl (by decide) rfl (fun ls hl => ?_)
        refine lv_iinc (v := nI (i + 1)) (lv' := [(8, .int (nI (i + 1))), (5, .int (nI i)), (0, .ref x), (1, .ref (o 0)), (2, .int v), (3, .int (nI f)), (4, .int (nI ch)), (7, .int (-1))]) hx hb dL_act_775 hl (k := 7) rfl (iinc1 _) (by decide) rfl (fun ls hl => ?_)
        refine lv_goto (tgt := 724) hx hb dL_act_778 (by decide) ?_
        have e9 : pkB T b (i + 1) = i := sel_t (Or.inl c_5) _ _
        exact ih ls trivial (by show lv_has ls 13 [(0, .ref x), (1, .ref (o 0)), (2, .int v), (3, .int (nI f)), (4, .int (nI ch)), (5, .int (nI (pkB T b (i + 1)))), (7, .int (-1)), (8, .int (nI (i + 1)))]; rw [e9]; exact lv_sub hl [2, 3, 4, 5, 6, 1, 7, 0] rfl)
      · refine lv_aload_n hx hb dL_act_758 rfl (lv_at hl 1 rfl) ?_
        refine va_get (D := D) (ci := 5) (v := .ref (o 3)) (C := RX5) (T := TX5) (N := 6) hx hb hts tu_5 hown hE.1 hP 59 lw_59 rfl 4 (by decide) (hts _ tw_740) (fun _ h9 => h9) rfl dL_act_759 ?_
        refine lv_iload hx hb dL_act_762 (lv_at hl 7 rfl) ?_
        refine k_aald (j := i) hx hb hE hP 62 lw_62 hi (Nat.lt_of_le_of_lt hn (by decide)) dL_act_764 ?_
        refine lv_iconst (v := 3) hx hb dL_act_765 (by decide) ?_
        refine k_iald (j := 3) hx hb hE hP (64 + nf + i) (lw_b hi) (by decide) (by decide) dL_act_766 ?_
        refine w_top (show bgR G T i 3 = T 1 i from rfl) ?_
        refine lv_iconst (v := 4) hx hb dL_act_767 (by decide) ?_
        refine lv_icmp_ne (tgt := 775) hx hb dL_act_768 (by decide) (fun c_6 => ?_) (fun c_6 => ?_)
        · refine lv_iinc (v := nI (i + 1)) (lv' := [(8, .int (nI (i + 1))), (0, .ref x), (1, .ref (o 0)), (2, .int v), (3, .int (nI f)), (4, .int (nI ch)), (5, .int (nI (pkB T b i))), (7, .int (-1))]) hx hb dL_act_775 hl (k := 7) rfl (iinc1 _) (by decide) rfl (fun ls hl => ?_)
          refine lv_goto (tgt := 724) hx hb dL_act_778 (by decide) ?_
          have e9 : pkB T b (i + 1) = pkB T b i := sel_f (fun z => z.elim c_5 c_6) _ _
          exact ih ls trivial (by show lv_has ls 13 [(0, .ref x), (1, .ref (o 0)), (2, .int v), (3, .int (nI f)), (4, .int (nI ch)), (5, .int (nI (pkB T b (i + 1)))), (7, .int (-1)), (8, .int (nI (i + 1)))]; rw [e9]; exact lv_sub hl [1, 2, 3, 4, 5, 6, 7, 0] rfl)
        · refine lv_iload hx hb dL_act_771 (lv_at hl 7 rfl) ?_
          refine lv_istore (lv' := [(5, .int (nI i)), (0, .ref x), (1, .ref (o 0)), (2, .int v), (3, .int (nI f)), (4, .int (nI ch)), (7, .int (-1)), (8, .int (nI i))]) hx hb dL_act_773 hl (by decide) rfl (fun ls hl => ?_)
          refine lv_iinc (v := nI (i + 1)) (lv' := [(8, .int (nI (i + 1))), (5, .int (nI i)), (0, .ref x), (1, .ref (o 0)), (2, .int v), (3, .int (nI f)), (4, .int (nI ch)), (7, .int (-1))]) hx hb dL_act_775 hl (k := 7) rfl (iinc1 _) (by decide) rfl (fun ls hl => ?_)
          refine lv_goto (tgt := 724) hx hb dL_act_778 (by decide) ?_
          have e9 : pkB T b (i + 1) = i := sel_t (Or.inr c_6) _ _
          exact ih ls trivial (by show lv_has ls 13 [(0, .ref x), (1, .ref (o 0)), (2, .int v), (3, .int (nI f)), (4, .int (nI ch)), (5, .int (nI (pkB T b (i + 1)))), (7, .int (-1)), (8, .int (nI (i + 1)))]; rw [e9]; exact lv_sub hl [2, 3, 4, 5, 6, 1, 7, 0] rfl)
  · refine lv_iload hx hb dL_act_714 (lv_at hl 5 rfl) ?_
    refine lv_if_ge (tgt := 721) hx hb dL_act_716 (by decide) (fun c_7 => ?_) (fun c_ => absurd (Int32.not_lt.mp (nI_pos (by omega))) c_)
    refine lv_iconst (v := 0) hx hb dL_act_721 (by decide) ?_
    refine lv_istore (lv' := [(8, .int 0), (0, .ref x), (1, .ref (o 0)), (2, .int v), (3, .int (nI f)), (4, .int (nI ch)), (5, .int (nI b)), (7, .int (-1))]) hx hb dL_act_722 hl (by decide) rfl (fun ls hl => ?_)
    refine lv_iload hx hb dL_act_724 (lv_at hl 0 rfl) ?_
    refine lv_aload_n hx hb dL_act_726 rfl (lv_at hl 2 rfl) ?_
    refine va_get (D := D) (ci := 5) (v := .ref (o 3)) (C := RX5) (T := TX5) (N := 6) hx hb hts tu_5 hown hE.1 hP 59 lw_59 rfl 4 (by decide) (hts _ tw_740) (fun _ h9 => h9) rfl dL_act_727 ?_
    refine k_olen hx hb hE hP 62 lw_62 dL_act_730 ?_
    refine lv_icmp_ge (tgt := 781) hx hb dL_act_731 (by decide) (fun c_ => absurd c_ (nI_ge (a := 0) (b := n) (by omega) (by omega))) (fun c_8 => ?_)
    refine lv_iload_n hx hb dL_act_734 rfl (lv_at hl 3 rfl) ?_
    refine lv_bipush (v := 7) hx hb dL_act_735 (by decide) ?_
    refine lv_ishr hx hb dL_act_737 ?_
    refine lv_iconst (v := 5) hx hb dL_act_738 (by decide) ?_
    refine c_pSi (rest := []) hC hE hP (metL_below l (v >>> (7 &&& 31)) 5 (by decide) (by decide)) gc_RL_15 hd_L_below ⟨rfl, rfl⟩ ⟨Nat.le_of_ble_eq_true rfl, Nat.le_of_ble_eq_true rfl⟩ rfl hl.1 (Nat.le_of_ble_eq_true rfl) ⟨(Nat.le_of_ble_eq_true rfl), (Nat.le_of_ble_eq_true rfl)⟩ dL_act_739 ?_
    refine lv_if_le (tgt := 781) hx hb dL_act_742 (by decide) (fun c_9 => ?_) (fun c_ => absurd (Int32.not_lt.mp z0) c_)
    exact act_8b hfl hC hr hlk htab hE hX hZ hA hnf0 hra hrb hti hgi ho hf hch (b := b) hbn (lv_sub hl [1, 2, 3, 4, 5, 6, 7] rfl) hP hD hS
set_option maxHeartbeats 1000000 in
set_option maxRecDepth 100000 in
theorem act_11b {p : Program} {l : Launch} {e : Env} {s : State} {m : MethodId} {args : Array Value} {below : List Frame} {meth : Method} {c : Code} {D : va_G} {k : Nat → ClassId} {A : Nat → Prop} {a tr o fa ba : Nat → Nat} {x q0 : Nat} {S U G T : HS} {n nf : Nat} {R : va_W} {ls : Array Slot} {H : Heap} {locs : List Loc} (hfl : l.stackTraces = false) (hC : CallFix p m c cL_act 13 s args lw_all RL) (hr : meth.sig.returnType = some .boolean) (hlk : meth.locks = false) (htab : c.exceptionTable.toList = tableOf actT) (hE : eK D k s) (hX : xK s) (hZ : zA A s s.heap) (hA : ∀ q : Nat, s.heap.size ≤ q → A q) (hnf0 : 0 < nf) (hra : RA S G n nf) (hrb : RB S T n) (hti : TI T n) (hgi : GI G T n nf) (ho : o 0 = q0) {v : Int32} {f ch : Nat} (hf : f < nf) (hch : ch < 4) {z y : Nat} (hz1 : 1 ≤ z) (hz9 : z ≤ 9) (hy9 : y ≤ 9) (hl : lv_has ls 13 [(0, .ref x), (1, .ref (o 0)), (2, .int v), (3, .int (nI f)), (4, .int (nI ch)), (7, .int (-1)), (8, .int (nI z)), (9, .int (nI y))]) (hP : va_P D vwCl (LW k a tr o fa ba x S U G T n nf (mL T n) R) H) (hD : va_D A (LW k a tr o fa ba x S U G T n nf (mL T n) R)) (hS : va_S A s.heap H locs) : W p l e ({ frames := 8, cells := 40, slots := 1500, locals := 145 } : Room) s m args below meth c H locs 0 0 (MQ below (gQ D A (fun v9 w1 => v9 = some (.int 1) ∧ AS k a tr x q0 R w1)) args s 40 1500 A) (F0 m 1067 ls []) := by
  have hx := hC.1
  have hb := hC.2.1
  have hown : s.vm.findClass RL = some m.cls := hC.2.2.2.1
  have hts := hC.2.2.2.2
  have hn := hra.n40
  have hnf := hra.nf6
  have hLn : mL T n ≤ n := ct_le _ n
  by_cases z1 : n < 40
  · by_cases z2 : G 2 f = 0
    · refine lv_aload_n hx hb dL_act_1067 rfl (lv_at hl 1 rfl) ?_
      refine va_get (D := D) (ci := 5) (v := .ref (o 3)) (C := RX5) (T := TX5) (N := 6) hx hb hts tu_5 hown hE.1 hP 59 lw_59 rfl 4 (by decide) (hts _ tw_740) (fun _ h9 => h9) rfl dL_act_1068 ?_
      refine k_olen hx hb hE hP 62 lw_62 dL_act_1071 ?_
      refine lv_bipush (v := 40) hx hb dL_act_1072 (by decide) ?_
      refine lv_icmp_ge (tgt := 1152) hx hb dL_act_1074 (by decide) (fun c_ => absurd c_ (nI_ge (b := 40) z1 (by decide))) (fun c_1 => ?_)
      refine lv_aload_n hx hb dL_act_1077 rfl (lv_at hl 1 rfl) ?_
      refine va_get (D := D) (ci := 5) (v := .ref (o 2)) (C := RX5) (T := TX5) (N := 6) hx hb hts tu_5 hown hE.1 hP 59 lw_59 rfl 3 (by decide) (hts _ tw_738) (fun _ h9 => h9) rfl dL_act_1078 ?_
      refine lv_iload_n hx hb dL_act_1081 rfl (lv_at hl 3 rfl) ?_
      refine k_aald (j := f) hx hb hE hP 61 lw_61 hf (Nat.lt_of_le_of_lt hnf (by decide)) dL_act_1082 ?_
      refine lv_iconst (v := 1) hx hb dL_act_1083 (by decide) ?_
      refine k_iald (j := 1) hx hb hE hP (64 + f) (lw_f hf) (by decide) (by decide) dL_act_1084 ?_
      refine w_top (show flR G f 1 = G 2 f from rfl) ?_
      refine w_top (show G 2 f = 0 from z2) ?_
      refine lv_if_ne (tgt := 1152) hx hb dL_act_1085 (by decide) (fun c_ => absurd rfl c_) (fun c_2 => ?_)
      refine lv_aload_n hx hb dL_act_1088 rfl (lv_at hl 1 rfl) ?_
      refine va_get (D := D) (ci := 5) (v := .ref (o 3)) (C := RX5) (T := TX5) (N := 6) hx hb hts tu_5 hown hE.1 hP 59 lw_59 rfl 4 (by decide) (hts _ tw_740) (fun _ h9 => h9) rfl dL_act_1089 ?_
      refine k_olen hx hb hE hP 62 lw_62 dL_act_1092 ?_
      refine lv_istore (lv' := [(7, .int (nI n)), (0, .ref x), (1, .ref (o 0)), (2, .int v), (3, .int (nI f)), (4, .int (nI ch)), (8, .int (nI z)), (9, .int (nI y))]) hx hb dL_act_1093 hl (by decide) rfl (fun ls hl => ?_)
      refine lv_aload_n hx hb dL_act_1095 rfl (lv_at hl 2 rfl) ?_
      refine lv_aload_n hx hb dL_act_1096 rfl (lv_at hl 2 rfl) ?_
      refine va_get (D := D) (ci := 5) (v := .ref (o 3)) (C := RX5) (T := TX5) (N := 6) hx hb hts tu_5 hown hE.1 hP 59 lw_59 rfl 4 (by decide) (hts _ tw_740) (fun _ h9 => h9) rfl dL_act_1097 ?_
      refine lv_bipush (v := 8) hx hb dL_act_1100 (by decide) ?_
      refine i_newai (N := 8) hx hb (hts _ tw_49) hE hP hD hS hA (by decide) rfl (Nat.le_of_ble_eq_true rfl) (Nat.le_of_ble_eq_true rfl) (Nat.le_of_ble_eq_true rfl) dL_act_1102 (fun q1 H hP hD hS => ?_)
      rw [lw_more] at hP hD
      have hP : va_P D vwCl (LW k a tr o fa ba x S U G T n nf (mL T n) (R ++ [(q1, .inl (k 0, 8, .inl (fun _ => 0)))])) H := hP
      have hD : va_D A (LW k a tr o fa ba x S U G T n nf (mL T n) (R ++ [(q1, .inl (k 0, 8, .inl (fun _ => 0)))])) := hD
      refine lv_dup hx hb dL_act_1104 rfl ?_
      refine lv_iconst (v := 0) hx hb dL_act_1105 (by decide) ?_
      refine lv_iload_n hx hb dL_act_1106 rfl (lv_at hl 4 rfl) ?_
      refine k_iast (j := 0) hx hb hE hP hD hS (64 + nf + n + (R.length + 0)) ((lw_Ri (i := 0)).trans rfl) (by decide) (by decide) dL_act_1107 (fun H locs hP hD hS => ?_)
      rw [lw_Riset (i := 0)] at hP hD
      have hP : va_P D vwCl (LW k a tr o fa ba x S U G T n nf (mL T n) (R ++ [(q1, .inl (k 0, 8, .inl (upd (fun _ => 0) 0 (nI f))))])) H := hP
      have hD : va_D A (LW k a tr o fa ba x S U G T n nf (mL T n) (R ++ [(q1, .inl (k 0, 8, .inl (upd (fun _ => 0) 0 (nI f))))])) := hD
      refine lv_dup hx hb dL_act_1108 rfl ?_
      refine lv_iconst (v := 1) hx hb dL_act_1109 (by decide) ?_
      refine lv_iload hx hb dL_act_1110 (lv_at hl 6 rfl) ?_
      refine k_iast (j := 1) hx hb hE hP hD hS (64 + nf + n + (R.length + 0)) ((lw_Ri (i := 0)).trans rfl) (by decide) (by decide) dL_act_1112 (fun H locs hP hD hS => ?_)
      rw [lw_Riset (i := 0)] at hP hD
      have hP : va_P D vwCl (LW k a tr o fa ba x S U G T n nf (mL T n) (R ++ [(q1, .inl (k 0, 8, .inl (upd (upd (fun _ => 0) 0 (nI f)) 1 (nI z))))])) H := hP
      have hD : va_D A (LW k a tr o fa ba x S U G T n nf (mL T n) (R ++ [(q1, .inl (k 0, 8, .inl (upd (upd (fun _ => 0) 0 (nI f)) 1 (nI z))))])) := hD
      refine lv_dup hx hb dL_act_1113 rfl ?_
      refine lv_iconst (v := 2) hx hb dL_act_1114 (by decide) ?_
      refine lv_iload hx hb dL_act_1115 (lv_at hl 7 rfl) ?_
      refine k_iast (j := 2) hx hb hE hP hD hS (64 + nf + n + (R.length + 0)) ((lw_Ri (i := 0)).trans rfl) (by decide) (by decide) dL_act_1117 (fun H locs hP hD hS => ?_)
      rw [lw_Riset (i := 0)] at hP hD
      have hP : va_P D vwCl (LW k a tr o fa ba x S U G T n nf (mL T n) (R ++ [(q1, .inl (k 0, 8, .inl (upd (upd (upd (fun _ => 0) 0 (nI f)) 1 (nI z)) 2 (nI y))))])) H := hP
      have hD : va_D A (LW k a tr o fa ba x S U G T n nf (mL T n) (R ++ [(q1, .inl (k 0, 8, .inl (upd (upd (upd (fun _ => 0) 0 (nI f)) 1 (nI z)) 2 (nI y))))])) := hD
      refine lv_dup hx hb dL_act_1118 rfl ?_
      refine lv_iconst (v := 3) hx hb dL_act_1119 (by decide) ?_
      refine lv_iconst (v := 0) hx hb dL_act_1120 (by decide) ?_
      refine k_iast (j := 3) hx hb hE hP hD hS (64 + nf + n + (R.length + 0)) ((lw_Ri (i := 0)).trans rfl) (by decide) (by decide) dL_act_1121 (fun H locs hP hD hS => ?_)
      rw [lw_Riset (i := 0)] at hP hD
      have hP : va_P D vwCl (LW k a tr o fa ba x S U G T n nf (mL T n) (R ++ [(q1, .inl (k 0, 8, .inl (upd (upd (upd (upd (fun _ => 0) 0 (nI f)) 1 (nI z)) 2 (nI y)) 3 0)))])) H := hP
      have hD : va_D A (LW k a tr o fa ba x S U G T n nf (mL T n) (R ++ [(q1, .inl (k 0, 8, .inl (upd (upd (upd (upd (fun _ => 0) 0 (nI f)) 1 (nI z)) 2 (nI y)) 3 0)))])) := hD
      refine lv_dup hx hb dL_act_1122 rfl ?_
      refine lv_iconst (v := 4) hx hb dL_act_1123 (by decide) ?_
      refine lv_iconst (v := (-1)) hx hb dL_act_1124 (by decide) ?_
      refine k_iast (j := 4) hx hb hE hP hD hS (64 + nf + n + (R.length + 0)) ((lw_Ri (i := 0)).trans rfl) (by decide) (by decide) dL_act_1125 (fun H locs hP hD hS => ?_)
      rw [lw_Riset (i := 0)] at hP hD
      have hP : va_P D vwCl (LW k a tr o fa ba x S U G T n nf (mL T n) (R ++ [(q1, .inl (k 0, 8, .inl (upd (upd (upd (upd (upd (fun _ => 0) 0 (nI f)) 1 (nI z)) 2 (nI y)) 3 0) 4 (-1))))])) H := hP
      have hD : va_D A (LW k a tr o fa ba x S U G T n nf (mL T n) (R ++ [(q1, .inl (k 0, 8, .inl (upd (upd (upd (upd (upd (fun _ => 0) 0 (nI f)) 1 (nI z)) 2 (nI y)) 3 0) 4 (-1))))])) := hD
      refine lv_dup hx hb dL_act_1126 rfl ?_
      refine lv_iconst (v := 5) hx hb dL_act_1127 (by decide) ?_
      refine lv_iconst (v := (-1)) hx hb dL_act_1128 (by decide) ?_
      refine k_iast (j := 5) hx hb hE hP hD hS (64 + nf + n + (R.length + 0)) ((lw_Ri (i := 0)).trans rfl) (by decide) (by decide) dL_act_1129 (fun H locs hP hD hS => ?_)
      rw [lw_Riset (i := 0)] at hP hD
      have hP : va_P D vwCl (LW k a tr o fa ba x S U G T n nf (mL T n) (R ++ [(q1, .inl (k 0, 8, .inl (upd (upd (upd (upd (upd (upd (fun _ => 0) 0 (nI f)) 1 (nI z)) 2 (nI y)) 3 0) 4 (-1)) 5 (-1))))])) H := hP
      have hD : va_D A (LW k a tr o fa ba x S U G T n nf (mL T n) (R ++ [(q1, .inl (k 0, 8, .inl (upd (upd (upd (upd (upd (upd (fun _ => 0) 0 (nI f)) 1 (nI z)) 2 (nI y)) 3 0) 4 (-1)) 5 (-1))))])) := hD
      refine lv_dup hx hb dL_act_1130 rfl ?_
      refine lv_bipush (v := 6) hx hb dL_act_1131 (by decide) ?_
      refine lv_iconst (v := 0) hx hb dL_act_1133 (by decide) ?_
      refine k_iast (j := 6) hx hb hE hP hD hS (64 + nf + n + (R.length + 0)) ((lw_Ri (i := 0)).trans rfl) (by decide) (by decide) dL_act_1134 (fun H locs hP hD hS => ?_)
      rw [lw_Riset (i := 0)] at hP hD
      have hP : va_P D vwCl (LW k a tr o fa ba x S U G T n nf (mL T n) (R ++ [(q1, .inl (k 0, 8, .inl (upd (upd (upd (upd (upd (upd (upd (fun _ => 0) 0 (nI f)) 1 (nI z)) 2 (nI y)) 3 0) 4 (-1)) 5 (-1)) 6 0)))])) H := hP
      have hD : va_D A (LW k a tr o fa ba x S U G T n nf (mL T n) (R ++ [(q1, .inl (k 0, 8, .inl (upd (upd (upd (upd (upd (upd (upd (fun _ => 0) 0 (nI f)) 1 (nI z)) 2 (nI y)) 3 0) 4 (-1)) 5 (-1)) 6 0)))])) := hD
      refine lv_dup hx hb dL_act_1135 rfl ?_
      refine lv_bipush (v := 7) hx hb dL_act_1136 (by decide) ?_
      refine lv_iconst (v := 0) hx hb dL_act_1138 (by decide) ?_
      refine k_iast (j := 7) hx hb hE hP hD hS (64 + nf + n + (R.length + 0)) ((lw_Ri (i := 0)).trans rfl) (by decide) (by decide) dL_act_1139 (fun H locs hP hD hS => ?_)
      rw [lw_Riset (i := 0)] at hP hD
      have hP : va_P D vwCl (LW k a tr o fa ba x S U G T n nf (mL T n) (R ++ [(q1, .inl (k 0, 8, .inl (upd (upd (upd (upd (upd (upd (upd (upd (fun _ => 0) 0 (nI f)) 1 (nI z)) 2 (nI y)) 3 0) 4 (-1)) 5 (-1)) 6 0) 7 0)))])) H := hP
      have hD : va_D A (LW k a tr o fa ba x S U G T n nf (mL T n) (R ++ [(q1, .inl (k 0, 8, .inl (upd (upd (upd (upd (upd (upd (upd (upd (fun _ => 0) 0 (nI f)) 1 (nI z)) 2 (nI y)) 3 0) 4 (-1)) 5 (-1)) 6 0) 7 0)))])) := hD
      refine c_gS (rest := [.ref (o 0)]) hC hE hP hD hS hA (metX5_more l 62 (64 + nf + n + (R.length + 0)) (o 3) q1 n 8 ba (upd (upd (upd (upd (upd (upd (upd (upd (fun _ => 0) 0 (nI f)) 1 (nI z)) 2 (nI y)) 3 0) 4 (-1)) 5 (-1)) 6 0) 7 0) lw_62 ((lw_Ri (i := 0)).trans rfl) (fun j hj => ⟨64 + nf + j, 8, bgR G T j, lw_b hj⟩) (by omega)) (fun _ _ _ => trivial) (fun _ _ _ _ _ => trivial) gc_RL_24 hd_X5_more ⟨rfl, rfl⟩ ⟨Nat.le_of_ble_eq_true rfl, Nat.le_of_ble_eq_true rfl⟩ rfl hl.1 (Nat.le_of_ble_eq_true rfl) ⟨(Nat.le_of_ble_eq_true rfl), (Nat.le_of_ble_eq_true rfl)⟩ dL_act_1140 (fun v9 w9 H locs hp hP hD hS => ?_)
      obtain ⟨q2, rfl, rfl⟩ := hp
      rw [lw_more, List.append_assoc] at hP hD
      have hP : va_P D vwCl (LW k a tr o fa ba x S U G T n nf (mL T n) (R ++ [(q1, .inl (k 0, 8, .inl (upd (upd (upd (upd (upd (upd (upd (upd (fun _ => 0) 0 (nI f)) 1 (nI z)) 2 (nI y)) 3 0) 4 (-1)) 5 (-1)) 6 0) 7 0))), (q2, outA (k 2) (n + 1) (rfA (oLn ba n q1)))])) H := hP
      have hD : va_D A (LW k a tr o fa ba x S U G T n nf (mL T n) (R ++ [(q1, .inl (k 0, 8, .inl (upd (upd (upd (upd (upd (upd (upd (upd (fun _ => 0) 0 (nI f)) 1 (nI z)) 2 (nI y)) 3 0) 4 (-1)) 5 (-1)) 6 0) 7 0))), (q2, outA (k 2) (n + 1) (rfA (oLn ba n q1)))])) := hD
      have hP := row_cong (i := 64 + nf + n + (R.length + 0)) (g := bgR (chkG G n f (nI z) (nI y)) (nwT T n) n) hP ((lw_Ri (i := 0)).trans rfl) (row8 rfl)
      rw [lw_Riset (i := 0)] at hP
      have hP : va_P D vwCl (LW k a tr o fa ba x S U G T n nf (mL T n) (R ++ [(q1, .inl (k 0, 8, .inl (bgR (chkG G n f (nI z) (nI y)) (nwT T n) n))), (q2, outA (k 2) (n + 1) (rfA (oLn ba n q1)))])) H := hP
      have hD : va_D A (LW k a tr o fa ba x S U G T n nf (mL T n) (R ++ [(q1, .inl (k 0, 8, .inl (bgR (chkG G n f (nI z) (nI y)) (nwT T n) n))), (q2, outA (k 2) (n + 1) (rfA (oLn ba n q1)))])) := lw_RD hD (by rw [List.map_append, List.map_append]; rfl)
      refine va_put (D := D) (ci := 5) (v := .ref q2) (ty := tyX5 4) (C := RX5) (T := TX5) (N := 6) hx hb hts tu_5 tyX5 tyX5_ok nmX5 hown hE.1 hP hD hS 59 lw_59 rfl 4 (by decide) (hts _ tw_740) (fun _ h9 => h9) rfl (tyX5_ok 4 (by decide)) rfl rfl (Nat.le_of_ble_eq_true rfl) dL_act_1143 (fun H locs hP hD hS => ?_)
      obtain ⟨hP, hD⟩ := lw_newBg (G2 := (chkG G n f (nI z) (nI y))) (T2 := (nwT T n)) hP hD old8 rfl rfl rfl rfl rfl
      have hP : va_P D vwCl (LW k a tr (oLn o 3 q2) fa (oLn ba n q1) x S U (chkG G n f (nI z) (nI y)) (nwT T n) (n + 1) nf (mL T n) R) H := hP
      have hD : va_D A (LW k a tr (oLn o 3 q2) fa (oLn ba n q1) x S U (chkG G n f (nI z) (nI y)) (nwT T n) (n + 1) nf (mL T n) R) := hD
      refine lv_aload_n hx hb dL_act_1146 rfl (lv_at hl 2 rfl) ?_
      refine lv_iload hx hb dL_act_1147 (lv_at hl 0 rfl) ?_
      rw [show o 0 = oLn o 3 q2 0 from rfl] at hl
      show W _ _ _ _ _ _ _ _ _ _ _ _ _ _ _ (F0 m 1149 ls [.int (nI n), .ref (oLn o 3 q2 0)])
      refine c_gV (rest := []) hC hE hP hD hS hA (metX5_begin l (chkG G n f (nI z) (nI y)) (nwT T n) (show n + 1 ≤ 40 from z1) hnf n (Nat.lt_succ_self n) (by omega) hrb.len) (fun _ _ _ => trivial) (fun _ _ _ _ _ => trivial) gc_RL_74 hd_X5_begin ⟨rfl, rfl⟩ ⟨Nat.le_of_ble_eq_true rfl, Nat.le_of_ble_eq_true rfl⟩ 59 lw_59 rfl rfl hl.1 (Nat.le_of_ble_eq_true rfl) ⟨(Nat.le_of_ble_eq_true rfl), (Nat.le_of_ble_eq_true rfl)⟩ dL_act_1149 (fun v9 w9 H locs hp hP hD hS => ?_)
      obtain ⟨rfl, o9, ho9, rfl⟩ := hp
      have hP : va_P D vwCl (LW k a tr o9 fa (oLn ba n q1) x S U (chkG G n f (nI z) (nI y)) (mBegin (chkG G n f (nI z) (nI y)) (nwT T n) n) (n + 1) nf (ix (mBegin (chkG G n f (nI z) (nI y)) (nwT T n) n 0 1)) R) H := hP
      have hD : va_D A (LW k a tr o9 fa (oLn ba n q1) x S U (chkG G n f (nI z) (nI y)) (mBegin (chkG G n f (nI z) (nI y)) (nwT T n) n) (n + 1) nf (ix (mBegin (chkG G n f (nI z) (nI y)) (nwT T n) n 0 1)) R) := hD
      rw [show (oLn o 3 q2 0) = o9 0 from ho9.symm] at hl
      refine lv_aload_n hx hb dL_act_1152 rfl (lv_at hl 1 rfl) ?_
      refine lv_iload_n hx hb dL_act_1153 rfl (lv_at hl 4 rfl) ?_
      refine lv_iload hx hb dL_act_1154 (lv_at hl 6 rfl) ?_
      refine lv_iload hx hb dL_act_1156 (lv_at hl 7 rfl) ?_
      refine c_mVi (rest := []) hC hE hP hD hS (ws' := (LW k a tr o9 fa (oLn ba n q1) x (xTakeIn (xAddBg S (nI f) (nI z) (nI y)) (S 0 4)) U (chkG G n f (nI z) (nI y)) (mBegin (chkG G n f (nI z) (nI y)) (nwT T n) n) (n + 1) nf (ix (mBegin (chkG G n f (nI z) (nI y)) (nwT T n) n 0 1)) R)) lw_same (lx_checkIn l S (nI f) (nI z) (nI y) (xflt_n hra hf) ⟨ge1 (by omega) (by omega), le9 (by omega), nI_pos (by omega), le9 (by omega)⟩ (by rw [hra.sn]; exact lt_40 z1) ((ng_iff hra (by omega)).mpr z2)) gc_RL_84 hd_X4_checkIn ⟨rfl, rfl⟩ ⟨Nat.le_of_ble_eq_true rfl, Nat.le_of_ble_eq_true rfl⟩ 29 lw_29 rfl rfl hl.1 (Nat.le_of_ble_eq_true rfl) ⟨(Nat.le_of_ble_eq_true rfl), (Nat.le_of_ble_eq_true rfl)⟩ dL_act_1158 (fun H locs hP hD hS => ?_)
      refine w_top (show S 0 4 = nI n from hra.sn) ?_
      refine lv_istore (lv' := [(6, .int (nI n)), (7, .int (nI n)), (0, .ref x), (1, .ref (o9 0)), (2, .int v), (3, .int (nI f)), (4, .int (nI ch)), (8, .int (nI z)), (9, .int (nI y))]) hx hb dL_act_1161 hl (by decide) rfl (fun ls hl => ?_)
      refine lv_goto (tgt := 1171) hx hb dL_act_1163 (by decide) ?_
      refine lv_iload hx hb dL_act_1171 (lv_at hl 0 rfl) ?_
      refine lv_iload hx hb dL_act_1173 (lv_at hl 1 rfl) ?_
      refine lv_icmp_ne (tgt := 1182) hx hb dL_act_1175 (by decide) (fun c_ => absurd rfl c_) (fun c_3 => ?_)
      refine lv_iconst (v := 1) hx hb dL_act_1178 (by decide) ?_
      refine lv_goto (tgt := 1183) hx hb dL_act_1179 (by decide) ?_
      obtain ⟨ha9, hb9⟩ := chk_rel hra hrb z1 hf (nI z) (nI y)
      have eL2 : ix (mBegin (chkG G n f (nI z) (nI y)) (nwT T n) n 0 1) = mL (mBegin (chkG G n f (nI z) (nI y)) T n) (n + 1) := by rw [nwB_01, hb9.len, ix_i (by have : mL (mBegin (chkG G n f (nI z) (nI y)) T n) (n + 1) ≤ n + 1 := ct_le _ _; omega)]
      have e99 : (LW k a tr o9 fa (oLn ba n q1) x (xTakeIn (xAddBg S (nI f) (nI z) (nI y)) (S 0 4)) U (sf (chkG G n f (nI z) (nI y)) 0 (upd (chkG G n f (nI z) (nI y) 0) 3 (G 0 3 + 1))) (mBegin (chkG G n f (nI z) (nI y)) T n) (n + 1) nf (mL (mBegin (chkG G n f (nI z) (nI y)) T n) (n + 1)) R) = (LW k a tr o9 fa (oLn ba n q1) x (xTakeIn (xAddBg S (nI f) (nI z) (nI y)) (S 0 4)) U (chkG G n f (nI z) (nI y)) (mBegin (chkG G n f (nI z) (nI y)) (nwT T n) n) (n + 1) nf (ix (mBegin (chkG G n f (nI z) (nI y)) (nwT T n) n 0 1)) R) := (by rw [eL2, newT_w (V := nwT T n) rfl rfl]; rfl)
      rw [← e99] at hP hD
      exact g_zret hx hb hr rfl hlk dL_act_1183 hP hD hS ⟨rfl, o9, fa, (oLn ba n q1), (xTakeIn (xAddBg S (nI f) (nI z) (nI y)) (S 0 4)), U, (sf (chkG G n f (nI z) (nI y)) 0 (upd (chkG G n f (nI z) (nI y) 0) 3 (G 0 3 + 1))), (mBegin (chkG G n f (nI z) (nI y)) T n), (n + 1), nf, hnf0, ha9, hb9, (begin_ti1 hti), (chk_gi hgi (nI z) (nI y)), (ho9.trans ho), rfl⟩ (Nat.le_of_ble_eq_true rfl) (Nat.le_of_ble_eq_true rfl)
    · refine lv_aload_n hx hb dL_act_1067 rfl (lv_at hl 1 rfl) ?_
      refine va_get (D := D) (ci := 5) (v := .ref (o 3)) (C := RX5) (T := TX5) (N := 6) hx hb hts tu_5 hown hE.1 hP 59 lw_59 rfl 4 (by decide) (hts _ tw_740) (fun _ h9 => h9) rfl dL_act_1068 ?_
      refine k_olen hx hb hE hP 62 lw_62 dL_act_1071 ?_
      refine lv_bipush (v := 40) hx hb dL_act_1072 (by decide) ?_
      refine lv_icmp_ge (tgt := 1152) hx hb dL_act_1074 (by decide) (fun c_ => absurd c_ (nI_ge (b := 40) z1 (by decide))) (fun c_4 => ?_)
      refine lv_aload_n hx hb dL_act_1077 rfl (lv_at hl 1 rfl) ?_
      refine va_get (D := D) (ci := 5) (v := .ref (o 2)) (C := RX5) (T := TX5) (N := 6) hx hb hts tu_5 hown hE.1 hP 59 lw_59 rfl 3 (by decide) (hts _ tw_738) (fun _ h9 => h9) rfl dL_act_1078 ?_
      refine lv_iload_n hx hb dL_act_1081 rfl (lv_at hl 3 rfl) ?_
      refine k_aald (j := f) hx hb hE hP 61 lw_61 hf (Nat.lt_of_le_of_lt hnf (by decide)) dL_act_1082 ?_
      refine lv_iconst (v := 1) hx hb dL_act_1083 (by decide) ?_
      refine k_iald (j := 1) hx hb hE hP (64 + f) (lw_f hf) (by decide) (by decide) dL_act_1084 ?_
      refine w_top (show flR G f 1 = G 2 f from rfl) ?_
      refine lv_if_ne (tgt := 1152) hx hb dL_act_1085 (by decide) (fun c_5 => ?_) (fun c_ => absurd c_ z2)
      refine lv_aload_n hx hb dL_act_1152 rfl (lv_at hl 0 rfl) ?_
      refine lv_iload_n hx hb dL_act_1153 rfl (lv_at hl 3 rfl) ?_
      refine lv_iload hx hb dL_act_1154 (lv_at hl 6 rfl) ?_
      refine lv_iload hx hb dL_act_1156 (lv_at hl 7 rfl) ?_
      refine c_xV (rest := []) (E := "java/lang/IllegalStateException") hC hE hP hX (zA_x hZ hS) (lxb_checkIn_3 l S (nI f) (nI z) (nI y) hfl (xflt_n hra hf) ⟨ge1 (by omega) (by omega), le9 (by omega), nI_pos (by omega), le9 (by omega)⟩ (by rw [hra.sn]; exact lt_40 z1) (fun z9 => z2 ((ng_iff hra (by omega)).mp z9))) gc_RL_84 hd_X4_checkIn ⟨Nat.le_of_ble_eq_true rfl, Nat.le_of_ble_eq_true rfl⟩ 29 lw_29 rfl rfl hl.1 (Nat.le_of_ble_eq_true rfl) ⟨(Nat.le_of_ble_eq_true rfl), (Nat.le_of_ble_eq_true rfl)⟩ dL_act_1158 (fun ce q9 H1 h1 h2 h3 hP1 hz1 hk1 => ?_)
      refine vx_catch (own := RL) (E := "java/lang/IllegalStateException") (name := "java/lang/IllegalStateException") hown [⟨180, 186, 189, 34⟩, ⟨320, 329, 332, 34⟩, ⟨585, 592, 595, 34⟩, ⟨892, 900, 903, 34⟩, ⟨982, 991, 994, 34⟩] ⟨1152, 1163, 1166, 34⟩ [] htab (fun z hz => Or.inl (by
          simp only [List.mem_cons, List.not_mem_nil, or_false] at hz
          rcases hz with rfl | rfl | rfl | rfl | rfl <;> rfl)) rfl (by decide) (hts _ tw_602) (va_Nw.use rfl (hX.2.1 (.castable "java/lang/IllegalStateException" "java/lang/IllegalStateException") (by decide +kernel))) h1 h2 h3 ?_
      have hS := vS_grown hS hz1 hk1
      have hP := hP1
      refine lv_astore (lv' := [(10, .ref q9), (0, .ref x), (1, .ref (o 0)), (2, .int v), (3, .int (nI f)), (4, .int (nI ch)), (7, .int (-1)), (8, .int (nI z)), (9, .int (nI y))]) hx hb dL_act_1166 hl (by decide) rfl (fun ls hl => ?_)
      refine lv_iconst (v := (-1)) hx hb dL_act_1168 (by decide) ?_
      refine lv_istore (lv' := [(6, .int (-1)), (10, .ref q9), (0, .ref x), (1, .ref (o 0)), (2, .int v), (3, .int (nI f)), (4, .int (nI ch)), (7, .int (-1)), (8, .int (nI z)), (9, .int (nI y))]) hx hb dL_act_1169 hl (by decide) rfl (fun ls hl => ?_)
      refine lv_iload hx hb dL_act_1171 (lv_at hl 0 rfl) ?_
      refine lv_iload hx hb dL_act_1173 (lv_at hl 7 rfl) ?_
      refine lv_icmp_ne (tgt := 1182) hx hb dL_act_1175 (by decide) (fun c_ => absurd rfl c_) (fun c_6 => ?_)
      refine lv_iconst (v := 1) hx hb dL_act_1178 (by decide) ?_
      refine lv_goto (tgt := 1183) hx hb dL_act_1179 (by decide) ?_
      have e99 : (LW k a tr o fa ba x S U G T n nf (mL T n) R) = (LW k a tr o fa ba x S U G T n nf (mL T n) R) := rfl
      rw [← e99] at hP hD
      exact g_zret hx hb hr rfl hlk dL_act_1183 hP hD hS ⟨rfl, o, fa, ba, S, U, G, T, n, nf, hnf0, hra, hrb, hti, hgi, ho, rfl⟩ (Nat.le_of_ble_eq_true rfl) (Nat.le_of_ble_eq_true rfl)
  · refine lv_aload_n hx hb dL_act_1067 rfl (lv_at hl 1 rfl) ?_
    refine va_get (D := D) (ci := 5) (v := .ref (o 3)) (C := RX5) (T := TX5) (N := 6) hx hb hts tu_5 hown hE.1 hP 59 lw_59 rfl 4 (by decide) (hts _ tw_740) (fun _ h9 => h9) rfl dL_act_1068 ?_
    refine k_olen hx hb hE hP 62 lw_62 dL_act_1071 ?_
    refine lv_bipush (v := 40) hx hb dL_act_1072 (by decide) ?_
    refine lv_icmp_ge (tgt := 1152) hx hb dL_act_1074 (by decide) (fun c_7 => ?_) (fun c_ => absurd (nI_le (a := 40) (by omega) (by omega)) c_)
    refine lv_aload_n hx hb dL_act_1152 rfl (lv_at hl 0 rfl) ?_
    refine lv_iload_n hx hb dL_act_1153 rfl (lv_at hl 3 rfl) ?_
    refine lv_iload hx hb dL_act_1154 (lv_at hl 6 rfl) ?_
    refine lv_iload hx hb dL_act_1156 (lv_at hl 7 rfl) ?_
    refine c_xV (rest := []) (E := "java/lang/IllegalStateException") hC hE hP hX (zA_x hZ hS) (lxb_checkIn_2 l S (nI f) (nI z) (nI y) hfl (xflt_n hra hf) ⟨ge1 (by omega) (by omega), le9 (by omega), nI_pos (by omega), le9 (by omega)⟩ (by rw [hra.sn]; exact nlt_40 z1 (by omega))) gc_RL_84 hd_X4_checkIn ⟨Nat.le_of_ble_eq_true rfl, Nat.le_of_ble_eq_true rfl⟩ 29 lw_29 rfl rfl hl.1 (Nat.le_of_ble_eq_true rfl) ⟨(Nat.le_of_ble_eq_true rfl), (Nat.le_of_ble_eq_true rfl)⟩ dL_act_1158 (fun ce q9 H1 h1 h2 h3 hP1 hz1 hk1 => ?_)
    refine vx_catch (own := RL) (E := "java/lang/IllegalStateException") (name := "java/lang/IllegalStateException") hown [⟨180, 186, 189, 34⟩, ⟨320, 329, 332, 34⟩, ⟨585, 592, 595, 34⟩, ⟨892, 900, 903, 34⟩, ⟨982, 991, 994, 34⟩] ⟨1152, 1163, 1166, 34⟩ [] htab (fun z hz => Or.inl (by
        simp only [List.mem_cons, List.not_mem_nil, or_false] at hz
        rcases hz with rfl | rfl | rfl | rfl | rfl <;> rfl)) rfl (by decide) (hts _ tw_602) (va_Nw.use rfl (hX.2.1 (.castable "java/lang/IllegalStateException" "java/lang/IllegalStateException") (by decide +kernel))) h1 h2 h3 ?_
    have hS := vS_grown hS hz1 hk1
    have hP := hP1
    refine lv_astore (lv' := [(10, .ref q9), (0, .ref x), (1, .ref (o 0)), (2, .int v), (3, .int (nI f)), (4, .int (nI ch)), (7, .int (-1)), (8, .int (nI z)), (9, .int (nI y))]) hx hb dL_act_1166 hl (by decide) rfl (fun ls hl => ?_)
    refine lv_iconst (v := (-1)) hx hb dL_act_1168 (by decide) ?_
    refine lv_istore (lv' := [(6, .int (-1)), (10, .ref q9), (0, .ref x), (1, .ref (o 0)), (2, .int v), (3, .int (nI f)), (4, .int (nI ch)), (7, .int (-1)), (8, .int (nI z)), (9, .int (nI y))]) hx hb dL_act_1169 hl (by decide) rfl (fun ls hl => ?_)
    refine lv_iload hx hb dL_act_1171 (lv_at hl 0 rfl) ?_
    refine lv_iload hx hb dL_act_1173 (lv_at hl 7 rfl) ?_
    refine lv_icmp_ne (tgt := 1182) hx hb dL_act_1175 (by decide) (fun c_ => absurd rfl c_) (fun c_8 => ?_)
    refine lv_iconst (v := 1) hx hb dL_act_1178 (by decide) ?_
    refine lv_goto (tgt := 1183) hx hb dL_act_1179 (by decide) ?_
    have e99 : (LW k a tr o fa ba x S U G T n nf (mL T n) R) = (LW k a tr o fa ba x S U G T n nf (mL T n) R) := rfl
    rw [← e99] at hP hD
    exact g_zret hx hb hr rfl hlk dL_act_1183 hP hD hS ⟨rfl, o, fa, ba, S, U, G, T, n, nf, hnf0, hra, hrb, hti, hgi, ho, rfl⟩ (Nat.le_of_ble_eq_true rfl) (Nat.le_of_ble_eq_true rfl)
set_option maxHeartbeats 1000000 in
set_option maxRecDepth 100000 in
theorem act_11 {p : Program} {l : Launch} {e : Env} {s : State} {m : MethodId} {args : Array Value} {below : List Frame} {meth : Method} {c : Code} {D : va_G} {k : Nat → ClassId} {A : Nat → Prop} {a tr o fa ba : Nat → Nat} {x q0 : Nat} {S U G T : HS} {n nf : Nat} {R : va_W} {ls : Array Slot} {H : Heap} {locs : List Loc} (hfl : l.stackTraces = false) (hC : CallFix p m c cL_act 13 s args lw_all RL) (hr : meth.sig.returnType = some .boolean) (hlk : meth.locks = false) (htab : c.exceptionTable.toList = tableOf actT) (hE : eK D k s) (hX : xK s) (hZ : zA A s s.heap) (hA : ∀ q : Nat, s.heap.size ≤ q → A q) (hnf0 : 0 < nf) (hra : RA S G n nf) (hrb : RB S T n) (hti : TI T n) (hgi : GI G T n nf) (ho : o 0 = q0) {v : Int32} {f ch : Nat} (hf : f < nf) (hch : ch < 4) (hl : lv_has ls 13 [(0, .ref x), (1, .ref (o 0)), (2, .int v), (3, .int (nI f)), (4, .int (nI ch)), (7, .int (-1))]) (hP : va_P D vwCl (LW k a tr o fa ba x S U G T n nf (mL T n) R) H) (hD : va_D A (LW k a tr o fa ba x S U G T n nf (mL T n) R)) (hS : va_S A s.heap H locs) : W p l e ({ frames := 8, cells := 40, slots := 1500, locals := 145 } : Room) s m args below meth c H locs 0 0 (MQ below (gQ D A (fun v9 w1 => v9 = some (.int 1) ∧ AS k a tr x q0 R w1)) args s 40 1500 A) (F0 m 1012 ls []) := by
  have hx := hC.1
  have hb := hC.2.1
  have hown : s.vm.findClass RL = some m.cls := hC.2.2.2.1
  have hts := hC.2.2.2.2
  have hn := hra.n40
  have hnf := hra.nf6
  have hLn : mL T n ≤ n := ct_le _ n
  refine lv_iconst (v := 1) hx hb dL_act_1012 (by decide) ?_
  refine lv_iload_n hx hb dL_act_1013 rfl (lv_at hl 2 rfl) ?_
  refine lv_bipush (v := 7) hx hb dL_act_1014 (by decide) ?_
  refine lv_ishr hx hb dL_act_1016 ?_
  refine lv_iload_n hx hb dL_act_1017 rfl (lv_at hl 2 rfl) ?_
  refine lv_bipush (v := 8) hx hb dL_act_1018 (by decide) ?_
  refine lv_ishr hx hb dL_act_1020 ?_
  refine lv_iconst (v := 3) hx hb dL_act_1021 (by decide) ?_
  refine c_pSi (rest := [.int (v >>> (7 &&& 31)), .int 1]) hC hE hP (metL_below l (v >>> (8 &&& 31)) 3 (by decide) (by decide)) gc_RL_15 hd_L_below ⟨rfl, rfl⟩ ⟨Nat.le_of_ble_eq_true rfl, Nat.le_of_ble_eq_true rfl⟩ rfl hl.1 (Nat.le_of_ble_eq_true rfl) ⟨(Nat.le_of_ble_eq_true rfl), (Nat.le_of_ble_eq_true rfl)⟩ dL_act_1022 ?_
  obtain ⟨j1, hj1, ej1⟩ := bel_of (N := 3) (v >>> (8 &&& 31)) (by decide) (by decide)
  refine w_top ej1 ?_
  by_cases z1 : j1 = 0
  · refine lv_if_ne (tgt := 1033) hx hb dL_act_1025 (by decide) (fun c_ => absurd (by rw [z1]; rfl) c_) (fun c_1 => ?_)
    refine lv_bipush (v := 9) hx hb dL_act_1028 (by decide) ?_
    refine lv_goto (tgt := 1035) hx hb dL_act_1030 (by decide) ?_
    refine c_pSi (rest := [.int 1]) hC hE hP (metL_below l (v >>> (7 &&& 31)) 9 (by decide) (by decide)) gc_RL_15 hd_L_below ⟨rfl, rfl⟩ ⟨Nat.le_of_ble_eq_true rfl, Nat.le_of_ble_eq_true rfl⟩ rfl hl.1 (Nat.le_of_ble_eq_true rfl) ⟨(Nat.le_of_ble_eq_true rfl), (Nat.le_of_ble_eq_true rfl)⟩ dL_act_1035 ?_
    obtain ⟨j2, hj2, ej2⟩ := bel_of (N := 9) (v >>> (7 &&& 31)) (by decide) (by decide)
    refine w_top ej2 ?_
    refine lv_iadd hx hb dL_act_1038 ?_
    refine w_top (show 1 + (nI j2) = nI (1 + j2) from (nI_add 1 j2)) ?_
    refine lv_istore (lv' := [(8, .int (nI (1 + j2))), (0, .ref x), (1, .ref (o 0)), (2, .int v), (3, .int (nI f)), (4, .int (nI ch)), (7, .int (-1))]) hx hb dL_act_1039 hl (by decide) rfl (fun ls hl => ?_)
    refine lv_iload_n hx hb dL_act_1041 rfl (lv_at hl 3 rfl) ?_
    refine lv_iconst (v := 3) hx hb dL_act_1042 (by decide) ?_
    refine lv_ishr hx hb dL_act_1043 ?_
    refine lv_iload_n hx hb dL_act_1044 rfl (lv_at hl 3 rfl) ?_
    refine lv_bipush (v := 6) hx hb dL_act_1045 (by decide) ?_
    refine lv_ishr hx hb dL_act_1047 ?_
    refine lv_iconst (v := 3) hx hb dL_act_1048 (by decide) ?_
    refine c_pSi (rest := [.int (v >>> (3 &&& 31))]) hC hE hP (metL_below l (v >>> (6 &&& 31)) 3 (by decide) (by decide)) gc_RL_15 hd_L_below ⟨rfl, rfl⟩ ⟨Nat.le_of_ble_eq_true rfl, Nat.le_of_ble_eq_true rfl⟩ rfl hl.1 (Nat.le_of_ble_eq_true rfl) ⟨(Nat.le_of_ble_eq_true rfl), (Nat.le_of_ble_eq_true rfl)⟩ dL_act_1049 ?_
    obtain ⟨j3, hj3, ej3⟩ := bel_of (N := 3) (v >>> (6 &&& 31)) (by decide) (by decide)
    refine w_top ej3 ?_
    by_cases z3 : j3 = 0
    · refine lv_if_ne (tgt := 1060) hx hb dL_act_1052 (by decide) (fun c_ => absurd (by rw [z3]; rfl) c_) (fun c_2 => ?_)
      refine lv_bipush (v := 10) hx hb dL_act_1055 (by decide) ?_
      refine lv_goto (tgt := 1062) hx hb dL_act_1057 (by decide) ?_
      refine c_pSi (rest := []) hC hE hP (metL_below l (v >>> (3 &&& 31)) 10 (by decide) (by decide)) gc_RL_15 hd_L_below ⟨rfl, rfl⟩ ⟨Nat.le_of_ble_eq_true rfl, Nat.le_of_ble_eq_true rfl⟩ rfl hl.1 (Nat.le_of_ble_eq_true rfl) ⟨(Nat.le_of_ble_eq_true rfl), (Nat.le_of_ble_eq_true rfl)⟩ dL_act_1062 ?_
      obtain ⟨j4, hj4, ej4⟩ := bel_of (N := 10) (v >>> (3 &&& 31)) (by decide) (by decide)
      refine w_top ej4 ?_
      refine lv_istore (lv' := [(9, .int (nI j4)), (8, .int (nI (1 + j2))), (0, .ref x), (1, .ref (o 0)), (2, .int v), (3, .int (nI f)), (4, .int (nI ch)), (7, .int (-1))]) hx hb dL_act_1065 hl (by decide) rfl (fun ls hl => ?_)
      exact act_11b hfl hC hr hlk htab hE hX hZ hA hnf0 hra hrb hti hgi ho hf hch (z := (1 + j2)) (y := j4) (by omega) (by omega) (by omega) (lv_sub hl [2, 3, 4, 5, 6, 7, 1, 0] rfl) hP hD hS
    · refine lv_if_ne (tgt := 1060) hx hb dL_act_1052 (by decide) (fun c_3 => ?_) (fun c_ => absurd c_ (fun z => z3 (nI_inj (b := 0) (by omega) (by decide) z)))
      refine lv_bipush (v := 6) hx hb dL_act_1060 (by decide) ?_
      refine c_pSi (rest := []) hC hE hP (metL_below l (v >>> (3 &&& 31)) 6 (by decide) (by decide)) gc_RL_15 hd_L_below ⟨rfl, rfl⟩ ⟨Nat.le_of_ble_eq_true rfl, Nat.le_of_ble_eq_true rfl⟩ rfl hl.1 (Nat.le_of_ble_eq_true rfl) ⟨(Nat.le_of_ble_eq_true rfl), (Nat.le_of_ble_eq_true rfl)⟩ dL_act_1062 ?_
      obtain ⟨j4, hj4, ej4⟩ := bel_of (N := 6) (v >>> (3 &&& 31)) (by decide) (by decide)
      refine w_top ej4 ?_
      refine lv_istore (lv' := [(9, .int (nI j4)), (8, .int (nI (1 + j2))), (0, .ref x), (1, .ref (o 0)), (2, .int v), (3, .int (nI f)), (4, .int (nI ch)), (7, .int (-1))]) hx hb dL_act_1065 hl (by decide) rfl (fun ls hl => ?_)
      exact act_11b hfl hC hr hlk htab hE hX hZ hA hnf0 hra hrb hti hgi ho hf hch (z := (1 + j2)) (y := j4) (by omega) (by omega) (by omega) (lv_sub hl [2, 3, 4, 5, 6, 7, 1, 0] rfl) hP hD hS
  · refine lv_if_ne (tgt := 1033) hx hb dL_act_1025 (by decide) (fun c_4 => ?_) (fun c_ => absurd c_ (fun z => z1 (nI_inj (b := 0) (by omega) (by decide) z)))
    refine lv_bipush (v := 7) hx hb dL_act_1033 (by decide) ?_
    refine c_pSi (rest := [.int 1]) hC hE hP (metL_below l (v >>> (7 &&& 31)) 7 (by decide) (by decide)) gc_RL_15 hd_L_below ⟨rfl, rfl⟩ ⟨Nat.le_of_ble_eq_true rfl, Nat.le_of_ble_eq_true rfl⟩ rfl hl.1 (Nat.le_of_ble_eq_true rfl) ⟨(Nat.le_of_ble_eq_true rfl), (Nat.le_of_ble_eq_true rfl)⟩ dL_act_1035 ?_
    obtain ⟨j2, hj2, ej2⟩ := bel_of (N := 7) (v >>> (7 &&& 31)) (by decide) (by decide)
    refine w_top ej2 ?_
    refine lv_iadd hx hb dL_act_1038 ?_
    refine w_top (show 1 + (nI j2) = nI (1 + j2) from (nI_add 1 j2)) ?_
    refine lv_istore (lv' := [(8, .int (nI (1 + j2))), (0, .ref x), (1, .ref (o 0)), (2, .int v), (3, .int (nI f)), (4, .int (nI ch)), (7, .int (-1))]) hx hb dL_act_1039 hl (by decide) rfl (fun ls hl => ?_)
    refine lv_iload_n hx hb dL_act_1041 rfl (lv_at hl 3 rfl) ?_
    refine lv_iconst (v := 3) hx hb dL_act_1042 (by decide) ?_
    refine lv_ishr hx hb dL_act_1043 ?_
    refine lv_iload_n hx hb dL_act_1044 rfl (lv_at hl 3 rfl) ?_
    refine lv_bipush (v := 6) hx hb dL_act_1045 (by decide) ?_
    refine lv_ishr hx hb dL_act_1047 ?_
    refine lv_iconst (v := 3) hx hb dL_act_1048 (by decide) ?_
    refine c_pSi (rest := [.int (v >>> (3 &&& 31))]) hC hE hP (metL_below l (v >>> (6 &&& 31)) 3 (by decide) (by decide)) gc_RL_15 hd_L_below ⟨rfl, rfl⟩ ⟨Nat.le_of_ble_eq_true rfl, Nat.le_of_ble_eq_true rfl⟩ rfl hl.1 (Nat.le_of_ble_eq_true rfl) ⟨(Nat.le_of_ble_eq_true rfl), (Nat.le_of_ble_eq_true rfl)⟩ dL_act_1049 ?_
    obtain ⟨j3, hj3, ej3⟩ := bel_of (N := 3) (v >>> (6 &&& 31)) (by decide) (by decide)
    refine w_top ej3 ?_
    by_cases z3 : j3 = 0
    · refine lv_if_ne (tgt := 1060) hx hb dL_act_1052 (by decide) (fun c_ => absurd (by rw [z3]; rfl) c_) (fun c_5 => ?_)
      refine lv_bipush (v := 10) hx hb dL_act_1055 (by decide) ?_
      refine lv_goto (tgt := 1062) hx hb dL_act_1057 (by decide) ?_
      refine c_pSi (rest := []) hC hE hP (metL_below l (v >>> (3 &&& 31)) 10 (by decide) (by decide)) gc_RL_15 hd_L_below ⟨rfl, rfl⟩ ⟨Nat.le_of_ble_eq_true rfl, Nat.le_of_ble_eq_true rfl⟩ rfl hl.1 (Nat.le_of_ble_eq_true rfl) ⟨(Nat.le_of_ble_eq_true rfl), (Nat.le_of_ble_eq_true rfl)⟩ dL_act_1062 ?_
      obtain ⟨j4, hj4, ej4⟩ := bel_of (N := 10) (v >>> (3 &&& 31)) (by decide) (by decide)
      refine w_top ej4 ?_
      refine lv_istore (lv' := [(9, .int (nI j4)), (8, .int (nI (1 + j2))), (0, .ref x), (1, .ref (o 0)), (2, .int v), (3, .int (nI f)), (4, .int (nI ch)), (7, .int (-1))]) hx hb dL_act_1065 hl (by decide) rfl (fun ls hl => ?_)
      exact act_11b hfl hC hr hlk htab hE hX hZ hA hnf0 hra hrb hti hgi ho hf hch (z := (1 + j2)) (y := j4) (by omega) (by omega) (by omega) (lv_sub hl [2, 3, 4, 5, 6, 7, 1, 0] rfl) hP hD hS
    · refine lv_if_ne (tgt := 1060) hx hb dL_act_1052 (by decide) (fun c_6 => ?_) (fun c_ => absurd c_ (fun z => z3 (nI_inj (b := 0) (by omega) (by decide) z)))
      refine lv_bipush (v := 6) hx hb dL_act_1060 (by decide) ?_
      refine c_pSi (rest := []) hC hE hP (metL_below l (v >>> (3 &&& 31)) 6 (by decide) (by decide)) gc_RL_15 hd_L_below ⟨rfl, rfl⟩ ⟨Nat.le_of_ble_eq_true rfl, Nat.le_of_ble_eq_true rfl⟩ rfl hl.1 (Nat.le_of_ble_eq_true rfl) ⟨(Nat.le_of_ble_eq_true rfl), (Nat.le_of_ble_eq_true rfl)⟩ dL_act_1062 ?_
      obtain ⟨j4, hj4, ej4⟩ := bel_of (N := 6) (v >>> (3 &&& 31)) (by decide) (by decide)
      refine w_top ej4 ?_
      refine lv_istore (lv' := [(9, .int (nI j4)), (8, .int (nI (1 + j2))), (0, .ref x), (1, .ref (o 0)), (2, .int v), (3, .int (nI f)), (4, .int (nI ch)), (7, .int (-1))]) hx hb dL_act_1065 hl (by decide) rfl (fun ls hl => ?_)
      exact act_11b hfl hC hr hlk htab hE hX hZ hA hnf0 hra hrb hti hgi ho hf hch (z := (1 + j2)) (y := j4) (by omega) (by omega) (by omega) (lv_sub hl [2, 3, 4, 5, 6, 7, 1, 0] rfl) hP hD hS
set_option maxHeartbeats 1000000 in
set_option maxRecDepth 100000 in
theorem act_15b {p : Program} {l : Launch} {e : Env} {s : State} {m : MethodId} {args : Array Value} {below : List Frame} {meth : Method} {c : Code} {D : va_G} {k : Nat → ClassId} {A : Nat → Prop} {a tr o fa ba : Nat → Nat} {x q0 : Nat} {S U G T : HS} {n nf : Nat} {R : va_W} {ls : Array Slot} {H : Heap} {locs : List Loc} (hfl : l.stackTraces = false) (hC : CallFix p m c cL_act 13 s args lw_all RL) (hr : meth.sig.returnType = some .boolean) (hlk : meth.locks = false) (htab : c.exceptionTable.toList = tableOf actT) (hE : eK D k s) (hX : xK s) (hZ : zA A s s.heap) (hA : ∀ q : Nat, s.heap.size ≤ q → A q) (hnf0 : 0 < nf) (hra : RA S G n nf) (hrb : RB S T n) (hti : TI T n) (hgi : GI G T n nf) (ho : o 0 = q0) {v : Int32} {f ch : Nat} (hf : f < nf) (hch : ch < 4) {N : Nat} (hN1 : 1 ≤ N) (hN : N ≤ 30) (hl : lv_has ls 13 [(0, .ref x), (1, .ref (o 0)), (2, .int v), (3, .int (nI f)), (4, .int (nI ch)), (7, .int (-1))]) (hP : va_P D vwCl (LW k a tr o fa ba x S U G T n nf (mL T n) R) H) (hD : va_D A (LW k a tr o fa ba x S U G T n nf (mL T n) R)) (hS : va_S A s.heap H locs) : W p l e ({ frames := 8, cells := 40, slots := 1500, locals := 145 } : Room) s m args below meth c H locs 0 0 (MQ below (gQ D A (fun v9 w1 => v9 = some (.int 1) ∧ AS k a tr x q0 R w1)) args s 40 1500 A) (F0 m 1210 ls [.int (nI N)]) := by
  have hx := hC.1
  have hb := hC.2.1
  have hown : s.vm.findClass RL = some m.cls := hC.2.2.2.1
  have hts := hC.2.2.2.2
  have hn := hra.n40
  have hnf := hra.nf6
  have hLn : mL T n ≤ n := ct_le _ n
  obtain ⟨ha9, hb9, hc9⟩ := go_rel hra hrb N
  obtain ⟨d9, hp9, ht9, -⟩ := go_ps hra hrb hti N
  refine lv_istore (lv' := [(8, .int (nI N)), (0, .ref x), (1, .ref (o 0)), (2, .int v), (3, .int (nI f)), (4, .int (nI ch)), (7, .int (-1))]) hx hb dL_act_1210 hl (by decide) rfl (fun ls hl => ?_)
  refine lv_aload_n hx hb dL_act_1212 rfl (lv_at hl 1 rfl) ?_
  refine lv_iload hx hb dL_act_1213 (lv_at hl 0 rfl) ?_
  refine c_mVi (rest := []) hC hE hP hD hS (ws' := (LW k a tr o fa ba x (xGo S N).2 U G T n nf (mL T n) R)) lw_same (lx_pass l S N (by omega) ⟨ge1 (by omega) (by omega), le60 (by omega)⟩) gc_RL_88 hd_X4_pass ⟨rfl, rfl⟩ ⟨Nat.le_of_ble_eq_true rfl, Nat.le_of_ble_eq_true rfl⟩ 29 lw_29 rfl rfl hl.1 (Nat.le_of_ble_eq_true rfl) ⟨(Nat.le_of_ble_eq_true rfl), (Nat.le_of_ble_eq_true rfl)⟩ dL_act_1215 (fun H locs hP hD hS => ?_)
  refine w_top (show (xGo S N).1 = (mGo G T N).1 from hc9) ?_
  refine lv_aload_n hx hb dL_act_1218 rfl (lv_at hl 2 rfl) ?_
  refine lv_iload hx hb dL_act_1219 (lv_at hl 0 rfl) ?_
  refine c_gV (rest := [.int (mGo G T N).1]) hC hE hP hD hS hA (metX5_go_ l G T N (by omega) hra hrb hti) (fun _ _ _ => trivial) (fun _ _ _ _ _ => trivial) gc_RL_91 hd_X5_go_ ⟨rfl, rfl⟩ ⟨Nat.le_of_ble_eq_true rfl, Nat.le_of_ble_eq_true rfl⟩ 59 lw_59 rfl rfl hl.1 (Nat.le_of_ble_eq_true rfl) ⟨(Nat.le_of_ble_eq_true rfl), (Nat.le_of_ble_eq_true rfl)⟩ dL_act_1221 (fun v9 w9 H locs hp hP hD hS => ?_)
  obtain ⟨rfl, o9, ho9, rfl⟩ := hp
  have hP : va_P D vwCl (LW k a tr o9 fa ba x (xGo S N).2 U G (mGo G T N).2 n nf (mL (mGo G T N).2 n) R) H := hP
  have hD : va_D A (LW k a tr o9 fa ba x (xGo S N).2 U G (mGo G T N).2 n nf (mL (mGo G T N).2 n) R) := hD
  refine lv_icmp_ne (tgt := 1231) hx hb dL_act_1224 (by decide) (fun c_ => absurd rfl c_) (fun c_1 => ?_)
  refine lv_iconst (v := 1) hx hb dL_act_1227 (by decide) ?_
  refine lv_goto (tgt := 1232) hx hb dL_act_1228 (by decide) ?_
  have e99 : (LW k a tr o9 fa ba x (xGo S N).2 U G (mGo G T N).2 n nf (mL (mGo G T N).2 n) R) = (LW k a tr o9 fa ba x (xGo S N).2 U G (mGo G T N).2 n nf (mL (mGo G T N).2 n) R) := rfl
  rw [← e99] at hP hD
  exact g_zret hx hb hr rfl hlk dL_act_1232 hP hD hS ⟨rfl, o9, fa, ba, (xGo S N).2, U, G, (mGo G T N).2, n, nf, hnf0, ha9, hb9, ht9, (go_gi hgi hp9.1), (ho9.trans ho), rfl⟩ (Nat.le_of_ble_eq_true rfl) (Nat.le_of_ble_eq_true rfl)
set_option maxHeartbeats 1000000 in
set_option maxRecDepth 100000 in
theorem act_15 {p : Program} {l : Launch} {e : Env} {s : State} {m : MethodId} {args : Array Value} {below : List Frame} {meth : Method} {c : Code} {D : va_G} {k : Nat → ClassId} {A : Nat → Prop} {a tr o fa ba : Nat → Nat} {x q0 : Nat} {S U G T : HS} {n nf : Nat} {R : va_W} {ls : Array Slot} {H : Heap} {locs : List Loc} (hfl : l.stackTraces = false) (hC : CallFix p m c cL_act 13 s args lw_all RL) (hr : meth.sig.returnType = some .boolean) (hlk : meth.locks = false) (htab : c.exceptionTable.toList = tableOf actT) (hE : eK D k s) (hX : xK s) (hZ : zA A s s.heap) (hA : ∀ q : Nat, s.heap.size ≤ q → A q) (hnf0 : 0 < nf) (hra : RA S G n nf) (hrb : RB S T n) (hti : TI T n) (hgi : GI G T n nf) (ho : o 0 = q0) {v : Int32} {f ch : Nat} (hf : f < nf) (hch : ch < 4) (hl : lv_has ls 13 [(0, .ref x), (1, .ref (o 0)), (2, .int v), (3, .int (nI f)), (4, .int (nI ch)), (7, .int (-1))]) (hP : va_P D vwCl (LW k a tr o fa ba x S U G T n nf (mL T n) R) H) (hD : va_D A (LW k a tr o fa ba x S U G T n nf (mL T n) R)) (hS : va_S A s.heap H locs) : W p l e ({ frames := 8, cells := 40, slots := 1500, locals := 145 } : Room) s m args below meth c H locs 0 0 (MQ below (gQ D A (fun v9 w1 => v9 = some (.int 1) ∧ AS k a tr x q0 R w1)) args s 40 1500 A) (F0 m 1184 ls []) := by
  have hx := hC.1
  have hb := hC.2.1
  have hown : s.vm.findClass RL = some m.cls := hC.2.2.2.1
  have hts := hC.2.2.2.2
  have hn := hra.n40
  have hnf := hra.nf6
  have hLn : mL T n ≤ n := ct_le _ n
  refine lv_iconst (v := 1) hx hb dL_act_1184 (by decide) ?_
  refine lv_iload_n hx hb dL_act_1185 rfl (lv_at hl 2 rfl) ?_
  refine lv_iconst (v := 5) hx hb dL_act_1186 (by decide) ?_
  refine lv_ishr hx hb dL_act_1187 ?_
  refine lv_iload_n hx hb dL_act_1188 rfl (lv_at hl 2 rfl) ?_
  refine lv_bipush (v := 8) hx hb dL_act_1189 (by decide) ?_
  refine lv_ishr hx hb dL_act_1191 ?_
  refine lv_iconst (v := 5) hx hb dL_act_1192 (by decide) ?_
  refine c_pSi (rest := [.int (v >>> (5 &&& 31)), .int 1]) hC hE hP (metL_below l (v >>> (8 &&& 31)) 5 (by decide) (by decide)) gc_RL_15 hd_L_below ⟨rfl, rfl⟩ ⟨Nat.le_of_ble_eq_true rfl, Nat.le_of_ble_eq_true rfl⟩ rfl hl.1 (Nat.le_of_ble_eq_true rfl) ⟨(Nat.le_of_ble_eq_true rfl), (Nat.le_of_ble_eq_true rfl)⟩ dL_act_1193 ?_
  obtain ⟨j1, hj1, ej1⟩ := bel_of (N := 5) (v >>> (8 &&& 31)) (by decide) (by decide)
  refine w_top ej1 ?_
  by_cases z1 : j1 = 0
  · refine lv_if_ne (tgt := 1204) hx hb dL_act_1196 (by decide) (fun c_ => absurd (by rw [z1]; rfl) c_) (fun c_1 => ?_)
    refine lv_bipush (v := 30) hx hb dL_act_1199 (by decide) ?_
    refine lv_goto (tgt := 1206) hx hb dL_act_1201 (by decide) ?_
    refine c_pSi (rest := [.int 1]) hC hE hP (metL_below l (v >>> (5 &&& 31)) 30 (by decide) (by decide)) gc_RL_15 hd_L_below ⟨rfl, rfl⟩ ⟨Nat.le_of_ble_eq_true rfl, Nat.le_of_ble_eq_true rfl⟩ rfl hl.1 (Nat.le_of_ble_eq_true rfl) ⟨(Nat.le_of_ble_eq_true rfl), (Nat.le_of_ble_eq_true rfl)⟩ dL_act_1206 ?_
    obtain ⟨j2, hj2, ej2⟩ := bel_of (N := 30) (v >>> (5 &&& 31)) (by decide) (by decide)
    refine w_top ej2 ?_
    refine lv_iadd hx hb dL_act_1209 ?_
    refine w_top (show 1 + (nI j2) = nI (1 + j2) from (nI_add 1 j2)) ?_
    exact act_15b hfl hC hr hlk htab hE hX hZ hA hnf0 hra hrb hti hgi ho hf hch (N := (1 + j2)) (by omega) (by omega) (lv_sub hl [0, 1, 2, 3, 4, 5] rfl) hP hD hS
  · refine lv_if_ne (tgt := 1204) hx hb dL_act_1196 (by decide) (fun c_2 => ?_) (fun c_ => absurd c_ (fun z => z1 (nI_inj (b := 0) (by omega) (by decide) z)))
    refine lv_bipush (v := 7) hx hb dL_act_1204 (by decide) ?_
    refine c_pSi (rest := [.int 1]) hC hE hP (metL_below l (v >>> (5 &&& 31)) 7 (by decide) (by decide)) gc_RL_15 hd_L_below ⟨rfl, rfl⟩ ⟨Nat.le_of_ble_eq_true rfl, Nat.le_of_ble_eq_true rfl⟩ rfl hl.1 (Nat.le_of_ble_eq_true rfl) ⟨(Nat.le_of_ble_eq_true rfl), (Nat.le_of_ble_eq_true rfl)⟩ dL_act_1206 ?_
    obtain ⟨j2, hj2, ej2⟩ := bel_of (N := 7) (v >>> (5 &&& 31)) (by decide) (by decide)
    refine w_top ej2 ?_
    refine lv_iadd hx hb dL_act_1209 ?_
    refine w_top (show 1 + (nI j2) = nI (1 + j2) from (nI_add 1 j2)) ?_
    exact act_15b hfl hC hr hlk htab hE hX hZ hA hnf0 hra hrb hti hgi ho hf hch (N := (1 + j2)) (by omega) (by omega) (lv_sub hl [0, 1, 2, 3, 4, 5] rfl) hP hD hS
