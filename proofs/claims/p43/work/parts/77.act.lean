theorem Met_ofWH {l : Launch} {y : MethodName} {ws ws' : List Cond} {rm : Room} {Pc : Array Value → State → Prop} {Qc : Array Value → State → Outcome → State → Prop} {mc ms : Nat} {free : Addr → Prop} {cc : ByteArray} {maxL : Nat} {ret : Option FieldType} {hh : List (Nat × Nat × Nat × Nat)}
    (hy : plainName y.cls = true) (hw : ws = Cond.codeWith y cc maxL ret hh :: ws')
    (body : ∀ p e s m args below meth c s₁, BodyLoose p l y (headSpec ws rm) cc maxL ret e s m args below meth c s₁ → c.maxLocals = maxL → Pc args s →
      W p l e (headSpec ws rm).room s m args below meth c s.heap [] 0 0 (MQ below Qc args s mc ms free) (entryFrame m args maxL)) : Met l y ws rm Pc Qc mc ms free := by
  refine MetFree.of_bodyS (code := cc) (maxLocals := maxL) (ret := ret) hy ?_ ?_
  · intro args s m h hn
    obtain ⟨m9, meth, c, hn9, h1, h2, h3, h4, -, h5, h6, -⟩ := Cond.codeWith_spec (atoms_spec (ws := ws) h _ (by rw [hw]; exact List.mem_cons_self))
    cases hn.symm.trans hn9
    exact ⟨meth, c, h1, h2, h3, h4, h5, h6⟩
  · intro p e s m args below meth c s₁ B hml hP _
    have hh0 : s₁.heap = s.heap := by rw [B.state]; rfl
    obtain ⟨t, a1, o, b1, b2, b3⟩ := body p e s m args below meth c s₁ B hml hP s₁ hh0 (Stand.of_body B)
    exact ⟨t, o, a1, b1, b2, b3⟩
abbrev wsA : List Cond := Cond.codeWith yL_act cL_act 13 (some FieldType.boolean) actT :: lw_all

set_option maxHeartbeats 1000000 in
set_option maxRecDepth 100000 in
theorem act_8z {p : Program} {l : Launch} {e : Env} {s : State} {m : MethodId} {args : Array Value} {below : List Frame} {meth : Method} {c : Code} {D : va_G} {k : Nat → ClassId} {A : Nat → Prop} {a tr o fa ba : Nat → Nat} {x q0 : Nat} {S U G T : HS} {n nf : Nat} {R : va_W} {ls : Array Slot} {H : Heap} {locs : List Loc} (hfl : l.stackTraces = false) (hC : CallFix p m c cL_act 13 s args lw_all RL) (hr : meth.sig.returnType = some .boolean) (hlk : meth.locks = false) (htab : c.exceptionTable.toList = tableOf actT) (hE : eK D k s) (hX : xK s) (hZ : zA A s s.heap) (hA : ∀ q : Nat, s.heap.size ≤ q → A q) (hnf0 : 0 < nf) (hra : RA S G n nf) (hrb : RB S T n) (hti : TI T n) (hgi : GI G T n nf) (ho : o 0 = q0) {v : Int32} {f ch : Nat} (hf : f < nf) (hch : ch < 4) (hl : lv_has ls 13 [(0, .ref x), (1, .ref (o 0)), (2, .int v), (3, .int (nI f)), (4, .int (nI ch)), (5, .int (-1)), (7, .int (-1))]) (hP : va_P D vwCl (LW k a tr o fa ba x S U G T n nf (mL T n) R) H) (hD : va_D A (LW k a tr o fa ba x S U G T n nf (mL T n) R)) (hS : va_S A s.heap H locs) : W p l e ({ frames := 8, cells := 40, slots := 1500, locals := 145 } : Room) s m args below meth c H locs 0 0 (MQ below (gQ D A (fun v9 w1 => v9 = some (.int 1) ∧ AS k a tr x q0 R w1)) args s 40 1500 A) (F0 m 714 ls []) := by
  have hx := hC.1
  have hb := hC.2.1
  have hown : s.vm.findClass RL = some m.cls := hC.2.2.2.1
  have hts := hC.2.2.2.2
  have hn := hra.n40
  have hnf := hra.nf6
  have hLn : mL T n ≤ n := ct_le _ n
  refine lv_iload hx hb dL_act_714 (lv_at hl 5 rfl) ?_
  refine lv_if_ge (tgt := 721) hx hb dL_act_716 (by decide) (fun c_ => absurd c_ (by decide)) (fun c_1 => ?_)
  refine lv_iconst (v := 1) hx hb dL_act_719 (by decide) ?_
  have e99 : (LW k a tr o fa ba x S U G T n nf (mL T n) R) = (LW k a tr o fa ba x S U G T n nf (mL T n) R) := rfl
  rw [← e99] at hP hD
  exact g_zret hx hb hr rfl hlk dL_act_720 hP hD hS ⟨rfl, o, fa, ba, S, U, G, T, n, nf, hnf0, hra, hrb, hti, hgi, ho, rfl⟩ (Nat.le_of_ble_eq_true rfl) (Nat.le_of_ble_eq_true rfl)
set_option maxHeartbeats 1000000 in
set_option maxRecDepth 100000 in
theorem act_all {p : Program} {l : Launch} {e : Env} {s : State} {m : MethodId} {args : Array Value} {below : List Frame} {meth : Method} {c : Code} {D : va_G} {k : Nat → ClassId} {A : Nat → Prop} {a tr o fa ba : Nat → Nat} {x q0 : Nat} {S U G T : HS} {n nf : Nat} {R : va_W} {ls : Array Slot} {H : Heap} {locs : List Loc} (hfl : l.stackTraces = false) (hC : CallFix p m c cL_act 13 s args lw_all RL) (hr : meth.sig.returnType = some .boolean) (hlk : meth.locks = false) (htab : c.exceptionTable.toList = tableOf actT) (hE : eK D k s) (hX : xK s) (hZ : zA A s s.heap) (hA : ∀ q : Nat, s.heap.size ≤ q → A q) (hnf0 : 0 < nf) (hra : RA S G n nf) (hrb : RB S T n) (hti : TI T n) (hgi : GI G T n nf) (ho : o 0 = q0) {v : Int32} (hl : lv_has ls 13 [(0, .ref x), (1, .ref (o 0)), (2, .int v)]) (hP : va_P D vwCl (LW k a tr o fa ba x S U G T n nf (mL T n) R) H) (hD : va_D A (LW k a tr o fa ba x S U G T n nf (mL T n) R)) (hS : va_S A s.heap H locs) : W p l e ({ frames := 8, cells := 40, slots := 1500, locals := 145 } : Room) s m args below meth c H locs 0 0 (MQ below (gQ D A (fun v9 w1 => v9 = some (.int 1) ∧ AS k a tr x q0 R w1)) args s 40 1500 A) (F0 m 0 ls []) := by
  have hx := hC.1
  have hb := hC.2.1
  have hown : s.vm.findClass RL = some m.cls := hC.2.2.2.1
  have hts := hC.2.2.2.2
  have hn := hra.n40
  have hnf := hra.nf6
  have hLn : mL T n ≤ n := ct_le _ n
  refine lv_iload_n hx hb dL_act_0 rfl (lv_at hl 2 rfl) ?_
  refine lv_iconst (v := 4) hx hb dL_act_1 (by decide) ?_
  refine lv_ishr hx hb dL_act_2 ?_
  refine lv_aload_n hx hb dL_act_3 rfl (lv_at hl 1 rfl) ?_
  refine va_get (D := D) (ci := 5) (v := .ref (o 2)) (C := RX5) (T := TX5) (N := 6) hx hb hts tu_5 hown hE.1 hP 59 lw_59 rfl 3 (by decide) (hts _ tw_738) (fun _ h9 => h9) rfl dL_act_4 ?_
  refine k_olen hx hb hE hP 61 lw_61 dL_act_7 ?_
  refine c_pSi (rest := []) hC hE hP (metL_below l (v >>> (4 &&& 31)) nf (by omega) (by omega)) gc_RL_15 hd_L_below ⟨rfl, rfl⟩ ⟨Nat.le_of_ble_eq_true rfl, Nat.le_of_ble_eq_true rfl⟩ rfl hl.1 (Nat.le_of_ble_eq_true rfl) ⟨(Nat.le_of_ble_eq_true rfl), (Nat.le_of_ble_eq_true rfl)⟩ dL_act_8 ?_
  obtain ⟨j1, hj1, ej1⟩ := bel_of (N := nf) (v >>> (4 &&& 31)) (by omega) (by omega)
  refine w_top ej1 ?_
  refine lv_istore_n (lv' := [(3, .int (nI j1)), (0, .ref x), (1, .ref (o 0)), (2, .int v)]) hx hb dL_act_11 rfl hl (by decide) rfl (fun ls hl => ?_)
  refine lv_iload_n hx hb dL_act_12 rfl (lv_at hl 3 rfl) ?_
  refine lv_bipush (v := 6) hx hb dL_act_13 (by decide) ?_
  refine lv_ishr hx hb dL_act_15 ?_
  refine lv_iconst (v := 4) hx hb dL_act_16 (by decide) ?_
  refine c_pSi (rest := []) hC hE hP (metL_below l (v >>> (6 &&& 31)) 4 (by decide) (by decide)) gc_RL_15 hd_L_below ⟨rfl, rfl⟩ ⟨Nat.le_of_ble_eq_true rfl, Nat.le_of_ble_eq_true rfl⟩ rfl hl.1 (Nat.le_of_ble_eq_true rfl) ⟨(Nat.le_of_ble_eq_true rfl), (Nat.le_of_ble_eq_true rfl)⟩ dL_act_17 ?_
  obtain ⟨j2, hj2, ej2⟩ := bel_of (N := 4) (v >>> (6 &&& 31)) (by decide) (by decide)
  refine w_top ej2 ?_
  refine lv_istore (lv' := [(4, .int (nI j2)), (3, .int (nI j1)), (0, .ref x), (1, .ref (o 0)), (2, .int v)]) hx hb dL_act_20 hl (by decide) rfl (fun ls hl => ?_)
  refine lv_aload_n hx hb dL_act_22 rfl (lv_at hl 3 rfl) ?_
  refine va_get (D := D) (ci := 5) (v := .ref (o 3)) (C := RX5) (T := TX5) (N := 6) hx hb hts tu_5 hown hE.1 hP 59 lw_59 rfl 4 (by decide) (hts _ tw_740) (fun _ h9 => h9) rfl dL_act_23 ?_
  refine k_olen hx hb hE hP 62 lw_62 dL_act_26 ?_
  have hf := hj1
  have hch := hj2
  by_cases z1 : n = 0
  · refine lv_if_ne (tgt := 34) hx hb dL_act_27 (by decide) (fun c_ => absurd (by rw [z1]; rfl) c_) (fun c_1 => ?_)
    refine lv_iconst (v := (-1)) hx hb dL_act_30 (by decide) ?_
    refine lv_goto (tgt := 45) hx hb dL_act_31 (by decide) ?_
    refine lv_istore (lv' := [(5, .int (-1)), (4, .int (nI j2)), (3, .int (nI j1)), (0, .ref x), (1, .ref (o 0)), (2, .int v)]) hx hb dL_act_45 hl (by decide) rfl (fun ls hl => ?_)
    refine lv_iconst (v := (-1)) hx hb dL_act_47 (by decide) ?_
    refine lv_istore (lv' := [(7, .int (-1)), (5, .int (-1)), (4, .int (nI j2)), (3, .int (nI j1)), (0, .ref x), (1, .ref (o 0)), (2, .int v)]) hx hb dL_act_48 hl (by decide) rfl (fun ls hl => ?_)
    refine lv_iload_n hx hb dL_act_50 rfl (lv_at hl 6 rfl) ?_
    refine lv_bipush (v := 20) hx hb dL_act_51 (by decide) ?_
    refine c_pSi (rest := []) hC hE hP (metL_below l v 20 (by decide) (by decide)) gc_RL_15 hd_L_below ⟨rfl, rfl⟩ ⟨Nat.le_of_ble_eq_true rfl, Nat.le_of_ble_eq_true rfl⟩ rfl hl.1 (Nat.le_of_ble_eq_true rfl) ⟨(Nat.le_of_ble_eq_true rfl), (Nat.le_of_ble_eq_true rfl)⟩ dL_act_53 ?_
    obtain ⟨j3, hj3, ej3⟩ := bel_of (N := 20) v (by decide) (by decide)
    refine w_top ej3 ?_
    have hs : j3 = 0 ∨ j3 = 1 ∨ j3 = 2 ∨ j3 = 3 ∨ j3 = 4 ∨ j3 = 5 ∨ j3 = 6 ∨ j3 = 7 ∨ j3 = 8 ∨ j3 = 9 ∨ j3 = 10 ∨ j3 = 11 ∨ j3 = 12 ∨ j3 = 13 ∨ j3 = 14 ∨ 15 ≤ j3 := by omega
    rcases hs with rfl | rfl | rfl | rfl | rfl | rfl | rfl | rfl | rfl | rfl | rfl | rfl | rfl | rfl | rfl | hs
    · refine lv_tableIn (x := nI 0) (off := 76) (tgt := 132) hx hb dL_act_56 (by decide) (by decide) rfl (by decide) ?_
      exact act_0 hfl hC hr hlk htab hE hX hZ hA hnf0 hra hrb hti hgi ho (f := j1) (ch := j2) hf hch (lv_sub hl [4, 5, 6, 3, 2, 0] rfl) hP hD hS
    · refine lv_tableIn (x := nI 1) (off := 151) (tgt := 207) hx hb dL_act_56 (by decide) (by decide) rfl (by decide) ?_
      exact act_1 hfl hC hr hlk htab hE hX hZ hA hnf0 hra hrb hti hgi ho (f := j1) (ch := j2) hf hch (lv_sub hl [4, 5, 6, 3, 2, 0] rfl) hP hD hS
    · refine lv_tableIn (x := nI 2) (off := 151) (tgt := 207) hx hb dL_act_56 (by decide) (by decide) rfl (by decide) ?_
      exact act_1 hfl hC hr hlk htab hE hX hZ hA hnf0 hra hrb hti hgi ho (f := j1) (ch := j2) hf hch (lv_sub hl [4, 5, 6, 3, 2, 0] rfl) hP hD hS
    · refine lv_tableIn (x := nI 3) (off := 151) (tgt := 207) hx hb dL_act_56 (by decide) (by decide) rfl (by decide) ?_
      exact act_1 hfl hC hr hlk htab hE hX hZ hA hnf0 hra hrb hti hgi ho (f := j1) (ch := j2) hf hch (lv_sub hl [4, 5, 6, 3, 2, 0] rfl) hP hD hS
    · refine lv_tableIn (x := nI 4) (off := 294) (tgt := 350) hx hb dL_act_56 (by decide) (by decide) rfl (by decide) ?_
      exact act_4 hfl hC hr hlk htab hE hX hZ hA hnf0 hra hrb hti hgi ho (f := j1) (ch := j2) hf hch (lv_sub hl [4, 5, 6, 3, 2, 0] rfl) hP hD hS
    · refine lv_tableIn (x := nI 5) (off := 333) (tgt := 389) hx hb dL_act_56 (by decide) (by decide) rfl (by decide) ?_
      exact act_5 hfl hC hr hlk htab hE hX hZ hA hnf0 hra hrb hti hgi ho (f := j1) (ch := j2) hf hch (lv_sub hl [4, 5, 6, 3, 2, 0] rfl) hP hD hS
    · refine lv_tableIn (x := nI 6) (off := 397) (tgt := 453) hx hb dL_act_56 (by decide) (by decide) rfl (by decide) ?_
      exact act_6 hfl hC hr hlk htab hE hX hZ hA hnf0 hra hrb hti hgi ho (f := j1) (ch := j2) hf hch (lv_sub hl [4, 5, 6, 3, 2, 0] rfl) hP hD hS
    · refine lv_tableIn (x := nI 7) (off := 557) (tgt := 613) hx hb dL_act_56 (by decide) (by decide) rfl (by decide) ?_
      exact act_7 hfl hC hr hlk htab hE hX hZ hA hnf0 hra hrb hti hgi ho (f := j1) (ch := j2) hf hch (lv_sub hl [4, 5, 6, 3, 2, 0] rfl) hP hD hS
    · refine lv_tableIn (x := nI 8) (off := 658) (tgt := 714) hx hb dL_act_56 (by decide) (by decide) rfl (by decide) ?_
      exact act_8z hfl hC hr hlk htab hE hX hZ hA hnf0 hra hrb hti hgi ho (f := j1) (ch := j2) hf hch (lv_sub hl [4, 5, 6, 3, 2, 1, 0] rfl) hP hD hS
    · refine lv_tableIn (x := nI 9) (off := 658) (tgt := 714) hx hb dL_act_56 (by decide) (by decide) rfl (by decide) ?_
      exact act_8z hfl hC hr hlk htab hE hX hZ hA hnf0 hra hrb hti hgi ho (f := j1) (ch := j2) hf hch (lv_sub hl [4, 5, 6, 3, 2, 1, 0] rfl) hP hD hS
    · refine lv_tableIn (x := nI 10) (off := 658) (tgt := 714) hx hb dL_act_56 (by decide) (by decide) rfl (by decide) ?_
      exact act_8z hfl hC hr hlk htab hE hX hZ hA hnf0 hra hrb hti hgi ho (f := j1) (ch := j2) hf hch (lv_sub hl [4, 5, 6, 3, 2, 1, 0] rfl) hP hD hS
    · refine lv_tableIn (x := nI 11) (off := 956) (tgt := 1012) hx hb dL_act_56 (by decide) (by decide) rfl (by decide) ?_
      exact act_11 hfl hC hr hlk htab hE hX hZ hA hnf0 hra hrb hti hgi ho (f := j1) (ch := j2) hf hch (lv_sub hl [4, 5, 6, 3, 2, 0] rfl) hP hD hS
    · refine lv_tableIn (x := nI 12) (off := 956) (tgt := 1012) hx hb dL_act_56 (by decide) (by decide) rfl (by decide) ?_
      exact act_11 hfl hC hr hlk htab hE hX hZ hA hnf0 hra hrb hti hgi ho (f := j1) (ch := j2) hf hch (lv_sub hl [4, 5, 6, 3, 2, 0] rfl) hP hD hS
    · refine lv_tableIn (x := nI 13) (off := 956) (tgt := 1012) hx hb dL_act_56 (by decide) (by decide) rfl (by decide) ?_
      exact act_11 hfl hC hr hlk htab hE hX hZ hA hnf0 hra hrb hti hgi ho (f := j1) (ch := j2) hf hch (lv_sub hl [4, 5, 6, 3, 2, 0] rfl) hP hD hS
    · refine lv_tableIn (x := nI 14) (off := 956) (tgt := 1012) hx hb dL_act_56 (by decide) (by decide) rfl (by decide) ?_
      exact act_11 hfl hC hr hlk htab hE hX hZ hA hnf0 hra hrb hti hgi ho (f := j1) (ch := j2) hf hch (lv_sub hl [4, 5, 6, 3, 2, 0] rfl) hP hD hS
    · refine lv_tableOut (x := nI j3) (tgt := 1184) hx hb dL_act_56 (Or.inr (by rw [nI_toInt (by omega)]; omega)) (by decide) ?_
      exact act_15 hfl hC hr hlk htab hE hX hZ hA hnf0 hra hrb hti hgi ho (f := j1) (ch := j2) hf hch (lv_sub hl [4, 5, 6, 3, 2, 0] rfl) hP hD hS
  · refine lv_if_ne (tgt := 34) hx hb dL_act_27 (by decide) (fun c_2 => ?_) (fun c_ => absurd c_ (fun z => z1 (nI_inj (b := 0) (by omega) (by decide) z)))
    refine lv_iload_n hx hb dL_act_34 rfl (lv_at hl 4 rfl) ?_
    refine lv_iconst (v := 5) hx hb dL_act_35 (by decide) ?_
    refine lv_ishr hx hb dL_act_36 ?_
    refine lv_aload_n hx hb dL_act_37 rfl (lv_at hl 3 rfl) ?_
    refine va_get (D := D) (ci := 5) (v := .ref (o 3)) (C := RX5) (T := TX5) (N := 6) hx hb hts tu_5 hown hE.1 hP 59 lw_59 rfl 4 (by decide) (hts _ tw_740) (fun _ h9 => h9) rfl dL_act_38 ?_
    refine k_olen hx hb hE hP 62 lw_62 dL_act_41 ?_
    refine c_pSi (rest := []) hC hE hP (metL_below l (v >>> (5 &&& 31)) n (by omega) (by omega)) gc_RL_15 hd_L_below ⟨rfl, rfl⟩ ⟨Nat.le_of_ble_eq_true rfl, Nat.le_of_ble_eq_true rfl⟩ rfl hl.1 (Nat.le_of_ble_eq_true rfl) ⟨(Nat.le_of_ble_eq_true rfl), (Nat.le_of_ble_eq_true rfl)⟩ dL_act_42 ?_
    obtain ⟨j3, hj3, ej3⟩ := bel_of (N := n) (v >>> (5 &&& 31)) (by omega) (by omega)
    refine w_top ej3 ?_
    refine lv_istore (lv' := [(5, .int (nI j3)), (4, .int (nI j2)), (3, .int (nI j1)), (0, .ref x), (1, .ref (o 0)), (2, .int v)]) hx hb dL_act_45 hl (by decide) rfl (fun ls hl => ?_)
    refine lv_iconst (v := (-1)) hx hb dL_act_47 (by decide) ?_
    refine lv_istore (lv' := [(7, .int (-1)), (5, .int (nI j3)), (4, .int (nI j2)), (3, .int (nI j1)), (0, .ref x), (1, .ref (o 0)), (2, .int v)]) hx hb dL_act_48 hl (by decide) rfl (fun ls hl => ?_)
    refine lv_iload_n hx hb dL_act_50 rfl (lv_at hl 6 rfl) ?_
    refine lv_bipush (v := 20) hx hb dL_act_51 (by decide) ?_
    refine c_pSi (rest := []) hC hE hP (metL_below l v 20 (by decide) (by decide)) gc_RL_15 hd_L_below ⟨rfl, rfl⟩ ⟨Nat.le_of_ble_eq_true rfl, Nat.le_of_ble_eq_true rfl⟩ rfl hl.1 (Nat.le_of_ble_eq_true rfl) ⟨(Nat.le_of_ble_eq_true rfl), (Nat.le_of_ble_eq_true rfl)⟩ dL_act_53 ?_
    obtain ⟨j4, hj4, ej4⟩ := bel_of (N := 20) v (by decide) (by decide)
    refine w_top ej4 ?_
    have hs : j4 = 0 ∨ j4 = 1 ∨ j4 = 2 ∨ j4 = 3 ∨ j4 = 4 ∨ j4 = 5 ∨ j4 = 6 ∨ j4 = 7 ∨ j4 = 8 ∨ j4 = 9 ∨ j4 = 10 ∨ j4 = 11 ∨ j4 = 12 ∨ j4 = 13 ∨ j4 = 14 ∨ 15 ≤ j4 := by omega
    rcases hs with rfl | rfl | rfl | rfl | rfl | rfl | rfl | rfl | rfl | rfl | rfl | rfl | rfl | rfl | rfl | hs
    · refine lv_tableIn (x := nI 0) (off := 76) (tgt := 132) hx hb dL_act_56 (by decide) (by decide) rfl (by decide) ?_
      exact act_0 hfl hC hr hlk htab hE hX hZ hA hnf0 hra hrb hti hgi ho (f := j1) (ch := j2) hf hch (lv_sub hl [4, 5, 6, 3, 2, 0] rfl) hP hD hS
    · refine lv_tableIn (x := nI 1) (off := 151) (tgt := 207) hx hb dL_act_56 (by decide) (by decide) rfl (by decide) ?_
      exact act_1 hfl hC hr hlk htab hE hX hZ hA hnf0 hra hrb hti hgi ho (f := j1) (ch := j2) hf hch (lv_sub hl [4, 5, 6, 3, 2, 0] rfl) hP hD hS
    · refine lv_tableIn (x := nI 2) (off := 151) (tgt := 207) hx hb dL_act_56 (by decide) (by decide) rfl (by decide) ?_
      exact act_1 hfl hC hr hlk htab hE hX hZ hA hnf0 hra hrb hti hgi ho (f := j1) (ch := j2) hf hch (lv_sub hl [4, 5, 6, 3, 2, 0] rfl) hP hD hS
    · refine lv_tableIn (x := nI 3) (off := 151) (tgt := 207) hx hb dL_act_56 (by decide) (by decide) rfl (by decide) ?_
      exact act_1 hfl hC hr hlk htab hE hX hZ hA hnf0 hra hrb hti hgi ho (f := j1) (ch := j2) hf hch (lv_sub hl [4, 5, 6, 3, 2, 0] rfl) hP hD hS
    · refine lv_tableIn (x := nI 4) (off := 294) (tgt := 350) hx hb dL_act_56 (by decide) (by decide) rfl (by decide) ?_
      exact act_4 hfl hC hr hlk htab hE hX hZ hA hnf0 hra hrb hti hgi ho (f := j1) (ch := j2) hf hch (lv_sub hl [4, 5, 6, 3, 2, 0] rfl) hP hD hS
    · refine lv_tableIn (x := nI 5) (off := 333) (tgt := 389) hx hb dL_act_56 (by decide) (by decide) rfl (by decide) ?_
      exact act_5 hfl hC hr hlk htab hE hX hZ hA hnf0 hra hrb hti hgi ho (f := j1) (ch := j2) hf hch (lv_sub hl [4, 5, 6, 3, 2, 0] rfl) hP hD hS
    · refine lv_tableIn (x := nI 6) (off := 397) (tgt := 453) hx hb dL_act_56 (by decide) (by decide) rfl (by decide) ?_
      exact act_6 hfl hC hr hlk htab hE hX hZ hA hnf0 hra hrb hti hgi ho (f := j1) (ch := j2) hf hch (lv_sub hl [4, 5, 6, 3, 2, 0] rfl) hP hD hS
    · refine lv_tableIn (x := nI 7) (off := 557) (tgt := 613) hx hb dL_act_56 (by decide) (by decide) rfl (by decide) ?_
      exact act_7 hfl hC hr hlk htab hE hX hZ hA hnf0 hra hrb hti hgi ho (f := j1) (ch := j2) hf hch (lv_sub hl [4, 5, 6, 3, 2, 0] rfl) hP hD hS
    · refine lv_tableIn (x := nI 8) (off := 658) (tgt := 714) hx hb dL_act_56 (by decide) (by decide) rfl (by decide) ?_
      exact act_8 hfl hC hr hlk htab hE hX hZ hA hnf0 hra hrb hti hgi ho (f := j1) (ch := j2) hf hch (b := j3) hj3 (lv_sub hl [4, 5, 6, 3, 2, 1, 0] rfl) hP hD hS
    · refine lv_tableIn (x := nI 9) (off := 658) (tgt := 714) hx hb dL_act_56 (by decide) (by decide) rfl (by decide) ?_
      exact act_8 hfl hC hr hlk htab hE hX hZ hA hnf0 hra hrb hti hgi ho (f := j1) (ch := j2) hf hch (b := j3) hj3 (lv_sub hl [4, 5, 6, 3, 2, 1, 0] rfl) hP hD hS
    · refine lv_tableIn (x := nI 10) (off := 658) (tgt := 714) hx hb dL_act_56 (by decide) (by decide) rfl (by decide) ?_
      exact act_8 hfl hC hr hlk htab hE hX hZ hA hnf0 hra hrb hti hgi ho (f := j1) (ch := j2) hf hch (b := j3) hj3 (lv_sub hl [4, 5, 6, 3, 2, 1, 0] rfl) hP hD hS
    · refine lv_tableIn (x := nI 11) (off := 956) (tgt := 1012) hx hb dL_act_56 (by decide) (by decide) rfl (by decide) ?_
      exact act_11 hfl hC hr hlk htab hE hX hZ hA hnf0 hra hrb hti hgi ho (f := j1) (ch := j2) hf hch (lv_sub hl [4, 5, 6, 3, 2, 0] rfl) hP hD hS
    · refine lv_tableIn (x := nI 12) (off := 956) (tgt := 1012) hx hb dL_act_56 (by decide) (by decide) rfl (by decide) ?_
      exact act_11 hfl hC hr hlk htab hE hX hZ hA hnf0 hra hrb hti hgi ho (f := j1) (ch := j2) hf hch (lv_sub hl [4, 5, 6, 3, 2, 0] rfl) hP hD hS
    · refine lv_tableIn (x := nI 13) (off := 956) (tgt := 1012) hx hb dL_act_56 (by decide) (by decide) rfl (by decide) ?_
      exact act_11 hfl hC hr hlk htab hE hX hZ hA hnf0 hra hrb hti hgi ho (f := j1) (ch := j2) hf hch (lv_sub hl [4, 5, 6, 3, 2, 0] rfl) hP hD hS
    · refine lv_tableIn (x := nI 14) (off := 956) (tgt := 1012) hx hb dL_act_56 (by decide) (by decide) rfl (by decide) ?_
      exact act_11 hfl hC hr hlk htab hE hX hZ hA hnf0 hra hrb hti hgi ho (f := j1) (ch := j2) hf hch (lv_sub hl [4, 5, 6, 3, 2, 0] rfl) hP hD hS
    · refine lv_tableOut (x := nI j4) (tgt := 1184) hx hb dL_act_56 (Or.inr (by rw [nI_toInt (by omega)]; omega)) (by decide) ?_
      exact act_15 hfl hC hr hlk htab hE hX hZ hA hnf0 hra hrb hti hgi ho (f := j1) (ch := j2) hf hch (lv_sub hl [4, 5, 6, 3, 2, 0] rfl) hP hD hS
set_option maxRecDepth 100000 in
theorem metL_act (l : Launch) (hfl : l.stackTraces = false) {D : va_G} {k : Nat → ClassId} {a tr : Nat → Nat} {x q0 : Nat} {R w : va_W} {sz : Nat} (v : Int32) (hw9 : AS k a tr x q0 R w) : GM l yL_act wsA ({ frames := 8, cells := 40, slots := 1500, locals := 145 } : Room) 40 1500 D k w sz [.ref x, .ref q0, .int v] (fun U => xK U ∧ zA (va_A w sz) U U.heap) (fun v9 w1 => v9 = some (.int 1) ∧ AS k a tr x q0 R w1) := by
  obtain ⟨o, fa, ba, S, U, G, T, n, nf, hnf0, hra, hrb, hti, hgi, ho, rfl⟩ := hw9
  refine Met_ofWH (cc := cL_act) (maxL := 13) (ret := some FieldType.boolean) (hh := actT) rfl rfl ?_
  intro p e s m args below meth c s₁ B hml hv
  obtain ⟨rfl, rfl, hE, hP, hD, hX, hZ⟩ := hv
  have hts := atoms_spec (ws := wsA) B.pre
  rw [lg_entry_eq]
  have hl := lv_entry (n := 13) ([.ref x, .ref q0, .int v] : List Value) (Nat.le_of_ble_eq_true rfl)
  generalize (lg_sl ([.ref x, .ref q0, .int v] : List Value) ++ List.replicate (13 - (lg_sl ([.ref x, .ref q0, .int v] : List Value)).length) Slot.unset).toArray = ls at hl ⊢
  have hl : lv_has ls 13 [(0, .ref x), (1, .ref (o 0)), (2, .int v)] := by rw [ho]; exact hl
  exact act_all hfl ⟨B.exec, B.bytes, hml, findClass_of_methodNamed B.named, fun w h => hts w (List.mem_cons_of_mem _ h)⟩ B.returns B.notSynchronized (vx_table (x := yL_act) B (hts _ List.mem_cons_self)) hE hX hZ (fun q h => Or.inr h) hnf0 hra hrb hti hgi ho hl hP hD.self va_S.rf

