/-! the law's helpers: what they are told, and what is behind them -/
def xwW (k : Nat → ClassId) (a tr : Nat → Nat) (x o : Nat) (S T : HS) (og : Nat → Int64) (R : va_W) : va_W := hw k a S ++ ((x, .inr (4, [.ref (a 0), .ref (tr 0)])) :: (hw k tr T ++ ((o, .inl (k 2, 1, .inr (.inl og))) :: R)))
theorem lo_59 {k : Nat → ClassId} {a tr : Nat → Nat} {x o : Nat} {S T : HS} {og : Nat → Int64} {R : va_W} : (xwW k a tr x o S T og R)[59]? = some (o, .inl (k 2, 1, .inr (.inl og))) := rfl
theorem lo_29 {k : Nat → ClassId} {a tr : Nat → Nat} {x o : Nat} {S T : HS} {og : Nat → Int64} {R : va_W} : (xwW k a tr x o S T og R)[29]? = some (x, .inr (4, [.ref (a 0), .ref (tr 0)])) := rfl
theorem lo_set {k : Nat → ClassId} {a tr : Nat → Nat} {x o : Nat} {S T : HS} {og g : Nat → Int64} {R : va_W} : (xwW k a tr x o S T og R).set 59 (o, .inl (k 2, 1, .inr (.inl g))) = xwW k a tr x o S T g R := rfl
theorem lo_same {k : Nat → ClassId} {a tr : Nat → Nat} {x o : Nat} {S T S2 T2 : HS} {og og2 : Nat → Int64} {R : va_W} : (xwW k a tr x o S2 T2 og2 R).map Prod.fst = (xwW k a tr x o S T og R).map Prod.fst := rfl
def lP (D : va_G) (k : Nat → ClassId) (w : va_W) (U : State) : Prop := eK D k U ∧ va_P D vwCl w U.heap ∧ va_D (fun _ => True) w ∧ xK U ∧ xZ U U.heap
theorem lP_blind {D : va_G} {k : Nat → ClassId} {w : va_W} {av : List Value} : FrameBlind (va_Pc av (lP D k w)) := fun _ U g mk h => ⟨h.1, eK_calling h.2.1, h.2.2.1, h.2.2.2.1, xK_calling h.2.2.2.2.1, xZ_moved (u := U) (Vm.Alike.refl U.vm) h.2.2.2.2.2⟩
abbrev wsW_ (y : MethodName) (cc : ByteArray) (n : Nat) (hh : List (Nat × Nat × Nat × Nat)) : List Cond := Cond.codeWith y cc n (some .int) hh :: lw_all
abbrev LM (l : Launch) (y : MethodName) (cc : ByteArray) (n : Nat) (hh : List (Nat × Nat × Nat × Nat)) (rm : Room) (D : va_G) (k : Nat → ClassId) (w : va_W) (av : List Value) (kc : Int32) (w' : va_W) : Prop := Met l y (wsW_ y cc n hh) (rx rm) (va_Pc av (lP D k w)) (mQ D (some (.int kc)) w' (va_in w)) 1 6 (va_in w)
theorem Met_ofWH {l : Launch} {y : MethodName} {ws ws' : List Cond} {rm : Room} {Pc : Array Value → State → Prop} {Qc : Array Value → State → Outcome → State → Prop} {mc ms : Nat} {free : Addr → Prop} {cc : ByteArray} {maxL : Nat} {ret : Option FieldType} {hh : List (Nat × Nat × Nat × Nat)}
    (hy : plainName y.cls = true) (hw : ws = Cond.codeWith y cc maxL ret hh :: ws')
    (body : ∀ p e s m args below meth c s₁, BodyLoose p l y (headSpec ws rm) cc maxL ret e s m args below meth c s₁ → c.maxLocals = maxL → Pc args s →
      W p l e (headSpec ws rm).room s m args below meth c s.heap [] 0 0 (MQ below Qc args s mc ms free) (entryFrame m args maxL)) : Met l y ws rm Pc Qc mc ms free := by
  refine MetFree.of_bodyS (code := cc) (maxLocals := maxL) (ret := ret) hy ?_ ?_
  · intro args s m h hn
    obtain ⟨m9, meth, c, hn9, h1, h2, h3, h4, -, h5, h6, -⟩ := Cond.codeWith_spec (atoms_spec (ws := ws) h _ (by rw [hw]; exact List.mem_cons_self))
    cases hn.symm.trans hn9
    exact ⟨meth, c, h1, h2, h3, h4, h5, h6⟩
  · intro p e s m args below meth c s₁ B hml hP _
    have hh0 : s₁.heap = s.heap := by rw [B.state]; rfl
    obtain ⟨t, a1, o, b1, b2, b3⟩ := body p e s m args below meth c s₁ B hml hP s₁ hh0 (Stand.of_body B)
    exact ⟨t, o, a1, b1, b2, b3⟩
theorem LM_of {l : Launch} {y : MethodName} {cc : ByteArray} {n : Nat} {hh : List (Nat × Nat × Nat × Nat)} {rm : Room} {D : va_G} {k : Nat → ClassId} {w w' : va_W} {av : List Value} {kc : Int32} (hy : plainName y.cls = true) (hlen : (lg_sl av).length ≤ n)
    (body : ∀ (p : Program) (e : Env) (s : State) (m : MethodId) (below : List Frame) (meth : Method) (c : Code), CallFix p m c cc n s av.toArray lw_all y.cls → meth.sig.returnType = some .int → meth.locks = false → c.exceptionTable.toList = tableOf hh → eK D k s → va_P D vwCl w s.heap → va_D (va_in w) w → xK s → xZ s s.heap → va_S (va_in w) s.heap s.heap [] → ∀ ls, lv_has ls n (lv_args 0 av) →
      W p l e (rx rm) s m av.toArray below meth c s.heap [] 0 0 (MQ below (mQ D (some (.int kc)) w' (va_in w)) av.toArray s 1 6 (va_in w)) (F0 m 0 ls [])) : LM l y cc n hh rm D k w av kc w' := by
  refine Met_ofWH (cc := cc) (maxL := n) (ret := some .int) (hh := hh) hy rfl ?_
  intro p e s m args below meth c s₁ B hml hv
  obtain ⟨rfl, hE, hP, hD, hX, hZ⟩ := hv
  have hts := atoms_spec (ws := wsW_ y cc n hh) B.pre
  rw [lg_entry_eq]
  exact body p e s m below meth c ⟨B.exec, B.bytes, hml, findClass_of_methodNamed B.named, fun w h => hts w (List.mem_cons_of_mem _ h)⟩ B.returns B.notSynchronized (vx_table (x := y) B (hts _ List.mem_cons_self)) hE hP (va_in_D hD) hX hZ va_S.rf _ (lv_entry av hlen)

set_option maxHeartbeats 4000000 in
set_option maxRecDepth 100000 in
theorem wokL_addFlight (l : Launch) {D : va_G} {k : Nat → ClassId} {a tr : Nat → Nat} {x o : Nat} {R : va_W} (S T : HS) (og : Nat → Int64) (hk0 : S 0 3 < 6) : LM l yL_addFlight cL_addFlight 3 [(0, 8, 11, 13)] rmL_addFlight D k (xwW k a tr x o S T og R) [.ref x, .ref o] 0 (xwW k a tr x o (xAddFl S) T (vp_updL og 0 (S 0 3).toInt64) R) := by
  refine LM_of rfl (Nat.le_of_ble_eq_true rfl) ?_
  intro p e s m below meth c hC hr hlk htab hE hP hD hX hZ hS ls hl
  have hC : CallFix p m c cL_addFlight 3 s _ lw_all RL := hC
  have hx := hC.1
  have hb := hC.2.1
  have hown : s.vm.findClass RL = some m.cls := hC.2.2.2.1
  have hts := hC.2.2.2.2
  have hl : lv_has ls 3 [(0, .ref x), (1, .ref o)] := hl
  refine lv_aload_n hx hb dL_addFlight_0 rfl (lv_at hl 1 rfl) ?_
  refine lv_iconst (v := 0) hx hb dL_addFlight_1 (by decide) ?_
  refine lv_aload_n hx hb dL_addFlight_2 rfl (lv_at hl 0 rfl) ?_
  refine c_mVi (rest := [.int 0, .ref o]) hC hE hP hD hS (ws' := (xwW k a tr x o (xAddFl S) T og R)) lo_same (metX4_addFlight l S  hk0) gc_RL_7 hd_X4_addFlight ⟨rfl, rfl⟩ ⟨Nat.le_of_ble_eq_true rfl, Nat.le_of_ble_eq_true rfl⟩ 29 lo_29 rfl rfl hl.1 (Nat.le_of_ble_eq_true rfl) ⟨Nat.le_of_ble_eq_true rfl, Nat.le_of_ble_eq_true rfl⟩ dL_addFlight_3 (fun H locs hP hD hS => ?_)
  refine lv_i2l hx hb dL_addFlight_6 rfl ?_
  refine va_last (q0 := 59) (t0 := 2) hx hb hE.1 hP hD hS lo_59 rfl (vp_in_nI (n := 0) (N := 1) (by decide) (by decide)) dL_addFlight_7 (fun H locs hP hD hS => ?_)
  have hP : va_P D vwCl (xwW k a tr x o (xAddFl S) T (vp_updL og 0 ((S 0 3).toInt64)) R) H := hP
  have hD : va_D (va_in (xwW k a tr x o S T og R)) (xwW k a tr x o (xAddFl S) T (vp_updL og 0 ((S 0 3).toInt64)) R) := hD
  refine lv_goto (tgt := 14) hx hb dL_addFlight_8 (by decide) ?_
  refine lv_iconst (v := 0) hx hb dL_addFlight_14 (by decide) ?_
  refine W.widen (k := 1) (n := 6) (Nat.le_of_ble_eq_true rfl) (Nat.le_of_ble_eq_true rfl) ?_
  exact W.iret hx hb hr (fun t9 ht hW => ⟨rfl, by rw [ht]; exact hP, hS.F ht⟩) hS.2.2 dL_addFlight_15

set_option maxHeartbeats 4000000 in
set_option maxRecDepth 100000 in
theorem wokL_bagAt (l : Launch) {D : va_G} {k : Nat → ClassId} {a tr : Nat → Nat} {x o : Nat} {R : va_W} (S T : HS) (og : Nat → Int64) (q : Int32) (hk0 : ((¬ (q < 0)) ∧ q < 12)) : LM l yL_bagAt cL_bagAt 4 [(0, 9, 12, 19)] rmL_bagAt D k (xwW k a tr x o S T og R) [.ref x, .int q, .ref o] 0 (xwW k a tr x o S T (vp_updL og 0 (rd 12 (S 12) q).toInt64) R) := by
  refine LM_of rfl (Nat.le_of_ble_eq_true rfl) ?_
  intro p e s m below meth c hC hr hlk htab hE hP hD hX hZ hS ls hl
  have hC : CallFix p m c cL_bagAt 4 s _ lw_all RL := hC
  have hx := hC.1
  have hb := hC.2.1
  have hown : s.vm.findClass RL = some m.cls := hC.2.2.2.1
  have hts := hC.2.2.2.2
  have hl : lv_has ls 4 [(0, .ref x), (1, .int q), (2, .ref o)] := hl
  refine lv_aload_n hx hb dL_bagAt_0 rfl (lv_at hl 2 rfl) ?_
  refine lv_iconst (v := 0) hx hb dL_bagAt_1 (by decide) ?_
  refine lv_aload_n hx hb dL_bagAt_2 rfl (lv_at hl 0 rfl) ?_
  refine lv_iload_n hx hb dL_bagAt_3 rfl (lv_at hl 1 rfl) ?_
  refine c_pVi (rest := [.int 0, .ref o]) hC hE hP (metX4_bagAt l S q hk0) gc_RL_74 hd_X4_bagAt ⟨rfl, rfl⟩ ⟨Nat.le_of_ble_eq_true rfl, Nat.le_of_ble_eq_true rfl⟩ 29 lo_29 rfl rfl hl.1 (Nat.le_of_ble_eq_true rfl) ⟨Nat.le_of_ble_eq_true rfl, Nat.le_of_ble_eq_true rfl⟩ dL_bagAt_4 ?_
  refine lv_i2l hx hb dL_bagAt_7 rfl ?_
  refine va_last (q0 := 59) (t0 := 2) hx hb hE.1 hP hD hS lo_59 rfl (vp_in_nI (n := 0) (N := 1) (by decide) (by decide)) dL_bagAt_8 (fun H locs hP hD hS => ?_)
  have hP : va_P D vwCl (xwW k a tr x o S T (vp_updL og 0 ((rd 12 (S 12) q).toInt64)) R) H := hP
  have hD : va_D (va_in (xwW k a tr x o S T og R)) (xwW k a tr x o S T (vp_updL og 0 ((rd 12 (S 12) q).toInt64)) R) := hD
  refine lv_goto (tgt := 15) hx hb dL_bagAt_9 (by decide) ?_
  refine lv_iconst (v := 0) hx hb dL_bagAt_15 (by decide) ?_
  refine W.widen (k := 1) (n := 6) (Nat.le_of_ble_eq_true rfl) (Nat.le_of_ble_eq_true rfl) ?_
  exact W.iret hx hb hr (fun t9 ht hW => ⟨rfl, by rw [ht]; exact hP, hS.F ht⟩) hS.2.2 dL_bagAt_16

set_option maxHeartbeats 4000000 in
set_option maxRecDepth 100000 in
theorem wokL_bagsIn (l : Launch) {D : va_G} {k : Nat → ClassId} {a tr : Nat → Nat} {x o : Nat} {R : va_W} (S T : HS) (og : Nat → Int64) (ch : Int32) (hk0 : xCh ch) : LM l yL_bagsIn cL_bagsIn 4 [(0, 9, 12, 19)] rmL_bagsIn D k (xwW k a tr x o S T og R) [.ref x, .int ch, .ref o] 0 (xwW k a tr x o S T (vp_updL og 0 (nI (ct (fun j_ => S 7 j_ = ch) 40)).toInt64) R) := by
  refine LM_of rfl (Nat.le_of_ble_eq_true rfl) ?_
  intro p e s m below meth c hC hr hlk htab hE hP hD hX hZ hS ls hl
  have hC : CallFix p m c cL_bagsIn 4 s _ lw_all RL := hC
  have hx := hC.1
  have hb := hC.2.1
  have hown : s.vm.findClass RL = some m.cls := hC.2.2.2.1
  have hts := hC.2.2.2.2
  have hl : lv_has ls 4 [(0, .ref x), (1, .int ch), (2, .ref o)] := hl
  refine lv_aload_n hx hb dL_bagsIn_0 rfl (lv_at hl 2 rfl) ?_
  refine lv_iconst (v := 0) hx hb dL_bagsIn_1 (by decide) ?_
  refine lv_aload_n hx hb dL_bagsIn_2 rfl (lv_at hl 0 rfl) ?_
  refine lv_iload_n hx hb dL_bagsIn_3 rfl (lv_at hl 1 rfl) ?_
  refine c_pVi (rest := [.int 0, .ref o]) hC hE hP (metX4_bagsIn l S ch hk0) gc_RL_77 hd_X4_bagsIn ⟨rfl, rfl⟩ ⟨Nat.le_of_ble_eq_true rfl, Nat.le_of_ble_eq_true rfl⟩ 29 lo_29 rfl rfl hl.1 (Nat.le_of_ble_eq_true rfl) ⟨Nat.le_of_ble_eq_true rfl, Nat.le_of_ble_eq_true rfl⟩ dL_bagsIn_4 ?_
  refine lv_i2l hx hb dL_bagsIn_7 rfl ?_
  refine va_last (q0 := 59) (t0 := 2) hx hb hE.1 hP hD hS lo_59 rfl (vp_in_nI (n := 0) (N := 1) (by decide) (by decide)) dL_bagsIn_8 (fun H locs hP hD hS => ?_)
  have hP : va_P D vwCl (xwW k a tr x o S T (vp_updL og 0 ((nI (ct (fun j_ => S 7 j_ = ch) 40)).toInt64)) R) H := hP
  have hD : va_D (va_in (xwW k a tr x o S T og R)) (xwW k a tr x o S T (vp_updL og 0 ((nI (ct (fun j_ => S 7 j_ = ch) 40)).toInt64)) R) := hD
  refine lv_goto (tgt := 15) hx hb dL_bagsIn_9 (by decide) ?_
  refine lv_iconst (v := 0) hx hb dL_bagsIn_15 (by decide) ?_
  refine W.widen (k := 1) (n := 6) (Nat.le_of_ble_eq_true rfl) (Nat.le_of_ble_eq_true rfl) ?_
  exact W.iret hx hb hr (fun t9 ht hW => ⟨rfl, by rw [ht]; exact hP, hS.F ht⟩) hS.2.2 dL_bagsIn_16

set_option maxHeartbeats 4000000 in
set_option maxRecDepth 100000 in
theorem wokL_bestChute (l : Launch) {D : va_G} {k : Nat → ClassId} {a tr : Nat → Nat} {x o : Nat} {R : va_W} (S T : HS) (og : Nat → Int64) (f : Int32) (N : Nat) (n : Nat) (hn4 : S 0 4 = nI n) (hn40 : n ≤ 40) (hN : N < 2 ^ 31) (hk0 : xFlt S f) (hk1 : xM60 (nI N)) (hk2 : (¬ (xGone S f))) : LM l yL_bestChute cL_bestChute 5 [(0, 10, 13, 19), (0, 10, 17, 25), (0, 10, 21, 13)] rmL_bestChute D k (xwW k a tr x o S T og R) [.ref x, .int f, .int (nI N), .ref o] 0 (xwW k a tr x o S (xbT S T f N 4) (vp_updL og 0 ((xBest S f N n 4).1).toInt64) R) := by
  refine LM_of rfl (Nat.le_of_ble_eq_true rfl) ?_
  intro p e s m below meth c hC hr hlk htab hE hP hD hX hZ hS ls hl
  have hC : CallFix p m c cL_bestChute 5 s _ lw_all RL := hC
  have hx := hC.1
  have hb := hC.2.1
  have hown : s.vm.findClass RL = some m.cls := hC.2.2.2.1
  have hts := hC.2.2.2.2
  have hl : lv_has ls 5 [(0, .ref x), (1, .int f), (2, .int (nI N)), (3, .ref o)] := hl
  refine lv_aload_n hx hb dL_bestChute_0 rfl (lv_at hl 3 rfl) ?_
  refine lv_iconst (v := 0) hx hb dL_bestChute_1 (by decide) ?_
  refine lv_aload_n hx hb dL_bestChute_2 rfl (lv_at hl 0 rfl) ?_
  refine lv_iload_n hx hb dL_bestChute_3 rfl (lv_at hl 1 rfl) ?_
  refine lv_iload_n hx hb dL_bestChute_4 rfl (lv_at hl 2 rfl) ?_
  refine c_mVi (rest := [.int 0, .ref o]) hC hE hP hD hS (ws' := (xwW k a tr x o S (xbT S T f N 4) og R)) lo_same (metX4_bestChute l S T f N n hn4 hn40 hN hk0 hk1 hk2) gc_RL_104 hd_X4_bestChute ⟨rfl, rfl⟩ ⟨Nat.le_of_ble_eq_true rfl, Nat.le_of_ble_eq_true rfl⟩ 29 lo_29 rfl rfl hl.1 (Nat.le_of_ble_eq_true rfl) ⟨Nat.le_of_ble_eq_true rfl, Nat.le_of_ble_eq_true rfl⟩ dL_bestChute_5 (fun H locs hP hD hS => ?_)
  refine lv_i2l hx hb dL_bestChute_8 rfl ?_
  refine va_last (q0 := 59) (t0 := 2) hx hb hE.1 hP hD hS lo_59 rfl (vp_in_nI (n := 0) (N := 1) (by decide) (by decide)) dL_bestChute_9 (fun H locs hP hD hS => ?_)
  have hP : va_P D vwCl (xwW k a tr x o S (xbT S T f N 4) (vp_updL og 0 (((xBest S f N n 4).1).toInt64)) R) H := hP
  have hD : va_D (va_in (xwW k a tr x o S T og R)) (xwW k a tr x o S (xbT S T f N 4) (vp_updL og 0 (((xBest S f N n 4).1).toInt64)) R) := hD
  refine lv_goto (tgt := 25) hx hb dL_bestChute_10 (by decide) ?_
  refine lv_iconst (v := 0) hx hb dL_bestChute_25 (by decide) ?_
  refine W.widen (k := 1) (n := 6) (Nat.le_of_ble_eq_true rfl) (Nat.le_of_ble_eq_true rfl) ?_
  exact W.iret hx hb hr (fun t9 ht hW => ⟨rfl, by rw [ht]; exact hP, hS.F ht⟩) hS.2.2 dL_bestChute_26

set_option maxHeartbeats 4000000 in
set_option maxRecDepth 100000 in
theorem wokL_carry (l : Launch) {D : va_G} {k : Nat → ClassId} {a tr : Nat → Nat} {x o : Nat} {R : va_W} (S T : HS) (og : Nat → Int64) (b : Int32) (hk0 : xBag S b) (hk1 : xHand S b) (hk2 : (¬ (xGone S (rd 40 (S 3) b)))) (hk3 : (xCh (rd 6 (S 1) (rd 40 (S 3) b)) ∧ xRoom S (rd 6 (S 1) (rd 40 (S 3) b)))) : LM l yL_carry cL_carry 4 [(0, 9, 12, 19), (0, 9, 15, 13)] rmL_carry D k (xwW k a tr x o S T og R) [.ref x, .int b, .ref o] 0 (xwW k a tr x o (xPut S b (rd 6 (S 1) (rd 40 (S 3) b))) T (vp_updL og 0 (rd 6 (S 1) (rd 40 (S 3) b)).toInt64) R) := by
  refine LM_of rfl (Nat.le_of_ble_eq_true rfl) ?_
  intro p e s m below meth c hC hr hlk htab hE hP hD hX hZ hS ls hl
  have hC : CallFix p m c cL_carry 4 s _ lw_all RL := hC
  have hx := hC.1
  have hb := hC.2.1
  have hown : s.vm.findClass RL = some m.cls := hC.2.2.2.1
  have hts := hC.2.2.2.2
  have hl : lv_has ls 4 [(0, .ref x), (1, .int b), (2, .ref o)] := hl
  refine lv_aload_n hx hb dL_carry_0 rfl (lv_at hl 2 rfl) ?_
  refine lv_iconst (v := 0) hx hb dL_carry_1 (by decide) ?_
  refine lv_aload_n hx hb dL_carry_2 rfl (lv_at hl 0 rfl) ?_
  refine lv_iload_n hx hb dL_carry_3 rfl (lv_at hl 1 rfl) ?_
  refine c_mVi (rest := [.int 0, .ref o]) hC hE hP hD hS (ws' := (xwW k a tr x o (xPut S b (rd 6 (S 1) (rd 40 (S 3) b))) T og R)) lo_same (metX4_carry l S b hk0 hk1 hk2 hk3) gc_RL_34 hd_X4_carry ⟨rfl, rfl⟩ ⟨Nat.le_of_ble_eq_true rfl, Nat.le_of_ble_eq_true rfl⟩ 29 lo_29 rfl rfl hl.1 (Nat.le_of_ble_eq_true rfl) ⟨Nat.le_of_ble_eq_true rfl, Nat.le_of_ble_eq_true rfl⟩ dL_carry_4 (fun H locs hP hD hS => ?_)
  refine lv_i2l hx hb dL_carry_7 rfl ?_
  refine va_last (q0 := 59) (t0 := 2) hx hb hE.1 hP hD hS lo_59 rfl (vp_in_nI (n := 0) (N := 1) (by decide) (by decide)) dL_carry_8 (fun H locs hP hD hS => ?_)
  have hP : va_P D vwCl (xwW k a tr x o (xPut S b (rd 6 (S 1) (rd 40 (S 3) b))) T (vp_updL og 0 ((rd 6 (S 1) (rd 40 (S 3) b)).toInt64)) R) H := hP
  have hD : va_D (va_in (xwW k a tr x o S T og R)) (xwW k a tr x o (xPut S b (rd 6 (S 1) (rd 40 (S 3) b))) T (vp_updL og 0 ((rd 6 (S 1) (rd 40 (S 3) b)).toInt64)) R) := hD
  refine lv_goto (tgt := 18) hx hb dL_carry_9 (by decide) ?_
  refine lv_iconst (v := 0) hx hb dL_carry_18 (by decide) ?_
  refine W.widen (k := 1) (n := 6) (Nat.le_of_ble_eq_true rfl) (Nat.le_of_ble_eq_true rfl) ?_
  exact W.iret hx hb hr (fun t9 ht hW => ⟨rfl, by rw [ht]; exact hP, hS.F ht⟩) hS.2.2 dL_carry_19

set_option maxHeartbeats 4000000 in
set_option maxRecDepth 100000 in
theorem wokL_checkIn (l : Launch) {D : va_G} {k : Nat → ClassId} {a tr : Nat → Nat} {x o : Nat} {R : va_W} (S T : HS) (og : Nat → Int64) (f : Int32) (z : Int32) (v : Int32) (hk0 : xFlt S f) (hk1 : ((¬ (z < 1)) ∧ (¬ (9 < z)) ∧ (¬ (v < 0)) ∧ (¬ (9 < v)))) (hk2 : S 0 4 < 40) (hk3 : (¬ (xGone S f))) : LM l yL_checkIn cL_checkIn 6 [(0, 12, 15, 19), (0, 12, 19, 25), (0, 12, 23, 13)] rmL_checkIn D k (xwW k a tr x o S T og R) [.ref x, .int f, .int z, .int v, .ref o] 0 (xwW k a tr x o (xTakeIn (xAddBg S f z v) (S 0 4)) T (vp_updL og 0 (S 0 4).toInt64) R) := by
  refine LM_of rfl (Nat.le_of_ble_eq_true rfl) ?_
  intro p e s m below meth c hC hr hlk htab hE hP hD hX hZ hS ls hl
  have hC : CallFix p m c cL_checkIn 6 s _ lw_all RL := hC
  have hx := hC.1
  have hb := hC.2.1
  have hown : s.vm.findClass RL = some m.cls := hC.2.2.2.1
  have hts := hC.2.2.2.2
  have hl : lv_has ls 6 [(0, .ref x), (1, .int f), (2, .int z), (3, .int v), (4, .ref o)] := hl
  refine lv_aload hx hb dL_checkIn_0 (lv_at hl 4 rfl) ?_
  refine lv_iconst (v := 0) hx hb dL_checkIn_2 (by decide) ?_
  refine lv_aload_n hx hb dL_checkIn_3 rfl (lv_at hl 0 rfl) ?_
  refine lv_iload_n hx hb dL_checkIn_4 rfl (lv_at hl 1 rfl) ?_
  refine lv_iload_n hx hb dL_checkIn_5 rfl (lv_at hl 2 rfl) ?_
  refine lv_iload_n hx hb dL_checkIn_6 rfl (lv_at hl 3 rfl) ?_
  refine c_mVi (rest := [.int 0, .ref o]) hC hE hP hD hS (ws' := (xwW k a tr x o (xTakeIn (xAddBg S f z v) (S 0 4)) T og R)) lo_same (metX4_checkIn l S f z v hk0 hk1 hk2 hk3) gc_RL_30 hd_X4_checkIn ⟨rfl, rfl⟩ ⟨Nat.le_of_ble_eq_true rfl, Nat.le_of_ble_eq_true rfl⟩ 29 lo_29 rfl rfl hl.1 (Nat.le_of_ble_eq_true rfl) ⟨Nat.le_of_ble_eq_true rfl, Nat.le_of_ble_eq_true rfl⟩ dL_checkIn_7 (fun H locs hP hD hS => ?_)
  refine lv_i2l hx hb dL_checkIn_10 rfl ?_
  refine va_last (q0 := 59) (t0 := 2) hx hb hE.1 hP hD hS lo_59 rfl (vp_in_nI (n := 0) (N := 1) (by decide) (by decide)) dL_checkIn_11 (fun H locs hP hD hS => ?_)
  have hP : va_P D vwCl (xwW k a tr x o (xTakeIn (xAddBg S f z v) (S 0 4)) T (vp_updL og 0 ((S 0 4).toInt64)) R) H := hP
  have hD : va_D (va_in (xwW k a tr x o S T og R)) (xwW k a tr x o (xTakeIn (xAddBg S f z v) (S 0 4)) T (vp_updL og 0 ((S 0 4).toInt64)) R) := hD
  refine lv_goto (tgt := 27) hx hb dL_checkIn_12 (by decide) ?_
  refine lv_iconst (v := 0) hx hb dL_checkIn_27 (by decide) ?_
  refine W.widen (k := 1) (n := 6) (Nat.le_of_ble_eq_true rfl) (Nat.le_of_ble_eq_true rfl) ?_
  exact W.iret hx hb hr (fun t9 ht hW => ⟨rfl, by rw [ht]; exact hP, hS.F ht⟩) hS.2.2 dL_checkIn_28

set_option maxHeartbeats 4000000 in
set_option maxRecDepth 100000 in
theorem wokL_chuteOf (l : Launch) {D : va_G} {k : Nat → ClassId} {a tr : Nat → Nat} {x o : Nat} {R : va_W} (S T : HS) (og : Nat → Int64) (b : Int32) (hk0 : xBag S b) : LM l yL_chuteOf cL_chuteOf 4 [(0, 9, 12, 19)] rmL_chuteOf D k (xwW k a tr x o S T og R) [.ref x, .int b, .ref o] 0 (xwW k a tr x o S T (vp_updL og 0 (rd 40 (S 7) b).toInt64) R) := by
  refine LM_of rfl (Nat.le_of_ble_eq_true rfl) ?_
  intro p e s m below meth c hC hr hlk htab hE hP hD hX hZ hS ls hl
  have hC : CallFix p m c cL_chuteOf 4 s _ lw_all RL := hC
  have hx := hC.1
  have hb := hC.2.1
  have hown : s.vm.findClass RL = some m.cls := hC.2.2.2.1
  have hts := hC.2.2.2.2
  have hl : lv_has ls 4 [(0, .ref x), (1, .int b), (2, .ref o)] := hl
  refine lv_aload_n hx hb dL_chuteOf_0 rfl (lv_at hl 2 rfl) ?_
  refine lv_iconst (v := 0) hx hb dL_chuteOf_1 (by decide) ?_
  refine lv_aload_n hx hb dL_chuteOf_2 rfl (lv_at hl 0 rfl) ?_
  refine lv_iload_n hx hb dL_chuteOf_3 rfl (lv_at hl 1 rfl) ?_
  refine c_pVi (rest := [.int 0, .ref o]) hC hE hP (metX4_chuteOf l S b hk0) gc_RL_58 hd_X4_chuteOf ⟨rfl, rfl⟩ ⟨Nat.le_of_ble_eq_true rfl, Nat.le_of_ble_eq_true rfl⟩ 29 lo_29 rfl rfl hl.1 (Nat.le_of_ble_eq_true rfl) ⟨Nat.le_of_ble_eq_true rfl, Nat.le_of_ble_eq_true rfl⟩ dL_chuteOf_4 ?_
  refine lv_i2l hx hb dL_chuteOf_7 rfl ?_
  refine va_last (q0 := 59) (t0 := 2) hx hb hE.1 hP hD hS lo_59 rfl (vp_in_nI (n := 0) (N := 1) (by decide) (by decide)) dL_chuteOf_8 (fun H locs hP hD hS => ?_)
  have hP : va_P D vwCl (xwW k a tr x o S T (vp_updL og 0 ((rd 40 (S 7) b).toInt64)) R) H := hP
  have hD : va_D (va_in (xwW k a tr x o S T og R)) (xwW k a tr x o S T (vp_updL og 0 ((rd 40 (S 7) b).toInt64)) R) := hD
  refine lv_goto (tgt := 15) hx hb dL_chuteOf_9 (by decide) ?_
  refine lv_iconst (v := 0) hx hb dL_chuteOf_15 (by decide) ?_
  refine W.widen (k := 1) (n := 6) (Nat.le_of_ble_eq_true rfl) (Nat.le_of_ble_eq_true rfl) ?_
  exact W.iret hx hb hr (fun t9 ht hW => ⟨rfl, by rw [ht]; exact hP, hS.F ht⟩) hS.2.2 dL_chuteOf_16

set_option maxHeartbeats 4000000 in
set_option maxRecDepth 100000 in
theorem wokL_chuteOfFlight (l : Launch) {D : va_G} {k : Nat → ClassId} {a tr : Nat → Nat} {x o : Nat} {R : va_W} (S T : HS) (og : Nat → Int64) (f : Int32) (hk0 : xFlt S f) : LM l yL_chuteOfFlight cL_chuteOfFlight 4 [(0, 9, 12, 19)] rmL_chuteOfFlight D k (xwW k a tr x o S T og R) [.ref x, .int f, .ref o] 0 (xwW k a tr x o S T (vp_updL og 0 (rd 6 (S 1) f).toInt64) R) := by
  refine LM_of rfl (Nat.le_of_ble_eq_true rfl) ?_
  intro p e s m below meth c hC hr hlk htab hE hP hD hX hZ hS ls hl
  have hC : CallFix p m c cL_chuteOfFlight 4 s _ lw_all RL := hC
  have hx := hC.1
  have hb := hC.2.1
  have hown : s.vm.findClass RL = some m.cls := hC.2.2.2.1
  have hts := hC.2.2.2.2
  have hl : lv_has ls 4 [(0, .ref x), (1, .int f), (2, .ref o)] := hl
  refine lv_aload_n hx hb dL_chuteOfFlight_0 rfl (lv_at hl 2 rfl) ?_
  refine lv_iconst (v := 0) hx hb dL_chuteOfFlight_1 (by decide) ?_
  refine lv_aload_n hx hb dL_chuteOfFlight_2 rfl (lv_at hl 0 rfl) ?_
  refine lv_iload_n hx hb dL_chuteOfFlight_3 rfl (lv_at hl 1 rfl) ?_
  refine c_pVi (rest := [.int 0, .ref o]) hC hE hP (metX4_chuteOfFlight l S f hk0) gc_RL_86 hd_X4_chuteOfFlight ⟨rfl, rfl⟩ ⟨Nat.le_of_ble_eq_true rfl, Nat.le_of_ble_eq_true rfl⟩ 29 lo_29 rfl rfl hl.1 (Nat.le_of_ble_eq_true rfl) ⟨Nat.le_of_ble_eq_true rfl, Nat.le_of_ble_eq_true rfl⟩ dL_chuteOfFlight_4 ?_
  refine lv_i2l hx hb dL_chuteOfFlight_7 rfl ?_
  refine va_last (q0 := 59) (t0 := 2) hx hb hE.1 hP hD hS lo_59 rfl (vp_in_nI (n := 0) (N := 1) (by decide) (by decide)) dL_chuteOfFlight_8 (fun H locs hP hD hS => ?_)
  have hP : va_P D vwCl (xwW k a tr x o S T (vp_updL og 0 ((rd 6 (S 1) f).toInt64)) R) H := hP
  have hD : va_D (va_in (xwW k a tr x o S T og R)) (xwW k a tr x o S T (vp_updL og 0 ((rd 6 (S 1) f).toInt64)) R) := hD
  refine lv_goto (tgt := 15) hx hb dL_chuteOfFlight_9 (by decide) ?_
  refine lv_iconst (v := 0) hx hb dL_chuteOfFlight_15 (by decide) ?_
  refine W.widen (k := 1) (n := 6) (Nat.le_of_ble_eq_true rfl) (Nat.le_of_ble_eq_true rfl) ?_
  exact W.iret hx hb hr (fun t9 ht hW => ⟨rfl, by rw [ht]; exact hP, hS.F ht⟩) hS.2.2 dL_chuteOfFlight_16

set_option maxHeartbeats 4000000 in
set_option maxRecDepth 100000 in
theorem wokL_depart (l : Launch) {D : va_G} {k : Nat → ClassId} {a tr : Nat → Nat} {x o : Nat} {R : va_W} (S T : HS) (og : Nat → Int64) (f : Int32) (n : Nat) (hn4 : S 0 4 = nI n) (hn40 : n ≤ 40) (hk0 : xFlt S f) (hk1 : (¬ (xGone S f))) : LM l yL_depart cL_depart 4 [(0, 9, 12, 19), (0, 9, 15, 13)] rmL_depart D k (xwW k a tr x o S T og R) [.ref x, .int f, .ref o] 0 (xwW k a tr x o (xLeave S f n) T (vp_updL og 0 (nI (xLv S f n).1).toInt64) R) := by
  refine LM_of rfl (Nat.le_of_ble_eq_true rfl) ?_
  intro p e s m below meth c hC hr hlk htab hE hP hD hX hZ hS ls hl
  have hC : CallFix p m c cL_depart 4 s _ lw_all RL := hC
  have hx := hC.1
  have hb := hC.2.1
  have hown : s.vm.findClass RL = some m.cls := hC.2.2.2.1
  have hts := hC.2.2.2.2
  have hl : lv_has ls 4 [(0, .ref x), (1, .int f), (2, .ref o)] := hl
  refine lv_aload_n hx hb dL_depart_0 rfl (lv_at hl 2 rfl) ?_
  refine lv_iconst (v := 0) hx hb dL_depart_1 (by decide) ?_
  refine lv_aload_n hx hb dL_depart_2 rfl (lv_at hl 0 rfl) ?_
  refine lv_iload_n hx hb dL_depart_3 rfl (lv_at hl 1 rfl) ?_
  refine c_mVi (rest := [.int 0, .ref o]) hC hE hP hD hS (ws' := (xwW k a tr x o (xLeave S f n) T og R)) lo_same (metX4_depart l S f n hn4 hn40 hk0 hk1) gc_RL_43 hd_X4_depart ⟨rfl, rfl⟩ ⟨Nat.le_of_ble_eq_true rfl, Nat.le_of_ble_eq_true rfl⟩ 29 lo_29 rfl rfl hl.1 (Nat.le_of_ble_eq_true rfl) ⟨Nat.le_of_ble_eq_true rfl, Nat.le_of_ble_eq_true rfl⟩ dL_depart_4 (fun H locs hP hD hS => ?_)
  refine lv_i2l hx hb dL_depart_7 rfl ?_
  refine va_last (q0 := 59) (t0 := 2) hx hb hE.1 hP hD hS lo_59 rfl (vp_in_nI (n := 0) (N := 1) (by decide) (by decide)) dL_depart_8 (fun H locs hP hD hS => ?_)
  have hP : va_P D vwCl (xwW k a tr x o (xLeave S f n) T (vp_updL og 0 ((nI (xLv S f n).1).toInt64)) R) H := hP
  have hD : va_D (va_in (xwW k a tr x o S T og R)) (xwW k a tr x o (xLeave S f n) T (vp_updL og 0 ((nI (xLv S f n).1).toInt64)) R) := hD
  refine lv_goto (tgt := 18) hx hb dL_depart_9 (by decide) ?_
  refine lv_iconst (v := 0) hx hb dL_depart_18 (by decide) ?_
  refine W.widen (k := 1) (n := 6) (Nat.le_of_ble_eq_true rfl) (Nat.le_of_ble_eq_true rfl) ?_
  exact W.iret hx hb hr (fun t9 ht hW => ⟨rfl, by rw [ht]; exact hP, hS.F ht⟩) hS.2.2 dL_depart_19

set_option maxHeartbeats 4000000 in
set_option maxRecDepth 100000 in
theorem wokL_flightOf (l : Launch) {D : va_G} {k : Nat → ClassId} {a tr : Nat → Nat} {x o : Nat} {R : va_W} (S T : HS) (og : Nat → Int64) (b : Int32) (hk0 : xBag S b) : LM l yL_flightOf cL_flightOf 4 [(0, 9, 12, 19)] rmL_flightOf D k (xwW k a tr x o S T og R) [.ref x, .int b, .ref o] 0 (xwW k a tr x o S T (vp_updL og 0 (rd 40 (S 3) b).toInt64) R) := by
  refine LM_of rfl (Nat.le_of_ble_eq_true rfl) ?_
  intro p e s m below meth c hC hr hlk htab hE hP hD hX hZ hS ls hl
  have hC : CallFix p m c cL_flightOf 4 s _ lw_all RL := hC
  have hx := hC.1
  have hb := hC.2.1
  have hown : s.vm.findClass RL = some m.cls := hC.2.2.2.1
  have hts := hC.2.2.2.2
  have hl : lv_has ls 4 [(0, .ref x), (1, .int b), (2, .ref o)] := hl
  refine lv_aload_n hx hb dL_flightOf_0 rfl (lv_at hl 2 rfl) ?_
  refine lv_iconst (v := 0) hx hb dL_flightOf_1 (by decide) ?_
  refine lv_aload_n hx hb dL_flightOf_2 rfl (lv_at hl 0 rfl) ?_
  refine lv_iload_n hx hb dL_flightOf_3 rfl (lv_at hl 1 rfl) ?_
  refine c_pVi (rest := [.int 0, .ref o]) hC hE hP (metX4_flightOf l S b hk0) gc_RL_49 hd_X4_flightOf ⟨rfl, rfl⟩ ⟨Nat.le_of_ble_eq_true rfl, Nat.le_of_ble_eq_true rfl⟩ 29 lo_29 rfl rfl hl.1 (Nat.le_of_ble_eq_true rfl) ⟨Nat.le_of_ble_eq_true rfl, Nat.le_of_ble_eq_true rfl⟩ dL_flightOf_4 ?_
  refine lv_i2l hx hb dL_flightOf_7 rfl ?_
  refine va_last (q0 := 59) (t0 := 2) hx hb hE.1 hP hD hS lo_59 rfl (vp_in_nI (n := 0) (N := 1) (by decide) (by decide)) dL_flightOf_8 (fun H locs hP hD hS => ?_)
  have hP : va_P D vwCl (xwW k a tr x o S T (vp_updL og 0 ((rd 40 (S 3) b).toInt64)) R) H := hP
  have hD : va_D (va_in (xwW k a tr x o S T og R)) (xwW k a tr x o S T (vp_updL og 0 ((rd 40 (S 3) b).toInt64)) R) := hD
  refine lv_goto (tgt := 15) hx hb dL_flightOf_9 (by decide) ?_
  refine lv_iconst (v := 0) hx hb dL_flightOf_15 (by decide) ?_
  refine W.widen (k := 1) (n := 6) (Nat.le_of_ble_eq_true rfl) (Nat.le_of_ble_eq_true rfl) ?_
  exact W.iret hx hb hr (fun t9 ht hW => ⟨rfl, by rw [ht]; exact hP, hS.F ht⟩) hS.2.2 dL_flightOf_16

set_option maxHeartbeats 4000000 in
set_option maxRecDepth 100000 in
theorem wokL_forward (l : Launch) {D : va_G} {k : Nat → ClassId} {a tr : Nat → Nat} {x o : Nat} {R : va_W} (S T : HS) (og : Nat → Int64) (b : Int32) (f : Int32) (hk0 : xBag S b) (hk1 : xFlt S f) (hk2 : xHand S b) (hk3 : xGone S (rd 40 (S 3) b)) (hk4 : (¬ (xGone S f))) : LM l yL_forward cL_forward 5 [(0, 10, 13, 19), (0, 10, 17, 13)] rmL_forward D k (xwW k a tr x o S T og R) [.ref x, .int b, .int f, .ref o] 0 (xwW k a tr x o (xTakeIn (xRenew S b f) b) T (vp_updL og 0 ((xTakeIn (xRenew S b f) b) 0 2).toInt64) R) := by
  refine LM_of rfl (Nat.le_of_ble_eq_true rfl) ?_
  intro p e s m below meth c hC hr hlk htab hE hP hD hX hZ hS ls hl
  have hC : CallFix p m c cL_forward 5 s _ lw_all RL := hC
  have hx := hC.1
  have hb := hC.2.1
  have hown : s.vm.findClass RL = some m.cls := hC.2.2.2.1
  have hts := hC.2.2.2.2
  have hl : lv_has ls 5 [(0, .ref x), (1, .int b), (2, .int f), (3, .ref o)] := hl
  refine lv_aload_n hx hb dL_forward_0 rfl (lv_at hl 3 rfl) ?_
  refine lv_iconst (v := 0) hx hb dL_forward_1 (by decide) ?_
  refine lv_aload_n hx hb dL_forward_2 rfl (lv_at hl 0 rfl) ?_
  refine lv_iload_n hx hb dL_forward_3 rfl (lv_at hl 1 rfl) ?_
  refine lv_iload_n hx hb dL_forward_4 rfl (lv_at hl 2 rfl) ?_
  refine c_mVi (rest := [.int 0, .ref o]) hC hE hP hD hS (ws' := (xwW k a tr x o (xTakeIn (xRenew S b f) b) T og R)) lo_same (metX4_forward l S b f hk0 hk1 hk2 hk3 hk4) gc_RL_37 hd_X4_forward ⟨rfl, rfl⟩ ⟨Nat.le_of_ble_eq_true rfl, Nat.le_of_ble_eq_true rfl⟩ 29 lo_29 rfl rfl hl.1 (Nat.le_of_ble_eq_true rfl) ⟨Nat.le_of_ble_eq_true rfl, Nat.le_of_ble_eq_true rfl⟩ dL_forward_5 (fun H locs hP hD hS => ?_)
  refine lv_i2l hx hb dL_forward_8 rfl ?_
  refine va_last (q0 := 59) (t0 := 2) hx hb hE.1 hP hD hS lo_59 rfl (vp_in_nI (n := 0) (N := 1) (by decide) (by decide)) dL_forward_9 (fun H locs hP hD hS => ?_)
  have hP : va_P D vwCl (xwW k a tr x o (xTakeIn (xRenew S b f) b) T (vp_updL og 0 (((xTakeIn (xRenew S b f) b) 0 2).toInt64)) R) H := hP
  have hD : va_D (va_in (xwW k a tr x o S T og R)) (xwW k a tr x o (xTakeIn (xRenew S b f) b) T (vp_updL og 0 (((xTakeIn (xRenew S b f) b) 0 2).toInt64)) R) := hD
  refine lv_goto (tgt := 21) hx hb dL_forward_10 (by decide) ?_
  refine lv_iconst (v := 0) hx hb dL_forward_21 (by decide) ?_
  refine W.widen (k := 1) (n := 6) (Nat.le_of_ble_eq_true rfl) (Nat.le_of_ble_eq_true rfl) ?_
  exact W.iret hx hb hr (fun t9 ht hW => ⟨rfl, by rw [ht]; exact hP, hS.F ht⟩) hS.2.2 dL_forward_22

set_option maxHeartbeats 4000000 in
set_option maxRecDepth 100000 in
theorem wokL_giveChute (l : Launch) {D : va_G} {k : Nat → ClassId} {a tr : Nat → Nat} {x o : Nat} {R : va_W} (S T : HS) (og : Nat → Int64) (f : Int32) (ch : Int32) (n : Nat) (hn4 : S 0 4 = nI n) (hn40 : n ≤ 40) (hk0 : xFlt S f) (hk1 : xCh ch) (hk2 : (¬ (xGone S f))) : LM l yL_giveChute cL_giveChute 5 [(0, 10, 13, 19), (0, 10, 17, 13)] rmL_giveChute D k (xwW k a tr x o S T og R) [.ref x, .int f, .int ch, .ref o] 0 (xwW k a tr x o (xChg S f ch) T (vp_updL og 0 (nI (xChgN S f ch n)).toInt64) R) := by
  refine LM_of rfl (Nat.le_of_ble_eq_true rfl) ?_
  intro p e s m below meth c hC hr hlk htab hE hP hD hX hZ hS ls hl
  have hC : CallFix p m c cL_giveChute 5 s _ lw_all RL := hC
  have hx := hC.1
  have hb := hC.2.1
  have hown : s.vm.findClass RL = some m.cls := hC.2.2.2.1
  have hts := hC.2.2.2.2
  have hl : lv_has ls 5 [(0, .ref x), (1, .int f), (2, .int ch), (3, .ref o)] := hl
  refine lv_aload_n hx hb dL_giveChute_0 rfl (lv_at hl 3 rfl) ?_
  refine lv_iconst (v := 0) hx hb dL_giveChute_1 (by decide) ?_
  refine lv_aload_n hx hb dL_giveChute_2 rfl (lv_at hl 0 rfl) ?_
  refine lv_iload_n hx hb dL_giveChute_3 rfl (lv_at hl 1 rfl) ?_
  refine lv_iload_n hx hb dL_giveChute_4 rfl (lv_at hl 2 rfl) ?_
  refine c_mVi (rest := [.int 0, .ref o]) hC hE hP hD hS (ws' := (xwW k a tr x o (xChg S f ch) T og R)) lo_same (metX4_giveChute l S f ch n hn4 hn40 hk0 hk1 hk2) gc_RL_15 hd_X4_giveChute ⟨rfl, rfl⟩ ⟨Nat.le_of_ble_eq_true rfl, Nat.le_of_ble_eq_true rfl⟩ 29 lo_29 rfl rfl hl.1 (Nat.le_of_ble_eq_true rfl) ⟨Nat.le_of_ble_eq_true rfl, Nat.le_of_ble_eq_true rfl⟩ dL_giveChute_5 (fun H locs hP hD hS => ?_)
  refine lv_i2l hx hb dL_giveChute_8 rfl ?_
  refine va_last (q0 := 59) (t0 := 2) hx hb hE.1 hP hD hS lo_59 rfl (vp_in_nI (n := 0) (N := 1) (by decide) (by decide)) dL_giveChute_9 (fun H locs hP hD hS => ?_)
  have hP : va_P D vwCl (xwW k a tr x o (xChg S f ch) T (vp_updL og 0 ((nI (xChgN S f ch n)).toInt64)) R) H := hP
  have hD : va_D (va_in (xwW k a tr x o S T og R)) (xwW k a tr x o (xChg S f ch) T (vp_updL og 0 ((nI (xChgN S f ch n)).toInt64)) R) := hD
  refine lv_goto (tgt := 21) hx hb dL_giveChute_10 (by decide) ?_
  refine lv_iconst (v := 0) hx hb dL_giveChute_21 (by decide) ?_
  refine W.widen (k := 1) (n := 6) (Nat.le_of_ble_eq_true rfl) (Nat.le_of_ble_eq_true rfl) ?_
  exact W.iret hx hb hr (fun t9 ht hW => ⟨rfl, by rw [ht]; exact hP, hS.F ht⟩) hS.2.2 dL_giveChute_22

set_option maxHeartbeats 4000000 in
set_option maxRecDepth 100000 in
theorem wokL_hasOpenFile (l : Launch) {D : va_G} {k : Nat → ClassId} {a tr : Nat → Nat} {x o : Nat} {R : va_W} (S T : HS) (og : Nat → Int64) (b : Int32) (hk0 : xBag S b) : LM l yL_hasOpenFile cL_hasOpenFile 4 [(0, 16, 19, 19)] rmL_hasOpenFile D k (xwW k a tr x o S T og R) [.ref x, .int b, .ref o] 0 (xwW k a tr x o S T (vp_updL og 0 (bI (rd 40 (S 10) b = 1)).toInt64) R) := by
  refine LM_of rfl (Nat.le_of_ble_eq_true rfl) ?_
  intro p e s m below meth c hC hr hlk htab hE hP hD hX hZ hS ls hl
  have hC : CallFix p m c cL_hasOpenFile 4 s _ lw_all RL := hC
  have hx := hC.1
  have hb := hC.2.1
  have hown : s.vm.findClass RL = some m.cls := hC.2.2.2.1
  have hts := hC.2.2.2.2
  have hl : lv_has ls 4 [(0, .ref x), (1, .int b), (2, .ref o)] := hl
  refine lv_aload_n hx hb dL_hasOpenFile_0 rfl (lv_at hl 2 rfl) ?_
  refine lv_iconst (v := 0) hx hb dL_hasOpenFile_1 (by decide) ?_
  refine lv_aload_n hx hb dL_hasOpenFile_2 rfl (lv_at hl 0 rfl) ?_
  refine lv_iload_n hx hb dL_hasOpenFile_3 rfl (lv_at hl 1 rfl) ?_
  refine c_pVi (rest := [.int 0, .ref o]) hC hE hP (metX4_hasOpenFile l S b hk0) gc_RL_71 hd_X4_hasOpenFile ⟨rfl, rfl⟩ ⟨Nat.le_of_ble_eq_true rfl, Nat.le_of_ble_eq_true rfl⟩ 29 lo_29 rfl rfl hl.1 (Nat.le_of_ble_eq_true rfl) ⟨Nat.le_of_ble_eq_true rfl, Nat.le_of_ble_eq_true rfl⟩ dL_hasOpenFile_4 ?_
  refine lv_if_eq (tgt := 14) hx hb dL_hasOpenFile_7 (by decide) (fun c_1 => ?_) (fun c_1 => ?_)
  · have c_1 := bI_0 c_1
    refine lv_lconst (v := 0) hx hb dL_hasOpenFile_14 (by decide) ?_
    refine va_last (q0 := 59) (t0 := 2) hx hb hE.1 hP hD hS lo_59 rfl (vp_in_nI (n := 0) (N := 1) (by decide) (by decide)) dL_hasOpenFile_15 (fun H locs hP hD hS => ?_)
    have hP : va_P D vwCl (xwW k a tr x o S T (vp_updL og 0 0) R) H := hP
    have hD : va_D (va_in (xwW k a tr x o S T og R)) (xwW k a tr x o S T (vp_updL og 0 0) R) := hD
    refine lv_goto (tgt := 22) hx hb dL_hasOpenFile_16 (by decide) ?_
    refine lv_iconst (v := 0) hx hb dL_hasOpenFile_22 (by decide) ?_
    refine W.widen (k := 1) (n := 6) (Nat.le_of_ble_eq_true rfl) (Nat.le_of_ble_eq_true rfl) ?_
    have e9 : (bI (rd 40 (S 10) b = 1)).toInt64 = 0 := by rw [bI_f (show ¬ (rd 40 (S 10) b = 1) from c_1)]; rfl
    exact W.iret hx hb hr (fun t9 ht hW => ⟨rfl, by rw [ht]; rw [e9]; exact hP, hS.F ht⟩) hS.2.2 dL_hasOpenFile_23
  · have c_1 := bI_n c_1
    refine lv_lconst (v := 1) hx hb dL_hasOpenFile_10 (by decide) ?_
    refine lv_goto (tgt := 15) hx hb dL_hasOpenFile_11 (by decide) ?_
    refine va_last (q0 := 59) (t0 := 2) hx hb hE.1 hP hD hS lo_59 rfl (vp_in_nI (n := 0) (N := 1) (by decide) (by decide)) dL_hasOpenFile_15 (fun H locs hP hD hS => ?_)
    have hP : va_P D vwCl (xwW k a tr x o S T (vp_updL og 0 1) R) H := hP
    have hD : va_D (va_in (xwW k a tr x o S T og R)) (xwW k a tr x o S T (vp_updL og 0 1) R) := hD
    refine lv_goto (tgt := 22) hx hb dL_hasOpenFile_16 (by decide) ?_
    refine lv_iconst (v := 0) hx hb dL_hasOpenFile_22 (by decide) ?_
    refine W.widen (k := 1) (n := 6) (Nat.le_of_ble_eq_true rfl) (Nat.le_of_ble_eq_true rfl) ?_
    have e9 : (bI (rd 40 (S 10) b = 1)).toInt64 = 1 := by rw [bI_t (show rd 40 (S 10) b = 1 from c_1)]; rfl
    exact W.iret hx hb hr (fun t9 ht hW => ⟨rfl, by rw [ht]; rw [e9]; exact hP, hS.F ht⟩) hS.2.2 dL_hasOpenFile_23

set_option maxHeartbeats 4000000 in
set_option maxRecDepth 100000 in
theorem wokL_isGone (l : Launch) {D : va_G} {k : Nat → ClassId} {a tr : Nat → Nat} {x o : Nat} {R : va_W} (S T : HS) (og : Nat → Int64) (f : Int32) (hk0 : xFlt S f) : LM l yL_isGone cL_isGone 4 [(0, 16, 19, 19)] rmL_isGone D k (xwW k a tr x o S T og R) [.ref x, .int f, .ref o] 0 (xwW k a tr x o S T (vp_updL og 0 (bI (xGone S f)).toInt64) R) := by
  refine LM_of rfl (Nat.le_of_ble_eq_true rfl) ?_
  intro p e s m below meth c hC hr hlk htab hE hP hD hX hZ hS ls hl
  have hC : CallFix p m c cL_isGone 4 s _ lw_all RL := hC
  have hx := hC.1
  have hb := hC.2.1
  have hown : s.vm.findClass RL = some m.cls := hC.2.2.2.1
  have hts := hC.2.2.2.2
  have hl : lv_has ls 4 [(0, .ref x), (1, .int f), (2, .ref o)] := hl
  refine lv_aload_n hx hb dL_isGone_0 rfl (lv_at hl 2 rfl) ?_
  refine lv_iconst (v := 0) hx hb dL_isGone_1 (by decide) ?_
  refine lv_aload_n hx hb dL_isGone_2 rfl (lv_at hl 0 rfl) ?_
  refine lv_iload_n hx hb dL_isGone_3 rfl (lv_at hl 1 rfl) ?_
  refine c_pVi (rest := [.int 0, .ref o]) hC hE hP (metX4_isGone l S f hk0) gc_RL_89 hd_X4_isGone ⟨rfl, rfl⟩ ⟨Nat.le_of_ble_eq_true rfl, Nat.le_of_ble_eq_true rfl⟩ 29 lo_29 rfl rfl hl.1 (Nat.le_of_ble_eq_true rfl) ⟨Nat.le_of_ble_eq_true rfl, Nat.le_of_ble_eq_true rfl⟩ dL_isGone_4 ?_
  refine lv_if_eq (tgt := 14) hx hb dL_isGone_7 (by decide) (fun c_1 => ?_) (fun c_1 => ?_)
  · have c_1 := bI_0 c_1
    refine lv_lconst (v := 0) hx hb dL_isGone_14 (by decide) ?_
    refine va_last (q0 := 59) (t0 := 2) hx hb hE.1 hP hD hS lo_59 rfl (vp_in_nI (n := 0) (N := 1) (by decide) (by decide)) dL_isGone_15 (fun H locs hP hD hS => ?_)
    have hP : va_P D vwCl (xwW k a tr x o S T (vp_updL og 0 0) R) H := hP
    have hD : va_D (va_in (xwW k a tr x o S T og R)) (xwW k a tr x o S T (vp_updL og 0 0) R) := hD
    refine lv_goto (tgt := 22) hx hb dL_isGone_16 (by decide) ?_
    refine lv_iconst (v := 0) hx hb dL_isGone_22 (by decide) ?_
    refine W.widen (k := 1) (n := 6) (Nat.le_of_ble_eq_true rfl) (Nat.le_of_ble_eq_true rfl) ?_
    have e9 : (bI (xGone S f)).toInt64 = 0 := by rw [bI_f (show ¬ (xGone S f) from c_1)]; rfl
    exact W.iret hx hb hr (fun t9 ht hW => ⟨rfl, by rw [ht]; rw [e9]; exact hP, hS.F ht⟩) hS.2.2 dL_isGone_23
  · have c_1 := bI_n c_1
    refine lv_lconst (v := 1) hx hb dL_isGone_10 (by decide) ?_
    refine lv_goto (tgt := 15) hx hb dL_isGone_11 (by decide) ?_
    refine va_last (q0 := 59) (t0 := 2) hx hb hE.1 hP hD hS lo_59 rfl (vp_in_nI (n := 0) (N := 1) (by decide) (by decide)) dL_isGone_15 (fun H locs hP hD hS => ?_)
    have hP : va_P D vwCl (xwW k a tr x o S T (vp_updL og 0 1) R) H := hP
    have hD : va_D (va_in (xwW k a tr x o S T og R)) (xwW k a tr x o S T (vp_updL og 0 1) R) := hD
    refine lv_goto (tgt := 22) hx hb dL_isGone_16 (by decide) ?_
    refine lv_iconst (v := 0) hx hb dL_isGone_22 (by decide) ?_
    refine W.widen (k := 1) (n := 6) (Nat.le_of_ble_eq_true rfl) (Nat.le_of_ble_eq_true rfl) ?_
    have e9 : (bI (xGone S f)).toInt64 = 1 := by rw [bI_t (show xGone S f from c_1)]; rfl
    exact W.iret hx hb hr (fun t9 ht hW => ⟨rfl, by rw [ht]; rw [e9]; exact hP, hS.F ht⟩) hS.2.2 dL_isGone_23

set_option maxHeartbeats 4000000 in
set_option maxRecDepth 100000 in
theorem wokL_isMisrouted (l : Launch) {D : va_G} {k : Nat → ClassId} {a tr : Nat → Nat} {x o : Nat} {R : va_W} (S T : HS) (og : Nat → Int64) (b : Int32) (hk0 : xBag S b) : LM l yL_isMisrouted cL_isMisrouted 4 [(0, 16, 19, 19)] rmL_isMisrouted D k (xwW k a tr x o S T og R) [.ref x, .int b, .ref o] 0 (xwW k a tr x o S T (vp_updL og 0 (bI (xAst S b)).toInt64) R) := by
  refine LM_of rfl (Nat.le_of_ble_eq_true rfl) ?_
  intro p e s m below meth c hC hr hlk htab hE hP hD hX hZ hS ls hl
  have hC : CallFix p m c cL_isMisrouted 4 s _ lw_all RL := hC
  have hx := hC.1
  have hb := hC.2.1
  have hown : s.vm.findClass RL = some m.cls := hC.2.2.2.1
  have hts := hC.2.2.2.2
  have hl : lv_has ls 4 [(0, .ref x), (1, .int b), (2, .ref o)] := hl
  refine lv_aload_n hx hb dL_isMisrouted_0 rfl (lv_at hl 2 rfl) ?_
  refine lv_iconst (v := 0) hx hb dL_isMisrouted_1 (by decide) ?_
  refine lv_aload_n hx hb dL_isMisrouted_2 rfl (lv_at hl 0 rfl) ?_
  refine lv_iload_n hx hb dL_isMisrouted_3 rfl (lv_at hl 1 rfl) ?_
  refine c_pVi (rest := [.int 0, .ref o]) hC hE hP (metX4_isMisrouted l S b hk0) gc_RL_67 hd_X4_isMisrouted ⟨rfl, rfl⟩ ⟨Nat.le_of_ble_eq_true rfl, Nat.le_of_ble_eq_true rfl⟩ 29 lo_29 rfl rfl hl.1 (Nat.le_of_ble_eq_true rfl) ⟨Nat.le_of_ble_eq_true rfl, Nat.le_of_ble_eq_true rfl⟩ dL_isMisrouted_4 ?_
  refine lv_if_eq (tgt := 14) hx hb dL_isMisrouted_7 (by decide) (fun c_1 => ?_) (fun c_1 => ?_)
  · have c_1 := bI_0 c_1
    refine lv_lconst (v := 0) hx hb dL_isMisrouted_14 (by decide) ?_
    refine va_last (q0 := 59) (t0 := 2) hx hb hE.1 hP hD hS lo_59 rfl (vp_in_nI (n := 0) (N := 1) (by decide) (by decide)) dL_isMisrouted_15 (fun H locs hP hD hS => ?_)
    have hP : va_P D vwCl (xwW k a tr x o S T (vp_updL og 0 0) R) H := hP
    have hD : va_D (va_in (xwW k a tr x o S T og R)) (xwW k a tr x o S T (vp_updL og 0 0) R) := hD
    refine lv_goto (tgt := 22) hx hb dL_isMisrouted_16 (by decide) ?_
    refine lv_iconst (v := 0) hx hb dL_isMisrouted_22 (by decide) ?_
    refine W.widen (k := 1) (n := 6) (Nat.le_of_ble_eq_true rfl) (Nat.le_of_ble_eq_true rfl) ?_
    have e9 : (bI (xAst S b)).toInt64 = 0 := by rw [bI_f (show ¬ (xAst S b) from c_1)]; rfl
    exact W.iret hx hb hr (fun t9 ht hW => ⟨rfl, by rw [ht]; rw [e9]; exact hP, hS.F ht⟩) hS.2.2 dL_isMisrouted_23
  · have c_1 := bI_n c_1
    refine lv_lconst (v := 1) hx hb dL_isMisrouted_10 (by decide) ?_
    refine lv_goto (tgt := 15) hx hb dL_isMisrouted_11 (by decide) ?_
    refine va_last (q0 := 59) (t0 := 2) hx hb hE.1 hP hD hS lo_59 rfl (vp_in_nI (n := 0) (N := 1) (by decide) (by decide)) dL_isMisrouted_15 (fun H locs hP hD hS => ?_)
    have hP : va_P D vwCl (xwW k a tr x o S T (vp_updL og 0 1) R) H := hP
    have hD : va_D (va_in (xwW k a tr x o S T og R)) (xwW k a tr x o S T (vp_updL og 0 1) R) := hD
    refine lv_goto (tgt := 22) hx hb dL_isMisrouted_16 (by decide) ?_
    refine lv_iconst (v := 0) hx hb dL_isMisrouted_22 (by decide) ?_
    refine W.widen (k := 1) (n := 6) (Nat.le_of_ble_eq_true rfl) (Nat.le_of_ble_eq_true rfl) ?_
    have e9 : (bI (xAst S b)).toInt64 = 1 := by rw [bI_t (show xAst S b from c_1)]; rfl
    exact W.iret hx hb hr (fun t9 ht hW => ⟨rfl, by rw [ht]; rw [e9]; exact hP, hS.F ht⟩) hS.2.2 dL_isMisrouted_23

set_option maxHeartbeats 4000000 in
set_option maxRecDepth 100000 in
theorem wokL_minutesUntilChute (l : Launch) {D : va_G} {k : Nat → ClassId} {a tr : Nat → Nat} {x o : Nat} {R : va_W} (S T : HS) (og : Nat → Int64) (b : Int32) (hk0 : xBag S b) : LM l yL_minutesUntilChute cL_minutesUntilChute 4 [(0, 9, 12, 19)] rmL_minutesUntilChute D k (xwW k a tr x o S T og R) [.ref x, .int b, .ref o] 0 (xwW k a tr x o S (xUn S (xUnN S b)) (vp_updL og 0 (xUnA S b).toInt64) R) := by
  refine LM_of rfl (Nat.le_of_ble_eq_true rfl) ?_
  intro p e s m below meth c hC hr hlk htab hE hP hD hX hZ hS ls hl
  have hC : CallFix p m c cL_minutesUntilChute 4 s _ lw_all RL := hC
  have hx := hC.1
  have hb := hC.2.1
  have hown : s.vm.findClass RL = some m.cls := hC.2.2.2.1
  have hts := hC.2.2.2.2
  have hl : lv_has ls 4 [(0, .ref x), (1, .int b), (2, .ref o)] := hl
  refine lv_aload_n hx hb dL_minutesUntilChute_0 rfl (lv_at hl 2 rfl) ?_
  refine lv_iconst (v := 0) hx hb dL_minutesUntilChute_1 (by decide) ?_
  refine lv_aload_n hx hb dL_minutesUntilChute_2 rfl (lv_at hl 0 rfl) ?_
  refine lv_iload_n hx hb dL_minutesUntilChute_3 rfl (lv_at hl 1 rfl) ?_
  refine c_mVi (rest := [.int 0, .ref o]) hC hE hP hD hS (ws' := (xwW k a tr x o S (xUn S (xUnN S b)) og R)) lo_same (metX4_minutesUntilChute l S T b hk0) gc_RL_98 hd_X4_minutesUntilChute ⟨rfl, rfl⟩ ⟨Nat.le_of_ble_eq_true rfl, Nat.le_of_ble_eq_true rfl⟩ 29 lo_29 rfl rfl hl.1 (Nat.le_of_ble_eq_true rfl) ⟨Nat.le_of_ble_eq_true rfl, Nat.le_of_ble_eq_true rfl⟩ dL_minutesUntilChute_4 (fun H locs hP hD hS => ?_)
  refine lv_i2l hx hb dL_minutesUntilChute_7 rfl ?_
  refine va_last (q0 := 59) (t0 := 2) hx hb hE.1 hP hD hS lo_59 rfl (vp_in_nI (n := 0) (N := 1) (by decide) (by decide)) dL_minutesUntilChute_8 (fun H locs hP hD hS => ?_)
  have hP : va_P D vwCl (xwW k a tr x o S (xUn S (xUnN S b)) (vp_updL og 0 ((xUnA S b).toInt64)) R) H := hP
  have hD : va_D (va_in (xwW k a tr x o S T og R)) (xwW k a tr x o S (xUn S (xUnN S b)) (vp_updL og 0 ((xUnA S b).toInt64)) R) := hD
  refine lv_goto (tgt := 15) hx hb dL_minutesUntilChute_9 (by decide) ?_
  refine lv_iconst (v := 0) hx hb dL_minutesUntilChute_15 (by decide) ?_
  refine W.widen (k := 1) (n := 6) (Nat.le_of_ble_eq_true rfl) (Nat.le_of_ble_eq_true rfl) ?_
  exact W.iret hx hb hr (fun t9 ht hW => ⟨rfl, by rw [ht]; exact hP, hS.F ht⟩) hS.2.2 dL_minutesUntilChute_16

set_option maxHeartbeats 4000000 in
set_option maxRecDepth 100000 in
theorem wokL_misroutedIn (l : Launch) {D : va_G} {k : Nat → ClassId} {a tr : Nat → Nat} {x o : Nat} {R : va_W} (S T : HS) (og : Nat → Int64) (ch : Int32) (n : Nat) (hn4 : S 0 4 = nI n) (hn40 : n ≤ 40) (hk0 : xCh ch) : LM l yL_misroutedIn cL_misroutedIn 4 [(0, 9, 12, 19)] rmL_misroutedIn D k (xwW k a tr x o S T og R) [.ref x, .int ch, .ref o] 0 (xwW k a tr x o S T (vp_updL og 0 (nI (xMisN S ch n)).toInt64) R) := by
  refine LM_of rfl (Nat.le_of_ble_eq_true rfl) ?_
  intro p e s m below meth c hC hr hlk htab hE hP hD hX hZ hS ls hl
  have hC : CallFix p m c cL_misroutedIn 4 s _ lw_all RL := hC
  have hx := hC.1
  have hb := hC.2.1
  have hown : s.vm.findClass RL = some m.cls := hC.2.2.2.1
  have hts := hC.2.2.2.2
  have hl : lv_has ls 4 [(0, .ref x), (1, .int ch), (2, .ref o)] := hl
  refine lv_aload_n hx hb dL_misroutedIn_0 rfl (lv_at hl 2 rfl) ?_
  refine lv_iconst (v := 0) hx hb dL_misroutedIn_1 (by decide) ?_
  refine lv_aload_n hx hb dL_misroutedIn_2 rfl (lv_at hl 0 rfl) ?_
  refine lv_iload_n hx hb dL_misroutedIn_3 rfl (lv_at hl 1 rfl) ?_
  refine c_pVi (rest := [.int 0, .ref o]) hC hE hP (metX4_misroutedIn l S ch n hn4 hn40 hk0) gc_RL_80 hd_X4_misroutedIn ⟨rfl, rfl⟩ ⟨Nat.le_of_ble_eq_true rfl, Nat.le_of_ble_eq_true rfl⟩ 29 lo_29 rfl rfl hl.1 (Nat.le_of_ble_eq_true rfl) ⟨Nat.le_of_ble_eq_true rfl, Nat.le_of_ble_eq_true rfl⟩ dL_misroutedIn_4 ?_
  refine lv_i2l hx hb dL_misroutedIn_7 rfl ?_
  refine va_last (q0 := 59) (t0 := 2) hx hb hE.1 hP hD hS lo_59 rfl (vp_in_nI (n := 0) (N := 1) (by decide) (by decide)) dL_misroutedIn_8 (fun H locs hP hD hS => ?_)
  have hP : va_P D vwCl (xwW k a tr x o S T (vp_updL og 0 ((nI (xMisN S ch n)).toInt64)) R) H := hP
  have hD : va_D (va_in (xwW k a tr x o S T og R)) (xwW k a tr x o S T (vp_updL og 0 ((nI (xMisN S ch n)).toInt64)) R) := hD
  refine lv_goto (tgt := 15) hx hb dL_misroutedIn_9 (by decide) ?_
  refine lv_iconst (v := 0) hx hb dL_misroutedIn_15 (by decide) ?_
  refine W.widen (k := 1) (n := 6) (Nat.le_of_ble_eq_true rfl) (Nat.le_of_ble_eq_true rfl) ?_
  exact W.iret hx hb hr (fun t9 ht hW => ⟨rfl, by rw [ht]; exact hP, hS.F ht⟩) hS.2.2 dL_misroutedIn_16

set_option maxHeartbeats 4000000 in
set_option maxRecDepth 100000 in
theorem wokL_missesOf (l : Launch) {D : va_G} {k : Nat → ClassId} {a tr : Nat → Nat} {x o : Nat} {R : va_W} (S T : HS) (og : Nat → Int64) (b : Int32) (hk0 : xBag S b) : LM l yL_missesOf cL_missesOf 4 [(0, 9, 12, 19)] rmL_missesOf D k (xwW k a tr x o S T og R) [.ref x, .int b, .ref o] 0 (xwW k a tr x o S T (vp_updL og 0 (rd 40 (S 9) b).toInt64) R) := by
  refine LM_of rfl (Nat.le_of_ble_eq_true rfl) ?_
  intro p e s m below meth c hC hr hlk htab hE hP hD hX hZ hS ls hl
  have hC : CallFix p m c cL_missesOf 4 s _ lw_all RL := hC
  have hx := hC.1
  have hb := hC.2.1
  have hown : s.vm.findClass RL = some m.cls := hC.2.2.2.1
  have hts := hC.2.2.2.2
  have hl : lv_has ls 4 [(0, .ref x), (1, .int b), (2, .ref o)] := hl
  refine lv_aload_n hx hb dL_missesOf_0 rfl (lv_at hl 2 rfl) ?_
  refine lv_iconst (v := 0) hx hb dL_missesOf_1 (by decide) ?_
  refine lv_aload_n hx hb dL_missesOf_2 rfl (lv_at hl 0 rfl) ?_
  refine lv_iload_n hx hb dL_missesOf_3 rfl (lv_at hl 1 rfl) ?_
  refine c_pVi (rest := [.int 0, .ref o]) hC hE hP (metX4_missesOf l S b hk0) gc_RL_64 hd_X4_missesOf ⟨rfl, rfl⟩ ⟨Nat.le_of_ble_eq_true rfl, Nat.le_of_ble_eq_true rfl⟩ 29 lo_29 rfl rfl hl.1 (Nat.le_of_ble_eq_true rfl) ⟨Nat.le_of_ble_eq_true rfl, Nat.le_of_ble_eq_true rfl⟩ dL_missesOf_4 ?_
  refine lv_i2l hx hb dL_missesOf_7 rfl ?_
  refine va_last (q0 := 59) (t0 := 2) hx hb hE.1 hP hD hS lo_59 rfl (vp_in_nI (n := 0) (N := 1) (by decide) (by decide)) dL_missesOf_8 (fun H locs hP hD hS => ?_)
  have hP : va_P D vwCl (xwW k a tr x o S T (vp_updL og 0 ((rd 40 (S 9) b).toInt64)) R) H := hP
  have hD : va_D (va_in (xwW k a tr x o S T og R)) (xwW k a tr x o S T (vp_updL og 0 ((rd 40 (S 9) b).toInt64)) R) := hD
  refine lv_goto (tgt := 15) hx hb dL_missesOf_9 (by decide) ?_
  refine lv_iconst (v := 0) hx hb dL_missesOf_15 (by decide) ?_
  refine W.widen (k := 1) (n := 6) (Nat.le_of_ble_eq_true rfl) (Nat.le_of_ble_eq_true rfl) ?_
  exact W.iret hx hb hr (fun t9 ht hW => ⟨rfl, by rw [ht]; exact hP, hS.F ht⟩) hS.2.2 dL_missesOf_16

set_option maxHeartbeats 4000000 in
set_option maxRecDepth 100000 in
theorem wokL_missingOf (l : Launch) {D : va_G} {k : Nat → ClassId} {a tr : Nat → Nat} {x o : Nat} {R : va_W} (S T : HS) (og : Nat → Int64) (f : Int32) (n : Nat) (hn4 : S 0 4 = nI n) (hn40 : n ≤ 40) (hk0 : xFlt S f) : LM l yL_missingOf cL_missingOf 4 [(0, 9, 12, 19)] rmL_missingOf D k (xwW k a tr x o S T og R) [.ref x, .int f, .ref o] 0 (xwW k a tr x o S T (vp_updL og 0 (nI (ct (fun j_ => S 3 j_ = f) 40) - nI (xRdyN S f n)).toInt64) R) := by
  refine LM_of rfl (Nat.le_of_ble_eq_true rfl) ?_
  intro p e s m below meth c hC hr hlk htab hE hP hD hX hZ hS ls hl
  have hC : CallFix p m c cL_missingOf 4 s _ lw_all RL := hC
  have hx := hC.1
  have hb := hC.2.1
  have hown : s.vm.findClass RL = some m.cls := hC.2.2.2.1
  have hts := hC.2.2.2.2
  have hl : lv_has ls 4 [(0, .ref x), (1, .int f), (2, .ref o)] := hl
  refine lv_aload_n hx hb dL_missingOf_0 rfl (lv_at hl 2 rfl) ?_
  refine lv_iconst (v := 0) hx hb dL_missingOf_1 (by decide) ?_
  refine lv_aload_n hx hb dL_missingOf_2 rfl (lv_at hl 0 rfl) ?_
  refine lv_iload_n hx hb dL_missingOf_3 rfl (lv_at hl 1 rfl) ?_
  refine c_pVi (rest := [.int 0, .ref o]) hC hE hP (metX4_missingOf l S f n hn4 hn40 hk0) gc_RL_95 hd_X4_missingOf ⟨rfl, rfl⟩ ⟨Nat.le_of_ble_eq_true rfl, Nat.le_of_ble_eq_true rfl⟩ 29 lo_29 rfl rfl hl.1 (Nat.le_of_ble_eq_true rfl) ⟨Nat.le_of_ble_eq_true rfl, Nat.le_of_ble_eq_true rfl⟩ dL_missingOf_4 ?_
  refine lv_i2l hx hb dL_missingOf_7 rfl ?_
  refine va_last (q0 := 59) (t0 := 2) hx hb hE.1 hP hD hS lo_59 rfl (vp_in_nI (n := 0) (N := 1) (by decide) (by decide)) dL_missingOf_8 (fun H locs hP hD hS => ?_)
  have hP : va_P D vwCl (xwW k a tr x o S T (vp_updL og 0 ((nI (ct (fun j_ => S 3 j_ = f) 40) - nI (xRdyN S f n)).toInt64)) R) H := hP
  have hD : va_D (va_in (xwW k a tr x o S T og R)) (xwW k a tr x o S T (vp_updL og 0 ((nI (ct (fun j_ => S 3 j_ = f) 40) - nI (xRdyN S f n)).toInt64)) R) := hD
  refine lv_goto (tgt := 15) hx hb dL_missingOf_9 (by decide) ?_
  refine lv_iconst (v := 0) hx hb dL_missingOf_15 (by decide) ?_
  refine W.widen (k := 1) (n := 6) (Nat.le_of_ble_eq_true rfl) (Nat.le_of_ble_eq_true rfl) ?_
  exact W.iret hx hb hr (fun t9 ht hW => ⟨rfl, by rw [ht]; exact hP, hS.F ht⟩) hS.2.2 dL_missingOf_16

set_option maxHeartbeats 4000000 in
set_option maxRecDepth 100000 in
theorem wokL_pass (l : Launch) {D : va_G} {k : Nat → ClassId} {a tr : Nat → Nat} {x o : Nat} {R : va_W} (S T : HS) (og : Nat → Int64) (N : Nat) (hN : N < 2 ^ 31) (hk0 : xM60 (nI N)) : LM l yL_pass cL_pass 4 [(0, 9, 12, 25)] rmL_pass D k (xwW k a tr x o S T og R) [.ref x, .int (nI N), .ref o] 0 (xwW k a tr x o (xGo S N).2 T (vp_updL og 0 ((xGo S N).1).toInt64) R) := by
  refine LM_of rfl (Nat.le_of_ble_eq_true rfl) ?_
  intro p e s m below meth c hC hr hlk htab hE hP hD hX hZ hS ls hl
  have hC : CallFix p m c cL_pass 4 s _ lw_all RL := hC
  have hx := hC.1
  have hb := hC.2.1
  have hown : s.vm.findClass RL = some m.cls := hC.2.2.2.1
  have hts := hC.2.2.2.2
  have hl : lv_has ls 4 [(0, .ref x), (1, .int (nI N)), (2, .ref o)] := hl
  refine lv_aload_n hx hb dL_pass_0 rfl (lv_at hl 2 rfl) ?_
  refine lv_iconst (v := 0) hx hb dL_pass_1 (by decide) ?_
  refine lv_aload_n hx hb dL_pass_2 rfl (lv_at hl 0 rfl) ?_
  refine lv_iload_n hx hb dL_pass_3 rfl (lv_at hl 1 rfl) ?_
  refine c_mVi (rest := [.int 0, .ref o]) hC hE hP hD hS (ws' := (xwW k a tr x o (xGo S N).2 T og R)) lo_same (metX4_pass l S N hN hk0) gc_RL_46 hd_X4_pass ⟨rfl, rfl⟩ ⟨Nat.le_of_ble_eq_true rfl, Nat.le_of_ble_eq_true rfl⟩ 29 lo_29 rfl rfl hl.1 (Nat.le_of_ble_eq_true rfl) ⟨Nat.le_of_ble_eq_true rfl, Nat.le_of_ble_eq_true rfl⟩ dL_pass_4 (fun H locs hP hD hS => ?_)
  refine lv_i2l hx hb dL_pass_7 rfl ?_
  refine va_last (q0 := 59) (t0 := 2) hx hb hE.1 hP hD hS lo_59 rfl (vp_in_nI (n := 0) (N := 1) (by decide) (by decide)) dL_pass_8 (fun H locs hP hD hS => ?_)
  have hP : va_P D vwCl (xwW k a tr x o (xGo S N).2 T (vp_updL og 0 (((xGo S N).1).toInt64)) R) H := hP
  have hD : va_D (va_in (xwW k a tr x o S T og R)) (xwW k a tr x o (xGo S N).2 T (vp_updL og 0 (((xGo S N).1).toInt64)) R) := hD
  refine lv_goto (tgt := 15) hx hb dL_pass_9 (by decide) ?_
  refine lv_iconst (v := 0) hx hb dL_pass_15 (by decide) ?_
  refine W.widen (k := 1) (n := 6) (Nat.le_of_ble_eq_true rfl) (Nat.le_of_ble_eq_true rfl) ?_
  exact W.iret hx hb hr (fun t9 ht hW => ⟨rfl, by rw [ht]; exact hP, hS.F ht⟩) hS.2.2 dL_pass_16

set_option maxHeartbeats 4000000 in
set_option maxRecDepth 100000 in
theorem wokL_placeOf (l : Launch) {D : va_G} {k : Nat → ClassId} {a tr : Nat → Nat} {x o : Nat} {R : va_W} (S T : HS) (og : Nat → Int64) (b : Int32) (hk0 : xBag S b) : LM l yL_placeOf cL_placeOf 4 [(0, 9, 12, 19)] rmL_placeOf D k (xwW k a tr x o S T og R) [.ref x, .int b, .ref o] 0 (xwW k a tr x o S T (vp_updL og 0 (fnd (S 12) b 0 12).toInt64) R) := by
  refine LM_of rfl (Nat.le_of_ble_eq_true rfl) ?_
  intro p e s m below meth c hC hr hlk htab hE hP hD hX hZ hS ls hl
  have hC : CallFix p m c cL_placeOf 4 s _ lw_all RL := hC
  have hx := hC.1
  have hb := hC.2.1
  have hown : s.vm.findClass RL = some m.cls := hC.2.2.2.1
  have hts := hC.2.2.2.2
  have hl : lv_has ls 4 [(0, .ref x), (1, .int b), (2, .ref o)] := hl
  refine lv_aload_n hx hb dL_placeOf_0 rfl (lv_at hl 2 rfl) ?_
  refine lv_iconst (v := 0) hx hb dL_placeOf_1 (by decide) ?_
  refine lv_aload_n hx hb dL_placeOf_2 rfl (lv_at hl 0 rfl) ?_
  refine lv_iload_n hx hb dL_placeOf_3 rfl (lv_at hl 1 rfl) ?_
  refine c_pVi (rest := [.int 0, .ref o]) hC hE hP (metX4_placeOf l S b hk0) gc_RL_55 hd_X4_placeOf ⟨rfl, rfl⟩ ⟨Nat.le_of_ble_eq_true rfl, Nat.le_of_ble_eq_true rfl⟩ 29 lo_29 rfl rfl hl.1 (Nat.le_of_ble_eq_true rfl) ⟨Nat.le_of_ble_eq_true rfl, Nat.le_of_ble_eq_true rfl⟩ dL_placeOf_4 ?_
  refine lv_i2l hx hb dL_placeOf_7 rfl ?_
  refine va_last (q0 := 59) (t0 := 2) hx hb hE.1 hP hD hS lo_59 rfl (vp_in_nI (n := 0) (N := 1) (by decide) (by decide)) dL_placeOf_8 (fun H locs hP hD hS => ?_)
  have hP : va_P D vwCl (xwW k a tr x o S T (vp_updL og 0 ((fnd (S 12) b 0 12).toInt64)) R) H := hP
  have hD : va_D (va_in (xwW k a tr x o S T og R)) (xwW k a tr x o S T (vp_updL og 0 ((fnd (S 12) b 0 12).toInt64)) R) := hD
  refine lv_goto (tgt := 15) hx hb dL_placeOf_9 (by decide) ?_
  refine lv_iconst (v := 0) hx hb dL_placeOf_15 (by decide) ?_
  refine W.widen (k := 1) (n := 6) (Nat.le_of_ble_eq_true rfl) (Nat.le_of_ble_eq_true rfl) ?_
  exact W.iret hx hb hr (fun t9 ht hW => ⟨rfl, by rw [ht]; exact hP, hS.F ht⟩) hS.2.2 dL_placeOf_16

set_option maxHeartbeats 4000000 in
set_option maxRecDepth 100000 in
theorem wokL_readFor (l : Launch) {D : va_G} {k : Nat → ClassId} {a tr : Nat → Nat} {x o : Nat} {R : va_W} (S T : HS) (og : Nat → Int64) (b : Int32) (hk0 : xBag S b) : LM l yL_readFor cL_readFor 4 [(0, 9, 12, 19)] rmL_readFor D k (xwW k a tr x o S T og R) [.ref x, .int b, .ref o] 0 (xwW k a tr x o S T (vp_updL og 0 (rd 40 (S 8) b).toInt64) R) := by
  refine LM_of rfl (Nat.le_of_ble_eq_true rfl) ?_
  intro p e s m below meth c hC hr hlk htab hE hP hD hX hZ hS ls hl
  have hC : CallFix p m c cL_readFor 4 s _ lw_all RL := hC
  have hx := hC.1
  have hb := hC.2.1
  have hown : s.vm.findClass RL = some m.cls := hC.2.2.2.1
  have hts := hC.2.2.2.2
  have hl : lv_has ls 4 [(0, .ref x), (1, .int b), (2, .ref o)] := hl
  refine lv_aload_n hx hb dL_readFor_0 rfl (lv_at hl 2 rfl) ?_
  refine lv_iconst (v := 0) hx hb dL_readFor_1 (by decide) ?_
  refine lv_aload_n hx hb dL_readFor_2 rfl (lv_at hl 0 rfl) ?_
  refine lv_iload_n hx hb dL_readFor_3 rfl (lv_at hl 1 rfl) ?_
  refine c_pVi (rest := [.int 0, .ref o]) hC hE hP (metX4_readFor l S b hk0) gc_RL_61 hd_X4_readFor ⟨rfl, rfl⟩ ⟨Nat.le_of_ble_eq_true rfl, Nat.le_of_ble_eq_true rfl⟩ 29 lo_29 rfl rfl hl.1 (Nat.le_of_ble_eq_true rfl) ⟨Nat.le_of_ble_eq_true rfl, Nat.le_of_ble_eq_true rfl⟩ dL_readFor_4 ?_
  refine lv_i2l hx hb dL_readFor_7 rfl ?_
  refine va_last (q0 := 59) (t0 := 2) hx hb hE.1 hP hD hS lo_59 rfl (vp_in_nI (n := 0) (N := 1) (by decide) (by decide)) dL_readFor_8 (fun H locs hP hD hS => ?_)
  have hP : va_P D vwCl (xwW k a tr x o S T (vp_updL og 0 ((rd 40 (S 8) b).toInt64)) R) H := hP
  have hD : va_D (va_in (xwW k a tr x o S T og R)) (xwW k a tr x o S T (vp_updL og 0 ((rd 40 (S 8) b).toInt64)) R) := hD
  refine lv_goto (tgt := 15) hx hb dL_readFor_9 (by decide) ?_
  refine lv_iconst (v := 0) hx hb dL_readFor_15 (by decide) ?_
  refine W.widen (k := 1) (n := 6) (Nat.le_of_ble_eq_true rfl) (Nat.le_of_ble_eq_true rfl) ?_
  exact W.iret hx hb hr (fun t9 ht hW => ⟨rfl, by rw [ht]; exact hP, hS.F ht⟩) hS.2.2 dL_readFor_16

set_option maxHeartbeats 4000000 in
set_option maxRecDepth 100000 in
theorem wokL_readyAfter (l : Launch) {D : va_G} {k : Nat → ClassId} {a tr : Nat → Nat} {x o : Nat} {R : va_W} (S T : HS) (og : Nat → Int64) (f : Int32) (N : Nat) (n : Nat) (hn4 : S 0 4 = nI n) (hn40 : n ≤ 40) (hN : N < 2 ^ 31) (hk0 : xFlt S f) (hk1 : xM60 (nI N)) : LM l yL_readyAfter cL_readyAfter 5 [(0, 10, 13, 19), (0, 10, 17, 25)] rmL_readyAfter D k (xwW k a tr x o S T og R) [.ref x, .int f, .int (nI N), .ref o] 0 (xwW k a tr x o S (xGo (xChg S f (rd 6 (S 1) f)) N).2 (vp_updL og 0 (nI (xBeh S f (rd 6 (S 1) f) N n)).toInt64) R) := by
  refine LM_of rfl (Nat.le_of_ble_eq_true rfl) ?_
  intro p e s m below meth c hC hr hlk htab hE hP hD hX hZ hS ls hl
  have hC : CallFix p m c cL_readyAfter 5 s _ lw_all RL := hC
  have hx := hC.1
  have hb := hC.2.1
  have hown : s.vm.findClass RL = some m.cls := hC.2.2.2.1
  have hts := hC.2.2.2.2
  have hl : lv_has ls 5 [(0, .ref x), (1, .int f), (2, .int (nI N)), (3, .ref o)] := hl
  refine lv_aload_n hx hb dL_readyAfter_0 rfl (lv_at hl 3 rfl) ?_
  refine lv_iconst (v := 0) hx hb dL_readyAfter_1 (by decide) ?_
  refine lv_aload_n hx hb dL_readyAfter_2 rfl (lv_at hl 0 rfl) ?_
  refine lv_iload_n hx hb dL_readyAfter_3 rfl (lv_at hl 1 rfl) ?_
  refine lv_iload_n hx hb dL_readyAfter_4 rfl (lv_at hl 2 rfl) ?_
  refine c_mVi (rest := [.int 0, .ref o]) hC hE hP hD hS (ws' := (xwW k a tr x o S (xGo (xChg S f (rd 6 (S 1) f)) N).2 og R)) lo_same (metX4_readyAfter l S T f N n hn4 hn40 hN hk0 hk1) gc_RL_101 hd_X4_readyAfter ⟨rfl, rfl⟩ ⟨Nat.le_of_ble_eq_true rfl, Nat.le_of_ble_eq_true rfl⟩ 29 lo_29 rfl rfl hl.1 (Nat.le_of_ble_eq_true rfl) ⟨Nat.le_of_ble_eq_true rfl, Nat.le_of_ble_eq_true rfl⟩ dL_readyAfter_5 (fun H locs hP hD hS => ?_)
  refine lv_i2l hx hb dL_readyAfter_8 rfl ?_
  refine va_last (q0 := 59) (t0 := 2) hx hb hE.1 hP hD hS lo_59 rfl (vp_in_nI (n := 0) (N := 1) (by decide) (by decide)) dL_readyAfter_9 (fun H locs hP hD hS => ?_)
  have hP : va_P D vwCl (xwW k a tr x o S (xGo (xChg S f (rd 6 (S 1) f)) N).2 (vp_updL og 0 ((nI (xBeh S f (rd 6 (S 1) f) N n)).toInt64)) R) H := hP
  have hD : va_D (va_in (xwW k a tr x o S T og R)) (xwW k a tr x o S (xGo (xChg S f (rd 6 (S 1) f)) N).2 (vp_updL og 0 ((nI (xBeh S f (rd 6 (S 1) f) N n)).toInt64)) R) := hD
  refine lv_goto (tgt := 21) hx hb dL_readyAfter_10 (by decide) ?_
  refine lv_iconst (v := 0) hx hb dL_readyAfter_21 (by decide) ?_
  refine W.widen (k := 1) (n := 6) (Nat.le_of_ble_eq_true rfl) (Nat.le_of_ble_eq_true rfl) ?_
  exact W.iret hx hb hr (fun t9 ht hW => ⟨rfl, by rw [ht]; exact hP, hS.F ht⟩) hS.2.2 dL_readyAfter_22

set_option maxHeartbeats 4000000 in
set_option maxRecDepth 100000 in
theorem wokL_readyOf (l : Launch) {D : va_G} {k : Nat → ClassId} {a tr : Nat → Nat} {x o : Nat} {R : va_W} (S T : HS) (og : Nat → Int64) (f : Int32) (n : Nat) (hn4 : S 0 4 = nI n) (hn40 : n ≤ 40) (hk0 : xFlt S f) : LM l yL_readyOf cL_readyOf 4 [(0, 9, 12, 19)] rmL_readyOf D k (xwW k a tr x o S T og R) [.ref x, .int f, .ref o] 0 (xwW k a tr x o S T (vp_updL og 0 (nI (xRdyN S f n)).toInt64) R) := by
  refine LM_of rfl (Nat.le_of_ble_eq_true rfl) ?_
  intro p e s m below meth c hC hr hlk htab hE hP hD hX hZ hS ls hl
  have hC : CallFix p m c cL_readyOf 4 s _ lw_all RL := hC
  have hx := hC.1
  have hb := hC.2.1
  have hown : s.vm.findClass RL = some m.cls := hC.2.2.2.1
  have hts := hC.2.2.2.2
  have hl : lv_has ls 4 [(0, .ref x), (1, .int f), (2, .ref o)] := hl
  refine lv_aload_n hx hb dL_readyOf_0 rfl (lv_at hl 2 rfl) ?_
  refine lv_iconst (v := 0) hx hb dL_readyOf_1 (by decide) ?_
  refine lv_aload_n hx hb dL_readyOf_2 rfl (lv_at hl 0 rfl) ?_
  refine lv_iload_n hx hb dL_readyOf_3 rfl (lv_at hl 1 rfl) ?_
  refine c_pVi (rest := [.int 0, .ref o]) hC hE hP (metX4_readyOf l S f n hn4 hn40 hk0) gc_RL_92 hd_X4_readyOf ⟨rfl, rfl⟩ ⟨Nat.le_of_ble_eq_true rfl, Nat.le_of_ble_eq_true rfl⟩ 29 lo_29 rfl rfl hl.1 (Nat.le_of_ble_eq_true rfl) ⟨Nat.le_of_ble_eq_true rfl, Nat.le_of_ble_eq_true rfl⟩ dL_readyOf_4 ?_
  refine lv_i2l hx hb dL_readyOf_7 rfl ?_
  refine va_last (q0 := 59) (t0 := 2) hx hb hE.1 hP hD hS lo_59 rfl (vp_in_nI (n := 0) (N := 1) (by decide) (by decide)) dL_readyOf_8 (fun H locs hP hD hS => ?_)
  have hP : va_P D vwCl (xwW k a tr x o S T (vp_updL og 0 ((nI (xRdyN S f n)).toInt64)) R) H := hP
  have hD : va_D (va_in (xwW k a tr x o S T og R)) (xwW k a tr x o S T (vp_updL og 0 ((nI (xRdyN S f n)).toInt64)) R) := hD
  refine lv_goto (tgt := 15) hx hb dL_readyOf_9 (by decide) ?_
  refine lv_iconst (v := 0) hx hb dL_readyOf_15 (by decide) ?_
  refine W.widen (k := 1) (n := 6) (Nat.le_of_ble_eq_true rfl) (Nat.le_of_ble_eq_true rfl) ?_
  exact W.iret hx hb hr (fun t9 ht hW => ⟨rfl, by rw [ht]; exact hP, hS.F ht⟩) hS.2.2 dL_readyOf_16

set_option maxHeartbeats 4000000 in
set_option maxRecDepth 100000 in
theorem wokL_roomOf (l : Launch) {D : va_G} {k : Nat → ClassId} {a tr : Nat → Nat} {x o : Nat} {R : va_W} (S T : HS) (og : Nat → Int64) (ch : Int32) (hk0 : xCh ch) : LM l yL_roomOf cL_roomOf 4 [(0, 9, 12, 19)] rmL_roomOf D k (xwW k a tr x o S T og R) [.ref x, .int ch, .ref o] 0 (xwW k a tr x o S T (vp_updL og 0 (rd 4 (S 11) ch).toInt64) R) := by
  refine LM_of rfl (Nat.le_of_ble_eq_true rfl) ?_
  intro p e s m below meth c hC hr hlk htab hE hP hD hX hZ hS ls hl
  have hC : CallFix p m c cL_roomOf 4 s _ lw_all RL := hC
  have hx := hC.1
  have hb := hC.2.1
  have hown : s.vm.findClass RL = some m.cls := hC.2.2.2.1
  have hts := hC.2.2.2.2
  have hl : lv_has ls 4 [(0, .ref x), (1, .int ch), (2, .ref o)] := hl
  refine lv_aload_n hx hb dL_roomOf_0 rfl (lv_at hl 2 rfl) ?_
  refine lv_iconst (v := 0) hx hb dL_roomOf_1 (by decide) ?_
  refine lv_aload_n hx hb dL_roomOf_2 rfl (lv_at hl 0 rfl) ?_
  refine lv_iload_n hx hb dL_roomOf_3 rfl (lv_at hl 1 rfl) ?_
  refine c_pVi (rest := [.int 0, .ref o]) hC hE hP (metX4_roomOf l S ch hk0) gc_RL_83 hd_X4_roomOf ⟨rfl, rfl⟩ ⟨Nat.le_of_ble_eq_true rfl, Nat.le_of_ble_eq_true rfl⟩ 29 lo_29 rfl rfl hl.1 (Nat.le_of_ble_eq_true rfl) ⟨Nat.le_of_ble_eq_true rfl, Nat.le_of_ble_eq_true rfl⟩ dL_roomOf_4 ?_
  refine lv_i2l hx hb dL_roomOf_7 rfl ?_
  refine va_last (q0 := 59) (t0 := 2) hx hb hE.1 hP hD hS lo_59 rfl (vp_in_nI (n := 0) (N := 1) (by decide) (by decide)) dL_roomOf_8 (fun H locs hP hD hS => ?_)
  have hP : va_P D vwCl (xwW k a tr x o S T (vp_updL og 0 ((rd 4 (S 11) ch).toInt64)) R) H := hP
  have hD : va_D (va_in (xwW k a tr x o S T og R)) (xwW k a tr x o S T (vp_updL og 0 ((rd 4 (S 11) ch).toInt64)) R) := hD
  refine lv_goto (tgt := 15) hx hb dL_roomOf_9 (by decide) ?_
  refine lv_iconst (v := 0) hx hb dL_roomOf_15 (by decide) ?_
  refine W.widen (k := 1) (n := 6) (Nat.le_of_ble_eq_true rfl) (Nat.le_of_ble_eq_true rfl) ?_
  exact W.iret hx hb hr (fun t9 ht hW => ⟨rfl, by rw [ht]; exact hP, hS.F ht⟩) hS.2.2 dL_roomOf_16

set_option maxHeartbeats 4000000 in
set_option maxRecDepth 100000 in
theorem wokL_setReader (l : Launch) {D : va_G} {k : Nat → ClassId} {a tr : Nat → Nat} {x o : Nat} {R : va_W} (S T : HS) (og : Nat → Int64) (z : Int32) (hk0 : ((¬ (z < 0)) ∧ (¬ (9 < z)))) : LM l yL_setReader cL_setReader 4 [(0, 9, 12, 25)] rmL_setReader D k (xwW k a tr x o S T og R) [.ref x, .int z, .ref o] 0 (xwW k a tr x o (sf S 0 (upd (S 0) 1 z)) T (vp_updL og 0 (S 0 1).toInt64) R) := by
  refine LM_of rfl (Nat.le_of_ble_eq_true rfl) ?_
  intro p e s m below meth c hC hr hlk htab hE hP hD hX hZ hS ls hl
  have hC : CallFix p m c cL_setReader 4 s _ lw_all RL := hC
  have hx := hC.1
  have hb := hC.2.1
  have hown : s.vm.findClass RL = some m.cls := hC.2.2.2.1
  have hts := hC.2.2.2.2
  have hl : lv_has ls 4 [(0, .ref x), (1, .int z), (2, .ref o)] := hl
  refine lv_aload_n hx hb dL_setReader_0 rfl (lv_at hl 2 rfl) ?_
  refine lv_iconst (v := 0) hx hb dL_setReader_1 (by decide) ?_
  refine lv_aload_n hx hb dL_setReader_2 rfl (lv_at hl 0 rfl) ?_
  refine lv_iload_n hx hb dL_setReader_3 rfl (lv_at hl 1 rfl) ?_
  refine c_mVi (rest := [.int 0, .ref o]) hC hE hP hD hS (ws' := (xwW k a tr x o (sf S 0 (upd (S 0) 1 z)) T og R)) lo_same (metX4_setReader l S z hk0) gc_RL_21 hd_X4_setReader ⟨rfl, rfl⟩ ⟨Nat.le_of_ble_eq_true rfl, Nat.le_of_ble_eq_true rfl⟩ 29 lo_29 rfl rfl hl.1 (Nat.le_of_ble_eq_true rfl) ⟨Nat.le_of_ble_eq_true rfl, Nat.le_of_ble_eq_true rfl⟩ dL_setReader_4 (fun H locs hP hD hS => ?_)
  refine lv_i2l hx hb dL_setReader_7 rfl ?_
  refine va_last (q0 := 59) (t0 := 2) hx hb hE.1 hP hD hS lo_59 rfl (vp_in_nI (n := 0) (N := 1) (by decide) (by decide)) dL_setReader_8 (fun H locs hP hD hS => ?_)
  have hP : va_P D vwCl (xwW k a tr x o (sf S 0 (upd (S 0) 1 z)) T (vp_updL og 0 ((S 0 1).toInt64)) R) H := hP
  have hD : va_D (va_in (xwW k a tr x o S T og R)) (xwW k a tr x o (sf S 0 (upd (S 0) 1 z)) T (vp_updL og 0 ((S 0 1).toInt64)) R) := hD
  refine lv_goto (tgt := 15) hx hb dL_setReader_9 (by decide) ?_
  refine lv_iconst (v := 0) hx hb dL_setReader_15 (by decide) ?_
  refine W.widen (k := 1) (n := 6) (Nat.le_of_ble_eq_true rfl) (Nat.le_of_ble_eq_true rfl) ?_
  exact W.iret hx hb hr (fun t9 ht hW => ⟨rfl, by rw [ht]; exact hP, hS.F ht⟩) hS.2.2 dL_setReader_16

set_option maxHeartbeats 4000000 in
set_option maxRecDepth 100000 in
theorem wokL_setRoom (l : Launch) {D : va_G} {k : Nat → ClassId} {a tr : Nat → Nat} {x o : Nat} {R : va_W} (S T : HS) (og : Nat → Int64) (ch : Int32) (z : Int32) (hk0 : xCh ch) (hk1 : ((¬ (z < 1)) ∧ (¬ (20 < z)))) : LM l yL_setRoom cL_setRoom 5 [(0, 10, 13, 19), (0, 10, 17, 25)] rmL_setRoom D k (xwW k a tr x o S T og R) [.ref x, .int ch, .int z, .ref o] 0 (xwW k a tr x o (sf S 11 (wr 4 (S 11) ch z)) T (vp_updL og 0 (rd 4 (S 11) ch).toInt64) R) := by
  refine LM_of rfl (Nat.le_of_ble_eq_true rfl) ?_
  intro p e s m below meth c hC hr hlk htab hE hP hD hX hZ hS ls hl
  have hC : CallFix p m c cL_setRoom 5 s _ lw_all RL := hC
  have hx := hC.1
  have hb := hC.2.1
  have hown : s.vm.findClass RL = some m.cls := hC.2.2.2.1
  have hts := hC.2.2.2.2
  have hl : lv_has ls 5 [(0, .ref x), (1, .int ch), (2, .int z), (3, .ref o)] := hl
  refine lv_aload_n hx hb dL_setRoom_0 rfl (lv_at hl 3 rfl) ?_
  refine lv_iconst (v := 0) hx hb dL_setRoom_1 (by decide) ?_
  refine lv_aload_n hx hb dL_setRoom_2 rfl (lv_at hl 0 rfl) ?_
  refine lv_iload_n hx hb dL_setRoom_3 rfl (lv_at hl 1 rfl) ?_
  refine lv_iload_n hx hb dL_setRoom_4 rfl (lv_at hl 2 rfl) ?_
  refine c_mVi (rest := [.int 0, .ref o]) hC hE hP hD hS (ws' := (xwW k a tr x o (sf S 11 (wr 4 (S 11) ch z)) T og R)) lo_same (metX4_setRoom l S ch z hk0 hk1) gc_RL_27 hd_X4_setRoom ⟨rfl, rfl⟩ ⟨Nat.le_of_ble_eq_true rfl, Nat.le_of_ble_eq_true rfl⟩ 29 lo_29 rfl rfl hl.1 (Nat.le_of_ble_eq_true rfl) ⟨Nat.le_of_ble_eq_true rfl, Nat.le_of_ble_eq_true rfl⟩ dL_setRoom_5 (fun H locs hP hD hS => ?_)
  refine lv_i2l hx hb dL_setRoom_8 rfl ?_
  refine va_last (q0 := 59) (t0 := 2) hx hb hE.1 hP hD hS lo_59 rfl (vp_in_nI (n := 0) (N := 1) (by decide) (by decide)) dL_setRoom_9 (fun H locs hP hD hS => ?_)
  have hP : va_P D vwCl (xwW k a tr x o (sf S 11 (wr 4 (S 11) ch z)) T (vp_updL og 0 ((rd 4 (S 11) ch).toInt64)) R) H := hP
  have hD : va_D (va_in (xwW k a tr x o S T og R)) (xwW k a tr x o (sf S 11 (wr 4 (S 11) ch z)) T (vp_updL og 0 ((rd 4 (S 11) ch).toInt64)) R) := hD
  refine lv_goto (tgt := 21) hx hb dL_setRoom_10 (by decide) ?_
  refine lv_iconst (v := 0) hx hb dL_setRoom_21 (by decide) ?_
  refine W.widen (k := 1) (n := 6) (Nat.le_of_ble_eq_true rfl) (Nat.le_of_ble_eq_true rfl) ?_
  exact W.iret hx hb hr (fun t9 ht hW => ⟨rfl, by rw [ht]; exact hP, hS.F ht⟩) hS.2.2 dL_setRoom_22

set_option maxHeartbeats 4000000 in
set_option maxRecDepth 100000 in
theorem wokL_sweep (l : Launch) {D : va_G} {k : Nat → ClassId} {a tr : Nat → Nat} {x o : Nat} {R : va_W} (S T : HS) (og : Nat → Int64) (ch : Int32) (n : Nat) (hn4 : S 0 4 = nI n) (hn40 : n ≤ 40) (hk0 : xCh ch) : LM l yL_sweep cL_sweep 4 [(0, 9, 12, 19)] rmL_sweep D k (xwW k a tr x o S T og R) [.ref x, .int ch, .ref o] 0 (xwW k a tr x o (xCl S ch n).2 T (vp_updL og 0 (nI (xCl S ch n).1).toInt64) R) := by
  refine LM_of rfl (Nat.le_of_ble_eq_true rfl) ?_
  intro p e s m below meth c hC hr hlk htab hE hP hD hX hZ hS ls hl
  have hC : CallFix p m c cL_sweep 4 s _ lw_all RL := hC
  have hx := hC.1
  have hb := hC.2.1
  have hown : s.vm.findClass RL = some m.cls := hC.2.2.2.1
  have hts := hC.2.2.2.2
  have hl : lv_has ls 4 [(0, .ref x), (1, .int ch), (2, .ref o)] := hl
  refine lv_aload_n hx hb dL_sweep_0 rfl (lv_at hl 2 rfl) ?_
  refine lv_iconst (v := 0) hx hb dL_sweep_1 (by decide) ?_
  refine lv_aload_n hx hb dL_sweep_2 rfl (lv_at hl 0 rfl) ?_
  refine lv_iload_n hx hb dL_sweep_3 rfl (lv_at hl 1 rfl) ?_
  refine c_mVi (rest := [.int 0, .ref o]) hC hE hP hD hS (ws' := (xwW k a tr x o (xCl S ch n).2 T og R)) lo_same (metX4_sweep l S ch n hn4 hn40 hk0) gc_RL_40 hd_X4_sweep ⟨rfl, rfl⟩ ⟨Nat.le_of_ble_eq_true rfl, Nat.le_of_ble_eq_true rfl⟩ 29 lo_29 rfl rfl hl.1 (Nat.le_of_ble_eq_true rfl) ⟨Nat.le_of_ble_eq_true rfl, Nat.le_of_ble_eq_true rfl⟩ dL_sweep_4 (fun H locs hP hD hS => ?_)
  refine lv_i2l hx hb dL_sweep_7 rfl ?_
  refine va_last (q0 := 59) (t0 := 2) hx hb hE.1 hP hD hS lo_59 rfl (vp_in_nI (n := 0) (N := 1) (by decide) (by decide)) dL_sweep_8 (fun H locs hP hD hS => ?_)
  have hP : va_P D vwCl (xwW k a tr x o (xCl S ch n).2 T (vp_updL og 0 ((nI (xCl S ch n).1).toInt64)) R) H := hP
  have hD : va_D (va_in (xwW k a tr x o S T og R)) (xwW k a tr x o (xCl S ch n).2 T (vp_updL og 0 ((nI (xCl S ch n).1).toInt64)) R) := hD
  refine lv_goto (tgt := 15) hx hb dL_sweep_9 (by decide) ?_
  refine lv_iconst (v := 0) hx hb dL_sweep_15 (by decide) ?_
  refine W.widen (k := 1) (n := 6) (Nat.le_of_ble_eq_true rfl) (Nat.le_of_ble_eq_true rfl) ?_
  exact W.iret hx hb hr (fun t9 ht hW => ⟨rfl, by rw [ht]; exact hP, hS.F ht⟩) hS.2.2 dL_sweep_16

set_option maxHeartbeats 4000000 in
set_option maxRecDepth 100000 in
theorem wokL_whereIs (l : Launch) {D : va_G} {k : Nat → ClassId} {a tr : Nat → Nat} {x o : Nat} {R : va_W} (S T : HS) (og : Nat → Int64) (b : Int32) (hk0 : xBag S b) : LM l yL_whereIs cL_whereIs 4 [(0, 9, 12, 19)] rmL_whereIs D k (xwW k a tr x o S T og R) [.ref x, .int b, .ref o] 0 (xwW k a tr x o S T (vp_updL og 0 (rd 40 (S 6) b).toInt64) R) := by
  refine LM_of rfl (Nat.le_of_ble_eq_true rfl) ?_
  intro p e s m below meth c hC hr hlk htab hE hP hD hX hZ hS ls hl
  have hC : CallFix p m c cL_whereIs 4 s _ lw_all RL := hC
  have hx := hC.1
  have hb := hC.2.1
  have hown : s.vm.findClass RL = some m.cls := hC.2.2.2.1
  have hts := hC.2.2.2.2
  have hl : lv_has ls 4 [(0, .ref x), (1, .int b), (2, .ref o)] := hl
  refine lv_aload_n hx hb dL_whereIs_0 rfl (lv_at hl 2 rfl) ?_
  refine lv_iconst (v := 0) hx hb dL_whereIs_1 (by decide) ?_
  refine lv_aload_n hx hb dL_whereIs_2 rfl (lv_at hl 0 rfl) ?_
  refine lv_iload_n hx hb dL_whereIs_3 rfl (lv_at hl 1 rfl) ?_
  refine c_pVi (rest := [.int 0, .ref o]) hC hE hP (metX4_whereIs l S b hk0) gc_RL_52 hd_X4_whereIs ⟨rfl, rfl⟩ ⟨Nat.le_of_ble_eq_true rfl, Nat.le_of_ble_eq_true rfl⟩ 29 lo_29 rfl rfl hl.1 (Nat.le_of_ble_eq_true rfl) ⟨Nat.le_of_ble_eq_true rfl, Nat.le_of_ble_eq_true rfl⟩ dL_whereIs_4 ?_
  refine lv_i2l hx hb dL_whereIs_7 rfl ?_
  refine va_last (q0 := 59) (t0 := 2) hx hb hE.1 hP hD hS lo_59 rfl (vp_in_nI (n := 0) (N := 1) (by decide) (by decide)) dL_whereIs_8 (fun H locs hP hD hS => ?_)
  have hP : va_P D vwCl (xwW k a tr x o S T (vp_updL og 0 ((rd 40 (S 6) b).toInt64)) R) H := hP
  have hD : va_D (va_in (xwW k a tr x o S T og R)) (xwW k a tr x o S T (vp_updL og 0 ((rd 40 (S 6) b).toInt64)) R) := hD
  refine lv_goto (tgt := 15) hx hb dL_whereIs_9 (by decide) ?_
  refine lv_iconst (v := 0) hx hb dL_whereIs_15 (by decide) ?_
  refine W.widen (k := 1) (n := 6) (Nat.le_of_ble_eq_true rfl) (Nat.le_of_ble_eq_true rfl) ?_
  exact W.iret hx hb hr (fun t9 ht hW => ⟨rfl, by rw [ht]; exact hP, hS.F ht⟩) hS.2.2 dL_whereIs_16

