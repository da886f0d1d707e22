/-! exceptions: what rides beside the world; contracts that throw; the contracts of the law's own helpers -/
abbrev nmE : List String := ["java/lang/RuntimeException", "java/lang/Exception"]
def xB : List Cond := [.castable "java/lang/IllegalStateException" "java/lang/IllegalStateException", .castable "java/lang/IndexOutOfBoundsException" "java/lang/IndexOutOfBoundsException", .castable "java/lang/IllegalArgumentException" "java/lang/IllegalArgumentException", .declares ⟨"java/lang/RuntimeException", "<init>", "(Ljava/lang/String;)V"⟩, .declares ⟨"java/lang/Exception", "<init>", "(Ljava/lang/String;)V"⟩, .declares ⟨"java/lang/Throwable", "<init>", "(Ljava/lang/String;)V"⟩]
set_option maxRecDepth 100000 in
theorem at_ISE : ∀ w ∈ (vx_atS RX4 33 "java/lang/IllegalStateException" nmE).filter goodWord, w ∈ lw_all := lw_sub [18, 196, 205, 209, 212, 214, 197, 198, 32, 33, 199, 204, 210, 230, 186, 231, 188, 232, 190, 200, 202, 192, 226, 227, 229, 192, 633, 634, 635, 220, 220, 221, 222, 223, 223, 224, 225, 226, 632, 623, 625, 207, 626, 627, 628, 629, 228, 194, 630] (by decide +kernel) (by decide +kernel)
theorem bt_ISE : ∀ w ∈ (vx_atS RX4 33 "java/lang/IllegalStateException" nmE).filter (fun w => !goodWord w), w ∈ xB := by decide +kernel
theorem gd_ISE : ∀ w ∈ Cond.classLink RX4 29 "java/lang/IllegalStateException" :: Cond.initialized "java/lang/IllegalStateException" :: vx_atS RX4 33 "java/lang/IllegalStateException" nmE, vx_ot w = true := by decide +kernel
set_option maxRecDepth 100000 in
theorem at_IOB : ∀ w ∈ (vx_atS RX4 165 "java/lang/IndexOutOfBoundsException" nmE).filter goodWord, w ∈ lw_all := lw_sub [18, 196, 205, 209, 212, 214, 197, 198, 32, 33, 199, 204, 210, 230, 186, 231, 188, 232, 190, 200, 202, 192, 226, 227, 229, 192, 316, 317, 318, 220, 220, 221, 222, 223, 223, 224, 225, 226, 315, 306, 308, 208, 309, 310, 311, 312, 228, 194, 313] (by decide +kernel) (by decide +kernel)
theorem bt_IOB : ∀ w ∈ (vx_atS RX4 165 "java/lang/IndexOutOfBoundsException" nmE).filter (fun w => !goodWord w), w ∈ xB := by decide +kernel
theorem gd_IOB : ∀ w ∈ Cond.classLink RX4 161 "java/lang/IndexOutOfBoundsException" :: Cond.initialized "java/lang/IndexOutOfBoundsException" :: vx_atS RX4 165 "java/lang/IndexOutOfBoundsException" nmE, vx_ot w = true := by decide +kernel
set_option maxRecDepth 100000 in
theorem at_IAE : ∀ w ∈ (vx_atS RX4 58 "java/lang/IllegalArgumentException" nmE).filter goodWord, w ∈ lw_all := lw_sub [18, 196, 205, 209, 212, 214, 197, 198, 32, 33, 199, 204, 210, 230, 186, 231, 188, 232, 190, 200, 202, 192, 226, 227, 229, 192, 217, 218, 219, 220, 220, 221, 222, 223, 223, 224, 225, 226, 216, 175, 183, 184, 185, 187, 189, 191, 228, 194, 193] (by decide +kernel) (by decide +kernel)
theorem bt_IAE : ∀ w ∈ (vx_atS RX4 58 "java/lang/IllegalArgumentException" nmE).filter (fun w => !goodWord w), w ∈ xB := by decide +kernel
theorem gd_IAE : ∀ w ∈ Cond.classLink RX4 54 "java/lang/IllegalArgumentException" :: Cond.initialized "java/lang/IllegalArgumentException" :: vx_atS RX4 58 "java/lang/IllegalArgumentException" nmE, vx_ot w = true := by decide +kernel
def xStr : List (Nat × String) := [(224, "the minutes are not 1 to 60"), (218, "there is no such bag"), (163, "there is no such place"), (222, "there is no such chute"), (220, "there is no such flight"), (31, "there are all the flights already"), (226, "the flight is gone"), (56, "the strength is not 0 to 9"), (62, "the room is not 1 to 20"), (228, "the bag is neither at the desk nor in the room for big ones"), (114, "the flight has no chute, or its chute no room"), (122, "the bag's flight is not gone"), (78, "the size is not 1 to 9, or the smudge not 0 to 9"), (87, "there are all the bags already")]
/-- the strings, the words that are not of the tables' good ones -/
def xK (U : State) : Prop := (∀ q ∈ xStr, ∃ a, vk_R RX4 q.1 q.2 a U) ∧ (∀ w ∈ xB, va_Nw w U) ∧ True
theorem xB_warm {s U : State} (hW : s.WarmedH U.vm) (h : ∀ w ∈ xB, va_Nw w s) : ∀ w ∈ xB, va_Nw w U := by
  intro w hw
  have h1 := h w hw
  unfold xB at hw
  simp only [List.mem_cons, List.not_mem_nil, or_false] at hw
  rcases hw with rfl | rfl | rfl | rfl | rfl | rfl
  · exact va_Nw.warmC hW h1
  · exact va_Nw.warmC hW h1
  · exact va_Nw.warmC hW h1
  · exact va_Nw.warmD hW h1
  · exact va_Nw.warmD hW h1
  · exact va_Nw.warmD hW h1
theorem xB_ot : ∀ w ∈ xB, w.onTables = true := by decide +kernel
theorem xK_warm {s U : State} (hW : s.WarmedH U.vm) (h : xK s) : xK U := by
  obtain ⟨h1, h2, -⟩ := h
  exact ⟨fun q hq => (h1 q hq).elim (fun a ha => ⟨a, vk_R.warm hW ha⟩), xB_warm hW h2, trivial⟩
theorem xK_calling {U : State} {g : JFrame} {mk : MethodId} {a : Array Value} (h : xK U) : xK (U.calling g mk a) := by
  obtain ⟨h1, h2, -⟩ := h
  exact ⟨fun q hq => (h1 q hq).elim (fun a ha => ⟨a, vk_R.same rfl ha⟩), fun w hw => va_Nw.same (u := U) (U := U.calling g mk a) (xB_ot w hw) rfl (h2 w hw), trivial⟩
/-- Throwable's two statics, where a throw reads them -/
def xZ (U : State) (H : Heap) : Prop := vx_Zq Bundle.tN "UNASSIGNED_STACK" Bundle.steD (fun _ => False) U H ∧ vx_Zq Bundle.tN "SUPPRESSED_SENTINEL" Bundle.listD (fun _ => False) U H
theorem xZ_moved {u U : State} {H : Heap} (hvm : u.vm.Alike U.vm) (h : xZ u H) : xZ U H := ⟨vx_Zq.moved hvm h.1, vx_Zq.moved hvm h.2⟩
def xP (D : va_G) (k : Nat → ClassId) (w : va_W) (U : State) : Prop := eK D k U ∧ va_P D vwCl w U.heap ∧ xK U ∧ xZ U U.heap
theorem xP_blind {D : va_G} {k : Nat → ClassId} {w : va_W} {av : List Value} : FrameBlind (va_Pc av (xP D k w)) := fun _ U g mk h => ⟨h.1, eK_calling h.2.1, h.2.2.1, xK_calling h.2.2.2.1, xZ_moved (u := U) (Vm.Alike.refl U.vm) h.2.2.2.2⟩
/-- a method that throws an E, for the start that it is said of; it has made one object of six slots, and written nothing -/
def xC (D : va_G) (w : va_W) (E : String) : String → State → State → Prop := fun E' st t => E' = E ∧ va_P D vwCl w t.heap ∧ va_F (fun _ => False) st t
abbrev rx (r : Room) : Room := { frames := r.frames, cells := 1, slots := 6, locals := r.locals }
abbrev XM (l : Launch) (y : MethodName) (cc : ByteArray) (n : Nat) (r : Option FieldType) (rm : Room) (D : va_G) (k : Nat → ClassId) (w : va_W) (av : List Value) (E : String) : Prop := vx_Met l y (ws_ y cc n r) (rx rm) (va_Pc av (xP D k w)) (fun _ _ _ _ => False) (xC D w E) 1 6 (fun _ => False)
theorem XM_of {l : Launch} {y : MethodName} {cc : ByteArray} {n : Nat} {r : Option FieldType} {rm : Room} {D : va_G} {k : Nat → ClassId} {w : va_W} {av : List Value} {E : String} (hy : plainName y.cls = true) (hlen : (lg_sl av).length ≤ n)
    (body : ∀ (p : Program) (e : Env) (s : State) (m : MethodId) (below : List Frame) (meth : Method) (c : Code), CallFix p m c cc n s av.toArray lw_all y.cls → meth.locks = false → (∀ x ∈ c.exceptionTable.toList, False) → eK D k s → va_P D vwCl w s.heap → xK s → xZ s s.heap → ∀ ls, lv_has ls n (lv_args 0 av) →
      W p l e (rx rm) s m av.toArray below meth c s.heap [] 0 0 (vx_MQ below (fun _ _ _ _ => False) (xC D w E) av.toArray s 1 6 (fun _ => False)) (F0 m 0 ls [])) : XM l y cc n r rm D k w av E := by
  refine vx_ofW (cc := cc) (maxL := n) (ret := r) hy rfl ?_
  intro p e s m args below meth c s₁ B hml hnt hv
  obtain ⟨rfl, hE, hP, hX, hZ⟩ := hv
  have hts := atoms_spec (ws := ws_ y cc n r) B.pre
  rw [lg_entry_eq]
  exact body p e s m below meth c ⟨B.exec, B.bytes, hml, findClass_of_methodNamed B.named, fun w h => hts w (List.mem_cons_of_mem _ h)⟩ B.notSynchronized hnt hE hP hX hZ _ (lv_entry av hlen)
theorem va_P_grown {D : va_G} {ws : va_W} {H H1 : Heap} (h : va_P D vwCl ws H) (hk : ∀ q : Nat, q < H.size → H1[q]? = H[q]?) : va_P D vwCl ws H1 := h.kept fun k q hq => hk q.1 (vx_lt h hq)
section XW
variable {p : Program} {l : Launch} {e : Env} {R : Room} {s : State} {m : MethodId} {args : Array Value} {below : List Frame} {meth : Method} {c : Code} {H : Heap} {locs : List Loc} {cells slots : Nat} {Q : State → Prop}
variable {cc bytes : ByteArray} {pc index nL maxL : Nat} {own C E : String} {y : MethodName} {ret : Option FieldType} {rm : Room} {D : va_G} {k : Nat → ClassId} {ws ws' : va_W} {A : Nat → Prop} {H0 : Heap} {ls : Array Slot} {st rest As : List Value} {b a : Nat} {g : JFrame}
/-- behind a call that throws -/
theorem c_thrown (hr : vx_Run p l e R s m args below meth c H locs cells slots 1 6 g rest (fun _ _ _ => False) (xC D ws E) (fun _ => False))
    (kx : ∀ (ce : Cell) (q9 : Addr) (H1 : Heap), H1[q9]? = some ce → ce.vm = .none → s.vm.findClass E = some ce.cls → va_P D vwCl ws H1 → H.size ≤ H1.size → (∀ q : Nat, q < H.size → H1[q]? = H[q]?) → vx_W p l e R s m args below meth c H1 locs (cells + 1) (slots + 6) Q { g with stack := rest } q9) : W p l e R s m args below meth c H locs cells slots Q g := by
  intro T hT X
  rcases hr T hT X with ⟨v, st₀, t, T', L, h0, X', hL, e1, e2, hF, stp⟩ | ⟨q, st₀, t, T', L, E9, ce, h0, X', hL, e1, e2, ⟨rfl, hP1, hF⟩, hce, hcv, hcl, stp⟩
  · exact hF.elim
  · have hnil : L = [] := by
      cases L with
      | nil => rfl
      | cons z L => exact (hL z List.mem_cons_self).elim
    subst hnil
    rw [List.append_nil] at X'
    obtain ⟨t2, a1, b1⟩ := kx ce q T'.heap (by rw [e1]; exact hce) hcv hcl (by rw [e1]; exact hP1) (by rw [e1, ← h0]; exact hF.1) (fun q hq => by rw [e1, ← h0]; exact hF.2 q (by rw [h0]; exact hq) (fun z => z)) T' rfl X'
    exact ⟨t2, stp.trans a1, b1⟩
theorem c_xV (hC : CallFix p m c cc nL s args lw_all own) (hE : eK D k s) (hP : va_P D vwCl ws H) (hX : xK s) (hZ : xZ s H) (hM : XM l y bytes maxL ret rm D k ws (.ref b :: As) E) (hG : GoodIn lw_all (wsV own index C y (ws_ y bytes maxL ret))) (hd : y.cls = C ∧ y.cls ≠ "java/lang/invoke/MethodHandle" ∧ y.cls ≠ "java/lang/invoke/VarHandle" ∧ (parseMethodDescriptor y.desc).map (fun d => d.parameters.length) = some As.length) (hR : rm.frames + 1 ≤ R.frames ∧ 8 + (maxL + 11) + rm.locals ≤ R.locals) (q0 : Nat) {ci : Nat} {fs : List Value} {T0 : u_T} {N0 : Nat} (hrc : ws[q0]? = some (b, .inr (ci, fs))) (hcl : vwCl[ci]? = some (C, T0, N0)) (hst : st = As.reverse ++ .ref b :: rest) (hls : ls.size = nL) (hroom : (rest.map fun v => v.category).sum ≤ 8) (hf : cells + 1 ≤ R.cells ∧ slots + 6 ≤ R.slots) (hdg : decode cc pc = .ok (.invokevirtual index, 3))
    (kx : ∀ (ce : Cell) (q9 : Addr) (H1 : Heap), H1[q9]? = some ce → ce.vm = .none → s.vm.findClass E = some ce.cls → va_P D vwCl ws H1 → H.size ≤ H1.size → (∀ q : Nat, q < H.size → H1[q]? = H[q]?) → vx_W p l e R s m args below meth c H1 locs (cells + 1) (slots + 6) Q (F0 m pc ls rest) q9) : W p l e R s m args below meth c H locs cells slots Q (F0 m pc ls st) := by
  subst hst
  exact c_thrown (vx_runV (As := As) (rest := rest) hC hM (cwV _ hC.2.2.2.2 hG rfl rfl rfl hd hR) ⟨xP_blind, va_recv hE.1 hP hcl hrc, fun U hU hW => ⟨rfl, eK_warm hW hE, by rw [hU]; exact hP, xK_warm hW hX, by rw [hU]; exact xZ_moved hW.alike hZ⟩⟩ rfl rfl hls rfl (lv_room hroom) hdg hf) kx
theorem c_xS (hC : CallFix p m c cc nL s args lw_all own) (hE : eK D k s) (hP : va_P D vwCl ws H) (hX : xK s) (hZ : xZ s H) (hM : XM l y bytes maxL ret rm D k ws As E) (hG : GoodIn lw_all (va_wsS own index y (ws_ y bytes maxL ret))) (hd : y.cls ≠ "java/lang/invoke/MethodHandle" ∧ y.cls ≠ "java/lang/invoke/VarHandle" ∧ (parseMethodDescriptor y.desc).map (fun d => d.parameters.length) = some As.length) (hR : rm.frames + 1 ≤ R.frames ∧ 8 + (maxL + 11) + rm.locals ≤ R.locals) (hst : st = As.reverse ++ rest) (hls : ls.size = nL) (hroom : (rest.map fun v => v.category).sum ≤ 8) (hf : cells + 1 ≤ R.cells ∧ slots + 6 ≤ R.slots) (hdg : decode cc pc = .ok (.invokestatic index, 3))
    (kx : ∀ (ce : Cell) (q9 : Addr) (H1 : Heap), H1[q9]? = some ce → ce.vm = .none → s.vm.findClass E = some ce.cls → va_P D vwCl ws H1 → H.size ≤ H1.size → (∀ q : Nat, q < H.size → H1[q]? = H[q]?) → vx_W p l e R s m args below meth c H1 locs (cells + 1) (slots + 6) Q (F0 m pc ls rest) q9) : W p l e R s m args below meth c H locs cells slots Q (F0 m pc ls st) := by
  subst hst
  exact c_thrown (vx_runS (As := As) (rest := rest) hC hM (va_cwS _ hC.2.2.2.2 hG rfl rfl rfl hd hR) ⟨xP_blind, fun U hU hW => ⟨rfl, eK_warm hW hE, by rw [hU]; exact hP, xK_warm hW hX, by rw [hU]; exact xZ_moved hW.alike hZ⟩⟩ rfl rfl hls rfl (lv_room hroom) hdg hf) kx
/-- what a callee threw goes on to the caller -/
theorem x_out {ce : Cell} {q9 : Addr} {H1 : Heap} (hnt : ∀ x ∈ c.exceptionTable.toList, False) (hlk : meth.locks = false) (h1 : H1[q9]? = some ce) (h2 : ce.vm = .none) (h3 : s.vm.findClass E = some ce.cls) (hP1 : va_P D vwCl ws H1) (hz : s.heap.size ≤ H1.size) (hk : ∀ q : Nat, q < s.heap.size → H1[q]? = s.heap[q]?) : vx_W p l e R s m args below meth c H1 [] (0 + 1) (0 + 6) (vx_MQ below (fun _ _ _ _ => False) (xC D ws E) args s 1 6 (fun _ => False)) (F0 m pc ls rest) q9 :=
  vx_out (XC := xC D ws E) (E := E) (fun x hx => (hnt x hx).elim) hlk h1 h2 h3 (fun t ht _ => ⟨rfl, by rw [ht]; exact hP1, by rw [ht]; exact hz, fun q hq _ => by rw [ht]; exact hk q hq⟩) (fun z hz => absurd hz List.not_mem_nil) (Nat.le_of_ble_eq_true rfl) (Nat.le_of_ble_eq_true rfl)

/-- new java/lang/IllegalStateException(text) and thrown, at once -/
theorem x_ISE {is : Nat} {tx : String} (hC : CallFix p m c cc nL s args lw_all RX4) (hlk : meth.locks = false) (hnt : ∀ x ∈ c.exceptionTable.toList, False) (hfl : l.stackTraces = false) (hP : va_P D vwCl ws s.heap) (hX : xK s) (hZ : xZ s s.heap) (hls : ls.size = nL) (hstr : (is, tx) ∈ xStr)
    (d0 : decode cc pc = .ok (.new 29, 3)) (d3 : decode cc (pc + 3) = .ok (.dup, 1)) (d4 : decode cc (pc + 4) = .ok (.ldc is, 2)) (d6 : decode cc (pc + 6) = .ok (.invokespecial 33, 3)) (d9 : decode cc (pc + 9) = .ok (.athrow, 1)) (hR1 : 5 < R.frames) (hR2 : (rest.map fun v => v.category).sum + 82 ≤ R.locals) (hR3 : 1 ≤ R.cells ∧ 6 ≤ R.slots) :
    W p l e R s m args below meth c s.heap [] 0 0 (vx_MQ below (fun _ _ _ _ => False) (xC D ws "java/lang/IllegalStateException") args s 1 6 (fun _ => False)) (F0 m pc ls rest) := by
  obtain ⟨sa, hsa⟩ := hX.1 _ hstr
  have hts := hC.2.2.2.2
  exact vx_throwS (XC := xC D ws "java/lang/IllegalStateException") (names := nmE) (A := fun _ => False) hC.1 hC.2.1 hfl hC.2.2.2.1 (by decide) (by decide) (hts _ tw_612) (hts _ tw_11) hsa (vx_hat (fun w hw => hts w (at_ISE w hw)) bt_ISE (fun w hw => va_Nw.use (xB_ot w hw) (hX.2.1 w hw))) gd_ISE hZ.1 hZ.2 va_S.rf (hls.trans hC.2.2.1.symm) d0 d3 d4 d6 d9 (fun x hx => (hnt x hx).elim) hR1 hR2 (by rw [Nat.zero_add]; exact hR3.1) (by rw [Nat.zero_add]; exact hR3.2) hlk
    (fun t _ hz hk => ⟨rfl, va_P_grown hP hk, hz, fun q hq _ => hk q hq⟩) (fun z hz => absurd hz List.not_mem_nil) (Nat.le_of_ble_eq_true rfl) (Nat.le_of_ble_eq_true rfl)
/-- new java/lang/IndexOutOfBoundsException(text) and thrown, at once -/
theorem x_IOB {is : Nat} {tx : String} (hC : CallFix p m c cc nL s args lw_all RX4) (hlk : meth.locks = false) (hnt : ∀ x ∈ c.exceptionTable.toList, False) (hfl : l.stackTraces = false) (hP : va_P D vwCl ws s.heap) (hX : xK s) (hZ : xZ s s.heap) (hls : ls.size = nL) (hstr : (is, tx) ∈ xStr)
    (d0 : decode cc pc = .ok (.new 161, 3)) (d3 : decode cc (pc + 3) = .ok (.dup, 1)) (d4 : decode cc (pc + 4) = .ok (.ldc is, 2)) (d6 : decode cc (pc + 6) = .ok (.invokespecial 165, 3)) (d9 : decode cc (pc + 9) = .ok (.athrow, 1)) (hR1 : 5 < R.frames) (hR2 : (rest.map fun v => v.category).sum + 82 ≤ R.locals) (hR3 : 1 ≤ R.cells ∧ 6 ≤ R.slots) :
    W p l e R s m args below meth c s.heap [] 0 0 (vx_MQ below (fun _ _ _ _ => False) (xC D ws "java/lang/IndexOutOfBoundsException") args s 1 6 (fun _ => False)) (F0 m pc ls rest) := by
  obtain ⟨sa, hsa⟩ := hX.1 _ hstr
  have hts := hC.2.2.2.2
  exact vx_throwS (XC := xC D ws "java/lang/IndexOutOfBoundsException") (names := nmE) (A := fun _ => False) hC.1 hC.2.1 hfl hC.2.2.2.1 (by decide) (by decide) (hts _ tw_295) (hts _ tw_12) hsa (vx_hat (fun w hw => hts w (at_IOB w hw)) bt_IOB (fun w hw => va_Nw.use (xB_ot w hw) (hX.2.1 w hw))) gd_IOB hZ.1 hZ.2 va_S.rf (hls.trans hC.2.2.1.symm) d0 d3 d4 d6 d9 (fun x hx => (hnt x hx).elim) hR1 hR2 (by rw [Nat.zero_add]; exact hR3.1) (by rw [Nat.zero_add]; exact hR3.2) hlk
    (fun t _ hz hk => ⟨rfl, va_P_grown hP hk, hz, fun q hq _ => hk q hq⟩) (fun z hz => absurd hz List.not_mem_nil) (Nat.le_of_ble_eq_true rfl) (Nat.le_of_ble_eq_true rfl)
/-- new java/lang/IllegalArgumentException(text) and thrown, at once -/
theorem x_IAE {is : Nat} {tx : String} (hC : CallFix p m c cc nL s args lw_all RX4) (hlk : meth.locks = false) (hnt : ∀ x ∈ c.exceptionTable.toList, False) (hfl : l.stackTraces = false) (hP : va_P D vwCl ws s.heap) (hX : xK s) (hZ : xZ s s.heap) (hls : ls.size = nL) (hstr : (is, tx) ∈ xStr)
    (d0 : decode cc pc = .ok (.new 54, 3)) (d3 : decode cc (pc + 3) = .ok (.dup, 1)) (d4 : decode cc (pc + 4) = .ok (.ldc is, 2)) (d6 : decode cc (pc + 6) = .ok (.invokespecial 58, 3)) (d9 : decode cc (pc + 9) = .ok (.athrow, 1)) (hR1 : 5 < R.frames) (hR2 : (rest.map fun v => v.category).sum + 82 ≤ R.locals) (hR3 : 1 ≤ R.cells ∧ 6 ≤ R.slots) :
    W p l e R s m args below meth c s.heap [] 0 0 (vx_MQ below (fun _ _ _ _ => False) (xC D ws "java/lang/IllegalArgumentException") args s 1 6 (fun _ => False)) (F0 m pc ls rest) := by
  obtain ⟨sa, hsa⟩ := hX.1 _ hstr
  have hts := hC.2.2.2.2
  exact vx_throwS (XC := xC D ws "java/lang/IllegalArgumentException") (names := nmE) (A := fun _ => False) hC.1 hC.2.1 hfl hC.2.2.2.1 (by decide) (by decide) (hts _ tw_164) (hts _ tw_13) hsa (vx_hat (fun w hw => hts w (at_IAE w hw)) bt_IAE (fun w hw => va_Nw.use (xB_ot w hw) (hX.2.1 w hw))) gd_IAE hZ.1 hZ.2 va_S.rf (hls.trans hC.2.2.1.symm) d0 d3 d4 d6 d9 (fun x hx => (hnt x hx).elim) hR1 hR2 (by rw [Nat.zero_add]; exact hR3.1) (by rw [Nat.zero_add]; exact hR3.2) hlk
    (fun t _ hz hk => ⟨rfl, va_P_grown hP hk, hz, fun q hq _ => hk q hq⟩) (fun z hz => absurd hz List.not_mem_nil) (Nat.le_of_ble_eq_true rfl) (Nat.le_of_ble_eq_true rfl)
end XW
