/-! rows of rows of ints; methods that make cells (GM) -/
theorem cell_arr (cA : ClassId) (n : Nat) (f : Nat → Int32) : vp_cell cA (n, .inl f) = arrV cA n (fun j => .int (f j)) := rfl
/-- what the tables say of rows of rows -/
theorem eK_over {D : va_G} {k : Nat → ClassId} {U : State} (h : eK D k U) : ∃ kA : Class, U.vm.classes[k 2]? = some kA ∧ kA.kind = .array (k 0) (.array .int) ∧ U.vm.findClass "[I" = some (k 0) := by
  obtain ⟨comp, cc, kk, h1, -, h3, h4, h5⟩ := arrayOverA_spec h.2.1
  have e0 : U.vm.findClass ("[" ++ FieldType.int.toString) = some (k 0) := (h.1.2 0 _ rfl).2
  have e2 : U.vm.findClass ("[" ++ (FieldType.array .int).toString) = some (k 2) := (h.1.2 2 _ rfl).2
  have c1 : comp = k 0 := Option.some.inj (h1.symm.trans e0)
  have c2 : cc = k 2 := Option.some.inj (h5.symm.trans e2)
  subst c1
  subst c2
  exact ⟨kk, h3, h4, e0⟩
theorem assign_self {vm : Vm} {c : ClassId} : vm.assignable c c = true := by
  unfold Vm.assignable
  rw [show (256 : Nat) = 255 + 1 from rfl, Vm.assignableAux, beq_self_eq_true, Bool.true_or]
section SKW
variable {p : Program} {l : Launch} {e : Env} {R : Room} {s : State} {m : MethodId} {args : Array Value} {below : List Frame} {meth : Method} {c : Code} {H : Heap} {locs : List Loc} {cells slots : Nat} {Q : State → Prop}
variable {cc bytes : ByteArray} {pc index nL maxL mc ms : Nat} {own C : String} {y : MethodName} {ret : Option FieldType} {rm : Room} {D : va_G} {k : Nat → ClassId} {ws ws' : va_W} {A : Nat → Prop} {H0 : Heap} {ls : Array Slot} {st rest As : List Value} {b a : Nat} {g : JFrame} {post : Option Value → va_W → Prop} {PX : State → Prop}
theorem k_aald {n : Nat} {f : Nat → Option Nat} (hx : p.tables.exec = Jvm.exec) (hb : c.code = cc) (hE : eK D k s) (hP : va_P D vwCl ws H) (q0 : Nat) (ha : ws[q0]? = some (a, outA (k 2) n f)) {j : Nat} (hj : j < n) (hn : n < 2 ^ 31) (hdg : decode cc pc = .ok (.aaload, 1))
    (kk : W p l e R s m args below meth c H locs cells slots Q (F0 m (pc + 1) ls (va_rf (f j) :: rest))) : W p l e R s m args below meth c H locs cells slots Q (F0 m pc ls (.int (nI j) :: .ref a :: rest)) := by
  have hin : vp_in (nI j) n := vp_in_nI hj hn
  have hlt : (nI j).toNatClampNeg < n := Nat.not_le.mp fun q => hin (Or.inr q)
  refine W.aald (v := va_rf (f (nI j).toNatClampNeg)) (ty := .array .int) hx hb (hP q0 _ ha) ((hE.1.2 2 _ rfl).1 n (fun j => va_rf (f j))) rfl (fun q => by cases q) (by show ¬ (nI j < 0 ∨ (arrV _ _ _).slots.size ≤ _); rw [arrV_size]; exact hin) (by show (arrV _ _ _).slots[_]? = _; rw [arrV_read _ _ hlt]) rfl rfl hdg ?_
  rw [nI_clamp (Nat.lt_trans hj hn)]
  exact kk
theorem k_olen {n : Nat} {f : Nat → Option Nat} (hx : p.tables.exec = Jvm.exec) (hb : c.code = cc) (hE : eK D k s) (hP : va_P D vwCl ws H) (q0 : Nat) (ha : ws[q0]? = some (a, outA (k 2) n f)) (hdg : decode cc pc = .ok (.arraylength, 1))
    (kk : W p l e R s m args below meth c H locs cells slots Q (F0 m (pc + 1) ls (.int (nI n) :: rest))) : W p l e R s m args below meth c H locs cells slots Q (F0 m pc ls (.ref a :: rest)) := va_alen hx hb hE.1 hP q0 2 ha rfl rfl hdg kk
theorem k_aast {n N v : Nat} {f : Nat → Option Nat} {x : Nat → Int32} (hx : p.tables.exec = Jvm.exec) (hb : c.code = cc) (hE : eK D k s) (hP : va_P D vwCl ws H) (hD : va_D A ws) (hS : va_S A H0 H locs) (q0 qk : Nat) (ha : ws[q0]? = some (a, outA (k 2) n f)) (hv : ws[qk]? = some (v, .inl (k 0, N, .inl x))) {j : Nat} (hj : j < n) (hn : n < 2 ^ 31) (hdg : decode cc pc = .ok (.aastore, 1))
    (kk : ∀ (H1 : Heap) (locs1 : List Loc), va_P D vwCl (ws.set q0 (a, outA (k 2) n (va_up f j (some v)))) H1 → va_D A (ws.set q0 (a, outA (k 2) n (va_up f j (some v)))) → va_S A H0 H1 locs1 → W p l e R s m args below meth c H1 locs1 cells slots Q (F0 m (pc + 1) ls rest)) : W p l e R s m args below meth c H locs cells slots Q (F0 m pc ls (.ref v :: .int (nI j) :: .ref a :: rest)) := by
  have hin : vp_in (nI j) n := vp_in_nI hj hn
  have hlt : (nI j).toNatClampNeg < n := Nat.not_le.mp fun q => hin (Or.inr q)
  have h0 : ¬ nI j < 0 := fun q => hin (Or.inl q)
  have hcj : (nI j).toNatClampNeg = j := nI_clamp (Nat.lt_trans hj hn)
  obtain ⟨kA, k1, k2, k3⟩ := eK_over hE
  obtain ⟨kC, hkC, -⟩ := Vm.findClass_spec k3
  have hvc : H[v]? = some (vp_cell (k 0) (N, .inl x)) := hP qk _ hv
  refine W.aast (cell := vp_cell (k 2) (n, .inr (.inr (.inr (.inr f))))) (cv := vp_cell (k 0) (N, .inl x)) (k := kA) (kv := kC) (kcomp := kC) (comp := k 0) (t := .array .int) hx hb (hP q0 _ ha) (fun q h => by cases h) (fun h => by cases h) k1 k2 rfl hkC ⟨h0, by show _ < (arrV _ _ _).slots.size; rw [arrV_size]; exact hlt⟩ hvc (fun q h => by cases h) hkC assign_self rfl rfl hdg fun H1 e z oq => ?_
  refine kk H1 _ (hP.set hD ha ?_ oq) (hD.set ha) (hS.put z oq (hD.2 q0 _ ha))
  show H1[a]? = some (vp_cell _ _)
  rw [e, vp_cell_q, vp_cell_q, arrV_store, hcj]
  congr 2
  funext q
  by_cases hq : q = j
  · subst hq
    simp [updV, va_up, va_rf]
  · simp [updV, va_up, hq]
theorem k_anew {own : String} (hx : p.tables.exec = Jvm.exec) (hb : c.code = cc) (hown : s.vm.findClass own = some m.cls) (hclink : (Cond.classLink own index "[I").before args s = true) (hE : eK D k s) (hP : va_P D vwCl ws H) (hD : va_D A ws) (hS : va_S A H0 H locs) (hA : ∀ q, H0.size ≤ q → A q) {n : Nat} (hn : n ≤ 100) (hcells : cells + 1 ≤ R.cells) (hslots : slots + n ≤ R.slots) (hdg : decode cc pc = .ok (.anewarray index, 3))
    (kk : ∀ (q : Nat) (H1 : Heap), va_P D vwCl (ws ++ [(q, outA (k 2) n (fun _ => none))]) H1 → va_D A (ws ++ [(q, outA (k 2) n (fun _ => none))]) → va_S A H0 H1 locs → W p l e R s m args below meth c H1 locs (cells + 1) (slots + n) Q (F0 m (pc + 3) ls (.ref q :: rest))) : W p l e R s m args below meth c H locs cells slots Q (F0 m pc ls (.int (nI n) :: rest)) := by
  have hcl : (nI n).toNatClampNeg = n := nI_clamp (by omega)
  refine W.anewA (t := .int) hx hb hown hclink (over_moved (Vm.Alike.refl s.vm) hE.2.1) rfl hdg rfl (nI_pos (by omega)) (by rw [hcl]; omega) hcells (by rw [hcl]; exact hslots) fun cA kA comp f1 f2 f3 f4 => ?_
  have ecA : cA = k 2 := Option.some.inj (f1.symm.trans (hE.1.2 2 _ rfl).2)
  subst ecA
  rw [hcl]
  generalize hH1 : H.push ({ cls := k 2, slots := Array.replicate n .null, vm := .none } : Cell) = H1
  have z1 : H1.size = H.size + 1 := by rw [← hH1, Array.size_push]
  have e1 : H1[H.size]? = some (arrV (k 2) n (fun _ => .null)) := by rw [← hH1, Array.getElem?_push_size, ← arrV_new]
  have o1 : ∀ q : Nat, q < H.size → H1[q]? = H[q]? := fun q hq => by rw [← hH1, Array.getElem?_push, if_neg (Nat.ne_of_lt hq)]
  have hk : ∀ (k : Nat) (x : Nat × va_E), ws[k]? = some x → H1[x.1]? = H[x.1]? := fun k x hx => o1 x.1 ((hP k x hx).lt)
  refine kk H.size H1 ((hP.kept hk).app (fun k x hx => ?_)) (hD.push hP rfl (hA _ hS.1)) ⟨Nat.le_trans hS.1 (by omega), fun x h1 h2 => (o1 x (Nat.lt_of_lt_of_le h1 hS.1)).trans (hS.2.1 x h1 h2), hS.2.2⟩
  have hz : k < 1 := (List.getElem?_eq_some_iff.mp hx).1
  rw [show k = 0 by omega] at hx
  cases hx
  show H1[H.size]? = some (vp_cell _ _)
  rw [vp_cell_q]
  exact e1
/-- what a method is told that makes cells: the world w at a heap of sz cells, and PX -/
def gP (D : va_G) (k : Nat → ClassId) (w : va_W) (sz : Nat) (PX : State → Prop) (U : State) : Prop := U.heap.size = sz ∧ eK D k U ∧ va_P D vwCl w U.heap ∧ va_D (fun _ => True) w ∧ PX U
theorem gP_blind {w : va_W} {sz : Nat} {av : List Value} (hx : ∀ (U : State) (g : JFrame) (mk : MethodId) (a : Array Value), PX U → PX (U.calling g mk a)) : FrameBlind (va_Pc av (gP D k w sz PX)) := fun a U g mk h => ⟨h.1, h.2.1, eK_calling h.2.2.1, h.2.2.2.1, h.2.2.2.2.1, hx U g mk a h.2.2.2.2.2⟩
def gQ (D : va_G) (A : Nat → Prop) (post : Option Value → va_W → Prop) : Array Value → State → Outcome → State → Prop := fun _ st o t => (∃ v w1, o = .returned v ∧ post v w1 ∧ va_P D vwCl w1 t.heap ∧ va_D A w1) ∧ va_F A st t
abbrev GM (l : Launch) (y : MethodName) (ws : List Cond) (rm : Room) (mc ms : Nat) (D : va_G) (k : Nat → ClassId) (w : va_W) (sz : Nat) (av : List Value) (PX : State → Prop) (post : Option Value → va_W → Prop) : Prop := Met l y ws rm (va_Pc av (gP D k w sz PX)) (gQ D (va_A w sz) post) mc ms (va_A w sz)
theorem GM_of {r : Option FieldType} {n : Nat} {w : va_W} {sz : Nat} {av : List Value} (hy : plainName y.cls = true) (hlen : (lg_sl av).length ≤ n)
    (body : ∀ (p : Program) (e : Env) (s : State) (m : MethodId) (below : List Frame) (meth : Method) (c : Code) (A : Nat → Prop), CallFix p m c cc n s av.toArray lw_all y.cls → meth.sig.returnType = r → meth.locks = false → eK D k s → va_P D vwCl w s.heap → va_D A w → (∀ q, s.heap.size ≤ q → A q) → A = va_A w s.heap.size → PX s → va_S A s.heap s.heap [] → ∀ ls, lv_has ls n (lv_args 0 av) →
      W p l e rm s m av.toArray below meth c s.heap [] 0 0 (MQ below (gQ D A post) av.toArray s mc ms A) (F0 m 0 ls [])) : GM l y (ws_ y cc n r) rm mc ms D k w sz av PX post := by
  refine Met.ofW (cc := cc) (maxL := n) (ret := r) hy rfl ?_
  intro p e s m args below meth c s₁ B hml hv
  obtain ⟨rfl, rfl, hE, hP, hD, hX⟩ := hv
  have hts := atoms_spec (ws := ws_ y cc n r) B.pre
  rw [lg_entry_eq]
  exact body p e s m below meth c _ ⟨B.exec, B.bytes, hml, findClass_of_methodNamed B.named, fun w h => hts w (List.mem_cons_of_mem _ h)⟩ B.returns B.notSynchronized hE hP (hD.self) (fun q h => Or.inr h) rfl hX va_S.rf _ (lv_entry av hlen)
theorem c_gen {ar : Array Value} (hr : va_Run p l e R s m args below meth c H locs cells slots mc ms g rest (gQ D (va_A ws H.size) post ar) (va_A ws H.size)) (hD : va_D A ws) (hS : va_S A H0 H locs) (hA : ∀ q : Nat, H0.size ≤ q → A q)
    (kk : ∀ (v : Option Value) (w1 : va_W) (H1 : Heap) (locs1 : List Loc), post v w1 → va_P D vwCl w1 H1 → va_D A w1 → va_S A H0 H1 locs1 → W p l e R s m args below meth c H1 locs1 (cells + mc) (slots + ms) Q { g with pc := g.pc + 3, stack := v.toList ++ rest }) : W p l e R s m args below meth c H locs cells slots Q g := by
  intro T hT X
  obtain ⟨v, st₀, t, T', L, h0, X', hL, e1, e2, ⟨⟨v2, w1, hv, hw, hp1, hd1⟩, hz, hk⟩, st⟩ := hr T hT X
  cases hv
  rw [h0] at hz hk
  have hF : ∀ q, va_A ws H.size q → A q := fun q h => by
    rcases h with ⟨i, e9, h9⟩ | h
    · exact hD.2 i (q, e9) h9
    · exact hA q (Nat.le_trans hS.1 h)
  obtain ⟨t2, a1, b1⟩ := kk v w1 T'.heap (locs ++ L) hw (by rw [e1]; exact hp1) (hd1.weaken (fun _ q _ h => hF _ h))
    ⟨Nat.le_trans hS.1 (by rw [e1]; exact hz), fun q h1 h2 => by rw [e1, hk q (Nat.lt_of_lt_of_le h1 hS.1) (fun z => h2 (hF q z))]; exact hS.2.1 q h1 h2, fun q hq => by
      rcases List.mem_append.mp hq with h | h
      · exact hS.2.2 q h
      · exact hF _ (hL q h)⟩ T' rfl X'
  exact ⟨t2, st t2 a1, b1⟩
theorem c_gV (hC : CallFix p m c cc nL s args lw_all own) (hE : eK D k s) (hP : va_P D vwCl ws H) (hD : va_D A ws) (hS : va_S A H0 H locs) (hA : ∀ q : Nat, H0.size ≤ q → A q) (hM : GM l y (ws_ y bytes maxL ret) rm mc ms D k ws H.size (.ref b :: As) PX post) (hX : ∀ U : State, U.heap = H → s.WarmedH U.vm → PX U) (hXb : ∀ (U : State) (g : JFrame) (mk : MethodId) (a : Array Value), PX U → PX (U.calling g mk a)) (hG : GoodIn lw_all (wsV own index C y (ws_ y bytes maxL ret))) (hd : y.cls = C ∧ y.cls ≠ "java/lang/invoke/MethodHandle" ∧ y.cls ≠ "java/lang/invoke/VarHandle" ∧ (parseMethodDescriptor y.desc).map (fun d => d.parameters.length) = some As.length) (hr0 : rm.cells = mc ∧ rm.slots = ms) (hR : rm.frames + 1 ≤ R.frames ∧ 8 + (maxL + 11) + rm.locals ≤ R.locals) (q0 : Nat) {ci : Nat} {fs : List Value} {T0 : u_T} {N0 : Nat} (hrc : ws[q0]? = some (b, .inr (ci, fs))) (hcl : vwCl[ci]? = some (C, T0, N0)) (hst : st = As.reverse ++ .ref b :: rest) (hls : ls.size = nL) (hroom : (rest.map fun v => v.category).sum ≤ 8) (hf : cells + mc ≤ R.cells ∧ slots + ms ≤ R.slots) (hdg : decode cc pc = .ok (.invokevirtual index, 3))
    (kk : ∀ (v : Option Value) (w1 : va_W) (H1 : Heap) (locs1 : List Loc), post v w1 → va_P D vwCl w1 H1 → va_D A w1 → va_S A H0 H1 locs1 → W p l e R s m args below meth c H1 locs1 (cells + mc) (slots + ms) Q (F0 m (pc + 3) ls (v.toList ++ rest))) : W p l e R s m args below meth c H locs cells slots Q (F0 m pc ls st) := by
  subst hst
  exact c_gen (va_runV (As := As) (rest := rest) hC hM (cwV _ hC.2.2.2.2 hG rfl hr0.1 hr0.2 hd hR) ⟨gP_blind hXb, va_recv hE.1 hP hcl hrc, fun U hU hW => ⟨rfl, by rw [hU], eK_warm hW hE, by rw [hU]; exact hP, hD.weaken (fun _ _ _ _ => trivial), hX U hU hW⟩⟩ rfl rfl hls rfl (lv_room hroom) hdg hf) hD hS hA kk
theorem c_gS (hC : CallFix p m c cc nL s args lw_all own) (hE : eK D k s) (hP : va_P D vwCl ws H) (hD : va_D A ws) (hS : va_S A H0 H locs) (hA : ∀ q : Nat, H0.size ≤ q → A q) (hM : GM l y (ws_ y bytes maxL ret) rm mc ms D k ws H.size As PX post) (hX : ∀ U : State, U.heap = H → s.WarmedH U.vm → PX U) (hXb : ∀ (U : State) (g : JFrame) (mk : MethodId) (a : Array Value), PX U → PX (U.calling g mk a)) (hG : GoodIn lw_all (va_wsS own index y (ws_ y bytes maxL ret))) (hd : y.cls ≠ "java/lang/invoke/MethodHandle" ∧ y.cls ≠ "java/lang/invoke/VarHandle" ∧ (parseMethodDescriptor y.desc).map (fun d => d.parameters.length) = some As.length) (hr0 : rm.cells = mc ∧ rm.slots = ms) (hR : rm.frames + 1 ≤ R.frames ∧ 8 + (maxL + 11) + rm.locals ≤ R.locals) (hst : st = As.reverse ++ rest) (hls : ls.size = nL) (hroom : (rest.map fun v => v.category).sum ≤ 8) (hf : cells + mc ≤ R.cells ∧ slots + ms ≤ R.slots) (hdg : decode cc pc = .ok (.invokestatic index, 3))
    (kk : ∀ (v : Option Value) (w1 : va_W) (H1 : Heap) (locs1 : List Loc), post v w1 → va_P D vwCl w1 H1 → va_D A w1 → va_S A H0 H1 locs1 → W p l e R s m args below meth c H1 locs1 (cells + mc) (slots + ms) Q (F0 m (pc + 3) ls (v.toList ++ rest))) : W p l e R s m args below meth c H locs cells slots Q (F0 m pc ls st) := by
  subst hst
  exact c_gen (va_runS (As := As) (rest := rest) hC hM (va_cwS _ hC.2.2.2.2 hG rfl hr0.1 hr0.2 hd hR) ⟨gP_blind hXb, fun U hU hW => ⟨rfl, by rw [hU], eK_warm hW hE, by rw [hU]; exact hP, hD.weaken (fun _ _ _ _ => trivial), hX U hU hW⟩⟩ rfl rfl hls rfl (lv_room hroom) hdg hf) hD hS hA kk
theorem g_vret {w1 : va_W} (hx : p.tables.exec = Jvm.exec) (hb : c.code = cc) (hr : meth.sig.returnType = none) (hlk : meth.locks = false) (hdg : decode cc pc = .ok (.return_, 1)) (hP : va_P D vwCl w1 H) (hD : va_D A w1) (hS : va_S A s.heap H locs) (hp : post none w1) (hmc : cells ≤ mc) (hms : slots ≤ ms) : W p l e R s m args below meth c H locs cells slots (MQ below (gQ D A post) args s mc ms A) (F0 m pc ls []) := by
  refine W.widen hmc hms ?_
  exact W.vret hx hb hr (fun t ht hW => ⟨⟨_, w1, rfl, hp, by rw [ht]; exact hP, hD⟩, hS.F ht⟩) hS.2.2 hdg hlk
theorem g_iret {w1 : va_W} {v : Int32} (hx : p.tables.exec = Jvm.exec) (hb : c.code = cc) (hr : meth.sig.returnType = some .int) (hlk : meth.locks = false) (hdg : decode cc pc = .ok (.ireturn, 1)) (hP : va_P D vwCl w1 H) (hD : va_D A w1) (hS : va_S A s.heap H locs) (hp : post (some (.int v)) w1) (hmc : cells ≤ mc) (hms : slots ≤ ms) : W p l e R s m args below meth c H locs cells slots (MQ below (gQ D A post) args s mc ms A) (F0 m pc ls [.int v]) := by
  refine W.widen hmc hms ?_
  exact W.iret hx hb hr (fun t ht hW => ⟨⟨_, w1, rfl, hp, by rw [ht]; exact hP, hD⟩, hS.F ht⟩) hS.2.2 hdg hlk
theorem g_zret {w1 : va_W} {v : Int32} (hx : p.tables.exec = Jvm.exec) (hb : c.code = cc) (hr : meth.sig.returnType = some .boolean) (hn : narrow .boolean (.int v) = .int v) (hlk : meth.locks = false) (hdg : decode cc pc = .ok (.ireturn, 1)) (hP : va_P D vwCl w1 H) (hD : va_D A w1) (hS : va_S A s.heap H locs) (hp : post (some (.int v)) w1) (hmc : cells ≤ mc) (hms : slots ≤ ms) : W p l e R s m args below meth c H locs cells slots (MQ below (gQ D A post) args s mc ms A) (F0 m pc ls [.int v]) := by
  refine W.widen hmc hms ?_
  exact W.zret hx hb hr hn (fun t ht hW => ⟨⟨_, w1, rfl, hp, by rw [ht]; exact hP, hD⟩, hS.F ht⟩) hS.2.2 hdg hlk
theorem g_aret {w1 : va_W} {v : Nat} {ty : FieldType} (hx : p.tables.exec = Jvm.exec) (hb : c.code = cc) (hr : meth.sig.returnType = some ty) (hty : (∃ n, ty = .object n) ∨ ∃ t, ty = .array t) (hlk : meth.locks = false) (hdg : decode cc pc = .ok (.areturn, 1)) (hP : va_P D vwCl w1 H) (hD : va_D A w1) (hS : va_S A s.heap H locs) (hp : post (some (.ref v)) w1) (hmc : cells ≤ mc) (hms : slots ≤ ms) : W p l e R s m args below meth c H locs cells slots (MQ below (gQ D A post) args s mc ms A) (F0 m pc ls [.ref v]) := by
  refine W.widen hmc hms ?_
  exact W.aret (v := .ref v) hx hb hr hty (Or.inr ⟨v, rfl⟩) (fun t ht hW => ⟨⟨_, w1, rfl, hp, by rw [ht]; exact hP, hD⟩, hS.F ht⟩) hS.2.2 hdg hlk
end SKW
