set_option maxHeartbeats 1000000 in
set_option maxRecDepth 100000 in
/-- minutes by hand -/
theorem metX5_go_ (l : Launch) {D : va_G} {k : Nat → ClassId} {a tr o fa ba : Nat → Nat} {x : Nat} {S U S0 : HS} {R : va_W} (G T : HS) {n nf : Nat} {sz : Nat} (N : Nat) (hN : N ≤ 30) (hra : RA S0 G n nf) (hrb : RB S0 T n) (hti : TI T n) : GM l yX5_go_ (ws_ yX5_go_ cX5_go_ 4 (some FieldType.int)) ({ frames := 2, cells := 30, slots := 1200, locals := 50 } : Room) 30 1200 D k (LW k a tr o fa ba x S U G T n nf (mL T n) R) sz [.ref (o 0), .int (nI N)] (fun _ => True) (fun v9 w1 => v9 = some (.int (mGo G T N).1) ∧ ∃ o9 : Nat → Nat, o9 0 = o 0 ∧ w1 = LW k a tr o9 fa ba x S U G (mGo G T N).2 n nf (mL (mGo G T N).2 n) R) := by
  refine GM_of rfl (Nat.le_of_ble_eq_true rfl) ?_
  intro p e s m below meth c A hC hr hlk hE hP hD hA hAe hX hS ls hl
  have hC : CallFix p m c cX5_go_ 4 s _ lw_all RX5 := hC
  have hx := hC.1
  have hb := hC.2.1
  have hown : s.vm.findClass RX5 = some m.cls := hC.2.2.2.1
  have hts := hC.2.2.2.2
  have hl : lv_has ls 4 [(0, .ref (o 0)), (1, .int (nI N))] := hl
  refine lv_iconst (v := 0) hx hb dX5_go__0 (by decide) ?_
  refine lv_istore_n (lv' := [(2, .int 0), (0, .ref (o 0)), (1, .int (nI N))]) hx hb dX5_go__1 rfl hl (by decide) rfl (fun ls hl => ?_)
  refine lv_iconst (v := 0) hx hb dX5_go__2 (by decide) ?_
  refine lv_istore_n (lv' := [(3, .int 0), (2, .int 0), (0, .ref (o 0)), (1, .int (nI N))]) hx hb dX5_go__3 rfl hl (by decide) rfl (fun ls hl => ?_)
  refine w_forG (D := D) (A := A) (H0 := s.heap) (nL := 4) (N := N) (fun i w => ∃ o9 : Nat → Nat, o9 0 = o 0 ∧ w = LW k a tr o9 fa ba x S U G (mGo G T i).2 n nf (mL (mGo G T i).2 n) R) (fun i => [(0, .ref (o 0)), (1, .int (nI N)), (2, .int (mGo G T i).1), (3, .int (nI i))]) (fun i => i) (fun i => 40 * i) ?_ ?_ 0 (Nat.zero_le _) ⟨o, rfl, rfl⟩ ?_ ?_ ?_ ?_
  · intro ls H locs w hI hl hP hD hS
    obtain ⟨o9, ho9, rfl⟩ := hI
    have hl : lv_has ls 4 [(0, .ref (o 0)), (1, .int (nI N)), (2, .int (mGo G T N).1), (3, .int (nI N))] := hl
    refine lv_iload_n hx hb dX5_go__4 rfl (lv_at hl 3 rfl) ?_
    refine lv_iload_n hx hb dX5_go__5 rfl (lv_at hl 1 rfl) ?_
    refine lv_icmp_ge (tgt := 22) hx hb dX5_go__6 (by decide) (fun _ => ?_) (fun c_ => absurd (nI_le (Nat.le_refl N) (by omega)) c_)
    refine lv_iload_n hx hb dX5_go__22 rfl (lv_at hl 2 rfl) ?_
    exact g_iret hx hb hr hlk dX5_go__23 hP hD hS ⟨rfl, o9, ho9, rfl⟩ hN (by show 40 * N ≤ 1200; omega)
  · intro i hi ih ls H locs w hI hl hP hD hS
    obtain ⟨o9, ho9, rfl⟩ := hI
    have hl : lv_has ls 4 [(0, .ref (o 0)), (1, .int (nI N)), (2, .int (mGo G T i).1), (3, .int (nI i))] := hl
    obtain ⟨hia, hib, -⟩ := go_rel hra hrb i
    obtain ⟨-, -, hit, -⟩ := go_ps hra hrb hti i
    refine lv_iload_n hx hb dX5_go__4 rfl (lv_at hl 3 rfl) ?_
    refine lv_iload_n hx hb dX5_go__5 rfl (lv_at hl 1 rfl) ?_
    refine lv_icmp_ge (tgt := 22) hx hb dX5_go__6 (by decide) (fun c_ => absurd c_ (nI_ge hi (by omega))) (fun _ => ?_)
    refine lv_iload_n hx hb dX5_go__9 rfl (lv_at hl 2 rfl) ?_
    rw [← ho9] at hl
    refine lv_aload_n hx hb dX5_go__10 rfl (lv_at hl 0 rfl) ?_
    refine c_gV (rest := [.int (mGo G T i).1]) hC hE hP hD hS hA (metX5_go l G (mGo G T i).2 hia hib hit rfl) (fun _ _ _ => trivial) (fun _ _ _ _ _ => trivial) gc_RX5_47 hd_X5_go ⟨rfl, rfl⟩ ⟨Nat.le_of_ble_eq_true rfl, Nat.le_of_ble_eq_true rfl⟩ 59 lw_59 rfl rfl hl.1 (Nat.le_of_ble_eq_true rfl) ⟨by show i + 1 ≤ 30; omega, by show 40 * i + 40 ≤ 1200; omega⟩ dX5_go__11 (fun v w1 H locs hp hP hD hS => ?_)
    obtain ⟨rfl, o10, ho10, rfl⟩ := hp
    refine lv_iadd hx hb dX5_go__14 ?_
    refine lv_istore_n (lv' := [(2, .int (mGo G T (i + 1)).1), (0, .ref (o9 0)), (1, .int (nI N)), (3, .int (nI i))]) hx hb dX5_go__15 rfl hl (by decide) rfl (fun ls hl => ?_)
    refine lv_iinc (v := nI (i + 1)) (lv' := [(3, .int (nI (i + 1))), (2, .int (mGo G T (i + 1)).1), (0, .ref (o9 0)), (1, .int (nI N))]) hx hb dX5_go__16 hl (k := 3) rfl (iinc1 _) (by decide) rfl (fun ls hl => ?_)
    refine lv_goto (tgt := 4) hx hb dX5_go__19 (by decide) ?_
    rw [ho9] at hl
    exact ih ls H locs _ ⟨o10, ho10.trans ho9, rfl⟩ (lv_sub hl [2, 3, 1, 0] rfl) hP hD hS
  · exact lv_sub hl [2, 3, 1, 0] rfl
  · exact hP
  · exact hD
  · exact hS

theorem and_nn (v : Int32) : ¬ (v &&& 2147483647) < 0 := by
  rw [Int32.lt_iff_toInt_lt]
  have h1 : ((v &&& 2147483647).toBitVec).msb = false := by
    rw [Int32.toBitVec_and, BitVec.msb_and, show (2147483647 : Int32).toBitVec.msb = false by decide, Bool.and_false]
  have h2 : (v &&& 2147483647).toInt = ((v &&& 2147483647).toBitVec.toNat : Int) := BitVec.toInt_eq_toNat_of_msb h1
  rw [h2]
  show ¬ ((v &&& 2147483647).toBitVec.toNat : Int) < 0
  omega
noncomputable def bel (v : Int32) (N : Nat) : Int32 := (v &&& 2147483647) % nI N
theorem bel_of {N : Nat} (v : Int32) (h0 : 0 < N) (h : N < 2 ^ 31) : ∃ j, j < N ∧ bel v N = nI j := by
  obtain ⟨w, hw, e⟩ := nI_of (and_nn v)
  have h3 : (bel v N).toInt = ((w % N : Nat) : Int) := by
    unfold bel
    rw [e, Int32.toInt_mod, nI_toInt hw, nI_toInt h]
    rfl
  have hlt : w % N < N := Nat.mod_lt w h0
  refine ⟨w % N, hlt, ?_⟩
  rw [← Int32.toInt_inj, h3, nI_toInt (by omega)]
noncomputable def cellV (xs : Nat → Int32) (L j : Nat) : Int32 := sel (j < L) (xs j) (790386105 * (nI j + 3))
set_option maxRecDepth 100000 in
theorem metL_below (l : Launch) {D : va_G} {k : Nat → ClassId} {ws : va_W} (v : Int32) (N : Nat) (h0 : 0 < N) (h : N < 2 ^ 31) : PM l yL_below cL_below 2 (some FieldType.int) rmL_below D k ws [.int v, .int (nI N)] (some (.int (bel v N))) := by
  refine PM_of rfl (Nat.le_of_ble_eq_true rfl) ?_
  intro p e s m below meth c hC hr hlk hin hE hP ls hl
  have hC : CallFix p m c cL_below 2 s _ lw_all RL := hC
  have hx := hC.1
  have hb := hC.2.1
  have hown : s.vm.findClass RL = some m.cls := hC.2.2.2.1
  have hts := hC.2.2.2.2
  have hl : lv_has ls 2 [(0, .int v), (1, .int (nI N))] := hl
  refine lv_iload_n hx hb dL_below_0 rfl (lv_at hl 0 rfl) ?_
  refine lv_ldc (v := 2147483647) hx hb hown (hts _ tw_594) dL_below_1 ?_
  refine lv_iand hx hb dL_below_3 ?_
  refine lv_iload_n hx hb dL_below_4 rfl (lv_at hl 1 rfl) ?_
  refine lv_irem hx hb dL_below_5 (fun z => by have := nI_inj (b := 0) h (by decide) z; omega) ?_
  refine w_top (irem_eq_mod _ _) ?_
  exact p_iret hx hb hr hlk dL_below_6 rfl
def sP (D : va_G) (k : Nat → ClassId) (b L : Nat) (xs : Nat → Int32) (U : State) : Prop := eK D k U ∧ va_X b L xs U U.heap
theorem va_X_calling {b L : Nat} {xs : Nat → Int32} {U : State} {g : JFrame} {mk : MethodId} {a : Array Value} (h : va_X b L xs U U.heap) : va_X b L xs (U.calling g mk a) (U.calling g mk a).heap := va_X.moved (u := U) (U := U.calling g mk a) (Vm.Alike.refl U.vm) h
theorem sP_blind {D : va_G} {k : Nat → ClassId} {b L : Nat} {xs : Nat → Int32} {av : List Value} : FrameBlind (va_Pc av (sP D k b L xs)) := fun _ U g mk h => ⟨h.1, eK_calling h.2.1, va_X_calling h.2.2⟩
abbrev CM (l : Launch) (D : va_G) (k : Nat → ClassId) (b L : Nat) (xs : Nat → Int32) (j : Nat) : Prop := Met l yL_cell (ws_ yL_cell cL_cell 2 (some FieldType.int)) rmL_cell (va_Pc [.ref b, .int (nI j)] (sP D k b L xs)) (rQ (some (.int (cellV xs L j)))) 0 0 (fun _ => False)
set_option maxRecDepth 100000 in
theorem metL_cell (l : Launch) {D : va_G} {k : Nat → ClassId} {b L : Nat} {xs : Nat → Int32} (j : Nat) (hj : j < 2 ^ 31) (hL : L < 2 ^ 31) : CM l D k b L xs j := by
  refine Met.ofW (cc := cL_cell) (maxL := 2) (ret := some FieldType.int) rfl rfl ?_
  intro p e s m args below meth c s₁ B hml hv
  obtain ⟨rfl, hE, hX⟩ := hv
  have hts9 := atoms_spec (ws := ws_ yL_cell cL_cell 2 (some FieldType.int)) B.pre
  rw [lg_entry_eq]
  have hx := B.exec
  have hb := B.bytes
  have hr := B.returns
  have hlk := B.notSynchronized
  have hown : s.vm.findClass RL = some m.cls := findClass_of_methodNamed B.named
  have hts : ∀ w ∈ lw_all, w.before _ s = true := fun w h => hts9 w (List.mem_cons_of_mem _ h)
  have hl := lv_entry (n := 2) ([.ref b, .int (nI j)] : List Value) (Nat.le_of_ble_eq_true rfl)
  generalize (lg_sl ([.ref b, .int (nI j)] : List Value) ++ List.replicate (2 - (lg_sl ([.ref b, .int (nI j)] : List Value)).length) Slot.unset).toArray = ls at hl ⊢
  have hl : lv_has ls 2 [(0, .ref b), (1, .int (nI j))] := hl
  have hbl : b < s.heap.size := by
    obtain ⟨scr, h1, -⟩ := hX
    exact (Array.getElem?_eq_some_iff.mp h1).1
  have hS : va_S (fun _ => False) s.heap s.heap [] := va_S.rf
  refine lv_iload_n hx hb dL_cell_0 rfl (lv_at hl 1 rfl) ?_
  refine lv_aload_n hx hb dL_cell_1 rfl (lv_at hl 0 rfl) ?_
  refine va_slen (A := fun _ => False) hx hb hX hbl (fun z => z) hS dL_cell_2 ?_
  by_cases q : j < L
  · refine lv_icmp_ge (tgt := 12) hx hb dL_cell_3 (by decide) (fun c_ => absurd c_ (nI_ge q hL)) (fun _ => ?_)
    refine lv_aload_n hx hb dL_cell_6 rfl (lv_at hl 0 rfl) ?_
    refine lv_iload_n hx hb dL_cell_7 rfl (lv_at hl 1 rfl) ?_
    refine va_sld (A := fun _ => False) hx hb hX hbl (fun z => z) hS (i := nI j) (vp_in_nI q hL) dL_cell_8 ?_
    refine w_top (congrArg xs (nI_clamp hj)) ?_
    refine lv_goto (tgt := 18) hx hb dL_cell_9 (by decide) ?_
    exact p_iret hx hb hr hlk dL_cell_18 (sel_t q _ _)
  · refine lv_icmp_ge (tgt := 12) hx hb dL_cell_3 (by decide) (fun _ => ?_) (fun c_ => absurd (nI_le (by omega) hj) c_)
    refine lv_ldc (v := 790386105) hx hb hown (hts _ tw_598) dL_cell_12 ?_
    refine lv_iload_n hx hb dL_cell_14 rfl (lv_at hl 1 rfl) ?_
    refine lv_iconst (v := 3) hx hb dL_cell_15 (by decide) ?_
    refine lv_iadd hx hb dL_cell_16 ?_
    refine lv_imul hx hb dL_cell_17 ?_
    exact p_iret hx hb hr hlk dL_cell_18 (sel_f q _ _)
section CELL
variable {p : Program} {l : Launch} {e : Env} {R : Room} {s : State} {m : MethodId} {args : Array Value} {below : List Frame} {meth : Method} {c : Code} {H : Heap} {locs : List Loc} {cells slots : Nat} {Q : State → Prop}
variable {cc : ByteArray} {pc nL index : Nat} {D : va_G} {k : Nat → ClassId} {ls : Array Slot} {st rest : List Value} {b L j : Nat} {xs : Nat → Int32}
/-- a cell of the script -/
theorem c_cell (hC : CallFix p m c cc nL s args lw_all RL) (hE : eK D k s) (hX : va_X b L xs s H) (hM : CM l D k b L xs j) (hG : GoodIn lw_all (va_wsS RL index yL_cell (ws_ yL_cell cL_cell 2 (some FieldType.int)))) (hR : 1 ≤ R.frames ∧ 21 ≤ R.locals) (hst : st = .int (nI j) :: .ref b :: rest) (hls : ls.size = nL) (hroom : (rest.map fun v => v.category).sum ≤ 8) (hf : cells ≤ R.cells ∧ slots ≤ R.slots) (hdg : decode cc pc = .ok (.invokestatic index, 3))
    (kk : W p l e R s m args below meth c H locs cells slots Q (F0 m (pc + 3) ls (.int (cellV xs L j) :: rest))) : W p l e R s m args below meth c H locs cells slots Q (F0 m pc ls st) := by
  subst hst
  exact c_pure (W.runS (As := [.ref b, .int (nI j)]) (rest := rest) hC hM (va_cwS _ hC.2.2.2.2 hG rfl rfl rfl hd_L_cell hR) ⟨sP_blind, fun U hU hW => ⟨rfl, eK_warm hW hE, by rw [hU]; exact va_X.moved hW.alike hX⟩⟩ rfl rfl hls rfl (lv_room hroom) hdg hf) kk
end CELL

/-! the start -/
def s0 : HS := fun j => match j with | 0 => (fun i => match i with | 1 => 5 | _ => 0) | 1 => (fun _ => -1) | 2 => (fun _ => 0) | 3 => (fun _ => -1) | 4 => (fun _ => 0) | 5 => (fun _ => 0) | 6 => (fun _ => -1) | 7 => (fun _ => -1) | 8 => (fun _ => -1) | 9 => (fun _ => 0) | 10 => (fun _ => 0) | 11 => (fun _ => 5) | 12 => (fun _ => -1) | _ => (fun _ => -1)
def g0 : HS := fun j => match j with | 0 => (fun i => match i with | 2 => 5 | _ => 0) | 1 => (fun _ => -1) | 3 => (fun _ => 5) | _ => (fun _ => 0)
def t0 : HS := fun j => match j with | 5 => (fun _ => -1) | _ => (fun _ => 0)
theorem ra_0 : RA s0 g0 0 0 := ⟨by decide, by decide, rfl, rfl, rfl, rfl, rfl, fun _ _ => rfl, fun f hf h => absurd rfl h, fun _ _ => rfl, fun _ _ => Or.inl rfl, fun _ _ => rfl, fun b h => absurd h (Nat.not_lt_zero b), fun _ _ => ⟨0, by decide, rfl⟩, fun b h => absurd h (Nat.not_lt_zero b), fun b h => absurd h (Nat.not_lt_zero b), fun b h => absurd h (Nat.not_lt_zero b), fun _ _ _ => ⟨rfl, rfl⟩⟩
theorem rb_0 : RB s0 t0 0 := ⟨by decide, rfl, rfl, rfl, fun b h => absurd h (Nat.not_lt_zero b), fun b h => absurd h (Nat.not_lt_zero b), fun b h => absurd h (Nat.not_lt_zero b), fun b h => absurd h (Nat.not_lt_zero b), fun b h => absurd h (Nat.not_lt_zero b), fun _ _ _ => ⟨rfl, rfl, rfl, rfl, rfl⟩, fun _ _ => rfl, fun _ _ => rfl, fun j hj h => absurd rfl h, fun b h => absurd h (Nat.not_lt_zero b), fun j h => absurd h (Nat.not_lt_zero j), fun i j h => absurd h (Nat.not_lt_zero i)⟩
theorem ti_0 : TI t0 0 := ⟨fun b h => absurd h (Nat.not_lt_zero b), fun b h => absurd h (Nat.not_lt_zero b), fun b h => absurd h (Nat.not_lt_zero b), fun b h => absurd h (Nat.not_lt_zero b)⟩
def iw (k : Nat → ClassId) (a tr : Nat → Nat) (x z : Nat) (S U : HS) (fs : List Value) (Y : va_W) : va_W := hw k a S ++ ((x, .inr (4, [.ref (a 0), .ref (tr 0)])) :: (hw k tr U ++ ((z, .inr (5, fs)) :: Y)))
theorem iw_59 {k : Nat → ClassId} {a tr : Nat → Nat} {x z : Nat} {S U : HS} {fs : List Value} {Y : va_W} : (iw k a tr x z S U fs Y)[59]? = some (z, .inr (5, fs)) := rfl
theorem iw_Y {k : Nat → ClassId} {a tr : Nat → Nat} {x z i : Nat} {S U : HS} {fs : List Value} {Y : va_W} : (iw k a tr x z S U fs Y)[60 + i]? = Y[i]? := by
  have e : iw k a tr x z S U fs Y = (hw k a S ++ ((x, .inr (4, [.ref (a 0), .ref (tr 0)])) :: (hw k tr U ++ [(z, .inr (5, fs))]))) ++ Y := rfl
  have h : (hw k a S ++ (((x, .inr (4, [.ref (a 0), .ref (tr 0)])) : Nat × va_E) :: (hw k tr U ++ [((z, .inr (5, fs)) : Nat × va_E)]))).length = 60 := rfl
  rw [e, List.getElem?_append_right (by rw [h]; omega), h, show 60 + i - 60 = i by omega]
theorem iw_set {k : Nat → ClassId} {a tr : Nat → Nat} {x z : Nat} {S U : HS} {fs fs2 : List Value} {Y : va_W} : (iw k a tr x z S U fs Y).set 59 (z, .inr (5, fs2)) = iw k a tr x z S U fs2 Y := rfl
theorem iw_Yset {k : Nat → ClassId} {a tr : Nat → Nat} {x z i : Nat} {S U : HS} {fs : List Value} {Y : va_W} {y : Nat × va_E} : (iw k a tr x z S U fs Y).set (60 + i) y = iw k a tr x z S U fs (Y.set i y) := by
  have e : ∀ Z, iw k a tr x z S U fs Z = (hw k a S ++ ((x, .inr (4, [.ref (a 0), .ref (tr 0)])) :: (hw k tr U ++ [(z, .inr (5, fs))]))) ++ Z := fun _ => rfl
  have h : (hw k a S ++ (((x, .inr (4, [.ref (a 0), .ref (tr 0)])) : Nat × va_E) :: (hw k tr U ++ [((z, .inr (5, fs)) : Nat × va_E)]))).length = 60 := rfl
  rw [e, e, List.set_append_right _ _ (by rw [h]; omega), h, show 60 + i - 60 = i by omega]
theorem iw_app {k : Nat → ClassId} {a tr : Nat → Nat} {x z : Nat} {S U : HS} {fs : List Value} {Y Z : va_W} : iw k a tr x z S U fs Y ++ Z = iw k a tr x z S U fs (Y ++ Z) := by
  unfold iw
  simp only [List.append_assoc, List.cons_append]
def o5 (z q1 q2 q3 q4 : Nat) : Nat → Nat := fun i => match i with
  | 0 => z
  | 1 => q1
  | 2 => q2
  | 3 => q3
  | _ => q4
theorem iw_LW {k : Nat → ClassId} {a tr : Nat → Nat} {x z q1 q2 q3 q4 : Nat} {S U : HS} : iw k a tr x z S U [.int 0, .int 5, .ref q1, .ref q2, .ref q3, .ref q4] [(q1, .inl (k 0, 4, .inl (fun _ => 5))), (q2, outA (k 2) 0 (rfA id)), (q3, outA (k 2) 0 (rfA id)), (q4, .inl (k 0, 0, .inl (fun _ => 0)))] = LW k a tr (o5 z q1 q2 q3 q4) id id x S U g0 t0 0 0 0 [] := rfl

set_option maxHeartbeats 1000000 in
set_option maxRecDepth 100000 in
/-- the hand's hall is made -/
theorem metX5_init (l : Launch) {D : va_G} {k : Nat → ClassId} {a tr : Nat → Nat} {x z : Nat} {S U : HS} {sz : Nat} : GM l yX5_init (ws_ yX5_init cX5_init 1 none) ({ frames := 1, cells := 4, slots := 4, locals := 24 } : Room) 4 4 D k (iw k a tr x z S U [.int 0, .int 0, .null, .null, .null, .null] []) sz [.ref z] (fun _ => True) (fun v9 w1 => v9 = none ∧ ∃ q1 q2 q3 q4 : Nat, w1 = LW k a tr (o5 z q1 q2 q3 q4) id id x S U g0 t0 0 0 0 []) := by
  refine GM_of rfl (Nat.le_of_ble_eq_true rfl) ?_
  intro p e s m below meth c A hC hr hlk hE hP hD hA hAe hX hS ls hl
  have hC : CallFix p m c cX5_init 1 s _ lw_all RX5 := hC
  have hx := hC.1
  have hb := hC.2.1
  have hown : s.vm.findClass RX5 = some m.cls := hC.2.2.2.1
  have hts := hC.2.2.2.2
  have hl : lv_has ls 1 [(0, .ref z)] := hl
  refine lv_aload_n hx hb dX5_init_0 rfl (lv_at hl 0 rfl) ?_
  refine W.objInit hx hb hown (hts _ tw_731) (hts _ tw_22) (hts _ tw_23) rfl (hl.1.trans hC.2.2.1.symm) rfl dX5_init_1 (Nat.le_of_ble_eq_true rfl) (Nat.le_of_ble_eq_true rfl) ?_
  refine lv_aload_n hx hb dX5_init_4 rfl (lv_at hl 0 rfl) ?_
  refine lv_iconst (v := 5) hx hb dX5_init_5 (by decide) ?_
  refine va_put (D := D) (ci := 5) (v := .int 5) (ty := tyX5 1) (C := RX5) (T := TX5) (N := 6) hx hb hts tu_5 tyX5 tyX5_ok nmX5 hown hE.1 hP hD hS 59 iw_59 rfl 1 (by decide) (hts _ tw_733) (fun _ h9 => h9) rfl (tyX5_ok 1 (by decide)) rfl rfl (Nat.le_of_ble_eq_true rfl) dX5_init_6 (fun H locs hP hD hS => ?_)
  rw [iw_set] at hP hD
  have hP : va_P D vwCl (iw k a tr x z S U [.int 0, .int 5, .null, .null, .null, .null] []) H := hP
  have hD : va_D A (iw k a tr x z S U [.int 0, .int 5, .null, .null, .null, .null] []) := hD
  refine lv_aload_n hx hb dX5_init_9 rfl (lv_at hl 0 rfl) ?_
  refine lv_iconst (v := 4) hx hb dX5_init_10 (by decide) ?_
  refine i_newai (N := 4) hx hb (hts _ tw_49) hE hP hD hS hA (by decide) rfl (Nat.le_of_ble_eq_true rfl) (Nat.le_of_ble_eq_true rfl) (Nat.le_of_ble_eq_true rfl) dX5_init_11 (fun q1 H hP hD hS => ?_)
  rw [iw_app] at hP hD
  have hP : va_P D vwCl (iw k a tr x z S U [.int 0, .int 5, .null, .null, .null, .null] [(q1, .inl (k 0, 4, .inl (fun _ => 0)))]) H := hP
  have hD : va_D A (iw k a tr x z S U [.int 0, .int 5, .null, .null, .null, .null] [(q1, .inl (k 0, 4, .inl (fun _ => 0)))]) := hD
  refine lv_dup hx hb dX5_init_13 rfl ?_
  refine lv_iconst (v := 0) hx hb dX5_init_14 (by decide) ?_
  refine lv_iconst (v := 5) hx hb dX5_init_15 (by decide) ?_
  refine k_iast (j := 0) hx hb hE hP hD hS (60 + 0) ((iw_Y (i := 0)).trans rfl) (by decide) (by decide) dX5_init_16 (fun H locs hP hD hS => ?_)
  rw [iw_Yset] at hP hD
  have hP : va_P D vwCl (iw k a tr x z S U [.int 0, .int 5, .null, .null, .null, .null] [(q1, .inl (k 0, 4, .inl (upd (fun _ => 0) 0 5)))]) H := hP
  have hD : va_D A (iw k a tr x z S U [.int 0, .int 5, .null, .null, .null, .null] [(q1, .inl (k 0, 4, .inl (upd (fun _ => 0) 0 5)))]) := hD
  refine lv_dup hx hb dX5_init_17 rfl ?_
  refine lv_iconst (v := 1) hx hb dX5_init_18 (by decide) ?_
  refine lv_iconst (v := 5) hx hb dX5_init_19 (by decide) ?_
  refine k_iast (j := 1) hx hb hE hP hD hS (60 + 0) ((iw_Y (i := 0)).trans rfl) (by decide) (by decide) dX5_init_20 (fun H locs hP hD hS => ?_)
  rw [iw_Yset] at hP hD
  have hP : va_P D vwCl (iw k a tr x z S U [.int 0, .int 5, .null, .null, .null, .null] [(q1, .inl (k 0, 4, .inl (upd (upd (fun _ => 0) 0 5) 1 5)))]) H := hP
  have hD : va_D A (iw k a tr x z S U [.int 0, .int 5, .null, .null, .null, .null] [(q1, .inl (k 0, 4, .inl (upd (upd (fun _ => 0) 0 5) 1 5)))]) := hD
  refine lv_dup hx hb dX5_init_21 rfl ?_
  refine lv_iconst (v := 2) hx hb dX5_init_22 (by decide) ?_
  refine lv_iconst (v := 5) hx hb dX5_init_23 (by decide) ?_
  refine k_iast (j := 2) hx hb hE hP hD hS (60 + 0) ((iw_Y (i := 0)).trans rfl) (by decide) (by decide) dX5_init_24 (fun H locs hP hD hS => ?_)
  rw [iw_Yset] at hP hD
  have hP : va_P D vwCl (iw k a tr x z S U [.int 0, .int 5, .null, .null, .null, .null] [(q1, .inl (k 0, 4, .inl (upd (upd (upd (fun _ => 0) 0 5) 1 5) 2 5)))]) H := hP
  have hD : va_D A (iw k a tr x z S U [.int 0, .int 5, .null, .null, .null, .null] [(q1, .inl (k 0, 4, .inl (upd (upd (upd (fun _ => 0) 0 5) 1 5) 2 5)))]) := hD
  refine lv_dup hx hb dX5_init_25 rfl ?_
  refine lv_iconst (v := 3) hx hb dX5_init_26 (by decide) ?_
  refine lv_iconst (v := 5) hx hb dX5_init_27 (by decide) ?_
  refine k_iast (j := 3) hx hb hE hP hD hS (60 + 0) ((iw_Y (i := 0)).trans rfl) (by decide) (by decide) dX5_init_28 (fun H locs hP hD hS => ?_)
  rw [iw_Yset] at hP hD
  have hP : va_P D vwCl (iw k a tr x z S U [.int 0, .int 5, .null, .null, .null, .null] [(q1, .inl (k 0, 4, .inl (upd (upd (upd (upd (fun _ => 0) 0 5) 1 5) 2 5) 3 5)))]) H := hP
  have hD : va_D A (iw k a tr x z S U [.int 0, .int 5, .null, .null, .null, .null] [(q1, .inl (k 0, 4, .inl (upd (upd (upd (upd (fun _ => 0) 0 5) 1 5) 2 5) 3 5)))]) := hD
  have hP := row_cong (g := fun _ => 5) hP ((iw_Y (i := 0)).trans rfl) (fun j hj => by rcases (show j = 0 ∨ j = 1 ∨ j = 2 ∨ j = 3 by omega) with rfl | rfl | rfl | rfl <;> rfl)
  rw [iw_Yset] at hP
  have hP : va_P D vwCl (iw k a tr x z S U [.int 0, .int 5, .null, .null, .null, .null] [(q1, .inl (k 0, 4, .inl (fun _ => 5)))]) H := hP
  have hD : va_D A (iw k a tr x z S U [.int 0, .int 5, .null, .null, .null, .null] [(q1, .inl (k 0, 4, .inl (fun _ => 5)))]) := vaD_same hD rfl
  refine va_put (D := D) (ci := 5) (v := .ref q1) (ty := tyX5 2) (C := RX5) (T := TX5) (N := 6) hx hb hts tu_5 tyX5 tyX5_ok nmX5 hown hE.1 hP hD hS 59 iw_59 rfl 2 (by decide) (hts _ tw_735) (fun _ h9 => h9) rfl (tyX5_ok 2 (by decide)) rfl rfl (Nat.le_of_ble_eq_true rfl) dX5_init_29 (fun H locs hP hD hS => ?_)
  rw [iw_set] at hP hD
  have hP : va_P D vwCl (iw k a tr x z S U [.int 0, .int 5, .ref q1, .null, .null, .null] [(q1, .inl (k 0, 4, .inl (fun _ => 5)))]) H := hP
  have hD : va_D A (iw k a tr x z S U [.int 0, .int 5, .ref q1, .null, .null, .null] [(q1, .inl (k 0, 4, .inl (fun _ => 5)))]) := hD
  refine lv_aload_n hx hb dX5_init_32 rfl (lv_at hl 0 rfl) ?_
  refine lv_iconst (v := 0) hx hb dX5_init_33 (by decide) ?_
  refine k_anew (n := 0) hx hb hown (hts _ tw_606) hE hP hD hS hA (by omega) (Nat.le_of_ble_eq_true rfl) (Nat.le_of_ble_eq_true rfl) dX5_init_34 (fun q2 H hP hD hS => ?_)
  rw [iw_app] at hP hD
  have hP : va_P D vwCl (iw k a tr x z S U [.int 0, .int 5, .ref q1, .null, .null, .null] [(q1, .inl (k 0, 4, .inl (fun _ => 5))), (q2, outA (k 2) 0 (fun _ => none))]) H := hP
  have hD : va_D A (iw k a tr x z S U [.int 0, .int 5, .ref q1, .null, .null, .null] [(q1, .inl (k 0, 4, .inl (fun _ => 5))), (q2, outA (k 2) 0 (fun _ => none))]) := hD
  have hP := out_cong (g := rfA id) hP ((iw_Y (i := 1)).trans rfl) (fun j hj => absurd hj (Nat.not_lt_zero j))
  rw [iw_Yset] at hP
  have hP : va_P D vwCl (iw k a tr x z S U [.int 0, .int 5, .ref q1, .null, .null, .null] [(q1, .inl (k 0, 4, .inl (fun _ => 5))), (q2, outA (k 2) 0 (rfA id))]) H := hP
  have hD : va_D A (iw k a tr x z S U [.int 0, .int 5, .ref q1, .null, .null, .null] [(q1, .inl (k 0, 4, .inl (fun _ => 5))), (q2, outA (k 2) 0 (rfA id))]) := vaD_same hD rfl
  refine va_put (D := D) (ci := 5) (v := .ref q2) (ty := tyX5 3) (C := RX5) (T := TX5) (N := 6) hx hb hts tu_5 tyX5 tyX5_ok nmX5 hown hE.1 hP hD hS 59 iw_59 rfl 3 (by decide) (hts _ tw_737) (fun _ h9 => h9) rfl (tyX5_ok 3 (by decide)) rfl rfl (Nat.le_of_ble_eq_true rfl) dX5_init_37 (fun H locs hP hD hS => ?_)
  rw [iw_set] at hP hD
  have hP : va_P D vwCl (iw k a tr x z S U [.int 0, .int 5, .ref q1, .ref q2, .null, .null] [(q1, .inl (k 0, 4, .inl (fun _ => 5))), (q2, outA (k 2) 0 (rfA id))]) H := hP
  have hD : va_D A (iw k a tr x z S U [.int 0, .int 5, .ref q1, .ref q2, .null, .null] [(q1, .inl (k 0, 4, .inl (fun _ => 5))), (q2, outA (k 2) 0 (rfA id))]) := hD
  refine lv_aload_n hx hb dX5_init_40 rfl (lv_at hl 0 rfl) ?_
  refine lv_iconst (v := 0) hx hb dX5_init_41 (by decide) ?_
  refine k_anew (n := 0) hx hb hown (hts _ tw_606) hE hP hD hS hA (by omega) (Nat.le_of_ble_eq_true rfl) (Nat.le_of_ble_eq_true rfl) dX5_init_42 (fun q3 H hP hD hS => ?_)
  rw [iw_app] at hP hD
  have hP : va_P D vwCl (iw k a tr x z S U [.int 0, .int 5, .ref q1, .ref q2, .null, .null] [(q1, .inl (k 0, 4, .inl (fun _ => 5))), (q2, outA (k 2) 0 (rfA id)), (q3, outA (k 2) 0 (fun _ => none))]) H := hP
  have hD : va_D A (iw k a tr x z S U [.int 0, .int 5, .ref q1, .ref q2, .null, .null] [(q1, .inl (k 0, 4, .inl (fun _ => 5))), (q2, outA (k 2) 0 (rfA id)), (q3, outA (k 2) 0 (fun _ => none))]) := hD
  have hP := out_cong (g := rfA id) hP ((iw_Y (i := 2)).trans rfl) (fun j hj => absurd hj (Nat.not_lt_zero j))
  rw [iw_Yset] at hP
  have hP : va_P D vwCl (iw k a tr x z S U [.int 0, .int 5, .ref q1, .ref q2, .null, .null] [(q1, .inl (k 0, 4, .inl (fun _ => 5))), (q2, outA (k 2) 0 (rfA id)), (q3, outA (k 2) 0 (rfA id))]) H := hP
  have hD : va_D A (iw k a tr x z S U [.int 0, .int 5, .ref q1, .ref q2, .null, .null] [(q1, .inl (k 0, 4, .inl (fun _ => 5))), (q2, outA (k 2) 0 (rfA id)), (q3, outA (k 2) 0 (rfA id))]) := vaD_same hD rfl
  refine va_put (D := D) (ci := 5) (v := .ref q3) (ty := tyX5 4) (C := RX5) (T := TX5) (N := 6) hx hb hts tu_5 tyX5 tyX5_ok nmX5 hown hE.1 hP hD hS 59 iw_59 rfl 4 (by decide) (hts _ tw_739) (fun _ h9 => h9) rfl (tyX5_ok 4 (by decide)) rfl rfl (Nat.le_of_ble_eq_true rfl) dX5_init_45 (fun H locs hP hD hS => ?_)
  rw [iw_set] at hP hD
  have hP : va_P D vwCl (iw k a tr x z S U [.int 0, .int 5, .ref q1, .ref q2, .ref q3, .null] [(q1, .inl (k 0, 4, .inl (fun _ => 5))), (q2, outA (k 2) 0 (rfA id)), (q3, outA (k 2) 0 (rfA id))]) H := hP
  have hD : va_D A (iw k a tr x z S U [.int 0, .int 5, .ref q1, .ref q2, .ref q3, .null] [(q1, .inl (k 0, 4, .inl (fun _ => 5))), (q2, outA (k 2) 0 (rfA id)), (q3, outA (k 2) 0 (rfA id))]) := hD
  refine lv_aload_n hx hb dX5_init_48 rfl (lv_at hl 0 rfl) ?_
  refine lv_iconst (v := 0) hx hb dX5_init_49 (by decide) ?_
  refine i_newai (N := 0) hx hb (hts _ tw_49) hE hP hD hS hA (by decide) rfl (Nat.le_of_ble_eq_true rfl) (Nat.le_of_ble_eq_true rfl) (Nat.le_of_ble_eq_true rfl) dX5_init_50 (fun q4 H hP hD hS => ?_)
  rw [iw_app] at hP hD
  have hP : va_P D vwCl (iw k a tr x z S U [.int 0, .int 5, .ref q1, .ref q2, .ref q3, .null] [(q1, .inl (k 0, 4, .inl (fun _ => 5))), (q2, outA (k 2) 0 (rfA id)), (q3, outA (k 2) 0 (rfA id)), (q4, .inl (k 0, 0, .inl (fun _ => 0)))]) H := hP
  have hD : va_D A (iw k a tr x z S U [.int 0, .int 5, .ref q1, .ref q2, .ref q3, .null] [(q1, .inl (k 0, 4, .inl (fun _ => 5))), (q2, outA (k 2) 0 (rfA id)), (q3, outA (k 2) 0 (rfA id)), (q4, .inl (k 0, 0, .inl (fun _ => 0)))]) := hD
  refine va_put (D := D) (ci := 5) (v := .ref q4) (ty := tyX5 5) (C := RX5) (T := TX5) (N := 6) hx hb hts tu_5 tyX5 tyX5_ok nmX5 hown hE.1 hP hD hS 59 iw_59 rfl 5 (by decide) (hts _ tw_741) (fun _ h9 => h9) rfl (tyX5_ok 5 (by decide)) rfl rfl (Nat.le_of_ble_eq_true rfl) dX5_init_52 (fun H locs hP hD hS => ?_)
  rw [iw_set] at hP hD
  have hP : va_P D vwCl (iw k a tr x z S U [.int 0, .int 5, .ref q1, .ref q2, .ref q3, .ref q4] [(q1, .inl (k 0, 4, .inl (fun _ => 5))), (q2, outA (k 2) 0 (rfA id)), (q3, outA (k 2) 0 (rfA id)), (q4, .inl (k 0, 0, .inl (fun _ => 0)))]) H := hP
  have hD : va_D A (iw k a tr x z S U [.int 0, .int 5, .ref q1, .ref q2, .ref q3, .ref q4] [(q1, .inl (k 0, 4, .inl (fun _ => 5))), (q2, outA (k 2) 0 (rfA id)), (q3, outA (k 2) 0 (rfA id)), (q4, .inl (k 0, 0, .inl (fun _ => 0)))]) := hD
  refine g_vret hx hb hr hlk dX5_init_55 hP hD hS ⟨rfl, q1, q2, q3, q4, iw_LW⟩ (Nat.le_of_ble_eq_true rfl) (Nat.le_of_ble_eq_true rfl)

