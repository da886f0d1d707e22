set_option maxHeartbeats 4000000 in
set_option maxRecDepth 100000 in
theorem wbdL_addFlight_0 (l : Launch) {D : va_G} {k : Nat → ClassId} {a tr : Nat → Nat} {x o : Nat} {R : va_W} (S T : HS) (og : Nat → Int64) (hfl : l.stackTraces = false) (hbad : ¬ S 0 3 < 6) : LM l yL_addFlight cL_addFlight 3 [(0, 8, 11, 13)] rmL_addFlight D k (xwW k a tr x o S T og R) [.ref x, .ref o] 1 (xwW k a tr x o S T og R) := by
  refine LM_of rfl (Nat.le_of_ble_eq_true rfl) ?_
  intro p e s m below meth c hC hr hlk htab hE hP hD hX hZ hS ls hl
  have hC : CallFix p m c cL_addFlight 3 s _ lw_all RL := hC
  have hx := hC.1
  have hb := hC.2.1
  have hown : s.vm.findClass RL = some m.cls := hC.2.2.2.1
  have hts := hC.2.2.2.2
  have hl : lv_has ls 3 [(0, .ref x), (1, .ref o)] := hl
  refine lv_aload_n hx hb dL_addFlight_0 rfl (lv_at hl 1 rfl) ?_
  refine lv_iconst (v := 0) hx hb dL_addFlight_1 (by decide) ?_
  refine lv_aload_n hx hb dL_addFlight_2 rfl (lv_at hl 0 rfl) ?_
  refine c_xV (rest := [.int 0, .ref o]) (E := "java/lang/IllegalStateException") hC hE hP hX hZ (xmtX4_addFlight_0 l S hfl hbad) gc_RL_7 hd_X4_addFlight ⟨Nat.le_of_ble_eq_true rfl, Nat.le_of_ble_eq_true rfl⟩ 29 lo_29 rfl rfl hl.1 (Nat.le_of_ble_eq_true rfl) ⟨Nat.le_of_ble_eq_true rfl, Nat.le_of_ble_eq_true rfl⟩ dL_addFlight_3 (fun ce q9 H1 h1 h2 h3 hP1 hz1 hk1 => ?_)
  refine vx_catch (own := RL) (E := "java/lang/IllegalStateException") (name := "java/lang/IllegalStateException") hown [] ⟨0, 8, 11, 13⟩ [] htab (fun z hz => absurd hz List.not_mem_nil) rfl (by decide) (hts _ tw_280) (va_Nw.use rfl (hX.2.1 (.castable "java/lang/IllegalStateException" "java/lang/IllegalStateException") (by decide +kernel))) h1 h2 h3 ?_
  have hS : va_S (va_in (xwW k a tr x o S T og R)) s.heap H1 [] := ⟨hz1, fun q hq _ => hk1 q hq, fun _ h => absurd h List.not_mem_nil⟩
  have hP := hP1
  refine lv_astore_n (lv' := [(2, .ref q9), (0, .ref x), (1, .ref o)]) hx hb dL_addFlight_11 rfl hl (by decide) rfl (fun ls hl => ?_)
  refine lv_iconst (v := 1) hx hb dL_addFlight_12 (by decide) ?_
  exact W.iret hx hb hr (fun t9 ht hW => ⟨rfl, by rw [ht]; exact hP, hS.F ht⟩) hS.2.2 dL_addFlight_13

set_option maxHeartbeats 4000000 in
set_option maxRecDepth 100000 in
theorem wbdL_bagAt_0 (l : Launch) {D : va_G} {k : Nat → ClassId} {a tr : Nat → Nat} {x o : Nat} {R : va_W} (S T : HS) (og : Nat → Int64) (q : Int32) (hfl : l.stackTraces = false) (hbad : ¬ ((¬ (q < 0)) ∧ q < 12)) : LM l yL_bagAt cL_bagAt 4 [(0, 9, 12, 19)] rmL_bagAt D k (xwW k a tr x o S T og R) [.ref x, .int q, .ref o] 1 (xwW k a tr x o S T og R) := by
  refine LM_of rfl (Nat.le_of_ble_eq_true rfl) ?_
  intro p e s m below meth c hC hr hlk htab hE hP hD hX hZ hS ls hl
  have hC : CallFix p m c cL_bagAt 4 s _ lw_all RL := hC
  have hx := hC.1
  have hb := hC.2.1
  have hown : s.vm.findClass RL = some m.cls := hC.2.2.2.1
  have hts := hC.2.2.2.2
  have hl : lv_has ls 4 [(0, .ref x), (1, .int q), (2, .ref o)] := hl
  refine lv_aload_n hx hb dL_bagAt_0 rfl (lv_at hl 2 rfl) ?_
  refine lv_iconst (v := 0) hx hb dL_bagAt_1 (by decide) ?_
  refine lv_aload_n hx hb dL_bagAt_2 rfl (lv_at hl 0 rfl) ?_
  refine lv_iload_n hx hb dL_bagAt_3 rfl (lv_at hl 1 rfl) ?_
  refine c_xV (rest := [.int 0, .ref o]) (E := "java/lang/IndexOutOfBoundsException") hC hE hP hX hZ (xmtX4_bagAt_0 l S q hfl hbad) gc_RL_74 hd_X4_bagAt ⟨Nat.le_of_ble_eq_true rfl, Nat.le_of_ble_eq_true rfl⟩ 29 lo_29 rfl rfl hl.1 (Nat.le_of_ble_eq_true rfl) ⟨Nat.le_of_ble_eq_true rfl, Nat.le_of_ble_eq_true rfl⟩ dL_bagAt_4 (fun ce q9 H1 h1 h2 h3 hP1 hz1 hk1 => ?_)
  refine vx_catch (own := RL) (E := "java/lang/IndexOutOfBoundsException") (name := "java/lang/IndexOutOfBoundsException") hown [] ⟨0, 9, 12, 19⟩ [] htab (fun z hz => absurd hz List.not_mem_nil) rfl (by decide) (hts _ tw_360) (va_Nw.use rfl (hX.2.1 (.castable "java/lang/IndexOutOfBoundsException" "java/lang/IndexOutOfBoundsException") (by decide +kernel))) h1 h2 h3 ?_
  have hS : va_S (va_in (xwW k a tr x o S T og R)) s.heap H1 [] := ⟨hz1, fun q hq _ => hk1 q hq, fun _ h => absurd h List.not_mem_nil⟩
  have hP := hP1
  refine lv_astore_n (lv' := [(3, .ref q9), (0, .ref x), (1, .int q), (2, .ref o)]) hx hb dL_bagAt_12 rfl hl (by decide) rfl (fun ls hl => ?_)
  refine lv_iconst (v := 1) hx hb dL_bagAt_13 (by decide) ?_
  exact W.iret hx hb hr (fun t9 ht hW => ⟨rfl, by rw [ht]; exact hP, hS.F ht⟩) hS.2.2 dL_bagAt_14

set_option maxHeartbeats 4000000 in
set_option maxRecDepth 100000 in
theorem wbdL_bagsIn_0 (l : Launch) {D : va_G} {k : Nat → ClassId} {a tr : Nat → Nat} {x o : Nat} {R : va_W} (S T : HS) (og : Nat → Int64) (ch : Int32) (hfl : l.stackTraces = false) (hbad : ¬ xCh ch) : LM l yL_bagsIn cL_bagsIn 4 [(0, 9, 12, 19)] rmL_bagsIn D k (xwW k a tr x o S T og R) [.ref x, .int ch, .ref o] 1 (xwW k a tr x o S T og R) := by
  refine LM_of rfl (Nat.le_of_ble_eq_true rfl) ?_
  intro p e s m below meth c hC hr hlk htab hE hP hD hX hZ hS ls hl
  have hC : CallFix p m c cL_bagsIn 4 s _ lw_all RL := hC
  have hx := hC.1
  have hb := hC.2.1
  have hown : s.vm.findClass RL = some m.cls := hC.2.2.2.1
  have hts := hC.2.2.2.2
  have hl : lv_has ls 4 [(0, .ref x), (1, .int ch), (2, .ref o)] := hl
  refine lv_aload_n hx hb dL_bagsIn_0 rfl (lv_at hl 2 rfl) ?_
  refine lv_iconst (v := 0) hx hb dL_bagsIn_1 (by decide) ?_
  refine lv_aload_n hx hb dL_bagsIn_2 rfl (lv_at hl 0 rfl) ?_
  refine lv_iload_n hx hb dL_bagsIn_3 rfl (lv_at hl 1 rfl) ?_
  refine c_xV (rest := [.int 0, .ref o]) (E := "java/lang/IndexOutOfBoundsException") hC hE hP hX hZ (xmtX4_bagsIn_0 l S ch hfl hbad) gc_RL_77 hd_X4_bagsIn ⟨Nat.le_of_ble_eq_true rfl, Nat.le_of_ble_eq_true rfl⟩ 29 lo_29 rfl rfl hl.1 (Nat.le_of_ble_eq_true rfl) ⟨Nat.le_of_ble_eq_true rfl, Nat.le_of_ble_eq_true rfl⟩ dL_bagsIn_4 (fun ce q9 H1 h1 h2 h3 hP1 hz1 hk1 => ?_)
  refine vx_catch (own := RL) (E := "java/lang/IndexOutOfBoundsException") (name := "java/lang/IndexOutOfBoundsException") hown [] ⟨0, 9, 12, 19⟩ [] htab (fun z hz => absurd hz List.not_mem_nil) rfl (by decide) (hts _ tw_360) (va_Nw.use rfl (hX.2.1 (.castable "java/lang/IndexOutOfBoundsException" "java/lang/IndexOutOfBoundsException") (by decide +kernel))) h1 h2 h3 ?_
  have hS : va_S (va_in (xwW k a tr x o S T og R)) s.heap H1 [] := ⟨hz1, fun q hq _ => hk1 q hq, fun _ h => absurd h List.not_mem_nil⟩
  have hP := hP1
  refine lv_astore_n (lv' := [(3, .ref q9), (0, .ref x), (1, .int ch), (2, .ref o)]) hx hb dL_bagsIn_12 rfl hl (by decide) rfl (fun ls hl => ?_)
  refine lv_iconst (v := 1) hx hb dL_bagsIn_13 (by decide) ?_
  exact W.iret hx hb hr (fun t9 ht hW => ⟨rfl, by rw [ht]; exact hP, hS.F ht⟩) hS.2.2 dL_bagsIn_14

set_option maxHeartbeats 4000000 in
set_option maxRecDepth 100000 in
theorem wbdL_bestChute_0 (l : Launch) {D : va_G} {k : Nat → ClassId} {a tr : Nat → Nat} {x o : Nat} {R : va_W} (S T : HS) (og : Nat → Int64) (f : Int32) (N : Nat) (hfl : l.stackTraces = false) (hbad : ¬ xFlt S f) : LM l yL_bestChute cL_bestChute 5 [(0, 10, 13, 19), (0, 10, 17, 25), (0, 10, 21, 13)] rmL_bestChute D k (xwW k a tr x o S T og R) [.ref x, .int f, .int (nI N), .ref o] 1 (xwW k a tr x o S T og R) := by
  refine LM_of rfl (Nat.le_of_ble_eq_true rfl) ?_
  intro p e s m below meth c hC hr hlk htab hE hP hD hX hZ hS ls hl
  have hC : CallFix p m c cL_bestChute 5 s _ lw_all RL := hC
  have hx := hC.1
  have hb := hC.2.1
  have hown : s.vm.findClass RL = some m.cls := hC.2.2.2.1
  have hts := hC.2.2.2.2
  have hl : lv_has ls 5 [(0, .ref x), (1, .int f), (2, .int (nI N)), (3, .ref o)] := hl
  refine lv_aload_n hx hb dL_bestChute_0 rfl (lv_at hl 3 rfl) ?_
  refine lv_iconst (v := 0) hx hb dL_bestChute_1 (by decide) ?_
  refine lv_aload_n hx hb dL_bestChute_2 rfl (lv_at hl 0 rfl) ?_
  refine lv_iload_n hx hb dL_bestChute_3 rfl (lv_at hl 1 rfl) ?_
  refine lv_iload_n hx hb dL_bestChute_4 rfl (lv_at hl 2 rfl) ?_
  refine c_xV (rest := [.int 0, .ref o]) (E := "java/lang/IndexOutOfBoundsException") hC hE hP hX hZ (xmtX4_bestChute_0 l S f N hfl hbad) gc_RL_104 hd_X4_bestChute ⟨Nat.le_of_ble_eq_true rfl, Nat.le_of_ble_eq_true rfl⟩ 29 lo_29 rfl rfl hl.1 (Nat.le_of_ble_eq_true rfl) ⟨Nat.le_of_ble_eq_true rfl, Nat.le_of_ble_eq_true rfl⟩ dL_bestChute_5 (fun ce q9 H1 h1 h2 h3 hP1 hz1 hk1 => ?_)
  refine vx_catch (own := RL) (E := "java/lang/IndexOutOfBoundsException") (name := "java/lang/IndexOutOfBoundsException") hown [] ⟨0, 10, 13, 19⟩ [⟨0, 10, 17, 25⟩, ⟨0, 10, 21, 13⟩] htab (fun z hz => absurd hz List.not_mem_nil) rfl (by decide) (hts _ tw_360) (va_Nw.use rfl (hX.2.1 (.castable "java/lang/IndexOutOfBoundsException" "java/lang/IndexOutOfBoundsException") (by decide +kernel))) h1 h2 h3 ?_
  have hS : va_S (va_in (xwW k a tr x o S T og R)) s.heap H1 [] := ⟨hz1, fun q hq _ => hk1 q hq, fun _ h => absurd h List.not_mem_nil⟩
  have hP := hP1
  refine lv_astore (lv' := [(4, .ref q9), (0, .ref x), (1, .int f), (2, .int (nI N)), (3, .ref o)]) hx hb dL_bestChute_13 hl (by decide) rfl (fun ls hl => ?_)
  refine lv_iconst (v := 1) hx hb dL_bestChute_15 (by decide) ?_
  exact W.iret hx hb hr (fun t9 ht hW => ⟨rfl, by rw [ht]; exact hP, hS.F ht⟩) hS.2.2 dL_bestChute_16

set_option maxHeartbeats 4000000 in
set_option maxRecDepth 100000 in
theorem wbdL_bestChute_1 (l : Launch) {D : va_G} {k : Nat → ClassId} {a tr : Nat → Nat} {x o : Nat} {R : va_W} (S T : HS) (og : Nat → Int64) (f : Int32) (N : Nat) (hfl : l.stackTraces = false) (hk0 : xFlt S f) (hbad : ¬ xM60 (nI N)) : LM l yL_bestChute cL_bestChute 5 [(0, 10, 13, 19), (0, 10, 17, 25), (0, 10, 21, 13)] rmL_bestChute D k (xwW k a tr x o S T og R) [.ref x, .int f, .int (nI N), .ref o] 2 (xwW k a tr x o S T og R) := by
  refine LM_of rfl (Nat.le_of_ble_eq_true rfl) ?_
  intro p e s m below meth c hC hr hlk htab hE hP hD hX hZ hS ls hl
  have hC : CallFix p m c cL_bestChute 5 s _ lw_all RL := hC
  have hx := hC.1
  have hb := hC.2.1
  have hown : s.vm.findClass RL = some m.cls := hC.2.2.2.1
  have hts := hC.2.2.2.2
  have hl : lv_has ls 5 [(0, .ref x), (1, .int f), (2, .int (nI N)), (3, .ref o)] := hl
  refine lv_aload_n hx hb dL_bestChute_0 rfl (lv_at hl 3 rfl) ?_
  refine lv_iconst (v := 0) hx hb dL_bestChute_1 (by decide) ?_
  refine lv_aload_n hx hb dL_bestChute_2 rfl (lv_at hl 0 rfl) ?_
  refine lv_iload_n hx hb dL_bestChute_3 rfl (lv_at hl 1 rfl) ?_
  refine lv_iload_n hx hb dL_bestChute_4 rfl (lv_at hl 2 rfl) ?_
  refine c_xV (rest := [.int 0, .ref o]) (E := "java/lang/IllegalArgumentException") hC hE hP hX hZ (xmtX4_bestChute_1 l S f N hfl hk0 hbad) gc_RL_104 hd_X4_bestChute ⟨Nat.le_of_ble_eq_true rfl, Nat.le_of_ble_eq_true rfl⟩ 29 lo_29 rfl rfl hl.1 (Nat.le_of_ble_eq_true rfl) ⟨Nat.le_of_ble_eq_true rfl, Nat.le_of_ble_eq_true rfl⟩ dL_bestChute_5 (fun ce q9 H1 h1 h2 h3 hP1 hz1 hk1 => ?_)
  refine vx_catch (own := RL) (E := "java/lang/IllegalArgumentException") (name := "java/lang/IllegalArgumentException") hown [⟨0, 10, 13, 19⟩] ⟨0, 10, 17, 25⟩ [⟨0, 10, 21, 13⟩] htab (fun z hz => by
      simp only [List.mem_cons, List.not_mem_nil, or_false] at hz
      rcases hz with rfl
      · exact Or.inr ⟨by decide, "java/lang/IndexOutOfBoundsException", hts _ tw_360, hX.2.2.2.1⟩) rfl (by decide) (hts _ tw_408) (va_Nw.use rfl (hX.2.1 (.castable "java/lang/IllegalArgumentException" "java/lang/IllegalArgumentException") (by decide +kernel))) h1 h2 h3 ?_
  have hS : va_S (va_in (xwW k a tr x o S T og R)) s.heap H1 [] := ⟨hz1, fun q hq _ => hk1 q hq, fun _ h => absurd h List.not_mem_nil⟩
  have hP := hP1
  refine lv_astore (lv' := [(4, .ref q9), (0, .ref x), (1, .int f), (2, .int (nI N)), (3, .ref o)]) hx hb dL_bestChute_17 hl (by decide) rfl (fun ls hl => ?_)
  refine lv_iconst (v := 2) hx hb dL_bestChute_19 (by decide) ?_
  exact W.iret hx hb hr (fun t9 ht hW => ⟨rfl, by rw [ht]; exact hP, hS.F ht⟩) hS.2.2 dL_bestChute_20

set_option maxHeartbeats 4000000 in
set_option maxRecDepth 100000 in
theorem wbdL_bestChute_2 (l : Launch) {D : va_G} {k : Nat → ClassId} {a tr : Nat → Nat} {x o : Nat} {R : va_W} (S T : HS) (og : Nat → Int64) (f : Int32) (N : Nat) (hfl : l.stackTraces = false) (hk0 : xFlt S f) (hk1 : xM60 (nI N)) (hbad : ¬ (¬ (xGone S f))) : LM l yL_bestChute cL_bestChute 5 [(0, 10, 13, 19), (0, 10, 17, 25), (0, 10, 21, 13)] rmL_bestChute D k (xwW k a tr x o S T og R) [.ref x, .int f, .int (nI N), .ref o] 3 (xwW k a tr x o S T og R) := by
  refine LM_of rfl (Nat.le_of_ble_eq_true rfl) ?_
  intro p e s m below meth c hC hr hlk htab hE hP hD hX hZ hS ls hl
  have hC : CallFix p m c cL_bestChute 5 s _ lw_all RL := hC
  have hx := hC.1
  have hb := hC.2.1
  have hown : s.vm.findClass RL = some m.cls := hC.2.2.2.1
  have hts := hC.2.2.2.2
  have hl : lv_has ls 5 [(0, .ref x), (1, .int f), (2, .int (nI N)), (3, .ref o)] := hl
  refine lv_aload_n hx hb dL_bestChute_0 rfl (lv_at hl 3 rfl) ?_
  refine lv_iconst (v := 0) hx hb dL_bestChute_1 (by decide) ?_
  refine lv_aload_n hx hb dL_bestChute_2 rfl (lv_at hl 0 rfl) ?_
  refine lv_iload_n hx hb dL_bestChute_3 rfl (lv_at hl 1 rfl) ?_
  refine lv_iload_n hx hb dL_bestChute_4 rfl (lv_at hl 2 rfl) ?_
  refine c_xV (rest := [.int 0, .ref o]) (E := "java/lang/IllegalStateException") hC hE hP hX hZ (xmtX4_bestChute_2 l S f N hfl hk0 hk1 hbad) gc_RL_104 hd_X4_bestChute ⟨Nat.le_of_ble_eq_true rfl, Nat.le_of_ble_eq_true rfl⟩ 29 lo_29 rfl rfl hl.1 (Nat.le_of_ble_eq_true rfl) ⟨Nat.le_of_ble_eq_true rfl, Nat.le_of_ble_eq_true rfl⟩ dL_bestChute_5 (fun ce q9 H1 h1 h2 h3 hP1 hz1 hk1 => ?_)
  refine vx_catch (own := RL) (E := "java/lang/IllegalStateException") (name := "java/lang/IllegalStateException") hown [⟨0, 10, 13, 19⟩, ⟨0, 10, 17, 25⟩] ⟨0, 10, 21, 13⟩ [] htab (fun z hz => by
      simp only [List.mem_cons, List.not_mem_nil, or_false] at hz
      rcases hz with rfl | rfl
      · exact Or.inr ⟨by decide, "java/lang/IndexOutOfBoundsException", hts _ tw_360, hX.2.2.1⟩
      · exact Or.inr ⟨by decide, "java/lang/IllegalArgumentException", hts _ tw_408, hX.2.2.2.2⟩) rfl (by decide) (hts _ tw_280) (va_Nw.use rfl (hX.2.1 (.castable "java/lang/IllegalStateException" "java/lang/IllegalStateException") (by decide +kernel))) h1 h2 h3 ?_
  have hS : va_S (va_in (xwW k a tr x o S T og R)) s.heap H1 [] := ⟨hz1, fun q hq _ => hk1 q hq, fun _ h => absurd h List.not_mem_nil⟩
  have hP := hP1
  refine lv_astore (lv' := [(4, .ref q9), (0, .ref x), (1, .int f), (2, .int (nI N)), (3, .ref o)]) hx hb dL_bestChute_21 hl (by decide) rfl (fun ls hl => ?_)
  refine lv_iconst (v := 3) hx hb dL_bestChute_23 (by decide) ?_
  exact W.iret hx hb hr (fun t9 ht hW => ⟨rfl, by rw [ht]; exact hP, hS.F ht⟩) hS.2.2 dL_bestChute_24

set_option maxHeartbeats 4000000 in
set_option maxRecDepth 100000 in
theorem wbdL_carry_0 (l : Launch) {D : va_G} {k : Nat → ClassId} {a tr : Nat → Nat} {x o : Nat} {R : va_W} (S T : HS) (og : Nat → Int64) (b : Int32) (hfl : l.stackTraces = false) (hbad : ¬ xBag S b) : LM l yL_carry cL_carry 4 [(0, 9, 12, 19), (0, 9, 15, 13)] rmL_carry D k (xwW k a tr x o S T og R) [.ref x, .int b, .ref o] 1 (xwW k a tr x o S T og R) := by
  refine LM_of rfl (Nat.le_of_ble_eq_true rfl) ?_
  intro p e s m below meth c hC hr hlk htab hE hP hD hX hZ hS ls hl
  have hC : CallFix p m c cL_carry 4 s _ lw_all RL := hC
  have hx := hC.1
  have hb := hC.2.1
  have hown : s.vm.findClass RL = some m.cls := hC.2.2.2.1
  have hts := hC.2.2.2.2
  have hl : lv_has ls 4 [(0, .ref x), (1, .int b), (2, .ref o)] := hl
  refine lv_aload_n hx hb dL_carry_0 rfl (lv_at hl 2 rfl) ?_
  refine lv_iconst (v := 0) hx hb dL_carry_1 (by decide) ?_
  refine lv_aload_n hx hb dL_carry_2 rfl (lv_at hl 0 rfl) ?_
  refine lv_iload_n hx hb dL_carry_3 rfl (lv_at hl 1 rfl) ?_
  refine c_xV (rest := [.int 0, .ref o]) (E := "java/lang/IndexOutOfBoundsException") hC hE hP hX hZ (xmtX4_carry_0 l S b hfl hbad) gc_RL_34 hd_X4_carry ⟨Nat.le_of_ble_eq_true rfl, Nat.le_of_ble_eq_true rfl⟩ 29 lo_29 rfl rfl hl.1 (Nat.le_of_ble_eq_true rfl) ⟨Nat.le_of_ble_eq_true rfl, Nat.le_of_ble_eq_true rfl⟩ dL_carry_4 (fun ce q9 H1 h1 h2 h3 hP1 hz1 hk1 => ?_)
  refine vx_catch (own := RL) (E := "java/lang/IndexOutOfBoundsException") (name := "java/lang/IndexOutOfBoundsException") hown [] ⟨0, 9, 12, 19⟩ [⟨0, 9, 15, 13⟩] htab (fun z hz => absurd hz List.not_mem_nil) rfl (by decide) (hts _ tw_360) (va_Nw.use rfl (hX.2.1 (.castable "java/lang/IndexOutOfBoundsException" "java/lang/IndexOutOfBoundsException") (by decide +kernel))) h1 h2 h3 ?_
  have hS : va_S (va_in (xwW k a tr x o S T og R)) s.heap H1 [] := ⟨hz1, fun q hq _ => hk1 q hq, fun _ h => absurd h List.not_mem_nil⟩
  have hP := hP1
  refine lv_astore_n (lv' := [(3, .ref q9), (0, .ref x), (1, .int b), (2, .ref o)]) hx hb dL_carry_12 rfl hl (by decide) rfl (fun ls hl => ?_)
  refine lv_iconst (v := 1) hx hb dL_carry_13 (by decide) ?_
  exact W.iret hx hb hr (fun t9 ht hW => ⟨rfl, by rw [ht]; exact hP, hS.F ht⟩) hS.2.2 dL_carry_14

set_option maxHeartbeats 4000000 in
set_option maxRecDepth 100000 in
theorem wbdL_carry_1 (l : Launch) {D : va_G} {k : Nat → ClassId} {a tr : Nat → Nat} {x o : Nat} {R : va_W} (S T : HS) (og : Nat → Int64) (b : Int32) (hfl : l.stackTraces = false) (hk0 : xBag S b) (hbad : ¬ xHand S b) : LM l yL_carry cL_carry 4 [(0, 9, 12, 19), (0, 9, 15, 13)] rmL_carry D k (xwW k a tr x o S T og R) [.ref x, .int b, .ref o] 2 (xwW k a tr x o S T og R) := by
  refine LM_of rfl (Nat.le_of_ble_eq_true rfl) ?_
  intro p e s m below meth c hC hr hlk htab hE hP hD hX hZ hS ls hl
  have hC : CallFix p m c cL_carry 4 s _ lw_all RL := hC
  have hx := hC.1
  have hb := hC.2.1
  have hown : s.vm.findClass RL = some m.cls := hC.2.2.2.1
  have hts := hC.2.2.2.2
  have hl : lv_has ls 4 [(0, .ref x), (1, .int b), (2, .ref o)] := hl
  refine lv_aload_n hx hb dL_carry_0 rfl (lv_at hl 2 rfl) ?_
  refine lv_iconst (v := 0) hx hb dL_carry_1 (by decide) ?_
  refine lv_aload_n hx hb dL_carry_2 rfl (lv_at hl 0 rfl) ?_
  refine lv_iload_n hx hb dL_carry_3 rfl (lv_at hl 1 rfl) ?_
  refine c_xV (rest := [.int 0, .ref o]) (E := "java/lang/IllegalStateException") hC hE hP hX hZ (xmtX4_carry_1 l S b hfl hk0 hbad) gc_RL_34 hd_X4_carry ⟨Nat.le_of_ble_eq_true rfl, Nat.le_of_ble_eq_true rfl⟩ 29 lo_29 rfl rfl hl.1 (Nat.le_of_ble_eq_true rfl) ⟨Nat.le_of_ble_eq_true rfl, Nat.le_of_ble_eq_true rfl⟩ dL_carry_4 (fun ce q9 H1 h1 h2 h3 hP1 hz1 hk1 => ?_)
  refine vx_catch (own := RL) (E := "java/lang/IllegalStateException") (name := "java/lang/IllegalStateException") hown [⟨0, 9, 12, 19⟩] ⟨0, 9, 15, 13⟩ [] htab (fun z hz => by
      simp only [List.mem_cons, List.not_mem_nil, or_false] at hz
      rcases hz with rfl
      · exact Or.inr ⟨by decide, "java/lang/IndexOutOfBoundsException", hts _ tw_360, hX.2.2.1⟩) rfl (by decide) (hts _ tw_280) (va_Nw.use rfl (hX.2.1 (.castable "java/lang/IllegalStateException" "java/lang/IllegalStateException") (by decide +kernel))) h1 h2 h3 ?_
  have hS : va_S (va_in (xwW k a tr x o S T og R)) s.heap H1 [] := ⟨hz1, fun q hq _ => hk1 q hq, fun _ h => absurd h List.not_mem_nil⟩
  have hP := hP1
  refine lv_astore_n (lv' := [(3, .ref q9), (0, .ref x), (1, .int b), (2, .ref o)]) hx hb dL_carry_15 rfl hl (by decide) rfl (fun ls hl => ?_)
  refine lv_iconst (v := 2) hx hb dL_carry_16 (by decide) ?_
  exact W.iret hx hb hr (fun t9 ht hW => ⟨rfl, by rw [ht]; exact hP, hS.F ht⟩) hS.2.2 dL_carry_17

set_option maxHeartbeats 4000000 in
set_option maxRecDepth 100000 in
theorem wbdL_carry_2 (l : Launch) {D : va_G} {k : Nat → ClassId} {a tr : Nat → Nat} {x o : Nat} {R : va_W} (S T : HS) (og : Nat → Int64) (b : Int32) (hfl : l.stackTraces = false) (hk0 : xBag S b) (hk1 : xHand S b) (hbad : ¬ (¬ (xGone S (rd 40 (S 3) b)))) : LM l yL_carry cL_carry 4 [(0, 9, 12, 19), (0, 9, 15, 13)] rmL_carry D k (xwW k a tr x o S T og R) [.ref x, .int b, .ref o] 2 (xwW k a tr x o S T og R) := by
  refine LM_of rfl (Nat.le_of_ble_eq_true rfl) ?_
  intro p e s m below meth c hC hr hlk htab hE hP hD hX hZ hS ls hl
  have hC : CallFix p m c cL_carry 4 s _ lw_all RL := hC
  have hx := hC.1
  have hb := hC.2.1
  have hown : s.vm.findClass RL = some m.cls := hC.2.2.2.1
  have hts := hC.2.2.2.2
  have hl : lv_has ls 4 [(0, .ref x), (1, .int b), (2, .ref o)] := hl
  refine lv_aload_n hx hb dL_carry_0 rfl (lv_at hl 2 rfl) ?_
  refine lv_iconst (v := 0) hx hb dL_carry_1 (by decide) ?_
  refine lv_aload_n hx hb dL_carry_2 rfl (lv_at hl 0 rfl) ?_
  refine lv_iload_n hx hb dL_carry_3 rfl (lv_at hl 1 rfl) ?_
  refine c_xV (rest := [.int 0, .ref o]) (E := "java/lang/IllegalStateException") hC hE hP hX hZ (xmtX4_carry_2 l S b hfl hk0 hk1 hbad) gc_RL_34 hd_X4_carry ⟨Nat.le_of_ble_eq_true rfl, Nat.le_of_ble_eq_true rfl⟩ 29 lo_29 rfl rfl hl.1 (Nat.le_of_ble_eq_true rfl) ⟨Nat.le_of_ble_eq_true rfl, Nat.le_of_ble_eq_true rfl⟩ dL_carry_4 (fun ce q9 H1 h1 h2 h3 hP1 hz1 hk1 => ?_)
  refine vx_catch (own := RL) (E := "java/lang/IllegalStateException") (name := "java/lang/IllegalStateException") hown [⟨0, 9, 12, 19⟩] ⟨0, 9, 15, 13⟩ [] htab (fun z hz => by
      simp only [List.mem_cons, List.not_mem_nil, or_false] at hz
      rcases hz with rfl
      · exact Or.inr ⟨by decide, "java/lang/IndexOutOfBoundsException", hts _ tw_360, hX.2.2.1⟩) rfl (by decide) (hts _ tw_280) (va_Nw.use rfl (hX.2.1 (.castable "java/lang/IllegalStateException" "java/lang/IllegalStateException") (by decide +kernel))) h1 h2 h3 ?_
  have hS : va_S (va_in (xwW k a tr x o S T og R)) s.heap H1 [] := ⟨hz1, fun q hq _ => hk1 q hq, fun _ h => absurd h List.not_mem_nil⟩
  have hP := hP1
  refine lv_astore_n (lv' := [(3, .ref q9), (0, .ref x), (1, .int b), (2, .ref o)]) hx hb dL_carry_15 rfl hl (by decide) rfl (fun ls hl => ?_)
  refine lv_iconst (v := 2) hx hb dL_carry_16 (by decide) ?_
  exact W.iret hx hb hr (fun t9 ht hW => ⟨rfl, by rw [ht]; exact hP, hS.F ht⟩) hS.2.2 dL_carry_17

set_option maxHeartbeats 4000000 in
set_option maxRecDepth 100000 in
theorem wbdL_carry_3 (l : Launch) {D : va_G} {k : Nat → ClassId} {a tr : Nat → Nat} {x o : Nat} {R : va_W} (S T : HS) (og : Nat → Int64) (b : Int32) (hfl : l.stackTraces = false) (hk0 : xBag S b) (hk1 : xHand S b) (hk2 : (¬ (xGone S (rd 40 (S 3) b)))) (hbad : ¬ (xCh (rd 6 (S 1) (rd 40 (S 3) b)) ∧ xRoom S (rd 6 (S 1) (rd 40 (S 3) b)))) : LM l yL_carry cL_carry 4 [(0, 9, 12, 19), (0, 9, 15, 13)] rmL_carry D k (xwW k a tr x o S T og R) [.ref x, .int b, .ref o] 2 (xwW k a tr x o S T og R) := by
  refine LM_of rfl (Nat.le_of_ble_eq_true rfl) ?_
  intro p e s m below meth c hC hr hlk htab hE hP hD hX hZ hS ls hl
  have hC : CallFix p m c cL_carry 4 s _ lw_all RL := hC
  have hx := hC.1
  have hb := hC.2.1
  have hown : s.vm.findClass RL = some m.cls := hC.2.2.2.1
  have hts := hC.2.2.2.2
  have hl : lv_has ls 4 [(0, .ref x), (1, .int b), (2, .ref o)] := hl
  refine lv_aload_n hx hb dL_carry_0 rfl (lv_at hl 2 rfl) ?_
  refine lv_iconst (v := 0) hx hb dL_carry_1 (by decide) ?_
  refine lv_aload_n hx hb dL_carry_2 rfl (lv_at hl 0 rfl) ?_
  refine lv_iload_n hx hb dL_carry_3 rfl (lv_at hl 1 rfl) ?_
  refine c_xV (rest := [.int 0, .ref o]) (E := "java/lang/IllegalStateException") hC hE hP hX hZ (xmtX4_carry_3 l S b hfl hk0 hk1 hk2 hbad) gc_RL_34 hd_X4_carry ⟨Nat.le_of_ble_eq_true rfl, Nat.le_of_ble_eq_true rfl⟩ 29 lo_29 rfl rfl hl.1 (Nat.le_of_ble_eq_true rfl) ⟨Nat.le_of_ble_eq_true rfl, Nat.le_of_ble_eq_true rfl⟩ dL_carry_4 (fun ce q9 H1 h1 h2 h3 hP1 hz1 hk1 => ?_)
  refine vx_catch (own := RL) (E := "java/lang/IllegalStateException") (name := "java/lang/IllegalStateException") hown [⟨0, 9, 12, 19⟩] ⟨0, 9, 15, 13⟩ [] htab (fun z hz => by
      simp only [List.mem_cons, List.not_mem_nil, or_false] at hz
      rcases hz with rfl
      · exact Or.inr ⟨by decide, "java/lang/IndexOutOfBoundsException", hts _ tw_360, hX.2.2.1⟩) rfl (by decide) (hts _ tw_280) (va_Nw.use rfl (hX.2.1 (.castable "java/lang/IllegalStateException" "java/lang/IllegalStateException") (by decide +kernel))) h1 h2 h3 ?_
  have hS : va_S (va_in (xwW k a tr x o S T og R)) s.heap H1 [] := ⟨hz1, fun q hq _ => hk1 q hq, fun _ h => absurd h List.not_mem_nil⟩
  have hP := hP1
  refine lv_astore_n (lv' := [(3, .ref q9), (0, .ref x), (1, .int b), (2, .ref o)]) hx hb dL_carry_15 rfl hl (by decide) rfl (fun ls hl => ?_)
  refine lv_iconst (v := 2) hx hb dL_carry_16 (by decide) ?_
  exact W.iret hx hb hr (fun t9 ht hW => ⟨rfl, by rw [ht]; exact hP, hS.F ht⟩) hS.2.2 dL_carry_17

set_option maxHeartbeats 4000000 in
set_option maxRecDepth 100000 in
theorem wbdL_checkIn_0 (l : Launch) {D : va_G} {k : Nat → ClassId} {a tr : Nat → Nat} {x o : Nat} {R : va_W} (S T : HS) (og : Nat → Int64) (f : Int32) (z : Int32) (v : Int32) (hfl : l.stackTraces = false) (hbad : ¬ xFlt S f) : LM l yL_checkIn cL_checkIn 6 [(0, 12, 15, 19), (0, 12, 19, 25), (0, 12, 23, 13)] rmL_checkIn D k (xwW k a tr x o S T og R) [.ref x, .int f, .int z, .int v, .ref o] 1 (xwW k a tr x o S T og R) := by
  refine LM_of rfl (Nat.le_of_ble_eq_true rfl) ?_
  intro p e s m below meth c hC hr hlk htab hE hP hD hX hZ hS ls hl
  have hC : CallFix p m c cL_checkIn 6 s _ lw_all RL := hC
  have hx := hC.1
  have hb := hC.2.1
  have hown : s.vm.findClass RL = some m.cls := hC.2.2.2.1
  have hts := hC.2.2.2.2
  have hl : lv_has ls 6 [(0, .ref x), (1, .int f), (2, .int z), (3, .int v), (4, .ref o)] := hl
  refine lv_aload hx hb dL_checkIn_0 (lv_at hl 4 rfl) ?_
  refine lv_iconst (v := 0) hx hb dL_checkIn_2 (by decide) ?_
  refine lv_aload_n hx hb dL_checkIn_3 rfl (lv_at hl 0 rfl) ?_
  refine lv_iload_n hx hb dL_checkIn_4 rfl (lv_at hl 1 rfl) ?_
  refine lv_iload_n hx hb dL_checkIn_5 rfl (lv_at hl 2 rfl) ?_
  refine lv_iload_n hx hb dL_checkIn_6 rfl (lv_at hl 3 rfl) ?_
  refine c_xV (rest := [.int 0, .ref o]) (E := "java/lang/IndexOutOfBoundsException") hC hE hP hX hZ (xmtX4_checkIn_0 l S f z v hfl hbad) gc_RL_30 hd_X4_checkIn ⟨Nat.le_of_ble_eq_true rfl, Nat.le_of_ble_eq_true rfl⟩ 29 lo_29 rfl rfl hl.1 (Nat.le_of_ble_eq_true rfl) ⟨Nat.le_of_ble_eq_true rfl, Nat.le_of_ble_eq_true rfl⟩ dL_checkIn_7 (fun ce q9 H1 h1 h2 h3 hP1 hz1 hk1 => ?_)
  refine vx_catch (own := RL) (E := "java/lang/IndexOutOfBoundsException") (name := "java/lang/IndexOutOfBoundsException") hown [] ⟨0, 12, 15, 19⟩ [⟨0, 12, 19, 25⟩, ⟨0, 12, 23, 13⟩] htab (fun z hz => absurd hz List.not_mem_nil) rfl (by decide) (hts _ tw_360) (va_Nw.use rfl (hX.2.1 (.castable "java/lang/IndexOutOfBoundsException" "java/lang/IndexOutOfBoundsException") (by decide +kernel))) h1 h2 h3 ?_
  have hS : va_S (va_in (xwW k a tr x o S T og R)) s.heap H1 [] := ⟨hz1, fun q hq _ => hk1 q hq, fun _ h => absurd h List.not_mem_nil⟩
  have hP := hP1
  refine lv_astore (lv' := [(5, .ref q9), (0, .ref x), (1, .int f), (2, .int z), (3, .int v), (4, .ref o)]) hx hb dL_checkIn_15 hl (by decide) rfl (fun ls hl => ?_)
  refine lv_iconst (v := 1) hx hb dL_checkIn_17 (by decide) ?_
  exact W.iret hx hb hr (fun t9 ht hW => ⟨rfl, by rw [ht]; exact hP, hS.F ht⟩) hS.2.2 dL_checkIn_18

set_option maxHeartbeats 4000000 in
set_option maxRecDepth 100000 in
theorem wbdL_checkIn_1 (l : Launch) {D : va_G} {k : Nat → ClassId} {a tr : Nat → Nat} {x o : Nat} {R : va_W} (S T : HS) (og : Nat → Int64) (f : Int32) (z : Int32) (v : Int32) (hfl : l.stackTraces = false) (hk0 : xFlt S f) (hbad : ¬ ((¬ (z < 1)) ∧ (¬ (9 < z)) ∧ (¬ (v < 0)) ∧ (¬ (9 < v)))) : LM l yL_checkIn cL_checkIn 6 [(0, 12, 15, 19), (0, 12, 19, 25), (0, 12, 23, 13)] rmL_checkIn D k (xwW k a tr x o S T og R) [.ref x, .int f, .int z, .int v, .ref o] 2 (xwW k a tr x o S T og R) := by
  refine LM_of rfl (Nat.le_of_ble_eq_true rfl) ?_
  intro p e s m below meth c hC hr hlk htab hE hP hD hX hZ hS ls hl
  have hC : CallFix p m c cL_checkIn 6 s _ lw_all RL := hC
  have hx := hC.1
  have hb := hC.2.1
  have hown : s.vm.findClass RL = some m.cls := hC.2.2.2.1
  have hts := hC.2.2.2.2
  have hl : lv_has ls 6 [(0, .ref x), (1, .int f), (2, .int z), (3, .int v), (4, .ref o)] := hl
  refine lv_aload hx hb dL_checkIn_0 (lv_at hl 4 rfl) ?_
  refine lv_iconst (v := 0) hx hb dL_checkIn_2 (by decide) ?_
  refine lv_aload_n hx hb dL_checkIn_3 rfl (lv_at hl 0 rfl) ?_
  refine lv_iload_n hx hb dL_checkIn_4 rfl (lv_at hl 1 rfl) ?_
  refine lv_iload_n hx hb dL_checkIn_5 rfl (lv_at hl 2 rfl) ?_
  refine lv_iload_n hx hb dL_checkIn_6 rfl (lv_at hl 3 rfl) ?_
  refine c_xV (rest := [.int 0, .ref o]) (E := "java/lang/IllegalArgumentException") hC hE hP hX hZ (xmtX4_checkIn_1 l S f z v hfl hk0 hbad) gc_RL_30 hd_X4_checkIn ⟨Nat.le_of_ble_eq_true rfl, Nat.le_of_ble_eq_true rfl⟩ 29 lo_29 rfl rfl hl.1 (Nat.le_of_ble_eq_true rfl) ⟨Nat.le_of_ble_eq_true rfl, Nat.le_of_ble_eq_true rfl⟩ dL_checkIn_7 (fun ce q9 H1 h1 h2 h3 hP1 hz1 hk1 => ?_)
  refine vx_catch (own := RL) (E := "java/lang/IllegalArgumentException") (name := "java/lang/IllegalArgumentException") hown [⟨0, 12, 15, 19⟩] ⟨0, 12, 19, 25⟩ [⟨0, 12, 23, 13⟩] htab (fun z hz => by
      simp only [List.mem_cons, List.not_mem_nil, or_false] at hz
      rcases hz with rfl
      · exact Or.inr ⟨by decide, "java/lang/IndexOutOfBoundsException", hts _ tw_360, hX.2.2.2.1⟩) rfl (by decide) (hts _ tw_408) (va_Nw.use rfl (hX.2.1 (.castable "java/lang/IllegalArgumentException" "java/lang/IllegalArgumentException") (by decide +kernel))) h1 h2 h3 ?_
  have hS : va_S (va_in (xwW k a tr x o S T og R)) s.heap H1 [] := ⟨hz1, fun q hq _ => hk1 q hq, fun _ h => absurd h List.not_mem_nil⟩
  have hP := hP1
  refine lv_astore (lv' := [(5, .ref q9), (0, .ref x), (1, .int f), (2, .int z), (3, .int v), (4, .ref o)]) hx hb dL_checkIn_19 hl (by decide) rfl (fun ls hl => ?_)
  refine lv_iconst (v := 2) hx hb dL_checkIn_21 (by decide) ?_
  exact W.iret hx hb hr (fun t9 ht hW => ⟨rfl, by rw [ht]; exact hP, hS.F ht⟩) hS.2.2 dL_checkIn_22

set_option maxHeartbeats 4000000 in
set_option maxRecDepth 100000 in
theorem wbdL_checkIn_2 (l : Launch) {D : va_G} {k : Nat → ClassId} {a tr : Nat → Nat} {x o : Nat} {R : va_W} (S T : HS) (og : Nat → Int64) (f : Int32) (z : Int32) (v : Int32) (hfl : l.stackTraces = false) (hk0 : xFlt S f) (hk1 : ((¬ (z < 1)) ∧ (¬ (9 < z)) ∧ (¬ (v < 0)) ∧ (¬ (9 < v)))) (hbad : ¬ S 0 4 < 40) : LM l yL_checkIn cL_checkIn 6 [(0, 12, 15, 19), (0, 12, 19, 25), (0, 12, 23, 13)] rmL_checkIn D k (xwW k a tr x o S T og R) [.ref x, .int f, .int z, .int v, .ref o] 3 (xwW k a tr x o S T og R) := by
  refine LM_of rfl (Nat.le_of_ble_eq_true rfl) ?_
  intro p e s m below meth c hC hr hlk htab hE hP hD hX hZ hS ls hl
  have hC : CallFix p m c cL_checkIn 6 s _ lw_all RL := hC
  have hx := hC.1
  have hb := hC.2.1
  have hown : s.vm.findClass RL = some m.cls := hC.2.2.2.1
  have hts := hC.2.2.2.2
  have hl : lv_has ls 6 [(0, .ref x), (1, .int f), (2, .int z), (3, .int v), (4, .ref o)] := hl
  refine lv_aload hx hb dL_checkIn_0 (lv_at hl 4 rfl) ?_
  refine lv_iconst (v := 0) hx hb dL_checkIn_2 (by decide) ?_
  refine lv_aload_n hx hb dL_checkIn_3 rfl (lv_at hl 0 rfl) ?_
  refine lv_iload_n hx hb dL_checkIn_4 rfl (lv_at hl 1 rfl) ?_
  refine lv_iload_n hx hb dL_checkIn_5 rfl (lv_at hl 2 rfl) ?_
  refine lv_iload_n hx hb dL_checkIn_6 rfl (lv_at hl 3 rfl) ?_
  refine c_xV (rest := [.int 0, .ref o]) (E := "java/lang/IllegalStateException") hC hE hP hX hZ (xmtX4_checkIn_2 l S f z v hfl hk0 hk1 hbad) gc_RL_30 hd_X4_checkIn ⟨Nat.le_of_ble_eq_true rfl, Nat.le_of_ble_eq_true rfl⟩ 29 lo_29 rfl rfl hl.1 (Nat.le_of_ble_eq_true rfl) ⟨Nat.le_of_ble_eq_true rfl, Nat.le_of_ble_eq_true rfl⟩ dL_checkIn_7 (fun ce q9 H1 h1 h2 h3 hP1 hz1 hk1 => ?_)
  refine vx_catch (own := RL) (E := "java/lang/IllegalStateException") (name := "java/lang/IllegalStateException") hown [⟨0, 12, 15, 19⟩, ⟨0, 12, 19, 25⟩] ⟨0, 12, 23, 13⟩ [] htab (fun z hz => by
      simp only [List.mem_cons, List.not_mem_nil, or_false] at hz
      rcases hz with rfl | rfl
      · exact Or.inr ⟨by decide, "java/lang/IndexOutOfBoundsException", hts _ tw_360, hX.2.2.1⟩
      · exact Or.inr ⟨by decide, "java/lang/IllegalArgumentException", hts _ tw_408, hX.2.2.2.2⟩) rfl (by decide) (hts _ tw_280) (va_Nw.use rfl (hX.2.1 (.castable "java/lang/IllegalStateException" "java/lang/IllegalStateException") (by decide +kernel))) h1 h2 h3 ?_
  have hS : va_S (va_in (xwW k a tr x o S T og R)) s.heap H1 [] := ⟨hz1, fun q hq _ => hk1 q hq, fun _ h => absurd h List.not_mem_nil⟩
  have hP := hP1
  refine lv_astore (lv' := [(5, .ref q9), (0, .ref x), (1, .int f), (2, .int z), (3, .int v), (4, .ref o)]) hx hb dL_checkIn_23 hl (by decide) rfl (fun ls hl => ?_)
  refine lv_iconst (v := 3) hx hb dL_checkIn_25 (by decide) ?_
  exact W.iret hx hb hr (fun t9 ht hW => ⟨rfl, by rw [ht]; exact hP, hS.F ht⟩) hS.2.2 dL_checkIn_26

set_option maxHeartbeats 4000000 in
set_option maxRecDepth 100000 in
theorem wbdL_checkIn_3 (l : Launch) {D : va_G} {k : Nat → ClassId} {a tr : Nat → Nat} {x o : Nat} {R : va_W} (S T : HS) (og : Nat → Int64) (f : Int32) (z : Int32) (v : Int32) (hfl : l.stackTraces = false) (hk0 : xFlt S f) (hk1 : ((¬ (z < 1)) ∧ (¬ (9 < z)) ∧ (¬ (v < 0)) ∧ (¬ (9 < v)))) (hk2 : S 0 4 < 40) (hbad : ¬ (¬ (xGone S f))) : LM l yL_checkIn cL_checkIn 6 [(0, 12, 15, 19), (0, 12, 19, 25), (0, 12, 23, 13)] rmL_checkIn D k (xwW k a tr x o S T og R) [.ref x, .int f, .int z, .int v, .ref o] 3 (xwW k a tr x o S T og R) := by
  refine LM_of rfl (Nat.le_of_ble_eq_true rfl) ?_
  intro p e s m below meth c hC hr hlk htab hE hP hD hX hZ hS ls hl
  have hC : CallFix p m c cL_checkIn 6 s _ lw_all RL := hC
  have hx := hC.1
  have hb := hC.2.1
  have hown : s.vm.findClass RL = some m.cls := hC.2.2.2.1
  have hts := hC.2.2.2.2
  have hl : lv_has ls 6 [(0, .ref x), (1, .int f), (2, .int z), (3, .int v), (4, .ref o)] := hl
  refine lv_aload hx hb dL_checkIn_0 (lv_at hl 4 rfl) ?_
  refine lv_iconst (v := 0) hx hb dL_checkIn_2 (by decide) ?_
  refine lv_aload_n hx hb dL_checkIn_3 rfl (lv_at hl 0 rfl) ?_
  refine lv_iload_n hx hb dL_checkIn_4 rfl (lv_at hl 1 rfl) ?_
  refine lv_iload_n hx hb dL_checkIn_5 rfl (lv_at hl 2 rfl) ?_
  refine lv_iload_n hx hb dL_checkIn_6 rfl (lv_at hl 3 rfl) ?_
  refine c_xV (rest := [.int 0, .ref o]) (E := "java/lang/IllegalStateException") hC hE hP hX hZ (xmtX4_checkIn_3 l S f z v hfl hk0 hk1 hk2 hbad) gc_RL_30 hd_X4_checkIn ⟨Nat.le_of_ble_eq_true rfl, Nat.le_of_ble_eq_true rfl⟩ 29 lo_29 rfl rfl hl.1 (Nat.le_of_ble_eq_true rfl) ⟨Nat.le_of_ble_eq_true rfl, Nat.le_of_ble_eq_true rfl⟩ dL_checkIn_7 (fun ce q9 H1 h1 h2 h3 hP1 hz1 hk1 => ?_)
  refine vx_catch (own := RL) (E := "java/lang/IllegalStateException") (name := "java/lang/IllegalStateException") hown [⟨0, 12, 15, 19⟩, ⟨0, 12, 19, 25⟩] ⟨0, 12, 23, 13⟩ [] htab (fun z hz => by
      simp only [List.mem_cons, List.not_mem_nil, or_false] at hz
      rcases hz with rfl | rfl
      · exact Or.inr ⟨by decide, "java/lang/IndexOutOfBoundsException", hts _ tw_360, hX.2.2.1⟩
      · exact Or.inr ⟨by decide, "java/lang/IllegalArgumentException", hts _ tw_408, hX.2.2.2.2⟩) rfl (by decide) (hts _ tw_280) (va_Nw.use rfl (hX.2.1 (.castable "java/lang/IllegalStateException" "java/lang/IllegalStateException") (by decide +kernel))) h1 h2 h3 ?_
  have hS : va_S (va_in (xwW k a tr x o S T og R)) s.heap H1 [] := ⟨hz1, fun q hq _ => hk1 q hq, fun _ h => absurd h List.not_mem_nil⟩
  have hP := hP1
  refine lv_astore (lv' := [(5, .ref q9), (0, .ref x), (1, .int f), (2, .int z), (3, .int v), (4, .ref o)]) hx hb dL_checkIn_23 hl (by decide) rfl (fun ls hl => ?_)
  refine lv_iconst (v := 3) hx hb dL_checkIn_25 (by decide) ?_
  exact W.iret hx hb hr (fun t9 ht hW => ⟨rfl, by rw [ht]; exact hP, hS.F ht⟩) hS.2.2 dL_checkIn_26

set_option maxHeartbeats 4000000 in
set_option maxRecDepth 100000 in
theorem wbdL_chuteOf_0 (l : Launch) {D : va_G} {k : Nat → ClassId} {a tr : Nat → Nat} {x o : Nat} {R : va_W} (S T : HS) (og : Nat → Int64) (b : Int32) (hfl : l.stackTraces = false) (hbad : ¬ xBag S b) : LM l yL_chuteOf cL_chuteOf 4 [(0, 9, 12, 19)] rmL_chuteOf D k (xwW k a tr x o S T og R) [.ref x, .int b, .ref o] 1 (xwW k a tr x o S T og R) := by
  refine LM_of rfl (Nat.le_of_ble_eq_true rfl) ?_
  intro p e s m below meth c hC hr hlk htab hE hP hD hX hZ hS ls hl
  have hC : CallFix p m c cL_chuteOf 4 s _ lw_all RL := hC
  have hx := hC.1
  have hb := hC.2.1
  have hown : s.vm.findClass RL = some m.cls := hC.2.2.2.1
  have hts := hC.2.2.2.2
  have hl : lv_has ls 4 [(0, .ref x), (1, .int b), (2, .ref o)] := hl
  refine lv_aload_n hx hb dL_chuteOf_0 rfl (lv_at hl 2 rfl) ?_
  refine lv_iconst (v := 0) hx hb dL_chuteOf_1 (by decide) ?_
  refine lv_aload_n hx hb dL_chuteOf_2 rfl (lv_at hl 0 rfl) ?_
  refine lv_iload_n hx hb dL_chuteOf_3 rfl (lv_at hl 1 rfl) ?_
  refine c_xV (rest := [.int 0, .ref o]) (E := "java/lang/IndexOutOfBoundsException") hC hE hP hX hZ (xmtX4_chuteOf_0 l S b hfl hbad) gc_RL_58 hd_X4_chuteOf ⟨Nat.le_of_ble_eq_true rfl, Nat.le_of_ble_eq_true rfl⟩ 29 lo_29 rfl rfl hl.1 (Nat.le_of_ble_eq_true rfl) ⟨Nat.le_of_ble_eq_true rfl, Nat.le_of_ble_eq_true rfl⟩ dL_chuteOf_4 (fun ce q9 H1 h1 h2 h3 hP1 hz1 hk1 => ?_)
  refine vx_catch (own := RL) (E := "java/lang/IndexOutOfBoundsException") (name := "java/lang/IndexOutOfBoundsException") hown [] ⟨0, 9, 12, 19⟩ [] htab (fun z hz => absurd hz List.not_mem_nil) rfl (by decide) (hts _ tw_360) (va_Nw.use rfl (hX.2.1 (.castable "java/lang/IndexOutOfBoundsException" "java/lang/IndexOutOfBoundsException") (by decide +kernel))) h1 h2 h3 ?_
  have hS : va_S (va_in (xwW k a tr x o S T og R)) s.heap H1 [] := ⟨hz1, fun q hq _ => hk1 q hq, fun _ h => absurd h List.not_mem_nil⟩
  have hP := hP1
  refine lv_astore_n (lv' := [(3, .ref q9), (0, .ref x), (1, .int b), (2, .ref o)]) hx hb dL_chuteOf_12 rfl hl (by decide) rfl (fun ls hl => ?_)
  refine lv_iconst (v := 1) hx hb dL_chuteOf_13 (by decide) ?_
  exact W.iret hx hb hr (fun t9 ht hW => ⟨rfl, by rw [ht]; exact hP, hS.F ht⟩) hS.2.2 dL_chuteOf_14

set_option maxHeartbeats 4000000 in
set_option maxRecDepth 100000 in
theorem wbdL_chuteOfFlight_0 (l : Launch) {D : va_G} {k : Nat → ClassId} {a tr : Nat → Nat} {x o : Nat} {R : va_W} (S T : HS) (og : Nat → Int64) (f : Int32) (hfl : l.stackTraces = false) (hbad : ¬ xFlt S f) : LM l yL_chuteOfFlight cL_chuteOfFlight 4 [(0, 9, 12, 19)] rmL_chuteOfFlight D k (xwW k a tr x o S T og R) [.ref x, .int f, .ref o] 1 (xwW k a tr x o S T og R) := by
  refine LM_of rfl (Nat.le_of_ble_eq_true rfl) ?_
  intro p e s m below meth c hC hr hlk htab hE hP hD hX hZ hS ls hl
  have hC : CallFix p m c cL_chuteOfFlight 4 s _ lw_all RL := hC
  have hx := hC.1
  have hb := hC.2.1
  have hown : s.vm.findClass RL = some m.cls := hC.2.2.2.1
  have hts := hC.2.2.2.2
  have hl : lv_has ls 4 [(0, .ref x), (1, .int f), (2, .ref o)] := hl
  refine lv_aload_n hx hb dL_chuteOfFlight_0 rfl (lv_at hl 2 rfl) ?_
  refine lv_iconst (v := 0) hx hb dL_chuteOfFlight_1 (by decide) ?_
  refine lv_aload_n hx hb dL_chuteOfFlight_2 rfl (lv_at hl 0 rfl) ?_
  refine lv_iload_n hx hb dL_chuteOfFlight_3 rfl (lv_at hl 1 rfl) ?_
  refine c_xV (rest := [.int 0, .ref o]) (E := "java/lang/IndexOutOfBoundsException") hC hE hP hX hZ (xmtX4_chuteOfFlight_0 l S f hfl hbad) gc_RL_86 hd_X4_chuteOfFlight ⟨Nat.le_of_ble_eq_true rfl, Nat.le_of_ble_eq_true rfl⟩ 29 lo_29 rfl rfl hl.1 (Nat.le_of_ble_eq_true rfl) ⟨Nat.le_of_ble_eq_true rfl, Nat.le_of_ble_eq_true rfl⟩ dL_chuteOfFlight_4 (fun ce q9 H1 h1 h2 h3 hP1 hz1 hk1 => ?_)
  refine vx_catch (own := RL) (E := "java/lang/IndexOutOfBoundsException") (name := "java/lang/IndexOutOfBoundsException") hown [] ⟨0, 9, 12, 19⟩ [] htab (fun z hz => absurd hz List.not_mem_nil) rfl (by decide) (hts _ tw_360) (va_Nw.use rfl (hX.2.1 (.castable "java/lang/IndexOutOfBoundsException" "java/lang/IndexOutOfBoundsException") (by decide +kernel))) h1 h2 h3 ?_
  have hS : va_S (va_in (xwW k a tr x o S T og R)) s.heap H1 [] := ⟨hz1, fun q hq _ => hk1 q hq, fun _ h => absurd h List.not_mem_nil⟩
  have hP := hP1
  refine lv_astore_n (lv' := [(3, .ref q9), (0, .ref x), (1, .int f), (2, .ref o)]) hx hb dL_chuteOfFlight_12 rfl hl (by decide) rfl (fun ls hl => ?_)
  refine lv_iconst (v := 1) hx hb dL_chuteOfFlight_13 (by decide) ?_
  exact W.iret hx hb hr (fun t9 ht hW => ⟨rfl, by rw [ht]; exact hP, hS.F ht⟩) hS.2.2 dL_chuteOfFlight_14

set_option maxHeartbeats 4000000 in
set_option maxRecDepth 100000 in
theorem wbdL_depart_0 (l : Launch) {D : va_G} {k : Nat → ClassId} {a tr : Nat → Nat} {x o : Nat} {R : va_W} (S T : HS) (og : Nat → Int64) (f : Int32) (hfl : l.stackTraces = false) (hbad : ¬ xFlt S f) : LM l yL_depart cL_depart 4 [(0, 9, 12, 19), (0, 9, 15, 13)] rmL_depart D k (xwW k a tr x o S T og R) [.ref x, .int f, .ref o] 1 (xwW k a tr x o S T og R) := by
  refine LM_of rfl (Nat.le_of_ble_eq_true rfl) ?_
  intro p e s m below meth c hC hr hlk htab hE hP hD hX hZ hS ls hl
  have hC : CallFix p m c cL_depart 4 s _ lw_all RL := hC
  have hx := hC.1
  have hb := hC.2.1
  have hown : s.vm.findClass RL = some m.cls := hC.2.2.2.1
  have hts := hC.2.2.2.2
  have hl : lv_has ls 4 [(0, .ref x), (1, .int f), (2, .ref o)] := hl
  refine lv_aload_n hx hb dL_depart_0 rfl (lv_at hl 2 rfl) ?_
  refine lv_iconst (v := 0) hx hb dL_depart_1 (by decide) ?_
  refine lv_aload_n hx hb dL_depart_2 rfl (lv_at hl 0 rfl) ?_
  refine lv_iload_n hx hb dL_depart_3 rfl (lv_at hl 1 rfl) ?_
  refine c_xV (rest := [.int 0, .ref o]) (E := "java/lang/IndexOutOfBoundsException") hC hE hP hX hZ (xmtX4_depart_0 l S f hfl hbad) gc_RL_43 hd_X4_depart ⟨Nat.le_of_ble_eq_true rfl, Nat.le_of_ble_eq_true rfl⟩ 29 lo_29 rfl rfl hl.1 (Nat.le_of_ble_eq_true rfl) ⟨Nat.le_of_ble_eq_true rfl, Nat.le_of_ble_eq_true rfl⟩ dL_depart_4 (fun ce q9 H1 h1 h2 h3 hP1 hz1 hk1 => ?_)
  refine vx_catch (own := RL) (E := "java/lang/IndexOutOfBoundsException") (name := "java/lang/IndexOutOfBoundsException") hown [] ⟨0, 9, 12, 19⟩ [⟨0, 9, 15, 13⟩] htab (fun z hz => absurd hz List.not_mem_nil) rfl (by decide) (hts _ tw_360) (va_Nw.use rfl (hX.2.1 (.castable "java/lang/IndexOutOfBoundsException" "java/lang/IndexOutOfBoundsException") (by decide +kernel))) h1 h2 h3 ?_
  have hS : va_S (va_in (xwW k a tr x o S T og R)) s.heap H1 [] := ⟨hz1, fun q hq _ => hk1 q hq, fun _ h => absurd h List.not_mem_nil⟩
  have hP := hP1
  refine lv_astore_n (lv' := [(3, .ref q9), (0, .ref x), (1, .int f), (2, .ref o)]) hx hb dL_depart_12 rfl hl (by decide) rfl (fun ls hl => ?_)
  refine lv_iconst (v := 1) hx hb dL_depart_13 (by decide) ?_
  exact W.iret hx hb hr (fun t9 ht hW => ⟨rfl, by rw [ht]; exact hP, hS.F ht⟩) hS.2.2 dL_depart_14

set_option maxHeartbeats 4000000 in
set_option maxRecDepth 100000 in
theorem wbdL_depart_1 (l : Launch) {D : va_G} {k : Nat → ClassId} {a tr : Nat → Nat} {x o : Nat} {R : va_W} (S T : HS) (og : Nat → Int64) (f : Int32) (hfl : l.stackTraces = false) (hk0 : xFlt S f) (hbad : ¬ (¬ (xGone S f))) : LM l yL_depart cL_depart 4 [(0, 9, 12, 19), (0, 9, 15, 13)] rmL_depart D k (xwW k a tr x o S T og R) [.ref x, .int f, .ref o] 2 (xwW k a tr x o S T og R) := by
  refine LM_of rfl (Nat.le_of_ble_eq_true rfl) ?_
  intro p e s m below meth c hC hr hlk htab hE hP hD hX hZ hS ls hl
  have hC : CallFix p m c cL_depart 4 s _ lw_all RL := hC
  have hx := hC.1
  have hb := hC.2.1
  have hown : s.vm.findClass RL = some m.cls := hC.2.2.2.1
  have hts := hC.2.2.2.2
  have hl : lv_has ls 4 [(0, .ref x), (1, .int f), (2, .ref o)] := hl
  refine lv_aload_n hx hb dL_depart_0 rfl (lv_at hl 2 rfl) ?_
  refine lv_iconst (v := 0) hx hb dL_depart_1 (by decide) ?_
  refine lv_aload_n hx hb dL_depart_2 rfl (lv_at hl 0 rfl) ?_
  refine lv_iload_n hx hb dL_depart_3 rfl (lv_at hl 1 rfl) ?_
  refine c_xV (rest := [.int 0, .ref o]) (E := "java/lang/IllegalStateException") hC hE hP hX hZ (xmtX4_depart_1 l S f hfl hk0 hbad) gc_RL_43 hd_X4_depart ⟨Nat.le_of_ble_eq_true rfl, Nat.le_of_ble_eq_true rfl⟩ 29 lo_29 rfl rfl hl.1 (Nat.le_of_ble_eq_true rfl) ⟨Nat.le_of_ble_eq_true rfl, Nat.le_of_ble_eq_true rfl⟩ dL_depart_4 (fun ce q9 H1 h1 h2 h3 hP1 hz1 hk1 => ?_)
  refine vx_catch (own := RL) (E := "java/lang/IllegalStateException") (name := "java/lang/IllegalStateException") hown [⟨0, 9, 12, 19⟩] ⟨0, 9, 15, 13⟩ [] htab (fun z hz => by
      simp only [List.mem_cons, List.not_mem_nil, or_false] at hz
      rcases hz with rfl
      · exact Or.inr ⟨by decide, "java/lang/IndexOutOfBoundsException", hts _ tw_360, hX.2.2.1⟩) rfl (by decide) (hts _ tw_280) (va_Nw.use rfl (hX.2.1 (.castable "java/lang/IllegalStateException" "java/lang/IllegalStateException") (by decide +kernel))) h1 h2 h3 ?_
  have hS : va_S (va_in (xwW k a tr x o S T og R)) s.heap H1 [] := ⟨hz1, fun q hq _ => hk1 q hq, fun _ h => absurd h List.not_mem_nil⟩
  have hP := hP1
  refine lv_astore_n (lv' := [(3, .ref q9), (0, .ref x), (1, .int f), (2, .ref o)]) hx hb dL_depart_15 rfl hl (by decide) rfl (fun ls hl => ?_)
  refine lv_iconst (v := 2) hx hb dL_depart_16 (by decide) ?_
  exact W.iret hx hb hr (fun t9 ht hW => ⟨rfl, by rw [ht]; exact hP, hS.F ht⟩) hS.2.2 dL_depart_17

set_option maxHeartbeats 4000000 in
set_option maxRecDepth 100000 in
theorem wbdL_flightOf_0 (l : Launch) {D : va_G} {k : Nat → ClassId} {a tr : Nat → Nat} {x o : Nat} {R : va_W} (S T : HS) (og : Nat → Int64) (b : Int32) (hfl : l.stackTraces = false) (hbad : ¬ xBag S b) : LM l yL_flightOf cL_flightOf 4 [(0, 9, 12, 19)] rmL_flightOf D k (xwW k a tr x o S T og R) [.ref x, .int b, .ref o] 1 (xwW k a tr x o S T og R) := by
  refine LM_of rfl (Nat.le_of_ble_eq_true rfl) ?_
  intro p e s m below meth c hC hr hlk htab hE hP hD hX hZ hS ls hl
  have hC : CallFix p m c cL_flightOf 4 s _ lw_all RL := hC
  have hx := hC.1
  have hb := hC.2.1
  have hown : s.vm.findClass RL = some m.cls := hC.2.2.2.1
  have hts := hC.2.2.2.2
  have hl : lv_has ls 4 [(0, .ref x), (1, .int b), (2, .ref o)] := hl
  refine lv_aload_n hx hb dL_flightOf_0 rfl (lv_at hl 2 rfl) ?_
  refine lv_iconst (v := 0) hx hb dL_flightOf_1 (by decide) ?_
  refine lv_aload_n hx hb dL_flightOf_2 rfl (lv_at hl 0 rfl) ?_
  refine lv_iload_n hx hb dL_flightOf_3 rfl (lv_at hl 1 rfl) ?_
  refine c_xV (rest := [.int 0, .ref o]) (E := "java/lang/IndexOutOfBoundsException") hC hE hP hX hZ (xmtX4_flightOf_0 l S b hfl hbad) gc_RL_49 hd_X4_flightOf ⟨Nat.le_of_ble_eq_true rfl, Nat.le_of_ble_eq_true rfl⟩ 29 lo_29 rfl rfl hl.1 (Nat.le_of_ble_eq_true rfl) ⟨Nat.le_of_ble_eq_true rfl, Nat.le_of_ble_eq_true rfl⟩ dL_flightOf_4 (fun ce q9 H1 h1 h2 h3 hP1 hz1 hk1 => ?_)
  refine vx_catch (own := RL) (E := "java/lang/IndexOutOfBoundsException") (name := "java/lang/IndexOutOfBoundsException") hown [] ⟨0, 9, 12, 19⟩ [] htab (fun z hz => absurd hz List.not_mem_nil) rfl (by decide) (hts _ tw_360) (va_Nw.use rfl (hX.2.1 (.castable "java/lang/IndexOutOfBoundsException" "java/lang/IndexOutOfBoundsException") (by decide +kernel))) h1 h2 h3 ?_
  have hS : va_S (va_in (xwW k a tr x o S T og R)) s.heap H1 [] := ⟨hz1, fun q hq _ => hk1 q hq, fun _ h => absurd h List.not_mem_nil⟩
  have hP := hP1
  refine lv_astore_n (lv' := [(3, .ref q9), (0, .ref x), (1, .int b), (2, .ref o)]) hx hb dL_flightOf_12 rfl hl (by decide) rfl (fun ls hl => ?_)
  refine lv_iconst (v := 1) hx hb dL_flightOf_13 (by decide) ?_
  exact W.iret hx hb hr (fun t9 ht hW => ⟨rfl, by rw [ht]; exact hP, hS.F ht⟩) hS.2.2 dL_flightOf_14

set_option maxHeartbeats 4000000 in
set_option maxRecDepth 100000 in
theorem wbdL_forward_0 (l : Launch) {D : va_G} {k : Nat → ClassId} {a tr : Nat → Nat} {x o : Nat} {R : va_W} (S T : HS) (og : Nat → Int64) (b : Int32) (f : Int32) (hfl : l.stackTraces = false) (hbad : ¬ xBag S b) : LM l yL_forward cL_forward 5 [(0, 10, 13, 19), (0, 10, 17, 13)] rmL_forward D k (xwW k a tr x o S T og R) [.ref x, .int b, .int f, .ref o] 1 (xwW k a tr x o S T og R) := by
  refine LM_of rfl (Nat.le_of_ble_eq_true rfl) ?_
  intro p e s m below meth c hC hr hlk htab hE hP hD hX hZ hS ls hl
  have hC : CallFix p m c cL_forward 5 s _ lw_all RL := hC
  have hx := hC.1
  have hb := hC.2.1
  have hown : s.vm.findClass RL = some m.cls := hC.2.2.2.1
  have hts := hC.2.2.2.2
  have hl : lv_has ls 5 [(0, .ref x), (1, .int b), (2, .int f), (3, .ref o)] := hl
  refine lv_aload_n hx hb dL_forward_0 rfl (lv_at hl 3 rfl) ?_
  refine lv_iconst (v := 0) hx hb dL_forward_1 (by decide) ?_
  refine lv_aload_n hx hb dL_forward_2 rfl (lv_at hl 0 rfl) ?_
  refine lv_iload_n hx hb dL_forward_3 rfl (lv_at hl 1 rfl) ?_
  refine lv_iload_n hx hb dL_forward_4 rfl (lv_at hl 2 rfl) ?_
  refine c_xV (rest := [.int 0, .ref o]) (E := "java/lang/IndexOutOfBoundsException") hC hE hP hX hZ (xmtX4_forward_0 l S b f hfl hbad) gc_RL_37 hd_X4_forward ⟨Nat.le_of_ble_eq_true rfl, Nat.le_of_ble_eq_true rfl⟩ 29 lo_29 rfl rfl hl.1 (Nat.le_of_ble_eq_true rfl) ⟨Nat.le_of_ble_eq_true rfl, Nat.le_of_ble_eq_true rfl⟩ dL_forward_5 (fun ce q9 H1 h1 h2 h3 hP1 hz1 hk1 => ?_)
  refine vx_catch (own := RL) (E := "java/lang/IndexOutOfBoundsException") (name := "java/lang/IndexOutOfBoundsException") hown [] ⟨0, 10, 13, 19⟩ [⟨0, 10, 17, 13⟩] htab (fun z hz => absurd hz List.not_mem_nil) rfl (by decide) (hts _ tw_360) (va_Nw.use rfl (hX.2.1 (.castable "java/lang/IndexOutOfBoundsException" "java/lang/IndexOutOfBoundsException") (by decide +kernel))) h1 h2 h3 ?_
  have hS : va_S (va_in (xwW k a tr x o S T og R)) s.heap H1 [] := ⟨hz1, fun q hq _ => hk1 q hq, fun _ h => absurd h List.not_mem_nil⟩
  have hP := hP1
  refine lv_astore (lv' := [(4, .ref q9), (0, .ref x), (1, .int b), (2, .int f), (3, .ref o)]) hx hb dL_forward_13 hl (by decide) rfl (fun ls hl => ?_)
  refine lv_iconst (v := 1) hx hb dL_forward_15 (by decide) ?_
  exact W.iret hx hb hr (fun t9 ht hW => ⟨rfl, by rw [ht]; exact hP, hS.F ht⟩) hS.2.2 dL_forward_16

set_option maxHeartbeats 4000000 in
set_option maxRecDepth 100000 in
theorem wbdL_forward_1 (l : Launch) {D : va_G} {k : Nat → ClassId} {a tr : Nat → Nat} {x o : Nat} {R : va_W} (S T : HS) (og : Nat → Int64) (b : Int32) (f : Int32) (hfl : l.stackTraces = false) (hk0 : xBag S b) (hbad : ¬ xFlt S f) : LM l yL_forward cL_forward 5 [(0, 10, 13, 19), (0, 10, 17, 13)] rmL_forward D k (xwW k a tr x o S T og R) [.ref x, .int b, .int f, .ref o] 1 (xwW k a tr x o S T og R) := by
  refine LM_of rfl (Nat.le_of_ble_eq_true rfl) ?_
  intro p e s m below meth c hC hr hlk htab hE hP hD hX hZ hS ls hl
  have hC : CallFix p m c cL_forward 5 s _ lw_all RL := hC
  have hx := hC.1
  have hb := hC.2.1
  have hown : s.vm.findClass RL = some m.cls := hC.2.2.2.1
  have hts := hC.2.2.2.2
  have hl : lv_has ls 5 [(0, .ref x), (1, .int b), (2, .int f), (3, .ref o)] := hl
  refine lv_aload_n hx hb dL_forward_0 rfl (lv_at hl 3 rfl) ?_
  refine lv_iconst (v := 0) hx hb dL_forward_1 (by decide) ?_
  refine lv_aload_n hx hb dL_forward_2 rfl (lv_at hl 0 rfl) ?_
  refine lv_iload_n hx hb dL_forward_3 rfl (lv_at hl 1 rfl) ?_
  refine lv_iload_n hx hb dL_forward_4 rfl (lv_at hl 2 rfl) ?_
  refine c_xV (rest := [.int 0, .ref o]) (E := "java/lang/IndexOutOfBoundsException") hC hE hP hX hZ (xmtX4_forward_1 l S b f hfl hk0 hbad) gc_RL_37 hd_X4_forward ⟨Nat.le_of_ble_eq_true rfl, Nat.le_of_ble_eq_true rfl⟩ 29 lo_29 rfl rfl hl.1 (Nat.le_of_ble_eq_true rfl) ⟨Nat.le_of_ble_eq_true rfl, Nat.le_of_ble_eq_true rfl⟩ dL_forward_5 (fun ce q9 H1 h1 h2 h3 hP1 hz1 hk1 => ?_)
  refine vx_catch (own := RL) (E := "java/lang/IndexOutOfBoundsException") (name := "java/lang/IndexOutOfBoundsException") hown [] ⟨0, 10, 13, 19⟩ [⟨0, 10, 17, 13⟩] htab (fun z hz => absurd hz List.not_mem_nil) rfl (by decide) (hts _ tw_360) (va_Nw.use rfl (hX.2.1 (.castable "java/lang/IndexOutOfBoundsException" "java/lang/IndexOutOfBoundsException") (by decide +kernel))) h1 h2 h3 ?_
  have hS : va_S (va_in (xwW k a tr x o S T og R)) s.heap H1 [] := ⟨hz1, fun q hq _ => hk1 q hq, fun _ h => absurd h List.not_mem_nil⟩
  have hP := hP1
  refine lv_astore (lv' := [(4, .ref q9), (0, .ref x), (1, .int b), (2, .int f), (3, .ref o)]) hx hb dL_forward_13 hl (by decide) rfl (fun ls hl => ?_)
  refine lv_iconst (v := 1) hx hb dL_forward_15 (by decide) ?_
  exact W.iret hx hb hr (fun t9 ht hW => ⟨rfl, by rw [ht]; exact hP, hS.F ht⟩) hS.2.2 dL_forward_16

set_option maxHeartbeats 4000000 in
set_option maxRecDepth 100000 in
theorem wbdL_forward_2 (l : Launch) {D : va_G} {k : Nat → ClassId} {a tr : Nat → Nat} {x o : Nat} {R : va_W} (S T : HS) (og : Nat → Int64) (b : Int32) (f : Int32) (hfl : l.stackTraces = false) (hk0 : xBag S b) (hk1 : xFlt S f) (hbad : ¬ xHand S b) : LM l yL_forward cL_forward 5 [(0, 10, 13, 19), (0, 10, 17, 13)] rmL_forward D k (xwW k a tr x o S T og R) [.ref x, .int b, .int f, .ref o] 2 (xwW k a tr x o S T og R) := by
  refine LM_of rfl (Nat.le_of_ble_eq_true rfl) ?_
  intro p e s m below meth c hC hr hlk htab hE hP hD hX hZ hS ls hl
  have hC : CallFix p m c cL_forward 5 s _ lw_all RL := hC
  have hx := hC.1
  have hb := hC.2.1
  have hown : s.vm.findClass RL = some m.cls := hC.2.2.2.1
  have hts := hC.2.2.2.2
  have hl : lv_has ls 5 [(0, .ref x), (1, .int b), (2, .int f), (3, .ref o)] := hl
  refine lv_aload_n hx hb dL_forward_0 rfl (lv_at hl 3 rfl) ?_
  refine lv_iconst (v := 0) hx hb dL_forward_1 (by decide) ?_
  refine lv_aload_n hx hb dL_forward_2 rfl (lv_at hl 0 rfl) ?_
  refine lv_iload_n hx hb dL_forward_3 rfl (lv_at hl 1 rfl) ?_
  refine lv_iload_n hx hb dL_forward_4 rfl (lv_at hl 2 rfl) ?_
  refine c_xV (rest := [.int 0, .ref o]) (E := "java/lang/IllegalStateException") hC hE hP hX hZ (xmtX4_forward_2 l S b f hfl hk0 hk1 hbad) gc_RL_37 hd_X4_forward ⟨Nat.le_of_ble_eq_true rfl, Nat.le_of_ble_eq_true rfl⟩ 29 lo_29 rfl rfl hl.1 (Nat.le_of_ble_eq_true rfl) ⟨Nat.le_of_ble_eq_true rfl, Nat.le_of_ble_eq_true rfl⟩ dL_forward_5 (fun ce q9 H1 h1 h2 h3 hP1 hz1 hk1 => ?_)
  refine vx_catch (own := RL) (E := "java/lang/IllegalStateException") (name := "java/lang/IllegalStateException") hown [⟨0, 10, 13, 19⟩] ⟨0, 10, 17, 13⟩ [] htab (fun z hz => by
      simp only [List.mem_cons, List.not_mem_nil, or_false] at hz
      rcases hz with rfl
      · exact Or.inr ⟨by decide, "java/lang/IndexOutOfBoundsException", hts _ tw_360, hX.2.2.1⟩) rfl (by decide) (hts _ tw_280) (va_Nw.use rfl (hX.2.1 (.castable "java/lang/IllegalStateException" "java/lang/IllegalStateException") (by decide +kernel))) h1 h2 h3 ?_
  have hS : va_S (va_in (xwW k a tr x o S T og R)) s.heap H1 [] := ⟨hz1, fun q hq _ => hk1 q hq, fun _ h => absurd h List.not_mem_nil⟩
  have hP := hP1
  refine lv_astore (lv' := [(4, .ref q9), (0, .ref x), (1, .int b), (2, .int f), (3, .ref o)]) hx hb dL_forward_17 hl (by decide) rfl (fun ls hl => ?_)
  refine lv_iconst (v := 2) hx hb dL_forward_19 (by decide) ?_
  exact W.iret hx hb hr (fun t9 ht hW => ⟨rfl, by rw [ht]; exact hP, hS.F ht⟩) hS.2.2 dL_forward_20

set_option maxHeartbeats 4000000 in
set_option maxRecDepth 100000 in
theorem wbdL_forward_3 (l : Launch) {D : va_G} {k : Nat → ClassId} {a tr : Nat → Nat} {x o : Nat} {R : va_W} (S T : HS) (og : Nat → Int64) (b : Int32) (f : Int32) (hfl : l.stackTraces = false) (hk0 : xBag S b) (hk1 : xFlt S f) (hk2 : xHand S b) (hbad : ¬ xGone S (rd 40 (S 3) b)) : LM l yL_forward cL_forward 5 [(0, 10, 13, 19), (0, 10, 17, 13)] rmL_forward D k (xwW k a tr x o S T og R) [.ref x, .int b, .int f, .ref o] 2 (xwW k a tr x o S T og R) := by
  refine LM_of rfl (Nat.le_of_ble_eq_true rfl) ?_
  intro p e s m below meth c hC hr hlk htab hE hP hD hX hZ hS ls hl
  have hC : CallFix p m c cL_forward 5 s _ lw_all RL := hC
  have hx := hC.1
  have hb := hC.2.1
  have hown : s.vm.findClass RL = some m.cls := hC.2.2.2.1
  have hts := hC.2.2.2.2
  have hl : lv_has ls 5 [(0, .ref x), (1, .int b), (2, .int f), (3, .ref o)] := hl
  refine lv_aload_n hx hb dL_forward_0 rfl (lv_at hl 3 rfl) ?_
  refine lv_iconst (v := 0) hx hb dL_forward_1 (by decide) ?_
  refine lv_aload_n hx hb dL_forward_2 rfl (lv_at hl 0 rfl) ?_
  refine lv_iload_n hx hb dL_forward_3 rfl (lv_at hl 1 rfl) ?_
  refine lv_iload_n hx hb dL_forward_4 rfl (lv_at hl 2 rfl) ?_
  refine c_xV (rest := [.int 0, .ref o]) (E := "java/lang/IllegalStateException") hC hE hP hX hZ (xmtX4_forward_3 l S b f hfl hk0 hk1 hk2 hbad) gc_RL_37 hd_X4_forward ⟨Nat.le_of_ble_eq_true rfl, Nat.le_of_ble_eq_true rfl⟩ 29 lo_29 rfl rfl hl.1 (Nat.le_of_ble_eq_true rfl) ⟨Nat.le_of_ble_eq_true rfl, Nat.le_of_ble_eq_true rfl⟩ dL_forward_5 (fun ce q9 H1 h1 h2 h3 hP1 hz1 hk1 => ?_)
  refine vx_catch (own := RL) (E := "java/lang/IllegalStateException") (name := "java/lang/IllegalStateException") hown [⟨0, 10, 13, 19⟩] ⟨0, 10, 17, 13⟩ [] htab (fun z hz => by
      simp only [List.mem_cons, List.not_mem_nil, or_false] at hz
      rcases hz with rfl
      · exact Or.inr ⟨by decide, "java/lang/IndexOutOfBoundsException", hts _ tw_360, hX.2.2.1⟩) rfl (by decide) (hts _ tw_280) (va_Nw.use rfl (hX.2.1 (.castable "java/lang/IllegalStateException" "java/lang/IllegalStateException") (by decide +kernel))) h1 h2 h3 ?_
  have hS : va_S (va_in (xwW k a tr x o S T og R)) s.heap H1 [] := ⟨hz1, fun q hq _ => hk1 q hq, fun _ h => absurd h List.not_mem_nil⟩
  have hP := hP1
  refine lv_astore (lv' := [(4, .ref q9), (0, .ref x), (1, .int b), (2, .int f), (3, .ref o)]) hx hb dL_forward_17 hl (by decide) rfl (fun ls hl => ?_)
  refine lv_iconst (v := 2) hx hb dL_forward_19 (by decide) ?_
  exact W.iret hx hb hr (fun t9 ht hW => ⟨rfl, by rw [ht]; exact hP, hS.F ht⟩) hS.2.2 dL_forward_20

set_option maxHeartbeats 4000000 in
set_option maxRecDepth 100000 in
theorem wbdL_forward_4 (l : Launch) {D : va_G} {k : Nat → ClassId} {a tr : Nat → Nat} {x o : Nat} {R : va_W} (S T : HS) (og : Nat → Int64) (b : Int32) (f : Int32) (hfl : l.stackTraces = false) (hk0 : xBag S b) (hk1 : xFlt S f) (hk2 : xHand S b) (hk3 : xGone S (rd 40 (S 3) b)) (hbad : ¬ (¬ (xGone S f))) : LM l yL_forward cL_forward 5 [(0, 10, 13, 19), (0, 10, 17, 13)] rmL_forward D k (xwW k a tr x o S T og R) [.ref x, .int b, .int f, .ref o] 2 (xwW k a tr x o S T og R) := by
  refine LM_of rfl (Nat.le_of_ble_eq_true rfl) ?_
  intro p e s m below meth c hC hr hlk htab hE hP hD hX hZ hS ls hl
  have hC : CallFix p m c cL_forward 5 s _ lw_all RL := hC
  have hx := hC.1
  have hb := hC.2.1
  have hown : s.vm.findClass RL = some m.cls := hC.2.2.2.1
  have hts := hC.2.2.2.2
  have hl : lv_has ls 5 [(0, .ref x), (1, .int b), (2, .int f), (3, .ref o)] := hl
  refine lv_aload_n hx hb dL_forward_0 rfl (lv_at hl 3 rfl) ?_
  refine lv_iconst (v := 0) hx hb dL_forward_1 (by decide) ?_
  refine lv_aload_n hx hb dL_forward_2 rfl (lv_at hl 0 rfl) ?_
  refine lv_iload_n hx hb dL_forward_3 rfl (lv_at hl 1 rfl) ?_
  refine lv_iload_n hx hb dL_forward_4 rfl (lv_at hl 2 rfl) ?_
  refine c_xV (rest := [.int 0, .ref o]) (E := "java/lang/IllegalStateException") hC hE hP hX hZ (xmtX4_forward_4 l S b f hfl hk0 hk1 hk2 hk3 hbad) gc_RL_37 hd_X4_forward ⟨Nat.le_of_ble_eq_true rfl, Nat.le_of_ble_eq_true rfl⟩ 29 lo_29 rfl rfl hl.1 (Nat.le_of_ble_eq_true rfl) ⟨Nat.le_of_ble_eq_true rfl, Nat.le_of_ble_eq_true rfl⟩ dL_forward_5 (fun ce q9 H1 h1 h2 h3 hP1 hz1 hk1 => ?_)
  refine vx_catch (own := RL) (E := "java/lang/IllegalStateException") (name := "java/lang/IllegalStateException") hown [⟨0, 10, 13, 19⟩] ⟨0, 10, 17, 13⟩ [] htab (fun z hz => by
      simp only [List.mem_cons, List.not_mem_nil, or_false] at hz
      rcases hz with rfl
      · exact Or.inr ⟨by decide, "java/lang/IndexOutOfBoundsException", hts _ tw_360, hX.2.2.1⟩) rfl (by decide) (hts _ tw_280) (va_Nw.use rfl (hX.2.1 (.castable "java/lang/IllegalStateException" "java/lang/IllegalStateException") (by decide +kernel))) h1 h2 h3 ?_
  have hS : va_S (va_in (xwW k a tr x o S T og R)) s.heap H1 [] := ⟨hz1, fun q hq _ => hk1 q hq, fun _ h => absurd h List.not_mem_nil⟩
  have hP := hP1
  refine lv_astore (lv' := [(4, .ref q9), (0, .ref x), (1, .int b), (2, .int f), (3, .ref o)]) hx hb dL_forward_17 hl (by decide) rfl (fun ls hl => ?_)
  refine lv_iconst (v := 2) hx hb dL_forward_19 (by decide) ?_
  exact W.iret hx hb hr (fun t9 ht hW => ⟨rfl, by rw [ht]; exact hP, hS.F ht⟩) hS.2.2 dL_forward_20

set_option maxHeartbeats 4000000 in
set_option maxRecDepth 100000 in
theorem wbdL_giveChute_0 (l : Launch) {D : va_G} {k : Nat → ClassId} {a tr : Nat → Nat} {x o : Nat} {R : va_W} (S T : HS) (og : Nat → Int64) (f : Int32) (ch : Int32) (hfl : l.stackTraces = false) (hbad : ¬ xFlt S f) : LM l yL_giveChute cL_giveChute 5 [(0, 10, 13, 19), (0, 10, 17, 13)] rmL_giveChute D k (xwW k a tr x o S T og R) [.ref x, .int f, .int ch, .ref o] 1 (xwW k a tr x o S T og R) := by
  refine LM_of rfl (Nat.le_of_ble_eq_true rfl) ?_
  intro p e s m below meth c hC hr hlk htab hE hP hD hX hZ hS ls hl
  have hC : CallFix p m c cL_giveChute 5 s _ lw_all RL := hC
  have hx := hC.1
  have hb := hC.2.1
  have hown : s.vm.findClass RL = some m.cls := hC.2.2.2.1
  have hts := hC.2.2.2.2
  have hl : lv_has ls 5 [(0, .ref x), (1, .int f), (2, .int ch), (3, .ref o)] := hl
  refine lv_aload_n hx hb dL_giveChute_0 rfl (lv_at hl 3 rfl) ?_
  refine lv_iconst (v := 0) hx hb dL_giveChute_1 (by decide) ?_
  refine lv_aload_n hx hb dL_giveChute_2 rfl (lv_at hl 0 rfl) ?_
  refine lv_iload_n hx hb dL_giveChute_3 rfl (lv_at hl 1 rfl) ?_
  refine lv_iload_n hx hb dL_giveChute_4 rfl (lv_at hl 2 rfl) ?_
  refine c_xV (rest := [.int 0, .ref o]) (E := "java/lang/IndexOutOfBoundsException") hC hE hP hX hZ (xmtX4_giveChute_0 l S f ch hfl hbad) gc_RL_15 hd_X4_giveChute ⟨Nat.le_of_ble_eq_true rfl, Nat.le_of_ble_eq_true rfl⟩ 29 lo_29 rfl rfl hl.1 (Nat.le_of_ble_eq_true rfl) ⟨Nat.le_of_ble_eq_true rfl, Nat.le_of_ble_eq_true rfl⟩ dL_giveChute_5 (fun ce q9 H1 h1 h2 h3 hP1 hz1 hk1 => ?_)
  refine vx_catch (own := RL) (E := "java/lang/IndexOutOfBoundsException") (name := "java/lang/IndexOutOfBoundsException") hown [] ⟨0, 10, 13, 19⟩ [⟨0, 10, 17, 13⟩] htab (fun z hz => absurd hz List.not_mem_nil) rfl (by decide) (hts _ tw_360) (va_Nw.use rfl (hX.2.1 (.castable "java/lang/IndexOutOfBoundsException" "java/lang/IndexOutOfBoundsException") (by decide +kernel))) h1 h2 h3 ?_
  have hS : va_S (va_in (xwW k a tr x o S T og R)) s.heap H1 [] := ⟨hz1, fun q hq _ => hk1 q hq, fun _ h => absurd h List.not_mem_nil⟩
  have hP := hP1
  refine lv_astore (lv' := [(4, .ref q9), (0, .ref x), (1, .int f), (2, .int ch), (3, .ref o)]) hx hb dL_giveChute_13 hl (by decide) rfl (fun ls hl => ?_)
  refine lv_iconst (v := 1) hx hb dL_giveChute_15 (by decide) ?_
  exact W.iret hx hb hr (fun t9 ht hW => ⟨rfl, by rw [ht]; exact hP, hS.F ht⟩) hS.2.2 dL_giveChute_16

set_option maxHeartbeats 4000000 in
set_option maxRecDepth 100000 in
theorem wbdL_giveChute_1 (l : Launch) {D : va_G} {k : Nat → ClassId} {a tr : Nat → Nat} {x o : Nat} {R : va_W} (S T : HS) (og : Nat → Int64) (f : Int32) (ch : Int32) (hfl : l.stackTraces = false) (hk0 : xFlt S f) (hbad : ¬ xCh ch) : LM l yL_giveChute cL_giveChute 5 [(0, 10, 13, 19), (0, 10, 17, 13)] rmL_giveChute D k (xwW k a tr x o S T og R) [.ref x, .int f, .int ch, .ref o] 1 (xwW k a tr x o S T og R) := by
  refine LM_of rfl (Nat.le_of_ble_eq_true rfl) ?_
  intro p e s m below meth c hC hr hlk htab hE hP hD hX hZ hS ls hl
  have hC : CallFix p m c cL_giveChute 5 s _ lw_all RL := hC
  have hx := hC.1
  have hb := hC.2.1
  have hown : s.vm.findClass RL = some m.cls := hC.2.2.2.1
  have hts := hC.2.2.2.2
  have hl : lv_has ls 5 [(0, .ref x), (1, .int f), (2, .int ch), (3, .ref o)] := hl
  refine lv_aload_n hx hb dL_giveChute_0 rfl (lv_at hl 3 rfl) ?_
  refine lv_iconst (v := 0) hx hb dL_giveChute_1 (by decide) ?_
  refine lv_aload_n hx hb dL_giveChute_2 rfl (lv_at hl 0 rfl) ?_
  refine lv_iload_n hx hb dL_giveChute_3 rfl (lv_at hl 1 rfl) ?_
  refine lv_iload_n hx hb dL_giveChute_4 rfl (lv_at hl 2 rfl) ?_
  refine c_xV (rest := [.int 0, .ref o]) (E := "java/lang/IndexOutOfBoundsException") hC hE hP hX hZ (xmtX4_giveChute_1 l S f ch hfl hk0 hbad) gc_RL_15 hd_X4_giveChute ⟨Nat.le_of_ble_eq_true rfl, Nat.le_of_ble_eq_true rfl⟩ 29 lo_29 rfl rfl hl.1 (Nat.le_of_ble_eq_true rfl) ⟨Nat.le_of_ble_eq_true rfl, Nat.le_of_ble_eq_true rfl⟩ dL_giveChute_5 (fun ce q9 H1 h1 h2 h3 hP1 hz1 hk1 => ?_)
  refine vx_catch (own := RL) (E := "java/lang/IndexOutOfBoundsException") (name := "java/lang/IndexOutOfBoundsException") hown [] ⟨0, 10, 13, 19⟩ [⟨0, 10, 17, 13⟩] htab (fun z hz => absurd hz List.not_mem_nil) rfl (by decide) (hts _ tw_360) (va_Nw.use rfl (hX.2.1 (.castable "java/lang/IndexOutOfBoundsException" "java/lang/IndexOutOfBoundsException") (by decide +kernel))) h1 h2 h3 ?_
  have hS : va_S (va_in (xwW k a tr x o S T og R)) s.heap H1 [] := ⟨hz1, fun q hq _ => hk1 q hq, fun _ h => absurd h List.not_mem_nil⟩
  have hP := hP1
  refine lv_astore (lv' := [(4, .ref q9), (0, .ref x), (1, .int f), (2, .int ch), (3, .ref o)]) hx hb dL_giveChute_13 hl (by decide) rfl (fun ls hl => ?_)
  refine lv_iconst (v := 1) hx hb dL_giveChute_15 (by decide) ?_
  exact W.iret hx hb hr (fun t9 ht hW => ⟨rfl, by rw [ht]; exact hP, hS.F ht⟩) hS.2.2 dL_giveChute_16

set_option maxHeartbeats 4000000 in
set_option maxRecDepth 100000 in
theorem wbdL_giveChute_2 (l : Launch) {D : va_G} {k : Nat → ClassId} {a tr : Nat → Nat} {x o : Nat} {R : va_W} (S T : HS) (og : Nat → Int64) (f : Int32) (ch : Int32) (hfl : l.stackTraces = false) (hk0 : xFlt S f) (hk1 : xCh ch) (hbad : ¬ (¬ (xGone S f))) : LM l yL_giveChute cL_giveChute 5 [(0, 10, 13, 19), (0, 10, 17, 13)] rmL_giveChute D k (xwW k a tr x o S T og R) [.ref x, .int f, .int ch, .ref o] 2 (xwW k a tr x o S T og R) := by
  refine LM_of rfl (Nat.le_of_ble_eq_true rfl) ?_
  intro p e s m below meth c hC hr hlk htab hE hP hD hX hZ hS ls hl
  have hC : CallFix p m c cL_giveChute 5 s _ lw_all RL := hC
  have hx := hC.1
  have hb := hC.2.1
  have hown : s.vm.findClass RL = some m.cls := hC.2.2.2.1
  have hts := hC.2.2.2.2
  have hl : lv_has ls 5 [(0, .ref x), (1, .int f), (2, .int ch), (3, .ref o)] := hl
  refine lv_aload_n hx hb dL_giveChute_0 rfl (lv_at hl 3 rfl) ?_
  refine lv_iconst (v := 0) hx hb dL_giveChute_1 (by decide) ?_
  refine lv_aload_n hx hb dL_giveChute_2 rfl (lv_at hl 0 rfl) ?_
  refine lv_iload_n hx hb dL_giveChute_3 rfl (lv_at hl 1 rfl) ?_
  refine lv_iload_n hx hb dL_giveChute_4 rfl (lv_at hl 2 rfl) ?_
  refine c_xV (rest := [.int 0, .ref o]) (E := "java/lang/IllegalStateException") hC hE hP hX hZ (xmtX4_giveChute_2 l S f ch hfl hk0 hk1 hbad) gc_RL_15 hd_X4_giveChute ⟨Nat.le_of_ble_eq_true rfl, Nat.le_of_ble_eq_true rfl⟩ 29 lo_29 rfl rfl hl.1 (Nat.le_of_ble_eq_true rfl) ⟨Nat.le_of_ble_eq_true rfl, Nat.le_of_ble_eq_true rfl⟩ dL_giveChute_5 (fun ce q9 H1 h1 h2 h3 hP1 hz1 hk1 => ?_)
  refine vx_catch (own := RL) (E := "java/lang/IllegalStateException") (name := "java/lang/IllegalStateException") hown [⟨0, 10, 13, 19⟩] ⟨0, 10, 17, 13⟩ [] htab (fun z hz => by
      simp only [List.mem_cons, List.not_mem_nil, or_false] at hz
      rcases hz with rfl
      · exact Or.inr ⟨by decide, "java/lang/IndexOutOfBoundsException", hts _ tw_360, hX.2.2.1⟩) rfl (by decide) (hts _ tw_280) (va_Nw.use rfl (hX.2.1 (.castable "java/lang/IllegalStateException" "java/lang/IllegalStateException") (by decide +kernel))) h1 h2 h3 ?_
  have hS : va_S (va_in (xwW k a tr x o S T og R)) s.heap H1 [] := ⟨hz1, fun q hq _ => hk1 q hq, fun _ h => absurd h List.not_mem_nil⟩
  have hP := hP1
  refine lv_astore (lv' := [(4, .ref q9), (0, .ref x), (1, .int f), (2, .int ch), (3, .ref o)]) hx hb dL_giveChute_17 hl (by decide) rfl (fun ls hl => ?_)
  refine lv_iconst (v := 2) hx hb dL_giveChute_19 (by decide) ?_
  exact W.iret hx hb hr (fun t9 ht hW => ⟨rfl, by rw [ht]; exact hP, hS.F ht⟩) hS.2.2 dL_giveChute_20

set_option maxHeartbeats 4000000 in
set_option maxRecDepth 100000 in
theorem wbdL_hasOpenFile_0 (l : Launch) {D : va_G} {k : Nat → ClassId} {a tr : Nat → Nat} {x o : Nat} {R : va_W} (S T : HS) (og : Nat → Int64) (b : Int32) (hfl : l.stackTraces = false) (hbad : ¬ xBag S b) : LM l yL_hasOpenFile cL_hasOpenFile 4 [(0, 16, 19, 19)] rmL_hasOpenFile D k (xwW k a tr x o S T og R) [.ref x, .int b, .ref o] 1 (xwW k a tr x o S T og R) := by
  refine LM_of rfl (Nat.le_of_ble_eq_true rfl) ?_
  intro p e s m below meth c hC hr hlk htab hE hP hD hX hZ hS ls hl
  have hC : CallFix p m c cL_hasOpenFile 4 s _ lw_all RL := hC
  have hx := hC.1
  have hb := hC.2.1
  have hown : s.vm.findClass RL = some m.cls := hC.2.2.2.1
  have hts := hC.2.2.2.2
  have hl : lv_has ls 4 [(0, .ref x), (1, .int b), (2, .ref o)] := hl
  refine lv_aload_n hx hb dL_hasOpenFile_0 rfl (lv_at hl 2 rfl) ?_
  refine lv_iconst (v := 0) hx hb dL_hasOpenFile_1 (by decide) ?_
  refine lv_aload_n hx hb dL_hasOpenFile_2 rfl (lv_at hl 0 rfl) ?_
  refine lv_iload_n hx hb dL_hasOpenFile_3 rfl (lv_at hl 1 rfl) ?_
  refine c_xV (rest := [.int 0, .ref o]) (E := "java/lang/IndexOutOfBoundsException") hC hE hP hX hZ (xmtX4_hasOpenFile_0 l S b hfl hbad) gc_RL_71 hd_X4_hasOpenFile ⟨Nat.le_of_ble_eq_true rfl, Nat.le_of_ble_eq_true rfl⟩ 29 lo_29 rfl rfl hl.1 (Nat.le_of_ble_eq_true rfl) ⟨Nat.le_of_ble_eq_true rfl, Nat.le_of_ble_eq_true rfl⟩ dL_hasOpenFile_4 (fun ce q9 H1 h1 h2 h3 hP1 hz1 hk1 => ?_)
  refine vx_catch (own := RL) (E := "java/lang/IndexOutOfBoundsException") (name := "java/lang/IndexOutOfBoundsException") hown [] ⟨0, 16, 19, 19⟩ [] htab (fun z hz => absurd hz List.not_mem_nil) rfl (by decide) (hts _ tw_360) (va_Nw.use rfl (hX.2.1 (.castable "java/lang/IndexOutOfBoundsException" "java/lang/IndexOutOfBoundsException") (by decide +kernel))) h1 h2 h3 ?_
  have hS : va_S (va_in (xwW k a tr x o S T og R)) s.heap H1 [] := ⟨hz1, fun q hq _ => hk1 q hq, fun _ h => absurd h List.not_mem_nil⟩
  have hP := hP1
  refine lv_astore_n (lv' := [(3, .ref q9), (0, .ref x), (1, .int b), (2, .ref o)]) hx hb dL_hasOpenFile_19 rfl hl (by decide) rfl (fun ls hl => ?_)
  refine lv_iconst (v := 1) hx hb dL_hasOpenFile_20 (by decide) ?_
  exact W.iret hx hb hr (fun t9 ht hW => ⟨rfl, by rw [ht]; exact hP, hS.F ht⟩) hS.2.2 dL_hasOpenFile_21

set_option maxHeartbeats 4000000 in
set_option maxRecDepth 100000 in
theorem wbdL_isGone_0 (l : Launch) {D : va_G} {k : Nat → ClassId} {a tr : Nat → Nat} {x o : Nat} {R : va_W} (S T : HS) (og : Nat → Int64) (f : Int32) (hfl : l.stackTraces = false) (hbad : ¬ xFlt S f) : LM l yL_isGone cL_isGone 4 [(0, 16, 19, 19)] rmL_isGone D k (xwW k a tr x o S T og R) [.ref x, .int f, .ref o] 1 (xwW k a tr x o S T og R) := by
  refine LM_of rfl (Nat.le_of_ble_eq_true rfl) ?_
  intro p e s m below meth c hC hr hlk htab hE hP hD hX hZ hS ls hl
  have hC : CallFix p m c cL_isGone 4 s _ lw_all RL := hC
  have hx := hC.1
  have hb := hC.2.1
  have hown : s.vm.findClass RL = some m.cls := hC.2.2.2.1
  have hts := hC.2.2.2.2
  have hl : lv_has ls 4 [(0, .ref x), (1, .int f), (2, .ref o)] := hl
  refine lv_aload_n hx hb dL_isGone_0 rfl (lv_at hl 2 rfl) ?_
  refine lv_iconst (v := 0) hx hb dL_isGone_1 (by decide) ?_
  refine lv_aload_n hx hb dL_isGone_2 rfl (lv_at hl 0 rfl) ?_
  refine lv_iload_n hx hb dL_isGone_3 rfl (lv_at hl 1 rfl) ?_
  refine c_xV (rest := [.int 0, .ref o]) (E := "java/lang/IndexOutOfBoundsException") hC hE hP hX hZ (xmtX4_isGone_0 l S f hfl hbad) gc_RL_89 hd_X4_isGone ⟨Nat.le_of_ble_eq_true rfl, Nat.le_of_ble_eq_true rfl⟩ 29 lo_29 rfl rfl hl.1 (Nat.le_of_ble_eq_true rfl) ⟨Nat.le_of_ble_eq_true rfl, Nat.le_of_ble_eq_true rfl⟩ dL_isGone_4 (fun ce q9 H1 h1 h2 h3 hP1 hz1 hk1 => ?_)
  refine vx_catch (own := RL) (E := "java/lang/IndexOutOfBoundsException") (name := "java/lang/IndexOutOfBoundsException") hown [] ⟨0, 16, 19, 19⟩ [] htab (fun z hz => absurd hz List.not_mem_nil) rfl (by decide) (hts _ tw_360) (va_Nw.use rfl (hX.2.1 (.castable "java/lang/IndexOutOfBoundsException" "java/lang/IndexOutOfBoundsException") (by decide +kernel))) h1 h2 h3 ?_
  have hS : va_S (va_in (xwW k a tr x o S T og R)) s.heap H1 [] := ⟨hz1, fun q hq _ => hk1 q hq, fun _ h => absurd h List.not_mem_nil⟩
  have hP := hP1
  refine lv_astore_n (lv' := [(3, .ref q9), (0, .ref x), (1, .int f), (2, .ref o)]) hx hb dL_isGone_19 rfl hl (by decide) rfl (fun ls hl => ?_)
  refine lv_iconst (v := 1) hx hb dL_isGone_20 (by decide) ?_
  exact W.iret hx hb hr (fun t9 ht hW => ⟨rfl, by rw [ht]; exact hP, hS.F ht⟩) hS.2.2 dL_isGone_21

set_option maxHeartbeats 4000000 in
set_option maxRecDepth 100000 in
theorem wbdL_isMisrouted_0 (l : Launch) {D : va_G} {k : Nat → ClassId} {a tr : Nat → Nat} {x o : Nat} {R : va_W} (S T : HS) (og : Nat → Int64) (b : Int32) (hfl : l.stackTraces = false) (hbad : ¬ xBag S b) : LM l yL_isMisrouted cL_isMisrouted 4 [(0, 16, 19, 19)] rmL_isMisrouted D k (xwW k a tr x o S T og R) [.ref x, .int b, .ref o] 1 (xwW k a tr x o S T og R) := by
  refine LM_of rfl (Nat.le_of_ble_eq_true rfl) ?_
  intro p e s m below meth c hC hr hlk htab hE hP hD hX hZ hS ls hl
  have hC : CallFix p m c cL_isMisrouted 4 s _ lw_all RL := hC
  have hx := hC.1
  have hb := hC.2.1
  have hown : s.vm.findClass RL = some m.cls := hC.2.2.2.1
  have hts := hC.2.2.2.2
  have hl : lv_has ls 4 [(0, .ref x), (1, .int b), (2, .ref o)] := hl
  refine lv_aload_n hx hb dL_isMisrouted_0 rfl (lv_at hl 2 rfl) ?_
  refine lv_iconst (v := 0) hx hb dL_isMisrouted_1 (by decide) ?_
  refine lv_aload_n hx hb dL_isMisrouted_2 rfl (lv_at hl 0 rfl) ?_
  refine lv_iload_n hx hb dL_isMisrouted_3 rfl (lv_at hl 1 rfl) ?_
  refine c_xV (rest := [.int 0, .ref o]) (E := "java/lang/IndexOutOfBoundsException") hC hE hP hX hZ (xmtX4_isMisrouted_0 l S b hfl hbad) gc_RL_67 hd_X4_isMisrouted ⟨Nat.le_of_ble_eq_true rfl, Nat.le_of_ble_eq_true rfl⟩ 29 lo_29 rfl rfl hl.1 (Nat.le_of_ble_eq_true rfl) ⟨Nat.le_of_ble_eq_true rfl, Nat.le_of_ble_eq_true rfl⟩ dL_isMisrouted_4 (fun ce q9 H1 h1 h2 h3 hP1 hz1 hk1 => ?_)
  refine vx_catch (own := RL) (E := "java/lang/IndexOutOfBoundsException") (name := "java/lang/IndexOutOfBoundsException") hown [] ⟨0, 16, 19, 19⟩ [] htab (fun z hz => absurd hz List.not_mem_nil) rfl (by decide) (hts _ tw_360) (va_Nw.use rfl (hX.2.1 (.castable "java/lang/IndexOutOfBoundsException" "java/lang/IndexOutOfBoundsException") (by decide +kernel))) h1 h2 h3 ?_
  have hS : va_S (va_in (xwW k a tr x o S T og R)) s.heap H1 [] := ⟨hz1, fun q hq _ => hk1 q hq, fun _ h => absurd h List.not_mem_nil⟩
  have hP := hP1
  refine lv_astore_n (lv' := [(3, .ref q9), (0, .ref x), (1, .int b), (2, .ref o)]) hx hb dL_isMisrouted_19 rfl hl (by decide) rfl (fun ls hl => ?_)
  refine lv_iconst (v := 1) hx hb dL_isMisrouted_20 (by decide) ?_
  exact W.iret hx hb hr (fun t9 ht hW => ⟨rfl, by rw [ht]; exact hP, hS.F ht⟩) hS.2.2 dL_isMisrouted_21

set_option maxHeartbeats 4000000 in
set_option maxRecDepth 100000 in
theorem wbdL_minutesUntilChute_0 (l : Launch) {D : va_G} {k : Nat → ClassId} {a tr : Nat → Nat} {x o : Nat} {R : va_W} (S T : HS) (og : Nat → Int64) (b : Int32) (hfl : l.stackTraces = false) (hbad : ¬ xBag S b) : LM l yL_minutesUntilChute cL_minutesUntilChute 4 [(0, 9, 12, 19)] rmL_minutesUntilChute D k (xwW k a tr x o S T og R) [.ref x, .int b, .ref o] 1 (xwW k a tr x o S T og R) := by
  refine LM_of rfl (Nat.le_of_ble_eq_true rfl) ?_
  intro p e s m below meth c hC hr hlk htab hE hP hD hX hZ hS ls hl
  have hC : CallFix p m c cL_minutesUntilChute 4 s _ lw_all RL := hC
  have hx := hC.1
  have hb := hC.2.1
  have hown : s.vm.findClass RL = some m.cls := hC.2.2.2.1
  have hts := hC.2.2.2.2
  have hl : lv_has ls 4 [(0, .ref x), (1, .int b), (2, .ref o)] := hl
  refine lv_aload_n hx hb dL_minutesUntilChute_0 rfl (lv_at hl 2 rfl) ?_
  refine lv_iconst (v := 0) hx hb dL_minutesUntilChute_1 (by decide) ?_
  refine lv_aload_n hx hb dL_minutesUntilChute_2 rfl (lv_at hl 0 rfl) ?_
  refine lv_iload_n hx hb dL_minutesUntilChute_3 rfl (lv_at hl 1 rfl) ?_
  refine c_xV (rest := [.int 0, .ref o]) (E := "java/lang/IndexOutOfBoundsException") hC hE hP hX hZ (xmtX4_minutesUntilChute_0 l S b hfl hbad) gc_RL_98 hd_X4_minutesUntilChute ⟨Nat.le_of_ble_eq_true rfl, Nat.le_of_ble_eq_true rfl⟩ 29 lo_29 rfl rfl hl.1 (Nat.le_of_ble_eq_true rfl) ⟨Nat.le_of_ble_eq_true rfl, Nat.le_of_ble_eq_true rfl⟩ dL_minutesUntilChute_4 (fun ce q9 H1 h1 h2 h3 hP1 hz1 hk1 => ?_)
  refine vx_catch (own := RL) (E := "java/lang/IndexOutOfBoundsException") (name := "java/lang/IndexOutOfBoundsException") hown [] ⟨0, 9, 12, 19⟩ [] htab (fun z hz => absurd hz List.not_mem_nil) rfl (by decide) (hts _ tw_360) (va_Nw.use rfl (hX.2.1 (.castable "java/lang/IndexOutOfBoundsException" "java/lang/IndexOutOfBoundsException") (by decide +kernel))) h1 h2 h3 ?_
  have hS : va_S (va_in (xwW k a tr x o S T og R)) s.heap H1 [] := ⟨hz1, fun q hq _ => hk1 q hq, fun _ h => absurd h List.not_mem_nil⟩
  have hP := hP1
  refine lv_astore_n (lv' := [(3, .ref q9), (0, .ref x), (1, .int b), (2, .ref o)]) hx hb dL_minutesUntilChute_12 rfl hl (by decide) rfl (fun ls hl => ?_)
  refine lv_iconst (v := 1) hx hb dL_minutesUntilChute_13 (by decide) ?_
  exact W.iret hx hb hr (fun t9 ht hW => ⟨rfl, by rw [ht]; exact hP, hS.F ht⟩) hS.2.2 dL_minutesUntilChute_14

set_option maxHeartbeats 4000000 in
set_option maxRecDepth 100000 in
theorem wbdL_misroutedIn_0 (l : Launch) {D : va_G} {k : Nat → ClassId} {a tr : Nat → Nat} {x o : Nat} {R : va_W} (S T : HS) (og : Nat → Int64) (ch : Int32) (hfl : l.stackTraces = false) (hbad : ¬ xCh ch) : LM l yL_misroutedIn cL_misroutedIn 4 [(0, 9, 12, 19)] rmL_misroutedIn D k (xwW k a tr x o S T og R) [.ref x, .int ch, .ref o] 1 (xwW k a tr x o S T og R) := by
  refine LM_of rfl (Nat.le_of_ble_eq_true rfl) ?_
  intro p e s m below meth c hC hr hlk htab hE hP hD hX hZ hS ls hl
  have hC : CallFix p m c cL_misroutedIn 4 s _ lw_all RL := hC
  have hx := hC.1
  have hb := hC.2.1
  have hown : s.vm.findClass RL = some m.cls := hC.2.2.2.1
  have hts := hC.2.2.2.2
  have hl : lv_has ls 4 [(0, .ref x), (1, .int ch), (2, .ref o)] := hl
  refine lv_aload_n hx hb dL_misroutedIn_0 rfl (lv_at hl 2 rfl) ?_
  refine lv_iconst (v := 0) hx hb dL_misroutedIn_1 (by decide) ?_
  refine lv_aload_n hx hb dL_misroutedIn_2 rfl (lv_at hl 0 rfl) ?_
  refine lv_iload_n hx hb dL_misroutedIn_3 rfl (lv_at hl 1 rfl) ?_
  refine c_xV (rest := [.int 0, .ref o]) (E := "java/lang/IndexOutOfBoundsException") hC hE hP hX hZ (xmtX4_misroutedIn_0 l S ch hfl hbad) gc_RL_80 hd_X4_misroutedIn ⟨Nat.le_of_ble_eq_true rfl, Nat.le_of_ble_eq_true rfl⟩ 29 lo_29 rfl rfl hl.1 (Nat.le_of_ble_eq_true rfl) ⟨Nat.le_of_ble_eq_true rfl, Nat.le_of_ble_eq_true rfl⟩ dL_misroutedIn_4 (fun ce q9 H1 h1 h2 h3 hP1 hz1 hk1 => ?_)
  refine vx_catch (own := RL) (E := "java/lang/IndexOutOfBoundsException") (name := "java/lang/IndexOutOfBoundsException") hown [] ⟨0, 9, 12, 19⟩ [] htab (fun z hz => absurd hz List.not_mem_nil) rfl (by decide) (hts _ tw_360) (va_Nw.use rfl (hX.2.1 (.castable "java/lang/IndexOutOfBoundsException" "java/lang/IndexOutOfBoundsException") (by decide +kernel))) h1 h2 h3 ?_
  have hS : va_S (va_in (xwW k a tr x o S T og R)) s.heap H1 [] := ⟨hz1, fun q hq _ => hk1 q hq, fun _ h => absurd h List.not_mem_nil⟩
  have hP := hP1
  refine lv_astore_n (lv' := [(3, .ref q9), (0, .ref x), (1, .int ch), (2, .ref o)]) hx hb dL_misroutedIn_12 rfl hl (by decide) rfl (fun ls hl => ?_)
  refine lv_iconst (v := 1) hx hb dL_misroutedIn_13 (by decide) ?_
  exact W.iret hx hb hr (fun t9 ht hW => ⟨rfl, by rw [ht]; exact hP, hS.F ht⟩) hS.2.2 dL_misroutedIn_14

set_option maxHeartbeats 4000000 in
set_option maxRecDepth 100000 in
theorem wbdL_missesOf_0 (l : Launch) {D : va_G} {k : Nat → ClassId} {a tr : Nat → Nat} {x o : Nat} {R : va_W} (S T : HS) (og : Nat → Int64) (b : Int32) (hfl : l.stackTraces = false) (hbad : ¬ xBag S b) : LM l yL_missesOf cL_missesOf 4 [(0, 9, 12, 19)] rmL_missesOf D k (xwW k a tr x o S T og R) [.ref x, .int b, .ref o] 1 (xwW k a tr x o S T og R) := by
  refine LM_of rfl (Nat.le_of_ble_eq_true rfl) ?_
  intro p e s m below meth c hC hr hlk htab hE hP hD hX hZ hS ls hl
  have hC : CallFix p m c cL_missesOf 4 s _ lw_all RL := hC
  have hx := hC.1
  have hb := hC.2.1
  have hown : s.vm.findClass RL = some m.cls := hC.2.2.2.1
  have hts := hC.2.2.2.2
  have hl : lv_has ls 4 [(0, .ref x), (1, .int b), (2, .ref o)] := hl
  refine lv_aload_n hx hb dL_missesOf_0 rfl (lv_at hl 2 rfl) ?_
  refine lv_iconst (v := 0) hx hb dL_missesOf_1 (by decide) ?_
  refine lv_aload_n hx hb dL_missesOf_2 rfl (lv_at hl 0 rfl) ?_
  refine lv_iload_n hx hb dL_missesOf_3 rfl (lv_at hl 1 rfl) ?_
  refine c_xV (rest := [.int 0, .ref o]) (E := "java/lang/IndexOutOfBoundsException") hC hE hP hX hZ (xmtX4_missesOf_0 l S b hfl hbad) gc_RL_64 hd_X4_missesOf ⟨Nat.le_of_ble_eq_true rfl, Nat.le_of_ble_eq_true rfl⟩ 29 lo_29 rfl rfl hl.1 (Nat.le_of_ble_eq_true rfl) ⟨Nat.le_of_ble_eq_true rfl, Nat.le_of_ble_eq_true rfl⟩ dL_missesOf_4 (fun ce q9 H1 h1 h2 h3 hP1 hz1 hk1 => ?_)
  refine vx_catch (own := RL) (E := "java/lang/IndexOutOfBoundsException") (name := "java/lang/IndexOutOfBoundsException") hown [] ⟨0, 9, 12, 19⟩ [] htab (fun z hz => absurd hz List.not_mem_nil) rfl (by decide) (hts _ tw_360) (va_Nw.use rfl (hX.2.1 (.castable "java/lang/IndexOutOfBoundsException" "java/lang/IndexOutOfBoundsException") (by decide +kernel))) h1 h2 h3 ?_
  have hS : va_S (va_in (xwW k a tr x o S T og R)) s.heap H1 [] := ⟨hz1, fun q hq _ => hk1 q hq, fun _ h => absurd h List.not_mem_nil⟩
  have hP := hP1
  refine lv_astore_n (lv' := [(3, .ref q9), (0, .ref x), (1, .int b), (2, .ref o)]) hx hb dL_missesOf_12 rfl hl (by decide) rfl (fun ls hl => ?_)
  refine lv_iconst (v := 1) hx hb dL_missesOf_13 (by decide) ?_
  exact W.iret hx hb hr (fun t9 ht hW => ⟨rfl, by rw [ht]; exact hP, hS.F ht⟩) hS.2.2 dL_missesOf_14

set_option maxHeartbeats 4000000 in
set_option maxRecDepth 100000 in
theorem wbdL_missingOf_0 (l : Launch) {D : va_G} {k : Nat → ClassId} {a tr : Nat → Nat} {x o : Nat} {R : va_W} (S T : HS) (og : Nat → Int64) (f : Int32) (hfl : l.stackTraces = false) (hbad : ¬ xFlt S f) : LM l yL_missingOf cL_missingOf 4 [(0, 9, 12, 19)] rmL_missingOf D k (xwW k a tr x o S T og R) [.ref x, .int f, .ref o] 1 (xwW k a tr x o S T og R) := by
  refine LM_of rfl (Nat.le_of_ble_eq_true rfl) ?_
  intro p e s m below meth c hC hr hlk htab hE hP hD hX hZ hS ls hl
  have hC : CallFix p m c cL_missingOf 4 s _ lw_all RL := hC
  have hx := hC.1
  have hb := hC.2.1
  have hown : s.vm.findClass RL = some m.cls := hC.2.2.2.1
  have hts := hC.2.2.2.2
  have hl : lv_has ls 4 [(0, .ref x), (1, .int f), (2, .ref o)] := hl
  refine lv_aload_n hx hb dL_missingOf_0 rfl (lv_at hl 2 rfl) ?_
  refine lv_iconst (v := 0) hx hb dL_missingOf_1 (by decide) ?_
  refine lv_aload_n hx hb dL_missingOf_2 rfl (lv_at hl 0 rfl) ?_
  refine lv_iload_n hx hb dL_missingOf_3 rfl (lv_at hl 1 rfl) ?_
  refine c_xV (rest := [.int 0, .ref o]) (E := "java/lang/IndexOutOfBoundsException") hC hE hP hX hZ (xmtX4_missingOf_0 l S f hfl hbad) gc_RL_95 hd_X4_missingOf ⟨Nat.le_of_ble_eq_true rfl, Nat.le_of_ble_eq_true rfl⟩ 29 lo_29 rfl rfl hl.1 (Nat.le_of_ble_eq_true rfl) ⟨Nat.le_of_ble_eq_true rfl, Nat.le_of_ble_eq_true rfl⟩ dL_missingOf_4 (fun ce q9 H1 h1 h2 h3 hP1 hz1 hk1 => ?_)
  refine vx_catch (own := RL) (E := "java/lang/IndexOutOfBoundsException") (name := "java/lang/IndexOutOfBoundsException") hown [] ⟨0, 9, 12, 19⟩ [] htab (fun z hz => absurd hz List.not_mem_nil) rfl (by decide) (hts _ tw_360) (va_Nw.use rfl (hX.2.1 (.castable "java/lang/IndexOutOfBoundsException" "java/lang/IndexOutOfBoundsException") (by decide +kernel))) h1 h2 h3 ?_
  have hS : va_S (va_in (xwW k a tr x o S T og R)) s.heap H1 [] := ⟨hz1, fun q hq _ => hk1 q hq, fun _ h => absurd h List.not_mem_nil⟩
  have hP := hP1
  refine lv_astore_n (lv' := [(3, .ref q9), (0, .ref x), (1, .int f), (2, .ref o)]) hx hb dL_missingOf_12 rfl hl (by decide) rfl (fun ls hl => ?_)
  refine lv_iconst (v := 1) hx hb dL_missingOf_13 (by decide) ?_
  exact W.iret hx hb hr (fun t9 ht hW => ⟨rfl, by rw [ht]; exact hP, hS.F ht⟩) hS.2.2 dL_missingOf_14

set_option maxHeartbeats 4000000 in
set_option maxRecDepth 100000 in
theorem wbdL_pass_0 (l : Launch) {D : va_G} {k : Nat → ClassId} {a tr : Nat → Nat} {x o : Nat} {R : va_W} (S T : HS) (og : Nat → Int64) (N : Nat) (hfl : l.stackTraces = false) (hbad : ¬ xM60 (nI N)) : LM l yL_pass cL_pass 4 [(0, 9, 12, 25)] rmL_pass D k (xwW k a tr x o S T og R) [.ref x, .int (nI N), .ref o] 1 (xwW k a tr x o S T og R) := by
  refine LM_of rfl (Nat.le_of_ble_eq_true rfl) ?_
  intro p e s m below meth c hC hr hlk htab hE hP hD hX hZ hS ls hl
  have hC : CallFix p m c cL_pass 4 s _ lw_all RL := hC
  have hx := hC.1
  have hb := hC.2.1
  have hown : s.vm.findClass RL = some m.cls := hC.2.2.2.1
  have hts := hC.2.2.2.2
  have hl : lv_has ls 4 [(0, .ref x), (1, .int (nI N)), (2, .ref o)] := hl
  refine lv_aload_n hx hb dL_pass_0 rfl (lv_at hl 2 rfl) ?_
  refine lv_iconst (v := 0) hx hb dL_pass_1 (by decide) ?_
  refine lv_aload_n hx hb dL_pass_2 rfl (lv_at hl 0 rfl) ?_
  refine lv_iload_n hx hb dL_pass_3 rfl (lv_at hl 1 rfl) ?_
  refine c_xV (rest := [.int 0, .ref o]) (E := "java/lang/IllegalArgumentException") hC hE hP hX hZ (xmtX4_pass_0 l S N hfl hbad) gc_RL_46 hd_X4_pass ⟨Nat.le_of_ble_eq_true rfl, Nat.le_of_ble_eq_true rfl⟩ 29 lo_29 rfl rfl hl.1 (Nat.le_of_ble_eq_true rfl) ⟨Nat.le_of_ble_eq_true rfl, Nat.le_of_ble_eq_true rfl⟩ dL_pass_4 (fun ce q9 H1 h1 h2 h3 hP1 hz1 hk1 => ?_)
  refine vx_catch (own := RL) (E := "java/lang/IllegalArgumentException") (name := "java/lang/IllegalArgumentException") hown [] ⟨0, 9, 12, 25⟩ [] htab (fun z hz => absurd hz List.not_mem_nil) rfl (by decide) (hts _ tw_408) (va_Nw.use rfl (hX.2.1 (.castable "java/lang/IllegalArgumentException" "java/lang/IllegalArgumentException") (by decide +kernel))) h1 h2 h3 ?_
  have hS : va_S (va_in (xwW k a tr x o S T og R)) s.heap H1 [] := ⟨hz1, fun q hq _ => hk1 q hq, fun _ h => absurd h List.not_mem_nil⟩
  have hP := hP1
  refine lv_astore_n (lv' := [(3, .ref q9), (0, .ref x), (1, .int (nI N)), (2, .ref o)]) hx hb dL_pass_12 rfl hl (by decide) rfl (fun ls hl => ?_)
  refine lv_iconst (v := 1) hx hb dL_pass_13 (by decide) ?_
  exact W.iret hx hb hr (fun t9 ht hW => ⟨rfl, by rw [ht]; exact hP, hS.F ht⟩) hS.2.2 dL_pass_14

set_option maxHeartbeats 4000000 in
set_option maxRecDepth 100000 in
theorem wbdL_placeOf_0 (l : Launch) {D : va_G} {k : Nat → ClassId} {a tr : Nat → Nat} {x o : Nat} {R : va_W} (S T : HS) (og : Nat → Int64) (b : Int32) (hfl : l.stackTraces = false) (hbad : ¬ xBag S b) : LM l yL_placeOf cL_placeOf 4 [(0, 9, 12, 19)] rmL_placeOf D k (xwW k a tr x o S T og R) [.ref x, .int b, .ref o] 1 (xwW k a tr x o S T og R) := by
  refine LM_of rfl (Nat.le_of_ble_eq_true rfl) ?_
  intro p e s m below meth c hC hr hlk htab hE hP hD hX hZ hS ls hl
  have hC : CallFix p m c cL_placeOf 4 s _ lw_all RL := hC
  have hx := hC.1
  have hb := hC.2.1
  have hown : s.vm.findClass RL = some m.cls := hC.2.2.2.1
  have hts := hC.2.2.2.2
  have hl : lv_has ls 4 [(0, .ref x), (1, .int b), (2, .ref o)] := hl
  refine lv_aload_n hx hb dL_placeOf_0 rfl (lv_at hl 2 rfl) ?_
  refine lv_iconst (v := 0) hx hb dL_placeOf_1 (by decide) ?_
  refine lv_aload_n hx hb dL_placeOf_2 rfl (lv_at hl 0 rfl) ?_
  refine lv_iload_n hx hb dL_placeOf_3 rfl (lv_at hl 1 rfl) ?_
  refine c_xV (rest := [.int 0, .ref o]) (E := "java/lang/IndexOutOfBoundsException") hC hE hP hX hZ (xmtX4_placeOf_0 l S b hfl hbad) gc_RL_55 hd_X4_placeOf ⟨Nat.le_of_ble_eq_true rfl, Nat.le_of_ble_eq_true rfl⟩ 29 lo_29 rfl rfl hl.1 (Nat.le_of_ble_eq_true rfl) ⟨Nat.le_of_ble_eq_true rfl, Nat.le_of_ble_eq_true rfl⟩ dL_placeOf_4 (fun ce q9 H1 h1 h2 h3 hP1 hz1 hk1 => ?_)
  refine vx_catch (own := RL) (E := "java/lang/IndexOutOfBoundsException") (name := "java/lang/IndexOutOfBoundsException") hown [] ⟨0, 9, 12, 19⟩ [] htab (fun z hz => absurd hz List.not_mem_nil) rfl (by decide) (hts _ tw_360) (va_Nw.use rfl (hX.2.1 (.castable "java/lang/IndexOutOfBoundsException" "java/lang/IndexOutOfBoundsException") (by decide +kernel))) h1 h2 h3 ?_
  have hS : va_S (va_in (xwW k a tr x o S T og R)) s.heap H1 [] := ⟨hz1, fun q hq _ => hk1 q hq, fun _ h => absurd h List.not_mem_nil⟩
  have hP := hP1
  refine lv_astore_n (lv' := [(3, .ref q9), (0, .ref x), (1, .int b), (2, .ref o)]) hx hb dL_placeOf_12 rfl hl (by decide) rfl (fun ls hl => ?_)
  refine lv_iconst (v := 1) hx hb dL_placeOf_13 (by decide) ?_
  exact W.iret hx hb hr (fun t9 ht hW => ⟨rfl, by rw [ht]; exact hP, hS.F ht⟩) hS.2.2 dL_placeOf_14

set_option maxHeartbeats 4000000 in
set_option maxRecDepth 100000 in
theorem wbdL_readFor_0 (l : Launch) {D : va_G} {k : Nat → ClassId} {a tr : Nat → Nat} {x o : Nat} {R : va_W} (S T : HS) (og : Nat → Int64) (b : Int32) (hfl : l.stackTraces = false) (hbad : ¬ xBag S b) : LM l yL_readFor cL_readFor 4 [(0, 9, 12, 19)] rmL_readFor D k (xwW k a tr x o S T og R) [.ref x, .int b, .ref o] 1 (xwW k a tr x o S T og R) := by
  refine LM_of rfl (Nat.le_of_ble_eq_true rfl) ?_
  intro p e s m below meth c hC hr hlk htab hE hP hD hX hZ hS ls hl
  have hC : CallFix p m c cL_readFor 4 s _ lw_all RL := hC
  have hx := hC.1
  have hb := hC.2.1
  have hown : s.vm.findClass RL = some m.cls := hC.2.2.2.1
  have hts := hC.2.2.2.2
  have hl : lv_has ls 4 [(0, .ref x), (1, .int b), (2, .ref o)] := hl
  refine lv_aload_n hx hb dL_readFor_0 rfl (lv_at hl 2 rfl) ?_
  refine lv_iconst (v := 0) hx hb dL_readFor_1 (by decide) ?_
  refine lv_aload_n hx hb dL_readFor_2 rfl (lv_at hl 0 rfl) ?_
  refine lv_iload_n hx hb dL_readFor_3 rfl (lv_at hl 1 rfl) ?_
  refine c_xV (rest := [.int 0, .ref o]) (E := "java/lang/IndexOutOfBoundsException") hC hE hP hX hZ (xmtX4_readFor_0 l S b hfl hbad) gc_RL_61 hd_X4_readFor ⟨Nat.le_of_ble_eq_true rfl, Nat.le_of_ble_eq_true rfl⟩ 29 lo_29 rfl rfl hl.1 (Nat.le_of_ble_eq_true rfl) ⟨Nat.le_of_ble_eq_true rfl, Nat.le_of_ble_eq_true rfl⟩ dL_readFor_4 (fun ce q9 H1 h1 h2 h3 hP1 hz1 hk1 => ?_)
  refine vx_catch (own := RL) (E := "java/lang/IndexOutOfBoundsException") (name := "java/lang/IndexOutOfBoundsException") hown [] ⟨0, 9, 12, 19⟩ [] htab (fun z hz => absurd hz List.not_mem_nil) rfl (by decide) (hts _ tw_360) (va_Nw.use rfl (hX.2.1 (.castable "java/lang/IndexOutOfBoundsException" "java/lang/IndexOutOfBoundsException") (by decide +kernel))) h1 h2 h3 ?_
  have hS : va_S (va_in (xwW k a tr x o S T og R)) s.heap H1 [] := ⟨hz1, fun q hq _ => hk1 q hq, fun _ h => absurd h List.not_mem_nil⟩
  have hP := hP1
  refine lv_astore_n (lv' := [(3, .ref q9), (0, .ref x), (1, .int b), (2, .ref o)]) hx hb dL_readFor_12 rfl hl (by decide) rfl (fun ls hl => ?_)
  refine lv_iconst (v := 1) hx hb dL_readFor_13 (by decide) ?_
  exact W.iret hx hb hr (fun t9 ht hW => ⟨rfl, by rw [ht]; exact hP, hS.F ht⟩) hS.2.2 dL_readFor_14

set_option maxHeartbeats 4000000 in
set_option maxRecDepth 100000 in
theorem wbdL_readyAfter_0 (l : Launch) {D : va_G} {k : Nat → ClassId} {a tr : Nat → Nat} {x o : Nat} {R : va_W} (S T : HS) (og : Nat → Int64) (f : Int32) (N : Nat) (hfl : l.stackTraces = false) (hbad : ¬ xFlt S f) : LM l yL_readyAfter cL_readyAfter 5 [(0, 10, 13, 19), (0, 10, 17, 25)] rmL_readyAfter D k (xwW k a tr x o S T og R) [.ref x, .int f, .int (nI N), .ref o] 1 (xwW k a tr x o S T og R) := by
  refine LM_of rfl (Nat.le_of_ble_eq_true rfl) ?_
  intro p e s m below meth c hC hr hlk htab hE hP hD hX hZ hS ls hl
  have hC : CallFix p m c cL_readyAfter 5 s _ lw_all RL := hC
  have hx := hC.1
  have hb := hC.2.1
  have hown : s.vm.findClass RL = some m.cls := hC.2.2.2.1
  have hts := hC.2.2.2.2
  have hl : lv_has ls 5 [(0, .ref x), (1, .int f), (2, .int (nI N)), (3, .ref o)] := hl
  refine lv_aload_n hx hb dL_readyAfter_0 rfl (lv_at hl 3 rfl) ?_
  refine lv_iconst (v := 0) hx hb dL_readyAfter_1 (by decide) ?_
  refine lv_aload_n hx hb dL_readyAfter_2 rfl (lv_at hl 0 rfl) ?_
  refine lv_iload_n hx hb dL_readyAfter_3 rfl (lv_at hl 1 rfl) ?_
  refine lv_iload_n hx hb dL_readyAfter_4 rfl (lv_at hl 2 rfl) ?_
  refine c_xV (rest := [.int 0, .ref o]) (E := "java/lang/IndexOutOfBoundsException") hC hE hP hX hZ (xmtX4_readyAfter_0 l S f N hfl hbad) gc_RL_101 hd_X4_readyAfter ⟨Nat.le_of_ble_eq_true rfl, Nat.le_of_ble_eq_true rfl⟩ 29 lo_29 rfl rfl hl.1 (Nat.le_of_ble_eq_true rfl) ⟨Nat.le_of_ble_eq_true rfl, Nat.le_of_ble_eq_true rfl⟩ dL_readyAfter_5 (fun ce q9 H1 h1 h2 h3 hP1 hz1 hk1 => ?_)
  refine vx_catch (own := RL) (E := "java/lang/IndexOutOfBoundsException") (name := "java/lang/IndexOutOfBoundsException") hown [] ⟨0, 10, 13, 19⟩ [⟨0, 10, 17, 25⟩] htab (fun z hz => absurd hz List.not_mem_nil) rfl (by decide) (hts _ tw_360) (va_Nw.use rfl (hX.2.1 (.castable "java/lang/IndexOutOfBoundsException" "java/lang/IndexOutOfBoundsException") (by decide +kernel))) h1 h2 h3 ?_
  have hS : va_S (va_in (xwW k a tr x o S T og R)) s.heap H1 [] := ⟨hz1, fun q hq _ => hk1 q hq, fun _ h => absurd h List.not_mem_nil⟩
  have hP := hP1
  refine lv_astore (lv' := [(4, .ref q9), (0, .ref x), (1, .int f), (2, .int (nI N)), (3, .ref o)]) hx hb dL_readyAfter_13 hl (by decide) rfl (fun ls hl => ?_)
  refine lv_iconst (v := 1) hx hb dL_readyAfter_15 (by decide) ?_
  exact W.iret hx hb hr (fun t9 ht hW => ⟨rfl, by rw [ht]; exact hP, hS.F ht⟩) hS.2.2 dL_readyAfter_16

set_option maxHeartbeats 4000000 in
set_option maxRecDepth 100000 in
theorem wbdL_readyAfter_1 (l : Launch) {D : va_G} {k : Nat → ClassId} {a tr : Nat → Nat} {x o : Nat} {R : va_W} (S T : HS) (og : Nat → Int64) (f : Int32) (N : Nat) (hfl : l.stackTraces = false) (hk0 : xFlt S f) (hbad : ¬ xM60 (nI N)) : LM l yL_readyAfter cL_readyAfter 5 [(0, 10, 13, 19), (0, 10, 17, 25)] rmL_readyAfter D k (xwW k a tr x o S T og R) [.ref x, .int f, .int (nI N), .ref o] 2 (xwW k a tr x o S T og R) := by
  refine LM_of rfl (Nat.le_of_ble_eq_true rfl) ?_
  intro p e s m below meth c hC hr hlk htab hE hP hD hX hZ hS ls hl
  have hC : CallFix p m c cL_readyAfter 5 s _ lw_all RL := hC
  have hx := hC.1
  have hb := hC.2.1
  have hown : s.vm.findClass RL = some m.cls := hC.2.2.2.1
  have hts := hC.2.2.2.2
  have hl : lv_has ls 5 [(0, .ref x), (1, .int f), (2, .int (nI N)), (3, .ref o)] := hl
  refine lv_aload_n hx hb dL_readyAfter_0 rfl (lv_at hl 3 rfl) ?_
  refine lv_iconst (v := 0) hx hb dL_readyAfter_1 (by decide) ?_
  refine lv_aload_n hx hb dL_readyAfter_2 rfl (lv_at hl 0 rfl) ?_
  refine lv_iload_n hx hb dL_readyAfter_3 rfl (lv_at hl 1 rfl) ?_
  refine lv_iload_n hx hb dL_readyAfter_4 rfl (lv_at hl 2 rfl) ?_
  refine c_xV (rest := [.int 0, .ref o]) (E := "java/lang/IllegalArgumentException") hC hE hP hX hZ (xmtX4_readyAfter_1 l S f N hfl hk0 hbad) gc_RL_101 hd_X4_readyAfter ⟨Nat.le_of_ble_eq_true rfl, Nat.le_of_ble_eq_true rfl⟩ 29 lo_29 rfl rfl hl.1 (Nat.le_of_ble_eq_true rfl) ⟨Nat.le_of_ble_eq_true rfl, Nat.le_of_ble_eq_true rfl⟩ dL_readyAfter_5 (fun ce q9 H1 h1 h2 h3 hP1 hz1 hk1 => ?_)
  refine vx_catch (own := RL) (E := "java/lang/IllegalArgumentException") (name := "java/lang/IllegalArgumentException") hown [⟨0, 10, 13, 19⟩] ⟨0, 10, 17, 25⟩ [] htab (fun z hz => by
      simp only [List.mem_cons, List.not_mem_nil, or_false] at hz
      rcases hz with rfl
      · exact Or.inr ⟨by decide, "java/lang/IndexOutOfBoundsException", hts _ tw_360, hX.2.2.2.1⟩) rfl (by decide) (hts _ tw_408) (va_Nw.use rfl (hX.2.1 (.castable "java/lang/IllegalArgumentException" "java/lang/IllegalArgumentException") (by decide +kernel))) h1 h2 h3 ?_
  have hS : va_S (va_in (xwW k a tr x o S T og R)) s.heap H1 [] := ⟨hz1, fun q hq _ => hk1 q hq, fun _ h => absurd h List.not_mem_nil⟩
  have hP := hP1
  refine lv_astore (lv' := [(4, .ref q9), (0, .ref x), (1, .int f), (2, .int (nI N)), (3, .ref o)]) hx hb dL_readyAfter_17 hl (by decide) rfl (fun ls hl => ?_)
  refine lv_iconst (v := 2) hx hb dL_readyAfter_19 (by decide) ?_
  exact W.iret hx hb hr (fun t9 ht hW => ⟨rfl, by rw [ht]; exact hP, hS.F ht⟩) hS.2.2 dL_readyAfter_20

set_option maxHeartbeats 4000000 in
set_option maxRecDepth 100000 in
theorem wbdL_readyOf_0 (l : Launch) {D : va_G} {k : Nat → ClassId} {a tr : Nat → Nat} {x o : Nat} {R : va_W} (S T : HS) (og : Nat → Int64) (f : Int32) (hfl : l.stackTraces = false) (hbad : ¬ xFlt S f) : LM l yL_readyOf cL_readyOf 4 [(0, 9, 12, 19)] rmL_readyOf D k (xwW k a tr x o S T og R) [.ref x, .int f, .ref o] 1 (xwW k a tr x o S T og R) := by
  refine LM_of rfl (Nat.le_of_ble_eq_true rfl) ?_
  intro p e s m below meth c hC hr hlk htab hE hP hD hX hZ hS ls hl
  have hC : CallFix p m c cL_readyOf 4 s _ lw_all RL := hC
  have hx := hC.1
  have hb := hC.2.1
  have hown : s.vm.findClass RL = some m.cls := hC.2.2.2.1
  have hts := hC.2.2.2.2
  have hl : lv_has ls 4 [(0, .ref x), (1, .int f), (2, .ref o)] := hl
  refine lv_aload_n hx hb dL_readyOf_0 rfl (lv_at hl 2 rfl) ?_
  refine lv_iconst (v := 0) hx hb dL_readyOf_1 (by decide) ?_
  refine lv_aload_n hx hb dL_readyOf_2 rfl (lv_at hl 0 rfl) ?_
  refine lv_iload_n hx hb dL_readyOf_3 rfl (lv_at hl 1 rfl) ?_
  refine c_xV (rest := [.int 0, .ref o]) (E := "java/lang/IndexOutOfBoundsException") hC hE hP hX hZ (xmtX4_readyOf_0 l S f hfl hbad) gc_RL_92 hd_X4_readyOf ⟨Nat.le_of_ble_eq_true rfl, Nat.le_of_ble_eq_true rfl⟩ 29 lo_29 rfl rfl hl.1 (Nat.le_of_ble_eq_true rfl) ⟨Nat.le_of_ble_eq_true rfl, Nat.le_of_ble_eq_true rfl⟩ dL_readyOf_4 (fun ce q9 H1 h1 h2 h3 hP1 hz1 hk1 => ?_)
  refine vx_catch (own := RL) (E := "java/lang/IndexOutOfBoundsException") (name := "java/lang/IndexOutOfBoundsException") hown [] ⟨0, 9, 12, 19⟩ [] htab (fun z hz => absurd hz List.not_mem_nil) rfl (by decide) (hts _ tw_360) (va_Nw.use rfl (hX.2.1 (.castable "java/lang/IndexOutOfBoundsException" "java/lang/IndexOutOfBoundsException") (by decide +kernel))) h1 h2 h3 ?_
  have hS : va_S (va_in (xwW k a tr x o S T og R)) s.heap H1 [] := ⟨hz1, fun q hq _ => hk1 q hq, fun _ h => absurd h List.not_mem_nil⟩
  have hP := hP1
  refine lv_astore_n (lv' := [(3, .ref q9), (0, .ref x), (1, .int f), (2, .ref o)]) hx hb dL_readyOf_12 rfl hl (by decide) rfl (fun ls hl => ?_)
  refine lv_iconst (v := 1) hx hb dL_readyOf_13 (by decide) ?_
  exact W.iret hx hb hr (fun t9 ht hW => ⟨rfl, by rw [ht]; exact hP, hS.F ht⟩) hS.2.2 dL_readyOf_14

set_option maxHeartbeats 4000000 in
set_option maxRecDepth 100000 in
theorem wbdL_roomOf_0 (l : Launch) {D : va_G} {k : Nat → ClassId} {a tr : Nat → Nat} {x o : Nat} {R : va_W} (S T : HS) (og : Nat → Int64) (ch : Int32) (hfl : l.stackTraces = false) (hbad : ¬ xCh ch) : LM l yL_roomOf cL_roomOf 4 [(0, 9, 12, 19)] rmL_roomOf D k (xwW k a tr x o S T og R) [.ref x, .int ch, .ref o] 1 (xwW k a tr x o S T og R) := by
  refine LM_of rfl (Nat.le_of_ble_eq_true rfl) ?_
  intro p e s m below meth c hC hr hlk htab hE hP hD hX hZ hS ls hl
  have hC : CallFix p m c cL_roomOf 4 s _ lw_all RL := hC
  have hx := hC.1
  have hb := hC.2.1
  have hown : s.vm.findClass RL = some m.cls := hC.2.2.2.1
  have hts := hC.2.2.2.2
  have hl : lv_has ls 4 [(0, .ref x), (1, .int ch), (2, .ref o)] := hl
  refine lv_aload_n hx hb dL_roomOf_0 rfl (lv_at hl 2 rfl) ?_
  refine lv_iconst (v := 0) hx hb dL_roomOf_1 (by decide) ?_
  refine lv_aload_n hx hb dL_roomOf_2 rfl (lv_at hl 0 rfl) ?_
  refine lv_iload_n hx hb dL_roomOf_3 rfl (lv_at hl 1 rfl) ?_
  refine c_xV (rest := [.int 0, .ref o]) (E := "java/lang/IndexOutOfBoundsException") hC hE hP hX hZ (xmtX4_roomOf_0 l S ch hfl hbad) gc_RL_83 hd_X4_roomOf ⟨Nat.le_of_ble_eq_true rfl, Nat.le_of_ble_eq_true rfl⟩ 29 lo_29 rfl rfl hl.1 (Nat.le_of_ble_eq_true rfl) ⟨Nat.le_of_ble_eq_true rfl, Nat.le_of_ble_eq_true rfl⟩ dL_roomOf_4 (fun ce q9 H1 h1 h2 h3 hP1 hz1 hk1 => ?_)
  refine vx_catch (own := RL) (E := "java/lang/IndexOutOfBoundsException") (name := "java/lang/IndexOutOfBoundsException") hown [] ⟨0, 9, 12, 19⟩ [] htab (fun z hz => absurd hz List.not_mem_nil) rfl (by decide) (hts _ tw_360) (va_Nw.use rfl (hX.2.1 (.castable "java/lang/IndexOutOfBoundsException" "java/lang/IndexOutOfBoundsException") (by decide +kernel))) h1 h2 h3 ?_
  have hS : va_S (va_in (xwW k a tr x o S T og R)) s.heap H1 [] := ⟨hz1, fun q hq _ => hk1 q hq, fun _ h => absurd h List.not_mem_nil⟩
  have hP := hP1
  refine lv_astore_n (lv' := [(3, .ref q9), (0, .ref x), (1, .int ch), (2, .ref o)]) hx hb dL_roomOf_12 rfl hl (by decide) rfl (fun ls hl => ?_)
  refine lv_iconst (v := 1) hx hb dL_roomOf_13 (by decide) ?_
  exact W.iret hx hb hr (fun t9 ht hW => ⟨rfl, by rw [ht]; exact hP, hS.F ht⟩) hS.2.2 dL_roomOf_14

set_option maxHeartbeats 4000000 in
set_option maxRecDepth 100000 in
theorem wbdL_setReader_0 (l : Launch) {D : va_G} {k : Nat → ClassId} {a tr : Nat → Nat} {x o : Nat} {R : va_W} (S T : HS) (og : Nat → Int64) (z : Int32) (hfl : l.stackTraces = false) (hbad : ¬ ((¬ (z < 0)) ∧ (¬ (9 < z)))) : LM l yL_setReader cL_setReader 4 [(0, 9, 12, 25)] rmL_setReader D k (xwW k a tr x o S T og R) [.ref x, .int z, .ref o] 1 (xwW k a tr x o S T og R) := by
  refine LM_of rfl (Nat.le_of_ble_eq_true rfl) ?_
  intro p e s m below meth c hC hr hlk htab hE hP hD hX hZ hS ls hl
  have hC : CallFix p m c cL_setReader 4 s _ lw_all RL := hC
  have hx := hC.1
  have hb := hC.2.1
  have hown : s.vm.findClass RL = some m.cls := hC.2.2.2.1
  have hts := hC.2.2.2.2
  have hl : lv_has ls 4 [(0, .ref x), (1, .int z), (2, .ref o)] := hl
  refine lv_aload_n hx hb dL_setReader_0 rfl (lv_at hl 2 rfl) ?_
  refine lv_iconst (v := 0) hx hb dL_setReader_1 (by decide) ?_
  refine lv_aload_n hx hb dL_setReader_2 rfl (lv_at hl 0 rfl) ?_
  refine lv_iload_n hx hb dL_setReader_3 rfl (lv_at hl 1 rfl) ?_
  refine c_xV (rest := [.int 0, .ref o]) (E := "java/lang/IllegalArgumentException") hC hE hP hX hZ (xmtX4_setReader_0 l S z hfl hbad) gc_RL_21 hd_X4_setReader ⟨Nat.le_of_ble_eq_true rfl, Nat.le_of_ble_eq_true rfl⟩ 29 lo_29 rfl rfl hl.1 (Nat.le_of_ble_eq_true rfl) ⟨Nat.le_of_ble_eq_true rfl, Nat.le_of_ble_eq_true rfl⟩ dL_setReader_4 (fun ce q9 H1 h1 h2 h3 hP1 hz1 hk1 => ?_)
  refine vx_catch (own := RL) (E := "java/lang/IllegalArgumentException") (name := "java/lang/IllegalArgumentException") hown [] ⟨0, 9, 12, 25⟩ [] htab (fun z hz => absurd hz List.not_mem_nil) rfl (by decide) (hts _ tw_408) (va_Nw.use rfl (hX.2.1 (.castable "java/lang/IllegalArgumentException" "java/lang/IllegalArgumentException") (by decide +kernel))) h1 h2 h3 ?_
  have hS : va_S (va_in (xwW k a tr x o S T og R)) s.heap H1 [] := ⟨hz1, fun q hq _ => hk1 q hq, fun _ h => absurd h List.not_mem_nil⟩
  have hP := hP1
  refine lv_astore_n (lv' := [(3, .ref q9), (0, .ref x), (1, .int z), (2, .ref o)]) hx hb dL_setReader_12 rfl hl (by decide) rfl (fun ls hl => ?_)
  refine lv_iconst (v := 1) hx hb dL_setReader_13 (by decide) ?_
  exact W.iret hx hb hr (fun t9 ht hW => ⟨rfl, by rw [ht]; exact hP, hS.F ht⟩) hS.2.2 dL_setReader_14

set_option maxHeartbeats 4000000 in
set_option maxRecDepth 100000 in
theorem wbdL_setRoom_0 (l : Launch) {D : va_G} {k : Nat → ClassId} {a tr : Nat → Nat} {x o : Nat} {R : va_W} (S T : HS) (og : Nat → Int64) (ch : Int32) (z : Int32) (hfl : l.stackTraces = false) (hbad : ¬ xCh ch) : LM l yL_setRoom cL_setRoom 5 [(0, 10, 13, 19), (0, 10, 17, 25)] rmL_setRoom D k (xwW k a tr x o S T og R) [.ref x, .int ch, .int z, .ref o] 1 (xwW k a tr x o S T og R) := by
  refine LM_of rfl (Nat.le_of_ble_eq_true rfl) ?_
  intro p e s m below meth c hC hr hlk htab hE hP hD hX hZ hS ls hl
  have hC : CallFix p m c cL_setRoom 5 s _ lw_all RL := hC
  have hx := hC.1
  have hb := hC.2.1
  have hown : s.vm.findClass RL = some m.cls := hC.2.2.2.1
  have hts := hC.2.2.2.2
  have hl : lv_has ls 5 [(0, .ref x), (1, .int ch), (2, .int z), (3, .ref o)] := hl
  refine lv_aload_n hx hb dL_setRoom_0 rfl (lv_at hl 3 rfl) ?_
  refine lv_iconst (v := 0) hx hb dL_setRoom_1 (by decide) ?_
  refine lv_aload_n hx hb dL_setRoom_2 rfl (lv_at hl 0 rfl) ?_
  refine lv_iload_n hx hb dL_setRoom_3 rfl (lv_at hl 1 rfl) ?_
  refine lv_iload_n hx hb dL_setRoom_4 rfl (lv_at hl 2 rfl) ?_
  refine c_xV (rest := [.int 0, .ref o]) (E := "java/lang/IndexOutOfBoundsException") hC hE hP hX hZ (xmtX4_setRoom_0 l S ch z hfl hbad) gc_RL_27 hd_X4_setRoom ⟨Nat.le_of_ble_eq_true rfl, Nat.le_of_ble_eq_true rfl⟩ 29 lo_29 rfl rfl hl.1 (Nat.le_of_ble_eq_true rfl) ⟨Nat.le_of_ble_eq_true rfl, Nat.le_of_ble_eq_true rfl⟩ dL_setRoom_5 (fun ce q9 H1 h1 h2 h3 hP1 hz1 hk1 => ?_)
  refine vx_catch (own := RL) (E := "java/lang/IndexOutOfBoundsException") (name := "java/lang/IndexOutOfBoundsException") hown [] ⟨0, 10, 13, 19⟩ [⟨0, 10, 17, 25⟩] htab (fun z hz => absurd hz List.not_mem_nil) rfl (by decide) (hts _ tw_360) (va_Nw.use rfl (hX.2.1 (.castable "java/lang/IndexOutOfBoundsException" "java/lang/IndexOutOfBoundsException") (by decide +kernel))) h1 h2 h3 ?_
  have hS : va_S (va_in (xwW k a tr x o S T og R)) s.heap H1 [] := ⟨hz1, fun q hq _ => hk1 q hq, fun _ h => absurd h List.not_mem_nil⟩
  have hP := hP1
  refine lv_astore (lv' := [(4, .ref q9), (0, .ref x), (1, .int ch), (2, .int z), (3, .ref o)]) hx hb dL_setRoom_13 hl (by decide) rfl (fun ls hl => ?_)
  refine lv_iconst (v := 1) hx hb dL_setRoom_15 (by decide) ?_
  exact W.iret hx hb hr (fun t9 ht hW => ⟨rfl, by rw [ht]; exact hP, hS.F ht⟩) hS.2.2 dL_setRoom_16

set_option maxHeartbeats 4000000 in
set_option maxRecDepth 100000 in
theorem wbdL_setRoom_1 (l : Launch) {D : va_G} {k : Nat → ClassId} {a tr : Nat → Nat} {x o : Nat} {R : va_W} (S T : HS) (og : Nat → Int64) (ch : Int32) (z : Int32) (hfl : l.stackTraces = false) (hk0 : xCh ch) (hbad : ¬ ((¬ (z < 1)) ∧ (¬ (20 < z)))) : LM l yL_setRoom cL_setRoom 5 [(0, 10, 13, 19), (0, 10, 17, 25)] rmL_setRoom D k (xwW k a tr x o S T og R) [.ref x, .int ch, .int z, .ref o] 2 (xwW k a tr x o S T og R) := by
  refine LM_of rfl (Nat.le_of_ble_eq_true rfl) ?_
  intro p e s m below meth c hC hr hlk htab hE hP hD hX hZ hS ls hl
  have hC : CallFix p m c cL_setRoom 5 s _ lw_all RL := hC
  have hx := hC.1
  have hb := hC.2.1
  have hown : s.vm.findClass RL = some m.cls := hC.2.2.2.1
  have hts := hC.2.2.2.2
  have hl : lv_has ls 5 [(0, .ref x), (1, .int ch), (2, .int z), (3, .ref o)] := hl
  refine lv_aload_n hx hb dL_setRoom_0 rfl (lv_at hl 3 rfl) ?_
  refine lv_iconst (v := 0) hx hb dL_setRoom_1 (by decide) ?_
  refine lv_aload_n hx hb dL_setRoom_2 rfl (lv_at hl 0 rfl) ?_
  refine lv_iload_n hx hb dL_setRoom_3 rfl (lv_at hl 1 rfl) ?_
  refine lv_iload_n hx hb dL_setRoom_4 rfl (lv_at hl 2 rfl) ?_
  refine c_xV (rest := [.int 0, .ref o]) (E := "java/lang/IllegalArgumentException") hC hE hP hX hZ (xmtX4_setRoom_1 l S ch z hfl hk0 hbad) gc_RL_27 hd_X4_setRoom ⟨Nat.le_of_ble_eq_true rfl, Nat.le_of_ble_eq_true rfl⟩ 29 lo_29 rfl rfl hl.1 (Nat.le_of_ble_eq_true rfl) ⟨Nat.le_of_ble_eq_true rfl, Nat.le_of_ble_eq_true rfl⟩ dL_setRoom_5 (fun ce q9 H1 h1 h2 h3 hP1 hz1 hk1 => ?_)
  refine vx_catch (own := RL) (E := "java/lang/IllegalArgumentException") (name := "java/lang/IllegalArgumentException") hown [⟨0, 10, 13, 19⟩] ⟨0, 10, 17, 25⟩ [] htab (fun z hz => by
      simp only [List.mem_cons, List.not_mem_nil, or_false] at hz
      rcases hz with rfl
      · exact Or.inr ⟨by decide, "java/lang/IndexOutOfBoundsException", hts _ tw_360, hX.2.2.2.1⟩) rfl (by decide) (hts _ tw_408) (va_Nw.use rfl (hX.2.1 (.castable "java/lang/IllegalArgumentException" "java/lang/IllegalArgumentException") (by decide +kernel))) h1 h2 h3 ?_
  have hS : va_S (va_in (xwW k a tr x o S T og R)) s.heap H1 [] := ⟨hz1, fun q hq _ => hk1 q hq, fun _ h => absurd h List.not_mem_nil⟩
  have hP := hP1
  refine lv_astore (lv' := [(4, .ref q9), (0, .ref x), (1, .int ch), (2, .int z), (3, .ref o)]) hx hb dL_setRoom_17 hl (by decide) rfl (fun ls hl => ?_)
  refine lv_iconst (v := 2) hx hb dL_setRoom_19 (by decide) ?_
  exact W.iret hx hb hr (fun t9 ht hW => ⟨rfl, by rw [ht]; exact hP, hS.F ht⟩) hS.2.2 dL_setRoom_20

set_option maxHeartbeats 4000000 in
set_option maxRecDepth 100000 in
theorem wbdL_sweep_0 (l : Launch) {D : va_G} {k : Nat → ClassId} {a tr : Nat → Nat} {x o : Nat} {R : va_W} (S T : HS) (og : Nat → Int64) (ch : Int32) (hfl : l.stackTraces = false) (hbad : ¬ xCh ch) : LM l yL_sweep cL_sweep 4 [(0, 9, 12, 19)] rmL_sweep D k (xwW k a tr x o S T og R) [.ref x, .int ch, .ref o] 1 (xwW k a tr x o S T og R) := by
  refine LM_of rfl (Nat.le_of_ble_eq_true rfl) ?_
  intro p e s m below meth c hC hr hlk htab hE hP hD hX hZ hS ls hl
  have hC : CallFix p m c cL_sweep 4 s _ lw_all RL := hC
  have hx := hC.1
  have hb := hC.2.1
  have hown : s.vm.findClass RL = some m.cls := hC.2.2.2.1
  have hts := hC.2.2.2.2
  have hl : lv_has ls 4 [(0, .ref x), (1, .int ch), (2, .ref o)] := hl
  refine lv_aload_n hx hb dL_sweep_0 rfl (lv_at hl 2 rfl) ?_
  refine lv_iconst (v := 0) hx hb dL_sweep_1 (by decide) ?_
  refine lv_aload_n hx hb dL_sweep_2 rfl (lv_at hl 0 rfl) ?_
  refine lv_iload_n hx hb dL_sweep_3 rfl (lv_at hl 1 rfl) ?_
  refine c_xV (rest := [.int 0, .ref o]) (E := "java/lang/IndexOutOfBoundsException") hC hE hP hX hZ (xmtX4_sweep_0 l S ch hfl hbad) gc_RL_40 hd_X4_sweep ⟨Nat.le_of_ble_eq_true rfl, Nat.le_of_ble_eq_true rfl⟩ 29 lo_29 rfl rfl hl.1 (Nat.le_of_ble_eq_true rfl) ⟨Nat.le_of_ble_eq_true rfl, Nat.le_of_ble_eq_true rfl⟩ dL_sweep_4 (fun ce q9 H1 h1 h2 h3 hP1 hz1 hk1 => ?_)
  refine vx_catch (own := RL) (E := "java/lang/IndexOutOfBoundsException") (name := "java/lang/IndexOutOfBoundsException") hown [] ⟨0, 9, 12, 19⟩ [] htab (fun z hz => absurd hz List.not_mem_nil) rfl (by decide) (hts _ tw_360) (va_Nw.use rfl (hX.2.1 (.castable "java/lang/IndexOutOfBoundsException" "java/lang/IndexOutOfBoundsException") (by decide +kernel))) h1 h2 h3 ?_
  have hS : va_S (va_in (xwW k a tr x o S T og R)) s.heap H1 [] := ⟨hz1, fun q hq _ => hk1 q hq, fun _ h => absurd h List.not_mem_nil⟩
  have hP := hP1
  refine lv_astore_n (lv' := [(3, .ref q9), (0, .ref x), (1, .int ch), (2, .ref o)]) hx hb dL_sweep_12 rfl hl (by decide) rfl (fun ls hl => ?_)
  refine lv_iconst (v := 1) hx hb dL_sweep_13 (by decide) ?_
  exact W.iret hx hb hr (fun t9 ht hW => ⟨rfl, by rw [ht]; exact hP, hS.F ht⟩) hS.2.2 dL_sweep_14

set_option maxHeartbeats 4000000 in
set_option maxRecDepth 100000 in
theorem wbdL_whereIs_0 (l : Launch) {D : va_G} {k : Nat → ClassId} {a tr : Nat → Nat} {x o : Nat} {R : va_W} (S T : HS) (og : Nat → Int64) (b : Int32) (hfl : l.stackTraces = false) (hbad : ¬ xBag S b) : LM l yL_whereIs cL_whereIs 4 [(0, 9, 12, 19)] rmL_whereIs D k (xwW k a tr x o S T og R) [.ref x, .int b, .ref o] 1 (xwW k a tr x o S T og R) := by
  refine LM_of rfl (Nat.le_of_ble_eq_true rfl) ?_
  intro p e s m below meth c hC hr hlk htab hE hP hD hX hZ hS ls hl
  have hC : CallFix p m c cL_whereIs 4 s _ lw_all RL := hC
  have hx := hC.1
  have hb := hC.2.1
  have hown : s.vm.findClass RL = some m.cls := hC.2.2.2.1
  have hts := hC.2.2.2.2
  have hl : lv_has ls 4 [(0, .ref x), (1, .int b), (2, .ref o)] := hl
  refine lv_aload_n hx hb dL_whereIs_0 rfl (lv_at hl 2 rfl) ?_
  refine lv_iconst (v := 0) hx hb dL_whereIs_1 (by decide) ?_
  refine lv_aload_n hx hb dL_whereIs_2 rfl (lv_at hl 0 rfl) ?_
  refine lv_iload_n hx hb dL_whereIs_3 rfl (lv_at hl 1 rfl) ?_
  refine c_xV (rest := [.int 0, .ref o]) (E := "java/lang/IndexOutOfBoundsException") hC hE hP hX hZ (xmtX4_whereIs_0 l S b hfl hbad) gc_RL_52 hd_X4_whereIs ⟨Nat.le_of_ble_eq_true rfl, Nat.le_of_ble_eq_true rfl⟩ 29 lo_29 rfl rfl hl.1 (Nat.le_of_ble_eq_true rfl) ⟨Nat.le_of_ble_eq_true rfl, Nat.le_of_ble_eq_true rfl⟩ dL_whereIs_4 (fun ce q9 H1 h1 h2 h3 hP1 hz1 hk1 => ?_)
  refine vx_catch (own := RL) (E := "java/lang/IndexOutOfBoundsException") (name := "java/lang/IndexOutOfBoundsException") hown [] ⟨0, 9, 12, 19⟩ [] htab (fun z hz => absurd hz List.not_mem_nil) rfl (by decide) (hts _ tw_360) (va_Nw.use rfl (hX.2.1 (.castable "java/lang/IndexOutOfBoundsException" "java/lang/IndexOutOfBoundsException") (by decide +kernel))) h1 h2 h3 ?_
  have hS : va_S (va_in (xwW k a tr x o S T og R)) s.heap H1 [] := ⟨hz1, fun q hq _ => hk1 q hq, fun _ h => absurd h List.not_mem_nil⟩
  have hP := hP1
  refine lv_astore_n (lv' := [(3, .ref q9), (0, .ref x), (1, .int b), (2, .ref o)]) hx hb dL_whereIs_12 rfl hl (by decide) rfl (fun ls hl => ?_)
  refine lv_iconst (v := 1) hx hb dL_whereIs_13 (by decide) ?_
  exact W.iret hx hb hr (fun t9 ht hW => ⟨rfl, by rw [ht]; exact hP, hS.F ht⟩) hS.2.2 dL_whereIs_14

