theorem mo_83 {k : Nat → ClassId} {a tr g t u : Nat → Nat} {x o : Nat} {S T0 G T U : HS} {og : Nat → Int64} {R : va_W} : (mW k g t u G T U (xwW k a tr x o S T0 og R))[83]? = some (o, .inl (k 2, 1, .inr (.inl og))) := rfl
set_option maxHeartbeats 4000000 in
set_option maxRecDepth 100000 in
theorem case_0 {p : Program} {e : Env} {s : State} {m : MethodId} {below : List Frame} {meth : Method} {c : Code} {l : Launch} {b L : Nat} {xs : Nat → Int32} {D : va_G} {k : Nat → ClassId} {a tr g t u : Nat → Nat} {x o : Nat} {Q : State → Prop} (hfl : l.stackTraces = false) (hCd : ∀ d : Drawn, CallFix p m c cL_law 9 (s.setDrawn d) #[Value.ref b] lw_all RL) (hE0 : eK D k s) (hX0 : xK s) (hAZ : aZ s) (hX9 : va_X b L xs s s.heap) (hbl : b < s.heap.size) (hL : L ≤ 2048) {i : Nat} (hi : i + 4 ≤ L) {cells slots : Nat} (hcs : cells + 1 ≤ room_1.cells ∧ slots + 6 ≤ room_1.slots) (K : ∀ (d0 : Drawn), s.drawn.sameBut d0 lw_cs → ∀ (ls : Array Slot) (H : Heap) (locs : List Loc) (S G T T0 U : HS) (og : Nat → Int64) (n nf : Nat), RA S G n nf → RB S T n → lv_has ls 9 [(0, .ref b), (1, .ref x), (2, .ref (g 0)), (3, .ref o), (4, .int (nI i))] → va_P D vwCl (xwW k a tr x o S T0 og (mW k g t u G T U [])) H → va_D (fun q : Nat => s.heap.size ≤ q) (xwW k a tr x o S T0 og (mW k g t u G T U [])) → va_S (fun q : Nat => s.heap.size ≤ q) s.heap H locs → W p l e room_1 (s.setDrawn d0) m #[Value.ref b] below meth c H locs (cells + 1) (slots + 6) Q (F0 m 2101 ls [])) {d0 : Drawn} (hd0 : s.drawn.sameBut d0 lw_cs) {ls : Array Slot} {H : Heap} {locs : List Loc} {S G T T0 U : HS} {og : Nat → Int64} {n nf : Nat} (hA9 : RA S G n nf) (hB9 : RB S T n) (hl : lv_has ls 9 [(0, .ref b), (1, .ref x), (2, .ref (g 0)), (3, .ref o), (4, .int (nI i))]) (hP : va_P D vwCl (xwW k a tr x o S T0 og (mW k g t u G T U [])) H) (hD : va_D (fun q : Nat => s.heap.size ≤ q) (xwW k a tr x o S T0 og (mW k g t u G T U []))) (hS : va_S (fun q : Nat => s.heap.size ≤ q) s.heap H locs) : W p l e room_1 (s.setDrawn d0) m #[Value.ref b] below meth c H locs cells slots Q (F0 m 212 ls []) := by
  have hC := hCd d0
  have hx := hC.1
  have hb := hC.2.1
  have hE := eK_drawn hE0 d0
  have hX := xK_drawn hX0 d0
  have hXs : va_X b L xs (s.setDrawn d0) s.heap := va_X.moved (u := s) (U := s.setDrawn d0) (Vm.Alike.refl s.vm) hX9
  refine lv_aload_n hx hb dL_law_212 rfl (lv_at hl 1 rfl) ?_
  refine lv_aload_n hx hb dL_law_213 rfl (lv_at hl 3 rfl) ?_
  obtain ⟨kc, bb, S1, G1, T1, T2, U1, og1, n1, nf1, hLM, hMM, e1, e2, ha1, hb1⟩ := op_addFlight l hfl (D := D) (k := k) (a := a) (tr := tr) (g := g) (t := t) (u := u) (x := x) (o := o) hA9 hB9 T0 U og 
  refine c_lS (rest := []) hC hE hX (xZ_drawn hAZ hS _) hP hD hS lo_same (hLM (mW k g t u G T U [])) gw_RL_111 hd_L_addFlight ⟨Nat.le_of_ble_eq_true rfl, Nat.le_of_ble_eq_true rfl⟩ rfl hl.1 (Nat.le_of_ble_eq_true rfl) hcs dL_law_214 (fun H locs hP hD hS => ?_)
  have hP := to_mP hP
  have hD := to_mD hD
  refine lv_istore (lv' := [(5, .int kc), (0, .ref b), (1, .ref x), (2, .ref (g 0)), (3, .ref o), (4, .int (nI i))]) hx hb dL_law_217 hl (by decide) rfl (fun ls hl => ?_)
  refine lv_aload_n hx hb dL_law_219 rfl (lv_at hl 3 rfl) ?_
  refine c_mVi (rest := []) hC hE hP hD hS mw_same (hMM (xwW k a tr x o S1 T2 og1 [])) gc_RL_116 hd_X6_addFlight ⟨rfl, rfl⟩ ⟨Nat.le_of_ble_eq_true rfl, Nat.le_of_ble_eq_true rfl⟩ 0 gw_0 rfl rfl hl.1 (Nat.le_of_ble_eq_true rfl) hcs dL_law_220 (fun H locs hP hD hS => ?_)
  refine lv_istore (lv' := [(6, .int bb), (5, .int kc), (0, .ref b), (1, .ref x), (2, .ref (g 0)), (3, .ref o), (4, .int (nI i))]) hx hb dL_law_223 hl (by decide) rfl (fun ls hl => ?_)
  refine lv_aload_n hx hb dL_law_225 rfl (lv_at hl 4 rfl) ?_
  refine c_pVi (rest := []) hC hE hP (metX6_thrown l G1 T1) gc_RL_117 hd_X6_thrown ⟨rfl, rfl⟩ ⟨Nat.le_of_ble_eq_true rfl, Nat.le_of_ble_eq_true rfl⟩ 0 gw_0 rfl rfl hl.1 (Nat.le_of_ble_eq_true rfl) hcs dL_law_226 ?_
  refine w_top e1 ?_
  refine lv_iload hx hb dL_law_229 (lv_at hl 1 rfl) ?_
  refine lv_icmp_eq (tgt := 236) hx hb dL_law_231 (by decide) (fun _ => ?_) (fun c_ => absurd rfl c_)
  refine lv_iload hx hb dL_law_236 (lv_at hl 1 rfl) ?_
  refine lv_if_ne (tgt := 253) hx hb dL_law_238 (by decide) (fun c_k => ?_) (fun c_k => ?_)
  · have hl : lv_has ls 9 [(6, .int bb), (5, .int kc), (0, .ref b), (1, .ref x), (2, .ref (g 0)), (3, .ref o), (4, .int (nI i))] := hl
    refine lv_goto (tgt := 2101) hx hb dL_law_253 (by decide) ?_
    exact K d0 hd0 ls H locs S1 G1 T1 T2 U1 og1 n1 nf1 ha1 hb1 (lv_sub hl [2, 3, 4, 5, 6] rfl) (to_xP hP) (to_xD hD) hS
  · have hl : lv_has ls 9 [(6, .int bb), (5, .int kc), (0, .ref b), (1, .ref x), (2, .ref (g 0)), (3, .ref o), (4, .int (nI i))] := hl
    refine lv_aload_n hx hb dL_law_241 rfl (lv_at hl 5 rfl) ?_
    refine lv_iconst (v := 0) hx hb dL_law_242 (by decide) ?_
    refine va_lald hx hb hE.1 hP 83 2 mo_83 rfl (vp_in_nI (n := 0) (N := 1) (by decide) (by decide)) dL_law_243 ?_
    refine lv_iload hx hb dL_law_244 (lv_at hl 0 rfl) ?_
    refine lv_i2l hx hb dL_law_246 rfl ?_
    refine W.lcmp hx hb dL_law_247 ?_
    refine w_top (lg_self (e2 c_k)) ?_
    refine lv_if_eq (tgt := 253) hx hb dL_law_248 (by decide) (fun _ => ?_) (fun c_ => absurd rfl c_)
    refine lv_goto (tgt := 2101) hx hb dL_law_253 (by decide) ?_
    exact K d0 hd0 ls H locs S1 G1 T1 T2 U1 og1 n1 nf1 ha1 hb1 (lv_sub hl [2, 3, 4, 5, 6] rfl) (to_xP hP) (to_xD hD) hS
set_option maxHeartbeats 4000000 in
set_option maxRecDepth 100000 in
theorem case_1 {p : Program} {e : Env} {s : State} {m : MethodId} {below : List Frame} {meth : Method} {c : Code} {l : Launch} {b L : Nat} {xs : Nat → Int32} {D : va_G} {k : Nat → ClassId} {a tr g t u : Nat → Nat} {x o : Nat} {Q : State → Prop} (hfl : l.stackTraces = false) (hCd : ∀ d : Drawn, CallFix p m c cL_law 9 (s.setDrawn d) #[Value.ref b] lw_all RL) (hE0 : eK D k s) (hX0 : xK s) (hAZ : aZ s) (hX9 : va_X b L xs s s.heap) (hbl : b < s.heap.size) (hL : L ≤ 2048) {i : Nat} (hi : i + 4 ≤ L) {cells slots : Nat} (hcs : cells + 1 ≤ room_1.cells ∧ slots + 6 ≤ room_1.slots) (K : ∀ (d0 : Drawn), s.drawn.sameBut d0 lw_cs → ∀ (ls : Array Slot) (H : Heap) (locs : List Loc) (S G T T0 U : HS) (og : Nat → Int64) (n nf : Nat), RA S G n nf → RB S T n → lv_has ls 9 [(0, .ref b), (1, .ref x), (2, .ref (g 0)), (3, .ref o), (4, .int (nI i))] → va_P D vwCl (xwW k a tr x o S T0 og (mW k g t u G T U [])) H → va_D (fun q : Nat => s.heap.size ≤ q) (xwW k a tr x o S T0 og (mW k g t u G T U [])) → va_S (fun q : Nat => s.heap.size ≤ q) s.heap H locs → W p l e room_1 (s.setDrawn d0) m #[Value.ref b] below meth c H locs (cells + 1) (slots + 6) Q (F0 m 2101 ls [])) {d0 : Drawn} (hd0 : s.drawn.sameBut d0 lw_cs) {ls : Array Slot} {H : Heap} {locs : List Loc} {S G T T0 U : HS} {og : Nat → Int64} {n nf : Nat} (hA9 : RA S G n nf) (hB9 : RB S T n) (hl : lv_has ls 9 [(0, .ref b), (1, .ref x), (2, .ref (g 0)), (3, .ref o), (4, .int (nI i))]) (hP : va_P D vwCl (xwW k a tr x o S T0 og (mW k g t u G T U [])) H) (hD : va_D (fun q : Nat => s.heap.size ≤ q) (xwW k a tr x o S T0 og (mW k g t u G T U []))) (hS : va_S (fun q : Nat => s.heap.size ≤ q) s.heap H locs) : W p l e room_1 (s.setDrawn d0) m #[Value.ref b] below meth c H locs cells slots Q (F0 m 256 ls []) := by
  have hC := hCd d0
  have hx := hC.1
  have hb := hC.2.1
  have hE := eK_drawn hE0 d0
  have hX := xK_drawn hX0 d0
  have hXs : va_X b L xs (s.setDrawn d0) s.heap := va_X.moved (u := s) (U := s.setDrawn d0) (Vm.Alike.refl s.vm) hX9
  refine lv_aload_n hx hb dL_law_256 rfl (lv_at hl 1 rfl) ?_
  refine lv_aload_n hx hb dL_law_257 rfl (lv_at hl 0 rfl) ?_
  refine lv_iload hx hb dL_law_258 (lv_at hl 4 rfl) ?_
  refine lv_iconst (v := 1) hx hb dL_law_260 (by decide) ?_
  refine lv_iadd hx hb dL_law_261 ?_
  refine w_top (show nI i + 1 = nI (i + 1) from nI_add i 1) ?_
  refine va_sld (A := (fun q : Nat => s.heap.size ≤ q)) hx hb hXs hbl (Nat.not_le.mpr hbl) hS (i := nI (i + 1)) (vp_in_nI (by omega) (by omega)) dL_law_262 ?_
  refine w_top (congrArg xs (nI_clamp (n := i + 1) (by omega))) ?_
  refine lv_aload_n hx hb dL_law_263 rfl (lv_at hl 0 rfl) ?_
  refine lv_iload hx hb dL_law_264 (lv_at hl 4 rfl) ?_
  refine lv_iconst (v := 2) hx hb dL_law_266 (by decide) ?_
  refine lv_iadd hx hb dL_law_267 ?_
  refine w_top (show nI i + 2 = nI (i + 2) from nI_add i 2) ?_
  refine va_sld (A := (fun q : Nat => s.heap.size ≤ q)) hx hb hXs hbl (Nat.not_le.mpr hbl) hS (i := nI (i + 2)) (vp_in_nI (by omega) (by omega)) dL_law_268 ?_
  refine w_top (congrArg xs (nI_clamp (n := i + 2) (by omega))) ?_
  refine lv_aload_n hx hb dL_law_269 rfl (lv_at hl 3 rfl) ?_
  obtain ⟨kc, bb, S1, G1, T1, T2, U1, og1, n1, nf1, hLM, hMM, e1, e2, ha1, hb1⟩ := op_giveChute l hfl (D := D) (k := k) (a := a) (tr := tr) (g := g) (t := t) (u := u) (x := x) (o := o) hA9 hB9 T0 U og (xs (i + 1)) (xs (i + 2))
  refine c_lS (rest := []) hC hE hX (xZ_drawn hAZ hS _) hP hD hS lo_same (hLM (mW k g t u G T U [])) gw_RL_120 hd_L_giveChute ⟨Nat.le_of_ble_eq_true rfl, Nat.le_of_ble_eq_true rfl⟩ rfl hl.1 (Nat.le_of_ble_eq_true rfl) hcs dL_law_270 (fun H locs hP hD hS => ?_)
  have hP := to_mP hP
  have hD := to_mD hD
  refine lv_istore (lv' := [(5, .int kc), (0, .ref b), (1, .ref x), (2, .ref (g 0)), (3, .ref o), (4, .int (nI i))]) hx hb dL_law_273 hl (by decide) rfl (fun ls hl => ?_)
  refine lv_aload_n hx hb dL_law_275 rfl (lv_at hl 3 rfl) ?_
  refine lv_aload_n hx hb dL_law_276 rfl (lv_at hl 1 rfl) ?_
  refine lv_iload hx hb dL_law_277 (lv_at hl 5 rfl) ?_
  refine lv_iconst (v := 1) hx hb dL_law_279 (by decide) ?_
  refine lv_iadd hx hb dL_law_280 ?_
  refine w_top (show nI i + 1 = nI (i + 1) from nI_add i 1) ?_
  refine va_sld (A := (fun q : Nat => s.heap.size ≤ q)) hx hb hXs hbl (Nat.not_le.mpr hbl) hS (i := nI (i + 1)) (vp_in_nI (by omega) (by omega)) dL_law_281 ?_
  refine w_top (congrArg xs (nI_clamp (n := i + 1) (by omega))) ?_
  refine lv_aload_n hx hb dL_law_282 rfl (lv_at hl 1 rfl) ?_
  refine lv_iload hx hb dL_law_283 (lv_at hl 5 rfl) ?_
  refine lv_iconst (v := 2) hx hb dL_law_285 (by decide) ?_
  refine lv_iadd hx hb dL_law_286 ?_
  refine w_top (show nI i + 2 = nI (i + 2) from nI_add i 2) ?_
  refine va_sld (A := (fun q : Nat => s.heap.size ≤ q)) hx hb hXs hbl (Nat.not_le.mpr hbl) hS (i := nI (i + 2)) (vp_in_nI (by omega) (by omega)) dL_law_287 ?_
  refine w_top (congrArg xs (nI_clamp (n := i + 2) (by omega))) ?_
  refine c_mVi (rest := []) hC hE hP hD hS mw_same (hMM (xwW k a tr x o S1 T2 og1 [])) gc_RL_123 hd_X6_giveChute ⟨rfl, rfl⟩ ⟨Nat.le_of_ble_eq_true rfl, Nat.le_of_ble_eq_true rfl⟩ 0 gw_0 rfl rfl hl.1 (Nat.le_of_ble_eq_true rfl) hcs dL_law_288 (fun H locs hP hD hS => ?_)
  refine lv_istore (lv' := [(6, .int bb), (5, .int kc), (0, .ref b), (1, .ref x), (2, .ref (g 0)), (3, .ref o), (4, .int (nI i))]) hx hb dL_law_291 hl (by decide) rfl (fun ls hl => ?_)
  refine lv_aload_n hx hb dL_law_293 rfl (lv_at hl 4 rfl) ?_
  refine c_pVi (rest := []) hC hE hP (metX6_thrown l G1 T1) gc_RL_117 hd_X6_thrown ⟨rfl, rfl⟩ ⟨Nat.le_of_ble_eq_true rfl, Nat.le_of_ble_eq_true rfl⟩ 0 gw_0 rfl rfl hl.1 (Nat.le_of_ble_eq_true rfl) hcs dL_law_294 ?_
  refine w_top e1 ?_
  refine lv_iload hx hb dL_law_297 (lv_at hl 1 rfl) ?_
  refine lv_icmp_eq (tgt := 304) hx hb dL_law_299 (by decide) (fun _ => ?_) (fun c_ => absurd rfl c_)
  refine lv_iload hx hb dL_law_304 (lv_at hl 1 rfl) ?_
  refine lv_if_ne (tgt := 321) hx hb dL_law_306 (by decide) (fun c_k => ?_) (fun c_k => ?_)
  · have hl : lv_has ls 9 [(6, .int bb), (5, .int kc), (0, .ref b), (1, .ref x), (2, .ref (g 0)), (3, .ref o), (4, .int (nI i))] := hl
    refine lv_goto (tgt := 2101) hx hb dL_law_321 (by decide) ?_
    exact K d0 hd0 ls H locs S1 G1 T1 T2 U1 og1 n1 nf1 ha1 hb1 (lv_sub hl [2, 3, 4, 5, 6] rfl) (to_xP hP) (to_xD hD) hS
  · have hl : lv_has ls 9 [(6, .int bb), (5, .int kc), (0, .ref b), (1, .ref x), (2, .ref (g 0)), (3, .ref o), (4, .int (nI i))] := hl
    refine lv_aload_n hx hb dL_law_309 rfl (lv_at hl 5 rfl) ?_
    refine lv_iconst (v := 0) hx hb dL_law_310 (by decide) ?_
    refine va_lald hx hb hE.1 hP 83 2 mo_83 rfl (vp_in_nI (n := 0) (N := 1) (by decide) (by decide)) dL_law_311 ?_
    refine lv_iload hx hb dL_law_312 (lv_at hl 0 rfl) ?_
    refine lv_i2l hx hb dL_law_314 rfl ?_
    refine W.lcmp hx hb dL_law_315 ?_
    refine w_top (lg_self (e2 c_k)) ?_
    refine lv_if_eq (tgt := 321) hx hb dL_law_316 (by decide) (fun _ => ?_) (fun c_ => absurd rfl c_)
    refine lv_goto (tgt := 2101) hx hb dL_law_321 (by decide) ?_
    exact K d0 hd0 ls H locs S1 G1 T1 T2 U1 og1 n1 nf1 ha1 hb1 (lv_sub hl [2, 3, 4, 5, 6] rfl) (to_xP hP) (to_xD hD) hS
set_option maxHeartbeats 4000000 in
set_option maxRecDepth 100000 in
theorem case_2 {p : Program} {e : Env} {s : State} {m : MethodId} {below : List Frame} {meth : Method} {c : Code} {l : Launch} {b L : Nat} {xs : Nat → Int32} {D : va_G} {k : Nat → ClassId} {a tr g t u : Nat → Nat} {x o : Nat} {Q : State → Prop} (hfl : l.stackTraces = false) (hCd : ∀ d : Drawn, CallFix p m c cL_law 9 (s.setDrawn d) #[Value.ref b] lw_all RL) (hE0 : eK D k s) (hX0 : xK s) (hAZ : aZ s) (hX9 : va_X b L xs s s.heap) (hbl : b < s.heap.size) (hL : L ≤ 2048) {i : Nat} (hi : i + 4 ≤ L) {cells slots : Nat} (hcs : cells + 1 ≤ room_1.cells ∧ slots + 6 ≤ room_1.slots) (K : ∀ (d0 : Drawn), s.drawn.sameBut d0 lw_cs → ∀ (ls : Array Slot) (H : Heap) (locs : List Loc) (S G T T0 U : HS) (og : Nat → Int64) (n nf : Nat), RA S G n nf → RB S T n → lv_has ls 9 [(0, .ref b), (1, .ref x), (2, .ref (g 0)), (3, .ref o), (4, .int (nI i))] → va_P D vwCl (xwW k a tr x o S T0 og (mW k g t u G T U [])) H → va_D (fun q : Nat => s.heap.size ≤ q) (xwW k a tr x o S T0 og (mW k g t u G T U [])) → va_S (fun q : Nat => s.heap.size ≤ q) s.heap H locs → W p l e room_1 (s.setDrawn d0) m #[Value.ref b] below meth c H locs (cells + 1) (slots + 6) Q (F0 m 2101 ls [])) {d0 : Drawn} (hd0 : s.drawn.sameBut d0 lw_cs) {ls : Array Slot} {H : Heap} {locs : List Loc} {S G T T0 U : HS} {og : Nat → Int64} {n nf : Nat} (hA9 : RA S G n nf) (hB9 : RB S T n) (hl : lv_has ls 9 [(0, .ref b), (1, .ref x), (2, .ref (g 0)), (3, .ref o), (4, .int (nI i))]) (hP : va_P D vwCl (xwW k a tr x o S T0 og (mW k g t u G T U [])) H) (hD : va_D (fun q : Nat => s.heap.size ≤ q) (xwW k a tr x o S T0 og (mW k g t u G T U []))) (hS : va_S (fun q : Nat => s.heap.size ≤ q) s.heap H locs) : W p l e room_1 (s.setDrawn d0) m #[Value.ref b] below meth c H locs cells slots Q (F0 m 324 ls []) := by
  have hC := hCd d0
  have hx := hC.1
  have hb := hC.2.1
  have hE := eK_drawn hE0 d0
  have hX := xK_drawn hX0 d0
  have hXs : va_X b L xs (s.setDrawn d0) s.heap := va_X.moved (u := s) (U := s.setDrawn d0) (Vm.Alike.refl s.vm) hX9
  refine lv_aload_n hx hb dL_law_324 rfl (lv_at hl 1 rfl) ?_
  refine lv_aload_n hx hb dL_law_325 rfl (lv_at hl 0 rfl) ?_
  refine lv_iload hx hb dL_law_326 (lv_at hl 4 rfl) ?_
  refine lv_iconst (v := 1) hx hb dL_law_328 (by decide) ?_
  refine lv_iadd hx hb dL_law_329 ?_
  refine w_top (show nI i + 1 = nI (i + 1) from nI_add i 1) ?_
  refine va_sld (A := (fun q : Nat => s.heap.size ≤ q)) hx hb hXs hbl (Nat.not_le.mpr hbl) hS (i := nI (i + 1)) (vp_in_nI (by omega) (by omega)) dL_law_330 ?_
  refine w_top (congrArg xs (nI_clamp (n := i + 1) (by omega))) ?_
  refine lv_aload_n hx hb dL_law_331 rfl (lv_at hl 3 rfl) ?_
  obtain ⟨kc, bb, S1, G1, T1, T2, U1, og1, n1, nf1, hLM, hMM, e1, e2, ha1, hb1⟩ := op_setReader l hfl (D := D) (k := k) (a := a) (tr := tr) (g := g) (t := t) (u := u) (x := x) (o := o) hA9 hB9 T0 U og (xs (i + 1))
  refine c_lS (rest := []) hC hE hX (xZ_drawn hAZ hS _) hP hD hS lo_same (hLM (mW k g t u G T U [])) gw_RL_124 hd_L_setReader ⟨Nat.le_of_ble_eq_true rfl, Nat.le_of_ble_eq_true rfl⟩ rfl hl.1 (Nat.le_of_ble_eq_true rfl) hcs dL_law_332 (fun H locs hP hD hS => ?_)
  have hP := to_mP hP
  have hD := to_mD hD
  refine lv_istore (lv' := [(5, .int kc), (0, .ref b), (1, .ref x), (2, .ref (g 0)), (3, .ref o), (4, .int (nI i))]) hx hb dL_law_335 hl (by decide) rfl (fun ls hl => ?_)
  refine lv_aload_n hx hb dL_law_337 rfl (lv_at hl 3 rfl) ?_
  refine lv_aload_n hx hb dL_law_338 rfl (lv_at hl 1 rfl) ?_
  refine lv_iload hx hb dL_law_339 (lv_at hl 5 rfl) ?_
  refine lv_iconst (v := 1) hx hb dL_law_341 (by decide) ?_
  refine lv_iadd hx hb dL_law_342 ?_
  refine w_top (show nI i + 1 = nI (i + 1) from nI_add i 1) ?_
  refine va_sld (A := (fun q : Nat => s.heap.size ≤ q)) hx hb hXs hbl (Nat.not_le.mpr hbl) hS (i := nI (i + 1)) (vp_in_nI (by omega) (by omega)) dL_law_343 ?_
  refine w_top (congrArg xs (nI_clamp (n := i + 1) (by omega))) ?_
  refine c_mVi (rest := []) hC hE hP hD hS mw_same (hMM (xwW k a tr x o S1 T2 og1 [])) gc_RL_127 hd_X6_setReader ⟨rfl, rfl⟩ ⟨Nat.le_of_ble_eq_true rfl, Nat.le_of_ble_eq_true rfl⟩ 0 gw_0 rfl rfl hl.1 (Nat.le_of_ble_eq_true rfl) hcs dL_law_344 (fun H locs hP hD hS => ?_)
  refine lv_istore (lv' := [(6, .int bb), (5, .int kc), (0, .ref b), (1, .ref x), (2, .ref (g 0)), (3, .ref o), (4, .int (nI i))]) hx hb dL_law_347 hl (by decide) rfl (fun ls hl => ?_)
  refine lv_aload_n hx hb dL_law_349 rfl (lv_at hl 4 rfl) ?_
  refine c_pVi (rest := []) hC hE hP (metX6_thrown l G1 T1) gc_RL_117 hd_X6_thrown ⟨rfl, rfl⟩ ⟨Nat.le_of_ble_eq_true rfl, Nat.le_of_ble_eq_true rfl⟩ 0 gw_0 rfl rfl hl.1 (Nat.le_of_ble_eq_true rfl) hcs dL_law_350 ?_
  refine w_top e1 ?_
  refine lv_iload hx hb dL_law_353 (lv_at hl 1 rfl) ?_
  refine lv_icmp_eq (tgt := 360) hx hb dL_law_355 (by decide) (fun _ => ?_) (fun c_ => absurd rfl c_)
  refine lv_iload hx hb dL_law_360 (lv_at hl 1 rfl) ?_
  refine lv_if_ne (tgt := 377) hx hb dL_law_362 (by decide) (fun c_k => ?_) (fun c_k => ?_)
  · have hl : lv_has ls 9 [(6, .int bb), (5, .int kc), (0, .ref b), (1, .ref x), (2, .ref (g 0)), (3, .ref o), (4, .int (nI i))] := hl
    refine lv_goto (tgt := 2101) hx hb dL_law_377 (by decide) ?_
    exact K d0 hd0 ls H locs S1 G1 T1 T2 U1 og1 n1 nf1 ha1 hb1 (lv_sub hl [2, 3, 4, 5, 6] rfl) (to_xP hP) (to_xD hD) hS
  · have hl : lv_has ls 9 [(6, .int bb), (5, .int kc), (0, .ref b), (1, .ref x), (2, .ref (g 0)), (3, .ref o), (4, .int (nI i))] := hl
    refine lv_aload_n hx hb dL_law_365 rfl (lv_at hl 5 rfl) ?_
    refine lv_iconst (v := 0) hx hb dL_law_366 (by decide) ?_
    refine va_lald hx hb hE.1 hP 83 2 mo_83 rfl (vp_in_nI (n := 0) (N := 1) (by decide) (by decide)) dL_law_367 ?_
    refine lv_iload hx hb dL_law_368 (lv_at hl 0 rfl) ?_
    refine lv_i2l hx hb dL_law_370 rfl ?_
    refine W.lcmp hx hb dL_law_371 ?_
    refine w_top (lg_self (e2 c_k)) ?_
    refine lv_if_eq (tgt := 377) hx hb dL_law_372 (by decide) (fun _ => ?_) (fun c_ => absurd rfl c_)
    refine lv_goto (tgt := 2101) hx hb dL_law_377 (by decide) ?_
    exact K d0 hd0 ls H locs S1 G1 T1 T2 U1 og1 n1 nf1 ha1 hb1 (lv_sub hl [2, 3, 4, 5, 6] rfl) (to_xP hP) (to_xD hD) hS
set_option maxHeartbeats 4000000 in
set_option maxRecDepth 100000 in
theorem case_3 {p : Program} {e : Env} {s : State} {m : MethodId} {below : List Frame} {meth : Method} {c : Code} {l : Launch} {b L : Nat} {xs : Nat → Int32} {D : va_G} {k : Nat → ClassId} {a tr g t u : Nat → Nat} {x o : Nat} {Q : State → Prop} (hfl : l.stackTraces = false) (hCd : ∀ d : Drawn, CallFix p m c cL_law 9 (s.setDrawn d) #[Value.ref b] lw_all RL) (hE0 : eK D k s) (hX0 : xK s) (hAZ : aZ s) (hX9 : va_X b L xs s s.heap) (hbl : b < s.heap.size) (hL : L ≤ 2048) {i : Nat} (hi : i + 4 ≤ L) {cells slots : Nat} (hcs : cells + 1 ≤ room_1.cells ∧ slots + 6 ≤ room_1.slots) (K : ∀ (d0 : Drawn), s.drawn.sameBut d0 lw_cs → ∀ (ls : Array Slot) (H : Heap) (locs : List Loc) (S G T T0 U : HS) (og : Nat → Int64) (n nf : Nat), RA S G n nf → RB S T n → lv_has ls 9 [(0, .ref b), (1, .ref x), (2, .ref (g 0)), (3, .ref o), (4, .int (nI i))] → va_P D vwCl (xwW k a tr x o S T0 og (mW k g t u G T U [])) H → va_D (fun q : Nat => s.heap.size ≤ q) (xwW k a tr x o S T0 og (mW k g t u G T U [])) → va_S (fun q : Nat => s.heap.size ≤ q) s.heap H locs → W p l e room_1 (s.setDrawn d0) m #[Value.ref b] below meth c H locs (cells + 1) (slots + 6) Q (F0 m 2101 ls [])) {d0 : Drawn} (hd0 : s.drawn.sameBut d0 lw_cs) {ls : Array Slot} {H : Heap} {locs : List Loc} {S G T T0 U : HS} {og : Nat → Int64} {n nf : Nat} (hA9 : RA S G n nf) (hB9 : RB S T n) (hl : lv_has ls 9 [(0, .ref b), (1, .ref x), (2, .ref (g 0)), (3, .ref o), (4, .int (nI i))]) (hP : va_P D vwCl (xwW k a tr x o S T0 og (mW k g t u G T U [])) H) (hD : va_D (fun q : Nat => s.heap.size ≤ q) (xwW k a tr x o S T0 og (mW k g t u G T U []))) (hS : va_S (fun q : Nat => s.heap.size ≤ q) s.heap H locs) : W p l e room_1 (s.setDrawn d0) m #[Value.ref b] below meth c H locs cells slots Q (F0 m 380 ls []) := by
  have hC := hCd d0
  have hx := hC.1
  have hb := hC.2.1
  have hE := eK_drawn hE0 d0
  have hX := xK_drawn hX0 d0
  have hXs : va_X b L xs (s.setDrawn d0) s.heap := va_X.moved (u := s) (U := s.setDrawn d0) (Vm.Alike.refl s.vm) hX9
  refine lv_aload_n hx hb dL_law_380 rfl (lv_at hl 1 rfl) ?_
  refine lv_aload_n hx hb dL_law_381 rfl (lv_at hl 0 rfl) ?_
  refine lv_iload hx hb dL_law_382 (lv_at hl 4 rfl) ?_
  refine lv_iconst (v := 1) hx hb dL_law_384 (by decide) ?_
  refine lv_iadd hx hb dL_law_385 ?_
  refine w_top (show nI i + 1 = nI (i + 1) from nI_add i 1) ?_
  refine va_sld (A := (fun q : Nat => s.heap.size ≤ q)) hx hb hXs hbl (Nat.not_le.mpr hbl) hS (i := nI (i + 1)) (vp_in_nI (by omega) (by omega)) dL_law_386 ?_
  refine w_top (congrArg xs (nI_clamp (n := i + 1) (by omega))) ?_
  refine lv_aload_n hx hb dL_law_387 rfl (lv_at hl 0 rfl) ?_
  refine lv_iload hx hb dL_law_388 (lv_at hl 4 rfl) ?_
  refine lv_iconst (v := 2) hx hb dL_law_390 (by decide) ?_
  refine lv_iadd hx hb dL_law_391 ?_
  refine w_top (show nI i + 2 = nI (i + 2) from nI_add i 2) ?_
  refine va_sld (A := (fun q : Nat => s.heap.size ≤ q)) hx hb hXs hbl (Nat.not_le.mpr hbl) hS (i := nI (i + 2)) (vp_in_nI (by omega) (by omega)) dL_law_392 ?_
  refine w_top (congrArg xs (nI_clamp (n := i + 2) (by omega))) ?_
  refine lv_aload_n hx hb dL_law_393 rfl (lv_at hl 3 rfl) ?_
  obtain ⟨kc, bb, S1, G1, T1, T2, U1, og1, n1, nf1, hLM, hMM, e1, e2, ha1, hb1⟩ := op_setRoom l hfl (D := D) (k := k) (a := a) (tr := tr) (g := g) (t := t) (u := u) (x := x) (o := o) hA9 hB9 T0 U og (xs (i + 1)) (xs (i + 2))
  refine c_lS (rest := []) hC hE hX (xZ_drawn hAZ hS _) hP hD hS lo_same (hLM (mW k g t u G T U [])) gw_RL_128 hd_L_setRoom ⟨Nat.le_of_ble_eq_true rfl, Nat.le_of_ble_eq_true rfl⟩ rfl hl.1 (Nat.le_of_ble_eq_true rfl) hcs dL_law_394 (fun H locs hP hD hS => ?_)
  have hP := to_mP hP
  have hD := to_mD hD
  refine lv_istore (lv' := [(5, .int kc), (0, .ref b), (1, .ref x), (2, .ref (g 0)), (3, .ref o), (4, .int (nI i))]) hx hb dL_law_397 hl (by decide) rfl (fun ls hl => ?_)
  refine lv_aload_n hx hb dL_law_399 rfl (lv_at hl 3 rfl) ?_
  refine lv_aload_n hx hb dL_law_400 rfl (lv_at hl 1 rfl) ?_
  refine lv_iload hx hb dL_law_401 (lv_at hl 5 rfl) ?_
  refine lv_iconst (v := 1) hx hb dL_law_403 (by decide) ?_
  refine lv_iadd hx hb dL_law_404 ?_
  refine w_top (show nI i + 1 = nI (i + 1) from nI_add i 1) ?_
  refine va_sld (A := (fun q : Nat => s.heap.size ≤ q)) hx hb hXs hbl (Nat.not_le.mpr hbl) hS (i := nI (i + 1)) (vp_in_nI (by omega) (by omega)) dL_law_405 ?_
  refine w_top (congrArg xs (nI_clamp (n := i + 1) (by omega))) ?_
  refine lv_aload_n hx hb dL_law_406 rfl (lv_at hl 1 rfl) ?_
  refine lv_iload hx hb dL_law_407 (lv_at hl 5 rfl) ?_
  refine lv_iconst (v := 2) hx hb dL_law_409 (by decide) ?_
  refine lv_iadd hx hb dL_law_410 ?_
  refine w_top (show nI i + 2 = nI (i + 2) from nI_add i 2) ?_
  refine va_sld (A := (fun q : Nat => s.heap.size ≤ q)) hx hb hXs hbl (Nat.not_le.mpr hbl) hS (i := nI (i + 2)) (vp_in_nI (by omega) (by omega)) dL_law_411 ?_
  refine w_top (congrArg xs (nI_clamp (n := i + 2) (by omega))) ?_
  refine c_mVi (rest := []) hC hE hP hD hS mw_same (hMM (xwW k a tr x o S1 T2 og1 [])) gc_RL_130 hd_X6_setRoom ⟨rfl, rfl⟩ ⟨Nat.le_of_ble_eq_true rfl, Nat.le_of_ble_eq_true rfl⟩ 0 gw_0 rfl rfl hl.1 (Nat.le_of_ble_eq_true rfl) hcs dL_law_412 (fun H locs hP hD hS => ?_)
  refine lv_istore (lv' := [(6, .int bb), (5, .int kc), (0, .ref b), (1, .ref x), (2, .ref (g 0)), (3, .ref o), (4, .int (nI i))]) hx hb dL_law_415 hl (by decide) rfl (fun ls hl => ?_)
  refine lv_aload_n hx hb dL_law_417 rfl (lv_at hl 4 rfl) ?_
  refine c_pVi (rest := []) hC hE hP (metX6_thrown l G1 T1) gc_RL_117 hd_X6_thrown ⟨rfl, rfl⟩ ⟨Nat.le_of_ble_eq_true rfl, Nat.le_of_ble_eq_true rfl⟩ 0 gw_0 rfl rfl hl.1 (Nat.le_of_ble_eq_true rfl) hcs dL_law_418 ?_
  refine w_top e1 ?_
  refine lv_iload hx hb dL_law_421 (lv_at hl 1 rfl) ?_
  refine lv_icmp_eq (tgt := 428) hx hb dL_law_423 (by decide) (fun _ => ?_) (fun c_ => absurd rfl c_)
  refine lv_iload hx hb dL_law_428 (lv_at hl 1 rfl) ?_
  refine lv_if_ne (tgt := 445) hx hb dL_law_430 (by decide) (fun c_k => ?_) (fun c_k => ?_)
  · have hl : lv_has ls 9 [(6, .int bb), (5, .int kc), (0, .ref b), (1, .ref x), (2, .ref (g 0)), (3, .ref o), (4, .int (nI i))] := hl
    refine lv_goto (tgt := 2101) hx hb dL_law_445 (by decide) ?_
    exact K d0 hd0 ls H locs S1 G1 T1 T2 U1 og1 n1 nf1 ha1 hb1 (lv_sub hl [2, 3, 4, 5, 6] rfl) (to_xP hP) (to_xD hD) hS
  · have hl : lv_has ls 9 [(6, .int bb), (5, .int kc), (0, .ref b), (1, .ref x), (2, .ref (g 0)), (3, .ref o), (4, .int (nI i))] := hl
    refine lv_aload_n hx hb dL_law_433 rfl (lv_at hl 5 rfl) ?_
    refine lv_iconst (v := 0) hx hb dL_law_434 (by decide) ?_
    refine va_lald hx hb hE.1 hP 83 2 mo_83 rfl (vp_in_nI (n := 0) (N := 1) (by decide) (by decide)) dL_law_435 ?_
    refine lv_iload hx hb dL_law_436 (lv_at hl 0 rfl) ?_
    refine lv_i2l hx hb dL_law_438 rfl ?_
    refine W.lcmp hx hb dL_law_439 ?_
    refine w_top (lg_self (e2 c_k)) ?_
    refine lv_if_eq (tgt := 445) hx hb dL_law_440 (by decide) (fun _ => ?_) (fun c_ => absurd rfl c_)
    refine lv_goto (tgt := 2101) hx hb dL_law_445 (by decide) ?_
    exact K d0 hd0 ls H locs S1 G1 T1 T2 U1 og1 n1 nf1 ha1 hb1 (lv_sub hl [2, 3, 4, 5, 6] rfl) (to_xP hP) (to_xD hD) hS
set_option maxHeartbeats 4000000 in
set_option maxRecDepth 100000 in
theorem case_4 {p : Program} {e : Env} {s : State} {m : MethodId} {below : List Frame} {meth : Method} {c : Code} {l : Launch} {b L : Nat} {xs : Nat → Int32} {D : va_G} {k : Nat → ClassId} {a tr g t u : Nat → Nat} {x o : Nat} {Q : State → Prop} (hfl : l.stackTraces = false) (hCd : ∀ d : Drawn, CallFix p m c cL_law 9 (s.setDrawn d) #[Value.ref b] lw_all RL) (hE0 : eK D k s) (hX0 : xK s) (hAZ : aZ s) (hX9 : va_X b L xs s s.heap) (hbl : b < s.heap.size) (hL : L ≤ 2048) {i : Nat} (hi : i + 4 ≤ L) {cells slots : Nat} (hcs : cells + 1 ≤ room_1.cells ∧ slots + 6 ≤ room_1.slots) (K : ∀ (d0 : Drawn), s.drawn.sameBut d0 lw_cs → ∀ (ls : Array Slot) (H : Heap) (locs : List Loc) (S G T T0 U : HS) (og : Nat → Int64) (n nf : Nat), RA S G n nf → RB S T n → lv_has ls 9 [(0, .ref b), (1, .ref x), (2, .ref (g 0)), (3, .ref o), (4, .int (nI i))] → va_P D vwCl (xwW k a tr x o S T0 og (mW k g t u G T U [])) H → va_D (fun q : Nat => s.heap.size ≤ q) (xwW k a tr x o S T0 og (mW k g t u G T U [])) → va_S (fun q : Nat => s.heap.size ≤ q) s.heap H locs → W p l e room_1 (s.setDrawn d0) m #[Value.ref b] below meth c H locs (cells + 1) (slots + 6) Q (F0 m 2101 ls [])) {d0 : Drawn} (hd0 : s.drawn.sameBut d0 lw_cs) {ls : Array Slot} {H : Heap} {locs : List Loc} {S G T T0 U : HS} {og : Nat → Int64} {n nf : Nat} (hA9 : RA S G n nf) (hB9 : RB S T n) (hl : lv_has ls 9 [(0, .ref b), (1, .ref x), (2, .ref (g 0)), (3, .ref o), (4, .int (nI i))]) (hP : va_P D vwCl (xwW k a tr x o S T0 og (mW k g t u G T U [])) H) (hD : va_D (fun q : Nat => s.heap.size ≤ q) (xwW k a tr x o S T0 og (mW k g t u G T U []))) (hS : va_S (fun q : Nat => s.heap.size ≤ q) s.heap H locs) : W p l e room_1 (s.setDrawn d0) m #[Value.ref b] below meth c H locs cells slots Q (F0 m 448 ls []) := by
  have hC := hCd d0
  have hx := hC.1
  have hb := hC.2.1
  have hE := eK_drawn hE0 d0
  have hX := xK_drawn hX0 d0
  have hXs : va_X b L xs (s.setDrawn d0) s.heap := va_X.moved (u := s) (U := s.setDrawn d0) (Vm.Alike.refl s.vm) hX9
  refine lv_aload_n hx hb dL_law_448 rfl (lv_at hl 1 rfl) ?_
  refine lv_aload_n hx hb dL_law_449 rfl (lv_at hl 0 rfl) ?_
  refine lv_iload hx hb dL_law_450 (lv_at hl 4 rfl) ?_
  refine lv_iconst (v := 1) hx hb dL_law_452 (by decide) ?_
  refine lv_iadd hx hb dL_law_453 ?_
  refine w_top (show nI i + 1 = nI (i + 1) from nI_add i 1) ?_
  refine va_sld (A := (fun q : Nat => s.heap.size ≤ q)) hx hb hXs hbl (Nat.not_le.mpr hbl) hS (i := nI (i + 1)) (vp_in_nI (by omega) (by omega)) dL_law_454 ?_
  refine w_top (congrArg xs (nI_clamp (n := i + 1) (by omega))) ?_
  refine lv_aload_n hx hb dL_law_455 rfl (lv_at hl 0 rfl) ?_
  refine lv_iload hx hb dL_law_456 (lv_at hl 4 rfl) ?_
  refine lv_iconst (v := 2) hx hb dL_law_458 (by decide) ?_
  refine lv_iadd hx hb dL_law_459 ?_
  refine w_top (show nI i + 2 = nI (i + 2) from nI_add i 2) ?_
  refine va_sld (A := (fun q : Nat => s.heap.size ≤ q)) hx hb hXs hbl (Nat.not_le.mpr hbl) hS (i := nI (i + 2)) (vp_in_nI (by omega) (by omega)) dL_law_460 ?_
  refine w_top (congrArg xs (nI_clamp (n := i + 2) (by omega))) ?_
  refine lv_aload_n hx hb dL_law_461 rfl (lv_at hl 0 rfl) ?_
  refine lv_iload hx hb dL_law_462 (lv_at hl 4 rfl) ?_
  refine lv_iconst (v := 3) hx hb dL_law_464 (by decide) ?_
  refine lv_iadd hx hb dL_law_465 ?_
  refine w_top (show nI i + 3 = nI (i + 3) from nI_add i 3) ?_
  refine va_sld (A := (fun q : Nat => s.heap.size ≤ q)) hx hb hXs hbl (Nat.not_le.mpr hbl) hS (i := nI (i + 3)) (vp_in_nI (by omega) (by omega)) dL_law_466 ?_
  refine w_top (congrArg xs (nI_clamp (n := i + 3) (by omega))) ?_
  refine lv_aload_n hx hb dL_law_467 rfl (lv_at hl 3 rfl) ?_
  obtain ⟨kc, bb, S1, G1, T1, T2, U1, og1, n1, nf1, hLM, hMM, e1, e2, ha1, hb1⟩ := op_checkIn l hfl (D := D) (k := k) (a := a) (tr := tr) (g := g) (t := t) (u := u) (x := x) (o := o) hA9 hB9 T0 U og (xs (i + 1)) (xs (i + 2)) (xs (i + 3))
  refine c_lS (rest := []) hC hE hX (xZ_drawn hAZ hS _) hP hD hS lo_same (hLM (mW k g t u G T U [])) gw_RL_131 hd_L_checkIn ⟨Nat.le_of_ble_eq_true rfl, Nat.le_of_ble_eq_true rfl⟩ rfl hl.1 (Nat.le_of_ble_eq_true rfl) hcs dL_law_468 (fun H locs hP hD hS => ?_)
  have hP := to_mP hP
  have hD := to_mD hD
  refine lv_istore (lv' := [(5, .int kc), (0, .ref b), (1, .ref x), (2, .ref (g 0)), (3, .ref o), (4, .int (nI i))]) hx hb dL_law_471 hl (by decide) rfl (fun ls hl => ?_)
  refine lv_aload_n hx hb dL_law_473 rfl (lv_at hl 3 rfl) ?_
  refine lv_aload_n hx hb dL_law_474 rfl (lv_at hl 1 rfl) ?_
  refine lv_iload hx hb dL_law_475 (lv_at hl 5 rfl) ?_
  refine lv_iconst (v := 1) hx hb dL_law_477 (by decide) ?_
  refine lv_iadd hx hb dL_law_478 ?_
  refine w_top (show nI i + 1 = nI (i + 1) from nI_add i 1) ?_
  refine va_sld (A := (fun q : Nat => s.heap.size ≤ q)) hx hb hXs hbl (Nat.not_le.mpr hbl) hS (i := nI (i + 1)) (vp_in_nI (by omega) (by omega)) dL_law_479 ?_
  refine w_top (congrArg xs (nI_clamp (n := i + 1) (by omega))) ?_
  refine lv_aload_n hx hb dL_law_480 rfl (lv_at hl 1 rfl) ?_
  refine lv_iload hx hb dL_law_481 (lv_at hl 5 rfl) ?_
  refine lv_iconst (v := 2) hx hb dL_law_483 (by decide) ?_
  refine lv_iadd hx hb dL_law_484 ?_
  refine w_top (show nI i + 2 = nI (i + 2) from nI_add i 2) ?_
  refine va_sld (A := (fun q : Nat => s.heap.size ≤ q)) hx hb hXs hbl (Nat.not_le.mpr hbl) hS (i := nI (i + 2)) (vp_in_nI (by omega) (by omega)) dL_law_485 ?_
  refine w_top (congrArg xs (nI_clamp (n := i + 2) (by omega))) ?_
  refine lv_aload_n hx hb dL_law_486 rfl (lv_at hl 1 rfl) ?_
  refine lv_iload hx hb dL_law_487 (lv_at hl 5 rfl) ?_
  refine lv_iconst (v := 3) hx hb dL_law_489 (by decide) ?_
  refine lv_iadd hx hb dL_law_490 ?_
  refine w_top (show nI i + 3 = nI (i + 3) from nI_add i 3) ?_
  refine va_sld (A := (fun q : Nat => s.heap.size ≤ q)) hx hb hXs hbl (Nat.not_le.mpr hbl) hS (i := nI (i + 3)) (vp_in_nI (by omega) (by omega)) dL_law_491 ?_
  refine w_top (congrArg xs (nI_clamp (n := i + 3) (by omega))) ?_
  refine c_mVi (rest := []) hC hE hP hD hS mw_same (hMM (xwW k a tr x o S1 T2 og1 [])) gc_RL_134 hd_X6_checkIn ⟨rfl, rfl⟩ ⟨Nat.le_of_ble_eq_true rfl, Nat.le_of_ble_eq_true rfl⟩ 0 gw_0 rfl rfl hl.1 (Nat.le_of_ble_eq_true rfl) hcs dL_law_492 (fun H locs hP hD hS => ?_)
  refine lv_istore (lv' := [(6, .int bb), (5, .int kc), (0, .ref b), (1, .ref x), (2, .ref (g 0)), (3, .ref o), (4, .int (nI i))]) hx hb dL_law_495 hl (by decide) rfl (fun ls hl => ?_)
  refine lv_aload_n hx hb dL_law_497 rfl (lv_at hl 4 rfl) ?_
  refine c_pVi (rest := []) hC hE hP (metX6_thrown l G1 T1) gc_RL_117 hd_X6_thrown ⟨rfl, rfl⟩ ⟨Nat.le_of_ble_eq_true rfl, Nat.le_of_ble_eq_true rfl⟩ 0 gw_0 rfl rfl hl.1 (Nat.le_of_ble_eq_true rfl) hcs dL_law_498 ?_
  refine w_top e1 ?_
  refine lv_iload hx hb dL_law_501 (lv_at hl 1 rfl) ?_
  refine lv_icmp_eq (tgt := 508) hx hb dL_law_503 (by decide) (fun _ => ?_) (fun c_ => absurd rfl c_)
  refine lv_iload hx hb dL_law_508 (lv_at hl 1 rfl) ?_
  refine lv_if_ne (tgt := 525) hx hb dL_law_510 (by decide) (fun c_k => ?_) (fun c_k => ?_)
  · have hl : lv_has ls 9 [(6, .int bb), (5, .int kc), (0, .ref b), (1, .ref x), (2, .ref (g 0)), (3, .ref o), (4, .int (nI i))] := hl
    refine lv_goto (tgt := 2101) hx hb dL_law_525 (by decide) ?_
    exact K d0 hd0 ls H locs S1 G1 T1 T2 U1 og1 n1 nf1 ha1 hb1 (lv_sub hl [2, 3, 4, 5, 6] rfl) (to_xP hP) (to_xD hD) hS
  · have hl : lv_has ls 9 [(6, .int bb), (5, .int kc), (0, .ref b), (1, .ref x), (2, .ref (g 0)), (3, .ref o), (4, .int (nI i))] := hl
    refine lv_aload_n hx hb dL_law_513 rfl (lv_at hl 5 rfl) ?_
    refine lv_iconst (v := 0) hx hb dL_law_514 (by decide) ?_
    refine va_lald hx hb hE.1 hP 83 2 mo_83 rfl (vp_in_nI (n := 0) (N := 1) (by decide) (by decide)) dL_law_515 ?_
    refine lv_iload hx hb dL_law_516 (lv_at hl 0 rfl) ?_
    refine lv_i2l hx hb dL_law_518 rfl ?_
    refine W.lcmp hx hb dL_law_519 ?_
    refine w_top (lg_self (e2 c_k)) ?_
    refine lv_if_eq (tgt := 525) hx hb dL_law_520 (by decide) (fun _ => ?_) (fun c_ => absurd rfl c_)
    refine lv_goto (tgt := 2101) hx hb dL_law_525 (by decide) ?_
    exact K d0 hd0 ls H locs S1 G1 T1 T2 U1 og1 n1 nf1 ha1 hb1 (lv_sub hl [2, 3, 4, 5, 6] rfl) (to_xP hP) (to_xD hD) hS
set_option maxHeartbeats 4000000 in
set_option maxRecDepth 100000 in
theorem case_5 {p : Program} {e : Env} {s : State} {m : MethodId} {below : List Frame} {meth : Method} {c : Code} {l : Launch} {b L : Nat} {xs : Nat → Int32} {D : va_G} {k : Nat → ClassId} {a tr g t u : Nat → Nat} {x o : Nat} {Q : State → Prop} (hfl : l.stackTraces = false) (hCd : ∀ d : Drawn, CallFix p m c cL_law 9 (s.setDrawn d) #[Value.ref b] lw_all RL) (hE0 : eK D k s) (hX0 : xK s) (hAZ : aZ s) (hX9 : va_X b L xs s s.heap) (hbl : b < s.heap.size) (hL : L ≤ 2048) {i : Nat} (hi : i + 4 ≤ L) {cells slots : Nat} (hcs : cells + 1 ≤ room_1.cells ∧ slots + 6 ≤ room_1.slots) (K : ∀ (d0 : Drawn), s.drawn.sameBut d0 lw_cs → ∀ (ls : Array Slot) (H : Heap) (locs : List Loc) (S G T T0 U : HS) (og : Nat → Int64) (n nf : Nat), RA S G n nf → RB S T n → lv_has ls 9 [(0, .ref b), (1, .ref x), (2, .ref (g 0)), (3, .ref o), (4, .int (nI i))] → va_P D vwCl (xwW k a tr x o S T0 og (mW k g t u G T U [])) H → va_D (fun q : Nat => s.heap.size ≤ q) (xwW k a tr x o S T0 og (mW k g t u G T U [])) → va_S (fun q : Nat => s.heap.size ≤ q) s.heap H locs → W p l e room_1 (s.setDrawn d0) m #[Value.ref b] below meth c H locs (cells + 1) (slots + 6) Q (F0 m 2101 ls [])) {d0 : Drawn} (hd0 : s.drawn.sameBut d0 lw_cs) {ls : Array Slot} {H : Heap} {locs : List Loc} {S G T T0 U : HS} {og : Nat → Int64} {n nf : Nat} (hA9 : RA S G n nf) (hB9 : RB S T n) (hl : lv_has ls 9 [(0, .ref b), (1, .ref x), (2, .ref (g 0)), (3, .ref o), (4, .int (nI i))]) (hP : va_P D vwCl (xwW k a tr x o S T0 og (mW k g t u G T U [])) H) (hD : va_D (fun q : Nat => s.heap.size ≤ q) (xwW k a tr x o S T0 og (mW k g t u G T U []))) (hS : va_S (fun q : Nat => s.heap.size ≤ q) s.heap H locs) : W p l e room_1 (s.setDrawn d0) m #[Value.ref b] below meth c H locs cells slots Q (F0 m 528 ls []) := by
  have hC := hCd d0
  have hx := hC.1
  have hb := hC.2.1
  have hE := eK_drawn hE0 d0
  have hX := xK_drawn hX0 d0
  have hXs : va_X b L xs (s.setDrawn d0) s.heap := va_X.moved (u := s) (U := s.setDrawn d0) (Vm.Alike.refl s.vm) hX9
  refine lv_aload_n hx hb dL_law_528 rfl (lv_at hl 1 rfl) ?_
  refine lv_aload_n hx hb dL_law_529 rfl (lv_at hl 0 rfl) ?_
  refine lv_iload hx hb dL_law_530 (lv_at hl 4 rfl) ?_
  refine lv_iconst (v := 1) hx hb dL_law_532 (by decide) ?_
  refine lv_iadd hx hb dL_law_533 ?_
  refine w_top (show nI i + 1 = nI (i + 1) from nI_add i 1) ?_
  refine va_sld (A := (fun q : Nat => s.heap.size ≤ q)) hx hb hXs hbl (Nat.not_le.mpr hbl) hS (i := nI (i + 1)) (vp_in_nI (by omega) (by omega)) dL_law_534 ?_
  refine w_top (congrArg xs (nI_clamp (n := i + 1) (by omega))) ?_
  refine lv_aload_n hx hb dL_law_535 rfl (lv_at hl 3 rfl) ?_
  obtain ⟨kc, bb, S1, G1, T1, T2, U1, og1, n1, nf1, hLM, hMM, e1, e2, ha1, hb1⟩ := op_carry l hfl (D := D) (k := k) (a := a) (tr := tr) (g := g) (t := t) (u := u) (x := x) (o := o) hA9 hB9 T0 U og (xs (i + 1))
  refine c_lS (rest := []) hC hE hX (xZ_drawn hAZ hS _) hP hD hS lo_same (hLM (mW k g t u G T U [])) gw_RL_135 hd_L_carry ⟨Nat.le_of_ble_eq_true rfl, Nat.le_of_ble_eq_true rfl⟩ rfl hl.1 (Nat.le_of_ble_eq_true rfl) hcs dL_law_536 (fun H locs hP hD hS => ?_)
  have hP := to_mP hP
  have hD := to_mD hD
  refine lv_istore (lv' := [(5, .int kc), (0, .ref b), (1, .ref x), (2, .ref (g 0)), (3, .ref o), (4, .int (nI i))]) hx hb dL_law_539 hl (by decide) rfl (fun ls hl => ?_)
  refine lv_aload_n hx hb dL_law_541 rfl (lv_at hl 3 rfl) ?_
  refine lv_aload_n hx hb dL_law_542 rfl (lv_at hl 1 rfl) ?_
  refine lv_iload hx hb dL_law_543 (lv_at hl 5 rfl) ?_
  refine lv_iconst (v := 1) hx hb dL_law_545 (by decide) ?_
  refine lv_iadd hx hb dL_law_546 ?_
  refine w_top (show nI i + 1 = nI (i + 1) from nI_add i 1) ?_
  refine va_sld (A := (fun q : Nat => s.heap.size ≤ q)) hx hb hXs hbl (Nat.not_le.mpr hbl) hS (i := nI (i + 1)) (vp_in_nI (by omega) (by omega)) dL_law_547 ?_
  refine w_top (congrArg xs (nI_clamp (n := i + 1) (by omega))) ?_
  refine c_mVi (rest := []) hC hE hP hD hS mw_same (hMM (xwW k a tr x o S1 T2 og1 [])) gc_RL_137 hd_X6_carry ⟨rfl, rfl⟩ ⟨Nat.le_of_ble_eq_true rfl, Nat.le_of_ble_eq_true rfl⟩ 0 gw_0 rfl rfl hl.1 (Nat.le_of_ble_eq_true rfl) hcs dL_law_548 (fun H locs hP hD hS => ?_)
  refine lv_istore (lv' := [(6, .int bb), (5, .int kc), (0, .ref b), (1, .ref x), (2, .ref (g 0)), (3, .ref o), (4, .int (nI i))]) hx hb dL_law_551 hl (by decide) rfl (fun ls hl => ?_)
  refine lv_aload_n hx hb dL_law_553 rfl (lv_at hl 4 rfl) ?_
  refine c_pVi (rest := []) hC hE hP (metX6_thrown l G1 T1) gc_RL_117 hd_X6_thrown ⟨rfl, rfl⟩ ⟨Nat.le_of_ble_eq_true rfl, Nat.le_of_ble_eq_true rfl⟩ 0 gw_0 rfl rfl hl.1 (Nat.le_of_ble_eq_true rfl) hcs dL_law_554 ?_
  refine w_top e1 ?_
  refine lv_iload hx hb dL_law_557 (lv_at hl 1 rfl) ?_
  refine lv_icmp_eq (tgt := 564) hx hb dL_law_559 (by decide) (fun _ => ?_) (fun c_ => absurd rfl c_)
  refine lv_iload hx hb dL_law_564 (lv_at hl 1 rfl) ?_
  refine lv_if_ne (tgt := 581) hx hb dL_law_566 (by decide) (fun c_k => ?_) (fun c_k => ?_)
  · have hl : lv_has ls 9 [(6, .int bb), (5, .int kc), (0, .ref b), (1, .ref x), (2, .ref (g 0)), (3, .ref o), (4, .int (nI i))] := hl
    refine lv_goto (tgt := 2101) hx hb dL_law_581 (by decide) ?_
    exact K d0 hd0 ls H locs S1 G1 T1 T2 U1 og1 n1 nf1 ha1 hb1 (lv_sub hl [2, 3, 4, 5, 6] rfl) (to_xP hP) (to_xD hD) hS
  · have hl : lv_has ls 9 [(6, .int bb), (5, .int kc), (0, .ref b), (1, .ref x), (2, .ref (g 0)), (3, .ref o), (4, .int (nI i))] := hl
    refine lv_aload_n hx hb dL_law_569 rfl (lv_at hl 5 rfl) ?_
    refine lv_iconst (v := 0) hx hb dL_law_570 (by decide) ?_
    refine va_lald hx hb hE.1 hP 83 2 mo_83 rfl (vp_in_nI (n := 0) (N := 1) (by decide) (by decide)) dL_law_571 ?_
    refine lv_iload hx hb dL_law_572 (lv_at hl 0 rfl) ?_
    refine lv_i2l hx hb dL_law_574 rfl ?_
    refine W.lcmp hx hb dL_law_575 ?_
    refine w_top (lg_self (e2 c_k)) ?_
    refine lv_if_eq (tgt := 581) hx hb dL_law_576 (by decide) (fun _ => ?_) (fun c_ => absurd rfl c_)
    refine lv_goto (tgt := 2101) hx hb dL_law_581 (by decide) ?_
    exact K d0 hd0 ls H locs S1 G1 T1 T2 U1 og1 n1 nf1 ha1 hb1 (lv_sub hl [2, 3, 4, 5, 6] rfl) (to_xP hP) (to_xD hD) hS
set_option maxHeartbeats 4000000 in
set_option maxRecDepth 100000 in
theorem case_6 {p : Program} {e : Env} {s : State} {m : MethodId} {below : List Frame} {meth : Method} {c : Code} {l : Launch} {b L : Nat} {xs : Nat → Int32} {D : va_G} {k : Nat → ClassId} {a tr g t u : Nat → Nat} {x o : Nat} {Q : State → Prop} (hfl : l.stackTraces = false) (hCd : ∀ d : Drawn, CallFix p m c cL_law 9 (s.setDrawn d) #[Value.ref b] lw_all RL) (hE0 : eK D k s) (hX0 : xK s) (hAZ : aZ s) (hX9 : va_X b L xs s s.heap) (hbl : b < s.heap.size) (hL : L ≤ 2048) {i : Nat} (hi : i + 4 ≤ L) {cells slots : Nat} (hcs : cells + 1 ≤ room_1.cells ∧ slots + 6 ≤ room_1.slots) (K : ∀ (d0 : Drawn), s.drawn.sameBut d0 lw_cs → ∀ (ls : Array Slot) (H : Heap) (locs : List Loc) (S G T T0 U : HS) (og : Nat → Int64) (n nf : Nat), RA S G n nf → RB S T n → lv_has ls 9 [(0, .ref b), (1, .ref x), (2, .ref (g 0)), (3, .ref o), (4, .int (nI i))] → va_P D vwCl (xwW k a tr x o S T0 og (mW k g t u G T U [])) H → va_D (fun q : Nat => s.heap.size ≤ q) (xwW k a tr x o S T0 og (mW k g t u G T U [])) → va_S (fun q : Nat => s.heap.size ≤ q) s.heap H locs → W p l e room_1 (s.setDrawn d0) m #[Value.ref b] below meth c H locs (cells + 1) (slots + 6) Q (F0 m 2101 ls [])) {d0 : Drawn} (hd0 : s.drawn.sameBut d0 lw_cs) {ls : Array Slot} {H : Heap} {locs : List Loc} {S G T T0 U : HS} {og : Nat → Int64} {n nf : Nat} (hA9 : RA S G n nf) (hB9 : RB S T n) (hl : lv_has ls 9 [(0, .ref b), (1, .ref x), (2, .ref (g 0)), (3, .ref o), (4, .int (nI i))]) (hP : va_P D vwCl (xwW k a tr x o S T0 og (mW k g t u G T U [])) H) (hD : va_D (fun q : Nat => s.heap.size ≤ q) (xwW k a tr x o S T0 og (mW k g t u G T U []))) (hS : va_S (fun q : Nat => s.heap.size ≤ q) s.heap H locs) : W p l e room_1 (s.setDrawn d0) m #[Value.ref b] below meth c H locs cells slots Q (F0 m 584 ls []) := by
  have hC := hCd d0
  have hx := hC.1
  have hb := hC.2.1
  have hE := eK_drawn hE0 d0
  have hX := xK_drawn hX0 d0
  have hXs : va_X b L xs (s.setDrawn d0) s.heap := va_X.moved (u := s) (U := s.setDrawn d0) (Vm.Alike.refl s.vm) hX9
  refine lv_aload_n hx hb dL_law_584 rfl (lv_at hl 1 rfl) ?_
  refine lv_aload_n hx hb dL_law_585 rfl (lv_at hl 0 rfl) ?_
  refine lv_iload hx hb dL_law_586 (lv_at hl 4 rfl) ?_
  refine lv_iconst (v := 1) hx hb dL_law_588 (by decide) ?_
  refine lv_iadd hx hb dL_law_589 ?_
  refine w_top (show nI i + 1 = nI (i + 1) from nI_add i 1) ?_
  refine va_sld (A := (fun q : Nat => s.heap.size ≤ q)) hx hb hXs hbl (Nat.not_le.mpr hbl) hS (i := nI (i + 1)) (vp_in_nI (by omega) (by omega)) dL_law_590 ?_
  refine w_top (congrArg xs (nI_clamp (n := i + 1) (by omega))) ?_
  refine lv_aload_n hx hb dL_law_591 rfl (lv_at hl 0 rfl) ?_
  refine lv_iload hx hb dL_law_592 (lv_at hl 4 rfl) ?_
  refine lv_iconst (v := 2) hx hb dL_law_594 (by decide) ?_
  refine lv_iadd hx hb dL_law_595 ?_
  refine w_top (show nI i + 2 = nI (i + 2) from nI_add i 2) ?_
  refine va_sld (A := (fun q : Nat => s.heap.size ≤ q)) hx hb hXs hbl (Nat.not_le.mpr hbl) hS (i := nI (i + 2)) (vp_in_nI (by omega) (by omega)) dL_law_596 ?_
  refine w_top (congrArg xs (nI_clamp (n := i + 2) (by omega))) ?_
  refine lv_aload_n hx hb dL_law_597 rfl (lv_at hl 3 rfl) ?_
  obtain ⟨kc, bb, S1, G1, T1, T2, U1, og1, n1, nf1, hLM, hMM, e1, e2, ha1, hb1⟩ := op_forward l hfl (D := D) (k := k) (a := a) (tr := tr) (g := g) (t := t) (u := u) (x := x) (o := o) hA9 hB9 T0 U og (xs (i + 1)) (xs (i + 2))
  refine c_lS (rest := []) hC hE hX (xZ_drawn hAZ hS _) hP hD hS lo_same (hLM (mW k g t u G T U [])) gw_RL_138 hd_L_forward ⟨Nat.le_of_ble_eq_true rfl, Nat.le_of_ble_eq_true rfl⟩ rfl hl.1 (Nat.le_of_ble_eq_true rfl) hcs dL_law_598 (fun H locs hP hD hS => ?_)
  have hP := to_mP hP
  have hD := to_mD hD
  refine lv_istore (lv' := [(5, .int kc), (0, .ref b), (1, .ref x), (2, .ref (g 0)), (3, .ref o), (4, .int (nI i))]) hx hb dL_law_601 hl (by decide) rfl (fun ls hl => ?_)
  refine lv_aload_n hx hb dL_law_603 rfl (lv_at hl 3 rfl) ?_
  refine lv_aload_n hx hb dL_law_604 rfl (lv_at hl 1 rfl) ?_
  refine lv_iload hx hb dL_law_605 (lv_at hl 5 rfl) ?_
  refine lv_iconst (v := 1) hx hb dL_law_607 (by decide) ?_
  refine lv_iadd hx hb dL_law_608 ?_
  refine w_top (show nI i + 1 = nI (i + 1) from nI_add i 1) ?_
  refine va_sld (A := (fun q : Nat => s.heap.size ≤ q)) hx hb hXs hbl (Nat.not_le.mpr hbl) hS (i := nI (i + 1)) (vp_in_nI (by omega) (by omega)) dL_law_609 ?_
  refine w_top (congrArg xs (nI_clamp (n := i + 1) (by omega))) ?_
  refine lv_aload_n hx hb dL_law_610 rfl (lv_at hl 1 rfl) ?_
  refine lv_iload hx hb dL_law_611 (lv_at hl 5 rfl) ?_
  refine lv_iconst (v := 2) hx hb dL_law_613 (by decide) ?_
  refine lv_iadd hx hb dL_law_614 ?_
  refine w_top (show nI i + 2 = nI (i + 2) from nI_add i 2) ?_
  refine va_sld (A := (fun q : Nat => s.heap.size ≤ q)) hx hb hXs hbl (Nat.not_le.mpr hbl) hS (i := nI (i + 2)) (vp_in_nI (by omega) (by omega)) dL_law_615 ?_
  refine w_top (congrArg xs (nI_clamp (n := i + 2) (by omega))) ?_
  refine c_mVi (rest := []) hC hE hP hD hS mw_same (hMM (xwW k a tr x o S1 T2 og1 [])) gc_RL_140 hd_X6_forward ⟨rfl, rfl⟩ ⟨Nat.le_of_ble_eq_true rfl, Nat.le_of_ble_eq_true rfl⟩ 0 gw_0 rfl rfl hl.1 (Nat.le_of_ble_eq_true rfl) hcs dL_law_616 (fun H locs hP hD hS => ?_)
  refine lv_istore (lv' := [(6, .int bb), (5, .int kc), (0, .ref b), (1, .ref x), (2, .ref (g 0)), (3, .ref o), (4, .int (nI i))]) hx hb dL_law_619 hl (by decide) rfl (fun ls hl => ?_)
  refine lv_aload_n hx hb dL_law_621 rfl (lv_at hl 4 rfl) ?_
  refine c_pVi (rest := []) hC hE hP (metX6_thrown l G1 T1) gc_RL_117 hd_X6_thrown ⟨rfl, rfl⟩ ⟨Nat.le_of_ble_eq_true rfl, Nat.le_of_ble_eq_true rfl⟩ 0 gw_0 rfl rfl hl.1 (Nat.le_of_ble_eq_true rfl) hcs dL_law_622 ?_
  refine w_top e1 ?_
  refine lv_iload hx hb dL_law_625 (lv_at hl 1 rfl) ?_
  refine lv_icmp_eq (tgt := 632) hx hb dL_law_627 (by decide) (fun _ => ?_) (fun c_ => absurd rfl c_)
  refine lv_iload hx hb dL_law_632 (lv_at hl 1 rfl) ?_
  refine lv_if_ne (tgt := 649) hx hb dL_law_634 (by decide) (fun c_k => ?_) (fun c_k => ?_)
  · have hl : lv_has ls 9 [(6, .int bb), (5, .int kc), (0, .ref b), (1, .ref x), (2, .ref (g 0)), (3, .ref o), (4, .int (nI i))] := hl
    refine lv_goto (tgt := 2101) hx hb dL_law_649 (by decide) ?_
    exact K d0 hd0 ls H locs S1 G1 T1 T2 U1 og1 n1 nf1 ha1 hb1 (lv_sub hl [2, 3, 4, 5, 6] rfl) (to_xP hP) (to_xD hD) hS
  · have hl : lv_has ls 9 [(6, .int bb), (5, .int kc), (0, .ref b), (1, .ref x), (2, .ref (g 0)), (3, .ref o), (4, .int (nI i))] := hl
    refine lv_aload_n hx hb dL_law_637 rfl (lv_at hl 5 rfl) ?_
    refine lv_iconst (v := 0) hx hb dL_law_638 (by decide) ?_
    refine va_lald hx hb hE.1 hP 83 2 mo_83 rfl (vp_in_nI (n := 0) (N := 1) (by decide) (by decide)) dL_law_639 ?_
    refine lv_iload hx hb dL_law_640 (lv_at hl 0 rfl) ?_
    refine lv_i2l hx hb dL_law_642 rfl ?_
    refine W.lcmp hx hb dL_law_643 ?_
    refine w_top (lg_self (e2 c_k)) ?_
    refine lv_if_eq (tgt := 649) hx hb dL_law_644 (by decide) (fun _ => ?_) (fun c_ => absurd rfl c_)
    refine lv_goto (tgt := 2101) hx hb dL_law_649 (by decide) ?_
    exact K d0 hd0 ls H locs S1 G1 T1 T2 U1 og1 n1 nf1 ha1 hb1 (lv_sub hl [2, 3, 4, 5, 6] rfl) (to_xP hP) (to_xD hD) hS
set_option maxHeartbeats 4000000 in
set_option maxRecDepth 100000 in
theorem case_7 {p : Program} {e : Env} {s : State} {m : MethodId} {below : List Frame} {meth : Method} {c : Code} {l : Launch} {b L : Nat} {xs : Nat → Int32} {D : va_G} {k : Nat → ClassId} {a tr g t u : Nat → Nat} {x o : Nat} {Q : State → Prop} (hfl : l.stackTraces = false) (hCd : ∀ d : Drawn, CallFix p m c cL_law 9 (s.setDrawn d) #[Value.ref b] lw_all RL) (hE0 : eK D k s) (hX0 : xK s) (hAZ : aZ s) (hX9 : va_X b L xs s s.heap) (hbl : b < s.heap.size) (hL : L ≤ 2048) {i : Nat} (hi : i + 4 ≤ L) {cells slots : Nat} (hcs : cells + 1 ≤ room_1.cells ∧ slots + 6 ≤ room_1.slots) (K : ∀ (d0 : Drawn), s.drawn.sameBut d0 lw_cs → ∀ (ls : Array Slot) (H : Heap) (locs : List Loc) (S G T T0 U : HS) (og : Nat → Int64) (n nf : Nat), RA S G n nf → RB S T n → lv_has ls 9 [(0, .ref b), (1, .ref x), (2, .ref (g 0)), (3, .ref o), (4, .int (nI i))] → va_P D vwCl (xwW k a tr x o S T0 og (mW k g t u G T U [])) H → va_D (fun q : Nat => s.heap.size ≤ q) (xwW k a tr x o S T0 og (mW k g t u G T U [])) → va_S (fun q : Nat => s.heap.size ≤ q) s.heap H locs → W p l e room_1 (s.setDrawn d0) m #[Value.ref b] below meth c H locs (cells + 1) (slots + 6) Q (F0 m 2101 ls [])) {d0 : Drawn} (hd0 : s.drawn.sameBut d0 lw_cs) {ls : Array Slot} {H : Heap} {locs : List Loc} {S G T T0 U : HS} {og : Nat → Int64} {n nf : Nat} (hA9 : RA S G n nf) (hB9 : RB S T n) (hl : lv_has ls 9 [(0, .ref b), (1, .ref x), (2, .ref (g 0)), (3, .ref o), (4, .int (nI i))]) (hP : va_P D vwCl (xwW k a tr x o S T0 og (mW k g t u G T U [])) H) (hD : va_D (fun q : Nat => s.heap.size ≤ q) (xwW k a tr x o S T0 og (mW k g t u G T U []))) (hS : va_S (fun q : Nat => s.heap.size ≤ q) s.heap H locs) : W p l e room_1 (s.setDrawn d0) m #[Value.ref b] below meth c H locs cells slots Q (F0 m 652 ls []) := by
  have hC := hCd d0
  have hx := hC.1
  have hb := hC.2.1
  have hE := eK_drawn hE0 d0
  have hX := xK_drawn hX0 d0
  have hXs : va_X b L xs (s.setDrawn d0) s.heap := va_X.moved (u := s) (U := s.setDrawn d0) (Vm.Alike.refl s.vm) hX9
  refine lv_aload_n hx hb dL_law_652 rfl (lv_at hl 1 rfl) ?_
  refine lv_aload_n hx hb dL_law_653 rfl (lv_at hl 0 rfl) ?_
  refine lv_iload hx hb dL_law_654 (lv_at hl 4 rfl) ?_
  refine lv_iconst (v := 1) hx hb dL_law_656 (by decide) ?_
  refine lv_iadd hx hb dL_law_657 ?_
  refine w_top (show nI i + 1 = nI (i + 1) from nI_add i 1) ?_
  refine va_sld (A := (fun q : Nat => s.heap.size ≤ q)) hx hb hXs hbl (Nat.not_le.mpr hbl) hS (i := nI (i + 1)) (vp_in_nI (by omega) (by omega)) dL_law_658 ?_
  refine w_top (congrArg xs (nI_clamp (n := i + 1) (by omega))) ?_
  refine lv_aload_n hx hb dL_law_659 rfl (lv_at hl 3 rfl) ?_
  obtain ⟨kc, bb, S1, G1, T1, T2, U1, og1, n1, nf1, hLM, hMM, e1, e2, ha1, hb1⟩ := op_sweep l hfl (D := D) (k := k) (a := a) (tr := tr) (g := g) (t := t) (u := u) (x := x) (o := o) hA9 hB9 T0 U og (xs (i + 1))
  refine c_lS (rest := []) hC hE hX (xZ_drawn hAZ hS _) hP hD hS lo_same (hLM (mW k g t u G T U [])) gw_RL_141 hd_L_sweep ⟨Nat.le_of_ble_eq_true rfl, Nat.le_of_ble_eq_true rfl⟩ rfl hl.1 (Nat.le_of_ble_eq_true rfl) hcs dL_law_660 (fun H locs hP hD hS => ?_)
  have hP := to_mP hP
  have hD := to_mD hD
  refine lv_istore (lv' := [(5, .int kc), (0, .ref b), (1, .ref x), (2, .ref (g 0)), (3, .ref o), (4, .int (nI i))]) hx hb dL_law_663 hl (by decide) rfl (fun ls hl => ?_)
  refine lv_aload_n hx hb dL_law_665 rfl (lv_at hl 3 rfl) ?_
  refine lv_aload_n hx hb dL_law_666 rfl (lv_at hl 1 rfl) ?_
  refine lv_iload hx hb dL_law_667 (lv_at hl 5 rfl) ?_
  refine lv_iconst (v := 1) hx hb dL_law_669 (by decide) ?_
  refine lv_iadd hx hb dL_law_670 ?_
  refine w_top (show nI i + 1 = nI (i + 1) from nI_add i 1) ?_
  refine va_sld (A := (fun q : Nat => s.heap.size ≤ q)) hx hb hXs hbl (Nat.not_le.mpr hbl) hS (i := nI (i + 1)) (vp_in_nI (by omega) (by omega)) dL_law_671 ?_
  refine w_top (congrArg xs (nI_clamp (n := i + 1) (by omega))) ?_
  refine c_mVi (rest := []) hC hE hP hD hS mw_same (hMM (xwW k a tr x o S1 T2 og1 [])) gc_RL_143 hd_X6_sweep ⟨rfl, rfl⟩ ⟨Nat.le_of_ble_eq_true rfl, Nat.le_of_ble_eq_true rfl⟩ 0 gw_0 rfl rfl hl.1 (Nat.le_of_ble_eq_true rfl) hcs dL_law_672 (fun H locs hP hD hS => ?_)
  refine lv_istore (lv' := [(6, .int bb), (5, .int kc), (0, .ref b), (1, .ref x), (2, .ref (g 0)), (3, .ref o), (4, .int (nI i))]) hx hb dL_law_675 hl (by decide) rfl (fun ls hl => ?_)
  refine lv_aload_n hx hb dL_law_677 rfl (lv_at hl 4 rfl) ?_
  refine c_pVi (rest := []) hC hE hP (metX6_thrown l G1 T1) gc_RL_117 hd_X6_thrown ⟨rfl, rfl⟩ ⟨Nat.le_of_ble_eq_true rfl, Nat.le_of_ble_eq_true rfl⟩ 0 gw_0 rfl rfl hl.1 (Nat.le_of_ble_eq_true rfl) hcs dL_law_678 ?_
  refine w_top e1 ?_
  refine lv_iload hx hb dL_law_681 (lv_at hl 1 rfl) ?_
  refine lv_icmp_eq (tgt := 688) hx hb dL_law_683 (by decide) (fun _ => ?_) (fun c_ => absurd rfl c_)
  refine lv_iload hx hb dL_law_688 (lv_at hl 1 rfl) ?_
  refine lv_if_ne (tgt := 705) hx hb dL_law_690 (by decide) (fun c_k => ?_) (fun c_k => ?_)
  · have hl : lv_has ls 9 [(6, .int bb), (5, .int kc), (0, .ref b), (1, .ref x), (2, .ref (g 0)), (3, .ref o), (4, .int (nI i))] := hl
    refine lv_goto (tgt := 2101) hx hb dL_law_705 (by decide) ?_
    exact K d0 hd0 ls H locs S1 G1 T1 T2 U1 og1 n1 nf1 ha1 hb1 (lv_sub hl [2, 3, 4, 5, 6] rfl) (to_xP hP) (to_xD hD) hS
  · have hl : lv_has ls 9 [(6, .int bb), (5, .int kc), (0, .ref b), (1, .ref x), (2, .ref (g 0)), (3, .ref o), (4, .int (nI i))] := hl
    refine lv_aload_n hx hb dL_law_693 rfl (lv_at hl 5 rfl) ?_
    refine lv_iconst (v := 0) hx hb dL_law_694 (by decide) ?_
    refine va_lald hx hb hE.1 hP 83 2 mo_83 rfl (vp_in_nI (n := 0) (N := 1) (by decide) (by decide)) dL_law_695 ?_
    refine lv_iload hx hb dL_law_696 (lv_at hl 0 rfl) ?_
    refine lv_i2l hx hb dL_law_698 rfl ?_
    refine W.lcmp hx hb dL_law_699 ?_
    refine w_top (lg_self (e2 c_k)) ?_
    refine lv_if_eq (tgt := 705) hx hb dL_law_700 (by decide) (fun _ => ?_) (fun c_ => absurd rfl c_)
    refine lv_goto (tgt := 2101) hx hb dL_law_705 (by decide) ?_
    exact K d0 hd0 ls H locs S1 G1 T1 T2 U1 og1 n1 nf1 ha1 hb1 (lv_sub hl [2, 3, 4, 5, 6] rfl) (to_xP hP) (to_xD hD) hS
set_option maxHeartbeats 4000000 in
set_option maxRecDepth 100000 in
theorem case_8 {p : Program} {e : Env} {s : State} {m : MethodId} {below : List Frame} {meth : Method} {c : Code} {l : Launch} {b L : Nat} {xs : Nat → Int32} {D : va_G} {k : Nat → ClassId} {a tr g t u : Nat → Nat} {x o : Nat} {Q : State → Prop} (hfl : l.stackTraces = false) (hCd : ∀ d : Drawn, CallFix p m c cL_law 9 (s.setDrawn d) #[Value.ref b] lw_all RL) (hE0 : eK D k s) (hX0 : xK s) (hAZ : aZ s) (hX9 : va_X b L xs s s.heap) (hbl : b < s.heap.size) (hL : L ≤ 2048) {i : Nat} (hi : i + 4 ≤ L) {cells slots : Nat} (hcs : cells + 1 ≤ room_1.cells ∧ slots + 6 ≤ room_1.slots) (K : ∀ (d0 : Drawn), s.drawn.sameBut d0 lw_cs → ∀ (ls : Array Slot) (H : Heap) (locs : List Loc) (S G T T0 U : HS) (og : Nat → Int64) (n nf : Nat), RA S G n nf → RB S T n → lv_has ls 9 [(0, .ref b), (1, .ref x), (2, .ref (g 0)), (3, .ref o), (4, .int (nI i))] → va_P D vwCl (xwW k a tr x o S T0 og (mW k g t u G T U [])) H → va_D (fun q : Nat => s.heap.size ≤ q) (xwW k a tr x o S T0 og (mW k g t u G T U [])) → va_S (fun q : Nat => s.heap.size ≤ q) s.heap H locs → W p l e room_1 (s.setDrawn d0) m #[Value.ref b] below meth c H locs (cells + 1) (slots + 6) Q (F0 m 2101 ls [])) {d0 : Drawn} (hd0 : s.drawn.sameBut d0 lw_cs) {ls : Array Slot} {H : Heap} {locs : List Loc} {S G T T0 U : HS} {og : Nat → Int64} {n nf : Nat} (hA9 : RA S G n nf) (hB9 : RB S T n) (hl : lv_has ls 9 [(0, .ref b), (1, .ref x), (2, .ref (g 0)), (3, .ref o), (4, .int (nI i))]) (hP : va_P D vwCl (xwW k a tr x o S T0 og (mW k g t u G T U [])) H) (hD : va_D (fun q : Nat => s.heap.size ≤ q) (xwW k a tr x o S T0 og (mW k g t u G T U []))) (hS : va_S (fun q : Nat => s.heap.size ≤ q) s.heap H locs) : W p l e room_1 (s.setDrawn d0) m #[Value.ref b] below meth c H locs cells slots Q (F0 m 708 ls []) := by
  have hC := hCd d0
  have hx := hC.1
  have hb := hC.2.1
  have hE := eK_drawn hE0 d0
  have hX := xK_drawn hX0 d0
  have hXs : va_X b L xs (s.setDrawn d0) s.heap := va_X.moved (u := s) (U := s.setDrawn d0) (Vm.Alike.refl s.vm) hX9
  refine lv_aload_n hx hb dL_law_708 rfl (lv_at hl 1 rfl) ?_
  refine lv_aload_n hx hb dL_law_709 rfl (lv_at hl 0 rfl) ?_
  refine lv_iload hx hb dL_law_710 (lv_at hl 4 rfl) ?_
  refine lv_iconst (v := 1) hx hb dL_law_712 (by decide) ?_
  refine lv_iadd hx hb dL_law_713 ?_
  refine w_top (show nI i + 1 = nI (i + 1) from nI_add i 1) ?_
  refine va_sld (A := (fun q : Nat => s.heap.size ≤ q)) hx hb hXs hbl (Nat.not_le.mpr hbl) hS (i := nI (i + 1)) (vp_in_nI (by omega) (by omega)) dL_law_714 ?_
  refine w_top (congrArg xs (nI_clamp (n := i + 1) (by omega))) ?_
  refine lv_aload_n hx hb dL_law_715 rfl (lv_at hl 3 rfl) ?_
  obtain ⟨kc, bb, S1, G1, T1, T2, U1, og1, n1, nf1, hLM, hMM, e1, e2, ha1, hb1⟩ := op_depart l hfl (D := D) (k := k) (a := a) (tr := tr) (g := g) (t := t) (u := u) (x := x) (o := o) hA9 hB9 T0 U og (xs (i + 1))
  refine c_lS (rest := []) hC hE hX (xZ_drawn hAZ hS _) hP hD hS lo_same (hLM (mW k g t u G T U [])) gw_RL_144 hd_L_depart ⟨Nat.le_of_ble_eq_true rfl, Nat.le_of_ble_eq_true rfl⟩ rfl hl.1 (Nat.le_of_ble_eq_true rfl) hcs dL_law_716 (fun H locs hP hD hS => ?_)
  have hP := to_mP hP
  have hD := to_mD hD
  refine lv_istore (lv' := [(5, .int kc), (0, .ref b), (1, .ref x), (2, .ref (g 0)), (3, .ref o), (4, .int (nI i))]) hx hb dL_law_719 hl (by decide) rfl (fun ls hl => ?_)
  refine lv_aload_n hx hb dL_law_721 rfl (lv_at hl 3 rfl) ?_
  refine lv_aload_n hx hb dL_law_722 rfl (lv_at hl 1 rfl) ?_
  refine lv_iload hx hb dL_law_723 (lv_at hl 5 rfl) ?_
  refine lv_iconst (v := 1) hx hb dL_law_725 (by decide) ?_
  refine lv_iadd hx hb dL_law_726 ?_
  refine w_top (show nI i + 1 = nI (i + 1) from nI_add i 1) ?_
  refine va_sld (A := (fun q : Nat => s.heap.size ≤ q)) hx hb hXs hbl (Nat.not_le.mpr hbl) hS (i := nI (i + 1)) (vp_in_nI (by omega) (by omega)) dL_law_727 ?_
  refine w_top (congrArg xs (nI_clamp (n := i + 1) (by omega))) ?_
  refine c_mVi (rest := []) hC hE hP hD hS mw_same (hMM (xwW k a tr x o S1 T2 og1 [])) gc_RL_146 hd_X6_depart ⟨rfl, rfl⟩ ⟨Nat.le_of_ble_eq_true rfl, Nat.le_of_ble_eq_true rfl⟩ 0 gw_0 rfl rfl hl.1 (Nat.le_of_ble_eq_true rfl) hcs dL_law_728 (fun H locs hP hD hS => ?_)
  refine lv_istore (lv' := [(6, .int bb), (5, .int kc), (0, .ref b), (1, .ref x), (2, .ref (g 0)), (3, .ref o), (4, .int (nI i))]) hx hb dL_law_731 hl (by decide) rfl (fun ls hl => ?_)
  refine lv_aload_n hx hb dL_law_733 rfl (lv_at hl 4 rfl) ?_
  refine c_pVi (rest := []) hC hE hP (metX6_thrown l G1 T1) gc_RL_117 hd_X6_thrown ⟨rfl, rfl⟩ ⟨Nat.le_of_ble_eq_true rfl, Nat.le_of_ble_eq_true rfl⟩ 0 gw_0 rfl rfl hl.1 (Nat.le_of_ble_eq_true rfl) hcs dL_law_734 ?_
  refine w_top e1 ?_
  refine lv_iload hx hb dL_law_737 (lv_at hl 1 rfl) ?_
  refine lv_icmp_eq (tgt := 744) hx hb dL_law_739 (by decide) (fun _ => ?_) (fun c_ => absurd rfl c_)
  refine lv_iload hx hb dL_law_744 (lv_at hl 1 rfl) ?_
  refine lv_if_ne (tgt := 761) hx hb dL_law_746 (by decide) (fun c_k => ?_) (fun c_k => ?_)
  · have hl : lv_has ls 9 [(6, .int bb), (5, .int kc), (0, .ref b), (1, .ref x), (2, .ref (g 0)), (3, .ref o), (4, .int (nI i))] := hl
    refine lv_goto (tgt := 2101) hx hb dL_law_761 (by decide) ?_
    exact K d0 hd0 ls H locs S1 G1 T1 T2 U1 og1 n1 nf1 ha1 hb1 (lv_sub hl [2, 3, 4, 5, 6] rfl) (to_xP hP) (to_xD hD) hS
  · have hl : lv_has ls 9 [(6, .int bb), (5, .int kc), (0, .ref b), (1, .ref x), (2, .ref (g 0)), (3, .ref o), (4, .int (nI i))] := hl
    refine lv_aload_n hx hb dL_law_749 rfl (lv_at hl 5 rfl) ?_
    refine lv_iconst (v := 0) hx hb dL_law_750 (by decide) ?_
    refine va_lald hx hb hE.1 hP 83 2 mo_83 rfl (vp_in_nI (n := 0) (N := 1) (by decide) (by decide)) dL_law_751 ?_
    refine lv_iload hx hb dL_law_752 (lv_at hl 0 rfl) ?_
    refine lv_i2l hx hb dL_law_754 rfl ?_
    refine W.lcmp hx hb dL_law_755 ?_
    refine w_top (lg_self (e2 c_k)) ?_
    refine lv_if_eq (tgt := 761) hx hb dL_law_756 (by decide) (fun _ => ?_) (fun c_ => absurd rfl c_)
    refine lv_goto (tgt := 2101) hx hb dL_law_761 (by decide) ?_
    exact K d0 hd0 ls H locs S1 G1 T1 T2 U1 og1 n1 nf1 ha1 hb1 (lv_sub hl [2, 3, 4, 5, 6] rfl) (to_xP hP) (to_xD hD) hS
set_option maxHeartbeats 4000000 in
set_option maxRecDepth 100000 in
theorem case_9 {p : Program} {e : Env} {s : State} {m : MethodId} {below : List Frame} {meth : Method} {c : Code} {l : Launch} {b L : Nat} {xs : Nat → Int32} {D : va_G} {k : Nat → ClassId} {a tr g t u : Nat → Nat} {x o : Nat} {Q : State → Prop} (hfl : l.stackTraces = false) (hCd : ∀ d : Drawn, CallFix p m c cL_law 9 (s.setDrawn d) #[Value.ref b] lw_all RL) (hE0 : eK D k s) (hX0 : xK s) (hAZ : aZ s) (hX9 : va_X b L xs s s.heap) (hbl : b < s.heap.size) (hL : L ≤ 2048) {i : Nat} (hi : i + 4 ≤ L) {cells slots : Nat} (hcs : cells + 1 ≤ room_1.cells ∧ slots + 6 ≤ room_1.slots) (K : ∀ (d0 : Drawn), s.drawn.sameBut d0 lw_cs → ∀ (ls : Array Slot) (H : Heap) (locs : List Loc) (S G T T0 U : HS) (og : Nat → Int64) (n nf : Nat), RA S G n nf → RB S T n → lv_has ls 9 [(0, .ref b), (1, .ref x), (2, .ref (g 0)), (3, .ref o), (4, .int (nI i))] → va_P D vwCl (xwW k a tr x o S T0 og (mW k g t u G T U [])) H → va_D (fun q : Nat => s.heap.size ≤ q) (xwW k a tr x o S T0 og (mW k g t u G T U [])) → va_S (fun q : Nat => s.heap.size ≤ q) s.heap H locs → W p l e room_1 (s.setDrawn d0) m #[Value.ref b] below meth c H locs (cells + 1) (slots + 6) Q (F0 m 2101 ls [])) {d0 : Drawn} (hd0 : s.drawn.sameBut d0 lw_cs) {ls : Array Slot} {H : Heap} {locs : List Loc} {S G T T0 U : HS} {og : Nat → Int64} {n nf : Nat} (hA9 : RA S G n nf) (hB9 : RB S T n) (hl : lv_has ls 9 [(0, .ref b), (1, .ref x), (2, .ref (g 0)), (3, .ref o), (4, .int (nI i))]) (hP : va_P D vwCl (xwW k a tr x o S T0 og (mW k g t u G T U [])) H) (hD : va_D (fun q : Nat => s.heap.size ≤ q) (xwW k a tr x o S T0 og (mW k g t u G T U []))) (hS : va_S (fun q : Nat => s.heap.size ≤ q) s.heap H locs) : W p l e room_1 (s.setDrawn d0) m #[Value.ref b] below meth c H locs cells slots Q (F0 m 764 ls []) := by
  have hC := hCd d0
  have hx := hC.1
  have hb := hC.2.1
  have hE := eK_drawn hE0 d0
  have hX := xK_drawn hX0 d0
  have hXs : va_X b L xs (s.setDrawn d0) s.heap := va_X.moved (u := s) (U := s.setDrawn d0) (Vm.Alike.refl s.vm) hX9
  refine lv_aload_n hx hb dL_law_764 rfl (lv_at hl 1 rfl) ?_
  refine lv_aload_n hx hb dL_law_765 rfl (lv_at hl 0 rfl) ?_
  refine lv_iload hx hb dL_law_766 (lv_at hl 4 rfl) ?_
  refine lv_iconst (v := 1) hx hb dL_law_768 (by decide) ?_
  refine lv_iadd hx hb dL_law_769 ?_
  refine w_top (show nI i + 1 = nI (i + 1) from nI_add i 1) ?_
  refine va_sld (A := (fun q : Nat => s.heap.size ≤ q)) hx hb hXs hbl (Nat.not_le.mpr hbl) hS (i := nI (i + 1)) (vp_in_nI (by omega) (by omega)) dL_law_770 ?_
  refine w_top (congrArg xs (nI_clamp (n := i + 1) (by omega))) ?_
  refine lv_aload_n hx hb dL_law_771 rfl (lv_at hl 3 rfl) ?_
  obtain ⟨kc, bb, S1, G1, T1, T2, U1, og1, n1, nf1, hLM, hMM, e1, e2, ha1, hb1⟩ := op_pass l hfl (D := D) (k := k) (a := a) (tr := tr) (g := g) (t := t) (u := u) (x := x) (o := o) hA9 hB9 T0 U og (xs (i + 1))
  refine c_lS (rest := []) hC hE hX (xZ_drawn hAZ hS _) hP hD hS lo_same (hLM (mW k g t u G T U [])) gw_RL_147 hd_L_pass ⟨Nat.le_of_ble_eq_true rfl, Nat.le_of_ble_eq_true rfl⟩ rfl hl.1 (Nat.le_of_ble_eq_true rfl) hcs dL_law_772 (fun H locs hP hD hS => ?_)
  have hP := to_mP hP
  have hD := to_mD hD
  refine lv_istore (lv' := [(5, .int kc), (0, .ref b), (1, .ref x), (2, .ref (g 0)), (3, .ref o), (4, .int (nI i))]) hx hb dL_law_775 hl (by decide) rfl (fun ls hl => ?_)
  refine lv_aload_n hx hb dL_law_777 rfl (lv_at hl 3 rfl) ?_
  refine lv_aload_n hx hb dL_law_778 rfl (lv_at hl 1 rfl) ?_
  refine lv_iload hx hb dL_law_779 (lv_at hl 5 rfl) ?_
  refine lv_iconst (v := 1) hx hb dL_law_781 (by decide) ?_
  refine lv_iadd hx hb dL_law_782 ?_
  refine w_top (show nI i + 1 = nI (i + 1) from nI_add i 1) ?_
  refine va_sld (A := (fun q : Nat => s.heap.size ≤ q)) hx hb hXs hbl (Nat.not_le.mpr hbl) hS (i := nI (i + 1)) (vp_in_nI (by omega) (by omega)) dL_law_783 ?_
  refine w_top (congrArg xs (nI_clamp (n := i + 1) (by omega))) ?_
  refine c_mVi (rest := []) hC hE hP hD hS mw_same (hMM (xwW k a tr x o S1 T2 og1 [])) gc_RL_149 hd_X6_pass ⟨rfl, rfl⟩ ⟨Nat.le_of_ble_eq_true rfl, Nat.le_of_ble_eq_true rfl⟩ 0 gw_0 rfl rfl hl.1 (Nat.le_of_ble_eq_true rfl) hcs dL_law_784 (fun H locs hP hD hS => ?_)
  refine lv_istore (lv' := [(6, .int bb), (5, .int kc), (0, .ref b), (1, .ref x), (2, .ref (g 0)), (3, .ref o), (4, .int (nI i))]) hx hb dL_law_787 hl (by decide) rfl (fun ls hl => ?_)
  refine lv_aload_n hx hb dL_law_789 rfl (lv_at hl 4 rfl) ?_
  refine c_pVi (rest := []) hC hE hP (metX6_thrown l G1 T1) gc_RL_117 hd_X6_thrown ⟨rfl, rfl⟩ ⟨Nat.le_of_ble_eq_true rfl, Nat.le_of_ble_eq_true rfl⟩ 0 gw_0 rfl rfl hl.1 (Nat.le_of_ble_eq_true rfl) hcs dL_law_790 ?_
  refine w_top e1 ?_
  refine lv_iload hx hb dL_law_793 (lv_at hl 1 rfl) ?_
  refine lv_icmp_eq (tgt := 800) hx hb dL_law_795 (by decide) (fun _ => ?_) (fun c_ => absurd rfl c_)
  refine lv_iload hx hb dL_law_800 (lv_at hl 1 rfl) ?_
  refine lv_if_ne (tgt := 817) hx hb dL_law_802 (by decide) (fun c_k => ?_) (fun c_k => ?_)
  · have hl : lv_has ls 9 [(6, .int bb), (5, .int kc), (0, .ref b), (1, .ref x), (2, .ref (g 0)), (3, .ref o), (4, .int (nI i))] := hl
    refine lv_goto (tgt := 2101) hx hb dL_law_817 (by decide) ?_
    exact K d0 hd0 ls H locs S1 G1 T1 T2 U1 og1 n1 nf1 ha1 hb1 (lv_sub hl [2, 3, 4, 5, 6] rfl) (to_xP hP) (to_xD hD) hS
  · have hl : lv_has ls 9 [(6, .int bb), (5, .int kc), (0, .ref b), (1, .ref x), (2, .ref (g 0)), (3, .ref o), (4, .int (nI i))] := hl
    refine lv_aload_n hx hb dL_law_805 rfl (lv_at hl 5 rfl) ?_
    refine lv_iconst (v := 0) hx hb dL_law_806 (by decide) ?_
    refine va_lald hx hb hE.1 hP 83 2 mo_83 rfl (vp_in_nI (n := 0) (N := 1) (by decide) (by decide)) dL_law_807 ?_
    refine lv_iload hx hb dL_law_808 (lv_at hl 0 rfl) ?_
    refine lv_i2l hx hb dL_law_810 rfl ?_
    refine W.lcmp hx hb dL_law_811 ?_
    refine w_top (lg_self (e2 c_k)) ?_
    refine lv_if_eq (tgt := 817) hx hb dL_law_812 (by decide) (fun _ => ?_) (fun c_ => absurd rfl c_)
    refine lv_goto (tgt := 2101) hx hb dL_law_817 (by decide) ?_
    exact K d0 hd0 ls H locs S1 G1 T1 T2 U1 og1 n1 nf1 ha1 hb1 (lv_sub hl [2, 3, 4, 5, 6] rfl) (to_xP hP) (to_xD hD) hS
set_option maxHeartbeats 4000000 in
set_option maxRecDepth 100000 in
theorem case_10 {p : Program} {e : Env} {s : State} {m : MethodId} {below : List Frame} {meth : Method} {c : Code} {l : Launch} {b L : Nat} {xs : Nat → Int32} {D : va_G} {k : Nat → ClassId} {a tr g t u : Nat → Nat} {x o : Nat} {Q : State → Prop} (hfl : l.stackTraces = false) (hCd : ∀ d : Drawn, CallFix p m c cL_law 9 (s.setDrawn d) #[Value.ref b] lw_all RL) (hE0 : eK D k s) (hX0 : xK s) (hAZ : aZ s) (hX9 : va_X b L xs s s.heap) (hbl : b < s.heap.size) (hL : L ≤ 2048) {i : Nat} (hi : i + 4 ≤ L) {cells slots : Nat} (hcs : cells + 1 ≤ room_1.cells ∧ slots + 6 ≤ room_1.slots) (K : ∀ (d0 : Drawn), s.drawn.sameBut d0 lw_cs → ∀ (ls : Array Slot) (H : Heap) (locs : List Loc) (S G T T0 U : HS) (og : Nat → Int64) (n nf : Nat), RA S G n nf → RB S T n → lv_has ls 9 [(0, .ref b), (1, .ref x), (2, .ref (g 0)), (3, .ref o), (4, .int (nI i))] → va_P D vwCl (xwW k a tr x o S T0 og (mW k g t u G T U [])) H → va_D (fun q : Nat => s.heap.size ≤ q) (xwW k a tr x o S T0 og (mW k g t u G T U [])) → va_S (fun q : Nat => s.heap.size ≤ q) s.heap H locs → W p l e room_1 (s.setDrawn d0) m #[Value.ref b] below meth c H locs (cells + 1) (slots + 6) Q (F0 m 2101 ls [])) {d0 : Drawn} (hd0 : s.drawn.sameBut d0 lw_cs) {ls : Array Slot} {H : Heap} {locs : List Loc} {S G T T0 U : HS} {og : Nat → Int64} {n nf : Nat} (hA9 : RA S G n nf) (hB9 : RB S T n) (hl : lv_has ls 9 [(0, .ref b), (1, .ref x), (2, .ref (g 0)), (3, .ref o), (4, .int (nI i))]) (hP : va_P D vwCl (xwW k a tr x o S T0 og (mW k g t u G T U [])) H) (hD : va_D (fun q : Nat => s.heap.size ≤ q) (xwW k a tr x o S T0 og (mW k g t u G T U []))) (hS : va_S (fun q : Nat => s.heap.size ≤ q) s.heap H locs) : W p l e room_1 (s.setDrawn d0) m #[Value.ref b] below meth c H locs cells slots Q (F0 m 820 ls []) := by
  have hC := hCd d0
  have hx := hC.1
  have hb := hC.2.1
  have hE := eK_drawn hE0 d0
  have hX := xK_drawn hX0 d0
  have hXs : va_X b L xs (s.setDrawn d0) s.heap := va_X.moved (u := s) (U := s.setDrawn d0) (Vm.Alike.refl s.vm) hX9
  refine lv_aload_n hx hb dL_law_820 rfl (lv_at hl 1 rfl) ?_
  refine lv_aload_n hx hb dL_law_821 rfl (lv_at hl 0 rfl) ?_
  refine lv_iload hx hb dL_law_822 (lv_at hl 4 rfl) ?_
  refine lv_iconst (v := 1) hx hb dL_law_824 (by decide) ?_
  refine lv_iadd hx hb dL_law_825 ?_
  refine w_top (show nI i + 1 = nI (i + 1) from nI_add i 1) ?_
  refine va_sld (A := (fun q : Nat => s.heap.size ≤ q)) hx hb hXs hbl (Nat.not_le.mpr hbl) hS (i := nI (i + 1)) (vp_in_nI (by omega) (by omega)) dL_law_826 ?_
  refine w_top (congrArg xs (nI_clamp (n := i + 1) (by omega))) ?_
  refine lv_aload_n hx hb dL_law_827 rfl (lv_at hl 3 rfl) ?_
  obtain ⟨kc, bb, S1, G1, T1, T2, U1, og1, n1, nf1, hLM, hMM, e1, e2, ha1, hb1⟩ := op_flightOf l hfl (D := D) (k := k) (a := a) (tr := tr) (g := g) (t := t) (u := u) (x := x) (o := o) hA9 hB9 T0 U og (xs (i + 1))
  refine c_lS (rest := []) hC hE hX (xZ_drawn hAZ hS _) hP hD hS lo_same (hLM (mW k g t u G T U [])) gw_RL_150 hd_L_flightOf ⟨Nat.le_of_ble_eq_true rfl, Nat.le_of_ble_eq_true rfl⟩ rfl hl.1 (Nat.le_of_ble_eq_true rfl) hcs dL_law_828 (fun H locs hP hD hS => ?_)
  have hP := to_mP hP
  have hD := to_mD hD
  refine lv_istore (lv' := [(5, .int kc), (0, .ref b), (1, .ref x), (2, .ref (g 0)), (3, .ref o), (4, .int (nI i))]) hx hb dL_law_831 hl (by decide) rfl (fun ls hl => ?_)
  refine lv_aload_n hx hb dL_law_833 rfl (lv_at hl 3 rfl) ?_
  refine lv_aload_n hx hb dL_law_834 rfl (lv_at hl 1 rfl) ?_
  refine lv_iload hx hb dL_law_835 (lv_at hl 5 rfl) ?_
  refine lv_iconst (v := 1) hx hb dL_law_837 (by decide) ?_
  refine lv_iadd hx hb dL_law_838 ?_
  refine w_top (show nI i + 1 = nI (i + 1) from nI_add i 1) ?_
  refine va_sld (A := (fun q : Nat => s.heap.size ≤ q)) hx hb hXs hbl (Nat.not_le.mpr hbl) hS (i := nI (i + 1)) (vp_in_nI (by omega) (by omega)) dL_law_839 ?_
  refine w_top (congrArg xs (nI_clamp (n := i + 1) (by omega))) ?_
  refine c_mVi (rest := []) hC hE hP hD hS mw_same (hMM (xwW k a tr x o S1 T2 og1 [])) gc_RL_152 hd_X6_flightOf ⟨rfl, rfl⟩ ⟨Nat.le_of_ble_eq_true rfl, Nat.le_of_ble_eq_true rfl⟩ 0 gw_0 rfl rfl hl.1 (Nat.le_of_ble_eq_true rfl) hcs dL_law_840 (fun H locs hP hD hS => ?_)
  refine lv_istore (lv' := [(6, .int bb), (5, .int kc), (0, .ref b), (1, .ref x), (2, .ref (g 0)), (3, .ref o), (4, .int (nI i))]) hx hb dL_law_843 hl (by decide) rfl (fun ls hl => ?_)
  refine lv_aload_n hx hb dL_law_845 rfl (lv_at hl 4 rfl) ?_
  refine c_pVi (rest := []) hC hE hP (metX6_thrown l G1 T1) gc_RL_117 hd_X6_thrown ⟨rfl, rfl⟩ ⟨Nat.le_of_ble_eq_true rfl, Nat.le_of_ble_eq_true rfl⟩ 0 gw_0 rfl rfl hl.1 (Nat.le_of_ble_eq_true rfl) hcs dL_law_846 ?_
  refine w_top e1 ?_
  refine lv_iload hx hb dL_law_849 (lv_at hl 1 rfl) ?_
  refine lv_icmp_eq (tgt := 856) hx hb dL_law_851 (by decide) (fun _ => ?_) (fun c_ => absurd rfl c_)
  refine lv_iload hx hb dL_law_856 (lv_at hl 1 rfl) ?_
  refine lv_if_ne (tgt := 873) hx hb dL_law_858 (by decide) (fun c_k => ?_) (fun c_k => ?_)
  · have hl : lv_has ls 9 [(6, .int bb), (5, .int kc), (0, .ref b), (1, .ref x), (2, .ref (g 0)), (3, .ref o), (4, .int (nI i))] := hl
    refine lv_goto (tgt := 2101) hx hb dL_law_873 (by decide) ?_
    exact K d0 hd0 ls H locs S1 G1 T1 T2 U1 og1 n1 nf1 ha1 hb1 (lv_sub hl [2, 3, 4, 5, 6] rfl) (to_xP hP) (to_xD hD) hS
  · have hl : lv_has ls 9 [(6, .int bb), (5, .int kc), (0, .ref b), (1, .ref x), (2, .ref (g 0)), (3, .ref o), (4, .int (nI i))] := hl
    refine lv_aload_n hx hb dL_law_861 rfl (lv_at hl 5 rfl) ?_
    refine lv_iconst (v := 0) hx hb dL_law_862 (by decide) ?_
    refine va_lald hx hb hE.1 hP 83 2 mo_83 rfl (vp_in_nI (n := 0) (N := 1) (by decide) (by decide)) dL_law_863 ?_
    refine lv_iload hx hb dL_law_864 (lv_at hl 0 rfl) ?_
    refine lv_i2l hx hb dL_law_866 rfl ?_
    refine W.lcmp hx hb dL_law_867 ?_
    refine w_top (lg_self (e2 c_k)) ?_
    refine lv_if_eq (tgt := 873) hx hb dL_law_868 (by decide) (fun _ => ?_) (fun c_ => absurd rfl c_)
    refine lv_goto (tgt := 2101) hx hb dL_law_873 (by decide) ?_
    exact K d0 hd0 ls H locs S1 G1 T1 T2 U1 og1 n1 nf1 ha1 hb1 (lv_sub hl [2, 3, 4, 5, 6] rfl) (to_xP hP) (to_xD hD) hS
set_option maxHeartbeats 4000000 in
set_option maxRecDepth 100000 in
theorem case_11 {p : Program} {e : Env} {s : State} {m : MethodId} {below : List Frame} {meth : Method} {c : Code} {l : Launch} {b L : Nat} {xs : Nat → Int32} {D : va_G} {k : Nat → ClassId} {a tr g t u : Nat → Nat} {x o : Nat} {Q : State → Prop} (hfl : l.stackTraces = false) (hCd : ∀ d : Drawn, CallFix p m c cL_law 9 (s.setDrawn d) #[Value.ref b] lw_all RL) (hE0 : eK D k s) (hX0 : xK s) (hAZ : aZ s) (hX9 : va_X b L xs s s.heap) (hbl : b < s.heap.size) (hL : L ≤ 2048) {i : Nat} (hi : i + 4 ≤ L) {cells slots : Nat} (hcs : cells + 1 ≤ room_1.cells ∧ slots + 6 ≤ room_1.slots) (K : ∀ (d0 : Drawn), s.drawn.sameBut d0 lw_cs → ∀ (ls : Array Slot) (H : Heap) (locs : List Loc) (S G T T0 U : HS) (og : Nat → Int64) (n nf : Nat), RA S G n nf → RB S T n → lv_has ls 9 [(0, .ref b), (1, .ref x), (2, .ref (g 0)), (3, .ref o), (4, .int (nI i))] → va_P D vwCl (xwW k a tr x o S T0 og (mW k g t u G T U [])) H → va_D (fun q : Nat => s.heap.size ≤ q) (xwW k a tr x o S T0 og (mW k g t u G T U [])) → va_S (fun q : Nat => s.heap.size ≤ q) s.heap H locs → W p l e room_1 (s.setDrawn d0) m #[Value.ref b] below meth c H locs (cells + 1) (slots + 6) Q (F0 m 2101 ls [])) {d0 : Drawn} (hd0 : s.drawn.sameBut d0 lw_cs) {ls : Array Slot} {H : Heap} {locs : List Loc} {S G T T0 U : HS} {og : Nat → Int64} {n nf : Nat} (hA9 : RA S G n nf) (hB9 : RB S T n) (hl : lv_has ls 9 [(0, .ref b), (1, .ref x), (2, .ref (g 0)), (3, .ref o), (4, .int (nI i))]) (hP : va_P D vwCl (xwW k a tr x o S T0 og (mW k g t u G T U [])) H) (hD : va_D (fun q : Nat => s.heap.size ≤ q) (xwW k a tr x o S T0 og (mW k g t u G T U []))) (hS : va_S (fun q : Nat => s.heap.size ≤ q) s.heap H locs) : W p l e room_1 (s.setDrawn d0) m #[Value.ref b] below meth c H locs cells slots Q (F0 m 876 ls []) := by
  have hC := hCd d0
  have hx := hC.1
  have hb := hC.2.1
  have hE := eK_drawn hE0 d0
  have hX := xK_drawn hX0 d0
  have hXs : va_X b L xs (s.setDrawn d0) s.heap := va_X.moved (u := s) (U := s.setDrawn d0) (Vm.Alike.refl s.vm) hX9
  refine lv_aload_n hx hb dL_law_876 rfl (lv_at hl 1 rfl) ?_
  refine lv_aload_n hx hb dL_law_877 rfl (lv_at hl 0 rfl) ?_
  refine lv_iload hx hb dL_law_878 (lv_at hl 4 rfl) ?_
  refine lv_iconst (v := 1) hx hb dL_law_880 (by decide) ?_
  refine lv_iadd hx hb dL_law_881 ?_
  refine w_top (show nI i + 1 = nI (i + 1) from nI_add i 1) ?_
  refine va_sld (A := (fun q : Nat => s.heap.size ≤ q)) hx hb hXs hbl (Nat.not_le.mpr hbl) hS (i := nI (i + 1)) (vp_in_nI (by omega) (by omega)) dL_law_882 ?_
  refine w_top (congrArg xs (nI_clamp (n := i + 1) (by omega))) ?_
  refine lv_aload_n hx hb dL_law_883 rfl (lv_at hl 3 rfl) ?_
  obtain ⟨kc, bb, S1, G1, T1, T2, U1, og1, n1, nf1, hLM, hMM, e1, e2, ha1, hb1⟩ := op_whereIs l hfl (D := D) (k := k) (a := a) (tr := tr) (g := g) (t := t) (u := u) (x := x) (o := o) hA9 hB9 T0 U og (xs (i + 1))
  refine c_lS (rest := []) hC hE hX (xZ_drawn hAZ hS _) hP hD hS lo_same (hLM (mW k g t u G T U [])) gw_RL_153 hd_L_whereIs ⟨Nat.le_of_ble_eq_true rfl, Nat.le_of_ble_eq_true rfl⟩ rfl hl.1 (Nat.le_of_ble_eq_true rfl) hcs dL_law_884 (fun H locs hP hD hS => ?_)
  have hP := to_mP hP
  have hD := to_mD hD
  refine lv_istore (lv' := [(5, .int kc), (0, .ref b), (1, .ref x), (2, .ref (g 0)), (3, .ref o), (4, .int (nI i))]) hx hb dL_law_887 hl (by decide) rfl (fun ls hl => ?_)
  refine lv_aload_n hx hb dL_law_889 rfl (lv_at hl 3 rfl) ?_
  refine lv_aload_n hx hb dL_law_890 rfl (lv_at hl 1 rfl) ?_
  refine lv_iload hx hb dL_law_891 (lv_at hl 5 rfl) ?_
  refine lv_iconst (v := 1) hx hb dL_law_893 (by decide) ?_
  refine lv_iadd hx hb dL_law_894 ?_
  refine w_top (show nI i + 1 = nI (i + 1) from nI_add i 1) ?_
  refine va_sld (A := (fun q : Nat => s.heap.size ≤ q)) hx hb hXs hbl (Nat.not_le.mpr hbl) hS (i := nI (i + 1)) (vp_in_nI (by omega) (by omega)) dL_law_895 ?_
  refine w_top (congrArg xs (nI_clamp (n := i + 1) (by omega))) ?_
  refine c_mVi (rest := []) hC hE hP hD hS mw_same (hMM (xwW k a tr x o S1 T2 og1 [])) gc_RL_155 hd_X6_whereIs ⟨rfl, rfl⟩ ⟨Nat.le_of_ble_eq_true rfl, Nat.le_of_ble_eq_true rfl⟩ 0 gw_0 rfl rfl hl.1 (Nat.le_of_ble_eq_true rfl) hcs dL_law_896 (fun H locs hP hD hS => ?_)
  refine lv_istore (lv' := [(6, .int bb), (5, .int kc), (0, .ref b), (1, .ref x), (2, .ref (g 0)), (3, .ref o), (4, .int (nI i))]) hx hb dL_law_899 hl (by decide) rfl (fun ls hl => ?_)
  refine lv_aload_n hx hb dL_law_901 rfl (lv_at hl 4 rfl) ?_
  refine c_pVi (rest := []) hC hE hP (metX6_thrown l G1 T1) gc_RL_117 hd_X6_thrown ⟨rfl, rfl⟩ ⟨Nat.le_of_ble_eq_true rfl, Nat.le_of_ble_eq_true rfl⟩ 0 gw_0 rfl rfl hl.1 (Nat.le_of_ble_eq_true rfl) hcs dL_law_902 ?_
  refine w_top e1 ?_
  refine lv_iload hx hb dL_law_905 (lv_at hl 1 rfl) ?_
  refine lv_icmp_eq (tgt := 912) hx hb dL_law_907 (by decide) (fun _ => ?_) (fun c_ => absurd rfl c_)
  refine lv_iload hx hb dL_law_912 (lv_at hl 1 rfl) ?_
  refine lv_if_ne (tgt := 929) hx hb dL_law_914 (by decide) (fun c_k => ?_) (fun c_k => ?_)
  · have hl : lv_has ls 9 [(6, .int bb), (5, .int kc), (0, .ref b), (1, .ref x), (2, .ref (g 0)), (3, .ref o), (4, .int (nI i))] := hl
    refine lv_goto (tgt := 2101) hx hb dL_law_929 (by decide) ?_
    exact K d0 hd0 ls H locs S1 G1 T1 T2 U1 og1 n1 nf1 ha1 hb1 (lv_sub hl [2, 3, 4, 5, 6] rfl) (to_xP hP) (to_xD hD) hS
  · have hl : lv_has ls 9 [(6, .int bb), (5, .int kc), (0, .ref b), (1, .ref x), (2, .ref (g 0)), (3, .ref o), (4, .int (nI i))] := hl
    refine lv_aload_n hx hb dL_law_917 rfl (lv_at hl 5 rfl) ?_
    refine lv_iconst (v := 0) hx hb dL_law_918 (by decide) ?_
    refine va_lald hx hb hE.1 hP 83 2 mo_83 rfl (vp_in_nI (n := 0) (N := 1) (by decide) (by decide)) dL_law_919 ?_
    refine lv_iload hx hb dL_law_920 (lv_at hl 0 rfl) ?_
    refine lv_i2l hx hb dL_law_922 rfl ?_
    refine W.lcmp hx hb dL_law_923 ?_
    refine w_top (lg_self (e2 c_k)) ?_
    refine lv_if_eq (tgt := 929) hx hb dL_law_924 (by decide) (fun _ => ?_) (fun c_ => absurd rfl c_)
    refine lv_goto (tgt := 2101) hx hb dL_law_929 (by decide) ?_
    exact K d0 hd0 ls H locs S1 G1 T1 T2 U1 og1 n1 nf1 ha1 hb1 (lv_sub hl [2, 3, 4, 5, 6] rfl) (to_xP hP) (to_xD hD) hS
set_option maxHeartbeats 4000000 in
set_option maxRecDepth 100000 in
theorem case_12 {p : Program} {e : Env} {s : State} {m : MethodId} {below : List Frame} {meth : Method} {c : Code} {l : Launch} {b L : Nat} {xs : Nat → Int32} {D : va_G} {k : Nat → ClassId} {a tr g t u : Nat → Nat} {x o : Nat} {Q : State → Prop} (hfl : l.stackTraces = false) (hCd : ∀ d : Drawn, CallFix p m c cL_law 9 (s.setDrawn d) #[Value.ref b] lw_all RL) (hE0 : eK D k s) (hX0 : xK s) (hAZ : aZ s) (hX9 : va_X b L xs s s.heap) (hbl : b < s.heap.size) (hL : L ≤ 2048) {i : Nat} (hi : i + 4 ≤ L) {cells slots : Nat} (hcs : cells + 1 ≤ room_1.cells ∧ slots + 6 ≤ room_1.slots) (K : ∀ (d0 : Drawn), s.drawn.sameBut d0 lw_cs → ∀ (ls : Array Slot) (H : Heap) (locs : List Loc) (S G T T0 U : HS) (og : Nat → Int64) (n nf : Nat), RA S G n nf → RB S T n → lv_has ls 9 [(0, .ref b), (1, .ref x), (2, .ref (g 0)), (3, .ref o), (4, .int (nI i))] → va_P D vwCl (xwW k a tr x o S T0 og (mW k g t u G T U [])) H → va_D (fun q : Nat => s.heap.size ≤ q) (xwW k a tr x o S T0 og (mW k g t u G T U [])) → va_S (fun q : Nat => s.heap.size ≤ q) s.heap H locs → W p l e room_1 (s.setDrawn d0) m #[Value.ref b] below meth c H locs (cells + 1) (slots + 6) Q (F0 m 2101 ls [])) {d0 : Drawn} (hd0 : s.drawn.sameBut d0 lw_cs) {ls : Array Slot} {H : Heap} {locs : List Loc} {S G T T0 U : HS} {og : Nat → Int64} {n nf : Nat} (hA9 : RA S G n nf) (hB9 : RB S T n) (hl : lv_has ls 9 [(0, .ref b), (1, .ref x), (2, .ref (g 0)), (3, .ref o), (4, .int (nI i))]) (hP : va_P D vwCl (xwW k a tr x o S T0 og (mW k g t u G T U [])) H) (hD : va_D (fun q : Nat => s.heap.size ≤ q) (xwW k a tr x o S T0 og (mW k g t u G T U []))) (hS : va_S (fun q : Nat => s.heap.size ≤ q) s.heap H locs) : W p l e room_1 (s.setDrawn d0) m #[Value.ref b] below meth c H locs cells slots Q (F0 m 932 ls []) := by
  have hC := hCd d0
  have hx := hC.1
  have hb := hC.2.1
  have hE := eK_drawn hE0 d0
  have hX := xK_drawn hX0 d0
  have hXs : va_X b L xs (s.setDrawn d0) s.heap := va_X.moved (u := s) (U := s.setDrawn d0) (Vm.Alike.refl s.vm) hX9
  refine lv_aload_n hx hb dL_law_932 rfl (lv_at hl 1 rfl) ?_
  refine lv_aload_n hx hb dL_law_933 rfl (lv_at hl 0 rfl) ?_
  refine lv_iload hx hb dL_law_934 (lv_at hl 4 rfl) ?_
  refine lv_iconst (v := 1) hx hb dL_law_936 (by decide) ?_
  refine lv_iadd hx hb dL_law_937 ?_
  refine w_top (show nI i + 1 = nI (i + 1) from nI_add i 1) ?_
  refine va_sld (A := (fun q : Nat => s.heap.size ≤ q)) hx hb hXs hbl (Nat.not_le.mpr hbl) hS (i := nI (i + 1)) (vp_in_nI (by omega) (by omega)) dL_law_938 ?_
  refine w_top (congrArg xs (nI_clamp (n := i + 1) (by omega))) ?_
  refine lv_aload_n hx hb dL_law_939 rfl (lv_at hl 3 rfl) ?_
  obtain ⟨kc, bb, S1, G1, T1, T2, U1, og1, n1, nf1, hLM, hMM, e1, e2, ha1, hb1⟩ := op_placeOf l hfl (D := D) (k := k) (a := a) (tr := tr) (g := g) (t := t) (u := u) (x := x) (o := o) hA9 hB9 T0 U og (xs (i + 1))
  refine c_lS (rest := []) hC hE hX (xZ_drawn hAZ hS _) hP hD hS lo_same (hLM (mW k g t u G T U [])) gw_RL_156 hd_L_placeOf ⟨Nat.le_of_ble_eq_true rfl, Nat.le_of_ble_eq_true rfl⟩ rfl hl.1 (Nat.le_of_ble_eq_true rfl) hcs dL_law_940 (fun H locs hP hD hS => ?_)
  have hP := to_mP hP
  have hD := to_mD hD
  refine lv_istore (lv' := [(5, .int kc), (0, .ref b), (1, .ref x), (2, .ref (g 0)), (3, .ref o), (4, .int (nI i))]) hx hb dL_law_943 hl (by decide) rfl (fun ls hl => ?_)
  refine lv_aload_n hx hb dL_law_945 rfl (lv_at hl 3 rfl) ?_
  refine lv_aload_n hx hb dL_law_946 rfl (lv_at hl 1 rfl) ?_
  refine lv_iload hx hb dL_law_947 (lv_at hl 5 rfl) ?_
  refine lv_iconst (v := 1) hx hb dL_law_949 (by decide) ?_
  refine lv_iadd hx hb dL_law_950 ?_
  refine w_top (show nI i + 1 = nI (i + 1) from nI_add i 1) ?_
  refine va_sld (A := (fun q : Nat => s.heap.size ≤ q)) hx hb hXs hbl (Nat.not_le.mpr hbl) hS (i := nI (i + 1)) (vp_in_nI (by omega) (by omega)) dL_law_951 ?_
  refine w_top (congrArg xs (nI_clamp (n := i + 1) (by omega))) ?_
  refine c_mVi (rest := []) hC hE hP hD hS mw_same (hMM (xwW k a tr x o S1 T2 og1 [])) gc_RL_158 hd_X6_placeOf ⟨rfl, rfl⟩ ⟨Nat.le_of_ble_eq_true rfl, Nat.le_of_ble_eq_true rfl⟩ 0 gw_0 rfl rfl hl.1 (Nat.le_of_ble_eq_true rfl) hcs dL_law_952 (fun H locs hP hD hS => ?_)
  refine lv_istore (lv' := [(6, .int bb), (5, .int kc), (0, .ref b), (1, .ref x), (2, .ref (g 0)), (3, .ref o), (4, .int (nI i))]) hx hb dL_law_955 hl (by decide) rfl (fun ls hl => ?_)
  refine lv_aload_n hx hb dL_law_957 rfl (lv_at hl 4 rfl) ?_
  refine c_pVi (rest := []) hC hE hP (metX6_thrown l G1 T1) gc_RL_117 hd_X6_thrown ⟨rfl, rfl⟩ ⟨Nat.le_of_ble_eq_true rfl, Nat.le_of_ble_eq_true rfl⟩ 0 gw_0 rfl rfl hl.1 (Nat.le_of_ble_eq_true rfl) hcs dL_law_958 ?_
  refine w_top e1 ?_
  refine lv_iload hx hb dL_law_961 (lv_at hl 1 rfl) ?_
  refine lv_icmp_eq (tgt := 968) hx hb dL_law_963 (by decide) (fun _ => ?_) (fun c_ => absurd rfl c_)
  refine lv_iload hx hb dL_law_968 (lv_at hl 1 rfl) ?_
  refine lv_if_ne (tgt := 985) hx hb dL_law_970 (by decide) (fun c_k => ?_) (fun c_k => ?_)
  · have hl : lv_has ls 9 [(6, .int bb), (5, .int kc), (0, .ref b), (1, .ref x), (2, .ref (g 0)), (3, .ref o), (4, .int (nI i))] := hl
    refine lv_goto (tgt := 2101) hx hb dL_law_985 (by decide) ?_
    exact K d0 hd0 ls H locs S1 G1 T1 T2 U1 og1 n1 nf1 ha1 hb1 (lv_sub hl [2, 3, 4, 5, 6] rfl) (to_xP hP) (to_xD hD) hS
  · have hl : lv_has ls 9 [(6, .int bb), (5, .int kc), (0, .ref b), (1, .ref x), (2, .ref (g 0)), (3, .ref o), (4, .int (nI i))] := hl
    refine lv_aload_n hx hb dL_law_973 rfl (lv_at hl 5 rfl) ?_
    refine lv_iconst (v := 0) hx hb dL_law_974 (by decide) ?_
    refine va_lald hx hb hE.1 hP 83 2 mo_83 rfl (vp_in_nI (n := 0) (N := 1) (by decide) (by decide)) dL_law_975 ?_
    refine lv_iload hx hb dL_law_976 (lv_at hl 0 rfl) ?_
    refine lv_i2l hx hb dL_law_978 rfl ?_
    refine W.lcmp hx hb dL_law_979 ?_
    refine w_top (lg_self (e2 c_k)) ?_
    refine lv_if_eq (tgt := 985) hx hb dL_law_980 (by decide) (fun _ => ?_) (fun c_ => absurd rfl c_)
    refine lv_goto (tgt := 2101) hx hb dL_law_985 (by decide) ?_
    exact K d0 hd0 ls H locs S1 G1 T1 T2 U1 og1 n1 nf1 ha1 hb1 (lv_sub hl [2, 3, 4, 5, 6] rfl) (to_xP hP) (to_xD hD) hS
set_option maxHeartbeats 4000000 in
set_option maxRecDepth 100000 in
theorem case_13 {p : Program} {e : Env} {s : State} {m : MethodId} {below : List Frame} {meth : Method} {c : Code} {l : Launch} {b L : Nat} {xs : Nat → Int32} {D : va_G} {k : Nat → ClassId} {a tr g t u : Nat → Nat} {x o : Nat} {Q : State → Prop} (hfl : l.stackTraces = false) (hCd : ∀ d : Drawn, CallFix p m c cL_law 9 (s.setDrawn d) #[Value.ref b] lw_all RL) (hE0 : eK D k s) (hX0 : xK s) (hAZ : aZ s) (hX9 : va_X b L xs s s.heap) (hbl : b < s.heap.size) (hL : L ≤ 2048) {i : Nat} (hi : i + 4 ≤ L) {cells slots : Nat} (hcs : cells + 1 ≤ room_1.cells ∧ slots + 6 ≤ room_1.slots) (K : ∀ (d0 : Drawn), s.drawn.sameBut d0 lw_cs → ∀ (ls : Array Slot) (H : Heap) (locs : List Loc) (S G T T0 U : HS) (og : Nat → Int64) (n nf : Nat), RA S G n nf → RB S T n → lv_has ls 9 [(0, .ref b), (1, .ref x), (2, .ref (g 0)), (3, .ref o), (4, .int (nI i))] → va_P D vwCl (xwW k a tr x o S T0 og (mW k g t u G T U [])) H → va_D (fun q : Nat => s.heap.size ≤ q) (xwW k a tr x o S T0 og (mW k g t u G T U [])) → va_S (fun q : Nat => s.heap.size ≤ q) s.heap H locs → W p l e room_1 (s.setDrawn d0) m #[Value.ref b] below meth c H locs (cells + 1) (slots + 6) Q (F0 m 2101 ls [])) {d0 : Drawn} (hd0 : s.drawn.sameBut d0 lw_cs) {ls : Array Slot} {H : Heap} {locs : List Loc} {S G T T0 U : HS} {og : Nat → Int64} {n nf : Nat} (hA9 : RA S G n nf) (hB9 : RB S T n) (hl : lv_has ls 9 [(0, .ref b), (1, .ref x), (2, .ref (g 0)), (3, .ref o), (4, .int (nI i))]) (hP : va_P D vwCl (xwW k a tr x o S T0 og (mW k g t u G T U [])) H) (hD : va_D (fun q : Nat => s.heap.size ≤ q) (xwW k a tr x o S T0 og (mW k g t u G T U []))) (hS : va_S (fun q : Nat => s.heap.size ≤ q) s.heap H locs) : W p l e room_1 (s.setDrawn d0) m #[Value.ref b] below meth c H locs cells slots Q (F0 m 988 ls []) := by
  have hC := hCd d0
  have hx := hC.1
  have hb := hC.2.1
  have hE := eK_drawn hE0 d0
  have hX := xK_drawn hX0 d0
  have hXs : va_X b L xs (s.setDrawn d0) s.heap := va_X.moved (u := s) (U := s.setDrawn d0) (Vm.Alike.refl s.vm) hX9
  refine lv_aload_n hx hb dL_law_988 rfl (lv_at hl 1 rfl) ?_
  refine lv_aload_n hx hb dL_law_989 rfl (lv_at hl 0 rfl) ?_
  refine lv_iload hx hb dL_law_990 (lv_at hl 4 rfl) ?_
  refine lv_iconst (v := 1) hx hb dL_law_992 (by decide) ?_
  refine lv_iadd hx hb dL_law_993 ?_
  refine w_top (show nI i + 1 = nI (i + 1) from nI_add i 1) ?_
  refine va_sld (A := (fun q : Nat => s.heap.size ≤ q)) hx hb hXs hbl (Nat.not_le.mpr hbl) hS (i := nI (i + 1)) (vp_in_nI (by omega) (by omega)) dL_law_994 ?_
  refine w_top (congrArg xs (nI_clamp (n := i + 1) (by omega))) ?_
  refine lv_aload_n hx hb dL_law_995 rfl (lv_at hl 3 rfl) ?_
  obtain ⟨kc, bb, S1, G1, T1, T2, U1, og1, n1, nf1, hLM, hMM, e1, e2, ha1, hb1⟩ := op_chuteOf l hfl (D := D) (k := k) (a := a) (tr := tr) (g := g) (t := t) (u := u) (x := x) (o := o) hA9 hB9 T0 U og (xs (i + 1))
  refine c_lS (rest := []) hC hE hX (xZ_drawn hAZ hS _) hP hD hS lo_same (hLM (mW k g t u G T U [])) gw_RL_159 hd_L_chuteOf ⟨Nat.le_of_ble_eq_true rfl, Nat.le_of_ble_eq_true rfl⟩ rfl hl.1 (Nat.le_of_ble_eq_true rfl) hcs dL_law_996 (fun H locs hP hD hS => ?_)
  have hP := to_mP hP
  have hD := to_mD hD
  refine lv_istore (lv' := [(5, .int kc), (0, .ref b), (1, .ref x), (2, .ref (g 0)), (3, .ref o), (4, .int (nI i))]) hx hb dL_law_999 hl (by decide) rfl (fun ls hl => ?_)
  refine lv_aload_n hx hb dL_law_1001 rfl (lv_at hl 3 rfl) ?_
  refine lv_aload_n hx hb dL_law_1002 rfl (lv_at hl 1 rfl) ?_
  refine lv_iload hx hb dL_law_1003 (lv_at hl 5 rfl) ?_
  refine lv_iconst (v := 1) hx hb dL_law_1005 (by decide) ?_
  refine lv_iadd hx hb dL_law_1006 ?_
  refine w_top (show nI i + 1 = nI (i + 1) from nI_add i 1) ?_
  refine va_sld (A := (fun q : Nat => s.heap.size ≤ q)) hx hb hXs hbl (Nat.not_le.mpr hbl) hS (i := nI (i + 1)) (vp_in_nI (by omega) (by omega)) dL_law_1007 ?_
  refine w_top (congrArg xs (nI_clamp (n := i + 1) (by omega))) ?_
  refine c_mVi (rest := []) hC hE hP hD hS mw_same (hMM (xwW k a tr x o S1 T2 og1 [])) gc_RL_161 hd_X6_chuteOf ⟨rfl, rfl⟩ ⟨Nat.le_of_ble_eq_true rfl, Nat.le_of_ble_eq_true rfl⟩ 0 gw_0 rfl rfl hl.1 (Nat.le_of_ble_eq_true rfl) hcs dL_law_1008 (fun H locs hP hD hS => ?_)
  refine lv_istore (lv' := [(6, .int bb), (5, .int kc), (0, .ref b), (1, .ref x), (2, .ref (g 0)), (3, .ref o), (4, .int (nI i))]) hx hb dL_law_1011 hl (by decide) rfl (fun ls hl => ?_)
  refine lv_aload_n hx hb dL_law_1013 rfl (lv_at hl 4 rfl) ?_
  refine c_pVi (rest := []) hC hE hP (metX6_thrown l G1 T1) gc_RL_117 hd_X6_thrown ⟨rfl, rfl⟩ ⟨Nat.le_of_ble_eq_true rfl, Nat.le_of_ble_eq_true rfl⟩ 0 gw_0 rfl rfl hl.1 (Nat.le_of_ble_eq_true rfl) hcs dL_law_1014 ?_
  refine w_top e1 ?_
  refine lv_iload hx hb dL_law_1017 (lv_at hl 1 rfl) ?_
  refine lv_icmp_eq (tgt := 1024) hx hb dL_law_1019 (by decide) (fun _ => ?_) (fun c_ => absurd rfl c_)
  refine lv_iload hx hb dL_law_1024 (lv_at hl 1 rfl) ?_
  refine lv_if_ne (tgt := 1041) hx hb dL_law_1026 (by decide) (fun c_k => ?_) (fun c_k => ?_)
  · have hl : lv_has ls 9 [(6, .int bb), (5, .int kc), (0, .ref b), (1, .ref x), (2, .ref (g 0)), (3, .ref o), (4, .int (nI i))] := hl
    refine lv_goto (tgt := 2101) hx hb dL_law_1041 (by decide) ?_
    exact K d0 hd0 ls H locs S1 G1 T1 T2 U1 og1 n1 nf1 ha1 hb1 (lv_sub hl [2, 3, 4, 5, 6] rfl) (to_xP hP) (to_xD hD) hS
  · have hl : lv_has ls 9 [(6, .int bb), (5, .int kc), (0, .ref b), (1, .ref x), (2, .ref (g 0)), (3, .ref o), (4, .int (nI i))] := hl
    refine lv_aload_n hx hb dL_law_1029 rfl (lv_at hl 5 rfl) ?_
    refine lv_iconst (v := 0) hx hb dL_law_1030 (by decide) ?_
    refine va_lald hx hb hE.1 hP 83 2 mo_83 rfl (vp_in_nI (n := 0) (N := 1) (by decide) (by decide)) dL_law_1031 ?_
    refine lv_iload hx hb dL_law_1032 (lv_at hl 0 rfl) ?_
    refine lv_i2l hx hb dL_law_1034 rfl ?_
    refine W.lcmp hx hb dL_law_1035 ?_
    refine w_top (lg_self (e2 c_k)) ?_
    refine lv_if_eq (tgt := 1041) hx hb dL_law_1036 (by decide) (fun _ => ?_) (fun c_ => absurd rfl c_)
    refine lv_goto (tgt := 2101) hx hb dL_law_1041 (by decide) ?_
    exact K d0 hd0 ls H locs S1 G1 T1 T2 U1 og1 n1 nf1 ha1 hb1 (lv_sub hl [2, 3, 4, 5, 6] rfl) (to_xP hP) (to_xD hD) hS
set_option maxHeartbeats 4000000 in
set_option maxRecDepth 100000 in
theorem case_14 {p : Program} {e : Env} {s : State} {m : MethodId} {below : List Frame} {meth : Method} {c : Code} {l : Launch} {b L : Nat} {xs : Nat → Int32} {D : va_G} {k : Nat → ClassId} {a tr g t u : Nat → Nat} {x o : Nat} {Q : State → Prop} (hfl : l.stackTraces = false) (hCd : ∀ d : Drawn, CallFix p m c cL_law 9 (s.setDrawn d) #[Value.ref b] lw_all RL) (hE0 : eK D k s) (hX0 : xK s) (hAZ : aZ s) (hX9 : va_X b L xs s s.heap) (hbl : b < s.heap.size) (hL : L ≤ 2048) {i : Nat} (hi : i + 4 ≤ L) {cells slots : Nat} (hcs : cells + 1 ≤ room_1.cells ∧ slots + 6 ≤ room_1.slots) (K : ∀ (d0 : Drawn), s.drawn.sameBut d0 lw_cs → ∀ (ls : Array Slot) (H : Heap) (locs : List Loc) (S G T T0 U : HS) (og : Nat → Int64) (n nf : Nat), RA S G n nf → RB S T n → lv_has ls 9 [(0, .ref b), (1, .ref x), (2, .ref (g 0)), (3, .ref o), (4, .int (nI i))] → va_P D vwCl (xwW k a tr x o S T0 og (mW k g t u G T U [])) H → va_D (fun q : Nat => s.heap.size ≤ q) (xwW k a tr x o S T0 og (mW k g t u G T U [])) → va_S (fun q : Nat => s.heap.size ≤ q) s.heap H locs → W p l e room_1 (s.setDrawn d0) m #[Value.ref b] below meth c H locs (cells + 1) (slots + 6) Q (F0 m 2101 ls [])) {d0 : Drawn} (hd0 : s.drawn.sameBut d0 lw_cs) {ls : Array Slot} {H : Heap} {locs : List Loc} {S G T T0 U : HS} {og : Nat → Int64} {n nf : Nat} (hA9 : RA S G n nf) (hB9 : RB S T n) (hl : lv_has ls 9 [(0, .ref b), (1, .ref x), (2, .ref (g 0)), (3, .ref o), (4, .int (nI i))]) (hP : va_P D vwCl (xwW k a tr x o S T0 og (mW k g t u G T U [])) H) (hD : va_D (fun q : Nat => s.heap.size ≤ q) (xwW k a tr x o S T0 og (mW k g t u G T U []))) (hS : va_S (fun q : Nat => s.heap.size ≤ q) s.heap H locs) : W p l e room_1 (s.setDrawn d0) m #[Value.ref b] below meth c H locs cells slots Q (F0 m 1044 ls []) := by
  have hC := hCd d0
  have hx := hC.1
  have hb := hC.2.1
  have hE := eK_drawn hE0 d0
  have hX := xK_drawn hX0 d0
  have hXs : va_X b L xs (s.setDrawn d0) s.heap := va_X.moved (u := s) (U := s.setDrawn d0) (Vm.Alike.refl s.vm) hX9
  refine lv_aload_n hx hb dL_law_1044 rfl (lv_at hl 1 rfl) ?_
  refine lv_aload_n hx hb dL_law_1045 rfl (lv_at hl 0 rfl) ?_
  refine lv_iload hx hb dL_law_1046 (lv_at hl 4 rfl) ?_
  refine lv_iconst (v := 1) hx hb dL_law_1048 (by decide) ?_
  refine lv_iadd hx hb dL_law_1049 ?_
  refine w_top (show nI i + 1 = nI (i + 1) from nI_add i 1) ?_
  refine va_sld (A := (fun q : Nat => s.heap.size ≤ q)) hx hb hXs hbl (Nat.not_le.mpr hbl) hS (i := nI (i + 1)) (vp_in_nI (by omega) (by omega)) dL_law_1050 ?_
  refine w_top (congrArg xs (nI_clamp (n := i + 1) (by omega))) ?_
  refine lv_aload_n hx hb dL_law_1051 rfl (lv_at hl 3 rfl) ?_
  obtain ⟨kc, bb, S1, G1, T1, T2, U1, og1, n1, nf1, hLM, hMM, e1, e2, ha1, hb1⟩ := op_readFor l hfl (D := D) (k := k) (a := a) (tr := tr) (g := g) (t := t) (u := u) (x := x) (o := o) hA9 hB9 T0 U og (xs (i + 1))
  refine c_lS (rest := []) hC hE hX (xZ_drawn hAZ hS _) hP hD hS lo_same (hLM (mW k g t u G T U [])) gw_RL_162 hd_L_readFor ⟨Nat.le_of_ble_eq_true rfl, Nat.le_of_ble_eq_true rfl⟩ rfl hl.1 (Nat.le_of_ble_eq_true rfl) hcs dL_law_1052 (fun H locs hP hD hS => ?_)
  have hP := to_mP hP
  have hD := to_mD hD
  refine lv_istore (lv' := [(5, .int kc), (0, .ref b), (1, .ref x), (2, .ref (g 0)), (3, .ref o), (4, .int (nI i))]) hx hb dL_law_1055 hl (by decide) rfl (fun ls hl => ?_)
  refine lv_aload_n hx hb dL_law_1057 rfl (lv_at hl 3 rfl) ?_
  refine lv_aload_n hx hb dL_law_1058 rfl (lv_at hl 1 rfl) ?_
  refine lv_iload hx hb dL_law_1059 (lv_at hl 5 rfl) ?_
  refine lv_iconst (v := 1) hx hb dL_law_1061 (by decide) ?_
  refine lv_iadd hx hb dL_law_1062 ?_
  refine w_top (show nI i + 1 = nI (i + 1) from nI_add i 1) ?_
  refine va_sld (A := (fun q : Nat => s.heap.size ≤ q)) hx hb hXs hbl (Nat.not_le.mpr hbl) hS (i := nI (i + 1)) (vp_in_nI (by omega) (by omega)) dL_law_1063 ?_
  refine w_top (congrArg xs (nI_clamp (n := i + 1) (by omega))) ?_
  refine c_mVi (rest := []) hC hE hP hD hS mw_same (hMM (xwW k a tr x o S1 T2 og1 [])) gc_RL_164 hd_X6_readFor ⟨rfl, rfl⟩ ⟨Nat.le_of_ble_eq_true rfl, Nat.le_of_ble_eq_true rfl⟩ 0 gw_0 rfl rfl hl.1 (Nat.le_of_ble_eq_true rfl) hcs dL_law_1064 (fun H locs hP hD hS => ?_)
  refine lv_istore (lv' := [(6, .int bb), (5, .int kc), (0, .ref b), (1, .ref x), (2, .ref (g 0)), (3, .ref o), (4, .int (nI i))]) hx hb dL_law_1067 hl (by decide) rfl (fun ls hl => ?_)
  refine lv_aload_n hx hb dL_law_1069 rfl (lv_at hl 4 rfl) ?_
  refine c_pVi (rest := []) hC hE hP (metX6_thrown l G1 T1) gc_RL_117 hd_X6_thrown ⟨rfl, rfl⟩ ⟨Nat.le_of_ble_eq_true rfl, Nat.le_of_ble_eq_true rfl⟩ 0 gw_0 rfl rfl hl.1 (Nat.le_of_ble_eq_true rfl) hcs dL_law_1070 ?_
  refine w_top e1 ?_
  refine lv_iload hx hb dL_law_1073 (lv_at hl 1 rfl) ?_
  refine lv_icmp_eq (tgt := 1080) hx hb dL_law_1075 (by decide) (fun _ => ?_) (fun c_ => absurd rfl c_)
  refine lv_iload hx hb dL_law_1080 (lv_at hl 1 rfl) ?_
  refine lv_if_ne (tgt := 1097) hx hb dL_law_1082 (by decide) (fun c_k => ?_) (fun c_k => ?_)
  · have hl : lv_has ls 9 [(6, .int bb), (5, .int kc), (0, .ref b), (1, .ref x), (2, .ref (g 0)), (3, .ref o), (4, .int (nI i))] := hl
    refine lv_goto (tgt := 2101) hx hb dL_law_1097 (by decide) ?_
    exact K d0 hd0 ls H locs S1 G1 T1 T2 U1 og1 n1 nf1 ha1 hb1 (lv_sub hl [2, 3, 4, 5, 6] rfl) (to_xP hP) (to_xD hD) hS
  · have hl : lv_has ls 9 [(6, .int bb), (5, .int kc), (0, .ref b), (1, .ref x), (2, .ref (g 0)), (3, .ref o), (4, .int (nI i))] := hl
    refine lv_aload_n hx hb dL_law_1085 rfl (lv_at hl 5 rfl) ?_
    refine lv_iconst (v := 0) hx hb dL_law_1086 (by decide) ?_
    refine va_lald hx hb hE.1 hP 83 2 mo_83 rfl (vp_in_nI (n := 0) (N := 1) (by decide) (by decide)) dL_law_1087 ?_
    refine lv_iload hx hb dL_law_1088 (lv_at hl 0 rfl) ?_
    refine lv_i2l hx hb dL_law_1090 rfl ?_
    refine W.lcmp hx hb dL_law_1091 ?_
    refine w_top (lg_self (e2 c_k)) ?_
    refine lv_if_eq (tgt := 1097) hx hb dL_law_1092 (by decide) (fun _ => ?_) (fun c_ => absurd rfl c_)
    refine lv_goto (tgt := 2101) hx hb dL_law_1097 (by decide) ?_
    exact K d0 hd0 ls H locs S1 G1 T1 T2 U1 og1 n1 nf1 ha1 hb1 (lv_sub hl [2, 3, 4, 5, 6] rfl) (to_xP hP) (to_xD hD) hS
set_option maxHeartbeats 4000000 in
set_option maxRecDepth 100000 in
theorem case_15 {p : Program} {e : Env} {s : State} {m : MethodId} {below : List Frame} {meth : Method} {c : Code} {l : Launch} {b L : Nat} {xs : Nat → Int32} {D : va_G} {k : Nat → ClassId} {a tr g t u : Nat → Nat} {x o : Nat} {Q : State → Prop} (hfl : l.stackTraces = false) (hCd : ∀ d : Drawn, CallFix p m c cL_law 9 (s.setDrawn d) #[Value.ref b] lw_all RL) (hE0 : eK D k s) (hX0 : xK s) (hAZ : aZ s) (hX9 : va_X b L xs s s.heap) (hbl : b < s.heap.size) (hL : L ≤ 2048) {i : Nat} (hi : i + 4 ≤ L) {cells slots : Nat} (hcs : cells + 1 ≤ room_1.cells ∧ slots + 6 ≤ room_1.slots) (K : ∀ (d0 : Drawn), s.drawn.sameBut d0 lw_cs → ∀ (ls : Array Slot) (H : Heap) (locs : List Loc) (S G T T0 U : HS) (og : Nat → Int64) (n nf : Nat), RA S G n nf → RB S T n → lv_has ls 9 [(0, .ref b), (1, .ref x), (2, .ref (g 0)), (3, .ref o), (4, .int (nI i))] → va_P D vwCl (xwW k a tr x o S T0 og (mW k g t u G T U [])) H → va_D (fun q : Nat => s.heap.size ≤ q) (xwW k a tr x o S T0 og (mW k g t u G T U [])) → va_S (fun q : Nat => s.heap.size ≤ q) s.heap H locs → W p l e room_1 (s.setDrawn d0) m #[Value.ref b] below meth c H locs (cells + 1) (slots + 6) Q (F0 m 2101 ls [])) {d0 : Drawn} (hd0 : s.drawn.sameBut d0 lw_cs) {ls : Array Slot} {H : Heap} {locs : List Loc} {S G T T0 U : HS} {og : Nat → Int64} {n nf : Nat} (hA9 : RA S G n nf) (hB9 : RB S T n) (hl : lv_has ls 9 [(0, .ref b), (1, .ref x), (2, .ref (g 0)), (3, .ref o), (4, .int (nI i))]) (hP : va_P D vwCl (xwW k a tr x o S T0 og (mW k g t u G T U [])) H) (hD : va_D (fun q : Nat => s.heap.size ≤ q) (xwW k a tr x o S T0 og (mW k g t u G T U []))) (hS : va_S (fun q : Nat => s.heap.size ≤ q) s.heap H locs) : W p l e room_1 (s.setDrawn d0) m #[Value.ref b] below meth c H locs cells slots Q (F0 m 1100 ls []) := by
  have hC := hCd d0
  have hx := hC.1
  have hb := hC.2.1
  have hE := eK_drawn hE0 d0
  have hX := xK_drawn hX0 d0
  have hXs : va_X b L xs (s.setDrawn d0) s.heap := va_X.moved (u := s) (U := s.setDrawn d0) (Vm.Alike.refl s.vm) hX9
  refine lv_aload_n hx hb dL_law_1100 rfl (lv_at hl 1 rfl) ?_
  refine lv_aload_n hx hb dL_law_1101 rfl (lv_at hl 0 rfl) ?_
  refine lv_iload hx hb dL_law_1102 (lv_at hl 4 rfl) ?_
  refine lv_iconst (v := 1) hx hb dL_law_1104 (by decide) ?_
  refine lv_iadd hx hb dL_law_1105 ?_
  refine w_top (show nI i + 1 = nI (i + 1) from nI_add i 1) ?_
  refine va_sld (A := (fun q : Nat => s.heap.size ≤ q)) hx hb hXs hbl (Nat.not_le.mpr hbl) hS (i := nI (i + 1)) (vp_in_nI (by omega) (by omega)) dL_law_1106 ?_
  refine w_top (congrArg xs (nI_clamp (n := i + 1) (by omega))) ?_
  refine lv_aload_n hx hb dL_law_1107 rfl (lv_at hl 3 rfl) ?_
  obtain ⟨kc, bb, S1, G1, T1, T2, U1, og1, n1, nf1, hLM, hMM, e1, e2, ha1, hb1⟩ := op_missesOf l hfl (D := D) (k := k) (a := a) (tr := tr) (g := g) (t := t) (u := u) (x := x) (o := o) hA9 hB9 T0 U og (xs (i + 1))
  refine c_lS (rest := []) hC hE hX (xZ_drawn hAZ hS _) hP hD hS lo_same (hLM (mW k g t u G T U [])) gw_RL_165 hd_L_missesOf ⟨Nat.le_of_ble_eq_true rfl, Nat.le_of_ble_eq_true rfl⟩ rfl hl.1 (Nat.le_of_ble_eq_true rfl) hcs dL_law_1108 (fun H locs hP hD hS => ?_)
  have hP := to_mP hP
  have hD := to_mD hD
  refine lv_istore (lv' := [(5, .int kc), (0, .ref b), (1, .ref x), (2, .ref (g 0)), (3, .ref o), (4, .int (nI i))]) hx hb dL_law_1111 hl (by decide) rfl (fun ls hl => ?_)
  refine lv_aload_n hx hb dL_law_1113 rfl (lv_at hl 3 rfl) ?_
  refine lv_aload_n hx hb dL_law_1114 rfl (lv_at hl 1 rfl) ?_
  refine lv_iload hx hb dL_law_1115 (lv_at hl 5 rfl) ?_
  refine lv_iconst (v := 1) hx hb dL_law_1117 (by decide) ?_
  refine lv_iadd hx hb dL_law_1118 ?_
  refine w_top (show nI i + 1 = nI (i + 1) from nI_add i 1) ?_
  refine va_sld (A := (fun q : Nat => s.heap.size ≤ q)) hx hb hXs hbl (Nat.not_le.mpr hbl) hS (i := nI (i + 1)) (vp_in_nI (by omega) (by omega)) dL_law_1119 ?_
  refine w_top (congrArg xs (nI_clamp (n := i + 1) (by omega))) ?_
  refine c_mVi (rest := []) hC hE hP hD hS mw_same (hMM (xwW k a tr x o S1 T2 og1 [])) gc_RL_167 hd_X6_missesOf ⟨rfl, rfl⟩ ⟨Nat.le_of_ble_eq_true rfl, Nat.le_of_ble_eq_true rfl⟩ 0 gw_0 rfl rfl hl.1 (Nat.le_of_ble_eq_true rfl) hcs dL_law_1120 (fun H locs hP hD hS => ?_)
  refine lv_istore (lv' := [(6, .int bb), (5, .int kc), (0, .ref b), (1, .ref x), (2, .ref (g 0)), (3, .ref o), (4, .int (nI i))]) hx hb dL_law_1123 hl (by decide) rfl (fun ls hl => ?_)
  refine lv_aload_n hx hb dL_law_1125 rfl (lv_at hl 4 rfl) ?_
  refine c_pVi (rest := []) hC hE hP (metX6_thrown l G1 T1) gc_RL_117 hd_X6_thrown ⟨rfl, rfl⟩ ⟨Nat.le_of_ble_eq_true rfl, Nat.le_of_ble_eq_true rfl⟩ 0 gw_0 rfl rfl hl.1 (Nat.le_of_ble_eq_true rfl) hcs dL_law_1126 ?_
  refine w_top e1 ?_
  refine lv_iload hx hb dL_law_1129 (lv_at hl 1 rfl) ?_
  refine lv_icmp_eq (tgt := 1136) hx hb dL_law_1131 (by decide) (fun _ => ?_) (fun c_ => absurd rfl c_)
  refine lv_iload hx hb dL_law_1136 (lv_at hl 1 rfl) ?_
  refine lv_if_ne (tgt := 1153) hx hb dL_law_1138 (by decide) (fun c_k => ?_) (fun c_k => ?_)
  · have hl : lv_has ls 9 [(6, .int bb), (5, .int kc), (0, .ref b), (1, .ref x), (2, .ref (g 0)), (3, .ref o), (4, .int (nI i))] := hl
    refine lv_goto (tgt := 2101) hx hb dL_law_1153 (by decide) ?_
    exact K d0 hd0 ls H locs S1 G1 T1 T2 U1 og1 n1 nf1 ha1 hb1 (lv_sub hl [2, 3, 4, 5, 6] rfl) (to_xP hP) (to_xD hD) hS
  · have hl : lv_has ls 9 [(6, .int bb), (5, .int kc), (0, .ref b), (1, .ref x), (2, .ref (g 0)), (3, .ref o), (4, .int (nI i))] := hl
    refine lv_aload_n hx hb dL_law_1141 rfl (lv_at hl 5 rfl) ?_
    refine lv_iconst (v := 0) hx hb dL_law_1142 (by decide) ?_
    refine va_lald hx hb hE.1 hP 83 2 mo_83 rfl (vp_in_nI (n := 0) (N := 1) (by decide) (by decide)) dL_law_1143 ?_
    refine lv_iload hx hb dL_law_1144 (lv_at hl 0 rfl) ?_
    refine lv_i2l hx hb dL_law_1146 rfl ?_
    refine W.lcmp hx hb dL_law_1147 ?_
    refine w_top (lg_self (e2 c_k)) ?_
    refine lv_if_eq (tgt := 1153) hx hb dL_law_1148 (by decide) (fun _ => ?_) (fun c_ => absurd rfl c_)
    refine lv_goto (tgt := 2101) hx hb dL_law_1153 (by decide) ?_
    exact K d0 hd0 ls H locs S1 G1 T1 T2 U1 og1 n1 nf1 ha1 hb1 (lv_sub hl [2, 3, 4, 5, 6] rfl) (to_xP hP) (to_xD hD) hS
set_option maxHeartbeats 4000000 in
set_option maxRecDepth 100000 in
theorem case_16 {p : Program} {e : Env} {s : State} {m : MethodId} {below : List Frame} {meth : Method} {c : Code} {l : Launch} {b L : Nat} {xs : Nat → Int32} {D : va_G} {k : Nat → ClassId} {a tr g t u : Nat → Nat} {x o : Nat} {Q : State → Prop} (hfl : l.stackTraces = false) (hCd : ∀ d : Drawn, CallFix p m c cL_law 9 (s.setDrawn d) #[Value.ref b] lw_all RL) (hE0 : eK D k s) (hX0 : xK s) (hAZ : aZ s) (hX9 : va_X b L xs s s.heap) (hbl : b < s.heap.size) (hL : L ≤ 2048) {i : Nat} (hi : i + 4 ≤ L) {cells slots : Nat} (hcs : cells + 1 ≤ room_1.cells ∧ slots + 6 ≤ room_1.slots) (K : ∀ (d0 : Drawn), s.drawn.sameBut d0 lw_cs → ∀ (ls : Array Slot) (H : Heap) (locs : List Loc) (S G T T0 U : HS) (og : Nat → Int64) (n nf : Nat), RA S G n nf → RB S T n → lv_has ls 9 [(0, .ref b), (1, .ref x), (2, .ref (g 0)), (3, .ref o), (4, .int (nI i))] → va_P D vwCl (xwW k a tr x o S T0 og (mW k g t u G T U [])) H → va_D (fun q : Nat => s.heap.size ≤ q) (xwW k a tr x o S T0 og (mW k g t u G T U [])) → va_S (fun q : Nat => s.heap.size ≤ q) s.heap H locs → W p l e room_1 (s.setDrawn d0) m #[Value.ref b] below meth c H locs (cells + 1) (slots + 6) Q (F0 m 2101 ls [])) {d0 : Drawn} (hd0 : s.drawn.sameBut d0 lw_cs) {ls : Array Slot} {H : Heap} {locs : List Loc} {S G T T0 U : HS} {og : Nat → Int64} {n nf : Nat} (hA9 : RA S G n nf) (hB9 : RB S T n) (hl : lv_has ls 9 [(0, .ref b), (1, .ref x), (2, .ref (g 0)), (3, .ref o), (4, .int (nI i))]) (hP : va_P D vwCl (xwW k a tr x o S T0 og (mW k g t u G T U [])) H) (hD : va_D (fun q : Nat => s.heap.size ≤ q) (xwW k a tr x o S T0 og (mW k g t u G T U []))) (hS : va_S (fun q : Nat => s.heap.size ≤ q) s.heap H locs) : W p l e room_1 (s.setDrawn d0) m #[Value.ref b] below meth c H locs cells slots Q (F0 m 1156 ls []) := by
  have hC := hCd d0
  have hx := hC.1
  have hb := hC.2.1
  have hE := eK_drawn hE0 d0
  have hX := xK_drawn hX0 d0
  have hXs : va_X b L xs (s.setDrawn d0) s.heap := va_X.moved (u := s) (U := s.setDrawn d0) (Vm.Alike.refl s.vm) hX9
  refine lv_aload_n hx hb dL_law_1156 rfl (lv_at hl 1 rfl) ?_
  refine lv_aload_n hx hb dL_law_1157 rfl (lv_at hl 0 rfl) ?_
  refine lv_iload hx hb dL_law_1158 (lv_at hl 4 rfl) ?_
  refine lv_iconst (v := 1) hx hb dL_law_1160 (by decide) ?_
  refine lv_iadd hx hb dL_law_1161 ?_
  refine w_top (show nI i + 1 = nI (i + 1) from nI_add i 1) ?_
  refine va_sld (A := (fun q : Nat => s.heap.size ≤ q)) hx hb hXs hbl (Nat.not_le.mpr hbl) hS (i := nI (i + 1)) (vp_in_nI (by omega) (by omega)) dL_law_1162 ?_
  refine w_top (congrArg xs (nI_clamp (n := i + 1) (by omega))) ?_
  refine lv_aload_n hx hb dL_law_1163 rfl (lv_at hl 3 rfl) ?_
  obtain ⟨kc, bb, S1, G1, T1, T2, U1, og1, n1, nf1, hLM, hMM, e1, e2, ha1, hb1⟩ := op_isMisrouted l hfl (D := D) (k := k) (a := a) (tr := tr) (g := g) (t := t) (u := u) (x := x) (o := o) hA9 hB9 T0 U og (xs (i + 1))
  refine c_lS (rest := []) hC hE hX (xZ_drawn hAZ hS _) hP hD hS lo_same (hLM (mW k g t u G T U [])) gw_RL_168 hd_L_isMisrouted ⟨Nat.le_of_ble_eq_true rfl, Nat.le_of_ble_eq_true rfl⟩ rfl hl.1 (Nat.le_of_ble_eq_true rfl) hcs dL_law_1164 (fun H locs hP hD hS => ?_)
  have hP := to_mP hP
  have hD := to_mD hD
  refine lv_istore (lv' := [(5, .int kc), (0, .ref b), (1, .ref x), (2, .ref (g 0)), (3, .ref o), (4, .int (nI i))]) hx hb dL_law_1167 hl (by decide) rfl (fun ls hl => ?_)
  refine lv_aload_n hx hb dL_law_1169 rfl (lv_at hl 3 rfl) ?_
  refine lv_aload_n hx hb dL_law_1170 rfl (lv_at hl 1 rfl) ?_
  refine lv_iload hx hb dL_law_1171 (lv_at hl 5 rfl) ?_
  refine lv_iconst (v := 1) hx hb dL_law_1173 (by decide) ?_
  refine lv_iadd hx hb dL_law_1174 ?_
  refine w_top (show nI i + 1 = nI (i + 1) from nI_add i 1) ?_
  refine va_sld (A := (fun q : Nat => s.heap.size ≤ q)) hx hb hXs hbl (Nat.not_le.mpr hbl) hS (i := nI (i + 1)) (vp_in_nI (by omega) (by omega)) dL_law_1175 ?_
  refine w_top (congrArg xs (nI_clamp (n := i + 1) (by omega))) ?_
  refine c_mVi (rest := []) hC hE hP hD hS mw_same (hMM (xwW k a tr x o S1 T2 og1 [])) gc_RL_170 hd_X6_isMisrouted ⟨rfl, rfl⟩ ⟨Nat.le_of_ble_eq_true rfl, Nat.le_of_ble_eq_true rfl⟩ 0 gw_0 rfl rfl hl.1 (Nat.le_of_ble_eq_true rfl) hcs dL_law_1176 (fun H locs hP hD hS => ?_)
  refine lv_istore (lv' := [(6, .int bb), (5, .int kc), (0, .ref b), (1, .ref x), (2, .ref (g 0)), (3, .ref o), (4, .int (nI i))]) hx hb dL_law_1179 hl (by decide) rfl (fun ls hl => ?_)
  refine lv_aload_n hx hb dL_law_1181 rfl (lv_at hl 4 rfl) ?_
  refine c_pVi (rest := []) hC hE hP (metX6_thrown l G1 T1) gc_RL_117 hd_X6_thrown ⟨rfl, rfl⟩ ⟨Nat.le_of_ble_eq_true rfl, Nat.le_of_ble_eq_true rfl⟩ 0 gw_0 rfl rfl hl.1 (Nat.le_of_ble_eq_true rfl) hcs dL_law_1182 ?_
  refine w_top e1 ?_
  refine lv_iload hx hb dL_law_1185 (lv_at hl 1 rfl) ?_
  refine lv_icmp_eq (tgt := 1192) hx hb dL_law_1187 (by decide) (fun _ => ?_) (fun c_ => absurd rfl c_)
  refine lv_iload hx hb dL_law_1192 (lv_at hl 1 rfl) ?_
  refine lv_if_ne (tgt := 1216) hx hb dL_law_1194 (by decide) (fun c_k => ?_) (fun c_k => ?_)
  · have hl : lv_has ls 9 [(6, .int bb), (5, .int kc), (0, .ref b), (1, .ref x), (2, .ref (g 0)), (3, .ref o), (4, .int (nI i))] := hl
    refine lv_goto (tgt := 2101) hx hb dL_law_1216 (by decide) ?_
    exact K d0 hd0 ls H locs S1 G1 T1 T2 U1 og1 n1 nf1 ha1 hb1 (lv_sub hl [2, 3, 4, 5, 6] rfl) (to_xP hP) (to_xD hD) hS
  · have hl : lv_has ls 9 [(6, .int bb), (5, .int kc), (0, .ref b), (1, .ref x), (2, .ref (g 0)), (3, .ref o), (4, .int (nI i))] := hl
    refine lv_aload_n hx hb dL_law_1197 rfl (lv_at hl 5 rfl) ?_
    refine lv_iconst (v := 0) hx hb dL_law_1198 (by decide) ?_
    refine va_lald hx hb hE.1 hP 83 2 mo_83 rfl (vp_in_nI (n := 0) (N := 1) (by decide) (by decide)) dL_law_1199 ?_
    refine lv_iload hx hb dL_law_1200 (lv_at hl 0 rfl) ?_
    refine lv_if_eq (tgt := 1209) hx hb dL_law_1202 (by decide) (fun c_b0 => ?_) (fun c_b1 => ?_)
    · have hl : lv_has ls 9 [(6, .int bb), (5, .int kc), (0, .ref b), (1, .ref x), (2, .ref (g 0)), (3, .ref o), (4, .int (nI i))] := hl
      refine lv_lconst (v := 0) hx hb dL_law_1209 (by decide) ?_
      refine W.lcmp hx hb dL_law_1210 ?_
      refine w_top (lg_self ((e2 c_k).1 c_b0)) ?_
      refine lv_if_eq (tgt := 1216) hx hb dL_law_1211 (by decide) (fun _ => ?_) (fun c_ => absurd rfl c_)
      refine lv_goto (tgt := 2101) hx hb dL_law_1216 (by decide) ?_
      exact K d0 hd0 ls H locs S1 G1 T1 T2 U1 og1 n1 nf1 ha1 hb1 (lv_sub hl [2, 3, 4, 5, 6] rfl) (to_xP hP) (to_xD hD) hS
    · have hl : lv_has ls 9 [(6, .int bb), (5, .int kc), (0, .ref b), (1, .ref x), (2, .ref (g 0)), (3, .ref o), (4, .int (nI i))] := hl
      refine lv_lconst (v := 1) hx hb dL_law_1205 (by decide) ?_
      refine lv_goto (tgt := 1210) hx hb dL_law_1206 (by decide) ?_
      refine W.lcmp hx hb dL_law_1210 ?_
      refine w_top (lg_self ((e2 c_k).2 c_b1)) ?_
      refine lv_if_eq (tgt := 1216) hx hb dL_law_1211 (by decide) (fun _ => ?_) (fun c_ => absurd rfl c_)
      refine lv_goto (tgt := 2101) hx hb dL_law_1216 (by decide) ?_
      exact K d0 hd0 ls H locs S1 G1 T1 T2 U1 og1 n1 nf1 ha1 hb1 (lv_sub hl [2, 3, 4, 5, 6] rfl) (to_xP hP) (to_xD hD) hS
set_option maxHeartbeats 4000000 in
set_option maxRecDepth 100000 in
theorem case_17 {p : Program} {e : Env} {s : State} {m : MethodId} {below : List Frame} {meth : Method} {c : Code} {l : Launch} {b L : Nat} {xs : Nat → Int32} {D : va_G} {k : Nat → ClassId} {a tr g t u : Nat → Nat} {x o : Nat} {Q : State → Prop} (hfl : l.stackTraces = false) (hCd : ∀ d : Drawn, CallFix p m c cL_law 9 (s.setDrawn d) #[Value.ref b] lw_all RL) (hE0 : eK D k s) (hX0 : xK s) (hAZ : aZ s) (hX9 : va_X b L xs s s.heap) (hbl : b < s.heap.size) (hL : L ≤ 2048) {i : Nat} (hi : i + 4 ≤ L) {cells slots : Nat} (hcs : cells + 1 ≤ room_1.cells ∧ slots + 6 ≤ room_1.slots) (K : ∀ (d0 : Drawn), s.drawn.sameBut d0 lw_cs → ∀ (ls : Array Slot) (H : Heap) (locs : List Loc) (S G T T0 U : HS) (og : Nat → Int64) (n nf : Nat), RA S G n nf → RB S T n → lv_has ls 9 [(0, .ref b), (1, .ref x), (2, .ref (g 0)), (3, .ref o), (4, .int (nI i))] → va_P D vwCl (xwW k a tr x o S T0 og (mW k g t u G T U [])) H → va_D (fun q : Nat => s.heap.size ≤ q) (xwW k a tr x o S T0 og (mW k g t u G T U [])) → va_S (fun q : Nat => s.heap.size ≤ q) s.heap H locs → W p l e room_1 (s.setDrawn d0) m #[Value.ref b] below meth c H locs (cells + 1) (slots + 6) Q (F0 m 2101 ls [])) {d0 : Drawn} (hd0 : s.drawn.sameBut d0 lw_cs) {ls : Array Slot} {H : Heap} {locs : List Loc} {S G T T0 U : HS} {og : Nat → Int64} {n nf : Nat} (hA9 : RA S G n nf) (hB9 : RB S T n) (hl : lv_has ls 9 [(0, .ref b), (1, .ref x), (2, .ref (g 0)), (3, .ref o), (4, .int (nI i))]) (hP : va_P D vwCl (xwW k a tr x o S T0 og (mW k g t u G T U [])) H) (hD : va_D (fun q : Nat => s.heap.size ≤ q) (xwW k a tr x o S T0 og (mW k g t u G T U []))) (hS : va_S (fun q : Nat => s.heap.size ≤ q) s.heap H locs) : W p l e room_1 (s.setDrawn d0) m #[Value.ref b] below meth c H locs cells slots Q (F0 m 1219 ls []) := by
  have hC := hCd d0
  have hx := hC.1
  have hb := hC.2.1
  have hE := eK_drawn hE0 d0
  have hX := xK_drawn hX0 d0
  have hXs : va_X b L xs (s.setDrawn d0) s.heap := va_X.moved (u := s) (U := s.setDrawn d0) (Vm.Alike.refl s.vm) hX9
  refine lv_aload_n hx hb dL_law_1219 rfl (lv_at hl 1 rfl) ?_
  refine lv_aload_n hx hb dL_law_1220 rfl (lv_at hl 0 rfl) ?_
  refine lv_iload hx hb dL_law_1221 (lv_at hl 4 rfl) ?_
  refine lv_iconst (v := 1) hx hb dL_law_1223 (by decide) ?_
  refine lv_iadd hx hb dL_law_1224 ?_
  refine w_top (show nI i + 1 = nI (i + 1) from nI_add i 1) ?_
  refine va_sld (A := (fun q : Nat => s.heap.size ≤ q)) hx hb hXs hbl (Nat.not_le.mpr hbl) hS (i := nI (i + 1)) (vp_in_nI (by omega) (by omega)) dL_law_1225 ?_
  refine w_top (congrArg xs (nI_clamp (n := i + 1) (by omega))) ?_
  refine lv_aload_n hx hb dL_law_1226 rfl (lv_at hl 3 rfl) ?_
  obtain ⟨kc, bb, S1, G1, T1, T2, U1, og1, n1, nf1, hLM, hMM, e1, e2, ha1, hb1⟩ := op_hasOpenFile l hfl (D := D) (k := k) (a := a) (tr := tr) (g := g) (t := t) (u := u) (x := x) (o := o) hA9 hB9 T0 U og (xs (i + 1))
  refine c_lS (rest := []) hC hE hX (xZ_drawn hAZ hS _) hP hD hS lo_same (hLM (mW k g t u G T U [])) gw_RL_171 hd_L_hasOpenFile ⟨Nat.le_of_ble_eq_true rfl, Nat.le_of_ble_eq_true rfl⟩ rfl hl.1 (Nat.le_of_ble_eq_true rfl) hcs dL_law_1227 (fun H locs hP hD hS => ?_)
  have hP := to_mP hP
  have hD := to_mD hD
  refine lv_istore (lv' := [(5, .int kc), (0, .ref b), (1, .ref x), (2, .ref (g 0)), (3, .ref o), (4, .int (nI i))]) hx hb dL_law_1230 hl (by decide) rfl (fun ls hl => ?_)
  refine lv_aload_n hx hb dL_law_1232 rfl (lv_at hl 3 rfl) ?_
  refine lv_aload_n hx hb dL_law_1233 rfl (lv_at hl 1 rfl) ?_
  refine lv_iload hx hb dL_law_1234 (lv_at hl 5 rfl) ?_
  refine lv_iconst (v := 1) hx hb dL_law_1236 (by decide) ?_
  refine lv_iadd hx hb dL_law_1237 ?_
  refine w_top (show nI i + 1 = nI (i + 1) from nI_add i 1) ?_
  refine va_sld (A := (fun q : Nat => s.heap.size ≤ q)) hx hb hXs hbl (Nat.not_le.mpr hbl) hS (i := nI (i + 1)) (vp_in_nI (by omega) (by omega)) dL_law_1238 ?_
  refine w_top (congrArg xs (nI_clamp (n := i + 1) (by omega))) ?_
  refine c_mVi (rest := []) hC hE hP hD hS mw_same (hMM (xwW k a tr x o S1 T2 og1 [])) gc_RL_173 hd_X6_hasOpenFile ⟨rfl, rfl⟩ ⟨Nat.le_of_ble_eq_true rfl, Nat.le_of_ble_eq_true rfl⟩ 0 gw_0 rfl rfl hl.1 (Nat.le_of_ble_eq_true rfl) hcs dL_law_1239 (fun H locs hP hD hS => ?_)
  refine lv_istore (lv' := [(6, .int bb), (5, .int kc), (0, .ref b), (1, .ref x), (2, .ref (g 0)), (3, .ref o), (4, .int (nI i))]) hx hb dL_law_1242 hl (by decide) rfl (fun ls hl => ?_)
  refine lv_aload_n hx hb dL_law_1244 rfl (lv_at hl 4 rfl) ?_
  refine c_pVi (rest := []) hC hE hP (metX6_thrown l G1 T1) gc_RL_117 hd_X6_thrown ⟨rfl, rfl⟩ ⟨Nat.le_of_ble_eq_true rfl, Nat.le_of_ble_eq_true rfl⟩ 0 gw_0 rfl rfl hl.1 (Nat.le_of_ble_eq_true rfl) hcs dL_law_1245 ?_
  refine w_top e1 ?_
  refine lv_iload hx hb dL_law_1248 (lv_at hl 1 rfl) ?_
  refine lv_icmp_eq (tgt := 1255) hx hb dL_law_1250 (by decide) (fun _ => ?_) (fun c_ => absurd rfl c_)
  refine lv_iload hx hb dL_law_1255 (lv_at hl 1 rfl) ?_
  refine lv_if_ne (tgt := 1279) hx hb dL_law_1257 (by decide) (fun c_k => ?_) (fun c_k => ?_)
  · have hl : lv_has ls 9 [(6, .int bb), (5, .int kc), (0, .ref b), (1, .ref x), (2, .ref (g 0)), (3, .ref o), (4, .int (nI i))] := hl
    refine lv_goto (tgt := 2101) hx hb dL_law_1279 (by decide) ?_
    exact K d0 hd0 ls H locs S1 G1 T1 T2 U1 og1 n1 nf1 ha1 hb1 (lv_sub hl [2, 3, 4, 5, 6] rfl) (to_xP hP) (to_xD hD) hS
  · have hl : lv_has ls 9 [(6, .int bb), (5, .int kc), (0, .ref b), (1, .ref x), (2, .ref (g 0)), (3, .ref o), (4, .int (nI i))] := hl
    refine lv_aload_n hx hb dL_law_1260 rfl (lv_at hl 5 rfl) ?_
    refine lv_iconst (v := 0) hx hb dL_law_1261 (by decide) ?_
    refine va_lald hx hb hE.1 hP 83 2 mo_83 rfl (vp_in_nI (n := 0) (N := 1) (by decide) (by decide)) dL_law_1262 ?_
    refine lv_iload hx hb dL_law_1263 (lv_at hl 0 rfl) ?_
    refine lv_if_eq (tgt := 1272) hx hb dL_law_1265 (by decide) (fun c_b0 => ?_) (fun c_b1 => ?_)
    · have hl : lv_has ls 9 [(6, .int bb), (5, .int kc), (0, .ref b), (1, .ref x), (2, .ref (g 0)), (3, .ref o), (4, .int (nI i))] := hl
      refine lv_lconst (v := 0) hx hb dL_law_1272 (by decide) ?_
      refine W.lcmp hx hb dL_law_1273 ?_
      refine w_top (lg_self ((e2 c_k).1 c_b0)) ?_
      refine lv_if_eq (tgt := 1279) hx hb dL_law_1274 (by decide) (fun _ => ?_) (fun c_ => absurd rfl c_)
      refine lv_goto (tgt := 2101) hx hb dL_law_1279 (by decide) ?_
      exact K d0 hd0 ls H locs S1 G1 T1 T2 U1 og1 n1 nf1 ha1 hb1 (lv_sub hl [2, 3, 4, 5, 6] rfl) (to_xP hP) (to_xD hD) hS
    · have hl : lv_has ls 9 [(6, .int bb), (5, .int kc), (0, .ref b), (1, .ref x), (2, .ref (g 0)), (3, .ref o), (4, .int (nI i))] := hl
      refine lv_lconst (v := 1) hx hb dL_law_1268 (by decide) ?_
      refine lv_goto (tgt := 1273) hx hb dL_law_1269 (by decide) ?_
      refine W.lcmp hx hb dL_law_1273 ?_
      refine w_top (lg_self ((e2 c_k).2 c_b1)) ?_
      refine lv_if_eq (tgt := 1279) hx hb dL_law_1274 (by decide) (fun _ => ?_) (fun c_ => absurd rfl c_)
      refine lv_goto (tgt := 2101) hx hb dL_law_1279 (by decide) ?_
      exact K d0 hd0 ls H locs S1 G1 T1 T2 U1 og1 n1 nf1 ha1 hb1 (lv_sub hl [2, 3, 4, 5, 6] rfl) (to_xP hP) (to_xD hD) hS
set_option maxHeartbeats 4000000 in
set_option maxRecDepth 100000 in
theorem case_18 {p : Program} {e : Env} {s : State} {m : MethodId} {below : List Frame} {meth : Method} {c : Code} {l : Launch} {b L : Nat} {xs : Nat → Int32} {D : va_G} {k : Nat → ClassId} {a tr g t u : Nat → Nat} {x o : Nat} {Q : State → Prop} (hfl : l.stackTraces = false) (hCd : ∀ d : Drawn, CallFix p m c cL_law 9 (s.setDrawn d) #[Value.ref b] lw_all RL) (hE0 : eK D k s) (hX0 : xK s) (hAZ : aZ s) (hX9 : va_X b L xs s s.heap) (hbl : b < s.heap.size) (hL : L ≤ 2048) {i : Nat} (hi : i + 4 ≤ L) {cells slots : Nat} (hcs : cells + 1 ≤ room_1.cells ∧ slots + 6 ≤ room_1.slots) (K : ∀ (d0 : Drawn), s.drawn.sameBut d0 lw_cs → ∀ (ls : Array Slot) (H : Heap) (locs : List Loc) (S G T T0 U : HS) (og : Nat → Int64) (n nf : Nat), RA S G n nf → RB S T n → lv_has ls 9 [(0, .ref b), (1, .ref x), (2, .ref (g 0)), (3, .ref o), (4, .int (nI i))] → va_P D vwCl (xwW k a tr x o S T0 og (mW k g t u G T U [])) H → va_D (fun q : Nat => s.heap.size ≤ q) (xwW k a tr x o S T0 og (mW k g t u G T U [])) → va_S (fun q : Nat => s.heap.size ≤ q) s.heap H locs → W p l e room_1 (s.setDrawn d0) m #[Value.ref b] below meth c H locs (cells + 1) (slots + 6) Q (F0 m 2101 ls [])) {d0 : Drawn} (hd0 : s.drawn.sameBut d0 lw_cs) {ls : Array Slot} {H : Heap} {locs : List Loc} {S G T T0 U : HS} {og : Nat → Int64} {n nf : Nat} (hA9 : RA S G n nf) (hB9 : RB S T n) (hl : lv_has ls 9 [(0, .ref b), (1, .ref x), (2, .ref (g 0)), (3, .ref o), (4, .int (nI i))]) (hP : va_P D vwCl (xwW k a tr x o S T0 og (mW k g t u G T U [])) H) (hD : va_D (fun q : Nat => s.heap.size ≤ q) (xwW k a tr x o S T0 og (mW k g t u G T U []))) (hS : va_S (fun q : Nat => s.heap.size ≤ q) s.heap H locs) : W p l e room_1 (s.setDrawn d0) m #[Value.ref b] below meth c H locs cells slots Q (F0 m 1282 ls []) := by
  have hC := hCd d0
  have hx := hC.1
  have hb := hC.2.1
  have hE := eK_drawn hE0 d0
  have hX := xK_drawn hX0 d0
  have hXs : va_X b L xs (s.setDrawn d0) s.heap := va_X.moved (u := s) (U := s.setDrawn d0) (Vm.Alike.refl s.vm) hX9
  refine lv_aload_n hx hb dL_law_1282 rfl (lv_at hl 1 rfl) ?_
  refine lv_aload_n hx hb dL_law_1283 rfl (lv_at hl 0 rfl) ?_
  refine lv_iload hx hb dL_law_1284 (lv_at hl 4 rfl) ?_
  refine lv_iconst (v := 1) hx hb dL_law_1286 (by decide) ?_
  refine lv_iadd hx hb dL_law_1287 ?_
  refine w_top (show nI i + 1 = nI (i + 1) from nI_add i 1) ?_
  refine va_sld (A := (fun q : Nat => s.heap.size ≤ q)) hx hb hXs hbl (Nat.not_le.mpr hbl) hS (i := nI (i + 1)) (vp_in_nI (by omega) (by omega)) dL_law_1288 ?_
  refine w_top (congrArg xs (nI_clamp (n := i + 1) (by omega))) ?_
  refine lv_aload_n hx hb dL_law_1289 rfl (lv_at hl 3 rfl) ?_
  obtain ⟨kc, bb, S1, G1, T1, T2, U1, og1, n1, nf1, hLM, hMM, e1, e2, ha1, hb1⟩ := op_bagAt l hfl (D := D) (k := k) (a := a) (tr := tr) (g := g) (t := t) (u := u) (x := x) (o := o) hA9 hB9 T0 U og (xs (i + 1))
  refine c_lS (rest := []) hC hE hX (xZ_drawn hAZ hS _) hP hD hS lo_same (hLM (mW k g t u G T U [])) gw_RL_174 hd_L_bagAt ⟨Nat.le_of_ble_eq_true rfl, Nat.le_of_ble_eq_true rfl⟩ rfl hl.1 (Nat.le_of_ble_eq_true rfl) hcs dL_law_1290 (fun H locs hP hD hS => ?_)
  have hP := to_mP hP
  have hD := to_mD hD
  refine lv_istore (lv' := [(5, .int kc), (0, .ref b), (1, .ref x), (2, .ref (g 0)), (3, .ref o), (4, .int (nI i))]) hx hb dL_law_1293 hl (by decide) rfl (fun ls hl => ?_)
  refine lv_aload_n hx hb dL_law_1295 rfl (lv_at hl 3 rfl) ?_
  refine lv_aload_n hx hb dL_law_1296 rfl (lv_at hl 1 rfl) ?_
  refine lv_iload hx hb dL_law_1297 (lv_at hl 5 rfl) ?_
  refine lv_iconst (v := 1) hx hb dL_law_1299 (by decide) ?_
  refine lv_iadd hx hb dL_law_1300 ?_
  refine w_top (show nI i + 1 = nI (i + 1) from nI_add i 1) ?_
  refine va_sld (A := (fun q : Nat => s.heap.size ≤ q)) hx hb hXs hbl (Nat.not_le.mpr hbl) hS (i := nI (i + 1)) (vp_in_nI (by omega) (by omega)) dL_law_1301 ?_
  refine w_top (congrArg xs (nI_clamp (n := i + 1) (by omega))) ?_
  refine c_mVi (rest := []) hC hE hP hD hS mw_same (hMM (xwW k a tr x o S1 T2 og1 [])) gc_RL_176 hd_X6_bagAt ⟨rfl, rfl⟩ ⟨Nat.le_of_ble_eq_true rfl, Nat.le_of_ble_eq_true rfl⟩ 0 gw_0 rfl rfl hl.1 (Nat.le_of_ble_eq_true rfl) hcs dL_law_1302 (fun H locs hP hD hS => ?_)
  refine lv_istore (lv' := [(6, .int bb), (5, .int kc), (0, .ref b), (1, .ref x), (2, .ref (g 0)), (3, .ref o), (4, .int (nI i))]) hx hb dL_law_1305 hl (by decide) rfl (fun ls hl => ?_)
  refine lv_aload_n hx hb dL_law_1307 rfl (lv_at hl 4 rfl) ?_
  refine c_pVi (rest := []) hC hE hP (metX6_thrown l G1 T1) gc_RL_117 hd_X6_thrown ⟨rfl, rfl⟩ ⟨Nat.le_of_ble_eq_true rfl, Nat.le_of_ble_eq_true rfl⟩ 0 gw_0 rfl rfl hl.1 (Nat.le_of_ble_eq_true rfl) hcs dL_law_1308 ?_
  refine w_top e1 ?_
  refine lv_iload hx hb dL_law_1311 (lv_at hl 1 rfl) ?_
  refine lv_icmp_eq (tgt := 1318) hx hb dL_law_1313 (by decide) (fun _ => ?_) (fun c_ => absurd rfl c_)
  refine lv_iload hx hb dL_law_1318 (lv_at hl 1 rfl) ?_
  refine lv_if_ne (tgt := 1335) hx hb dL_law_1320 (by decide) (fun c_k => ?_) (fun c_k => ?_)
  · have hl : lv_has ls 9 [(6, .int bb), (5, .int kc), (0, .ref b), (1, .ref x), (2, .ref (g 0)), (3, .ref o), (4, .int (nI i))] := hl
    refine lv_goto (tgt := 2101) hx hb dL_law_1335 (by decide) ?_
    exact K d0 hd0 ls H locs S1 G1 T1 T2 U1 og1 n1 nf1 ha1 hb1 (lv_sub hl [2, 3, 4, 5, 6] rfl) (to_xP hP) (to_xD hD) hS
  · have hl : lv_has ls 9 [(6, .int bb), (5, .int kc), (0, .ref b), (1, .ref x), (2, .ref (g 0)), (3, .ref o), (4, .int (nI i))] := hl
    refine lv_aload_n hx hb dL_law_1323 rfl (lv_at hl 5 rfl) ?_
    refine lv_iconst (v := 0) hx hb dL_law_1324 (by decide) ?_
    refine va_lald hx hb hE.1 hP 83 2 mo_83 rfl (vp_in_nI (n := 0) (N := 1) (by decide) (by decide)) dL_law_1325 ?_
    refine lv_iload hx hb dL_law_1326 (lv_at hl 0 rfl) ?_
    refine lv_i2l hx hb dL_law_1328 rfl ?_
    refine W.lcmp hx hb dL_law_1329 ?_
    refine w_top (lg_self (e2 c_k)) ?_
    refine lv_if_eq (tgt := 1335) hx hb dL_law_1330 (by decide) (fun _ => ?_) (fun c_ => absurd rfl c_)
    refine lv_goto (tgt := 2101) hx hb dL_law_1335 (by decide) ?_
    exact K d0 hd0 ls H locs S1 G1 T1 T2 U1 og1 n1 nf1 ha1 hb1 (lv_sub hl [2, 3, 4, 5, 6] rfl) (to_xP hP) (to_xD hD) hS
set_option maxHeartbeats 4000000 in
set_option maxRecDepth 100000 in
theorem case_19 {p : Program} {e : Env} {s : State} {m : MethodId} {below : List Frame} {meth : Method} {c : Code} {l : Launch} {b L : Nat} {xs : Nat → Int32} {D : va_G} {k : Nat → ClassId} {a tr g t u : Nat → Nat} {x o : Nat} {Q : State → Prop} (hfl : l.stackTraces = false) (hCd : ∀ d : Drawn, CallFix p m c cL_law 9 (s.setDrawn d) #[Value.ref b] lw_all RL) (hE0 : eK D k s) (hX0 : xK s) (hAZ : aZ s) (hX9 : va_X b L xs s s.heap) (hbl : b < s.heap.size) (hL : L ≤ 2048) {i : Nat} (hi : i + 4 ≤ L) {cells slots : Nat} (hcs : cells + 1 ≤ room_1.cells ∧ slots + 6 ≤ room_1.slots) (K : ∀ (d0 : Drawn), s.drawn.sameBut d0 lw_cs → ∀ (ls : Array Slot) (H : Heap) (locs : List Loc) (S G T T0 U : HS) (og : Nat → Int64) (n nf : Nat), RA S G n nf → RB S T n → lv_has ls 9 [(0, .ref b), (1, .ref x), (2, .ref (g 0)), (3, .ref o), (4, .int (nI i))] → va_P D vwCl (xwW k a tr x o S T0 og (mW k g t u G T U [])) H → va_D (fun q : Nat => s.heap.size ≤ q) (xwW k a tr x o S T0 og (mW k g t u G T U [])) → va_S (fun q : Nat => s.heap.size ≤ q) s.heap H locs → W p l e room_1 (s.setDrawn d0) m #[Value.ref b] below meth c H locs (cells + 1) (slots + 6) Q (F0 m 2101 ls [])) {d0 : Drawn} (hd0 : s.drawn.sameBut d0 lw_cs) {ls : Array Slot} {H : Heap} {locs : List Loc} {S G T T0 U : HS} {og : Nat → Int64} {n nf : Nat} (hA9 : RA S G n nf) (hB9 : RB S T n) (hl : lv_has ls 9 [(0, .ref b), (1, .ref x), (2, .ref (g 0)), (3, .ref o), (4, .int (nI i))]) (hP : va_P D vwCl (xwW k a tr x o S T0 og (mW k g t u G T U [])) H) (hD : va_D (fun q : Nat => s.heap.size ≤ q) (xwW k a tr x o S T0 og (mW k g t u G T U []))) (hS : va_S (fun q : Nat => s.heap.size ≤ q) s.heap H locs) : W p l e room_1 (s.setDrawn d0) m #[Value.ref b] below meth c H locs cells slots Q (F0 m 1338 ls []) := by
  have hC := hCd d0
  have hx := hC.1
  have hb := hC.2.1
  have hE := eK_drawn hE0 d0
  have hX := xK_drawn hX0 d0
  have hXs : va_X b L xs (s.setDrawn d0) s.heap := va_X.moved (u := s) (U := s.setDrawn d0) (Vm.Alike.refl s.vm) hX9
  refine lv_aload_n hx hb dL_law_1338 rfl (lv_at hl 1 rfl) ?_
  refine lv_aload_n hx hb dL_law_1339 rfl (lv_at hl 0 rfl) ?_
  refine lv_iload hx hb dL_law_1340 (lv_at hl 4 rfl) ?_
  refine lv_iconst (v := 1) hx hb dL_law_1342 (by decide) ?_
  refine lv_iadd hx hb dL_law_1343 ?_
  refine w_top (show nI i + 1 = nI (i + 1) from nI_add i 1) ?_
  refine va_sld (A := (fun q : Nat => s.heap.size ≤ q)) hx hb hXs hbl (Nat.not_le.mpr hbl) hS (i := nI (i + 1)) (vp_in_nI (by omega) (by omega)) dL_law_1344 ?_
  refine w_top (congrArg xs (nI_clamp (n := i + 1) (by omega))) ?_
  refine lv_aload_n hx hb dL_law_1345 rfl (lv_at hl 3 rfl) ?_
  obtain ⟨kc, bb, S1, G1, T1, T2, U1, og1, n1, nf1, hLM, hMM, e1, e2, ha1, hb1⟩ := op_bagsIn l hfl (D := D) (k := k) (a := a) (tr := tr) (g := g) (t := t) (u := u) (x := x) (o := o) hA9 hB9 T0 U og (xs (i + 1))
  refine c_lS (rest := []) hC hE hX (xZ_drawn hAZ hS _) hP hD hS lo_same (hLM (mW k g t u G T U [])) gw_RL_177 hd_L_bagsIn ⟨Nat.le_of_ble_eq_true rfl, Nat.le_of_ble_eq_true rfl⟩ rfl hl.1 (Nat.le_of_ble_eq_true rfl) hcs dL_law_1346 (fun H locs hP hD hS => ?_)
  have hP := to_mP hP
  have hD := to_mD hD
  refine lv_istore (lv' := [(5, .int kc), (0, .ref b), (1, .ref x), (2, .ref (g 0)), (3, .ref o), (4, .int (nI i))]) hx hb dL_law_1349 hl (by decide) rfl (fun ls hl => ?_)
  refine lv_aload_n hx hb dL_law_1351 rfl (lv_at hl 3 rfl) ?_
  refine lv_aload_n hx hb dL_law_1352 rfl (lv_at hl 1 rfl) ?_
  refine lv_iload hx hb dL_law_1353 (lv_at hl 5 rfl) ?_
  refine lv_iconst (v := 1) hx hb dL_law_1355 (by decide) ?_
  refine lv_iadd hx hb dL_law_1356 ?_
  refine w_top (show nI i + 1 = nI (i + 1) from nI_add i 1) ?_
  refine va_sld (A := (fun q : Nat => s.heap.size ≤ q)) hx hb hXs hbl (Nat.not_le.mpr hbl) hS (i := nI (i + 1)) (vp_in_nI (by omega) (by omega)) dL_law_1357 ?_
  refine w_top (congrArg xs (nI_clamp (n := i + 1) (by omega))) ?_
  refine c_mVi (rest := []) hC hE hP hD hS mw_same (hMM (xwW k a tr x o S1 T2 og1 [])) gc_RL_179 hd_X6_bagsIn ⟨rfl, rfl⟩ ⟨Nat.le_of_ble_eq_true rfl, Nat.le_of_ble_eq_true rfl⟩ 0 gw_0 rfl rfl hl.1 (Nat.le_of_ble_eq_true rfl) hcs dL_law_1358 (fun H locs hP hD hS => ?_)
  refine lv_istore (lv' := [(6, .int bb), (5, .int kc), (0, .ref b), (1, .ref x), (2, .ref (g 0)), (3, .ref o), (4, .int (nI i))]) hx hb dL_law_1361 hl (by decide) rfl (fun ls hl => ?_)
  refine lv_aload_n hx hb dL_law_1363 rfl (lv_at hl 4 rfl) ?_
  refine c_pVi (rest := []) hC hE hP (metX6_thrown l G1 T1) gc_RL_117 hd_X6_thrown ⟨rfl, rfl⟩ ⟨Nat.le_of_ble_eq_true rfl, Nat.le_of_ble_eq_true rfl⟩ 0 gw_0 rfl rfl hl.1 (Nat.le_of_ble_eq_true rfl) hcs dL_law_1364 ?_
  refine w_top e1 ?_
  refine lv_iload hx hb dL_law_1367 (lv_at hl 1 rfl) ?_
  refine lv_icmp_eq (tgt := 1374) hx hb dL_law_1369 (by decide) (fun _ => ?_) (fun c_ => absurd rfl c_)
  refine lv_iload hx hb dL_law_1374 (lv_at hl 1 rfl) ?_
  refine lv_if_ne (tgt := 1391) hx hb dL_law_1376 (by decide) (fun c_k => ?_) (fun c_k => ?_)
  · have hl : lv_has ls 9 [(6, .int bb), (5, .int kc), (0, .ref b), (1, .ref x), (2, .ref (g 0)), (3, .ref o), (4, .int (nI i))] := hl
    refine lv_goto (tgt := 2101) hx hb dL_law_1391 (by decide) ?_
    exact K d0 hd0 ls H locs S1 G1 T1 T2 U1 og1 n1 nf1 ha1 hb1 (lv_sub hl [2, 3, 4, 5, 6] rfl) (to_xP hP) (to_xD hD) hS
  · have hl : lv_has ls 9 [(6, .int bb), (5, .int kc), (0, .ref b), (1, .ref x), (2, .ref (g 0)), (3, .ref o), (4, .int (nI i))] := hl
    refine lv_aload_n hx hb dL_law_1379 rfl (lv_at hl 5 rfl) ?_
    refine lv_iconst (v := 0) hx hb dL_law_1380 (by decide) ?_
    refine va_lald hx hb hE.1 hP 83 2 mo_83 rfl (vp_in_nI (n := 0) (N := 1) (by decide) (by decide)) dL_law_1381 ?_
    refine lv_iload hx hb dL_law_1382 (lv_at hl 0 rfl) ?_
    refine lv_i2l hx hb dL_law_1384 rfl ?_
    refine W.lcmp hx hb dL_law_1385 ?_
    refine w_top (lg_self (e2 c_k)) ?_
    refine lv_if_eq (tgt := 1391) hx hb dL_law_1386 (by decide) (fun _ => ?_) (fun c_ => absurd rfl c_)
    refine lv_goto (tgt := 2101) hx hb dL_law_1391 (by decide) ?_
    exact K d0 hd0 ls H locs S1 G1 T1 T2 U1 og1 n1 nf1 ha1 hb1 (lv_sub hl [2, 3, 4, 5, 6] rfl) (to_xP hP) (to_xD hD) hS
set_option maxHeartbeats 4000000 in
set_option maxRecDepth 100000 in
theorem case_20 {p : Program} {e : Env} {s : State} {m : MethodId} {below : List Frame} {meth : Method} {c : Code} {l : Launch} {b L : Nat} {xs : Nat → Int32} {D : va_G} {k : Nat → ClassId} {a tr g t u : Nat → Nat} {x o : Nat} {Q : State → Prop} (hfl : l.stackTraces = false) (hCd : ∀ d : Drawn, CallFix p m c cL_law 9 (s.setDrawn d) #[Value.ref b] lw_all RL) (hE0 : eK D k s) (hX0 : xK s) (hAZ : aZ s) (hX9 : va_X b L xs s s.heap) (hbl : b < s.heap.size) (hL : L ≤ 2048) {i : Nat} (hi : i + 4 ≤ L) {cells slots : Nat} (hcs : cells + 1 ≤ room_1.cells ∧ slots + 6 ≤ room_1.slots) (K : ∀ (d0 : Drawn), s.drawn.sameBut d0 lw_cs → ∀ (ls : Array Slot) (H : Heap) (locs : List Loc) (S G T T0 U : HS) (og : Nat → Int64) (n nf : Nat), RA S G n nf → RB S T n → lv_has ls 9 [(0, .ref b), (1, .ref x), (2, .ref (g 0)), (3, .ref o), (4, .int (nI i))] → va_P D vwCl (xwW k a tr x o S T0 og (mW k g t u G T U [])) H → va_D (fun q : Nat => s.heap.size ≤ q) (xwW k a tr x o S T0 og (mW k g t u G T U [])) → va_S (fun q : Nat => s.heap.size ≤ q) s.heap H locs → W p l e room_1 (s.setDrawn d0) m #[Value.ref b] below meth c H locs (cells + 1) (slots + 6) Q (F0 m 2101 ls [])) {d0 : Drawn} (hd0 : s.drawn.sameBut d0 lw_cs) {ls : Array Slot} {H : Heap} {locs : List Loc} {S G T T0 U : HS} {og : Nat → Int64} {n nf : Nat} (hA9 : RA S G n nf) (hB9 : RB S T n) (hl : lv_has ls 9 [(0, .ref b), (1, .ref x), (2, .ref (g 0)), (3, .ref o), (4, .int (nI i))]) (hP : va_P D vwCl (xwW k a tr x o S T0 og (mW k g t u G T U [])) H) (hD : va_D (fun q : Nat => s.heap.size ≤ q) (xwW k a tr x o S T0 og (mW k g t u G T U []))) (hS : va_S (fun q : Nat => s.heap.size ≤ q) s.heap H locs) : W p l e room_1 (s.setDrawn d0) m #[Value.ref b] below meth c H locs cells slots Q (F0 m 1394 ls []) := by
  have hC := hCd d0
  have hx := hC.1
  have hb := hC.2.1
  have hE := eK_drawn hE0 d0
  have hX := xK_drawn hX0 d0
  have hXs : va_X b L xs (s.setDrawn d0) s.heap := va_X.moved (u := s) (U := s.setDrawn d0) (Vm.Alike.refl s.vm) hX9
  refine lv_aload_n hx hb dL_law_1394 rfl (lv_at hl 1 rfl) ?_
  refine lv_aload_n hx hb dL_law_1395 rfl (lv_at hl 0 rfl) ?_
  refine lv_iload hx hb dL_law_1396 (lv_at hl 4 rfl) ?_
  refine lv_iconst (v := 1) hx hb dL_law_1398 (by decide) ?_
  refine lv_iadd hx hb dL_law_1399 ?_
  refine w_top (show nI i + 1 = nI (i + 1) from nI_add i 1) ?_
  refine va_sld (A := (fun q : Nat => s.heap.size ≤ q)) hx hb hXs hbl (Nat.not_le.mpr hbl) hS (i := nI (i + 1)) (vp_in_nI (by omega) (by omega)) dL_law_1400 ?_
  refine w_top (congrArg xs (nI_clamp (n := i + 1) (by omega))) ?_
  refine lv_aload_n hx hb dL_law_1401 rfl (lv_at hl 3 rfl) ?_
  obtain ⟨kc, bb, S1, G1, T1, T2, U1, og1, n1, nf1, hLM, hMM, e1, e2, ha1, hb1⟩ := op_misroutedIn l hfl (D := D) (k := k) (a := a) (tr := tr) (g := g) (t := t) (u := u) (x := x) (o := o) hA9 hB9 T0 U og (xs (i + 1))
  refine c_lS (rest := []) hC hE hX (xZ_drawn hAZ hS _) hP hD hS lo_same (hLM (mW k g t u G T U [])) gw_RL_180 hd_L_misroutedIn ⟨Nat.le_of_ble_eq_true rfl, Nat.le_of_ble_eq_true rfl⟩ rfl hl.1 (Nat.le_of_ble_eq_true rfl) hcs dL_law_1402 (fun H locs hP hD hS => ?_)
  have hP := to_mP hP
  have hD := to_mD hD
  refine lv_istore (lv' := [(5, .int kc), (0, .ref b), (1, .ref x), (2, .ref (g 0)), (3, .ref o), (4, .int (nI i))]) hx hb dL_law_1405 hl (by decide) rfl (fun ls hl => ?_)
  refine lv_aload_n hx hb dL_law_1407 rfl (lv_at hl 3 rfl) ?_
  refine lv_aload_n hx hb dL_law_1408 rfl (lv_at hl 1 rfl) ?_
  refine lv_iload hx hb dL_law_1409 (lv_at hl 5 rfl) ?_
  refine lv_iconst (v := 1) hx hb dL_law_1411 (by decide) ?_
  refine lv_iadd hx hb dL_law_1412 ?_
  refine w_top (show nI i + 1 = nI (i + 1) from nI_add i 1) ?_
  refine va_sld (A := (fun q : Nat => s.heap.size ≤ q)) hx hb hXs hbl (Nat.not_le.mpr hbl) hS (i := nI (i + 1)) (vp_in_nI (by omega) (by omega)) dL_law_1413 ?_
  refine w_top (congrArg xs (nI_clamp (n := i + 1) (by omega))) ?_
  refine c_mVi (rest := []) hC hE hP hD hS mw_same (hMM (xwW k a tr x o S1 T2 og1 [])) gc_RL_182 hd_X6_misroutedIn ⟨rfl, rfl⟩ ⟨Nat.le_of_ble_eq_true rfl, Nat.le_of_ble_eq_true rfl⟩ 0 gw_0 rfl rfl hl.1 (Nat.le_of_ble_eq_true rfl) hcs dL_law_1414 (fun H locs hP hD hS => ?_)
  refine lv_istore (lv' := [(6, .int bb), (5, .int kc), (0, .ref b), (1, .ref x), (2, .ref (g 0)), (3, .ref o), (4, .int (nI i))]) hx hb dL_law_1417 hl (by decide) rfl (fun ls hl => ?_)
  refine lv_aload_n hx hb dL_law_1419 rfl (lv_at hl 4 rfl) ?_
  refine c_pVi (rest := []) hC hE hP (metX6_thrown l G1 T1) gc_RL_117 hd_X6_thrown ⟨rfl, rfl⟩ ⟨Nat.le_of_ble_eq_true rfl, Nat.le_of_ble_eq_true rfl⟩ 0 gw_0 rfl rfl hl.1 (Nat.le_of_ble_eq_true rfl) hcs dL_law_1420 ?_
  refine w_top e1 ?_
  refine lv_iload hx hb dL_law_1423 (lv_at hl 1 rfl) ?_
  refine lv_icmp_eq (tgt := 1430) hx hb dL_law_1425 (by decide) (fun _ => ?_) (fun c_ => absurd rfl c_)
  refine lv_iload hx hb dL_law_1430 (lv_at hl 1 rfl) ?_
  refine lv_if_ne (tgt := 1447) hx hb dL_law_1432 (by decide) (fun c_k => ?_) (fun c_k => ?_)
  · have hl : lv_has ls 9 [(6, .int bb), (5, .int kc), (0, .ref b), (1, .ref x), (2, .ref (g 0)), (3, .ref o), (4, .int (nI i))] := hl
    refine lv_goto (tgt := 2101) hx hb dL_law_1447 (by decide) ?_
    exact K d0 hd0 ls H locs S1 G1 T1 T2 U1 og1 n1 nf1 ha1 hb1 (lv_sub hl [2, 3, 4, 5, 6] rfl) (to_xP hP) (to_xD hD) hS
  · have hl : lv_has ls 9 [(6, .int bb), (5, .int kc), (0, .ref b), (1, .ref x), (2, .ref (g 0)), (3, .ref o), (4, .int (nI i))] := hl
    refine lv_aload_n hx hb dL_law_1435 rfl (lv_at hl 5 rfl) ?_
    refine lv_iconst (v := 0) hx hb dL_law_1436 (by decide) ?_
    refine va_lald hx hb hE.1 hP 83 2 mo_83 rfl (vp_in_nI (n := 0) (N := 1) (by decide) (by decide)) dL_law_1437 ?_
    refine lv_iload hx hb dL_law_1438 (lv_at hl 0 rfl) ?_
    refine lv_i2l hx hb dL_law_1440 rfl ?_
    refine W.lcmp hx hb dL_law_1441 ?_
    refine w_top (lg_self (e2 c_k)) ?_
    refine lv_if_eq (tgt := 1447) hx hb dL_law_1442 (by decide) (fun _ => ?_) (fun c_ => absurd rfl c_)
    refine lv_goto (tgt := 2101) hx hb dL_law_1447 (by decide) ?_
    exact K d0 hd0 ls H locs S1 G1 T1 T2 U1 og1 n1 nf1 ha1 hb1 (lv_sub hl [2, 3, 4, 5, 6] rfl) (to_xP hP) (to_xD hD) hS
set_option maxHeartbeats 4000000 in
set_option maxRecDepth 100000 in
theorem case_21 {p : Program} {e : Env} {s : State} {m : MethodId} {below : List Frame} {meth : Method} {c : Code} {l : Launch} {b L : Nat} {xs : Nat → Int32} {D : va_G} {k : Nat → ClassId} {a tr g t u : Nat → Nat} {x o : Nat} {Q : State → Prop} (hfl : l.stackTraces = false) (hCd : ∀ d : Drawn, CallFix p m c cL_law 9 (s.setDrawn d) #[Value.ref b] lw_all RL) (hE0 : eK D k s) (hX0 : xK s) (hAZ : aZ s) (hX9 : va_X b L xs s s.heap) (hbl : b < s.heap.size) (hL : L ≤ 2048) {i : Nat} (hi : i + 4 ≤ L) {cells slots : Nat} (hcs : cells + 1 ≤ room_1.cells ∧ slots + 6 ≤ room_1.slots) (K : ∀ (d0 : Drawn), s.drawn.sameBut d0 lw_cs → ∀ (ls : Array Slot) (H : Heap) (locs : List Loc) (S G T T0 U : HS) (og : Nat → Int64) (n nf : Nat), RA S G n nf → RB S T n → lv_has ls 9 [(0, .ref b), (1, .ref x), (2, .ref (g 0)), (3, .ref o), (4, .int (nI i))] → va_P D vwCl (xwW k a tr x o S T0 og (mW k g t u G T U [])) H → va_D (fun q : Nat => s.heap.size ≤ q) (xwW k a tr x o S T0 og (mW k g t u G T U [])) → va_S (fun q : Nat => s.heap.size ≤ q) s.heap H locs → W p l e room_1 (s.setDrawn d0) m #[Value.ref b] below meth c H locs (cells + 1) (slots + 6) Q (F0 m 2101 ls [])) {d0 : Drawn} (hd0 : s.drawn.sameBut d0 lw_cs) {ls : Array Slot} {H : Heap} {locs : List Loc} {S G T T0 U : HS} {og : Nat → Int64} {n nf : Nat} (hA9 : RA S G n nf) (hB9 : RB S T n) (hl : lv_has ls 9 [(0, .ref b), (1, .ref x), (2, .ref (g 0)), (3, .ref o), (4, .int (nI i))]) (hP : va_P D vwCl (xwW k a tr x o S T0 og (mW k g t u G T U [])) H) (hD : va_D (fun q : Nat => s.heap.size ≤ q) (xwW k a tr x o S T0 og (mW k g t u G T U []))) (hS : va_S (fun q : Nat => s.heap.size ≤ q) s.heap H locs) : W p l e room_1 (s.setDrawn d0) m #[Value.ref b] below meth c H locs cells slots Q (F0 m 1450 ls []) := by
  have hC := hCd d0
  have hx := hC.1
  have hb := hC.2.1
  have hE := eK_drawn hE0 d0
  have hX := xK_drawn hX0 d0
  have hXs : va_X b L xs (s.setDrawn d0) s.heap := va_X.moved (u := s) (U := s.setDrawn d0) (Vm.Alike.refl s.vm) hX9
  refine lv_aload_n hx hb dL_law_1450 rfl (lv_at hl 1 rfl) ?_
  refine lv_aload_n hx hb dL_law_1451 rfl (lv_at hl 0 rfl) ?_
  refine lv_iload hx hb dL_law_1452 (lv_at hl 4 rfl) ?_
  refine lv_iconst (v := 1) hx hb dL_law_1454 (by decide) ?_
  refine lv_iadd hx hb dL_law_1455 ?_
  refine w_top (show nI i + 1 = nI (i + 1) from nI_add i 1) ?_
  refine va_sld (A := (fun q : Nat => s.heap.size ≤ q)) hx hb hXs hbl (Nat.not_le.mpr hbl) hS (i := nI (i + 1)) (vp_in_nI (by omega) (by omega)) dL_law_1456 ?_
  refine w_top (congrArg xs (nI_clamp (n := i + 1) (by omega))) ?_
  refine lv_aload_n hx hb dL_law_1457 rfl (lv_at hl 3 rfl) ?_
  obtain ⟨kc, bb, S1, G1, T1, T2, U1, og1, n1, nf1, hLM, hMM, e1, e2, ha1, hb1⟩ := op_roomOf l hfl (D := D) (k := k) (a := a) (tr := tr) (g := g) (t := t) (u := u) (x := x) (o := o) hA9 hB9 T0 U og (xs (i + 1))
  refine c_lS (rest := []) hC hE hX (xZ_drawn hAZ hS _) hP hD hS lo_same (hLM (mW k g t u G T U [])) gw_RL_183 hd_L_roomOf ⟨Nat.le_of_ble_eq_true rfl, Nat.le_of_ble_eq_true rfl⟩ rfl hl.1 (Nat.le_of_ble_eq_true rfl) hcs dL_law_1458 (fun H locs hP hD hS => ?_)
  have hP := to_mP hP
  have hD := to_mD hD
  refine lv_istore (lv' := [(5, .int kc), (0, .ref b), (1, .ref x), (2, .ref (g 0)), (3, .ref o), (4, .int (nI i))]) hx hb dL_law_1461 hl (by decide) rfl (fun ls hl => ?_)
  refine lv_aload_n hx hb dL_law_1463 rfl (lv_at hl 3 rfl) ?_
  refine lv_aload_n hx hb dL_law_1464 rfl (lv_at hl 1 rfl) ?_
  refine lv_iload hx hb dL_law_1465 (lv_at hl 5 rfl) ?_
  refine lv_iconst (v := 1) hx hb dL_law_1467 (by decide) ?_
  refine lv_iadd hx hb dL_law_1468 ?_
  refine w_top (show nI i + 1 = nI (i + 1) from nI_add i 1) ?_
  refine va_sld (A := (fun q : Nat => s.heap.size ≤ q)) hx hb hXs hbl (Nat.not_le.mpr hbl) hS (i := nI (i + 1)) (vp_in_nI (by omega) (by omega)) dL_law_1469 ?_
  refine w_top (congrArg xs (nI_clamp (n := i + 1) (by omega))) ?_
  refine c_mVi (rest := []) hC hE hP hD hS mw_same (hMM (xwW k a tr x o S1 T2 og1 [])) gc_RL_185 hd_X6_roomOf ⟨rfl, rfl⟩ ⟨Nat.le_of_ble_eq_true rfl, Nat.le_of_ble_eq_true rfl⟩ 0 gw_0 rfl rfl hl.1 (Nat.le_of_ble_eq_true rfl) hcs dL_law_1470 (fun H locs hP hD hS => ?_)
  refine lv_istore (lv' := [(6, .int bb), (5, .int kc), (0, .ref b), (1, .ref x), (2, .ref (g 0)), (3, .ref o), (4, .int (nI i))]) hx hb dL_law_1473 hl (by decide) rfl (fun ls hl => ?_)
  refine lv_aload_n hx hb dL_law_1475 rfl (lv_at hl 4 rfl) ?_
  refine c_pVi (rest := []) hC hE hP (metX6_thrown l G1 T1) gc_RL_117 hd_X6_thrown ⟨rfl, rfl⟩ ⟨Nat.le_of_ble_eq_true rfl, Nat.le_of_ble_eq_true rfl⟩ 0 gw_0 rfl rfl hl.1 (Nat.le_of_ble_eq_true rfl) hcs dL_law_1476 ?_
  refine w_top e1 ?_
  refine lv_iload hx hb dL_law_1479 (lv_at hl 1 rfl) ?_
  refine lv_icmp_eq (tgt := 1486) hx hb dL_law_1481 (by decide) (fun _ => ?_) (fun c_ => absurd rfl c_)
  refine lv_iload hx hb dL_law_1486 (lv_at hl 1 rfl) ?_
  refine lv_if_ne (tgt := 1503) hx hb dL_law_1488 (by decide) (fun c_k => ?_) (fun c_k => ?_)
  · have hl : lv_has ls 9 [(6, .int bb), (5, .int kc), (0, .ref b), (1, .ref x), (2, .ref (g 0)), (3, .ref o), (4, .int (nI i))] := hl
    refine lv_goto (tgt := 2101) hx hb dL_law_1503 (by decide) ?_
    exact K d0 hd0 ls H locs S1 G1 T1 T2 U1 og1 n1 nf1 ha1 hb1 (lv_sub hl [2, 3, 4, 5, 6] rfl) (to_xP hP) (to_xD hD) hS
  · have hl : lv_has ls 9 [(6, .int bb), (5, .int kc), (0, .ref b), (1, .ref x), (2, .ref (g 0)), (3, .ref o), (4, .int (nI i))] := hl
    refine lv_aload_n hx hb dL_law_1491 rfl (lv_at hl 5 rfl) ?_
    refine lv_iconst (v := 0) hx hb dL_law_1492 (by decide) ?_
    refine va_lald hx hb hE.1 hP 83 2 mo_83 rfl (vp_in_nI (n := 0) (N := 1) (by decide) (by decide)) dL_law_1493 ?_
    refine lv_iload hx hb dL_law_1494 (lv_at hl 0 rfl) ?_
    refine lv_i2l hx hb dL_law_1496 rfl ?_
    refine W.lcmp hx hb dL_law_1497 ?_
    refine w_top (lg_self (e2 c_k)) ?_
    refine lv_if_eq (tgt := 1503) hx hb dL_law_1498 (by decide) (fun _ => ?_) (fun c_ => absurd rfl c_)
    refine lv_goto (tgt := 2101) hx hb dL_law_1503 (by decide) ?_
    exact K d0 hd0 ls H locs S1 G1 T1 T2 U1 og1 n1 nf1 ha1 hb1 (lv_sub hl [2, 3, 4, 5, 6] rfl) (to_xP hP) (to_xD hD) hS
set_option maxHeartbeats 4000000 in
set_option maxRecDepth 100000 in
theorem case_22 {p : Program} {e : Env} {s : State} {m : MethodId} {below : List Frame} {meth : Method} {c : Code} {l : Launch} {b L : Nat} {xs : Nat → Int32} {D : va_G} {k : Nat → ClassId} {a tr g t u : Nat → Nat} {x o : Nat} {Q : State → Prop} (hfl : l.stackTraces = false) (hCd : ∀ d : Drawn, CallFix p m c cL_law 9 (s.setDrawn d) #[Value.ref b] lw_all RL) (hE0 : eK D k s) (hX0 : xK s) (hAZ : aZ s) (hX9 : va_X b L xs s s.heap) (hbl : b < s.heap.size) (hL : L ≤ 2048) {i : Nat} (hi : i + 4 ≤ L) {cells slots : Nat} (hcs : cells + 1 ≤ room_1.cells ∧ slots + 6 ≤ room_1.slots) (K : ∀ (d0 : Drawn), s.drawn.sameBut d0 lw_cs → ∀ (ls : Array Slot) (H : Heap) (locs : List Loc) (S G T T0 U : HS) (og : Nat → Int64) (n nf : Nat), RA S G n nf → RB S T n → lv_has ls 9 [(0, .ref b), (1, .ref x), (2, .ref (g 0)), (3, .ref o), (4, .int (nI i))] → va_P D vwCl (xwW k a tr x o S T0 og (mW k g t u G T U [])) H → va_D (fun q : Nat => s.heap.size ≤ q) (xwW k a tr x o S T0 og (mW k g t u G T U [])) → va_S (fun q : Nat => s.heap.size ≤ q) s.heap H locs → W p l e room_1 (s.setDrawn d0) m #[Value.ref b] below meth c H locs (cells + 1) (slots + 6) Q (F0 m 2101 ls [])) {d0 : Drawn} (hd0 : s.drawn.sameBut d0 lw_cs) {ls : Array Slot} {H : Heap} {locs : List Loc} {S G T T0 U : HS} {og : Nat → Int64} {n nf : Nat} (hA9 : RA S G n nf) (hB9 : RB S T n) (hl : lv_has ls 9 [(0, .ref b), (1, .ref x), (2, .ref (g 0)), (3, .ref o), (4, .int (nI i))]) (hP : va_P D vwCl (xwW k a tr x o S T0 og (mW k g t u G T U [])) H) (hD : va_D (fun q : Nat => s.heap.size ≤ q) (xwW k a tr x o S T0 og (mW k g t u G T U []))) (hS : va_S (fun q : Nat => s.heap.size ≤ q) s.heap H locs) : W p l e room_1 (s.setDrawn d0) m #[Value.ref b] below meth c H locs cells slots Q (F0 m 1506 ls []) := by
  have hC := hCd d0
  have hx := hC.1
  have hb := hC.2.1
  have hE := eK_drawn hE0 d0
  have hX := xK_drawn hX0 d0
  have hXs : va_X b L xs (s.setDrawn d0) s.heap := va_X.moved (u := s) (U := s.setDrawn d0) (Vm.Alike.refl s.vm) hX9
  refine lv_aload_n hx hb dL_law_1506 rfl (lv_at hl 1 rfl) ?_
  refine lv_aload_n hx hb dL_law_1507 rfl (lv_at hl 0 rfl) ?_
  refine lv_iload hx hb dL_law_1508 (lv_at hl 4 rfl) ?_
  refine lv_iconst (v := 1) hx hb dL_law_1510 (by decide) ?_
  refine lv_iadd hx hb dL_law_1511 ?_
  refine w_top (show nI i + 1 = nI (i + 1) from nI_add i 1) ?_
  refine va_sld (A := (fun q : Nat => s.heap.size ≤ q)) hx hb hXs hbl (Nat.not_le.mpr hbl) hS (i := nI (i + 1)) (vp_in_nI (by omega) (by omega)) dL_law_1512 ?_
  refine w_top (congrArg xs (nI_clamp (n := i + 1) (by omega))) ?_
  refine lv_aload_n hx hb dL_law_1513 rfl (lv_at hl 3 rfl) ?_
  obtain ⟨kc, bb, S1, G1, T1, T2, U1, og1, n1, nf1, hLM, hMM, e1, e2, ha1, hb1⟩ := op_chuteOfFlight l hfl (D := D) (k := k) (a := a) (tr := tr) (g := g) (t := t) (u := u) (x := x) (o := o) hA9 hB9 T0 U og (xs (i + 1))
  refine c_lS (rest := []) hC hE hX (xZ_drawn hAZ hS _) hP hD hS lo_same (hLM (mW k g t u G T U [])) gw_RL_186 hd_L_chuteOfFlight ⟨Nat.le_of_ble_eq_true rfl, Nat.le_of_ble_eq_true rfl⟩ rfl hl.1 (Nat.le_of_ble_eq_true rfl) hcs dL_law_1514 (fun H locs hP hD hS => ?_)
  have hP := to_mP hP
  have hD := to_mD hD
  refine lv_istore (lv' := [(5, .int kc), (0, .ref b), (1, .ref x), (2, .ref (g 0)), (3, .ref o), (4, .int (nI i))]) hx hb dL_law_1517 hl (by decide) rfl (fun ls hl => ?_)
  refine lv_aload_n hx hb dL_law_1519 rfl (lv_at hl 3 rfl) ?_
  refine lv_aload_n hx hb dL_law_1520 rfl (lv_at hl 1 rfl) ?_
  refine lv_iload hx hb dL_law_1521 (lv_at hl 5 rfl) ?_
  refine lv_iconst (v := 1) hx hb dL_law_1523 (by decide) ?_
  refine lv_iadd hx hb dL_law_1524 ?_
  refine w_top (show nI i + 1 = nI (i + 1) from nI_add i 1) ?_
  refine va_sld (A := (fun q : Nat => s.heap.size ≤ q)) hx hb hXs hbl (Nat.not_le.mpr hbl) hS (i := nI (i + 1)) (vp_in_nI (by omega) (by omega)) dL_law_1525 ?_
  refine w_top (congrArg xs (nI_clamp (n := i + 1) (by omega))) ?_
  refine c_mVi (rest := []) hC hE hP hD hS mw_same (hMM (xwW k a tr x o S1 T2 og1 [])) gc_RL_188 hd_X6_chuteOfFlight ⟨rfl, rfl⟩ ⟨Nat.le_of_ble_eq_true rfl, Nat.le_of_ble_eq_true rfl⟩ 0 gw_0 rfl rfl hl.1 (Nat.le_of_ble_eq_true rfl) hcs dL_law_1526 (fun H locs hP hD hS => ?_)
  refine lv_istore (lv' := [(6, .int bb), (5, .int kc), (0, .ref b), (1, .ref x), (2, .ref (g 0)), (3, .ref o), (4, .int (nI i))]) hx hb dL_law_1529 hl (by decide) rfl (fun ls hl => ?_)
  refine lv_aload_n hx hb dL_law_1531 rfl (lv_at hl 4 rfl) ?_
  refine c_pVi (rest := []) hC hE hP (metX6_thrown l G1 T1) gc_RL_117 hd_X6_thrown ⟨rfl, rfl⟩ ⟨Nat.le_of_ble_eq_true rfl, Nat.le_of_ble_eq_true rfl⟩ 0 gw_0 rfl rfl hl.1 (Nat.le_of_ble_eq_true rfl) hcs dL_law_1532 ?_
  refine w_top e1 ?_
  refine lv_iload hx hb dL_law_1535 (lv_at hl 1 rfl) ?_
  refine lv_icmp_eq (tgt := 1542) hx hb dL_law_1537 (by decide) (fun _ => ?_) (fun c_ => absurd rfl c_)
  refine lv_iload hx hb dL_law_1542 (lv_at hl 1 rfl) ?_
  refine lv_if_ne (tgt := 1559) hx hb dL_law_1544 (by decide) (fun c_k => ?_) (fun c_k => ?_)
  · have hl : lv_has ls 9 [(6, .int bb), (5, .int kc), (0, .ref b), (1, .ref x), (2, .ref (g 0)), (3, .ref o), (4, .int (nI i))] := hl
    refine lv_goto (tgt := 2101) hx hb dL_law_1559 (by decide) ?_
    exact K d0 hd0 ls H locs S1 G1 T1 T2 U1 og1 n1 nf1 ha1 hb1 (lv_sub hl [2, 3, 4, 5, 6] rfl) (to_xP hP) (to_xD hD) hS
  · have hl : lv_has ls 9 [(6, .int bb), (5, .int kc), (0, .ref b), (1, .ref x), (2, .ref (g 0)), (3, .ref o), (4, .int (nI i))] := hl
    refine lv_aload_n hx hb dL_law_1547 rfl (lv_at hl 5 rfl) ?_
    refine lv_iconst (v := 0) hx hb dL_law_1548 (by decide) ?_
    refine va_lald hx hb hE.1 hP 83 2 mo_83 rfl (vp_in_nI (n := 0) (N := 1) (by decide) (by decide)) dL_law_1549 ?_
    refine lv_iload hx hb dL_law_1550 (lv_at hl 0 rfl) ?_
    refine lv_i2l hx hb dL_law_1552 rfl ?_
    refine W.lcmp hx hb dL_law_1553 ?_
    refine w_top (lg_self (e2 c_k)) ?_
    refine lv_if_eq (tgt := 1559) hx hb dL_law_1554 (by decide) (fun _ => ?_) (fun c_ => absurd rfl c_)
    refine lv_goto (tgt := 2101) hx hb dL_law_1559 (by decide) ?_
    exact K d0 hd0 ls H locs S1 G1 T1 T2 U1 og1 n1 nf1 ha1 hb1 (lv_sub hl [2, 3, 4, 5, 6] rfl) (to_xP hP) (to_xD hD) hS
set_option maxHeartbeats 4000000 in
set_option maxRecDepth 100000 in
theorem case_23 {p : Program} {e : Env} {s : State} {m : MethodId} {below : List Frame} {meth : Method} {c : Code} {l : Launch} {b L : Nat} {xs : Nat → Int32} {D : va_G} {k : Nat → ClassId} {a tr g t u : Nat → Nat} {x o : Nat} {Q : State → Prop} (hfl : l.stackTraces = false) (hCd : ∀ d : Drawn, CallFix p m c cL_law 9 (s.setDrawn d) #[Value.ref b] lw_all RL) (hE0 : eK D k s) (hX0 : xK s) (hAZ : aZ s) (hX9 : va_X b L xs s s.heap) (hbl : b < s.heap.size) (hL : L ≤ 2048) {i : Nat} (hi : i + 4 ≤ L) {cells slots : Nat} (hcs : cells + 1 ≤ room_1.cells ∧ slots + 6 ≤ room_1.slots) (K : ∀ (d0 : Drawn), s.drawn.sameBut d0 lw_cs → ∀ (ls : Array Slot) (H : Heap) (locs : List Loc) (S G T T0 U : HS) (og : Nat → Int64) (n nf : Nat), RA S G n nf → RB S T n → lv_has ls 9 [(0, .ref b), (1, .ref x), (2, .ref (g 0)), (3, .ref o), (4, .int (nI i))] → va_P D vwCl (xwW k a tr x o S T0 og (mW k g t u G T U [])) H → va_D (fun q : Nat => s.heap.size ≤ q) (xwW k a tr x o S T0 og (mW k g t u G T U [])) → va_S (fun q : Nat => s.heap.size ≤ q) s.heap H locs → W p l e room_1 (s.setDrawn d0) m #[Value.ref b] below meth c H locs (cells + 1) (slots + 6) Q (F0 m 2101 ls [])) {d0 : Drawn} (hd0 : s.drawn.sameBut d0 lw_cs) {ls : Array Slot} {H : Heap} {locs : List Loc} {S G T T0 U : HS} {og : Nat → Int64} {n nf : Nat} (hA9 : RA S G n nf) (hB9 : RB S T n) (hl : lv_has ls 9 [(0, .ref b), (1, .ref x), (2, .ref (g 0)), (3, .ref o), (4, .int (nI i))]) (hP : va_P D vwCl (xwW k a tr x o S T0 og (mW k g t u G T U [])) H) (hD : va_D (fun q : Nat => s.heap.size ≤ q) (xwW k a tr x o S T0 og (mW k g t u G T U []))) (hS : va_S (fun q : Nat => s.heap.size ≤ q) s.heap H locs) : W p l e room_1 (s.setDrawn d0) m #[Value.ref b] below meth c H locs cells slots Q (F0 m 1562 ls []) := by
  have hC := hCd d0
  have hx := hC.1
  have hb := hC.2.1
  have hE := eK_drawn hE0 d0
  have hX := xK_drawn hX0 d0
  have hXs : va_X b L xs (s.setDrawn d0) s.heap := va_X.moved (u := s) (U := s.setDrawn d0) (Vm.Alike.refl s.vm) hX9
  refine lv_aload_n hx hb dL_law_1562 rfl (lv_at hl 1 rfl) ?_
  refine lv_aload_n hx hb dL_law_1563 rfl (lv_at hl 0 rfl) ?_
  refine lv_iload hx hb dL_law_1564 (lv_at hl 4 rfl) ?_
  refine lv_iconst (v := 1) hx hb dL_law_1566 (by decide) ?_
  refine lv_iadd hx hb dL_law_1567 ?_
  refine w_top (show nI i + 1 = nI (i + 1) from nI_add i 1) ?_
  refine va_sld (A := (fun q : Nat => s.heap.size ≤ q)) hx hb hXs hbl (Nat.not_le.mpr hbl) hS (i := nI (i + 1)) (vp_in_nI (by omega) (by omega)) dL_law_1568 ?_
  refine w_top (congrArg xs (nI_clamp (n := i + 1) (by omega))) ?_
  refine lv_aload_n hx hb dL_law_1569 rfl (lv_at hl 3 rfl) ?_
  obtain ⟨kc, bb, S1, G1, T1, T2, U1, og1, n1, nf1, hLM, hMM, e1, e2, ha1, hb1⟩ := op_isGone l hfl (D := D) (k := k) (a := a) (tr := tr) (g := g) (t := t) (u := u) (x := x) (o := o) hA9 hB9 T0 U og (xs (i + 1))
  refine c_lS (rest := []) hC hE hX (xZ_drawn hAZ hS _) hP hD hS lo_same (hLM (mW k g t u G T U [])) gw_RL_189 hd_L_isGone ⟨Nat.le_of_ble_eq_true rfl, Nat.le_of_ble_eq_true rfl⟩ rfl hl.1 (Nat.le_of_ble_eq_true rfl) hcs dL_law_1570 (fun H locs hP hD hS => ?_)
  have hP := to_mP hP
  have hD := to_mD hD
  refine lv_istore (lv' := [(5, .int kc), (0, .ref b), (1, .ref x), (2, .ref (g 0)), (3, .ref o), (4, .int (nI i))]) hx hb dL_law_1573 hl (by decide) rfl (fun ls hl => ?_)
  refine lv_aload_n hx hb dL_law_1575 rfl (lv_at hl 3 rfl) ?_
  refine lv_aload_n hx hb dL_law_1576 rfl (lv_at hl 1 rfl) ?_
  refine lv_iload hx hb dL_law_1577 (lv_at hl 5 rfl) ?_
  refine lv_iconst (v := 1) hx hb dL_law_1579 (by decide) ?_
  refine lv_iadd hx hb dL_law_1580 ?_
  refine w_top (show nI i + 1 = nI (i + 1) from nI_add i 1) ?_
  refine va_sld (A := (fun q : Nat => s.heap.size ≤ q)) hx hb hXs hbl (Nat.not_le.mpr hbl) hS (i := nI (i + 1)) (vp_in_nI (by omega) (by omega)) dL_law_1581 ?_
  refine w_top (congrArg xs (nI_clamp (n := i + 1) (by omega))) ?_
  refine c_mVi (rest := []) hC hE hP hD hS mw_same (hMM (xwW k a tr x o S1 T2 og1 [])) gc_RL_191 hd_X6_isGone ⟨rfl, rfl⟩ ⟨Nat.le_of_ble_eq_true rfl, Nat.le_of_ble_eq_true rfl⟩ 0 gw_0 rfl rfl hl.1 (Nat.le_of_ble_eq_true rfl) hcs dL_law_1582 (fun H locs hP hD hS => ?_)
  refine lv_istore (lv' := [(6, .int bb), (5, .int kc), (0, .ref b), (1, .ref x), (2, .ref (g 0)), (3, .ref o), (4, .int (nI i))]) hx hb dL_law_1585 hl (by decide) rfl (fun ls hl => ?_)
  refine lv_aload_n hx hb dL_law_1587 rfl (lv_at hl 4 rfl) ?_
  refine c_pVi (rest := []) hC hE hP (metX6_thrown l G1 T1) gc_RL_117 hd_X6_thrown ⟨rfl, rfl⟩ ⟨Nat.le_of_ble_eq_true rfl, Nat.le_of_ble_eq_true rfl⟩ 0 gw_0 rfl rfl hl.1 (Nat.le_of_ble_eq_true rfl) hcs dL_law_1588 ?_
  refine w_top e1 ?_
  refine lv_iload hx hb dL_law_1591 (lv_at hl 1 rfl) ?_
  refine lv_icmp_eq (tgt := 1598) hx hb dL_law_1593 (by decide) (fun _ => ?_) (fun c_ => absurd rfl c_)
  refine lv_iload hx hb dL_law_1598 (lv_at hl 1 rfl) ?_
  refine lv_if_ne (tgt := 1622) hx hb dL_law_1600 (by decide) (fun c_k => ?_) (fun c_k => ?_)
  · have hl : lv_has ls 9 [(6, .int bb), (5, .int kc), (0, .ref b), (1, .ref x), (2, .ref (g 0)), (3, .ref o), (4, .int (nI i))] := hl
    refine lv_goto (tgt := 2101) hx hb dL_law_1622 (by decide) ?_
    exact K d0 hd0 ls H locs S1 G1 T1 T2 U1 og1 n1 nf1 ha1 hb1 (lv_sub hl [2, 3, 4, 5, 6] rfl) (to_xP hP) (to_xD hD) hS
  · have hl : lv_has ls 9 [(6, .int bb), (5, .int kc), (0, .ref b), (1, .ref x), (2, .ref (g 0)), (3, .ref o), (4, .int (nI i))] := hl
    refine lv_aload_n hx hb dL_law_1603 rfl (lv_at hl 5 rfl) ?_
    refine lv_iconst (v := 0) hx hb dL_law_1604 (by decide) ?_
    refine va_lald hx hb hE.1 hP 83 2 mo_83 rfl (vp_in_nI (n := 0) (N := 1) (by decide) (by decide)) dL_law_1605 ?_
    refine lv_iload hx hb dL_law_1606 (lv_at hl 0 rfl) ?_
    refine lv_if_eq (tgt := 1615) hx hb dL_law_1608 (by decide) (fun c_b0 => ?_) (fun c_b1 => ?_)
    · have hl : lv_has ls 9 [(6, .int bb), (5, .int kc), (0, .ref b), (1, .ref x), (2, .ref (g 0)), (3, .ref o), (4, .int (nI i))] := hl
      refine lv_lconst (v := 0) hx hb dL_law_1615 (by decide) ?_
      refine W.lcmp hx hb dL_law_1616 ?_
      refine w_top (lg_self ((e2 c_k).1 c_b0)) ?_
      refine lv_if_eq (tgt := 1622) hx hb dL_law_1617 (by decide) (fun _ => ?_) (fun c_ => absurd rfl c_)
      refine lv_goto (tgt := 2101) hx hb dL_law_1622 (by decide) ?_
      exact K d0 hd0 ls H locs S1 G1 T1 T2 U1 og1 n1 nf1 ha1 hb1 (lv_sub hl [2, 3, 4, 5, 6] rfl) (to_xP hP) (to_xD hD) hS
    · have hl : lv_has ls 9 [(6, .int bb), (5, .int kc), (0, .ref b), (1, .ref x), (2, .ref (g 0)), (3, .ref o), (4, .int (nI i))] := hl
      refine lv_lconst (v := 1) hx hb dL_law_1611 (by decide) ?_
      refine lv_goto (tgt := 1616) hx hb dL_law_1612 (by decide) ?_
      refine W.lcmp hx hb dL_law_1616 ?_
      refine w_top (lg_self ((e2 c_k).2 c_b1)) ?_
      refine lv_if_eq (tgt := 1622) hx hb dL_law_1617 (by decide) (fun _ => ?_) (fun c_ => absurd rfl c_)
      refine lv_goto (tgt := 2101) hx hb dL_law_1622 (by decide) ?_
      exact K d0 hd0 ls H locs S1 G1 T1 T2 U1 og1 n1 nf1 ha1 hb1 (lv_sub hl [2, 3, 4, 5, 6] rfl) (to_xP hP) (to_xD hD) hS
set_option maxHeartbeats 4000000 in
set_option maxRecDepth 100000 in
theorem case_24 {p : Program} {e : Env} {s : State} {m : MethodId} {below : List Frame} {meth : Method} {c : Code} {l : Launch} {b L : Nat} {xs : Nat → Int32} {D : va_G} {k : Nat → ClassId} {a tr g t u : Nat → Nat} {x o : Nat} {Q : State → Prop} (hfl : l.stackTraces = false) (hCd : ∀ d : Drawn, CallFix p m c cL_law 9 (s.setDrawn d) #[Value.ref b] lw_all RL) (hE0 : eK D k s) (hX0 : xK s) (hAZ : aZ s) (hX9 : va_X b L xs s s.heap) (hbl : b < s.heap.size) (hL : L ≤ 2048) {i : Nat} (hi : i + 4 ≤ L) {cells slots : Nat} (hcs : cells + 1 ≤ room_1.cells ∧ slots + 6 ≤ room_1.slots) (K : ∀ (d0 : Drawn), s.drawn.sameBut d0 lw_cs → ∀ (ls : Array Slot) (H : Heap) (locs : List Loc) (S G T T0 U : HS) (og : Nat → Int64) (n nf : Nat), RA S G n nf → RB S T n → lv_has ls 9 [(0, .ref b), (1, .ref x), (2, .ref (g 0)), (3, .ref o), (4, .int (nI i))] → va_P D vwCl (xwW k a tr x o S T0 og (mW k g t u G T U [])) H → va_D (fun q : Nat => s.heap.size ≤ q) (xwW k a tr x o S T0 og (mW k g t u G T U [])) → va_S (fun q : Nat => s.heap.size ≤ q) s.heap H locs → W p l e room_1 (s.setDrawn d0) m #[Value.ref b] below meth c H locs (cells + 1) (slots + 6) Q (F0 m 2101 ls [])) {d0 : Drawn} (hd0 : s.drawn.sameBut d0 lw_cs) {ls : Array Slot} {H : Heap} {locs : List Loc} {S G T T0 U : HS} {og : Nat → Int64} {n nf : Nat} (hA9 : RA S G n nf) (hB9 : RB S T n) (hl : lv_has ls 9 [(0, .ref b), (1, .ref x), (2, .ref (g 0)), (3, .ref o), (4, .int (nI i))]) (hP : va_P D vwCl (xwW k a tr x o S T0 og (mW k g t u G T U [])) H) (hD : va_D (fun q : Nat => s.heap.size ≤ q) (xwW k a tr x o S T0 og (mW k g t u G T U []))) (hS : va_S (fun q : Nat => s.heap.size ≤ q) s.heap H locs) : W p l e room_1 (s.setDrawn d0) m #[Value.ref b] below meth c H locs cells slots Q (F0 m 1625 ls []) := by
  have hC := hCd d0
  have hx := hC.1
  have hb := hC.2.1
  have hE := eK_drawn hE0 d0
  have hX := xK_drawn hX0 d0
  have hXs : va_X b L xs (s.setDrawn d0) s.heap := va_X.moved (u := s) (U := s.setDrawn d0) (Vm.Alike.refl s.vm) hX9
  refine lv_aload_n hx hb dL_law_1625 rfl (lv_at hl 1 rfl) ?_
  refine lv_aload_n hx hb dL_law_1626 rfl (lv_at hl 0 rfl) ?_
  refine lv_iload hx hb dL_law_1627 (lv_at hl 4 rfl) ?_
  refine lv_iconst (v := 1) hx hb dL_law_1629 (by decide) ?_
  refine lv_iadd hx hb dL_law_1630 ?_
  refine w_top (show nI i + 1 = nI (i + 1) from nI_add i 1) ?_
  refine va_sld (A := (fun q : Nat => s.heap.size ≤ q)) hx hb hXs hbl (Nat.not_le.mpr hbl) hS (i := nI (i + 1)) (vp_in_nI (by omega) (by omega)) dL_law_1631 ?_
  refine w_top (congrArg xs (nI_clamp (n := i + 1) (by omega))) ?_
  refine lv_aload_n hx hb dL_law_1632 rfl (lv_at hl 3 rfl) ?_
  obtain ⟨kc, bb, S1, G1, T1, T2, U1, og1, n1, nf1, hLM, hMM, e1, e2, ha1, hb1⟩ := op_readyOf l hfl (D := D) (k := k) (a := a) (tr := tr) (g := g) (t := t) (u := u) (x := x) (o := o) hA9 hB9 T0 U og (xs (i + 1))
  refine c_lS (rest := []) hC hE hX (xZ_drawn hAZ hS _) hP hD hS lo_same (hLM (mW k g t u G T U [])) gw_RL_192 hd_L_readyOf ⟨Nat.le_of_ble_eq_true rfl, Nat.le_of_ble_eq_true rfl⟩ rfl hl.1 (Nat.le_of_ble_eq_true rfl) hcs dL_law_1633 (fun H locs hP hD hS => ?_)
  have hP := to_mP hP
  have hD := to_mD hD
  refine lv_istore (lv' := [(5, .int kc), (0, .ref b), (1, .ref x), (2, .ref (g 0)), (3, .ref o), (4, .int (nI i))]) hx hb dL_law_1636 hl (by decide) rfl (fun ls hl => ?_)
  refine lv_aload_n hx hb dL_law_1638 rfl (lv_at hl 3 rfl) ?_
  refine lv_aload_n hx hb dL_law_1639 rfl (lv_at hl 1 rfl) ?_
  refine lv_iload hx hb dL_law_1640 (lv_at hl 5 rfl) ?_
  refine lv_iconst (v := 1) hx hb dL_law_1642 (by decide) ?_
  refine lv_iadd hx hb dL_law_1643 ?_
  refine w_top (show nI i + 1 = nI (i + 1) from nI_add i 1) ?_
  refine va_sld (A := (fun q : Nat => s.heap.size ≤ q)) hx hb hXs hbl (Nat.not_le.mpr hbl) hS (i := nI (i + 1)) (vp_in_nI (by omega) (by omega)) dL_law_1644 ?_
  refine w_top (congrArg xs (nI_clamp (n := i + 1) (by omega))) ?_
  refine c_mVi (rest := []) hC hE hP hD hS mw_same (hMM (xwW k a tr x o S1 T2 og1 [])) gc_RL_194 hd_X6_readyOf ⟨rfl, rfl⟩ ⟨Nat.le_of_ble_eq_true rfl, Nat.le_of_ble_eq_true rfl⟩ 0 gw_0 rfl rfl hl.1 (Nat.le_of_ble_eq_true rfl) hcs dL_law_1645 (fun H locs hP hD hS => ?_)
  refine lv_istore (lv' := [(6, .int bb), (5, .int kc), (0, .ref b), (1, .ref x), (2, .ref (g 0)), (3, .ref o), (4, .int (nI i))]) hx hb dL_law_1648 hl (by decide) rfl (fun ls hl => ?_)
  refine lv_aload_n hx hb dL_law_1650 rfl (lv_at hl 4 rfl) ?_
  refine c_pVi (rest := []) hC hE hP (metX6_thrown l G1 T1) gc_RL_117 hd_X6_thrown ⟨rfl, rfl⟩ ⟨Nat.le_of_ble_eq_true rfl, Nat.le_of_ble_eq_true rfl⟩ 0 gw_0 rfl rfl hl.1 (Nat.le_of_ble_eq_true rfl) hcs dL_law_1651 ?_
  refine w_top e1 ?_
  refine lv_iload hx hb dL_law_1654 (lv_at hl 1 rfl) ?_
  refine lv_icmp_eq (tgt := 1661) hx hb dL_law_1656 (by decide) (fun _ => ?_) (fun c_ => absurd rfl c_)
  refine lv_iload hx hb dL_law_1661 (lv_at hl 1 rfl) ?_
  refine lv_if_ne (tgt := 1678) hx hb dL_law_1663 (by decide) (fun c_k => ?_) (fun c_k => ?_)
  · have hl : lv_has ls 9 [(6, .int bb), (5, .int kc), (0, .ref b), (1, .ref x), (2, .ref (g 0)), (3, .ref o), (4, .int (nI i))] := hl
    refine lv_goto (tgt := 2101) hx hb dL_law_1678 (by decide) ?_
    exact K d0 hd0 ls H locs S1 G1 T1 T2 U1 og1 n1 nf1 ha1 hb1 (lv_sub hl [2, 3, 4, 5, 6] rfl) (to_xP hP) (to_xD hD) hS
  · have hl : lv_has ls 9 [(6, .int bb), (5, .int kc), (0, .ref b), (1, .ref x), (2, .ref (g 0)), (3, .ref o), (4, .int (nI i))] := hl
    refine lv_aload_n hx hb dL_law_1666 rfl (lv_at hl 5 rfl) ?_
    refine lv_iconst (v := 0) hx hb dL_law_1667 (by decide) ?_
    refine va_lald hx hb hE.1 hP 83 2 mo_83 rfl (vp_in_nI (n := 0) (N := 1) (by decide) (by decide)) dL_law_1668 ?_
    refine lv_iload hx hb dL_law_1669 (lv_at hl 0 rfl) ?_
    refine lv_i2l hx hb dL_law_1671 rfl ?_
    refine W.lcmp hx hb dL_law_1672 ?_
    refine w_top (lg_self (e2 c_k)) ?_
    refine lv_if_eq (tgt := 1678) hx hb dL_law_1673 (by decide) (fun _ => ?_) (fun c_ => absurd rfl c_)
    refine lv_goto (tgt := 2101) hx hb dL_law_1678 (by decide) ?_
    exact K d0 hd0 ls H locs S1 G1 T1 T2 U1 og1 n1 nf1 ha1 hb1 (lv_sub hl [2, 3, 4, 5, 6] rfl) (to_xP hP) (to_xD hD) hS
set_option maxHeartbeats 4000000 in
set_option maxRecDepth 100000 in
theorem case_25 {p : Program} {e : Env} {s : State} {m : MethodId} {below : List Frame} {meth : Method} {c : Code} {l : Launch} {b L : Nat} {xs : Nat → Int32} {D : va_G} {k : Nat → ClassId} {a tr g t u : Nat → Nat} {x o : Nat} {Q : State → Prop} (hfl : l.stackTraces = false) (hCd : ∀ d : Drawn, CallFix p m c cL_law 9 (s.setDrawn d) #[Value.ref b] lw_all RL) (hE0 : eK D k s) (hX0 : xK s) (hAZ : aZ s) (hX9 : va_X b L xs s s.heap) (hbl : b < s.heap.size) (hL : L ≤ 2048) {i : Nat} (hi : i + 4 ≤ L) {cells slots : Nat} (hcs : cells + 1 ≤ room_1.cells ∧ slots + 6 ≤ room_1.slots) (K : ∀ (d0 : Drawn), s.drawn.sameBut d0 lw_cs → ∀ (ls : Array Slot) (H : Heap) (locs : List Loc) (S G T T0 U : HS) (og : Nat → Int64) (n nf : Nat), RA S G n nf → RB S T n → lv_has ls 9 [(0, .ref b), (1, .ref x), (2, .ref (g 0)), (3, .ref o), (4, .int (nI i))] → va_P D vwCl (xwW k a tr x o S T0 og (mW k g t u G T U [])) H → va_D (fun q : Nat => s.heap.size ≤ q) (xwW k a tr x o S T0 og (mW k g t u G T U [])) → va_S (fun q : Nat => s.heap.size ≤ q) s.heap H locs → W p l e room_1 (s.setDrawn d0) m #[Value.ref b] below meth c H locs (cells + 1) (slots + 6) Q (F0 m 2101 ls [])) {d0 : Drawn} (hd0 : s.drawn.sameBut d0 lw_cs) {ls : Array Slot} {H : Heap} {locs : List Loc} {S G T T0 U : HS} {og : Nat → Int64} {n nf : Nat} (hA9 : RA S G n nf) (hB9 : RB S T n) (hl : lv_has ls 9 [(0, .ref b), (1, .ref x), (2, .ref (g 0)), (3, .ref o), (4, .int (nI i))]) (hP : va_P D vwCl (xwW k a tr x o S T0 og (mW k g t u G T U [])) H) (hD : va_D (fun q : Nat => s.heap.size ≤ q) (xwW k a tr x o S T0 og (mW k g t u G T U []))) (hS : va_S (fun q : Nat => s.heap.size ≤ q) s.heap H locs) : W p l e room_1 (s.setDrawn d0) m #[Value.ref b] below meth c H locs cells slots Q (F0 m 1681 ls []) := by
  have hC := hCd d0
  have hx := hC.1
  have hb := hC.2.1
  have hE := eK_drawn hE0 d0
  have hX := xK_drawn hX0 d0
  have hXs : va_X b L xs (s.setDrawn d0) s.heap := va_X.moved (u := s) (U := s.setDrawn d0) (Vm.Alike.refl s.vm) hX9
  refine lv_aload_n hx hb dL_law_1681 rfl (lv_at hl 1 rfl) ?_
  refine lv_aload_n hx hb dL_law_1682 rfl (lv_at hl 0 rfl) ?_
  refine lv_iload hx hb dL_law_1683 (lv_at hl 4 rfl) ?_
  refine lv_iconst (v := 1) hx hb dL_law_1685 (by decide) ?_
  refine lv_iadd hx hb dL_law_1686 ?_
  refine w_top (show nI i + 1 = nI (i + 1) from nI_add i 1) ?_
  refine va_sld (A := (fun q : Nat => s.heap.size ≤ q)) hx hb hXs hbl (Nat.not_le.mpr hbl) hS (i := nI (i + 1)) (vp_in_nI (by omega) (by omega)) dL_law_1687 ?_
  refine w_top (congrArg xs (nI_clamp (n := i + 1) (by omega))) ?_
  refine lv_aload_n hx hb dL_law_1688 rfl (lv_at hl 3 rfl) ?_
  obtain ⟨kc, bb, S1, G1, T1, T2, U1, og1, n1, nf1, hLM, hMM, e1, e2, ha1, hb1⟩ := op_missingOf l hfl (D := D) (k := k) (a := a) (tr := tr) (g := g) (t := t) (u := u) (x := x) (o := o) hA9 hB9 T0 U og (xs (i + 1))
  refine c_lS (rest := []) hC hE hX (xZ_drawn hAZ hS _) hP hD hS lo_same (hLM (mW k g t u G T U [])) gw_RL_195 hd_L_missingOf ⟨Nat.le_of_ble_eq_true rfl, Nat.le_of_ble_eq_true rfl⟩ rfl hl.1 (Nat.le_of_ble_eq_true rfl) hcs dL_law_1689 (fun H locs hP hD hS => ?_)
  have hP := to_mP hP
  have hD := to_mD hD
  refine lv_istore (lv' := [(5, .int kc), (0, .ref b), (1, .ref x), (2, .ref (g 0)), (3, .ref o), (4, .int (nI i))]) hx hb dL_law_1692 hl (by decide) rfl (fun ls hl => ?_)
  refine lv_aload_n hx hb dL_law_1694 rfl (lv_at hl 3 rfl) ?_
  refine lv_aload_n hx hb dL_law_1695 rfl (lv_at hl 1 rfl) ?_
  refine lv_iload hx hb dL_law_1696 (lv_at hl 5 rfl) ?_
  refine lv_iconst (v := 1) hx hb dL_law_1698 (by decide) ?_
  refine lv_iadd hx hb dL_law_1699 ?_
  refine w_top (show nI i + 1 = nI (i + 1) from nI_add i 1) ?_
  refine va_sld (A := (fun q : Nat => s.heap.size ≤ q)) hx hb hXs hbl (Nat.not_le.mpr hbl) hS (i := nI (i + 1)) (vp_in_nI (by omega) (by omega)) dL_law_1700 ?_
  refine w_top (congrArg xs (nI_clamp (n := i + 1) (by omega))) ?_
  refine c_mVi (rest := []) hC hE hP hD hS mw_same (hMM (xwW k a tr x o S1 T2 og1 [])) gc_RL_197 hd_X6_missingOf ⟨rfl, rfl⟩ ⟨Nat.le_of_ble_eq_true rfl, Nat.le_of_ble_eq_true rfl⟩ 0 gw_0 rfl rfl hl.1 (Nat.le_of_ble_eq_true rfl) hcs dL_law_1701 (fun H locs hP hD hS => ?_)
  refine lv_istore (lv' := [(6, .int bb), (5, .int kc), (0, .ref b), (1, .ref x), (2, .ref (g 0)), (3, .ref o), (4, .int (nI i))]) hx hb dL_law_1704 hl (by decide) rfl (fun ls hl => ?_)
  refine lv_aload_n hx hb dL_law_1706 rfl (lv_at hl 4 rfl) ?_
  refine c_pVi (rest := []) hC hE hP (metX6_thrown l G1 T1) gc_RL_117 hd_X6_thrown ⟨rfl, rfl⟩ ⟨Nat.le_of_ble_eq_true rfl, Nat.le_of_ble_eq_true rfl⟩ 0 gw_0 rfl rfl hl.1 (Nat.le_of_ble_eq_true rfl) hcs dL_law_1707 ?_
  refine w_top e1 ?_
  refine lv_iload hx hb dL_law_1710 (lv_at hl 1 rfl) ?_
  refine lv_icmp_eq (tgt := 1717) hx hb dL_law_1712 (by decide) (fun _ => ?_) (fun c_ => absurd rfl c_)
  refine lv_iload hx hb dL_law_1717 (lv_at hl 1 rfl) ?_
  refine lv_if_ne (tgt := 1734) hx hb dL_law_1719 (by decide) (fun c_k => ?_) (fun c_k => ?_)
  · have hl : lv_has ls 9 [(6, .int bb), (5, .int kc), (0, .ref b), (1, .ref x), (2, .ref (g 0)), (3, .ref o), (4, .int (nI i))] := hl
    refine lv_goto (tgt := 2101) hx hb dL_law_1734 (by decide) ?_
    exact K d0 hd0 ls H locs S1 G1 T1 T2 U1 og1 n1 nf1 ha1 hb1 (lv_sub hl [2, 3, 4, 5, 6] rfl) (to_xP hP) (to_xD hD) hS
  · have hl : lv_has ls 9 [(6, .int bb), (5, .int kc), (0, .ref b), (1, .ref x), (2, .ref (g 0)), (3, .ref o), (4, .int (nI i))] := hl
    refine lv_aload_n hx hb dL_law_1722 rfl (lv_at hl 5 rfl) ?_
    refine lv_iconst (v := 0) hx hb dL_law_1723 (by decide) ?_
    refine va_lald hx hb hE.1 hP 83 2 mo_83 rfl (vp_in_nI (n := 0) (N := 1) (by decide) (by decide)) dL_law_1724 ?_
    refine lv_iload hx hb dL_law_1725 (lv_at hl 0 rfl) ?_
    refine lv_i2l hx hb dL_law_1727 rfl ?_
    refine W.lcmp hx hb dL_law_1728 ?_
    refine w_top (lg_self (e2 c_k)) ?_
    refine lv_if_eq (tgt := 1734) hx hb dL_law_1729 (by decide) (fun _ => ?_) (fun c_ => absurd rfl c_)
    refine lv_goto (tgt := 2101) hx hb dL_law_1734 (by decide) ?_
    exact K d0 hd0 ls H locs S1 G1 T1 T2 U1 og1 n1 nf1 ha1 hb1 (lv_sub hl [2, 3, 4, 5, 6] rfl) (to_xP hP) (to_xD hD) hS
set_option maxHeartbeats 4000000 in
set_option maxRecDepth 100000 in
theorem case_26 {p : Program} {e : Env} {s : State} {m : MethodId} {below : List Frame} {meth : Method} {c : Code} {l : Launch} {b L : Nat} {xs : Nat → Int32} {D : va_G} {k : Nat → ClassId} {a tr g t u : Nat → Nat} {x o : Nat} {Q : State → Prop} (hfl : l.stackTraces = false) (hCd : ∀ d : Drawn, CallFix p m c cL_law 9 (s.setDrawn d) #[Value.ref b] lw_all RL) (hE0 : eK D k s) (hX0 : xK s) (hAZ : aZ s) (hX9 : va_X b L xs s s.heap) (hbl : b < s.heap.size) (hL : L ≤ 2048) {i : Nat} (hi : i + 4 ≤ L) {cells slots : Nat} (hcs : cells + 1 ≤ room_1.cells ∧ slots + 6 ≤ room_1.slots) (K : ∀ (d0 : Drawn), s.drawn.sameBut d0 lw_cs → ∀ (ls : Array Slot) (H : Heap) (locs : List Loc) (S G T T0 U : HS) (og : Nat → Int64) (n nf : Nat), RA S G n nf → RB S T n → lv_has ls 9 [(0, .ref b), (1, .ref x), (2, .ref (g 0)), (3, .ref o), (4, .int (nI i))] → va_P D vwCl (xwW k a tr x o S T0 og (mW k g t u G T U [])) H → va_D (fun q : Nat => s.heap.size ≤ q) (xwW k a tr x o S T0 og (mW k g t u G T U [])) → va_S (fun q : Nat => s.heap.size ≤ q) s.heap H locs → W p l e room_1 (s.setDrawn d0) m #[Value.ref b] below meth c H locs (cells + 1) (slots + 6) Q (F0 m 2101 ls [])) {d0 : Drawn} (hd0 : s.drawn.sameBut d0 lw_cs) {ls : Array Slot} {H : Heap} {locs : List Loc} {S G T T0 U : HS} {og : Nat → Int64} {n nf : Nat} (hA9 : RA S G n nf) (hB9 : RB S T n) (hl : lv_has ls 9 [(0, .ref b), (1, .ref x), (2, .ref (g 0)), (3, .ref o), (4, .int (nI i))]) (hP : va_P D vwCl (xwW k a tr x o S T0 og (mW k g t u G T U [])) H) (hD : va_D (fun q : Nat => s.heap.size ≤ q) (xwW k a tr x o S T0 og (mW k g t u G T U []))) (hS : va_S (fun q : Nat => s.heap.size ≤ q) s.heap H locs) : W p l e room_1 (s.setDrawn d0) m #[Value.ref b] below meth c H locs cells slots Q (F0 m 1737 ls []) := by
  have hC := hCd d0
  have hx := hC.1
  have hb := hC.2.1
  have hE := eK_drawn hE0 d0
  have hX := xK_drawn hX0 d0
  have hXs : va_X b L xs (s.setDrawn d0) s.heap := va_X.moved (u := s) (U := s.setDrawn d0) (Vm.Alike.refl s.vm) hX9
  have hc0 : cells ≤ room_1.cells ∧ slots ≤ room_1.slots := ⟨Nat.le_of_succ_le hcs.1, Nat.le_trans (Nat.le_add_right slots 6) hcs.2⟩
  refine lv_aload_n hx hb dL_law_1737 rfl (lv_at hl 1 rfl) ?_
  refine c_pVi (rest := []) hC hE hP (metX4_minute l S) gc_RL_198 hd_X4_minute ⟨rfl, rfl⟩ ⟨Nat.le_of_ble_eq_true rfl, Nat.le_of_ble_eq_true rfl⟩ 29 lo_29 rfl rfl hl.1 (Nat.le_of_ble_eq_true rfl) hc0 dL_law_1738 ?_
  have hP := to_mP hP
  have hD := to_mD hD
  refine lv_aload_n hx hb dL_law_1741 rfl (lv_at hl 2 rfl) ?_
  refine c_mVi (rest := [.int (S 0 0)]) hC hE hP hD hS mw_same (metX6_minute l G T n hA9.gn hA9.n40 nf hA9.gf_ hA9.nf6 hA9.okF hA9.gob) gc_RL_201 hd_X6_minute ⟨rfl, rfl⟩ ⟨Nat.le_of_ble_eq_true rfl, Nat.le_of_ble_eq_true rfl⟩ 0 gw_0 rfl rfl hl.1 (Nat.le_of_ble_eq_true rfl) hc0 dL_law_1742 (fun H locs hP hD hS => ?_)
  refine w_top (show qminute_r G T n nf = S 0 0 from (hB9.mnt).symm) ?_
  refine lv_icmp_eq (tgt := 2101) hx hb dL_law_1745 (by decide) (fun _ => ?_) (fun c_ => absurd rfl c_)
  refine W.widen (k := cells + 1) (n := slots + 6) (Nat.le_succ cells) (Nat.le_add_right slots 6) ?_
  exact K d0 hd0 ls H locs S (qminute_g G T n nf) T T0 U og n nf (RA_thr hA9 0) hB9 (lv_sub hl [0, 1, 2, 3, 4] rfl) (to_xP hP) (to_xD hD) hS
set_option maxHeartbeats 4000000 in
set_option maxRecDepth 100000 in
theorem case_27 {p : Program} {e : Env} {s : State} {m : MethodId} {below : List Frame} {meth : Method} {c : Code} {l : Launch} {b L : Nat} {xs : Nat → Int32} {D : va_G} {k : Nat → ClassId} {a tr g t u : Nat → Nat} {x o : Nat} {Q : State → Prop} (hfl : l.stackTraces = false) (hCd : ∀ d : Drawn, CallFix p m c cL_law 9 (s.setDrawn d) #[Value.ref b] lw_all RL) (hE0 : eK D k s) (hX0 : xK s) (hAZ : aZ s) (hX9 : va_X b L xs s s.heap) (hbl : b < s.heap.size) (hL : L ≤ 2048) {i : Nat} (hi : i + 4 ≤ L) {cells slots : Nat} (hcs : cells + 1 ≤ room_1.cells ∧ slots + 6 ≤ room_1.slots) (K : ∀ (d0 : Drawn), s.drawn.sameBut d0 lw_cs → ∀ (ls : Array Slot) (H : Heap) (locs : List Loc) (S G T T0 U : HS) (og : Nat → Int64) (n nf : Nat), RA S G n nf → RB S T n → lv_has ls 9 [(0, .ref b), (1, .ref x), (2, .ref (g 0)), (3, .ref o), (4, .int (nI i))] → va_P D vwCl (xwW k a tr x o S T0 og (mW k g t u G T U [])) H → va_D (fun q : Nat => s.heap.size ≤ q) (xwW k a tr x o S T0 og (mW k g t u G T U [])) → va_S (fun q : Nat => s.heap.size ≤ q) s.heap H locs → W p l e room_1 (s.setDrawn d0) m #[Value.ref b] below meth c H locs (cells + 1) (slots + 6) Q (F0 m 2101 ls [])) {d0 : Drawn} (hd0 : s.drawn.sameBut d0 lw_cs) {ls : Array Slot} {H : Heap} {locs : List Loc} {S G T T0 U : HS} {og : Nat → Int64} {n nf : Nat} (hA9 : RA S G n nf) (hB9 : RB S T n) (hl : lv_has ls 9 [(0, .ref b), (1, .ref x), (2, .ref (g 0)), (3, .ref o), (4, .int (nI i))]) (hP : va_P D vwCl (xwW k a tr x o S T0 og (mW k g t u G T U [])) H) (hD : va_D (fun q : Nat => s.heap.size ≤ q) (xwW k a tr x o S T0 og (mW k g t u G T U []))) (hS : va_S (fun q : Nat => s.heap.size ≤ q) s.heap H locs) : W p l e room_1 (s.setDrawn d0) m #[Value.ref b] below meth c H locs cells slots Q (F0 m 1750 ls []) := by
  have hC := hCd d0
  have hx := hC.1
  have hb := hC.2.1
  have hE := eK_drawn hE0 d0
  have hX := xK_drawn hX0 d0
  have hXs : va_X b L xs (s.setDrawn d0) s.heap := va_X.moved (u := s) (U := s.setDrawn d0) (Vm.Alike.refl s.vm) hX9
  have hc0 : cells ≤ room_1.cells ∧ slots ≤ room_1.slots := ⟨Nat.le_of_succ_le hcs.1, Nat.le_trans (Nat.le_add_right slots 6) hcs.2⟩
  refine lv_aload_n hx hb dL_law_1750 rfl (lv_at hl 1 rfl) ?_
  refine c_pVi (rest := []) hC hE hP (metX4_flights l S) gc_RL_202 hd_X4_flights ⟨rfl, rfl⟩ ⟨Nat.le_of_ble_eq_true rfl, Nat.le_of_ble_eq_true rfl⟩ 29 lo_29 rfl rfl hl.1 (Nat.le_of_ble_eq_true rfl) hc0 dL_law_1751 ?_
  have hP := to_mP hP
  have hD := to_mD hD
  refine lv_aload_n hx hb dL_law_1754 rfl (lv_at hl 2 rfl) ?_
  refine c_mVi (rest := [.int (S 0 3)]) hC hE hP hD hS mw_same (metX6_flights l G T n hA9.gn hA9.n40 nf hA9.gf_ hA9.nf6 hA9.okF hA9.gob) gc_RL_205 hd_X6_flights ⟨rfl, rfl⟩ ⟨Nat.le_of_ble_eq_true rfl, Nat.le_of_ble_eq_true rfl⟩ 0 gw_0 rfl rfl hl.1 (Nat.le_of_ble_eq_true rfl) hc0 dL_law_1755 (fun H locs hP hD hS => ?_)
  refine w_top (show qflights_r G T n nf = S 0 3 from (hA9.sf_.trans hA9.gf_.symm).symm) ?_
  refine lv_icmp_eq (tgt := 2101) hx hb dL_law_1758 (by decide) (fun _ => ?_) (fun c_ => absurd rfl c_)
  refine W.widen (k := cells + 1) (n := slots + 6) (Nat.le_succ cells) (Nat.le_add_right slots 6) ?_
  exact K d0 hd0 ls H locs S (qflights_g G T n nf) T T0 U og n nf (RA_thr hA9 0) hB9 (lv_sub hl [0, 1, 2, 3, 4] rfl) (to_xP hP) (to_xD hD) hS
set_option maxHeartbeats 4000000 in
set_option maxRecDepth 100000 in
theorem case_28 {p : Program} {e : Env} {s : State} {m : MethodId} {below : List Frame} {meth : Method} {c : Code} {l : Launch} {b L : Nat} {xs : Nat → Int32} {D : va_G} {k : Nat → ClassId} {a tr g t u : Nat → Nat} {x o : Nat} {Q : State → Prop} (hfl : l.stackTraces = false) (hCd : ∀ d : Drawn, CallFix p m c cL_law 9 (s.setDrawn d) #[Value.ref b] lw_all RL) (hE0 : eK D k s) (hX0 : xK s) (hAZ : aZ s) (hX9 : va_X b L xs s s.heap) (hbl : b < s.heap.size) (hL : L ≤ 2048) {i : Nat} (hi : i + 4 ≤ L) {cells slots : Nat} (hcs : cells + 1 ≤ room_1.cells ∧ slots + 6 ≤ room_1.slots) (K : ∀ (d0 : Drawn), s.drawn.sameBut d0 lw_cs → ∀ (ls : Array Slot) (H : Heap) (locs : List Loc) (S G T T0 U : HS) (og : Nat → Int64) (n nf : Nat), RA S G n nf → RB S T n → lv_has ls 9 [(0, .ref b), (1, .ref x), (2, .ref (g 0)), (3, .ref o), (4, .int (nI i))] → va_P D vwCl (xwW k a tr x o S T0 og (mW k g t u G T U [])) H → va_D (fun q : Nat => s.heap.size ≤ q) (xwW k a tr x o S T0 og (mW k g t u G T U [])) → va_S (fun q : Nat => s.heap.size ≤ q) s.heap H locs → W p l e room_1 (s.setDrawn d0) m #[Value.ref b] below meth c H locs (cells + 1) (slots + 6) Q (F0 m 2101 ls [])) {d0 : Drawn} (hd0 : s.drawn.sameBut d0 lw_cs) {ls : Array Slot} {H : Heap} {locs : List Loc} {S G T T0 U : HS} {og : Nat → Int64} {n nf : Nat} (hA9 : RA S G n nf) (hB9 : RB S T n) (hl : lv_has ls 9 [(0, .ref b), (1, .ref x), (2, .ref (g 0)), (3, .ref o), (4, .int (nI i))]) (hP : va_P D vwCl (xwW k a tr x o S T0 og (mW k g t u G T U [])) H) (hD : va_D (fun q : Nat => s.heap.size ≤ q) (xwW k a tr x o S T0 og (mW k g t u G T U []))) (hS : va_S (fun q : Nat => s.heap.size ≤ q) s.heap H locs) : W p l e room_1 (s.setDrawn d0) m #[Value.ref b] below meth c H locs cells slots Q (F0 m 1763 ls []) := by
  have hC := hCd d0
  have hx := hC.1
  have hb := hC.2.1
  have hE := eK_drawn hE0 d0
  have hX := xK_drawn hX0 d0
  have hXs : va_X b L xs (s.setDrawn d0) s.heap := va_X.moved (u := s) (U := s.setDrawn d0) (Vm.Alike.refl s.vm) hX9
  have hc0 : cells ≤ room_1.cells ∧ slots ≤ room_1.slots := ⟨Nat.le_of_succ_le hcs.1, Nat.le_trans (Nat.le_add_right slots 6) hcs.2⟩
  refine lv_aload_n hx hb dL_law_1763 rfl (lv_at hl 1 rfl) ?_
  refine c_pVi (rest := []) hC hE hP (metX4_bags l S) gc_RL_206 hd_X4_bags ⟨rfl, rfl⟩ ⟨Nat.le_of_ble_eq_true rfl, Nat.le_of_ble_eq_true rfl⟩ 29 lo_29 rfl rfl hl.1 (Nat.le_of_ble_eq_true rfl) hc0 dL_law_1764 ?_
  have hP := to_mP hP
  have hD := to_mD hD
  refine lv_aload_n hx hb dL_law_1767 rfl (lv_at hl 2 rfl) ?_
  refine c_mVi (rest := [.int (S 0 4)]) hC hE hP hD hS mw_same (metX6_bags l G T n hA9.gn hA9.n40 nf hA9.gf_ hA9.nf6 hA9.okF hA9.gob) gc_RL_209 hd_X6_bags ⟨rfl, rfl⟩ ⟨Nat.le_of_ble_eq_true rfl, Nat.le_of_ble_eq_true rfl⟩ 0 gw_0 rfl rfl hl.1 (Nat.le_of_ble_eq_true rfl) hc0 dL_law_1768 (fun H locs hP hD hS => ?_)
  refine w_top (show qbags_r G T n nf = S 0 4 from (hA9.sn.trans hA9.gn.symm).symm) ?_
  refine lv_icmp_eq (tgt := 2101) hx hb dL_law_1771 (by decide) (fun _ => ?_) (fun c_ => absurd rfl c_)
  refine W.widen (k := cells + 1) (n := slots + 6) (Nat.le_succ cells) (Nat.le_add_right slots 6) ?_
  exact K d0 hd0 ls H locs S (qbags_g G T n nf) T T0 U og n nf (RA_thr hA9 0) hB9 (lv_sub hl [0, 1, 2, 3, 4] rfl) (to_xP hP) (to_xD hD) hS
set_option maxHeartbeats 4000000 in
set_option maxRecDepth 100000 in
theorem case_29 {p : Program} {e : Env} {s : State} {m : MethodId} {below : List Frame} {meth : Method} {c : Code} {l : Launch} {b L : Nat} {xs : Nat → Int32} {D : va_G} {k : Nat → ClassId} {a tr g t u : Nat → Nat} {x o : Nat} {Q : State → Prop} (hfl : l.stackTraces = false) (hCd : ∀ d : Drawn, CallFix p m c cL_law 9 (s.setDrawn d) #[Value.ref b] lw_all RL) (hE0 : eK D k s) (hX0 : xK s) (hAZ : aZ s) (hX9 : va_X b L xs s s.heap) (hbl : b < s.heap.size) (hL : L ≤ 2048) {i : Nat} (hi : i + 4 ≤ L) {cells slots : Nat} (hcs : cells + 1 ≤ room_1.cells ∧ slots + 6 ≤ room_1.slots) (K : ∀ (d0 : Drawn), s.drawn.sameBut d0 lw_cs → ∀ (ls : Array Slot) (H : Heap) (locs : List Loc) (S G T T0 U : HS) (og : Nat → Int64) (n nf : Nat), RA S G n nf → RB S T n → lv_has ls 9 [(0, .ref b), (1, .ref x), (2, .ref (g 0)), (3, .ref o), (4, .int (nI i))] → va_P D vwCl (xwW k a tr x o S T0 og (mW k g t u G T U [])) H → va_D (fun q : Nat => s.heap.size ≤ q) (xwW k a tr x o S T0 og (mW k g t u G T U [])) → va_S (fun q : Nat => s.heap.size ≤ q) s.heap H locs → W p l e room_1 (s.setDrawn d0) m #[Value.ref b] below meth c H locs (cells + 1) (slots + 6) Q (F0 m 2101 ls [])) {d0 : Drawn} (hd0 : s.drawn.sameBut d0 lw_cs) {ls : Array Slot} {H : Heap} {locs : List Loc} {S G T T0 U : HS} {og : Nat → Int64} {n nf : Nat} (hA9 : RA S G n nf) (hB9 : RB S T n) (hl : lv_has ls 9 [(0, .ref b), (1, .ref x), (2, .ref (g 0)), (3, .ref o), (4, .int (nI i))]) (hP : va_P D vwCl (xwW k a tr x o S T0 og (mW k g t u G T U [])) H) (hD : va_D (fun q : Nat => s.heap.size ≤ q) (xwW k a tr x o S T0 og (mW k g t u G T U []))) (hS : va_S (fun q : Nat => s.heap.size ≤ q) s.heap H locs) : W p l e room_1 (s.setDrawn d0) m #[Value.ref b] below meth c H locs cells slots Q (F0 m 1776 ls []) := by
  have hC := hCd d0
  have hx := hC.1
  have hb := hC.2.1
  have hE := eK_drawn hE0 d0
  have hX := xK_drawn hX0 d0
  have hXs : va_X b L xs (s.setDrawn d0) s.heap := va_X.moved (u := s) (U := s.setDrawn d0) (Vm.Alike.refl s.vm) hX9
  have hc0 : cells ≤ room_1.cells ∧ slots ≤ room_1.slots := ⟨Nat.le_of_succ_le hcs.1, Nat.le_trans (Nat.le_add_right slots 6) hcs.2⟩
  refine lv_aload_n hx hb dL_law_1776 rfl (lv_at hl 1 rfl) ?_
  refine c_pVi (rest := []) hC hE hP (metX4_inLine l S) gc_RL_210 hd_X4_inLine ⟨rfl, rfl⟩ ⟨Nat.le_of_ble_eq_true rfl, Nat.le_of_ble_eq_true rfl⟩ 29 lo_29 rfl rfl hl.1 (Nat.le_of_ble_eq_true rfl) hc0 dL_law_1777 ?_
  have hP := to_mP hP
  have hD := to_mD hD
  refine lv_aload_n hx hb dL_law_1780 rfl (lv_at hl 2 rfl) ?_
  refine c_mVi (rest := [.int (nI (ct (fun j_ => S 6 j_ = 0) 40))]) hC hE hP hD hS mw_same (metX6_inLine l G T n hA9.gn hA9.n40 nf hA9.gf_ hA9.nf6 hA9.okF hA9.gob) gc_RL_213 hd_X6_inLine ⟨rfl, rfl⟩ ⟨Nat.le_of_ble_eq_true rfl, Nat.le_of_ble_eq_true rfl⟩ 0 gw_0 rfl rfl hl.1 (Nat.le_of_ble_eq_true rfl) hc0 dL_law_1781 (fun H locs hP hD hS => ?_)
  refine w_top (show qinLine_r G T n nf = nI (ct (fun j_ => S 6 j_ = 0) 40) from ((congrArg nI (where_ct hB9 (by decide))).trans hB9.len.symm).symm) ?_
  refine lv_icmp_eq (tgt := 2101) hx hb dL_law_1784 (by decide) (fun _ => ?_) (fun c_ => absurd rfl c_)
  refine W.widen (k := cells + 1) (n := slots + 6) (Nat.le_succ cells) (Nat.le_add_right slots 6) ?_
  exact K d0 hd0 ls H locs S (qinLine_g G T n nf) T T0 U og n nf (RA_thr hA9 0) hB9 (lv_sub hl [0, 1, 2, 3, 4] rfl) (to_xP hP) (to_xD hD) hS
set_option maxHeartbeats 4000000 in
set_option maxRecDepth 100000 in
theorem case_30 {p : Program} {e : Env} {s : State} {m : MethodId} {below : List Frame} {meth : Method} {c : Code} {l : Launch} {b L : Nat} {xs : Nat → Int32} {D : va_G} {k : Nat → ClassId} {a tr g t u : Nat → Nat} {x o : Nat} {Q : State → Prop} (hfl : l.stackTraces = false) (hCd : ∀ d : Drawn, CallFix p m c cL_law 9 (s.setDrawn d) #[Value.ref b] lw_all RL) (hE0 : eK D k s) (hX0 : xK s) (hAZ : aZ s) (hX9 : va_X b L xs s s.heap) (hbl : b < s.heap.size) (hL : L ≤ 2048) {i : Nat} (hi : i + 4 ≤ L) {cells slots : Nat} (hcs : cells + 1 ≤ room_1.cells ∧ slots + 6 ≤ room_1.slots) (K : ∀ (d0 : Drawn), s.drawn.sameBut d0 lw_cs → ∀ (ls : Array Slot) (H : Heap) (locs : List Loc) (S G T T0 U : HS) (og : Nat → Int64) (n nf : Nat), RA S G n nf → RB S T n → lv_has ls 9 [(0, .ref b), (1, .ref x), (2, .ref (g 0)), (3, .ref o), (4, .int (nI i))] → va_P D vwCl (xwW k a tr x o S T0 og (mW k g t u G T U [])) H → va_D (fun q : Nat => s.heap.size ≤ q) (xwW k a tr x o S T0 og (mW k g t u G T U [])) → va_S (fun q : Nat => s.heap.size ≤ q) s.heap H locs → W p l e room_1 (s.setDrawn d0) m #[Value.ref b] below meth c H locs (cells + 1) (slots + 6) Q (F0 m 2101 ls [])) {d0 : Drawn} (hd0 : s.drawn.sameBut d0 lw_cs) {ls : Array Slot} {H : Heap} {locs : List Loc} {S G T T0 U : HS} {og : Nat → Int64} {n nf : Nat} (hA9 : RA S G n nf) (hB9 : RB S T n) (hl : lv_has ls 9 [(0, .ref b), (1, .ref x), (2, .ref (g 0)), (3, .ref o), (4, .int (nI i))]) (hP : va_P D vwCl (xwW k a tr x o S T0 og (mW k g t u G T U [])) H) (hD : va_D (fun q : Nat => s.heap.size ≤ q) (xwW k a tr x o S T0 og (mW k g t u G T U []))) (hS : va_S (fun q : Nat => s.heap.size ≤ q) s.heap H locs) : W p l e room_1 (s.setDrawn d0) m #[Value.ref b] below meth c H locs cells slots Q (F0 m 1789 ls []) := by
  have hC := hCd d0
  have hx := hC.1
  have hb := hC.2.1
  have hE := eK_drawn hE0 d0
  have hX := xK_drawn hX0 d0
  have hXs : va_X b L xs (s.setDrawn d0) s.heap := va_X.moved (u := s) (U := s.setDrawn d0) (Vm.Alike.refl s.vm) hX9
  have hc0 : cells ≤ room_1.cells ∧ slots ≤ room_1.slots := ⟨Nat.le_of_succ_le hcs.1, Nat.le_trans (Nat.le_add_right slots 6) hcs.2⟩
  refine lv_aload_n hx hb dL_law_1789 rfl (lv_at hl 1 rfl) ?_
  refine c_pVi (rest := []) hC hE hP (metX4_onBelt l S) gc_RL_214 hd_X4_onBelt ⟨rfl, rfl⟩ ⟨Nat.le_of_ble_eq_true rfl, Nat.le_of_ble_eq_true rfl⟩ 29 lo_29 rfl rfl hl.1 (Nat.le_of_ble_eq_true rfl) hc0 dL_law_1790 ?_
  have hP := to_mP hP
  have hD := to_mD hD
  refine lv_aload_n hx hb dL_law_1793 rfl (lv_at hl 2 rfl) ?_
  refine c_mVi (rest := [.int (nI (ct (fun j_ => S 6 j_ = 1) 40))]) hC hE hP hD hS mw_same (metX6_onBelt l G T n hA9.gn hA9.n40 nf hA9.gf_ hA9.nf6 hA9.okF hA9.gob) gc_RL_217 hd_X6_onBelt ⟨rfl, rfl⟩ ⟨Nat.le_of_ble_eq_true rfl, Nat.le_of_ble_eq_true rfl⟩ 0 gw_0 rfl rfl hl.1 (Nat.le_of_ble_eq_true rfl) hc0 dL_law_1794 (fun H locs hP hD hS => ?_)
  refine w_top (show qonBelt_r G T n nf = nI (ct (fun j_ => S 6 j_ = 1) 40) from (congrArg nI (where_ct hB9 (by decide))).symm) ?_
  refine lv_icmp_eq (tgt := 2101) hx hb dL_law_1797 (by decide) (fun _ => ?_) (fun c_ => absurd rfl c_)
  refine W.widen (k := cells + 1) (n := slots + 6) (Nat.le_succ cells) (Nat.le_add_right slots 6) ?_
  exact K d0 hd0 ls H locs S (qonBelt_g G T n nf) T T0 U og n nf (RA_thr hA9 0) hB9 (lv_sub hl [0, 1, 2, 3, 4] rfl) (to_xP hP) (to_xD hD) hS
set_option maxHeartbeats 4000000 in
set_option maxRecDepth 100000 in
theorem case_31 {p : Program} {e : Env} {s : State} {m : MethodId} {below : List Frame} {meth : Method} {c : Code} {l : Launch} {b L : Nat} {xs : Nat → Int32} {D : va_G} {k : Nat → ClassId} {a tr g t u : Nat → Nat} {x o : Nat} {Q : State → Prop} (hfl : l.stackTraces = false) (hCd : ∀ d : Drawn, CallFix p m c cL_law 9 (s.setDrawn d) #[Value.ref b] lw_all RL) (hE0 : eK D k s) (hX0 : xK s) (hAZ : aZ s) (hX9 : va_X b L xs s s.heap) (hbl : b < s.heap.size) (hL : L ≤ 2048) {i : Nat} (hi : i + 4 ≤ L) {cells slots : Nat} (hcs : cells + 1 ≤ room_1.cells ∧ slots + 6 ≤ room_1.slots) (K : ∀ (d0 : Drawn), s.drawn.sameBut d0 lw_cs → ∀ (ls : Array Slot) (H : Heap) (locs : List Loc) (S G T T0 U : HS) (og : Nat → Int64) (n nf : Nat), RA S G n nf → RB S T n → lv_has ls 9 [(0, .ref b), (1, .ref x), (2, .ref (g 0)), (3, .ref o), (4, .int (nI i))] → va_P D vwCl (xwW k a tr x o S T0 og (mW k g t u G T U [])) H → va_D (fun q : Nat => s.heap.size ≤ q) (xwW k a tr x o S T0 og (mW k g t u G T U [])) → va_S (fun q : Nat => s.heap.size ≤ q) s.heap H locs → W p l e room_1 (s.setDrawn d0) m #[Value.ref b] below meth c H locs (cells + 1) (slots + 6) Q (F0 m 2101 ls [])) {d0 : Drawn} (hd0 : s.drawn.sameBut d0 lw_cs) {ls : Array Slot} {H : Heap} {locs : List Loc} {S G T T0 U : HS} {og : Nat → Int64} {n nf : Nat} (hA9 : RA S G n nf) (hB9 : RB S T n) (hl : lv_has ls 9 [(0, .ref b), (1, .ref x), (2, .ref (g 0)), (3, .ref o), (4, .int (nI i))]) (hP : va_P D vwCl (xwW k a tr x o S T0 og (mW k g t u G T U [])) H) (hD : va_D (fun q : Nat => s.heap.size ≤ q) (xwW k a tr x o S T0 og (mW k g t u G T U []))) (hS : va_S (fun q : Nat => s.heap.size ≤ q) s.heap H locs) : W p l e room_1 (s.setDrawn d0) m #[Value.ref b] below meth c H locs cells slots Q (F0 m 1802 ls []) := by
  have hC := hCd d0
  have hx := hC.1
  have hb := hC.2.1
  have hE := eK_drawn hE0 d0
  have hX := xK_drawn hX0 d0
  have hXs : va_X b L xs (s.setDrawn d0) s.heap := va_X.moved (u := s) (U := s.setDrawn d0) (Vm.Alike.refl s.vm) hX9
  have hc0 : cells ≤ room_1.cells ∧ slots ≤ room_1.slots := ⟨Nat.le_of_succ_le hcs.1, Nat.le_trans (Nat.le_add_right slots 6) hcs.2⟩
  refine lv_aload_n hx hb dL_law_1802 rfl (lv_at hl 1 rfl) ?_
  refine c_pVi (rest := []) hC hE hP (metX4_atDesk l S) gc_RL_218 hd_X4_atDesk ⟨rfl, rfl⟩ ⟨Nat.le_of_ble_eq_true rfl, Nat.le_of_ble_eq_true rfl⟩ 29 lo_29 rfl rfl hl.1 (Nat.le_of_ble_eq_true rfl) hc0 dL_law_1803 ?_
  have hP := to_mP hP
  have hD := to_mD hD
  refine lv_aload_n hx hb dL_law_1806 rfl (lv_at hl 2 rfl) ?_
  refine c_mVi (rest := [.int (nI (ct (fun j_ => S 6 j_ = 3) 40))]) hC hE hP hD hS mw_same (metX6_atDesk l G T n hA9.gn hA9.n40 nf hA9.gf_ hA9.nf6 hA9.okF hA9.gob) gc_RL_221 hd_X6_atDesk ⟨rfl, rfl⟩ ⟨Nat.le_of_ble_eq_true rfl, Nat.le_of_ble_eq_true rfl⟩ 0 gw_0 rfl rfl hl.1 (Nat.le_of_ble_eq_true rfl) hc0 dL_law_1807 (fun H locs hP hD hS => ?_)
  refine w_top (show qatDesk_r G T n nf = nI (ct (fun j_ => S 6 j_ = 3) 40) from (congrArg nI (where_ct hB9 (by decide))).symm) ?_
  refine lv_icmp_eq (tgt := 2101) hx hb dL_law_1810 (by decide) (fun _ => ?_) (fun c_ => absurd rfl c_)
  refine W.widen (k := cells + 1) (n := slots + 6) (Nat.le_succ cells) (Nat.le_add_right slots 6) ?_
  exact K d0 hd0 ls H locs S (qatDesk_g G T n nf) T T0 U og n nf (RA_thr hA9 0) hB9 (lv_sub hl [0, 1, 2, 3, 4] rfl) (to_xP hP) (to_xD hD) hS
set_option maxHeartbeats 4000000 in
set_option maxRecDepth 100000 in
theorem case_32 {p : Program} {e : Env} {s : State} {m : MethodId} {below : List Frame} {meth : Method} {c : Code} {l : Launch} {b L : Nat} {xs : Nat → Int32} {D : va_G} {k : Nat → ClassId} {a tr g t u : Nat → Nat} {x o : Nat} {Q : State → Prop} (hfl : l.stackTraces = false) (hCd : ∀ d : Drawn, CallFix p m c cL_law 9 (s.setDrawn d) #[Value.ref b] lw_all RL) (hE0 : eK D k s) (hX0 : xK s) (hAZ : aZ s) (hX9 : va_X b L xs s s.heap) (hbl : b < s.heap.size) (hL : L ≤ 2048) {i : Nat} (hi : i + 4 ≤ L) {cells slots : Nat} (hcs : cells + 1 ≤ room_1.cells ∧ slots + 6 ≤ room_1.slots) (K : ∀ (d0 : Drawn), s.drawn.sameBut d0 lw_cs → ∀ (ls : Array Slot) (H : Heap) (locs : List Loc) (S G T T0 U : HS) (og : Nat → Int64) (n nf : Nat), RA S G n nf → RB S T n → lv_has ls 9 [(0, .ref b), (1, .ref x), (2, .ref (g 0)), (3, .ref o), (4, .int (nI i))] → va_P D vwCl (xwW k a tr x o S T0 og (mW k g t u G T U [])) H → va_D (fun q : Nat => s.heap.size ≤ q) (xwW k a tr x o S T0 og (mW k g t u G T U [])) → va_S (fun q : Nat => s.heap.size ≤ q) s.heap H locs → W p l e room_1 (s.setDrawn d0) m #[Value.ref b] below meth c H locs (cells + 1) (slots + 6) Q (F0 m 2101 ls [])) {d0 : Drawn} (hd0 : s.drawn.sameBut d0 lw_cs) {ls : Array Slot} {H : Heap} {locs : List Loc} {S G T T0 U : HS} {og : Nat → Int64} {n nf : Nat} (hA9 : RA S G n nf) (hB9 : RB S T n) (hl : lv_has ls 9 [(0, .ref b), (1, .ref x), (2, .ref (g 0)), (3, .ref o), (4, .int (nI i))]) (hP : va_P D vwCl (xwW k a tr x o S T0 og (mW k g t u G T U [])) H) (hD : va_D (fun q : Nat => s.heap.size ≤ q) (xwW k a tr x o S T0 og (mW k g t u G T U []))) (hS : va_S (fun q : Nat => s.heap.size ≤ q) s.heap H locs) : W p l e room_1 (s.setDrawn d0) m #[Value.ref b] below meth c H locs cells slots Q (F0 m 1815 ls []) := by
  have hC := hCd d0
  have hx := hC.1
  have hb := hC.2.1
  have hE := eK_drawn hE0 d0
  have hX := xK_drawn hX0 d0
  have hXs : va_X b L xs (s.setDrawn d0) s.heap := va_X.moved (u := s) (U := s.setDrawn d0) (Vm.Alike.refl s.vm) hX9
  have hc0 : cells ≤ room_1.cells ∧ slots ≤ room_1.slots := ⟨Nat.le_of_succ_le hcs.1, Nat.le_trans (Nat.le_add_right slots 6) hcs.2⟩
  refine lv_aload_n hx hb dL_law_1815 rfl (lv_at hl 1 rfl) ?_
  refine c_pVi (rest := []) hC hE hP (metX4_openFiles l S) gc_RL_222 hd_X4_openFiles ⟨rfl, rfl⟩ ⟨Nat.le_of_ble_eq_true rfl, Nat.le_of_ble_eq_true rfl⟩ 29 lo_29 rfl rfl hl.1 (Nat.le_of_ble_eq_true rfl) hc0 dL_law_1816 ?_
  have hP := to_mP hP
  have hD := to_mD hD
  refine lv_aload_n hx hb dL_law_1819 rfl (lv_at hl 2 rfl) ?_
  refine c_mVi (rest := [.int (nI (ct (fun j_ => S 10 j_ = 1) 40))]) hC hE hP hD hS mw_same (metX6_openFiles l G T n hA9.gn hA9.n40 nf hA9.gf_ hA9.nf6 hA9.okF hA9.gob) gc_RL_225 hd_X6_openFiles ⟨rfl, rfl⟩ ⟨Nat.le_of_ble_eq_true rfl, Nat.le_of_ble_eq_true rfl⟩ 0 gw_0 rfl rfl hl.1 (Nat.le_of_ble_eq_true rfl) hc0 dL_law_1820 (fun H locs hP hD hS => ?_)
  refine w_top (show qopenFiles_r G T n nf = nI (ct (fun j_ => S 10 j_ = 1) 40) from (congrArg nI (file_ct (RA_thr hA9 0) (by decide))).symm) ?_
  refine lv_icmp_eq (tgt := 2101) hx hb dL_law_1823 (by decide) (fun _ => ?_) (fun c_ => absurd rfl c_)
  refine W.widen (k := cells + 1) (n := slots + 6) (Nat.le_succ cells) (Nat.le_add_right slots 6) ?_
  exact K d0 hd0 ls H locs S (qopenFiles_g G T n nf) T T0 U og n nf (RA_thr hA9 0) hB9 (lv_sub hl [0, 1, 2, 3, 4] rfl) (to_xP hP) (to_xD hD) hS
set_option maxHeartbeats 4000000 in
set_option maxRecDepth 100000 in
theorem case_33 {p : Program} {e : Env} {s : State} {m : MethodId} {below : List Frame} {meth : Method} {c : Code} {l : Launch} {b L : Nat} {xs : Nat → Int32} {D : va_G} {k : Nat → ClassId} {a tr g t u : Nat → Nat} {x o : Nat} {Q : State → Prop} (hfl : l.stackTraces = false) (hCd : ∀ d : Drawn, CallFix p m c cL_law 9 (s.setDrawn d) #[Value.ref b] lw_all RL) (hE0 : eK D k s) (hX0 : xK s) (hAZ : aZ s) (hX9 : va_X b L xs s s.heap) (hbl : b < s.heap.size) (hL : L ≤ 2048) {i : Nat} (hi : i + 4 ≤ L) {cells slots : Nat} (hcs : cells + 1 ≤ room_1.cells ∧ slots + 6 ≤ room_1.slots) (K : ∀ (d0 : Drawn), s.drawn.sameBut d0 lw_cs → ∀ (ls : Array Slot) (H : Heap) (locs : List Loc) (S G T T0 U : HS) (og : Nat → Int64) (n nf : Nat), RA S G n nf → RB S T n → lv_has ls 9 [(0, .ref b), (1, .ref x), (2, .ref (g 0)), (3, .ref o), (4, .int (nI i))] → va_P D vwCl (xwW k a tr x o S T0 og (mW k g t u G T U [])) H → va_D (fun q : Nat => s.heap.size ≤ q) (xwW k a tr x o S T0 og (mW k g t u G T U [])) → va_S (fun q : Nat => s.heap.size ≤ q) s.heap H locs → W p l e room_1 (s.setDrawn d0) m #[Value.ref b] below meth c H locs (cells + 1) (slots + 6) Q (F0 m 2101 ls [])) {d0 : Drawn} (hd0 : s.drawn.sameBut d0 lw_cs) {ls : Array Slot} {H : Heap} {locs : List Loc} {S G T T0 U : HS} {og : Nat → Int64} {n nf : Nat} (hA9 : RA S G n nf) (hB9 : RB S T n) (hl : lv_has ls 9 [(0, .ref b), (1, .ref x), (2, .ref (g 0)), (3, .ref o), (4, .int (nI i))]) (hP : va_P D vwCl (xwW k a tr x o S T0 og (mW k g t u G T U [])) H) (hD : va_D (fun q : Nat => s.heap.size ≤ q) (xwW k a tr x o S T0 og (mW k g t u G T U []))) (hS : va_S (fun q : Nat => s.heap.size ≤ q) s.heap H locs) : W p l e room_1 (s.setDrawn d0) m #[Value.ref b] below meth c H locs cells slots Q (F0 m 1828 ls []) := by
  have hC := hCd d0
  have hx := hC.1
  have hb := hC.2.1
  have hE := eK_drawn hE0 d0
  have hX := xK_drawn hX0 d0
  have hXs : va_X b L xs (s.setDrawn d0) s.heap := va_X.moved (u := s) (U := s.setDrawn d0) (Vm.Alike.refl s.vm) hX9
  have hc0 : cells ≤ room_1.cells ∧ slots ≤ room_1.slots := ⟨Nat.le_of_succ_le hcs.1, Nat.le_trans (Nat.le_add_right slots 6) hcs.2⟩
  refine lv_aload_n hx hb dL_law_1828 rfl (lv_at hl 1 rfl) ?_
  refine c_pVi (rest := []) hC hE hP (metX4_closedFiles l S) gc_RL_226 hd_X4_closedFiles ⟨rfl, rfl⟩ ⟨Nat.le_of_ble_eq_true rfl, Nat.le_of_ble_eq_true rfl⟩ 29 lo_29 rfl rfl hl.1 (Nat.le_of_ble_eq_true rfl) hc0 dL_law_1829 ?_
  have hP := to_mP hP
  have hD := to_mD hD
  refine lv_aload_n hx hb dL_law_1832 rfl (lv_at hl 2 rfl) ?_
  refine c_mVi (rest := [.int (nI (ct (fun j_ => S 10 j_ = 2) 40))]) hC hE hP hD hS mw_same (metX6_closedFiles l G T n hA9.gn hA9.n40 nf hA9.gf_ hA9.nf6 hA9.okF hA9.gob) gc_RL_229 hd_X6_closedFiles ⟨rfl, rfl⟩ ⟨Nat.le_of_ble_eq_true rfl, Nat.le_of_ble_eq_true rfl⟩ 0 gw_0 rfl rfl hl.1 (Nat.le_of_ble_eq_true rfl) hc0 dL_law_1833 (fun H locs hP hD hS => ?_)
  refine w_top (show qclosedFiles_r G T n nf = nI (ct (fun j_ => S 10 j_ = 2) 40) from (congrArg nI (file_ct (RA_thr hA9 0) (by decide))).symm) ?_
  refine lv_icmp_eq (tgt := 2101) hx hb dL_law_1836 (by decide) (fun _ => ?_) (fun c_ => absurd rfl c_)
  refine W.widen (k := cells + 1) (n := slots + 6) (Nat.le_succ cells) (Nat.le_add_right slots 6) ?_
  exact K d0 hd0 ls H locs S (qclosedFiles_g G T n nf) T T0 U og n nf (RA_thr hA9 0) hB9 (lv_sub hl [0, 1, 2, 3, 4] rfl) (to_xP hP) (to_xD hD) hS
set_option maxHeartbeats 4000000 in
set_option maxRecDepth 100000 in
theorem case_34 {p : Program} {e : Env} {s : State} {m : MethodId} {below : List Frame} {meth : Method} {c : Code} {l : Launch} {b L : Nat} {xs : Nat → Int32} {D : va_G} {k : Nat → ClassId} {a tr g t u : Nat → Nat} {x o : Nat} {Q : State → Prop} (hfl : l.stackTraces = false) (hCd : ∀ d : Drawn, CallFix p m c cL_law 9 (s.setDrawn d) #[Value.ref b] lw_all RL) (hE0 : eK D k s) (hX0 : xK s) (hAZ : aZ s) (hX9 : va_X b L xs s s.heap) (hbl : b < s.heap.size) (hL : L ≤ 2048) {i : Nat} (hi : i + 4 ≤ L) {cells slots : Nat} (hcs : cells + 1 ≤ room_1.cells ∧ slots + 6 ≤ room_1.slots) (K : ∀ (d0 : Drawn), s.drawn.sameBut d0 lw_cs → ∀ (ls : Array Slot) (H : Heap) (locs : List Loc) (S G T T0 U : HS) (og : Nat → Int64) (n nf : Nat), RA S G n nf → RB S T n → lv_has ls 9 [(0, .ref b), (1, .ref x), (2, .ref (g 0)), (3, .ref o), (4, .int (nI i))] → va_P D vwCl (xwW k a tr x o S T0 og (mW k g t u G T U [])) H → va_D (fun q : Nat => s.heap.size ≤ q) (xwW k a tr x o S T0 og (mW k g t u G T U [])) → va_S (fun q : Nat => s.heap.size ≤ q) s.heap H locs → W p l e room_1 (s.setDrawn d0) m #[Value.ref b] below meth c H locs (cells + 1) (slots + 6) Q (F0 m 2101 ls [])) {d0 : Drawn} (hd0 : s.drawn.sameBut d0 lw_cs) {ls : Array Slot} {H : Heap} {locs : List Loc} {S G T T0 U : HS} {og : Nat → Int64} {n nf : Nat} (hA9 : RA S G n nf) (hB9 : RB S T n) (hl : lv_has ls 9 [(0, .ref b), (1, .ref x), (2, .ref (g 0)), (3, .ref o), (4, .int (nI i))]) (hP : va_P D vwCl (xwW k a tr x o S T0 og (mW k g t u G T U [])) H) (hD : va_D (fun q : Nat => s.heap.size ≤ q) (xwW k a tr x o S T0 og (mW k g t u G T U []))) (hS : va_S (fun q : Nat => s.heap.size ≤ q) s.heap H locs) : W p l e room_1 (s.setDrawn d0) m #[Value.ref b] below meth c H locs cells slots Q (F0 m 1841 ls []) := by
  have hC := hCd d0
  have hx := hC.1
  have hb := hC.2.1
  have hE := eK_drawn hE0 d0
  have hX := xK_drawn hX0 d0
  have hXs : va_X b L xs (s.setDrawn d0) s.heap := va_X.moved (u := s) (U := s.setDrawn d0) (Vm.Alike.refl s.vm) hX9
  have hc0 : cells ≤ room_1.cells ∧ slots ≤ room_1.slots := ⟨Nat.le_of_succ_le hcs.1, Nat.le_trans (Nat.le_add_right slots 6) hcs.2⟩
  refine lv_aload_n hx hb dL_law_1841 rfl (lv_at hl 1 rfl) ?_
  refine c_pVi (rest := []) hC hE hP (metX4_reader l S) gc_RL_230 hd_X4_reader ⟨rfl, rfl⟩ ⟨Nat.le_of_ble_eq_true rfl, Nat.le_of_ble_eq_true rfl⟩ 29 lo_29 rfl rfl hl.1 (Nat.le_of_ble_eq_true rfl) hc0 dL_law_1842 ?_
  have hP := to_mP hP
  have hD := to_mD hD
  refine lv_aload_n hx hb dL_law_1845 rfl (lv_at hl 2 rfl) ?_
  refine c_mVi (rest := [.int (S 0 1)]) hC hE hP hD hS mw_same (metX6_reader l G T n hA9.gn hA9.n40 nf hA9.gf_ hA9.nf6 hA9.okF hA9.gob) gc_RL_233 hd_X6_reader ⟨rfl, rfl⟩ ⟨Nat.le_of_ble_eq_true rfl, Nat.le_of_ble_eq_true rfl⟩ 0 gw_0 rfl rfl hl.1 (Nat.le_of_ble_eq_true rfl) hc0 dL_law_1846 (fun H locs hP hD hS => ?_)
  refine w_top (show qreader_r G T n nf = S 0 1 from (hA9.str).symm) ?_
  refine lv_icmp_eq (tgt := 2101) hx hb dL_law_1849 (by decide) (fun _ => ?_) (fun c_ => absurd rfl c_)
  refine W.widen (k := cells + 1) (n := slots + 6) (Nat.le_succ cells) (Nat.le_add_right slots 6) ?_
  exact K d0 hd0 ls H locs S (qreader_g G T n nf) T T0 U og n nf (RA_thr hA9 0) hB9 (lv_sub hl [0, 1, 2, 3, 4] rfl) (to_xP hP) (to_xD hD) hS
set_option maxHeartbeats 4000000 in
set_option maxRecDepth 100000 in
theorem case_35 {p : Program} {e : Env} {s : State} {m : MethodId} {below : List Frame} {meth : Method} {c : Code} {l : Launch} {b L : Nat} {xs : Nat → Int32} {D : va_G} {k : Nat → ClassId} {a tr g t u : Nat → Nat} {x o : Nat} {Q : State → Prop} (hfl : l.stackTraces = false) (hCd : ∀ d : Drawn, CallFix p m c cL_law 9 (s.setDrawn d) #[Value.ref b] lw_all RL) (hE0 : eK D k s) (hX0 : xK s) (hAZ : aZ s) (hX9 : va_X b L xs s s.heap) (hbl : b < s.heap.size) (hL : L ≤ 2048) {i : Nat} (hi : i + 4 ≤ L) {cells slots : Nat} (hcs : cells + 1 ≤ room_1.cells ∧ slots + 6 ≤ room_1.slots) (K : ∀ (d0 : Drawn), s.drawn.sameBut d0 lw_cs → ∀ (ls : Array Slot) (H : Heap) (locs : List Loc) (S G T T0 U : HS) (og : Nat → Int64) (n nf : Nat), RA S G n nf → RB S T n → lv_has ls 9 [(0, .ref b), (1, .ref x), (2, .ref (g 0)), (3, .ref o), (4, .int (nI i))] → va_P D vwCl (xwW k a tr x o S T0 og (mW k g t u G T U [])) H → va_D (fun q : Nat => s.heap.size ≤ q) (xwW k a tr x o S T0 og (mW k g t u G T U [])) → va_S (fun q : Nat => s.heap.size ≤ q) s.heap H locs → W p l e room_1 (s.setDrawn d0) m #[Value.ref b] below meth c H locs (cells + 1) (slots + 6) Q (F0 m 2101 ls [])) {d0 : Drawn} (hd0 : s.drawn.sameBut d0 lw_cs) {ls : Array Slot} {H : Heap} {locs : List Loc} {S G T T0 U : HS} {og : Nat → Int64} {n nf : Nat} (hA9 : RA S G n nf) (hB9 : RB S T n) (hl : lv_has ls 9 [(0, .ref b), (1, .ref x), (2, .ref (g 0)), (3, .ref o), (4, .int (nI i))]) (hP : va_P D vwCl (xwW k a tr x o S T0 og (mW k g t u G T U [])) H) (hD : va_D (fun q : Nat => s.heap.size ≤ q) (xwW k a tr x o S T0 og (mW k g t u G T U []))) (hS : va_S (fun q : Nat => s.heap.size ≤ q) s.heap H locs) : W p l e room_1 (s.setDrawn d0) m #[Value.ref b] below meth c H locs cells slots Q (F0 m 1854 ls []) := by
  have hC := hCd d0
  have hx := hC.1
  have hb := hC.2.1
  have hE := eK_drawn hE0 d0
  have hX := xK_drawn hX0 d0
  have hXs : va_X b L xs (s.setDrawn d0) s.heap := va_X.moved (u := s) (U := s.setDrawn d0) (Vm.Alike.refl s.vm) hX9
  refine lv_aload_n hx hb dL_law_1854 rfl (lv_at hl 1 rfl) ?_
  refine lv_aload_n hx hb dL_law_1855 rfl (lv_at hl 0 rfl) ?_
  refine lv_iload hx hb dL_law_1856 (lv_at hl 4 rfl) ?_
  refine lv_iconst (v := 1) hx hb dL_law_1858 (by decide) ?_
  refine lv_iadd hx hb dL_law_1859 ?_
  refine w_top (show nI i + 1 = nI (i + 1) from nI_add i 1) ?_
  refine va_sld (A := (fun q : Nat => s.heap.size ≤ q)) hx hb hXs hbl (Nat.not_le.mpr hbl) hS (i := nI (i + 1)) (vp_in_nI (by omega) (by omega)) dL_law_1860 ?_
  refine w_top (congrArg xs (nI_clamp (n := i + 1) (by omega))) ?_
  refine lv_aload_n hx hb dL_law_1861 rfl (lv_at hl 3 rfl) ?_
  obtain ⟨kc, bb, S1, G1, T1, T2, U1, og1, n1, nf1, hLM, hMM, e1, e2, ha1, hb1⟩ := op_minutesUntilChute l hfl (D := D) (k := k) (a := a) (tr := tr) (g := g) (t := t) (u := u) (x := x) (o := o) hA9 hB9 T0 U og (xs (i + 1))
  refine c_lS (rest := []) hC hE hX (xZ_drawn hAZ hS _) hP hD hS lo_same (hLM (mW k g t u G T U [])) gw_RL_234 hd_L_minutesUntilChute ⟨Nat.le_of_ble_eq_true rfl, Nat.le_of_ble_eq_true rfl⟩ rfl hl.1 (Nat.le_of_ble_eq_true rfl) hcs dL_law_1862 (fun H locs hP hD hS => ?_)
  have hP := to_mP hP
  have hD := to_mD hD
  refine lv_istore (lv' := [(5, .int kc), (0, .ref b), (1, .ref x), (2, .ref (g 0)), (3, .ref o), (4, .int (nI i))]) hx hb dL_law_1865 hl (by decide) rfl (fun ls hl => ?_)
  refine lv_aload_n hx hb dL_law_1867 rfl (lv_at hl 3 rfl) ?_
  refine lv_aload_n hx hb dL_law_1868 rfl (lv_at hl 1 rfl) ?_
  refine lv_iload hx hb dL_law_1869 (lv_at hl 5 rfl) ?_
  refine lv_iconst (v := 1) hx hb dL_law_1871 (by decide) ?_
  refine lv_iadd hx hb dL_law_1872 ?_
  refine w_top (show nI i + 1 = nI (i + 1) from nI_add i 1) ?_
  refine va_sld (A := (fun q : Nat => s.heap.size ≤ q)) hx hb hXs hbl (Nat.not_le.mpr hbl) hS (i := nI (i + 1)) (vp_in_nI (by omega) (by omega)) dL_law_1873 ?_
  refine w_top (congrArg xs (nI_clamp (n := i + 1) (by omega))) ?_
  refine c_mVi (rest := []) hC hE hP hD hS mw_same (hMM (xwW k a tr x o S1 T2 og1 [])) gc_RL_236 hd_X6_minutesUntilChute ⟨rfl, rfl⟩ ⟨Nat.le_of_ble_eq_true rfl, Nat.le_of_ble_eq_true rfl⟩ 0 gw_0 rfl rfl hl.1 (Nat.le_of_ble_eq_true rfl) hcs dL_law_1874 (fun H locs hP hD hS => ?_)
  refine lv_istore (lv' := [(6, .int bb), (5, .int kc), (0, .ref b), (1, .ref x), (2, .ref (g 0)), (3, .ref o), (4, .int (nI i))]) hx hb dL_law_1877 hl (by decide) rfl (fun ls hl => ?_)
  refine lv_aload_n hx hb dL_law_1879 rfl (lv_at hl 4 rfl) ?_
  refine c_pVi (rest := []) hC hE hP (metX6_thrown l G1 T1) gc_RL_117 hd_X6_thrown ⟨rfl, rfl⟩ ⟨Nat.le_of_ble_eq_true rfl, Nat.le_of_ble_eq_true rfl⟩ 0 gw_0 rfl rfl hl.1 (Nat.le_of_ble_eq_true rfl) hcs dL_law_1880 ?_
  refine w_top e1 ?_
  refine lv_iload hx hb dL_law_1883 (lv_at hl 1 rfl) ?_
  refine lv_icmp_eq (tgt := 1890) hx hb dL_law_1885 (by decide) (fun _ => ?_) (fun c_ => absurd rfl c_)
  refine lv_iload hx hb dL_law_1890 (lv_at hl 1 rfl) ?_
  refine lv_if_ne (tgt := 1907) hx hb dL_law_1892 (by decide) (fun c_k => ?_) (fun c_k => ?_)
  · have hl : lv_has ls 9 [(6, .int bb), (5, .int kc), (0, .ref b), (1, .ref x), (2, .ref (g 0)), (3, .ref o), (4, .int (nI i))] := hl
    refine lv_goto (tgt := 2101) hx hb dL_law_1907 (by decide) ?_
    exact K d0 hd0 ls H locs S1 G1 T1 T2 U1 og1 n1 nf1 ha1 hb1 (lv_sub hl [2, 3, 4, 5, 6] rfl) (to_xP hP) (to_xD hD) hS
  · have hl : lv_has ls 9 [(6, .int bb), (5, .int kc), (0, .ref b), (1, .ref x), (2, .ref (g 0)), (3, .ref o), (4, .int (nI i))] := hl
    refine lv_aload_n hx hb dL_law_1895 rfl (lv_at hl 5 rfl) ?_
    refine lv_iconst (v := 0) hx hb dL_law_1896 (by decide) ?_
    refine va_lald hx hb hE.1 hP 83 2 mo_83 rfl (vp_in_nI (n := 0) (N := 1) (by decide) (by decide)) dL_law_1897 ?_
    refine lv_iload hx hb dL_law_1898 (lv_at hl 0 rfl) ?_
    refine lv_i2l hx hb dL_law_1900 rfl ?_
    refine W.lcmp hx hb dL_law_1901 ?_
    refine w_top (lg_self (e2 c_k)) ?_
    refine lv_if_eq (tgt := 1907) hx hb dL_law_1902 (by decide) (fun _ => ?_) (fun c_ => absurd rfl c_)
    refine lv_goto (tgt := 2101) hx hb dL_law_1907 (by decide) ?_
    exact K d0 hd0 ls H locs S1 G1 T1 T2 U1 og1 n1 nf1 ha1 hb1 (lv_sub hl [2, 3, 4, 5, 6] rfl) (to_xP hP) (to_xD hD) hS
set_option maxHeartbeats 4000000 in
set_option maxRecDepth 100000 in
theorem case_36 {p : Program} {e : Env} {s : State} {m : MethodId} {below : List Frame} {meth : Method} {c : Code} {l : Launch} {b L : Nat} {xs : Nat → Int32} {D : va_G} {k : Nat → ClassId} {a tr g t u : Nat → Nat} {x o : Nat} {Q : State → Prop} (hfl : l.stackTraces = false) (hCd : ∀ d : Drawn, CallFix p m c cL_law 9 (s.setDrawn d) #[Value.ref b] lw_all RL) (hE0 : eK D k s) (hX0 : xK s) (hAZ : aZ s) (hX9 : va_X b L xs s s.heap) (hbl : b < s.heap.size) (hL : L ≤ 2048) {i : Nat} (hi : i + 4 ≤ L) {cells slots : Nat} (hcs : cells + 1 ≤ room_1.cells ∧ slots + 6 ≤ room_1.slots) (K : ∀ (d0 : Drawn), s.drawn.sameBut d0 lw_cs → ∀ (ls : Array Slot) (H : Heap) (locs : List Loc) (S G T T0 U : HS) (og : Nat → Int64) (n nf : Nat), RA S G n nf → RB S T n → lv_has ls 9 [(0, .ref b), (1, .ref x), (2, .ref (g 0)), (3, .ref o), (4, .int (nI i))] → va_P D vwCl (xwW k a tr x o S T0 og (mW k g t u G T U [])) H → va_D (fun q : Nat => s.heap.size ≤ q) (xwW k a tr x o S T0 og (mW k g t u G T U [])) → va_S (fun q : Nat => s.heap.size ≤ q) s.heap H locs → W p l e room_1 (s.setDrawn d0) m #[Value.ref b] below meth c H locs (cells + 1) (slots + 6) Q (F0 m 2101 ls [])) {d0 : Drawn} (hd0 : s.drawn.sameBut d0 lw_cs) {ls : Array Slot} {H : Heap} {locs : List Loc} {S G T T0 U : HS} {og : Nat → Int64} {n nf : Nat} (hA9 : RA S G n nf) (hB9 : RB S T n) (hl : lv_has ls 9 [(0, .ref b), (1, .ref x), (2, .ref (g 0)), (3, .ref o), (4, .int (nI i))]) (hP : va_P D vwCl (xwW k a tr x o S T0 og (mW k g t u G T U [])) H) (hD : va_D (fun q : Nat => s.heap.size ≤ q) (xwW k a tr x o S T0 og (mW k g t u G T U []))) (hS : va_S (fun q : Nat => s.heap.size ≤ q) s.heap H locs) : W p l e room_1 (s.setDrawn d0) m #[Value.ref b] below meth c H locs cells slots Q (F0 m 1910 ls []) := by
  have hC := hCd d0
  have hx := hC.1
  have hb := hC.2.1
  have hE := eK_drawn hE0 d0
  have hX := xK_drawn hX0 d0
  have hXs : va_X b L xs (s.setDrawn d0) s.heap := va_X.moved (u := s) (U := s.setDrawn d0) (Vm.Alike.refl s.vm) hX9
  refine lv_aload_n hx hb dL_law_1910 rfl (lv_at hl 1 rfl) ?_
  refine lv_aload_n hx hb dL_law_1911 rfl (lv_at hl 0 rfl) ?_
  refine lv_iload hx hb dL_law_1912 (lv_at hl 4 rfl) ?_
  refine lv_iconst (v := 1) hx hb dL_law_1914 (by decide) ?_
  refine lv_iadd hx hb dL_law_1915 ?_
  refine w_top (show nI i + 1 = nI (i + 1) from nI_add i 1) ?_
  refine va_sld (A := (fun q : Nat => s.heap.size ≤ q)) hx hb hXs hbl (Nat.not_le.mpr hbl) hS (i := nI (i + 1)) (vp_in_nI (by omega) (by omega)) dL_law_1916 ?_
  refine w_top (congrArg xs (nI_clamp (n := i + 1) (by omega))) ?_
  refine lv_aload_n hx hb dL_law_1917 rfl (lv_at hl 0 rfl) ?_
  refine lv_iload hx hb dL_law_1918 (lv_at hl 4 rfl) ?_
  refine lv_iconst (v := 2) hx hb dL_law_1920 (by decide) ?_
  refine lv_iadd hx hb dL_law_1921 ?_
  refine w_top (show nI i + 2 = nI (i + 2) from nI_add i 2) ?_
  refine va_sld (A := (fun q : Nat => s.heap.size ≤ q)) hx hb hXs hbl (Nat.not_le.mpr hbl) hS (i := nI (i + 2)) (vp_in_nI (by omega) (by omega)) dL_law_1922 ?_
  refine w_top (congrArg xs (nI_clamp (n := i + 2) (by omega))) ?_
  refine lv_aload_n hx hb dL_law_1923 rfl (lv_at hl 3 rfl) ?_
  obtain ⟨kc, bb, S1, G1, T1, T2, U1, og1, n1, nf1, hLM, hMM, e1, e2, ha1, hb1⟩ := op_readyAfter l hfl (D := D) (k := k) (a := a) (tr := tr) (g := g) (t := t) (u := u) (x := x) (o := o) hA9 hB9 T0 U og (xs (i + 1)) (xs (i + 2))
  refine c_lS (rest := []) hC hE hX (xZ_drawn hAZ hS _) hP hD hS lo_same (hLM (mW k g t u G T U [])) gw_RL_237 hd_L_readyAfter ⟨Nat.le_of_ble_eq_true rfl, Nat.le_of_ble_eq_true rfl⟩ rfl hl.1 (Nat.le_of_ble_eq_true rfl) hcs dL_law_1924 (fun H locs hP hD hS => ?_)
  have hP := to_mP hP
  have hD := to_mD hD
  refine lv_istore (lv' := [(5, .int kc), (0, .ref b), (1, .ref x), (2, .ref (g 0)), (3, .ref o), (4, .int (nI i))]) hx hb dL_law_1927 hl (by decide) rfl (fun ls hl => ?_)
  refine lv_aload_n hx hb dL_law_1929 rfl (lv_at hl 3 rfl) ?_
  refine lv_aload_n hx hb dL_law_1930 rfl (lv_at hl 1 rfl) ?_
  refine lv_iload hx hb dL_law_1931 (lv_at hl 5 rfl) ?_
  refine lv_iconst (v := 1) hx hb dL_law_1933 (by decide) ?_
  refine lv_iadd hx hb dL_law_1934 ?_
  refine w_top (show nI i + 1 = nI (i + 1) from nI_add i 1) ?_
  refine va_sld (A := (fun q : Nat => s.heap.size ≤ q)) hx hb hXs hbl (Nat.not_le.mpr hbl) hS (i := nI (i + 1)) (vp_in_nI (by omega) (by omega)) dL_law_1935 ?_
  refine w_top (congrArg xs (nI_clamp (n := i + 1) (by omega))) ?_
  refine lv_aload_n hx hb dL_law_1936 rfl (lv_at hl 1 rfl) ?_
  refine lv_iload hx hb dL_law_1937 (lv_at hl 5 rfl) ?_
  refine lv_iconst (v := 2) hx hb dL_law_1939 (by decide) ?_
  refine lv_iadd hx hb dL_law_1940 ?_
  refine w_top (show nI i + 2 = nI (i + 2) from nI_add i 2) ?_
  refine va_sld (A := (fun q : Nat => s.heap.size ≤ q)) hx hb hXs hbl (Nat.not_le.mpr hbl) hS (i := nI (i + 2)) (vp_in_nI (by omega) (by omega)) dL_law_1941 ?_
  refine w_top (congrArg xs (nI_clamp (n := i + 2) (by omega))) ?_
  refine c_mVi (rest := []) hC hE hP hD hS mw_same (hMM (xwW k a tr x o S1 T2 og1 [])) gc_RL_239 hd_X6_readyAfter ⟨rfl, rfl⟩ ⟨Nat.le_of_ble_eq_true rfl, Nat.le_of_ble_eq_true rfl⟩ 0 gw_0 rfl rfl hl.1 (Nat.le_of_ble_eq_true rfl) hcs dL_law_1942 (fun H locs hP hD hS => ?_)
  refine lv_istore (lv' := [(6, .int bb), (5, .int kc), (0, .ref b), (1, .ref x), (2, .ref (g 0)), (3, .ref o), (4, .int (nI i))]) hx hb dL_law_1945 hl (by decide) rfl (fun ls hl => ?_)
  refine lv_aload_n hx hb dL_law_1947 rfl (lv_at hl 4 rfl) ?_
  refine c_pVi (rest := []) hC hE hP (metX6_thrown l G1 T1) gc_RL_117 hd_X6_thrown ⟨rfl, rfl⟩ ⟨Nat.le_of_ble_eq_true rfl, Nat.le_of_ble_eq_true rfl⟩ 0 gw_0 rfl rfl hl.1 (Nat.le_of_ble_eq_true rfl) hcs dL_law_1948 ?_
  refine w_top e1 ?_
  refine lv_iload hx hb dL_law_1951 (lv_at hl 1 rfl) ?_
  refine lv_icmp_eq (tgt := 1958) hx hb dL_law_1953 (by decide) (fun _ => ?_) (fun c_ => absurd rfl c_)
  refine lv_iload hx hb dL_law_1958 (lv_at hl 1 rfl) ?_
  refine lv_if_ne (tgt := 1975) hx hb dL_law_1960 (by decide) (fun c_k => ?_) (fun c_k => ?_)
  · have hl : lv_has ls 9 [(6, .int bb), (5, .int kc), (0, .ref b), (1, .ref x), (2, .ref (g 0)), (3, .ref o), (4, .int (nI i))] := hl
    refine lv_goto (tgt := 2101) hx hb dL_law_1975 (by decide) ?_
    exact K d0 hd0 ls H locs S1 G1 T1 T2 U1 og1 n1 nf1 ha1 hb1 (lv_sub hl [2, 3, 4, 5, 6] rfl) (to_xP hP) (to_xD hD) hS
  · have hl : lv_has ls 9 [(6, .int bb), (5, .int kc), (0, .ref b), (1, .ref x), (2, .ref (g 0)), (3, .ref o), (4, .int (nI i))] := hl
    refine lv_aload_n hx hb dL_law_1963 rfl (lv_at hl 5 rfl) ?_
    refine lv_iconst (v := 0) hx hb dL_law_1964 (by decide) ?_
    refine va_lald hx hb hE.1 hP 83 2 mo_83 rfl (vp_in_nI (n := 0) (N := 1) (by decide) (by decide)) dL_law_1965 ?_
    refine lv_iload hx hb dL_law_1966 (lv_at hl 0 rfl) ?_
    refine lv_i2l hx hb dL_law_1968 rfl ?_
    refine W.lcmp hx hb dL_law_1969 ?_
    refine w_top (lg_self (e2 c_k)) ?_
    refine lv_if_eq (tgt := 1975) hx hb dL_law_1970 (by decide) (fun _ => ?_) (fun c_ => absurd rfl c_)
    refine lv_goto (tgt := 2101) hx hb dL_law_1975 (by decide) ?_
    exact K d0 hd0 ls H locs S1 G1 T1 T2 U1 og1 n1 nf1 ha1 hb1 (lv_sub hl [2, 3, 4, 5, 6] rfl) (to_xP hP) (to_xD hD) hS
set_option maxHeartbeats 4000000 in
set_option maxRecDepth 100000 in
theorem case_37 {p : Program} {e : Env} {s : State} {m : MethodId} {below : List Frame} {meth : Method} {c : Code} {l : Launch} {b L : Nat} {xs : Nat → Int32} {D : va_G} {k : Nat → ClassId} {a tr g t u : Nat → Nat} {x o : Nat} {Q : State → Prop} (hfl : l.stackTraces = false) (hCd : ∀ d : Drawn, CallFix p m c cL_law 9 (s.setDrawn d) #[Value.ref b] lw_all RL) (hE0 : eK D k s) (hX0 : xK s) (hAZ : aZ s) (hX9 : va_X b L xs s s.heap) (hbl : b < s.heap.size) (hL : L ≤ 2048) {i : Nat} (hi : i + 4 ≤ L) {cells slots : Nat} (hcs : cells + 1 ≤ room_1.cells ∧ slots + 6 ≤ room_1.slots) (K : ∀ (d0 : Drawn), s.drawn.sameBut d0 lw_cs → ∀ (ls : Array Slot) (H : Heap) (locs : List Loc) (S G T T0 U : HS) (og : Nat → Int64) (n nf : Nat), RA S G n nf → RB S T n → lv_has ls 9 [(0, .ref b), (1, .ref x), (2, .ref (g 0)), (3, .ref o), (4, .int (nI i))] → va_P D vwCl (xwW k a tr x o S T0 og (mW k g t u G T U [])) H → va_D (fun q : Nat => s.heap.size ≤ q) (xwW k a tr x o S T0 og (mW k g t u G T U [])) → va_S (fun q : Nat => s.heap.size ≤ q) s.heap H locs → W p l e room_1 (s.setDrawn d0) m #[Value.ref b] below meth c H locs (cells + 1) (slots + 6) Q (F0 m 2101 ls [])) {d0 : Drawn} (hd0 : s.drawn.sameBut d0 lw_cs) {ls : Array Slot} {H : Heap} {locs : List Loc} {S G T T0 U : HS} {og : Nat → Int64} {n nf : Nat} (hA9 : RA S G n nf) (hB9 : RB S T n) (hl : lv_has ls 9 [(0, .ref b), (1, .ref x), (2, .ref (g 0)), (3, .ref o), (4, .int (nI i))]) (hP : va_P D vwCl (xwW k a tr x o S T0 og (mW k g t u G T U [])) H) (hD : va_D (fun q : Nat => s.heap.size ≤ q) (xwW k a tr x o S T0 og (mW k g t u G T U []))) (hS : va_S (fun q : Nat => s.heap.size ≤ q) s.heap H locs) : W p l e room_1 (s.setDrawn d0) m #[Value.ref b] below meth c H locs cells slots Q (F0 m 1978 ls []) := by
  have hC := hCd d0
  have hx := hC.1
  have hb := hC.2.1
  have hE := eK_drawn hE0 d0
  have hX := xK_drawn hX0 d0
  have hXs : va_X b L xs (s.setDrawn d0) s.heap := va_X.moved (u := s) (U := s.setDrawn d0) (Vm.Alike.refl s.vm) hX9
  refine lv_aload_n hx hb dL_law_1978 rfl (lv_at hl 1 rfl) ?_
  refine lv_aload_n hx hb dL_law_1979 rfl (lv_at hl 0 rfl) ?_
  refine lv_iload hx hb dL_law_1980 (lv_at hl 4 rfl) ?_
  refine lv_iconst (v := 1) hx hb dL_law_1982 (by decide) ?_
  refine lv_iadd hx hb dL_law_1983 ?_
  refine w_top (show nI i + 1 = nI (i + 1) from nI_add i 1) ?_
  refine va_sld (A := (fun q : Nat => s.heap.size ≤ q)) hx hb hXs hbl (Nat.not_le.mpr hbl) hS (i := nI (i + 1)) (vp_in_nI (by omega) (by omega)) dL_law_1984 ?_
  refine w_top (congrArg xs (nI_clamp (n := i + 1) (by omega))) ?_
  refine lv_aload_n hx hb dL_law_1985 rfl (lv_at hl 0 rfl) ?_
  refine lv_iload hx hb dL_law_1986 (lv_at hl 4 rfl) ?_
  refine lv_iconst (v := 2) hx hb dL_law_1988 (by decide) ?_
  refine lv_iadd hx hb dL_law_1989 ?_
  refine w_top (show nI i + 2 = nI (i + 2) from nI_add i 2) ?_
  refine va_sld (A := (fun q : Nat => s.heap.size ≤ q)) hx hb hXs hbl (Nat.not_le.mpr hbl) hS (i := nI (i + 2)) (vp_in_nI (by omega) (by omega)) dL_law_1990 ?_
  refine w_top (congrArg xs (nI_clamp (n := i + 2) (by omega))) ?_
  refine lv_aload_n hx hb dL_law_1991 rfl (lv_at hl 3 rfl) ?_
  obtain ⟨kc, bb, S1, G1, T1, T2, U1, og1, n1, nf1, hLM, hMM, e1, e2, ha1, hb1⟩ := op_bestChute l hfl (D := D) (k := k) (a := a) (tr := tr) (g := g) (t := t) (u := u) (x := x) (o := o) hA9 hB9 T0 U og (xs (i + 1)) (xs (i + 2))
  refine c_lS (rest := []) hC hE hX (xZ_drawn hAZ hS _) hP hD hS lo_same (hLM (mW k g t u G T U [])) gw_RL_240 hd_L_bestChute ⟨Nat.le_of_ble_eq_true rfl, Nat.le_of_ble_eq_true rfl⟩ rfl hl.1 (Nat.le_of_ble_eq_true rfl) hcs dL_law_1992 (fun H locs hP hD hS => ?_)
  have hP := to_mP hP
  have hD := to_mD hD
  refine lv_istore (lv' := [(5, .int kc), (0, .ref b), (1, .ref x), (2, .ref (g 0)), (3, .ref o), (4, .int (nI i))]) hx hb dL_law_1995 hl (by decide) rfl (fun ls hl => ?_)
  refine lv_aload_n hx hb dL_law_1997 rfl (lv_at hl 3 rfl) ?_
  refine lv_aload_n hx hb dL_law_1998 rfl (lv_at hl 1 rfl) ?_
  refine lv_iload hx hb dL_law_1999 (lv_at hl 5 rfl) ?_
  refine lv_iconst (v := 1) hx hb dL_law_2001 (by decide) ?_
  refine lv_iadd hx hb dL_law_2002 ?_
  refine w_top (show nI i + 1 = nI (i + 1) from nI_add i 1) ?_
  refine va_sld (A := (fun q : Nat => s.heap.size ≤ q)) hx hb hXs hbl (Nat.not_le.mpr hbl) hS (i := nI (i + 1)) (vp_in_nI (by omega) (by omega)) dL_law_2003 ?_
  refine w_top (congrArg xs (nI_clamp (n := i + 1) (by omega))) ?_
  refine lv_aload_n hx hb dL_law_2004 rfl (lv_at hl 1 rfl) ?_
  refine lv_iload hx hb dL_law_2005 (lv_at hl 5 rfl) ?_
  refine lv_iconst (v := 2) hx hb dL_law_2007 (by decide) ?_
  refine lv_iadd hx hb dL_law_2008 ?_
  refine w_top (show nI i + 2 = nI (i + 2) from nI_add i 2) ?_
  refine va_sld (A := (fun q : Nat => s.heap.size ≤ q)) hx hb hXs hbl (Nat.not_le.mpr hbl) hS (i := nI (i + 2)) (vp_in_nI (by omega) (by omega)) dL_law_2009 ?_
  refine w_top (congrArg xs (nI_clamp (n := i + 2) (by omega))) ?_
  refine c_mVi (rest := []) hC hE hP hD hS mw_same (hMM (xwW k a tr x o S1 T2 og1 [])) gc_RL_242 hd_X6_bestChute ⟨rfl, rfl⟩ ⟨Nat.le_of_ble_eq_true rfl, Nat.le_of_ble_eq_true rfl⟩ 0 gw_0 rfl rfl hl.1 (Nat.le_of_ble_eq_true rfl) hcs dL_law_2010 (fun H locs hP hD hS => ?_)
  refine lv_istore (lv' := [(6, .int bb), (5, .int kc), (0, .ref b), (1, .ref x), (2, .ref (g 0)), (3, .ref o), (4, .int (nI i))]) hx hb dL_law_2013 hl (by decide) rfl (fun ls hl => ?_)
  refine lv_aload_n hx hb dL_law_2015 rfl (lv_at hl 4 rfl) ?_
  refine c_pVi (rest := []) hC hE hP (metX6_thrown l G1 T1) gc_RL_117 hd_X6_thrown ⟨rfl, rfl⟩ ⟨Nat.le_of_ble_eq_true rfl, Nat.le_of_ble_eq_true rfl⟩ 0 gw_0 rfl rfl hl.1 (Nat.le_of_ble_eq_true rfl) hcs dL_law_2016 ?_
  refine w_top e1 ?_
  refine lv_iload hx hb dL_law_2019 (lv_at hl 1 rfl) ?_
  refine lv_icmp_eq (tgt := 2026) hx hb dL_law_2021 (by decide) (fun _ => ?_) (fun c_ => absurd rfl c_)
  refine lv_iload hx hb dL_law_2026 (lv_at hl 1 rfl) ?_
  refine lv_if_ne (tgt := 2043) hx hb dL_law_2028 (by decide) (fun c_k => ?_) (fun c_k => ?_)
  · have hl : lv_has ls 9 [(6, .int bb), (5, .int kc), (0, .ref b), (1, .ref x), (2, .ref (g 0)), (3, .ref o), (4, .int (nI i))] := hl
    refine lv_goto (tgt := 2101) hx hb dL_law_2043 (by decide) ?_
    exact K d0 hd0 ls H locs S1 G1 T1 T2 U1 og1 n1 nf1 ha1 hb1 (lv_sub hl [2, 3, 4, 5, 6] rfl) (to_xP hP) (to_xD hD) hS
  · have hl : lv_has ls 9 [(6, .int bb), (5, .int kc), (0, .ref b), (1, .ref x), (2, .ref (g 0)), (3, .ref o), (4, .int (nI i))] := hl
    refine lv_aload_n hx hb dL_law_2031 rfl (lv_at hl 5 rfl) ?_
    refine lv_iconst (v := 0) hx hb dL_law_2032 (by decide) ?_
    refine va_lald hx hb hE.1 hP 83 2 mo_83 rfl (vp_in_nI (n := 0) (N := 1) (by decide) (by decide)) dL_law_2033 ?_
    refine lv_iload hx hb dL_law_2034 (lv_at hl 0 rfl) ?_
    refine lv_i2l hx hb dL_law_2036 rfl ?_
    refine W.lcmp hx hb dL_law_2037 ?_
    refine w_top (lg_self (e2 c_k)) ?_
    refine lv_if_eq (tgt := 2043) hx hb dL_law_2038 (by decide) (fun _ => ?_) (fun c_ => absurd rfl c_)
    refine lv_goto (tgt := 2101) hx hb dL_law_2043 (by decide) ?_
    exact K d0 hd0 ls H locs S1 G1 T1 T2 U1 og1 n1 nf1 ha1 hb1 (lv_sub hl [2, 3, 4, 5, 6] rfl) (to_xP hP) (to_xD hD) hS
set_option maxHeartbeats 4000000 in
set_option maxRecDepth 100000 in
theorem case_38 {p : Program} {e : Env} {s : State} {m : MethodId} {below : List Frame} {meth : Method} {c : Code} {l : Launch} {b L : Nat} {xs : Nat → Int32} {D : va_G} {k : Nat → ClassId} {a tr g t u : Nat → Nat} {x o : Nat} {Q : State → Prop} (hfl : l.stackTraces = false) (hCd : ∀ d : Drawn, CallFix p m c cL_law 9 (s.setDrawn d) #[Value.ref b] lw_all RL) (hE0 : eK D k s) (hX0 : xK s) (hAZ : aZ s) (hX9 : va_X b L xs s s.heap) (hbl : b < s.heap.size) (hL : L ≤ 2048) {i : Nat} (hi : i + 4 ≤ L) {cells slots : Nat} (hcs : cells + 1 ≤ room_1.cells ∧ slots + 6 ≤ room_1.slots) (K : ∀ (d0 : Drawn), s.drawn.sameBut d0 lw_cs → ∀ (ls : Array Slot) (H : Heap) (locs : List Loc) (S G T T0 U : HS) (og : Nat → Int64) (n nf : Nat), RA S G n nf → RB S T n → lv_has ls 9 [(0, .ref b), (1, .ref x), (2, .ref (g 0)), (3, .ref o), (4, .int (nI i))] → va_P D vwCl (xwW k a tr x o S T0 og (mW k g t u G T U [])) H → va_D (fun q : Nat => s.heap.size ≤ q) (xwW k a tr x o S T0 og (mW k g t u G T U [])) → va_S (fun q : Nat => s.heap.size ≤ q) s.heap H locs → W p l e room_1 (s.setDrawn d0) m #[Value.ref b] below meth c H locs (cells + 1) (slots + 6) Q (F0 m 2101 ls [])) {d0 : Drawn} (hd0 : s.drawn.sameBut d0 lw_cs) {ls : Array Slot} {H : Heap} {locs : List Loc} {S G T T0 U : HS} {og : Nat → Int64} {n nf : Nat} (hA9 : RA S G n nf) (hB9 : RB S T n) (hl : lv_has ls 9 [(0, .ref b), (1, .ref x), (2, .ref (g 0)), (3, .ref o), (4, .int (nI i))]) (hP : va_P D vwCl (xwW k a tr x o S T0 og (mW k g t u G T U [])) H) (hD : va_D (fun q : Nat => s.heap.size ≤ q) (xwW k a tr x o S T0 og (mW k g t u G T U []))) (hS : va_S (fun q : Nat => s.heap.size ≤ q) s.heap H locs) : W p l e room_1 (s.setDrawn d0) m #[Value.ref b] below meth c H locs cells slots Q (F0 m 2046 ls []) := by
  have hC := hCd d0
  have hx := hC.1
  have hb := hC.2.1
  have hE := eK_drawn hE0 d0
  have hX := xK_drawn hX0 d0
  have hXs : va_X b L xs (s.setDrawn d0) s.heap := va_X.moved (u := s) (U := s.setDrawn d0) (Vm.Alike.refl s.vm) hX9
  have hc0 : cells ≤ room_1.cells ∧ slots ≤ room_1.slots := ⟨Nat.le_of_succ_le hcs.1, Nat.le_trans (Nat.le_add_right slots 6) hcs.2⟩
  refine lv_aload_n hx hb dL_law_2046 rfl (lv_at hl 1 rfl) ?_
  refine c_dV (rest := []) hd0 hC hE hP hD hS rfl (metX4_meanMisses l S) gc_RL_243 hd_X4_meanMisses ⟨rfl, rfl⟩ ⟨Nat.le_of_ble_eq_true rfl, Nat.le_of_ble_eq_true rfl⟩ 29 lo_29 rfl rfl hl.1 (Nat.le_of_ble_eq_true rfl) hc0 dL_law_2047 (fun r H locs d1 hr1 hd1 hP hD hS => ?_)
  have hP := to_mP hP
  have hD := to_mD hD
  have hC := hCd d1
  have hE := eK_drawn hE0 d1
  refine lv_dstore (lv' := [(5, .double r), (0, .ref b), (1, .ref x), (2, .ref (g 0)), (3, .ref o), (4, .int (nI i))]) hx hb dL_law_2050 hl (by decide) rfl (fun ls hl => ?_)
  refine lv_aload_n hx hb dL_law_2052 rfl (lv_at hl 3 rfl) ?_
  refine c_dV (rest := []) hd1 hC hE hP hD hS mw_same (metX6_meanMisses l G T n hA9.gn hA9.n40) gc_RL_247 hd_X6_meanMisses ⟨rfl, rfl⟩ ⟨Nat.le_of_ble_eq_true rfl, Nat.le_of_ble_eq_true rfl⟩ 0 gw_0 rfl rfl hl.1 (Nat.le_of_ble_eq_true rfl) hc0 dL_law_2053 (fun q H locs d2 hr2 hd2 hP hD hS => ?_)
  rw [mean_eq hA9 hB9] at hr1
  refine lv_dstore (lv' := [(7, .double q), (5, .double r), (0, .ref b), (1, .ref x), (2, .ref (g 0)), (3, .ref o), (4, .int (nI i))]) hx hb dL_law_2056 hl (by decide) rfl (fun ls hl => ?_)
  refine lv_dload hx hb dL_law_2058 (lv_at hl 1 rfl) ?_
  refine lv_dload hx hb dL_law_2060 (lv_at hl 0 rfl) ?_
  refine lv_dcmp hx hb dL_law_2062 ?_
  refine lv_if_eq (tgt := 2084) hx hb dL_law_2063 (by decide) (fun c_e => ?_) (fun c_n => ?_)
  · have hl : lv_has ls 9 [(7, .double q), (5, .double r), (0, .ref b), (1, .ref x), (2, .ref (g 0)), (3, .ref o), (4, .int (nI i))] := hl
    refine lv_goto (tgt := 2101) hx hb dL_law_2084 (by decide) ?_
    refine W.widen (k := cells + 1) (n := slots + 6) (Nat.le_succ cells) (Nat.le_add_right slots 6) ?_
    exact K d2 hd2 ls H locs S (thr G 0) T T0 U og n nf (RA_thr hA9 0) hB9 (lv_sub hl [2, 3, 4, 5, 6] rfl) (to_xP hP) (to_xD hD) hS
  · have hl : lv_has ls 9 [(7, .double q), (5, .double r), (0, .ref b), (1, .ref x), (2, .ref (g 0)), (3, .ref o), (4, .int (nI i))] := hl
    refine lv_dload hx hb dL_law_2066 (lv_at hl 1 rfl) ?_
    refine lv_dload hx hb dL_law_2068 (lv_at hl 1 rfl) ?_
    refine lv_dcmp hx hb dL_law_2070 ?_
    refine lv_if_eq (tgt := 2082) hx hb dL_law_2071 (by decide) (fun c_ => absurd c_ (alike_two hr1 hr2 c_n).1) (fun _ => ?_)
    refine lv_dload hx hb dL_law_2074 (lv_at hl 0 rfl) ?_
    refine lv_dload hx hb dL_law_2076 (lv_at hl 0 rfl) ?_
    refine lv_dcmp hx hb dL_law_2078 ?_
    refine lv_if_ne (tgt := 2084) hx hb dL_law_2079 (by decide) (fun _ => ?_) (fun c_ => absurd c_ (alike_two hr1 hr2 c_n).2)
    refine lv_goto (tgt := 2101) hx hb dL_law_2084 (by decide) ?_
    refine W.widen (k := cells + 1) (n := slots + 6) (Nat.le_succ cells) (Nat.le_add_right slots 6) ?_
    exact K d2 hd2 ls H locs S (thr G 0) T T0 U og n nf (RA_thr hA9 0) hB9 (lv_sub hl [2, 3, 4, 5, 6] rfl) (to_xP hP) (to_xD hD) hS
set_option maxHeartbeats 4000000 in
set_option maxRecDepth 100000 in
theorem case_39 {p : Program} {e : Env} {s : State} {m : MethodId} {below : List Frame} {meth : Method} {c : Code} {l : Launch} {b L : Nat} {xs : Nat → Int32} {D : va_G} {k : Nat → ClassId} {a tr g t u : Nat → Nat} {x o : Nat} {Q : State → Prop} (hfl : l.stackTraces = false) (hCd : ∀ d : Drawn, CallFix p m c cL_law 9 (s.setDrawn d) #[Value.ref b] lw_all RL) (hE0 : eK D k s) (hX0 : xK s) (hAZ : aZ s) (hX9 : va_X b L xs s s.heap) (hbl : b < s.heap.size) (hL : L ≤ 2048) {i : Nat} (hi : i + 4 ≤ L) {cells slots : Nat} (hcs : cells + 1 ≤ room_1.cells ∧ slots + 6 ≤ room_1.slots) (K : ∀ (d0 : Drawn), s.drawn.sameBut d0 lw_cs → ∀ (ls : Array Slot) (H : Heap) (locs : List Loc) (S G T T0 U : HS) (og : Nat → Int64) (n nf : Nat), RA S G n nf → RB S T n → lv_has ls 9 [(0, .ref b), (1, .ref x), (2, .ref (g 0)), (3, .ref o), (4, .int (nI i))] → va_P D vwCl (xwW k a tr x o S T0 og (mW k g t u G T U [])) H → va_D (fun q : Nat => s.heap.size ≤ q) (xwW k a tr x o S T0 og (mW k g t u G T U [])) → va_S (fun q : Nat => s.heap.size ≤ q) s.heap H locs → W p l e room_1 (s.setDrawn d0) m #[Value.ref b] below meth c H locs (cells + 1) (slots + 6) Q (F0 m 2101 ls [])) {d0 : Drawn} (hd0 : s.drawn.sameBut d0 lw_cs) {ls : Array Slot} {H : Heap} {locs : List Loc} {S G T T0 U : HS} {og : Nat → Int64} {n nf : Nat} (hA9 : RA S G n nf) (hB9 : RB S T n) (hl : lv_has ls 9 [(0, .ref b), (1, .ref x), (2, .ref (g 0)), (3, .ref o), (4, .int (nI i))]) (hP : va_P D vwCl (xwW k a tr x o S T0 og (mW k g t u G T U [])) H) (hD : va_D (fun q : Nat => s.heap.size ≤ q) (xwW k a tr x o S T0 og (mW k g t u G T U []))) (hS : va_S (fun q : Nat => s.heap.size ≤ q) s.heap H locs) : W p l e room_1 (s.setDrawn d0) m #[Value.ref b] below meth c H locs cells slots Q (F0 m 2087 ls []) := by
  have hC := hCd d0
  have hx := hC.1
  have hb := hC.2.1
  have hE := eK_drawn hE0 d0
  have hX := xK_drawn hX0 d0
  have hXs : va_X b L xs (s.setDrawn d0) s.heap := va_X.moved (u := s) (U := s.setDrawn d0) (Vm.Alike.refl s.vm) hX9
  have hc0 : cells ≤ room_1.cells ∧ slots ≤ room_1.slots := ⟨Nat.le_of_succ_le hcs.1, Nat.le_trans (Nat.le_add_right slots 6) hcs.2⟩
  refine lv_aload_n hx hb dL_law_2087 rfl (lv_at hl 1 rfl) ?_
  refine c_pVl (rest := []) hC hE hP (metX4_digest l S n hA9.sn hA9.n40 nf hA9.sf_ hA9.nf6) gc_RL_248 hd_X4_digest ⟨rfl, rfl⟩ ⟨Nat.le_of_ble_eq_true rfl, Nat.le_of_ble_eq_true rfl⟩ 29 lo_29 rfl rfl hl.1 (Nat.le_of_ble_eq_true rfl) hc0 dL_law_2088 ?_
  have hP := to_mP hP
  have hD := to_mD hD
  refine lv_aload_n hx hb dL_law_2091 rfl (lv_at hl 2 rfl) ?_
  refine c_mVl (rest := [.long (xDig S n nf)]) hC hE hP hD hS mw_same (metX6_digest l G T n hA9.gn hA9.n40 nf hA9.gf_ hA9.nf6 hA9.okF) gc_RL_252 hd_X6_digest ⟨rfl, rfl⟩ ⟨Nat.le_of_ble_eq_true rfl, Nat.le_of_ble_eq_true rfl⟩ 0 gw_0 rfl rfl hl.1 (Nat.le_of_ble_eq_true rfl) hc0 dL_law_2092 (fun H locs hP hD hS => ?_)
  refine W.lcmp hx hb dL_law_2095 ?_
  refine w_top (lg_self (dig_eq (RA_thr hA9 0) hB9)) ?_
  refine lv_if_eq (tgt := 2101) hx hb dL_law_2096 (by decide) (fun _ => ?_) (fun c_ => absurd rfl c_)
  refine W.widen (k := cells + 1) (n := slots + 6) (Nat.le_succ cells) (Nat.le_add_right slots 6) ?_
  exact K d0 hd0 ls H locs S (thr G 0) T T0 U og n nf (RA_thr hA9 0) hB9 (lv_sub hl [0, 1, 2, 3, 4] rfl) (to_xP hP) (to_xD hD) hS
