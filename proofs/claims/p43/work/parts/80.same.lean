/-! the end: all is as by hand -/
theorem lw_flag {l : Launch} (h : l.flags = flags0) : l.stackTraces = false := by
  unfold Launch.stackTraces
  rw [h]
  decide +kernel
theorem eK_drawn {D : va_G} {k : Nat → ClassId} {s : State} (h : eK D k s) (d : Drawn) : eK D k (s.setDrawn d) := ⟨va_K.moved (u := s) (U := s.setDrawn d) (Vm.Alike.refl s.vm) h.1, nestK_same (u := s) (U := s.setDrawn d) rfl h.2⟩
theorem iN_drawn {s : State} (h : iN s) (d : Drawn) : iN (s.setDrawn d) := ⟨va_Nw.same (u := s) (U := s.setDrawn d) rfl rfl h.1, va_Nw.same (u := s) (U := s.setDrawn d) rfl rfl h.2.1, va_Nw.same (u := s) (U := s.setDrawn d) rfl rfl h.2.2⟩
theorem xK_drawn {s : State} (h : xK s) (d : Drawn) : xK (s.setDrawn d) := by
  obtain ⟨h1, h2, -⟩ := h
  exact ⟨fun q hq => (h1 q hq).elim (fun a ha => ⟨a, vk_R.same (u := s) (U := s.setDrawn d) rfl ha⟩), fun w hw => va_Nw.same (u := s) (U := s.setDrawn d) (xB_ot w hw) rfl (h2 w hw), trivial⟩
section LAWD
variable {p : Program} {l : Launch} {e : Env} {R : Room} {s : State} {m : MethodId} {args : Array Value} {below : List Frame} {meth : Method} {c : Code} {H : Heap} {locs : List Loc} {cells slots : Nat} {Q : State → Prop}
variable {cc bytes : ByteArray} {pc index nL maxL : Nat} {own C : String} {y : MethodName} {rm : Room} {D : va_G} {k : Nat → ClassId} {ws ws' : va_W} {A : Nat → Prop} {H0 : Heap} {ls : Array Slot} {st rest As : List Value} {b a : Nat} {g : JFrame} {d0 : Drawn}
/-- a method that answers a double is called -/
theorem c_dV {z : UInt64} (hd0 : s.drawn.sameBut d0 lw_cs) (hC : CallFix p m c cc nL (s.setDrawn d0) args lw_all own) (hE : eK D k (s.setDrawn d0)) (hP : va_P D vwCl ws H) (hD : va_D A ws) (hS : va_S A H0 H locs) (hs : ws'.map Prod.fst = ws.map Prod.fst) (hM : DM l y bytes maxL rm D k ws (.ref b :: As) z ws') (hG : GoodIn lw_all (wsV own index C y (ws_ y bytes maxL (some .double))))
    (hd : y.cls = C ∧ y.cls ≠ "java/lang/invoke/MethodHandle" ∧ y.cls ≠ "java/lang/invoke/VarHandle" ∧ (parseMethodDescriptor y.desc).map (fun d => d.parameters.length) = some As.length) (hr0 : rm.cells = 0 ∧ rm.slots = 0) (hR : rm.frames + 1 ≤ R.frames ∧ 8 + (maxL + 11) + rm.locals ≤ R.locals) (q0 : Nat) {ci : Nat} {fs : List Value} {T0 : u_T} {N0 : Nat} (hrc : ws[q0]? = some (b, .inr (ci, fs))) (hcl : vwCl[ci]? = some (C, T0, N0)) (hst : st = As.reverse ++ .ref b :: rest) (hls : ls.size = nL) (hroom : (rest.map fun v => v.category).sum ≤ 8) (hf : cells ≤ R.cells ∧ slots ≤ R.slots) (hdg : decode cc pc = .ok (.invokevirtual index, 3))
    (kk : ∀ (r : UInt64) (H1 : Heap) (locs1 : List Loc) (d1 : Drawn), alike64 r z = true → s.drawn.sameBut d1 lw_cs → va_P D vwCl ws' H1 → va_D A ws' → va_S A H0 H1 locs1 → W p l e R (s.setDrawn d1) m args below meth c H1 locs1 cells slots Q (F0 m (pc + 3) ls (.double r :: rest))) : W p l e R (s.setDrawn d0) m args below meth c H locs cells slots Q (F0 m pc ls st) := by
  subst hst
  have hin : ∀ q, va_in ws q → A q := fun q h => by
    obtain ⟨i, e9, h9⟩ := h
    exact hD.2 i (q, e9) h9
  refine va_calldD hd0 (va_runV_D (As := As) (rest := rest) hC hM (cwV _ hC.2.2.2.2 hG rfl hr0.1 hr0.2 hd hR) ⟨mP_blind, va_recv hE.1 hP hcl hrc, fun U hU hW => ⟨rfl, eK_warm hW hE, by rw [hU]; exact hP, hD.weaken (fun _ _ _ _ => trivial)⟩⟩ rfl rfl hls rfl (lv_room hroom) hdg hf) hS (fun q _ h => hin q h) hin (fun r u t H1 locs1 ht hvm hal hPt hz hk hS1 d1 hd1 => ?_)
  exact kk r H1 locs1 d1 hal hd1 (by rw [← ht]; exact hPt) (vaD_same hD hs) hS1
end LAWD
theorem lt_12 {j : Nat} (h : j < 12) : nI j < 12 := Int32.not_le.mp (nI_ge (b := 12) h (by decide))
noncomputable def atG (T : HS) (i : Nat) : Nat → Int32 := fun j => nI (ct (fun b => j < 6 ∧ T 1 b = nI j) i)
noncomputable def fiG (G : HS) (i : Nat) : Nat → Int32 := fun j => nI (ct (fun b => j < 3 ∧ G 7 b = nI j) i)
theorem atG_0 (T : HS) : atG T 0 = fun _ => 0 := rfl
theorem fiG_0 (G : HS) : fiG G 0 = fun _ => 0 := rfl
theorem atG_s {T : HS} {i w : Nat} (e : T 1 i = nI w) (hw : w < 6) : atG T (i + 1) = upd (atG T i) w ((atG T i) w + 1) := by
  funext j
  simp only [atG, upd]
  by_cases h : j = w
  · subst h
    rw [if_pos rfl, ct_t (p := fun b => j < 6 ∧ T 1 b = nI j) ⟨hw, e⟩, nI_1]
  · rw [if_neg h, ct_f (p := fun b => j < 6 ∧ T 1 b = nI j) (fun z => h (nI_inj (by omega) (by omega) (z.2.symm.trans e)))]
theorem fiG_s {G : HS} {i w : Nat} (e : G 7 i = nI w) (hw : w < 3) : fiG G (i + 1) = upd (fiG G i) w ((fiG G i) w + 1) := by
  funext j
  simp only [fiG, upd]
  by_cases h : j = w
  · subst h
    rw [if_pos rfl, ct_t (p := fun b => j < 3 ∧ G 7 b = nI j) ⟨hw, e⟩, nI_1]
  · rw [if_neg h, ct_f (p := fun b => j < 3 ∧ G 7 b = nI j) (fun z => h (nI_inj (by omega) (by omega) (z.2.symm.trans e)))]
theorem atG_c {T : HS} {n j : Nat} (hj : j < 6) : (atG T n) j = nI (mCnt T (nI j) n) := congrArg nI (ct_cong (fun b _ => ⟨fun z => z.2, fun z => ⟨hj, z⟩⟩))
theorem fiG_c {G : HS} {n j : Nat} (hj : j < 3) : (fiG G n) j = nI (mFil G (nI j) n) := congrArg nI (ct_cong (fun b _ => ⟨fun z => z.2, fun z => ⟨hj, z⟩⟩))

set_option maxHeartbeats 1000000 in
set_option maxRecDepth 100000 in
theorem same_all {p : Program} {l : Launch} {e : Env} {s : State} {m : MethodId} {args : Array Value} {below : List Frame} {meth : Method} {c : Code} {D : va_G} {k : Nat → ClassId} {A : Nat → Prop} {a tr o fa ba : Nat → Nat} {x : Nat} {S U G T : HS} {n nf : Nat} {R : va_W} {ls : Array Slot} {H : Heap} {locs : List Loc} (hC : CallFix p m c cX5_isSame 8 s args lw_all RX5) (hr : meth.sig.returnType = some .boolean) (hlk : meth.locks = false) (hE : eK D k s) (hA : ∀ q : Nat, s.heap.size ≤ q → A q) (hra : RA S G n nf) (hrb : RB S T n) (hti : TI T n) (hgi : GI G T n nf) (hl : lv_has ls 8 [(0, .ref (o 0)), (1, .ref x)]) (hP : va_P D vwCl (LW k a tr o fa ba x S U G T n nf (mL T n) R) H) (hD : va_D A (LW k a tr o fa ba x S U G T n nf (mL T n) R)) (hS : va_S A s.heap H locs) : W p l e ({ frames := 8, cells := 2, slots := 9, locals := 142 } : Room) s m args below meth c H locs 0 0 (MQD lw_cs below (va_Qi (fun (r : Int32) (_ : Unit) => r = 1) (fun _ _ => True) A) args s 2 9 A) (F0 m 0 ls []) := by
  have hx := hC.1
  have hb := hC.2.1
  have hown : s.vm.findClass RX5 = some m.cls := hC.2.2.2.1
  have hts := hC.2.2.2.2
  have hn := hra.n40
  have hnf := hra.nf6
  have hLn : mL T n ≤ n := ct_le _ n
  refine lv_bipush (v := 6) hx hb dX5_isSame_0 (by decide) ?_
  refine i_newai (N := 6) hx hb (hts _ tw_49) hE hP hD hS hA (by decide) rfl (Nat.le_of_ble_eq_true rfl) (Nat.le_of_ble_eq_true rfl) (Nat.le_of_ble_eq_true rfl) dX5_isSame_2 (fun q1 H hP hD hS => ?_)
  rw [lw_more] at hP hD
  have hP : va_P D vwCl (LW k a tr o fa ba x S U G T n nf (mL T n) (R ++ [(q1, .inl (k 0, 6, .inl (fun _ => 0)))])) H := hP
  have hD : va_D A (LW k a tr o fa ba x S U G T n nf (mL T n) (R ++ [(q1, .inl (k 0, 6, .inl (fun _ => 0)))])) := hD
  refine lv_astore_n (lv' := [(2, .ref q1), (0, .ref (o 0)), (1, .ref x)]) hx hb dX5_isSame_4 rfl hl (by decide) rfl (fun ls hl => ?_)
  refine lv_iconst (v := 3) hx hb dX5_isSame_5 (by decide) ?_
  refine i_newai (N := 3) hx hb (hts _ tw_49) hE hP hD hS hA (by decide) rfl (Nat.le_of_ble_eq_true rfl) (Nat.le_of_ble_eq_true rfl) (Nat.le_of_ble_eq_true rfl) dX5_isSame_6 (fun q2 H hP hD hS => ?_)
  rw [lw_more, List.append_assoc] at hP hD
  have hP : va_P D vwCl (LW k a tr o fa ba x S U G T n nf (mL T n) (R ++ [(q1, .inl (k 0, 6, .inl (fun _ => 0))), (q2, .inl (k 0, 3, .inl (fun _ => 0)))])) H := hP
  have hD : va_D A (LW k a tr o fa ba x S U G T n nf (mL T n) (R ++ [(q1, .inl (k 0, 6, .inl (fun _ => 0))), (q2, .inl (k 0, 3, .inl (fun _ => 0)))])) := hD
  refine lv_astore_n (lv' := [(3, .ref q2), (2, .ref q1), (0, .ref (o 0)), (1, .ref x)]) hx hb dX5_isSame_8 rfl hl (by decide) rfl (fun ls hl => ?_)
  refine lv_iconst (v := 0) hx hb dX5_isSame_9 (by decide) ?_
  refine lv_istore (lv' := [(4, .int 0), (3, .ref q2), (2, .ref q1), (0, .ref (o 0)), (1, .ref x)]) hx hb dX5_isSame_10 hl (by decide) rfl (fun ls hl => ?_)
  refine lv_iconst (v := 0) hx hb dX5_isSame_12 (by decide) ?_
  refine lv_istore (lv' := [(5, .int 0), (4, .int 0), (3, .ref q2), (2, .ref q1), (0, .ref (o 0)), (1, .ref x)]) hx hb dX5_isSame_13 hl (by decide) rfl (fun ls hl => ?_)
  have hP : va_P D vwCl (LW k a tr o fa ba x S U G T n nf (mL T n) (R ++ [(q1, .inl (k 0, 6, .inl (atG T 0))), (q2, .inl (k 0, 3, .inl (fiG G 0)))])) H := by rw [atG_0, fiG_0]; exact hP
  have hD : va_D A (LW k a tr o fa ba x S U G T n nf (mL T n) (R ++ [(q1, .inl (k 0, 6, .inl (atG T 0))), (q2, .inl (k 0, 3, .inl (fiG G 0)))])) := by rw [atG_0, fiG_0]; exact hD
  refine w_forM (D := D) (A := A) (H0 := s.heap) (nL := 8) (N := n) (fun _ => True) (fun i => [(0, .ref (o 0)), (1, .ref x), (2, .ref q1), (3, .ref q2), (4, .int (sm (T 4) i)), (5, .int (nI i))]) (fun i => (LW k a tr o fa ba x S U G T n nf (mL T n) (R ++ [(q1, .inl (k 0, 6, .inl (atG T i))), (q2, .inl (k 0, 3, .inl (fiG G i)))]))) (fun ls H locs hI hl hP hD hS => ?_) (fun i hi hI ih ls H locs hl hP hD hS => ?_) 0 (Nat.zero_le _) trivial ?_ ?_ ?_ ?_
  · have hl : lv_has ls 8 [(0, .ref (o 0)), (1, .ref x), (2, .ref q1), (3, .ref q2), (4, .int (sm (T 4) n)), (5, .int (nI n))] := hl
    have hP : va_P D vwCl (LW k a tr o fa ba x S U G T n nf (mL T n) (R ++ [(q1, .inl (k 0, 6, .inl (atG T n))), (q2, .inl (k 0, 3, .inl (fiG G n)))])) H := hP
    have hD : va_D A (LW k a tr o fa ba x S U G T n nf (mL T n) (R ++ [(q1, .inl (k 0, 6, .inl (atG T n))), (q2, .inl (k 0, 3, .inl (fiG G n)))])) := hD
    refine lv_iload hx hb dX5_isSame_15 (lv_at hl 5 rfl) ?_
    refine lv_aload_n hx hb dX5_isSame_17 rfl (lv_at hl 0 rfl) ?_
    refine va_get (D := D) (ci := 5) (v := .ref (o 3)) (C := RX5) (T := TX5) (N := 6) hx hb hts tu_5 hown hE.1 hP 59 lw_59 rfl 4 (by decide) (hts _ tw_739) (fun _ h9 => h9) rfl dX5_isSame_18 ?_
    refine k_olen hx hb hE hP 62 lw_62 dX5_isSame_21 ?_
    refine lv_icmp_ge (tgt := 214) hx hb dX5_isSame_22 (by decide) (fun c_1 => ?_) (fun c_ => absurd (nI_le (Nat.le_refl n) (Nat.lt_of_le_of_lt hn (by decide))) c_)
    refine lv_aload_n hx hb dX5_isSame_214 rfl (lv_at hl 1 rfl) ?_
    refine c_pVi (rest := []) hC hE hP (lx_minute l S ) gc_RX5_79 hd_X4_minute ⟨rfl, rfl⟩ ⟨Nat.le_of_ble_eq_true rfl, Nat.le_of_ble_eq_true rfl⟩ 29 lw_29 rfl rfl hl.1 (Nat.le_of_ble_eq_true rfl) ⟨(Nat.le_of_ble_eq_true rfl), (Nat.le_of_ble_eq_true rfl)⟩ dX5_isSame_215 ?_
    refine w_top (show S 0 0 = T 0 0 from hrb.mnt) ?_
    refine lv_aload_n hx hb dX5_isSame_218 rfl (lv_at hl 0 rfl) ?_
    refine va_get (D := D) (ci := 5) (v := .int (T 0 0)) (C := RX5) (T := TX5) (N := 6) hx hb hts tu_5 hown hE.1 hP 59 lw_59 rfl 0 (by decide) (hts _ tw_732) (fun _ h9 => h9) rfl dX5_isSame_219 ?_
    refine lv_icmp_ne (tgt := 310) hx hb dX5_isSame_222 (by decide) (fun c_ => absurd rfl c_) (fun c_2 => ?_)
    refine lv_aload_n hx hb dX5_isSame_225 rfl (lv_at hl 1 rfl) ?_
    refine c_pVi (rest := []) hC hE hP (lx_flights l S ) gc_RX5_81 hd_X4_flights ⟨rfl, rfl⟩ ⟨Nat.le_of_ble_eq_true rfl, Nat.le_of_ble_eq_true rfl⟩ 29 lw_29 rfl rfl hl.1 (Nat.le_of_ble_eq_true rfl) ⟨(Nat.le_of_ble_eq_true rfl), (Nat.le_of_ble_eq_true rfl)⟩ dX5_isSame_226 ?_
    refine w_top (show S 0 3 = nI nf from hra.sf_) ?_
    refine lv_aload_n hx hb dX5_isSame_229 rfl (lv_at hl 0 rfl) ?_
    refine va_get (D := D) (ci := 5) (v := .ref (o 2)) (C := RX5) (T := TX5) (N := 6) hx hb hts tu_5 hown hE.1 hP 59 lw_59 rfl 3 (by decide) (hts _ tw_737) (fun _ h9 => h9) rfl dX5_isSame_230 ?_
    refine k_olen hx hb hE hP 61 lw_61 dX5_isSame_233 ?_
    refine lv_icmp_ne (tgt := 310) hx hb dX5_isSame_234 (by decide) (fun c_ => absurd rfl c_) (fun c_3 => ?_)
    refine lv_aload_n hx hb dX5_isSame_237 rfl (lv_at hl 1 rfl) ?_
    refine c_pVi (rest := []) hC hE hP (lx_bags l S ) gc_RX5_83 hd_X4_bags ⟨rfl, rfl⟩ ⟨Nat.le_of_ble_eq_true rfl, Nat.le_of_ble_eq_true rfl⟩ 29 lw_29 rfl rfl hl.1 (Nat.le_of_ble_eq_true rfl) ⟨(Nat.le_of_ble_eq_true rfl), (Nat.le_of_ble_eq_true rfl)⟩ dX5_isSame_238 ?_
    refine w_top (show S 0 4 = nI n from hra.sn) ?_
    refine lv_aload_n hx hb dX5_isSame_241 rfl (lv_at hl 0 rfl) ?_
    refine va_get (D := D) (ci := 5) (v := .ref (o 3)) (C := RX5) (T := TX5) (N := 6) hx hb hts tu_5 hown hE.1 hP 59 lw_59 rfl 4 (by decide) (hts _ tw_739) (fun _ h9 => h9) rfl dX5_isSame_242 ?_
    refine k_olen hx hb hE hP 62 lw_62 dX5_isSame_245 ?_
    refine lv_icmp_ne (tgt := 310) hx hb dX5_isSame_246 (by decide) (fun c_ => absurd rfl c_) (fun c_4 => ?_)
    refine lv_aload_n hx hb dX5_isSame_249 rfl (lv_at hl 1 rfl) ?_
    refine c_pVi (rest := []) hC hE hP (lx_inLine l S ) gc_RX5_85 hd_X4_inLine ⟨rfl, rfl⟩ ⟨Nat.le_of_ble_eq_true rfl, Nat.le_of_ble_eq_true rfl⟩ 29 lw_29 rfl rfl hl.1 (Nat.le_of_ble_eq_true rfl) ⟨(Nat.le_of_ble_eq_true rfl), (Nat.le_of_ble_eq_true rfl)⟩ dX5_isSame_250 ?_
    refine w_top (show nI (ct (fun j_ => S 6 j_ = 0) 40) = nI (mCnt T 0 n) from congrArg nI (where_ct hrb (by decide))) ?_
    refine lv_aload_n hx hb dX5_isSame_253 rfl (lv_at hl 2 rfl) ?_
    refine lv_iconst (v := 0) hx hb dX5_isSame_254 (by decide) ?_
    refine k_iald (j := 0) hx hb hE hP (64 + nf + n + (R.length + 0)) ((lw_Ri (i := 0)).trans rfl) (by decide) (by decide) dX5_isSame_255 ?_
    refine w_top (show (atG T n) 0 = nI (mCnt T 0 n) from atG_c (j := 0) (by decide)) ?_
    refine lv_icmp_ne (tgt := 310) hx hb dX5_isSame_256 (by decide) (fun c_ => absurd rfl c_) (fun c_5 => ?_)
    refine lv_aload_n hx hb dX5_isSame_259 rfl (lv_at hl 1 rfl) ?_
    refine c_pVi (rest := []) hC hE hP (lx_onBelt l S ) gc_RX5_88 hd_X4_onBelt ⟨rfl, rfl⟩ ⟨Nat.le_of_ble_eq_true rfl, Nat.le_of_ble_eq_true rfl⟩ 29 lw_29 rfl rfl hl.1 (Nat.le_of_ble_eq_true rfl) ⟨(Nat.le_of_ble_eq_true rfl), (Nat.le_of_ble_eq_true rfl)⟩ dX5_isSame_260 ?_
    refine w_top (show nI (ct (fun j_ => S 6 j_ = 1) 40) = nI (mCnt T 1 n) from congrArg nI (where_ct hrb (by decide))) ?_
    refine lv_aload_n hx hb dX5_isSame_263 rfl (lv_at hl 2 rfl) ?_
    refine lv_iconst (v := 1) hx hb dX5_isSame_264 (by decide) ?_
    refine k_iald (j := 1) hx hb hE hP (64 + nf + n + (R.length + 0)) ((lw_Ri (i := 0)).trans rfl) (by decide) (by decide) dX5_isSame_265 ?_
    refine w_top (show (atG T n) 1 = nI (mCnt T 1 n) from atG_c (j := 1) (by decide)) ?_
    refine lv_icmp_ne (tgt := 310) hx hb dX5_isSame_266 (by decide) (fun c_ => absurd rfl c_) (fun c_6 => ?_)
    refine lv_aload_n hx hb dX5_isSame_269 rfl (lv_at hl 1 rfl) ?_
    refine c_pVi (rest := []) hC hE hP (lx_atDesk l S ) gc_RX5_91 hd_X4_atDesk ⟨rfl, rfl⟩ ⟨Nat.le_of_ble_eq_true rfl, Nat.le_of_ble_eq_true rfl⟩ 29 lw_29 rfl rfl hl.1 (Nat.le_of_ble_eq_true rfl) ⟨(Nat.le_of_ble_eq_true rfl), (Nat.le_of_ble_eq_true rfl)⟩ dX5_isSame_270 ?_
    refine w_top (show nI (ct (fun j_ => S 6 j_ = 3) 40) = nI (mCnt T 3 n) from congrArg nI (where_ct hrb (by decide))) ?_
    refine lv_aload_n hx hb dX5_isSame_273 rfl (lv_at hl 2 rfl) ?_
    refine lv_iconst (v := 3) hx hb dX5_isSame_274 (by decide) ?_
    refine k_iald (j := 3) hx hb hE hP (64 + nf + n + (R.length + 0)) ((lw_Ri (i := 0)).trans rfl) (by decide) (by decide) dX5_isSame_275 ?_
    refine w_top (show (atG T n) 3 = nI (mCnt T 3 n) from atG_c (j := 3) (by decide)) ?_
    refine lv_icmp_ne (tgt := 310) hx hb dX5_isSame_276 (by decide) (fun c_ => absurd rfl c_) (fun c_7 => ?_)
    refine lv_aload_n hx hb dX5_isSame_279 rfl (lv_at hl 1 rfl) ?_
    refine c_pVi (rest := []) hC hE hP (lx_openFiles l S ) gc_RX5_94 hd_X4_openFiles ⟨rfl, rfl⟩ ⟨Nat.le_of_ble_eq_true rfl, Nat.le_of_ble_eq_true rfl⟩ 29 lw_29 rfl rfl hl.1 (Nat.le_of_ble_eq_true rfl) ⟨(Nat.le_of_ble_eq_true rfl), (Nat.le_of_ble_eq_true rfl)⟩ dX5_isSame_280 ?_
    refine w_top (show nI (ct (fun j_ => S 10 j_ = 1) 40) = nI (mFil G 1 n) from congrArg nI (file_ct hra (by decide))) ?_
    refine lv_aload_n hx hb dX5_isSame_283 rfl (lv_at hl 3 rfl) ?_
    refine lv_iconst (v := 1) hx hb dX5_isSame_284 (by decide) ?_
    refine k_iald (j := 1) hx hb hE hP (64 + nf + n + (R.length + 1)) ((lw_Ri (i := 1)).trans rfl) (by decide) (by decide) dX5_isSame_285 ?_
    refine w_top (show (fiG G n) 1 = nI (mFil G 1 n) from fiG_c (j := 1) (by decide)) ?_
    refine lv_icmp_ne (tgt := 310) hx hb dX5_isSame_286 (by decide) (fun c_ => absurd rfl c_) (fun c_8 => ?_)
    refine lv_aload_n hx hb dX5_isSame_289 rfl (lv_at hl 1 rfl) ?_
    refine c_pVi (rest := []) hC hE hP (lx_closedFiles l S ) gc_RX5_97 hd_X4_closedFiles ⟨rfl, rfl⟩ ⟨Nat.le_of_ble_eq_true rfl, Nat.le_of_ble_eq_true rfl⟩ 29 lw_29 rfl rfl hl.1 (Nat.le_of_ble_eq_true rfl) ⟨(Nat.le_of_ble_eq_true rfl), (Nat.le_of_ble_eq_true rfl)⟩ dX5_isSame_290 ?_
    refine w_top (show nI (ct (fun j_ => S 10 j_ = 2) 40) = nI (mFil G 2 n) from congrArg nI (file_ct hra (by decide))) ?_
    refine lv_aload_n hx hb dX5_isSame_293 rfl (lv_at hl 3 rfl) ?_
    refine lv_iconst (v := 2) hx hb dX5_isSame_294 (by decide) ?_
    refine k_iald (j := 2) hx hb hE hP (64 + nf + n + (R.length + 1)) ((lw_Ri (i := 1)).trans rfl) (by decide) (by decide) dX5_isSame_295 ?_
    refine w_top (show (fiG G n) 2 = nI (mFil G 2 n) from fiG_c (j := 2) (by decide)) ?_
    refine lv_icmp_ne (tgt := 310) hx hb dX5_isSame_296 (by decide) (fun c_ => absurd rfl c_) (fun c_9 => ?_)
    refine lv_aload_n hx hb dX5_isSame_299 rfl (lv_at hl 1 rfl) ?_
    refine c_pVi (rest := []) hC hE hP (lx_reader l S ) gc_RX5_100 hd_X4_reader ⟨rfl, rfl⟩ ⟨Nat.le_of_ble_eq_true rfl, Nat.le_of_ble_eq_true rfl⟩ 29 lw_29 rfl rfl hl.1 (Nat.le_of_ble_eq_true rfl) ⟨(Nat.le_of_ble_eq_true rfl), (Nat.le_of_ble_eq_true rfl)⟩ dX5_isSame_300 ?_
    refine w_top (show S 0 1 = G 0 2 from hra.str) ?_
    refine lv_aload_n hx hb dX5_isSame_303 rfl (lv_at hl 0 rfl) ?_
    refine va_get (D := D) (ci := 5) (v := .int (G 0 2)) (C := RX5) (T := TX5) (N := 6) hx hb hts tu_5 hown hE.1 hP 59 lw_59 rfl 1 (by decide) (hts _ tw_733) (fun _ h9 => h9) rfl dX5_isSame_304 ?_
    refine lv_icmp_eq (tgt := 312) hx hb dX5_isSame_307 (by decide) (fun c_10 => ?_) (fun c_ => absurd rfl c_)
    refine lv_iconst (v := 0) hx hb dX5_isSame_312 (by decide) ?_
    refine lv_istore (lv' := [(5, .int 0), (0, .ref (o 0)), (1, .ref x), (2, .ref q1), (3, .ref q2), (4, .int (sm (T 4) n))]) hx hb dX5_isSame_313 hl (by decide) rfl (fun ls hl => ?_)
    refine w_for (N := 12) (fun _ => True) (fun i => [(0, .ref (o 0)), (1, .ref x), (2, .ref q1), (3, .ref q2), (4, .int (sm (T 4) n)), (5, .int (nI i))]) (fun ls hI hl => ?_) (fun i hi hI ih ls hl => ?_) 0 (Nat.zero_le _) trivial (lv_sub hl [1, 2, 3, 4, 5, 0] rfl)
    · have hl : lv_has ls 8 [(0, .ref (o 0)), (1, .ref x), (2, .ref q1), (3, .ref q2), (4, .int (sm (T 4) n)), (5, .int (nI 12))] := hl
      refine lv_iload hx hb dX5_isSame_315 (lv_at hl 5 rfl) ?_
      refine lv_bipush (v := 12) hx hb dX5_isSame_317 (by decide) ?_
      refine lv_icmp_ge (tgt := 345) hx hb dX5_isSame_319 (by decide) (fun c_11 => ?_) (fun c_ => absurd (nI_le (a := 12) (b := 12) (Nat.le_refl 12) (by decide)) c_)
      refine lv_iconst (v := 0) hx hb dX5_isSame_345 (by decide) ?_
      refine lv_istore (lv' := [(5, .int 0), (0, .ref (o 0)), (1, .ref x), (2, .ref q1), (3, .ref q2), (4, .int (sm (T 4) n))]) hx hb dX5_isSame_346 hl (by decide) rfl (fun ls hl => ?_)
      refine w_for (N := 4) (fun _ => True) (fun ci => [(0, .ref (o 0)), (1, .ref x), (2, .ref q1), (3, .ref q2), (4, .int (sm (T 4) n)), (5, .int (nI ci))]) (fun ls hI hl => ?_) (fun ci hci hI ih ls hl => ?_) 0 (Nat.zero_le _) trivial (lv_sub hl [1, 2, 3, 4, 5, 0] rfl)
      · have hl : lv_has ls 8 [(0, .ref (o 0)), (1, .ref x), (2, .ref q1), (3, .ref q2), (4, .int (sm (T 4) n)), (5, .int (nI 4))] := hl
        refine lv_iload hx hb dX5_isSame_348 (lv_at hl 5 rfl) ?_
        refine lv_iconst (v := 4) hx hb dX5_isSame_350 (by decide) ?_
        refine lv_icmp_ge (tgt := 459) hx hb dX5_isSame_351 (by decide) (fun c_12 => ?_) (fun c_ => absurd (nI_le (a := 4) (b := 4) (Nat.le_refl 4) (by decide)) c_)
        refine lv_iconst (v := 0) hx hb dX5_isSame_459 (by decide) ?_
        refine lv_istore (lv' := [(5, .int 0), (0, .ref (o 0)), (1, .ref x), (2, .ref q1), (3, .ref q2), (4, .int (sm (T 4) n))]) hx hb dX5_isSame_460 hl (by decide) rfl (fun ls hl => ?_)
        refine w_for (N := nf) (fun _ => True) (fun i => [(0, .ref (o 0)), (1, .ref x), (2, .ref q1), (3, .ref q2), (4, .int (sm (T 4) n)), (5, .int (nI i))]) (fun ls hI hl => ?_) (fun i hi hI ih ls hl => ?_) 0 (Nat.zero_le _) trivial (lv_sub hl [1, 2, 3, 4, 5, 0] rfl)
        · have hl : lv_has ls 8 [(0, .ref (o 0)), (1, .ref x), (2, .ref q1), (3, .ref q2), (4, .int (sm (T 4) n)), (5, .int (nI nf))] := hl
          refine lv_iload hx hb dX5_isSame_462 (lv_at hl 5 rfl) ?_
          refine lv_aload_n hx hb dX5_isSame_464 rfl (lv_at hl 0 rfl) ?_
          refine va_get (D := D) (ci := 5) (v := .ref (o 2)) (C := RX5) (T := TX5) (N := 6) hx hb hts tu_5 hown hE.1 hP 59 lw_59 rfl 3 (by decide) (hts _ tw_737) (fun _ h9 => h9) rfl dX5_isSame_465 ?_
          refine k_olen hx hb hE hP 61 lw_61 dX5_isSame_468 ?_
          refine lv_icmp_ge (tgt := 562) hx hb dX5_isSame_469 (by decide) (fun c_13 => ?_) (fun c_ => absurd (nI_le (Nat.le_refl nf) (Nat.lt_of_le_of_lt hnf (by decide))) c_)
          refine lv_aload_n hx hb dX5_isSame_562 rfl (lv_at hl 1 rfl) ?_
          refine W.base ?_
          refine c_dV (rest := []) (Drawn.sameBut.refl s.drawn lw_cs) hC hE hP hD hS rfl (lx_meanMisses l S) gc_RX5_133 hd_X4_meanMisses ⟨rfl, rfl⟩ ⟨Nat.le_of_ble_eq_true rfl, Nat.le_of_ble_eq_true rfl⟩ 29 lw_29 rfl rfl hl.1 (Nat.le_of_ble_eq_true rfl) ⟨Nat.le_of_ble_eq_true rfl, Nat.le_of_ble_eq_true rfl⟩ dX5_isSame_563 (fun r H locs d1 hr1 hd1 hP hD hS => ?_)
          rw [mean_eq hra hrb] at hr1
          have hE1 := eK_drawn hE d1
          have hts1 := dr_words hts d1
          refine lv_aload_n hx hb dX5_isSame_566 rfl (lv_at hl 0 rfl) ?_
          refine va_get (D := D) (ci := 5) (v := .ref (o 3)) (C := RX5) (T := TX5) (N := 6) hx hb hts1 tu_5 hown hE1.1 hP 59 lw_59 rfl 4 (by decide) (hts1 _ tw_739) (fun _ h9 => h9) rfl dX5_isSame_567 ?_
          refine k_olen hx hb hE1 hP 62 lw_62 dX5_isSame_570 ?_
          by_cases z1 : n = 0
          · have er : r = FP.dconst0 := alike_is (by unfold mMean at hr1; rw [sel_t (show nI n = 0 by rw [z1]; rfl)] at hr1; exact hr1) dd_0.2
            subst er
            refine lv_if_ne (tgt := 578) hx hb dX5_isSame_571 (by decide) (fun c_ => absurd (show nI n = 0 by rw [z1]; rfl) c_) (fun _ => ?_)
            refine lv_dconst0 hx hb dX5_isSame_574 ?_
            refine lv_goto (tgt := 588) hx hb dX5_isSame_575 (by decide) ?_
            refine lv_dcmp hx hb dX5_isSame_588 ?_
            refine lv_if_ne (tgt := 596) hx hb dX5_isSame_589 (by decide) (fun c_ => absurd dd_0.1 c_) (fun _ => ?_)
            refine lv_iconst (v := 1) hx hb dX5_isSame_592 (by decide) ?_
            refine lv_goto (tgt := 597) hx hb dX5_isSame_593 (by decide) ?_
            refine W.widen (k := 2) (n := 9) (Nat.le_of_ble_eq_true rfl) (Nat.le_of_ble_eq_true rfl) ?_
            exact W.endD hd1 (W.zret hx hb hr rfl (fun t9 ht hW => ⟨⟨1, (), rfl, rfl, trivial⟩, hS.F ht⟩) hS.2.2 dX5_isSame_597)
          · obtain ⟨m1, m2⟩ := mean_num hti.ms hn z1
            have er : r = FP.ddiv (FP.i2d (sm (T 4) n)) (FP.i2d (nI n)) := alike_is (by unfold mMean at hr1; rw [sel_f (show ¬ nI n = 0 from fun z => z1 (nI_inj (b := 0) (by omega) (by decide) z))] at hr1; exact hr1) m2
            refine lv_if_ne (tgt := 578) hx hb dX5_isSame_571 (by decide) (fun _ => ?_) (fun c_ => absurd (nI_inj (b := 0) (by omega) (by decide) c_) z1)
            refine lv_iload hx hb dX5_isSame_578 (lv_at hl 4 rfl) ?_
            refine lv_i2d hx hb dX5_isSame_580 ?_
            refine lv_aload_n hx hb dX5_isSame_581 rfl (lv_at hl 0 rfl) ?_
            refine va_get (D := D) (ci := 5) (v := .ref (o 3)) (C := RX5) (T := TX5) (N := 6) hx hb hts1 tu_5 hown hE1.1 hP 59 lw_59 rfl 4 (by decide) (hts1 _ tw_739) (fun _ h9 => h9) rfl dX5_isSame_582 ?_
            refine k_olen hx hb hE1 hP 62 lw_62 dX5_isSame_585 ?_
            refine lv_i2d hx hb dX5_isSame_586 ?_
            refine lv_ddiv_any hd1 lw_bits hx hb dX5_isSame_587 (fun r2 d2 hal hd2 => ?_)
            have er2 : r2 = FP.ddiv (FP.i2d (sm (T 4) n)) (FP.i2d (nI n)) := alike_is hal m2
            subst er
            subst er2
            refine lv_dcmp hx hb dX5_isSame_588 ?_
            refine lv_if_ne (tgt := 596) hx hb dX5_isSame_589 (by decide) (fun c_ => absurd m1 c_) (fun _ => ?_)
            refine lv_iconst (v := 1) hx hb dX5_isSame_592 (by decide) ?_
            refine lv_goto (tgt := 597) hx hb dX5_isSame_593 (by decide) ?_
            refine W.widen (k := 2) (n := 9) (Nat.le_of_ble_eq_true rfl) (Nat.le_of_ble_eq_true rfl) ?_
            exact W.endD hd2 (W.zret hx hb hr rfl (fun t9 ht hW => ⟨⟨1, (), rfl, rfl, trivial⟩, hS.F ht⟩) hS.2.2 dX5_isSame_597)
        · have hl : lv_has ls 8 [(0, .ref (o 0)), (1, .ref x), (2, .ref q1), (3, .ref q2), (4, .int (sm (T 4) n)), (5, .int (nI i))] := hl
          refine lv_iload hx hb dX5_isSame_462 (lv_at hl 5 rfl) ?_
          refine lv_aload_n hx hb dX5_isSame_464 rfl (lv_at hl 0 rfl) ?_
          refine va_get (D := D) (ci := 5) (v := .ref (o 2)) (C := RX5) (T := TX5) (N := 6) hx hb hts tu_5 hown hE.1 hP 59 lw_59 rfl 3 (by decide) (hts _ tw_737) (fun _ h9 => h9) rfl dX5_isSame_465 ?_
          refine k_olen hx hb hE hP 61 lw_61 dX5_isSame_468 ?_
          refine lv_icmp_ge (tgt := 562) hx hb dX5_isSame_469 (by decide) (fun c_ => absurd c_ (nI_ge hi (Nat.lt_of_le_of_lt hnf (by decide)))) (fun c_14 => ?_)
          refine lv_aload_n hx hb dX5_isSame_472 rfl (lv_at hl 1 rfl) ?_
          refine lv_iload hx hb dX5_isSame_473 (lv_at hl 5 rfl) ?_
          refine c_pVi (rest := []) hC hE hP (lx_chuteOfFlight l S (nI i) (xflt_n hra hi)) gc_RX5_115 hd_X4_chuteOfFlight ⟨rfl, rfl⟩ ⟨Nat.le_of_ble_eq_true rfl, Nat.le_of_ble_eq_true rfl⟩ 29 lw_29 rfl rfl hl.1 (Nat.le_of_ble_eq_true rfl) ⟨(Nat.le_of_ble_eq_true rfl), (Nat.le_of_ble_eq_true rfl)⟩ dX5_isSame_475 ?_
          refine w_top (show rd 6 (S 1) (nI i) = G 1 i from (rd_6 (Nat.lt_of_lt_of_le hi hnf)).trans (hra.chu i (Nat.lt_of_lt_of_le hi hnf))) ?_
          refine lv_aload_n hx hb dX5_isSame_478 rfl (lv_at hl 0 rfl) ?_
          refine va_get (D := D) (ci := 5) (v := .ref (o 2)) (C := RX5) (T := TX5) (N := 6) hx hb hts tu_5 hown hE.1 hP 59 lw_59 rfl 3 (by decide) (hts _ tw_737) (fun _ h9 => h9) rfl dX5_isSame_479 ?_
          refine lv_iload hx hb dX5_isSame_482 (lv_at hl 5 rfl) ?_
          refine k_aald (j := i) hx hb hE hP 61 lw_61 hi (Nat.lt_of_le_of_lt hnf (by decide)) dX5_isSame_484 ?_
          refine lv_iconst (v := 0) hx hb dX5_isSame_485 (by decide) ?_
          refine k_iald (j := 0) hx hb hE hP (64 + i) (lw_f hi) (by decide) (by decide) dX5_isSame_486 ?_
          refine w_top (show flR G i 0 = G 1 i from rfl) ?_
          refine lv_icmp_ne (tgt := 554) hx hb dX5_isSame_487 (by decide) (fun c_ => absurd rfl c_) (fun c_15 => ?_)
          refine lv_aload_n hx hb dX5_isSame_490 rfl (lv_at hl 1 rfl) ?_
          refine lv_iload hx hb dX5_isSame_491 (lv_at hl 5 rfl) ?_
          refine c_pVi (rest := []) hC hE hP (lx_isGone l S (nI i) (xflt_n hra hi)) gc_RX5_118 hd_X4_isGone ⟨rfl, rfl⟩ ⟨Nat.le_of_ble_eq_true rfl, Nat.le_of_ble_eq_true rfl⟩ 29 lw_29 rfl rfl hl.1 (Nat.le_of_ble_eq_true rfl) ⟨(Nat.le_of_ble_eq_true rfl), (Nat.le_of_ble_eq_true rfl)⟩ dX5_isSame_493 ?_
          refine w_top (show bI (xGone S (nI i)) = bI (G 2 i = 1) from bI_cong (by show rd 6 (S 2) (nI i) = 1 ↔ _; rw [rd_6 (Nat.lt_of_lt_of_le hi hnf), hra.gon i (Nat.lt_of_lt_of_le hi hnf)])) ?_
          refine lv_aload_n hx hb dX5_isSame_496 rfl (lv_at hl 0 rfl) ?_
          refine va_get (D := D) (ci := 5) (v := .ref (o 2)) (C := RX5) (T := TX5) (N := 6) hx hb hts tu_5 hown hE.1 hP 59 lw_59 rfl 3 (by decide) (hts _ tw_737) (fun _ h9 => h9) rfl dX5_isSame_497 ?_
          refine lv_iload hx hb dX5_isSame_500 (lv_at hl 5 rfl) ?_
          refine k_aald (j := i) hx hb hE hP 61 lw_61 hi (Nat.lt_of_le_of_lt hnf (by decide)) dX5_isSame_502 ?_
          refine lv_iconst (v := 1) hx hb dX5_isSame_503 (by decide) ?_
          refine k_iald (j := 1) hx hb hE hP (64 + i) (lw_f hi) (by decide) (by decide) dX5_isSame_504 ?_
          refine w_top (show flR G i 1 = G 2 i from rfl) ?_
          refine lv_iconst (v := 1) hx hb dX5_isSame_505 (by decide) ?_
          refine lv_icmp_ne (tgt := 513) hx hb dX5_isSame_506 (by decide) (fun c_16 => ?_) (fun c_16 => ?_)
          · refine lv_iconst (v := 0) hx hb dX5_isSame_513 (by decide) ?_
            refine lv_icmp_ne (tgt := 554) hx hb dX5_isSame_514 (by decide) (fun c_ => absurd (bI_f c_16) c_) (fun c_17 => ?_)
            refine lv_aload_n hx hb dX5_isSame_517 rfl (lv_at hl 1 rfl) ?_
            refine lv_iload hx hb dX5_isSame_518 (lv_at hl 5 rfl) ?_
            refine c_pVi (rest := []) hC hE hP (lx_readyOf l S (nI i) n hra.sn hn (xflt_n hra hi)) gc_RX5_121 hd_X4_readyOf ⟨rfl, rfl⟩ ⟨Nat.le_of_ble_eq_true rfl, Nat.le_of_ble_eq_true rfl⟩ 29 lw_29 rfl rfl hl.1 (Nat.le_of_ble_eq_true rfl) ⟨(Nat.le_of_ble_eq_true rfl), (Nat.le_of_ble_eq_true rfl)⟩ dX5_isSame_520 ?_
            refine w_top (show nI (xRdyN S (nI i) n) = nI (mRdyN G T i n) from congrArg nI (rdy_ct hra hrb hi)) ?_
            refine lv_aload_n hx hb dX5_isSame_523 rfl (lv_at hl 0 rfl) ?_
            refine lv_iload hx hb dX5_isSame_524 (lv_at hl 5 rfl) ?_
            refine c_pVi (rest := [.int (nI (mRdyN G T i n))]) hC hE hP (metX5_ready l G T hn hnf i hi) gc_RX5_124 hd_X5_ready ⟨rfl, rfl⟩ ⟨Nat.le_of_ble_eq_true rfl, Nat.le_of_ble_eq_true rfl⟩ 59 lw_59 rfl rfl hl.1 (Nat.le_of_ble_eq_true rfl) ⟨(Nat.le_of_ble_eq_true rfl), (Nat.le_of_ble_eq_true rfl)⟩ dX5_isSame_526 ?_
            refine lv_icmp_ne (tgt := 554) hx hb dX5_isSame_529 (by decide) (fun c_ => absurd rfl c_) (fun c_18 => ?_)
            refine lv_aload_n hx hb dX5_isSame_532 rfl (lv_at hl 1 rfl) ?_
            refine lv_iload hx hb dX5_isSame_533 (lv_at hl 5 rfl) ?_
            refine c_pVi (rest := []) hC hE hP (lx_missingOf l S (nI i) n hra.sn hn (xflt_n hra hi)) gc_RX5_127 hd_X4_missingOf ⟨rfl, rfl⟩ ⟨Nat.le_of_ble_eq_true rfl, Nat.le_of_ble_eq_true rfl⟩ 29 lw_29 rfl rfl hl.1 (Nat.le_of_ble_eq_true rfl) ⟨(Nat.le_of_ble_eq_true rfl), (Nat.le_of_ble_eq_true rfl)⟩ dX5_isSame_535 ?_
            refine w_top (show nI (ct (fun j_ => S 3 j_ = nI i) 40) - nI (xRdyN S (nI i) n) = mMissing G T i n from by rw [rdy_ct hra hrb hi, of_ct hra hi]; rfl) ?_
            refine lv_aload_n hx hb dX5_isSame_538 rfl (lv_at hl 0 rfl) ?_
            refine lv_iload hx hb dX5_isSame_539 (lv_at hl 5 rfl) ?_
            refine c_pVi (rest := [.int (mMissing G T i n)]) hC hE hP (metX5_of l G T hn hnf i) gc_RX5_130 hd_X5_of ⟨rfl, rfl⟩ ⟨Nat.le_of_ble_eq_true rfl, Nat.le_of_ble_eq_true rfl⟩ 59 lw_59 rfl rfl hl.1 (Nat.le_of_ble_eq_true rfl) ⟨(Nat.le_of_ble_eq_true rfl), (Nat.le_of_ble_eq_true rfl)⟩ dX5_isSame_541 ?_
            refine lv_aload_n hx hb dX5_isSame_544 rfl (lv_at hl 0 rfl) ?_
            refine lv_iload hx hb dX5_isSame_545 (lv_at hl 5 rfl) ?_
            refine c_pVi (rest := [.int (nI (mOf G (nI i) n)), .int (mMissing G T i n)]) hC hE hP (metX5_ready l G T hn hnf i hi) gc_RX5_124 hd_X5_ready ⟨rfl, rfl⟩ ⟨Nat.le_of_ble_eq_true rfl, Nat.le_of_ble_eq_true rfl⟩ 59 lw_59 rfl rfl hl.1 (Nat.le_of_ble_eq_true rfl) ⟨(Nat.le_of_ble_eq_true rfl), (Nat.le_of_ble_eq_true rfl)⟩ dX5_isSame_547 ?_
            refine lv_isub hx hb dX5_isSame_550 ?_
            refine w_top (show (nI (mOf G (nI i) n)) - (nI (mRdyN G T i n)) = mMissing G T i n from rfl) ?_
            refine lv_icmp_eq (tgt := 556) hx hb dX5_isSame_551 (by decide) (fun c_19 => ?_) (fun c_ => absurd rfl c_)
            refine lv_iinc (v := nI (i + 1)) (lv' := [(5, .int (nI (i + 1))), (0, .ref (o 0)), (1, .ref x), (2, .ref q1), (3, .ref q2), (4, .int (sm (T 4) n))]) hx hb dX5_isSame_556 hl (k := 5) rfl (iinc1 _) (by decide) rfl (fun ls hl => ?_)
            refine lv_goto (tgt := 462) hx hb dX5_isSame_559 (by decide) ?_
            exact ih ls trivial (lv_sub hl [1, 2, 3, 4, 5, 0] rfl)
          · refine lv_iconst (v := 1) hx hb dX5_isSame_509 (by decide) ?_
            refine lv_goto (tgt := 514) hx hb dX5_isSame_510 (by decide) ?_
            refine lv_icmp_ne (tgt := 554) hx hb dX5_isSame_514 (by decide) (fun c_ => absurd (bI_t c_16) c_) (fun c_20 => ?_)
            refine lv_aload_n hx hb dX5_isSame_517 rfl (lv_at hl 1 rfl) ?_
            refine lv_iload hx hb dX5_isSame_518 (lv_at hl 5 rfl) ?_
            refine c_pVi (rest := []) hC hE hP (lx_readyOf l S (nI i) n hra.sn hn (xflt_n hra hi)) gc_RX5_121 hd_X4_readyOf ⟨rfl, rfl⟩ ⟨Nat.le_of_ble_eq_true rfl, Nat.le_of_ble_eq_true rfl⟩ 29 lw_29 rfl rfl hl.1 (Nat.le_of_ble_eq_true rfl) ⟨(Nat.le_of_ble_eq_true rfl), (Nat.le_of_ble_eq_true rfl)⟩ dX5_isSame_520 ?_
            refine w_top (show nI (xRdyN S (nI i) n) = nI (mRdyN G T i n) from congrArg nI (rdy_ct hra hrb hi)) ?_
            refine lv_aload_n hx hb dX5_isSame_523 rfl (lv_at hl 0 rfl) ?_
            refine lv_iload hx hb dX5_isSame_524 (lv_at hl 5 rfl) ?_
            refine c_pVi (rest := [.int (nI (mRdyN G T i n))]) hC hE hP (metX5_ready l G T hn hnf i hi) gc_RX5_124 hd_X5_ready ⟨rfl, rfl⟩ ⟨Nat.le_of_ble_eq_true rfl, Nat.le_of_ble_eq_true rfl⟩ 59 lw_59 rfl rfl hl.1 (Nat.le_of_ble_eq_true rfl) ⟨(Nat.le_of_ble_eq_true rfl), (Nat.le_of_ble_eq_true rfl)⟩ dX5_isSame_526 ?_
            refine lv_icmp_ne (tgt := 554) hx hb dX5_isSame_529 (by decide) (fun c_ => absurd rfl c_) (fun c_21 => ?_)
            refine lv_aload_n hx hb dX5_isSame_532 rfl (lv_at hl 1 rfl) ?_
            refine lv_iload hx hb dX5_isSame_533 (lv_at hl 5 rfl) ?_
            refine c_pVi (rest := []) hC hE hP (lx_missingOf l S (nI i) n hra.sn hn (xflt_n hra hi)) gc_RX5_127 hd_X4_missingOf ⟨rfl, rfl⟩ ⟨Nat.le_of_ble_eq_true rfl, Nat.le_of_ble_eq_true rfl⟩ 29 lw_29 rfl rfl hl.1 (Nat.le_of_ble_eq_true rfl) ⟨(Nat.le_of_ble_eq_true rfl), (Nat.le_of_ble_eq_true rfl)⟩ dX5_isSame_535 ?_
            refine w_top (show nI (ct (fun j_ => S 3 j_ = nI i) 40) - nI (xRdyN S (nI i) n) = mMissing G T i n from by rw [rdy_ct hra hrb hi, of_ct hra hi]; rfl) ?_
            refine lv_aload_n hx hb dX5_isSame_538 rfl (lv_at hl 0 rfl) ?_
            refine lv_iload hx hb dX5_isSame_539 (lv_at hl 5 rfl) ?_
            refine c_pVi (rest := [.int (mMissing G T i n)]) hC hE hP (metX5_of l G T hn hnf i) gc_RX5_130 hd_X5_of ⟨rfl, rfl⟩ ⟨Nat.le_of_ble_eq_true rfl, Nat.le_of_ble_eq_true rfl⟩ 59 lw_59 rfl rfl hl.1 (Nat.le_of_ble_eq_true rfl) ⟨(Nat.le_of_ble_eq_true rfl), (Nat.le_of_ble_eq_true rfl)⟩ dX5_isSame_541 ?_
            refine lv_aload_n hx hb dX5_isSame_544 rfl (lv_at hl 0 rfl) ?_
            refine lv_iload hx hb dX5_isSame_545 (lv_at hl 5 rfl) ?_
            refine c_pVi (rest := [.int (nI (mOf G (nI i) n)), .int (mMissing G T i n)]) hC hE hP (metX5_ready l G T hn hnf i hi) gc_RX5_124 hd_X5_ready ⟨rfl, rfl⟩ ⟨Nat.le_of_ble_eq_true rfl, Nat.le_of_ble_eq_true rfl⟩ 59 lw_59 rfl rfl hl.1 (Nat.le_of_ble_eq_true rfl) ⟨(Nat.le_of_ble_eq_true rfl), (Nat.le_of_ble_eq_true rfl)⟩ dX5_isSame_547 ?_
            refine lv_isub hx hb dX5_isSame_550 ?_
            refine w_top (show (nI (mOf G (nI i) n)) - (nI (mRdyN G T i n)) = mMissing G T i n from rfl) ?_
            refine lv_icmp_eq (tgt := 556) hx hb dX5_isSame_551 (by decide) (fun c_22 => ?_) (fun c_ => absurd rfl c_)
            refine lv_iinc (v := nI (i + 1)) (lv' := [(5, .int (nI (i + 1))), (0, .ref (o 0)), (1, .ref x), (2, .ref q1), (3, .ref q2), (4, .int (sm (T 4) n))]) hx hb dX5_isSame_556 hl (k := 5) rfl (iinc1 _) (by decide) rfl (fun ls hl => ?_)
            refine lv_goto (tgt := 462) hx hb dX5_isSame_559 (by decide) ?_
            exact ih ls trivial (lv_sub hl [1, 2, 3, 4, 5, 0] rfl)
      · have hl : lv_has ls 8 [(0, .ref (o 0)), (1, .ref x), (2, .ref q1), (3, .ref q2), (4, .int (sm (T 4) n)), (5, .int (nI ci))] := hl
        refine lv_iload hx hb dX5_isSame_348 (lv_at hl 5 rfl) ?_
        refine lv_iconst (v := 4) hx hb dX5_isSame_350 (by decide) ?_
        refine lv_icmp_ge (tgt := 459) hx hb dX5_isSame_351 (by decide) (fun c_ => absurd c_ (nI_ge (b := 4) hci (by decide))) (fun c_23 => ?_)
        refine lv_iconst (v := 0) hx hb dX5_isSame_354 (by decide) ?_
        refine lv_istore (lv' := [(6, .int 0), (0, .ref (o 0)), (1, .ref x), (2, .ref q1), (3, .ref q2), (4, .int (sm (T 4) n)), (5, .int (nI ci))]) hx hb dX5_isSame_355 hl (by decide) rfl (fun ls hl => ?_)
        refine lv_iconst (v := 0) hx hb dX5_isSame_357 (by decide) ?_
        refine lv_istore (lv' := [(7, .int 0), (6, .int 0), (0, .ref (o 0)), (1, .ref x), (2, .ref q1), (3, .ref q2), (4, .int (sm (T 4) n)), (5, .int (nI ci))]) hx hb dX5_isSame_358 hl (by decide) rfl (fun ls hl => ?_)
        refine w_for (N := n) (fun _ => True) (fun i => [(0, .ref (o 0)), (1, .ref x), (2, .ref q1), (3, .ref q2), (4, .int (sm (T 4) n)), (5, .int (nI ci)), (6, .int (nI (ct (fun j => mMis G T j ∧ T 2 j = nI ci) i))), (7, .int (nI i))]) (fun ls hI hl => ?_) (fun i hi hI ih ls hl => ?_) 0 (Nat.zero_le _) trivial (lv_sub hl [2, 3, 4, 5, 6, 7, 1, 0] rfl)
        · have hl : lv_has ls 8 [(0, .ref (o 0)), (1, .ref x), (2, .ref q1), (3, .ref q2), (4, .int (sm (T 4) n)), (5, .int (nI ci)), (6, .int (nI (ct (fun j => mMis G T j ∧ T 2 j = nI ci) n))), (7, .int (nI n))] := hl
          refine lv_iload hx hb dX5_isSame_360 (lv_at hl 7 rfl) ?_
          refine lv_aload_n hx hb dX5_isSame_362 rfl (lv_at hl 0 rfl) ?_
          refine va_get (D := D) (ci := 5) (v := .ref (o 3)) (C := RX5) (T := TX5) (N := 6) hx hb hts tu_5 hown hE.1 hP 59 lw_59 rfl 4 (by decide) (hts _ tw_739) (fun _ h9 => h9) rfl dX5_isSame_363 ?_
          refine k_olen hx hb hE hP 62 lw_62 dX5_isSame_366 ?_
          refine lv_icmp_ge (tgt := 409) hx hb dX5_isSame_367 (by decide) (fun c_24 => ?_) (fun c_ => absurd (nI_le (Nat.le_refl n) (Nat.lt_of_le_of_lt hn (by decide))) c_)
          refine lv_aload_n hx hb dX5_isSame_409 rfl (lv_at hl 1 rfl) ?_
          refine lv_iload hx hb dX5_isSame_410 (lv_at hl 5 rfl) ?_
          refine c_pVi (rest := []) hC hE hP (lx_bagsIn l S (nI ci) (xch_n hci)) gc_RX5_106 hd_X4_bagsIn ⟨rfl, rfl⟩ ⟨Nat.le_of_ble_eq_true rfl, Nat.le_of_ble_eq_true rfl⟩ 29 lw_29 rfl rfl hl.1 (Nat.le_of_ble_eq_true rfl) ⟨(Nat.le_of_ble_eq_true rfl), (Nat.le_of_ble_eq_true rfl)⟩ dX5_isSame_412 ?_
          refine w_top (show nI (ct (fun j_ => S 7 j_ = nI ci) 40) = T 7 ci from in_ct hrb hci) ?_
          refine lv_aload_n hx hb dX5_isSame_415 rfl (lv_at hl 0 rfl) ?_
          refine lv_iload hx hb dX5_isSame_416 (lv_at hl 5 rfl) ?_
          refine c_pVi (rest := [.int (T 7 ci)]) hC hE hP (metX5_in l G T hn hnf (nI ci)) gc_RX5_44 hd_X5_in ⟨rfl, rfl⟩ ⟨Nat.le_of_ble_eq_true rfl, Nat.le_of_ble_eq_true rfl⟩ 59 lw_59 rfl rfl hl.1 (Nat.le_of_ble_eq_true rfl) ⟨(Nat.le_of_ble_eq_true rfl), (Nat.le_of_ble_eq_true rfl)⟩ dX5_isSame_418 ?_
          refine w_top (show nI (inN T (nI ci) n) = T 7 ci from (hrb.inn ci hci).symm) ?_
          refine lv_icmp_ne (tgt := 451) hx hb dX5_isSame_421 (by decide) (fun c_ => absurd rfl c_) (fun c_25 => ?_)
          refine lv_aload_n hx hb dX5_isSame_424 rfl (lv_at hl 1 rfl) ?_
          refine lv_iload hx hb dX5_isSame_425 (lv_at hl 5 rfl) ?_
          refine c_pVi (rest := []) hC hE hP (lx_misroutedIn l S (nI ci) n hra.sn hn (xch_n hci)) gc_RX5_109 hd_X4_misroutedIn ⟨rfl, rfl⟩ ⟨Nat.le_of_ble_eq_true rfl, Nat.le_of_ble_eq_true rfl⟩ 29 lw_29 rfl rfl hl.1 (Nat.le_of_ble_eq_true rfl) ⟨(Nat.le_of_ble_eq_true rfl), (Nat.le_of_ble_eq_true rfl)⟩ dX5_isSame_427 ?_
          refine w_top (show nI (xMisN S (nI ci) n) = nI (mBad G T (nI ci) n) from congrArg nI (mis_ct hra hrb hci)) ?_
          refine w_top (show nI (mBad G T (nI ci) n) = nI (ct (fun j => mMis G T j ∧ T 2 j = nI ci) n) from rfl) ?_
          refine lv_iload hx hb dX5_isSame_430 (lv_at hl 6 rfl) ?_
          refine lv_icmp_ne (tgt := 451) hx hb dX5_isSame_432 (by decide) (fun c_ => absurd rfl c_) (fun c_26 => ?_)
          refine lv_aload_n hx hb dX5_isSame_435 rfl (lv_at hl 1 rfl) ?_
          refine lv_iload hx hb dX5_isSame_436 (lv_at hl 5 rfl) ?_
          refine c_pVi (rest := []) hC hE hP (lx_roomOf l S (nI ci) (xch_n hci)) gc_RX5_112 hd_X4_roomOf ⟨rfl, rfl⟩ ⟨Nat.le_of_ble_eq_true rfl, Nat.le_of_ble_eq_true rfl⟩ 29 lw_29 rfl rfl hl.1 (Nat.le_of_ble_eq_true rfl) ⟨(Nat.le_of_ble_eq_true rfl), (Nat.le_of_ble_eq_true rfl)⟩ dX5_isSame_438 ?_
          refine w_top (show rd 4 (S 11) (nI ci) = G 3 ci from (rd_4 hci).trans (hra.roo ci hci)) ?_
          refine lv_aload_n hx hb dX5_isSame_441 rfl (lv_at hl 0 rfl) ?_
          refine va_get (D := D) (ci := 5) (v := .ref (o 1)) (C := RX5) (T := TX5) (N := 6) hx hb hts tu_5 hown hE.1 hP 59 lw_59 rfl 2 (by decide) (hts _ tw_735) (fun _ h9 => h9) rfl dX5_isSame_442 ?_
          refine lv_iload hx hb dX5_isSame_445 (lv_at hl 5 rfl) ?_
          refine k_iald (j := ci) hx hb hE hP 60 lw_60 hci (by decide) dX5_isSame_447 ?_
          refine lv_icmp_eq (tgt := 453) hx hb dX5_isSame_448 (by decide) (fun c_27 => ?_) (fun c_ => absurd rfl c_)
          refine lv_iinc (v := nI (ci + 1)) (lv' := [(5, .int (nI (ci + 1))), (0, .ref (o 0)), (1, .ref x), (2, .ref q1), (3, .ref q2), (4, .int (sm (T 4) n)), (6, .int (nI (ct (fun j => mMis G T j ∧ T 2 j = nI ci) n))), (7, .int (nI n))]) hx hb dX5_isSame_453 hl (k := 5) rfl (iinc1 _) (by decide) rfl (fun ls hl => ?_)
          refine lv_goto (tgt := 348) hx hb dX5_isSame_456 (by decide) ?_
          exact ih ls trivial (lv_sub hl [1, 2, 3, 4, 5, 0] rfl)
        · have hl : lv_has ls 8 [(0, .ref (o 0)), (1, .ref x), (2, .ref q1), (3, .ref q2), (4, .int (sm (T 4) n)), (5, .int (nI ci)), (6, .int (nI (ct (fun j => mMis G T j ∧ T 2 j = nI ci) i))), (7, .int (nI i))] := hl
          refine lv_iload hx hb dX5_isSame_360 (lv_at hl 7 rfl) ?_
          refine lv_aload_n hx hb dX5_isSame_362 rfl (lv_at hl 0 rfl) ?_
          refine va_get (D := D) (ci := 5) (v := .ref (o 3)) (C := RX5) (T := TX5) (N := 6) hx hb hts tu_5 hown hE.1 hP 59 lw_59 rfl 4 (by decide) (hts _ tw_739) (fun _ h9 => h9) rfl dX5_isSame_363 ?_
          refine k_olen hx hb hE hP 62 lw_62 dX5_isSame_366 ?_
          refine lv_icmp_ge (tgt := 409) hx hb dX5_isSame_367 (by decide) (fun c_ => absurd c_ (nI_ge hi (Nat.lt_of_le_of_lt hn (by decide)))) (fun c_28 => ?_)
          refine lv_iload hx hb dX5_isSame_370 (lv_at hl 6 rfl) ?_
          refine lv_aload_n hx hb dX5_isSame_372 rfl (lv_at hl 0 rfl) ?_
          refine lv_iload hx hb dX5_isSame_373 (lv_at hl 7 rfl) ?_
          obtain ⟨f2, k1, k2, k3, k4, k5⟩ := flight_of hra hi
          refine c_pVi (rest := [.int (nI (ct (fun j => mMis G T j ∧ T 2 j = nI ci) i))]) hC hE hP (metX5_isMisrouted l G T hn hnf i f2 hi k1 k3) gc_RX5_75 hd_X5_isMisrouted ⟨rfl, rfl⟩ ⟨Nat.le_of_ble_eq_true rfl, Nat.le_of_ble_eq_true rfl⟩ 59 lw_59 rfl rfl hl.1 (Nat.le_of_ble_eq_true rfl) ⟨(Nat.le_of_ble_eq_true rfl), (Nat.le_of_ble_eq_true rfl)⟩ dX5_isSame_375 ?_
          refine w_top (show bI (sMis G T f2 i) = bI (mMis G T i) from bI_cong (smis_iff hra k2 k5).symm) ?_
          refine lv_if_eq (tgt := 399) hx hb dX5_isSame_378 (by decide) (fun c_29 => ?_) (fun c_29 => ?_)
          · have c_29 := bI_0 c_29
            refine lv_iconst (v := 0) hx hb dX5_isSame_399 (by decide) ?_
            refine lv_iadd hx hb dX5_isSame_400 ?_
            refine w_top (show (nI (ct (fun j => mMis G T j ∧ T 2 j = nI ci) i)) + 0 = nI (ct (fun j => mMis G T j ∧ T 2 j = nI ci) i) from Int32.add_zero _) ?_
            refine lv_istore (lv' := [(6, .int (nI (ct (fun j => mMis G T j ∧ T 2 j = nI ci) i))), (0, .ref (o 0)), (1, .ref x), (2, .ref q1), (3, .ref q2), (4, .int (sm (T 4) n)), (5, .int (nI ci)), (7, .int (nI i))]) hx hb dX5_isSame_401 hl (by decide) rfl (fun ls hl => ?_)
            refine lv_iinc (v := nI (i + 1)) (lv' := [(7, .int (nI (i + 1))), (6, .int (nI (ct (fun j => mMis G T j ∧ T 2 j = nI ci) i))), (0, .ref (o 0)), (1, .ref x), (2, .ref q1), (3, .ref q2), (4, .int (sm (T 4) n)), (5, .int (nI ci))]) hx hb dX5_isSame_403 hl (k := 7) rfl (iinc1 _) (by decide) rfl (fun ls hl => ?_)
            refine lv_goto (tgt := 360) hx hb dX5_isSame_406 (by decide) ?_
            have e9 : ct (fun j => mMis G T j ∧ T 2 j = nI ci) (i + 1) = ct (fun j => mMis G T j ∧ T 2 j = nI ci) i := ct_f (p := (fun j => mMis G T j ∧ T 2 j = nI ci)) (fun z => c_29 z.1)
            exact ih ls trivial (by show lv_has ls 8 [(0, .ref (o 0)), (1, .ref x), (2, .ref q1), (3, .ref q2), (4, .int (sm (T 4) n)), (5, .int (nI ci)), (6, .int (nI (ct (fun j => mMis G T j ∧ T 2 j = nI ci) (i + 1)))), (7, .int (nI (i + 1)))]; rw [e9]; exact lv_sub hl [2, 3, 4, 5, 6, 7, 1, 0] rfl)
          · have c_29 := bI_n c_29
            refine lv_aload_n hx hb dX5_isSame_381 rfl (lv_at hl 0 rfl) ?_
            refine va_get (D := D) (ci := 5) (v := .ref (o 3)) (C := RX5) (T := TX5) (N := 6) hx hb hts tu_5 hown hE.1 hP 59 lw_59 rfl 4 (by decide) (hts _ tw_739) (fun _ h9 => h9) rfl dX5_isSame_382 ?_
            refine lv_iload hx hb dX5_isSame_385 (lv_at hl 7 rfl) ?_
            refine k_aald (j := i) hx hb hE hP 62 lw_62 hi (Nat.lt_of_le_of_lt hn (by decide)) dX5_isSame_387 ?_
            refine lv_iconst (v := 4) hx hb dX5_isSame_388 (by decide) ?_
            refine k_iald (j := 4) hx hb hE hP (64 + nf + i) (lw_b hi) (by decide) (by decide) dX5_isSame_389 ?_
            refine w_top (show bgR G T i 4 = T 2 i from rfl) ?_
            refine lv_iload hx hb dX5_isSame_390 (lv_at hl 5 rfl) ?_
            refine lv_icmp_ne (tgt := 399) hx hb dX5_isSame_392 (by decide) (fun c_30 => ?_) (fun c_30 => ?_)
            · refine lv_iconst (v := 0) hx hb dX5_isSame_399 (by decide) ?_
              refine lv_iadd hx hb dX5_isSame_400 ?_
              refine w_top (show (nI (ct (fun j => mMis G T j ∧ T 2 j = nI ci) i)) + 0 = nI (ct (fun j => mMis G T j ∧ T 2 j = nI ci) i) from Int32.add_zero _) ?_
              refine lv_istore (lv' := [(6, .int (nI (ct (fun j => mMis G T j ∧ T 2 j = nI ci) i))), (0, .ref (o 0)), (1, .ref x), (2, .ref q1), (3, .ref q2), (4, .int (sm (T 4) n)), (5, .int (nI ci)), (7, .int (nI i))]) hx hb dX5_isSame_401 hl (by decide) rfl (fun ls hl => ?_)
              refine lv_iinc (v := nI (i + 1)) (lv' := [(7, .int (nI (i + 1))), (6, .int (nI (ct (fun j => mMis G T j ∧ T 2 j = nI ci) i))), (0, .ref (o 0)), (1, .ref x), (2, .ref q1), (3, .ref q2), (4, .int (sm (T 4) n)), (5, .int (nI ci))]) hx hb dX5_isSame_403 hl (k := 7) rfl (iinc1 _) (by decide) rfl (fun ls hl => ?_)
              refine lv_goto (tgt := 360) hx hb dX5_isSame_406 (by decide) ?_
              have e9 : ct (fun j => mMis G T j ∧ T 2 j = nI ci) (i + 1) = ct (fun j => mMis G T j ∧ T 2 j = nI ci) i := ct_f (p := (fun j => mMis G T j ∧ T 2 j = nI ci)) (fun z => c_30 z.2)
              exact ih ls trivial (by show lv_has ls 8 [(0, .ref (o 0)), (1, .ref x), (2, .ref q1), (3, .ref q2), (4, .int (sm (T 4) n)), (5, .int (nI ci)), (6, .int (nI (ct (fun j => mMis G T j ∧ T 2 j = nI ci) (i + 1)))), (7, .int (nI (i + 1)))]; rw [e9]; exact lv_sub hl [2, 3, 4, 5, 6, 7, 1, 0] rfl)
            · refine lv_iconst (v := 1) hx hb dX5_isSame_395 (by decide) ?_
              refine lv_goto (tgt := 400) hx hb dX5_isSame_396 (by decide) ?_
              refine lv_iadd hx hb dX5_isSame_400 ?_
              refine w_top (show (nI (ct (fun j => mMis G T j ∧ T 2 j = nI ci) i)) + 1 = nI (ct (fun j => mMis G T j ∧ T 2 j = nI ci) i + 1) from nI_1 _) ?_
              refine lv_istore (lv' := [(6, .int (nI (ct (fun j => mMis G T j ∧ T 2 j = nI ci) i + 1))), (0, .ref (o 0)), (1, .ref x), (2, .ref q1), (3, .ref q2), (4, .int (sm (T 4) n)), (5, .int (nI ci)), (7, .int (nI i))]) hx hb dX5_isSame_401 hl (by decide) rfl (fun ls hl => ?_)
              refine lv_iinc (v := nI (i + 1)) (lv' := [(7, .int (nI (i + 1))), (6, .int (nI (ct (fun j => mMis G T j ∧ T 2 j = nI ci) i + 1))), (0, .ref (o 0)), (1, .ref x), (2, .ref q1), (3, .ref q2), (4, .int (sm (T 4) n)), (5, .int (nI ci))]) hx hb dX5_isSame_403 hl (k := 7) rfl (iinc1 _) (by decide) rfl (fun ls hl => ?_)
              refine lv_goto (tgt := 360) hx hb dX5_isSame_406 (by decide) ?_
              have e9 : ct (fun j => mMis G T j ∧ T 2 j = nI ci) (i + 1) = ct (fun j => mMis G T j ∧ T 2 j = nI ci) i + 1 := ct_t (p := (fun j => mMis G T j ∧ T 2 j = nI ci)) ⟨c_29, c_30⟩
              exact ih ls trivial (by show lv_has ls 8 [(0, .ref (o 0)), (1, .ref x), (2, .ref q1), (3, .ref q2), (4, .int (sm (T 4) n)), (5, .int (nI ci)), (6, .int (nI (ct (fun j => mMis G T j ∧ T 2 j = nI ci) (i + 1)))), (7, .int (nI (i + 1)))]; rw [e9]; exact lv_sub hl [2, 3, 4, 5, 6, 7, 1, 0] rfl)
    · have hl : lv_has ls 8 [(0, .ref (o 0)), (1, .ref x), (2, .ref q1), (3, .ref q2), (4, .int (sm (T 4) n)), (5, .int (nI i))] := hl
      refine lv_iload hx hb dX5_isSame_315 (lv_at hl 5 rfl) ?_
      refine lv_bipush (v := 12) hx hb dX5_isSame_317 (by decide) ?_
      refine lv_icmp_ge (tgt := 345) hx hb dX5_isSame_319 (by decide) (fun c_ => absurd c_ (nI_ge (b := 12) hi (by decide))) (fun c_31 => ?_)
      refine lv_aload_n hx hb dX5_isSame_322 rfl (lv_at hl 1 rfl) ?_
      refine lv_iload hx hb dX5_isSame_323 (lv_at hl 5 rfl) ?_
      refine c_pVi (rest := []) hC hE hP (lx_bagAt l S (nI i) ⟨nI_pos (by omega), lt_12 hi⟩) gc_RX5_103 hd_X4_bagAt ⟨rfl, rfl⟩ ⟨Nat.le_of_ble_eq_true rfl, Nat.le_of_ble_eq_true rfl⟩ 29 lw_29 rfl rfl hl.1 (Nat.le_of_ble_eq_true rfl) ⟨(Nat.le_of_ble_eq_true rfl), (Nat.le_of_ble_eq_true rfl)⟩ dX5_isSame_325 ?_
      refine w_top (show rd 12 (S 12) (nI i) = T 5 i from (rd_12 hi).trans (hrb.bel i hi)) ?_
      refine lv_aload_n hx hb dX5_isSame_328 rfl (lv_at hl 0 rfl) ?_
      refine lv_iload hx hb dX5_isSame_329 (lv_at hl 5 rfl) ?_
      refine c_pVi (rest := [.int (T 5 i)]) hC hE hP (metX5_on l G T hn hnf (nI i)) gc_RX5_40 hd_X5_on ⟨rfl, rfl⟩ ⟨Nat.le_of_ble_eq_true rfl, Nat.le_of_ble_eq_true rfl⟩ 59 lw_59 rfl rfl hl.1 (Nat.le_of_ble_eq_true rfl) ⟨(Nat.le_of_ble_eq_true rfl), (Nat.le_of_ble_eq_true rfl)⟩ dX5_isSame_331 ?_
      refine w_top (show onA T n (nI i) = T 5 i from onA_eq hrb hi) ?_
      refine lv_icmp_eq (tgt := 339) hx hb dX5_isSame_334 (by decide) (fun c_32 => ?_) (fun c_ => absurd rfl c_)
      refine lv_iinc (v := nI (i + 1)) (lv' := [(5, .int (nI (i + 1))), (0, .ref (o 0)), (1, .ref x), (2, .ref q1), (3, .ref q2), (4, .int (sm (T 4) n))]) hx hb dX5_isSame_339 hl (k := 5) rfl (iinc1 _) (by decide) rfl (fun ls hl => ?_)
      refine lv_goto (tgt := 315) hx hb dX5_isSame_342 (by decide) ?_
      exact ih ls trivial (lv_sub hl [1, 2, 3, 4, 5, 0] rfl)
  · have hl : lv_has ls 8 [(0, .ref (o 0)), (1, .ref x), (2, .ref q1), (3, .ref q2), (4, .int (sm (T 4) i)), (5, .int (nI i))] := hl
    have hP : va_P D vwCl (LW k a tr o fa ba x S U G T n nf (mL T n) (R ++ [(q1, .inl (k 0, 6, .inl (atG T i))), (q2, .inl (k 0, 3, .inl (fiG G i)))])) H := hP
    have hD : va_D A (LW k a tr o fa ba x S U G T n nf (mL T n) (R ++ [(q1, .inl (k 0, 6, .inl (atG T i))), (q2, .inl (k 0, 3, .inl (fiG G i)))])) := hD
    refine lv_iload hx hb dX5_isSame_15 (lv_at hl 5 rfl) ?_
    refine lv_aload_n hx hb dX5_isSame_17 rfl (lv_at hl 0 rfl) ?_
    refine va_get (D := D) (ci := 5) (v := .ref (o 3)) (C := RX5) (T := TX5) (N := 6) hx hb hts tu_5 hown hE.1 hP 59 lw_59 rfl 4 (by decide) (hts _ tw_739) (fun _ h9 => h9) rfl dX5_isSame_18 ?_
    refine k_olen hx hb hE hP 62 lw_62 dX5_isSame_21 ?_
    refine lv_icmp_ge (tgt := 214) hx hb dX5_isSame_22 (by decide) (fun c_ => absurd c_ (nI_ge hi (Nat.lt_of_le_of_lt hn (by decide)))) (fun c_33 => ?_)
    obtain ⟨w9, hw5, ew⟩ := hti.wh i hi
    obtain ⟨g9, hg2, eg⟩ : ∃ g, g ≤ 2 ∧ G 7 i = nI g := by
      rcases hgi.fi i hi with z | z | z
      · exact ⟨0, by omega, z⟩
      · exact ⟨1, by omega, z⟩
      · exact ⟨2, by omega, z⟩
    by_cases z1 : T 1 i = 1
    · refine lv_aload_n hx hb dX5_isSame_25 rfl (lv_at hl 0 rfl) ?_
      refine va_get (D := D) (ci := 5) (v := .ref (o 3)) (C := RX5) (T := TX5) (N := 6) hx hb hts tu_5 hown hE.1 hP 59 lw_59 rfl 4 (by decide) (hts _ tw_739) (fun _ h9 => h9) rfl dX5_isSame_26 ?_
      refine lv_iload hx hb dX5_isSame_29 (lv_at hl 5 rfl) ?_
      refine k_aald (j := i) hx hb hE hP 62 lw_62 hi (Nat.lt_of_le_of_lt hn (by decide)) dX5_isSame_31 ?_
      refine lv_astore (lv' := [(6, .ref (ba i)), (0, .ref (o 0)), (1, .ref x), (2, .ref q1), (3, .ref q2), (4, .int (sm (T 4) i)), (5, .int (nI i))]) hx hb dX5_isSame_32 hl (by decide) rfl (fun ls hl => ?_)
      refine lv_aload_n hx hb dX5_isSame_34 rfl (lv_at hl 2 rfl) ?_
      refine lv_iload hx hb dX5_isSame_35 (lv_at hl 6 rfl) ?_
      refine c_pVi (rest := []) hC hE hP (lx_flightOf l S (nI i) (xbag_n hra hi)) gc_RX5_51 hd_X4_flightOf ⟨rfl, rfl⟩ ⟨Nat.le_of_ble_eq_true rfl, Nat.le_of_ble_eq_true rfl⟩ 29 lw_29 rfl rfl hl.1 (Nat.le_of_ble_eq_true rfl) ⟨(Nat.le_of_ble_eq_true rfl), (Nat.le_of_ble_eq_true rfl)⟩ dX5_isSame_37 ?_
      refine w_top (show rd 40 (S 3) (nI i) = G 4 i from (rd_40 (Nat.lt_of_lt_of_le hi hn)).trans (hra.fli i hi).1) ?_
      refine lv_aload hx hb dX5_isSame_40 (lv_at hl 0 rfl) ?_
      refine lv_iconst (v := 0) hx hb dX5_isSame_42 (by decide) ?_
      refine k_iald (j := 0) hx hb hE hP (64 + nf + i) (lw_b hi) (by decide) (by decide) dX5_isSame_43 ?_
      refine w_top (show bgR G T i 0 = G 4 i from rfl) ?_
      refine lv_icmp_ne (tgt := 175) hx hb dX5_isSame_44 (by decide) (fun c_ => absurd rfl c_) (fun c_34 => ?_)
      refine lv_aload_n hx hb dX5_isSame_47 rfl (lv_at hl 2 rfl) ?_
      refine lv_iload hx hb dX5_isSame_48 (lv_at hl 6 rfl) ?_
      refine c_pVi (rest := []) hC hE hP (lx_whereIs l S (nI i) (xbag_n hra hi)) gc_RX5_56 hd_X4_whereIs ⟨rfl, rfl⟩ ⟨Nat.le_of_ble_eq_true rfl, Nat.le_of_ble_eq_true rfl⟩ 29 lw_29 rfl rfl hl.1 (Nat.le_of_ble_eq_true rfl) ⟨(Nat.le_of_ble_eq_true rfl), (Nat.le_of_ble_eq_true rfl)⟩ dX5_isSame_50 ?_
      refine w_top (show rd 40 (S 6) (nI i) = T 1 i from (rd_40 (Nat.lt_of_lt_of_le hi hn)).trans (hrb.whr i hi)) ?_
      refine lv_aload hx hb dX5_isSame_53 (lv_at hl 0 rfl) ?_
      refine lv_iconst (v := 3) hx hb dX5_isSame_55 (by decide) ?_
      refine k_iald (j := 3) hx hb hE hP (64 + nf + i) (lw_b hi) (by decide) (by decide) dX5_isSame_56 ?_
      refine w_top (show bgR G T i 3 = T 1 i from rfl) ?_
      refine lv_icmp_ne (tgt := 175) hx hb dX5_isSame_57 (by decide) (fun c_ => absurd rfl c_) (fun c_35 => ?_)
      refine lv_aload_n hx hb dX5_isSame_60 rfl (lv_at hl 2 rfl) ?_
      refine lv_iload hx hb dX5_isSame_61 (lv_at hl 6 rfl) ?_
      refine c_pVi (rest := []) hC hE hP (lx_placeOf l S (nI i) (xbag_n hra hi)) gc_RX5_59 hd_X4_placeOf ⟨rfl, rfl⟩ ⟨Nat.le_of_ble_eq_true rfl, Nat.le_of_ble_eq_true rfl⟩ 29 lw_29 rfl rfl hl.1 (Nat.le_of_ble_eq_true rfl) ⟨(Nat.le_of_ble_eq_true rfl), (Nat.le_of_ble_eq_true rfl)⟩ dX5_isSame_63 ?_
      refine w_top (show fnd (S 12) (nI i) 0 12 = mPl T i 1 from place_eq hrb hi) ?_
      refine lv_aload hx hb dX5_isSame_66 (lv_at hl 0 rfl) ?_
      refine lv_iconst (v := 3) hx hb dX5_isSame_68 (by decide) ?_
      refine k_iald (j := 3) hx hb hE hP (64 + nf + i) (lw_b hi) (by decide) (by decide) dX5_isSame_69 ?_
      refine w_top (show bgR G T i 3 = T 1 i from rfl) ?_
      refine lv_iconst (v := 1) hx hb dX5_isSame_70 (by decide) ?_
      refine lv_icmp_ne (tgt := 81) hx hb dX5_isSame_71 (by decide) (fun c_ => absurd z1 c_) (fun c_36 => ?_)
      refine lv_aload hx hb dX5_isSame_74 (lv_at hl 0 rfl) ?_
      refine lv_iconst (v := 4) hx hb dX5_isSame_76 (by decide) ?_
      refine k_iald (j := 4) hx hb hE hP (64 + nf + i) (lw_b hi) (by decide) (by decide) dX5_isSame_77 ?_
      refine w_top (show bgR G T i 4 = T 2 i from rfl) ?_
      refine lv_goto (tgt := 82) hx hb dX5_isSame_78 (by decide) ?_
      refine lv_icmp_ne (tgt := 175) hx hb dX5_isSame_82 (by decide) (fun c_ => absurd (sel_t z1 _ _) c_) (fun c_37 => ?_)
      refine lv_aload_n hx hb dX5_isSame_85 rfl (lv_at hl 2 rfl) ?_
      refine lv_iload hx hb dX5_isSame_86 (lv_at hl 6 rfl) ?_
      refine c_pVi (rest := []) hC hE hP (lx_chuteOf l S (nI i) (xbag_n hra hi)) gc_RX5_62 hd_X4_chuteOf ⟨rfl, rfl⟩ ⟨Nat.le_of_ble_eq_true rfl, Nat.le_of_ble_eq_true rfl⟩ 29 lw_29 rfl rfl hl.1 (Nat.le_of_ble_eq_true rfl) ⟨(Nat.le_of_ble_eq_true rfl), (Nat.le_of_ble_eq_true rfl)⟩ dX5_isSame_88 ?_
      refine w_top (show rd 40 (S 7) (nI i) = mPl T i 2 from (rd_40 (Nat.lt_of_lt_of_le hi hn)).trans (chute_eq hrb hi)) ?_
      refine lv_aload hx hb dX5_isSame_91 (lv_at hl 0 rfl) ?_
      refine lv_iconst (v := 3) hx hb dX5_isSame_93 (by decide) ?_
      refine k_iald (j := 3) hx hb hE hP (64 + nf + i) (lw_b hi) (by decide) (by decide) dX5_isSame_94 ?_
      refine w_top (show bgR G T i 3 = T 1 i from rfl) ?_
      refine lv_iconst (v := 2) hx hb dX5_isSame_95 (by decide) ?_
      refine lv_icmp_ne (tgt := 106) hx hb dX5_isSame_96 (by decide) (fun c_38 => ?_) (fun c_ => absurd c_ (by rw [z1]; decide))
      refine lv_iconst (v := (-1)) hx hb dX5_isSame_106 (by decide) ?_
      refine lv_icmp_ne (tgt := 175) hx hb dX5_isSame_107 (by decide) (fun c_ => absurd (sel_f (by rw [z1]; decide) _ _) c_) (fun c_39 => ?_)
      refine lv_aload_n hx hb dX5_isSame_110 rfl (lv_at hl 2 rfl) ?_
      refine lv_iload hx hb dX5_isSame_111 (lv_at hl 6 rfl) ?_
      refine c_pVi (rest := []) hC hE hP (lx_readFor l S (nI i) (xbag_n hra hi)) gc_RX5_65 hd_X4_readFor ⟨rfl, rfl⟩ ⟨Nat.le_of_ble_eq_true rfl, Nat.le_of_ble_eq_true rfl⟩ 29 lw_29 rfl rfl hl.1 (Nat.le_of_ble_eq_true rfl) ⟨(Nat.le_of_ble_eq_true rfl), (Nat.le_of_ble_eq_true rfl)⟩ dX5_isSame_113 ?_
      refine w_top (show rd 40 (S 8) (nI i) = T 3 i from (rd_40 (Nat.lt_of_lt_of_le hi hn)).trans (hrb.rdd i hi)) ?_
      refine lv_aload hx hb dX5_isSame_116 (lv_at hl 0 rfl) ?_
      refine lv_iconst (v := 5) hx hb dX5_isSame_118 (by decide) ?_
      refine k_iald (j := 5) hx hb hE hP (64 + nf + i) (lw_b hi) (by decide) (by decide) dX5_isSame_119 ?_
      refine w_top (show bgR G T i 5 = T 3 i from rfl) ?_
      refine lv_icmp_ne (tgt := 175) hx hb dX5_isSame_120 (by decide) (fun c_ => absurd rfl c_) (fun c_40 => ?_)
      refine lv_aload_n hx hb dX5_isSame_123 rfl (lv_at hl 2 rfl) ?_
      refine lv_iload hx hb dX5_isSame_124 (lv_at hl 6 rfl) ?_
      refine c_pVi (rest := []) hC hE hP (lx_missesOf l S (nI i) (xbag_n hra hi)) gc_RX5_68 hd_X4_missesOf ⟨rfl, rfl⟩ ⟨Nat.le_of_ble_eq_true rfl, Nat.le_of_ble_eq_true rfl⟩ 29 lw_29 rfl rfl hl.1 (Nat.le_of_ble_eq_true rfl) ⟨(Nat.le_of_ble_eq_true rfl), (Nat.le_of_ble_eq_true rfl)⟩ dX5_isSame_126 ?_
      refine w_top (show rd 40 (S 9) (nI i) = T 4 i from (rd_40 (Nat.lt_of_lt_of_le hi hn)).trans (hrb.mis i hi)) ?_
      refine lv_aload hx hb dX5_isSame_129 (lv_at hl 0 rfl) ?_
      refine lv_bipush (v := 6) hx hb dX5_isSame_131 (by decide) ?_
      refine k_iald (j := 6) hx hb hE hP (64 + nf + i) (lw_b hi) (by decide) (by decide) dX5_isSame_133 ?_
      refine w_top (show bgR G T i 6 = T 4 i from rfl) ?_
      refine lv_icmp_ne (tgt := 175) hx hb dX5_isSame_134 (by decide) (fun c_ => absurd rfl c_) (fun c_41 => ?_)
      refine lv_aload_n hx hb dX5_isSame_137 rfl (lv_at hl 2 rfl) ?_
      refine lv_iload hx hb dX5_isSame_138 (lv_at hl 6 rfl) ?_
      refine c_pVi (rest := []) hC hE hP (lx_isMisrouted l S (nI i) (xbag_n hra hi)) gc_RX5_71 hd_X4_isMisrouted ⟨rfl, rfl⟩ ⟨Nat.le_of_ble_eq_true rfl, Nat.le_of_ble_eq_true rfl⟩ 29 lw_29 rfl rfl hl.1 (Nat.le_of_ble_eq_true rfl) ⟨(Nat.le_of_ble_eq_true rfl), (Nat.le_of_ble_eq_true rfl)⟩ dX5_isSame_140 ?_
      refine w_top (show bI (xAst S (nI i)) = bI (mMis G T i) from bI_cong (ast_iff hra hrb hi)) ?_
      refine lv_aload_n hx hb dX5_isSame_143 rfl (lv_at hl 1 rfl) ?_
      refine lv_iload hx hb dX5_isSame_144 (lv_at hl 6 rfl) ?_
      obtain ⟨f2, k1, k2, k3, k4, k5⟩ := flight_of hra hi
      refine c_pVi (rest := [.int (bI (mMis G T i))]) hC hE hP (metX5_isMisrouted l G T hn hnf i f2 hi k1 k3) gc_RX5_75 hd_X5_isMisrouted ⟨rfl, rfl⟩ ⟨Nat.le_of_ble_eq_true rfl, Nat.le_of_ble_eq_true rfl⟩ 59 lw_59 rfl rfl hl.1 (Nat.le_of_ble_eq_true rfl) ⟨(Nat.le_of_ble_eq_true rfl), (Nat.le_of_ble_eq_true rfl)⟩ dX5_isSame_146 ?_
      refine w_top (show bI (sMis G T f2 i) = bI (mMis G T i) from bI_cong (smis_iff hra k2 k5).symm) ?_
      refine lv_icmp_ne (tgt := 175) hx hb dX5_isSame_149 (by decide) (fun c_ => absurd rfl c_) (fun c_42 => ?_)
      refine lv_aload_n hx hb dX5_isSame_152 rfl (lv_at hl 2 rfl) ?_
      refine lv_iload hx hb dX5_isSame_153 (lv_at hl 6 rfl) ?_
      refine c_pVi (rest := []) hC hE hP (lx_hasOpenFile l S (nI i) (xbag_n hra hi)) gc_RX5_76 hd_X4_hasOpenFile ⟨rfl, rfl⟩ ⟨Nat.le_of_ble_eq_true rfl, Nat.le_of_ble_eq_true rfl⟩ 29 lw_29 rfl rfl hl.1 (Nat.le_of_ble_eq_true rfl) ⟨(Nat.le_of_ble_eq_true rfl), (Nat.le_of_ble_eq_true rfl)⟩ dX5_isSame_155 ?_
      refine w_top (show bI (rd 40 (S 10) (nI i) = 1) = bI (G 7 i = 1) from bI_cong (by rw [rd_40 (Nat.lt_of_lt_of_le hi hn), hra.fil i hi])) ?_
      refine lv_aload hx hb dX5_isSame_158 (lv_at hl 0 rfl) ?_
      refine lv_bipush (v := 7) hx hb dX5_isSame_160 (by decide) ?_
      refine k_iald (j := 7) hx hb hE hP (64 + nf + i) (lw_b hi) (by decide) (by decide) dX5_isSame_162 ?_
      refine w_top (show bgR G T i 7 = G 7 i from rfl) ?_
      refine lv_iconst (v := 1) hx hb dX5_isSame_163 (by decide) ?_
      refine lv_icmp_ne (tgt := 171) hx hb dX5_isSame_164 (by decide) (fun c_43 => ?_) (fun c_43 => ?_)
      · refine lv_iconst (v := 0) hx hb dX5_isSame_171 (by decide) ?_
        refine lv_icmp_eq (tgt := 177) hx hb dX5_isSame_172 (by decide) (fun c_44 => ?_) (fun c_ => absurd (bI_f c_43) c_)
        refine lv_aload_n hx hb dX5_isSame_177 rfl (lv_at hl 3 rfl) ?_
        refine lv_aload hx hb dX5_isSame_178 (lv_at hl 0 rfl) ?_
        refine lv_iconst (v := 3) hx hb dX5_isSame_180 (by decide) ?_
        refine k_iald (j := 3) hx hb hE hP (64 + nf + i) (lw_b hi) (by decide) (by decide) dX5_isSame_181 ?_
        refine w_top (show bgR G T i 3 = T 1 i from rfl) ?_
        refine w_top ew ?_
        refine lv_dup2_11 hx hb dX5_isSame_182 rfl rfl ?_
        refine k_iald (j := w9) hx hb hE hP (64 + nf + n + (R.length + 0)) ((lw_Ri (i := 0)).trans rfl) (by omega) (by decide) dX5_isSame_183 ?_
        refine lv_iconst (v := 1) hx hb dX5_isSame_184 (by decide) ?_
        refine lv_iadd hx hb dX5_isSame_185 ?_
        refine k_iast (j := w9) hx hb hE hP hD hS (64 + nf + n + (R.length + 0)) ((lw_Ri (i := 0)).trans rfl) (by omega) (by decide) dX5_isSame_186 (fun H locs hP hD hS => ?_)
        rw [lw_Riset (i := 0)] at hP hD
        have hP : va_P D vwCl (LW k a tr o fa ba x S U G T n nf (mL T n) (R ++ [(q1, .inl (k 0, 6, .inl (upd (atG T i) w9 (((atG T i) w9) + 1)))), (q2, .inl (k 0, 3, .inl (fiG G i)))])) H := hP
        have hD : va_D A (LW k a tr o fa ba x S U G T n nf (mL T n) (R ++ [(q1, .inl (k 0, 6, .inl (upd (atG T i) w9 (((atG T i) w9) + 1)))), (q2, .inl (k 0, 3, .inl (fiG G i)))])) := hD
        refine lv_aload_n hx hb dX5_isSame_187 rfl (lv_at hl 4 rfl) ?_
        refine lv_aload hx hb dX5_isSame_188 (lv_at hl 0 rfl) ?_
        refine lv_bipush (v := 7) hx hb dX5_isSame_190 (by decide) ?_
        refine k_iald (j := 7) hx hb hE hP (64 + nf + i) (lw_b hi) (by decide) (by decide) dX5_isSame_192 ?_
        refine w_top (show bgR G T i 7 = G 7 i from rfl) ?_
        refine w_top eg ?_
        refine lv_dup2_11 hx hb dX5_isSame_193 rfl rfl ?_
        refine k_iald (j := g9) hx hb hE hP (64 + nf + n + (R.length + 1)) ((lw_Ri (i := 1)).trans rfl) (by omega) (by decide) dX5_isSame_194 ?_
        refine lv_iconst (v := 1) hx hb dX5_isSame_195 (by decide) ?_
        refine lv_iadd hx hb dX5_isSame_196 ?_
        refine k_iast (j := g9) hx hb hE hP hD hS (64 + nf + n + (R.length + 1)) ((lw_Ri (i := 1)).trans rfl) (by omega) (by decide) dX5_isSame_197 (fun H locs hP hD hS => ?_)
        rw [lw_Riset (i := 1)] at hP hD
        have hP : va_P D vwCl (LW k a tr o fa ba x S U G T n nf (mL T n) (R ++ [(q1, .inl (k 0, 6, .inl (upd (atG T i) w9 (((atG T i) w9) + 1)))), (q2, .inl (k 0, 3, .inl (upd (fiG G i) g9 (((fiG G i) g9) + 1))))])) H := hP
        have hD : va_D A (LW k a tr o fa ba x S U G T n nf (mL T n) (R ++ [(q1, .inl (k 0, 6, .inl (upd (atG T i) w9 (((atG T i) w9) + 1)))), (q2, .inl (k 0, 3, .inl (upd (fiG G i) g9 (((fiG G i) g9) + 1))))])) := hD
        refine lv_iload hx hb dX5_isSame_198 (lv_at hl 5 rfl) ?_
        refine lv_aload hx hb dX5_isSame_200 (lv_at hl 0 rfl) ?_
        refine lv_bipush (v := 6) hx hb dX5_isSame_202 (by decide) ?_
        refine k_iald (j := 6) hx hb hE hP (64 + nf + i) (lw_b hi) (by decide) (by decide) dX5_isSame_204 ?_
        refine w_top (show bgR G T i 6 = T 4 i from rfl) ?_
        refine lv_iadd hx hb dX5_isSame_205 ?_
        refine lv_istore (lv' := [(4, .int ((sm (T 4) i) + (T 4 i))), (6, .ref (ba i)), (0, .ref (o 0)), (1, .ref x), (2, .ref q1), (3, .ref q2), (5, .int (nI i))]) hx hb dX5_isSame_206 hl (by decide) rfl (fun ls hl => ?_)
        refine lv_iinc (v := nI (i + 1)) (lv' := [(5, .int (nI (i + 1))), (4, .int ((sm (T 4) i) + (T 4 i))), (6, .ref (ba i)), (0, .ref (o 0)), (1, .ref x), (2, .ref q1), (3, .ref q2)]) hx hb dX5_isSame_208 hl (k := 6) rfl (iinc1 _) (by decide) rfl (fun ls hl => ?_)
        refine lv_goto (tgt := 15) hx hb dX5_isSame_211 (by decide) ?_
        have e9 : atG T (i + 1) = upd (atG T i) w9 (((atG T i) w9) + 1) := atG_s ew (by omega)
        have e8 : fiG G (i + 1) = upd (fiG G i) g9 (((fiG G i) g9) + 1) := fiG_s eg (by omega)
        have hP9 : va_P D vwCl (LW k a tr o fa ba x S U G T n nf (mL T n) (R ++ [(q1, .inl (k 0, 6, .inl (atG T (i + 1)))), (q2, .inl (k 0, 3, .inl (fiG G (i + 1))))])) H := by rw [e9, e8]; exact hP
        have hD9 : va_D A (LW k a tr o fa ba x S U G T n nf (mL T n) (R ++ [(q1, .inl (k 0, 6, .inl (atG T (i + 1)))), (q2, .inl (k 0, 3, .inl (fiG G (i + 1))))])) := by rw [e9, e8]; exact hD
        have h99 := ih ls H locs trivial (lv_sub hl [3, 4, 5, 6, 1, 0] rfl)
        exact h99 hP9 hD9 hS
      · refine lv_iconst (v := 1) hx hb dX5_isSame_167 (by decide) ?_
        refine lv_goto (tgt := 172) hx hb dX5_isSame_168 (by decide) ?_
        refine lv_icmp_eq (tgt := 177) hx hb dX5_isSame_172 (by decide) (fun c_45 => ?_) (fun c_ => absurd (bI_t c_43) c_)
        refine lv_aload_n hx hb dX5_isSame_177 rfl (lv_at hl 3 rfl) ?_
        refine lv_aload hx hb dX5_isSame_178 (lv_at hl 0 rfl) ?_
        refine lv_iconst (v := 3) hx hb dX5_isSame_180 (by decide) ?_
        refine k_iald (j := 3) hx hb hE hP (64 + nf + i) (lw_b hi) (by decide) (by decide) dX5_isSame_181 ?_
        refine w_top (show bgR G T i 3 = T 1 i from rfl) ?_
        refine w_top ew ?_
        refine lv_dup2_11 hx hb dX5_isSame_182 rfl rfl ?_
        refine k_iald (j := w9) hx hb hE hP (64 + nf + n + (R.length + 0)) ((lw_Ri (i := 0)).trans rfl) (by omega) (by decide) dX5_isSame_183 ?_
        refine lv_iconst (v := 1) hx hb dX5_isSame_184 (by decide) ?_
        refine lv_iadd hx hb dX5_isSame_185 ?_
        refine k_iast (j := w9) hx hb hE hP hD hS (64 + nf + n + (R.length + 0)) ((lw_Ri (i := 0)).trans rfl) (by omega) (by decide) dX5_isSame_186 (fun H locs hP hD hS => ?_)
        rw [lw_Riset (i := 0)] at hP hD
        have hP : va_P D vwCl (LW k a tr o fa ba x S U G T n nf (mL T n) (R ++ [(q1, .inl (k 0, 6, .inl (upd (atG T i) w9 (((atG T i) w9) + 1)))), (q2, .inl (k 0, 3, .inl (fiG G i)))])) H := hP
        have hD : va_D A (LW k a tr o fa ba x S U G T n nf (mL T n) (R ++ [(q1, .inl (k 0, 6, .inl (upd (atG T i) w9 (((atG T i) w9) + 1)))), (q2, .inl (k 0, 3, .inl (fiG G i)))])) := hD
        refine lv_aload_n hx hb dX5_isSame_187 rfl (lv_at hl 4 rfl) ?_
        refine lv_aload hx hb dX5_isSame_188 (lv_at hl 0 rfl) ?_
        refine lv_bipush (v := 7) hx hb dX5_isSame_190 (by decide) ?_
        refine k_iald (j := 7) hx hb hE hP (64 + nf + i) (lw_b hi) (by decide) (by decide) dX5_isSame_192 ?_
        refine w_top (show bgR G T i 7 = G 7 i from rfl) ?_
        refine w_top eg ?_
        refine lv_dup2_11 hx hb dX5_isSame_193 rfl rfl ?_
        refine k_iald (j := g9) hx hb hE hP (64 + nf + n + (R.length + 1)) ((lw_Ri (i := 1)).trans rfl) (by omega) (by decide) dX5_isSame_194 ?_
        refine lv_iconst (v := 1) hx hb dX5_isSame_195 (by decide) ?_
        refine lv_iadd hx hb dX5_isSame_196 ?_
        refine k_iast (j := g9) hx hb hE hP hD hS (64 + nf + n + (R.length + 1)) ((lw_Ri (i := 1)).trans rfl) (by omega) (by decide) dX5_isSame_197 (fun H locs hP hD hS => ?_)
        rw [lw_Riset (i := 1)] at hP hD
        have hP : va_P D vwCl (LW k a tr o fa ba x S U G T n nf (mL T n) (R ++ [(q1, .inl (k 0, 6, .inl (upd (atG T i) w9 (((atG T i) w9) + 1)))), (q2, .inl (k 0, 3, .inl (upd (fiG G i) g9 (((fiG G i) g9) + 1))))])) H := hP
        have hD : va_D A (LW k a tr o fa ba x S U G T n nf (mL T n) (R ++ [(q1, .inl (k 0, 6, .inl (upd (atG T i) w9 (((atG T i) w9) + 1)))), (q2, .inl (k 0, 3, .inl (upd (fiG G i) g9 (((fiG G i) g9) + 1))))])) := hD
        refine lv_iload hx hb dX5_isSame_198 (lv_at hl 5 rfl) ?_
        refine lv_aload hx hb dX5_isSame_200 (lv_at hl 0 rfl) ?_
        refine lv_bipush (v := 6) hx hb dX5_isSame_202 (by decide) ?_
        refine k_iald (j := 6) hx hb hE hP (64 + nf + i) (lw_b hi) (by decide) (by decide) dX5_isSame_204 ?_
        refine w_top (show bgR G T i 6 = T 4 i from rfl) ?_
        refine lv_iadd hx hb dX5_isSame_205 ?_
        refine lv_istore (lv' := [(4, .int ((sm (T 4) i) + (T 4 i))), (6, .ref (ba i)), (0, .ref (o 0)), (1, .ref x), (2, .ref q1), (3, .ref q2), (5, .int (nI i))]) hx hb dX5_isSame_206 hl (by decide) rfl (fun ls hl => ?_)
        refine lv_iinc (v := nI (i + 1)) (lv' := [(5, .int (nI (i + 1))), (4, .int ((sm (T 4) i) + (T 4 i))), (6, .ref (ba i)), (0, .ref (o 0)), (1, .ref x), (2, .ref q1), (3, .ref q2)]) hx hb dX5_isSame_208 hl (k := 6) rfl (iinc1 _) (by decide) rfl (fun ls hl => ?_)
        refine lv_goto (tgt := 15) hx hb dX5_isSame_211 (by decide) ?_
        have e9 : atG T (i + 1) = upd (atG T i) w9 (((atG T i) w9) + 1) := atG_s ew (by omega)
        have e8 : fiG G (i + 1) = upd (fiG G i) g9 (((fiG G i) g9) + 1) := fiG_s eg (by omega)
        have hP9 : va_P D vwCl (LW k a tr o fa ba x S U G T n nf (mL T n) (R ++ [(q1, .inl (k 0, 6, .inl (atG T (i + 1)))), (q2, .inl (k 0, 3, .inl (fiG G (i + 1))))])) H := by rw [e9, e8]; exact hP
        have hD9 : va_D A (LW k a tr o fa ba x S U G T n nf (mL T n) (R ++ [(q1, .inl (k 0, 6, .inl (atG T (i + 1)))), (q2, .inl (k 0, 3, .inl (fiG G (i + 1))))])) := by rw [e9, e8]; exact hD
        have h99 := ih ls H locs trivial (lv_sub hl [3, 4, 5, 6, 1, 0] rfl)
        exact h99 hP9 hD9 hS
    · by_cases z2 : T 1 i = 2
      · refine lv_aload_n hx hb dX5_isSame_25 rfl (lv_at hl 0 rfl) ?_
        refine va_get (D := D) (ci := 5) (v := .ref (o 3)) (C := RX5) (T := TX5) (N := 6) hx hb hts tu_5 hown hE.1 hP 59 lw_59 rfl 4 (by decide) (hts _ tw_739) (fun _ h9 => h9) rfl dX5_isSame_26 ?_
        refine lv_iload hx hb dX5_isSame_29 (lv_at hl 5 rfl) ?_
        refine k_aald (j := i) hx hb hE hP 62 lw_62 hi (Nat.lt_of_le_of_lt hn (by decide)) dX5_isSame_31 ?_
        refine lv_astore (lv' := [(6, .ref (ba i)), (0, .ref (o 0)), (1, .ref x), (2, .ref q1), (3, .ref q2), (4, .int (sm (T 4) i)), (5, .int (nI i))]) hx hb dX5_isSame_32 hl (by decide) rfl (fun ls hl => ?_)
        refine lv_aload_n hx hb dX5_isSame_34 rfl (lv_at hl 2 rfl) ?_
        refine lv_iload hx hb dX5_isSame_35 (lv_at hl 6 rfl) ?_
        refine c_pVi (rest := []) hC hE hP (lx_flightOf l S (nI i) (xbag_n hra hi)) gc_RX5_51 hd_X4_flightOf ⟨rfl, rfl⟩ ⟨Nat.le_of_ble_eq_true rfl, Nat.le_of_ble_eq_true rfl⟩ 29 lw_29 rfl rfl hl.1 (Nat.le_of_ble_eq_true rfl) ⟨(Nat.le_of_ble_eq_true rfl), (Nat.le_of_ble_eq_true rfl)⟩ dX5_isSame_37 ?_
        refine w_top (show rd 40 (S 3) (nI i) = G 4 i from (rd_40 (Nat.lt_of_lt_of_le hi hn)).trans (hra.fli i hi).1) ?_
        refine lv_aload hx hb dX5_isSame_40 (lv_at hl 0 rfl) ?_
        refine lv_iconst (v := 0) hx hb dX5_isSame_42 (by decide) ?_
        refine k_iald (j := 0) hx hb hE hP (64 + nf + i) (lw_b hi) (by decide) (by decide) dX5_isSame_43 ?_
        refine w_top (show bgR G T i 0 = G 4 i from rfl) ?_
        refine lv_icmp_ne (tgt := 175) hx hb dX5_isSame_44 (by decide) (fun c_ => absurd rfl c_) (fun c_46 => ?_)
        refine lv_aload_n hx hb dX5_isSame_47 rfl (lv_at hl 2 rfl) ?_
        refine lv_iload hx hb dX5_isSame_48 (lv_at hl 6 rfl) ?_
        refine c_pVi (rest := []) hC hE hP (lx_whereIs l S (nI i) (xbag_n hra hi)) gc_RX5_56 hd_X4_whereIs ⟨rfl, rfl⟩ ⟨Nat.le_of_ble_eq_true rfl, Nat.le_of_ble_eq_true rfl⟩ 29 lw_29 rfl rfl hl.1 (Nat.le_of_ble_eq_true rfl) ⟨(Nat.le_of_ble_eq_true rfl), (Nat.le_of_ble_eq_true rfl)⟩ dX5_isSame_50 ?_
        refine w_top (show rd 40 (S 6) (nI i) = T 1 i from (rd_40 (Nat.lt_of_lt_of_le hi hn)).trans (hrb.whr i hi)) ?_
        refine lv_aload hx hb dX5_isSame_53 (lv_at hl 0 rfl) ?_
        refine lv_iconst (v := 3) hx hb dX5_isSame_55 (by decide) ?_
        refine k_iald (j := 3) hx hb hE hP (64 + nf + i) (lw_b hi) (by decide) (by decide) dX5_isSame_56 ?_
        refine w_top (show bgR G T i 3 = T 1 i from rfl) ?_
        refine lv_icmp_ne (tgt := 175) hx hb dX5_isSame_57 (by decide) (fun c_ => absurd rfl c_) (fun c_47 => ?_)
        refine lv_aload_n hx hb dX5_isSame_60 rfl (lv_at hl 2 rfl) ?_
        refine lv_iload hx hb dX5_isSame_61 (lv_at hl 6 rfl) ?_
        refine c_pVi (rest := []) hC hE hP (lx_placeOf l S (nI i) (xbag_n hra hi)) gc_RX5_59 hd_X4_placeOf ⟨rfl, rfl⟩ ⟨Nat.le_of_ble_eq_true rfl, Nat.le_of_ble_eq_true rfl⟩ 29 lw_29 rfl rfl hl.1 (Nat.le_of_ble_eq_true rfl) ⟨(Nat.le_of_ble_eq_true rfl), (Nat.le_of_ble_eq_true rfl)⟩ dX5_isSame_63 ?_
        refine w_top (show fnd (S 12) (nI i) 0 12 = mPl T i 1 from place_eq hrb hi) ?_
        refine lv_aload hx hb dX5_isSame_66 (lv_at hl 0 rfl) ?_
        refine lv_iconst (v := 3) hx hb dX5_isSame_68 (by decide) ?_
        refine k_iald (j := 3) hx hb hE hP (64 + nf + i) (lw_b hi) (by decide) (by decide) dX5_isSame_69 ?_
        refine w_top (show bgR G T i 3 = T 1 i from rfl) ?_
        refine lv_iconst (v := 1) hx hb dX5_isSame_70 (by decide) ?_
        refine lv_icmp_ne (tgt := 81) hx hb dX5_isSame_71 (by decide) (fun c_48 => ?_) (fun c_ => absurd c_ z1)
        refine lv_iconst (v := (-1)) hx hb dX5_isSame_81 (by decide) ?_
        refine lv_icmp_ne (tgt := 175) hx hb dX5_isSame_82 (by decide) (fun c_ => absurd (sel_f z1 _ _) c_) (fun c_49 => ?_)
        refine lv_aload_n hx hb dX5_isSame_85 rfl (lv_at hl 2 rfl) ?_
        refine lv_iload hx hb dX5_isSame_86 (lv_at hl 6 rfl) ?_
        refine c_pVi (rest := []) hC hE hP (lx_chuteOf l S (nI i) (xbag_n hra hi)) gc_RX5_62 hd_X4_chuteOf ⟨rfl, rfl⟩ ⟨Nat.le_of_ble_eq_true rfl, Nat.le_of_ble_eq_true rfl⟩ 29 lw_29 rfl rfl hl.1 (Nat.le_of_ble_eq_true rfl) ⟨(Nat.le_of_ble_eq_true rfl), (Nat.le_of_ble_eq_true rfl)⟩ dX5_isSame_88 ?_
        refine w_top (show rd 40 (S 7) (nI i) = mPl T i 2 from (rd_40 (Nat.lt_of_lt_of_le hi hn)).trans (chute_eq hrb hi)) ?_
        refine lv_aload hx hb dX5_isSame_91 (lv_at hl 0 rfl) ?_
        refine lv_iconst (v := 3) hx hb dX5_isSame_93 (by decide) ?_
        refine k_iald (j := 3) hx hb hE hP (64 + nf + i) (lw_b hi) (by decide) (by decide) dX5_isSame_94 ?_
        refine w_top (show bgR G T i 3 = T 1 i from rfl) ?_
        refine lv_iconst (v := 2) hx hb dX5_isSame_95 (by decide) ?_
        refine lv_icmp_ne (tgt := 106) hx hb dX5_isSame_96 (by decide) (fun c_ => absurd z2 c_) (fun c_50 => ?_)
        refine lv_aload hx hb dX5_isSame_99 (lv_at hl 0 rfl) ?_
        refine lv_iconst (v := 4) hx hb dX5_isSame_101 (by decide) ?_
        refine k_iald (j := 4) hx hb hE hP (64 + nf + i) (lw_b hi) (by decide) (by decide) dX5_isSame_102 ?_
        refine w_top (show bgR G T i 4 = T 2 i from rfl) ?_
        refine lv_goto (tgt := 107) hx hb dX5_isSame_103 (by decide) ?_
        refine lv_icmp_ne (tgt := 175) hx hb dX5_isSame_107 (by decide) (fun c_ => absurd (sel_t z2 _ _) c_) (fun c_51 => ?_)
        refine lv_aload_n hx hb dX5_isSame_110 rfl (lv_at hl 2 rfl) ?_
        refine lv_iload hx hb dX5_isSame_111 (lv_at hl 6 rfl) ?_
        refine c_pVi (rest := []) hC hE hP (lx_readFor l S (nI i) (xbag_n hra hi)) gc_RX5_65 hd_X4_readFor ⟨rfl, rfl⟩ ⟨Nat.le_of_ble_eq_true rfl, Nat.le_of_ble_eq_true rfl⟩ 29 lw_29 rfl rfl hl.1 (Nat.le_of_ble_eq_true rfl) ⟨(Nat.le_of_ble_eq_true rfl), (Nat.le_of_ble_eq_true rfl)⟩ dX5_isSame_113 ?_
        refine w_top (show rd 40 (S 8) (nI i) = T 3 i from (rd_40 (Nat.lt_of_lt_of_le hi hn)).trans (hrb.rdd i hi)) ?_
        refine lv_aload hx hb dX5_isSame_116 (lv_at hl 0 rfl) ?_
        refine lv_iconst (v := 5) hx hb dX5_isSame_118 (by decide) ?_
        refine k_iald (j := 5) hx hb hE hP (64 + nf + i) (lw_b hi) (by decide) (by decide) dX5_isSame_119 ?_
        refine w_top (show bgR G T i 5 = T 3 i from rfl) ?_
        refine lv_icmp_ne (tgt := 175) hx hb dX5_isSame_120 (by decide) (fun c_ => absurd rfl c_) (fun c_52 => ?_)
        refine lv_aload_n hx hb dX5_isSame_123 rfl (lv_at hl 2 rfl) ?_
        refine lv_iload hx hb dX5_isSame_124 (lv_at hl 6 rfl) ?_
        refine c_pVi (rest := []) hC hE hP (lx_missesOf l S (nI i) (xbag_n hra hi)) gc_RX5_68 hd_X4_missesOf ⟨rfl, rfl⟩ ⟨Nat.le_of_ble_eq_true rfl, Nat.le_of_ble_eq_true rfl⟩ 29 lw_29 rfl rfl hl.1 (Nat.le_of_ble_eq_true rfl) ⟨(Nat.le_of_ble_eq_true rfl), (Nat.le_of_ble_eq_true rfl)⟩ dX5_isSame_126 ?_
        refine w_top (show rd 40 (S 9) (nI i) = T 4 i from (rd_40 (Nat.lt_of_lt_of_le hi hn)).trans (hrb.mis i hi)) ?_
        refine lv_aload hx hb dX5_isSame_129 (lv_at hl 0 rfl) ?_
        refine lv_bipush (v := 6) hx hb dX5_isSame_131 (by decide) ?_
        refine k_iald (j := 6) hx hb hE hP (64 + nf + i) (lw_b hi) (by decide) (by decide) dX5_isSame_133 ?_
        refine w_top (show bgR G T i 6 = T 4 i from rfl) ?_
        refine lv_icmp_ne (tgt := 175) hx hb dX5_isSame_134 (by decide) (fun c_ => absurd rfl c_) (fun c_53 => ?_)
        refine lv_aload_n hx hb dX5_isSame_137 rfl (lv_at hl 2 rfl) ?_
        refine lv_iload hx hb dX5_isSame_138 (lv_at hl 6 rfl) ?_
        refine c_pVi (rest := []) hC hE hP (lx_isMisrouted l S (nI i) (xbag_n hra hi)) gc_RX5_71 hd_X4_isMisrouted ⟨rfl, rfl⟩ ⟨Nat.le_of_ble_eq_true rfl, Nat.le_of_ble_eq_true rfl⟩ 29 lw_29 rfl rfl hl.1 (Nat.le_of_ble_eq_true rfl) ⟨(Nat.le_of_ble_eq_true rfl), (Nat.le_of_ble_eq_true rfl)⟩ dX5_isSame_140 ?_
        refine w_top (show bI (xAst S (nI i)) = bI (mMis G T i) from bI_cong (ast_iff hra hrb hi)) ?_
        refine lv_aload_n hx hb dX5_isSame_143 rfl (lv_at hl 1 rfl) ?_
        refine lv_iload hx hb dX5_isSame_144 (lv_at hl 6 rfl) ?_
        obtain ⟨f2, k1, k2, k3, k4, k5⟩ := flight_of hra hi
        refine c_pVi (rest := [.int (bI (mMis G T i))]) hC hE hP (metX5_isMisrouted l G T hn hnf i f2 hi k1 k3) gc_RX5_75 hd_X5_isMisrouted ⟨rfl, rfl⟩ ⟨Nat.le_of_ble_eq_true rfl, Nat.le_of_ble_eq_true rfl⟩ 59 lw_59 rfl rfl hl.1 (Nat.le_of_ble_eq_true rfl) ⟨(Nat.le_of_ble_eq_true rfl), (Nat.le_of_ble_eq_true rfl)⟩ dX5_isSame_146 ?_
        refine w_top (show bI (sMis G T f2 i) = bI (mMis G T i) from bI_cong (smis_iff hra k2 k5).symm) ?_
        refine lv_icmp_ne (tgt := 175) hx hb dX5_isSame_149 (by decide) (fun c_ => absurd rfl c_) (fun c_54 => ?_)
        refine lv_aload_n hx hb dX5_isSame_152 rfl (lv_at hl 2 rfl) ?_
        refine lv_iload hx hb dX5_isSame_153 (lv_at hl 6 rfl) ?_
        refine c_pVi (rest := []) hC hE hP (lx_hasOpenFile l S (nI i) (xbag_n hra hi)) gc_RX5_76 hd_X4_hasOpenFile ⟨rfl, rfl⟩ ⟨Nat.le_of_ble_eq_true rfl, Nat.le_of_ble_eq_true rfl⟩ 29 lw_29 rfl rfl hl.1 (Nat.le_of_ble_eq_true rfl) ⟨(Nat.le_of_ble_eq_true rfl), (Nat.le_of_ble_eq_true rfl)⟩ dX5_isSame_155 ?_
        refine w_top (show bI (rd 40 (S 10) (nI i) = 1) = bI (G 7 i = 1) from bI_cong (by rw [rd_40 (Nat.lt_of_lt_of_le hi hn), hra.fil i hi])) ?_
        refine lv_aload hx hb dX5_isSame_158 (lv_at hl 0 rfl) ?_
        refine lv_bipush (v := 7) hx hb dX5_isSame_160 (by decide) ?_
        refine k_iald (j := 7) hx hb hE hP (64 + nf + i) (lw_b hi) (by decide) (by decide) dX5_isSame_162 ?_
        refine w_top (show bgR G T i 7 = G 7 i from rfl) ?_
        refine lv_iconst (v := 1) hx hb dX5_isSame_163 (by decide) ?_
        refine lv_icmp_ne (tgt := 171) hx hb dX5_isSame_164 (by decide) (fun c_55 => ?_) (fun c_55 => ?_)
        · refine lv_iconst (v := 0) hx hb dX5_isSame_171 (by decide) ?_
          refine lv_icmp_eq (tgt := 177) hx hb dX5_isSame_172 (by decide) (fun c_56 => ?_) (fun c_ => absurd (bI_f c_55) c_)
          refine lv_aload_n hx hb dX5_isSame_177 rfl (lv_at hl 3 rfl) ?_
          refine lv_aload hx hb dX5_isSame_178 (lv_at hl 0 rfl) ?_
          refine lv_iconst (v := 3) hx hb dX5_isSame_180 (by decide) ?_
          refine k_iald (j := 3) hx hb hE hP (64 + nf + i) (lw_b hi) (by decide) (by decide) dX5_isSame_181 ?_
          refine w_top (show bgR G T i 3 = T 1 i from rfl) ?_
          refine w_top ew ?_
          refine lv_dup2_11 hx hb dX5_isSame_182 rfl rfl ?_
          refine k_iald (j := w9) hx hb hE hP (64 + nf + n + (R.length + 0)) ((lw_Ri (i := 0)).trans rfl) (by omega) (by decide) dX5_isSame_183 ?_
          refine lv_iconst (v := 1) hx hb dX5_isSame_184 (by decide) ?_
          refine lv_iadd hx hb dX5_isSame_185 ?_
          refine k_iast (j := w9) hx hb hE hP hD hS (64 + nf + n + (R.length + 0)) ((lw_Ri (i := 0)).trans rfl) (by omega) (by decide) dX5_isSame_186 (fun H locs hP hD hS => ?_)
          rw [lw_Riset (i := 0)] at hP hD
          have hP : va_P D vwCl (LW k a tr o fa ba x S U G T n nf (mL T n) (R ++ [(q1, .inl (k 0, 6, .inl (upd (atG T i) w9 (((atG T i) w9) + 1)))), (q2, .inl (k 0, 3, .inl (fiG G i)))])) H := hP
          have hD : va_D A (LW k a tr o fa ba x S U G T n nf (mL T n) (R ++ [(q1, .inl (k 0, 6, .inl (upd (atG T i) w9 (((atG T i) w9) + 1)))), (q2, .inl (k 0, 3, .inl (fiG G i)))])) := hD
          refine lv_aload_n hx hb dX5_isSame_187 rfl (lv_at hl 4 rfl) ?_
          refine lv_aload hx hb dX5_isSame_188 (lv_at hl 0 rfl) ?_
          refine lv_bipush (v := 7) hx hb dX5_isSame_190 (by decide) ?_
          refine k_iald (j := 7) hx hb hE hP (64 + nf + i) (lw_b hi) (by decide) (by decide) dX5_isSame_192 ?_
          refine w_top (show bgR G T i 7 = G 7 i from rfl) ?_
          refine w_top eg ?_
          refine lv_dup2_11 hx hb dX5_isSame_193 rfl rfl ?_
          refine k_iald (j := g9) hx hb hE hP (64 + nf + n + (R.length + 1)) ((lw_Ri (i := 1)).trans rfl) (by omega) (by decide) dX5_isSame_194 ?_
          refine lv_iconst (v := 1) hx hb dX5_isSame_195 (by decide) ?_
          refine lv_iadd hx hb dX5_isSame_196 ?_
          refine k_iast (j := g9) hx hb hE hP hD hS (64 + nf + n + (R.length + 1)) ((lw_Ri (i := 1)).trans rfl) (by omega) (by decide) dX5_isSame_197 (fun H locs hP hD hS => ?_)
          rw [lw_Riset (i := 1)] at hP hD
          have hP : va_P D vwCl (LW k a tr o fa ba x S U G T n nf (mL T n) (R ++ [(q1, .inl (k 0, 6, .inl (upd (atG T i) w9 (((atG T i) w9) + 1)))), (q2, .inl (k 0, 3, .inl (upd (fiG G i) g9 (((fiG G i) g9) + 1))))])) H := hP
          have hD : va_D A (LW k a tr o fa ba x S U G T n nf (mL T n) (R ++ [(q1, .inl (k 0, 6, .inl (upd (atG T i) w9 (((atG T i) w9) + 1)))), (q2, .inl (k 0, 3, .inl (upd (fiG G i) g9 (((fiG G i) g9) + 1))))])) := hD
          refine lv_iload hx hb dX5_isSame_198 (lv_at hl 5 rfl) ?_
          refine lv_aload hx hb dX5_isSame_200 (lv_at hl 0 rfl) ?_
          refine lv_bipush (v := 6) hx hb dX5_isSame_202 (by decide) ?_
          refine k_iald (j := 6) hx hb hE hP (64 + nf + i) (lw_b hi) (by decide) (by decide) dX5_isSame_204 ?_
          refine w_top (show bgR G T i 6 = T 4 i from rfl) ?_
          refine lv_iadd hx hb dX5_isSame_205 ?_
          refine lv_istore (lv' := [(4, .int ((sm (T 4) i) + (T 4 i))), (6, .ref (ba i)), (0, .ref (o 0)), (1, .ref x), (2, .ref q1), (3, .ref q2), (5, .int (nI i))]) hx hb dX5_isSame_206 hl (by decide) rfl (fun ls hl => ?_)
          refine lv_iinc (v := nI (i + 1)) (lv' := [(5, .int (nI (i + 1))), (4, .int ((sm (T 4) i) + (T 4 i))), (6, .ref (ba i)), (0, .ref (o 0)), (1, .ref x), (2, .ref q1), (3, .ref q2)]) hx hb dX5_isSame_208 hl (k := 6) rfl (iinc1 _) (by decide) rfl (fun ls hl => ?_)
          refine lv_goto (tgt := 15) hx hb dX5_isSame_211 (by decide) ?_
          have e9 : atG T (i + 1) = upd (atG T i) w9 (((atG T i) w9) + 1) := atG_s ew (by omega)
          have e8 : fiG G (i + 1) = upd (fiG G i) g9 (((fiG G i) g9) + 1) := fiG_s eg (by omega)
          have hP9 : va_P D vwCl (LW k a tr o fa ba x S U G T n nf (mL T n) (R ++ [(q1, .inl (k 0, 6, .inl (atG T (i + 1)))), (q2, .inl (k 0, 3, .inl (fiG G (i + 1))))])) H := by rw [e9, e8]; exact hP
          have hD9 : va_D A (LW k a tr o fa ba x S U G T n nf (mL T n) (R ++ [(q1, .inl (k 0, 6, .inl (atG T (i + 1)))), (q2, .inl (k 0, 3, .inl (fiG G (i + 1))))])) := by rw [e9, e8]; exact hD
          have h99 := ih ls H locs trivial (lv_sub hl [3, 4, 5, 6, 1, 0] rfl)
          exact h99 hP9 hD9 hS
        · refine lv_iconst (v := 1) hx hb dX5_isSame_167 (by decide) ?_
          refine lv_goto (tgt := 172) hx hb dX5_isSame_168 (by decide) ?_
          refine lv_icmp_eq (tgt := 177) hx hb dX5_isSame_172 (by decide) (fun c_57 => ?_) (fun c_ => absurd (bI_t c_55) c_)
          refine lv_aload_n hx hb dX5_isSame_177 rfl (lv_at hl 3 rfl) ?_
          refine lv_aload hx hb dX5_isSame_178 (lv_at hl 0 rfl) ?_
          refine lv_iconst (v := 3) hx hb dX5_isSame_180 (by decide) ?_
          refine k_iald (j := 3) hx hb hE hP (64 + nf + i) (lw_b hi) (by decide) (by decide) dX5_isSame_181 ?_
          refine w_top (show bgR G T i 3 = T 1 i from rfl) ?_
          refine w_top ew ?_
          refine lv_dup2_11 hx hb dX5_isSame_182 rfl rfl ?_
          refine k_iald (j := w9) hx hb hE hP (64 + nf + n + (R.length + 0)) ((lw_Ri (i := 0)).trans rfl) (by omega) (by decide) dX5_isSame_183 ?_
          refine lv_iconst (v := 1) hx hb dX5_isSame_184 (by decide) ?_
          refine lv_iadd hx hb dX5_isSame_185 ?_
          refine k_iast (j := w9) hx hb hE hP hD hS (64 + nf + n + (R.length + 0)) ((lw_Ri (i := 0)).trans rfl) (by omega) (by decide) dX5_isSame_186 (fun H locs hP hD hS => ?_)
          rw [lw_Riset (i := 0)] at hP hD
          have hP : va_P D vwCl (LW k a tr o fa ba x S U G T n nf (mL T n) (R ++ [(q1, .inl (k 0, 6, .inl (upd (atG T i) w9 (((atG T i) w9) + 1)))), (q2, .inl (k 0, 3, .inl (fiG G i)))])) H := hP
          have hD : va_D A (LW k a tr o fa ba x S U G T n nf (mL T n) (R ++ [(q1, .inl (k 0, 6, .inl (upd (atG T i) w9 (((atG T i) w9) + 1)))), (q2, .inl (k 0, 3, .inl (fiG G i)))])) := hD
          refine lv_aload_n hx hb dX5_isSame_187 rfl (lv_at hl 4 rfl) ?_
          refine lv_aload hx hb dX5_isSame_188 (lv_at hl 0 rfl) ?_
          refine lv_bipush (v := 7) hx hb dX5_isSame_190 (by decide) ?_
          refine k_iald (j := 7) hx hb hE hP (64 + nf + i) (lw_b hi) (by decide) (by decide) dX5_isSame_192 ?_
          refine w_top (show bgR G T i 7 = G 7 i from rfl) ?_
          refine w_top eg ?_
          refine lv_dup2_11 hx hb dX5_isSame_193 rfl rfl ?_
          refine k_iald (j := g9) hx hb hE hP (64 + nf + n + (R.length + 1)) ((lw_Ri (i := 1)).trans rfl) (by omega) (by decide) dX5_isSame_194 ?_
          refine lv_iconst (v := 1) hx hb dX5_isSame_195 (by decide) ?_
          refine lv_iadd hx hb dX5_isSame_196 ?_
          refine k_iast (j := g9) hx hb hE hP hD hS (64 + nf + n + (R.length + 1)) ((lw_Ri (i := 1)).trans rfl) (by omega) (by decide) dX5_isSame_197 (fun H locs hP hD hS => ?_)
          rw [lw_Riset (i := 1)] at hP hD
          have hP : va_P D vwCl (LW k a tr o fa ba x S U G T n nf (mL T n) (R ++ [(q1, .inl (k 0, 6, .inl (upd (atG T i) w9 (((atG T i) w9) + 1)))), (q2, .inl (k 0, 3, .inl (upd (fiG G i) g9 (((fiG G i) g9) + 1))))])) H := hP
          have hD : va_D A (LW k a tr o fa ba x S U G T n nf (mL T n) (R ++ [(q1, .inl (k 0, 6, .inl (upd (atG T i) w9 (((atG T i) w9) + 1)))), (q2, .inl (k 0, 3, .inl (upd (fiG G i) g9 (((fiG G i) g9) + 1))))])) := hD
          refine lv_iload hx hb dX5_isSame_198 (lv_at hl 5 rfl) ?_
          refine lv_aload hx hb dX5_isSame_200 (lv_at hl 0 rfl) ?_
          refine lv_bipush (v := 6) hx hb dX5_isSame_202 (by decide) ?_
          refine k_iald (j := 6) hx hb hE hP (64 + nf + i) (lw_b hi) (by decide) (by decide) dX5_isSame_204 ?_
          refine w_top (show bgR G T i 6 = T 4 i from rfl) ?_
          refine lv_iadd hx hb dX5_isSame_205 ?_
          refine lv_istore (lv' := [(4, .int ((sm (T 4) i) + (T 4 i))), (6, .ref (ba i)), (0, .ref (o 0)), (1, .ref x), (2, .ref q1), (3, .ref q2), (5, .int (nI i))]) hx hb dX5_isSame_206 hl (by decide) rfl (fun ls hl => ?_)
          refine lv_iinc (v := nI (i + 1)) (lv' := [(5, .int (nI (i + 1))), (4, .int ((sm (T 4) i) + (T 4 i))), (6, .ref (ba i)), (0, .ref (o 0)), (1, .ref x), (2, .ref q1), (3, .ref q2)]) hx hb dX5_isSame_208 hl (k := 6) rfl (iinc1 _) (by decide) rfl (fun ls hl => ?_)
          refine lv_goto (tgt := 15) hx hb dX5_isSame_211 (by decide) ?_
          have e9 : atG T (i + 1) = upd (atG T i) w9 (((atG T i) w9) + 1) := atG_s ew (by omega)
          have e8 : fiG G (i + 1) = upd (fiG G i) g9 (((fiG G i) g9) + 1) := fiG_s eg (by omega)
          have hP9 : va_P D vwCl (LW k a tr o fa ba x S U G T n nf (mL T n) (R ++ [(q1, .inl (k 0, 6, .inl (atG T (i + 1)))), (q2, .inl (k 0, 3, .inl (fiG G (i + 1))))])) H := by rw [e9, e8]; exact hP
          have hD9 : va_D A (LW k a tr o fa ba x S U G T n nf (mL T n) (R ++ [(q1, .inl (k 0, 6, .inl (atG T (i + 1)))), (q2, .inl (k 0, 3, .inl (fiG G (i + 1))))])) := by rw [e9, e8]; exact hD
          have h99 := ih ls H locs trivial (lv_sub hl [3, 4, 5, 6, 1, 0] rfl)
          exact h99 hP9 hD9 hS
      · refine lv_aload_n hx hb dX5_isSame_25 rfl (lv_at hl 0 rfl) ?_
        refine va_get (D := D) (ci := 5) (v := .ref (o 3)) (C := RX5) (T := TX5) (N := 6) hx hb hts tu_5 hown hE.1 hP 59 lw_59 rfl 4 (by decide) (hts _ tw_739) (fun _ h9 => h9) rfl dX5_isSame_26 ?_
        refine lv_iload hx hb dX5_isSame_29 (lv_at hl 5 rfl) ?_
        refine k_aald (j := i) hx hb hE hP 62 lw_62 hi (Nat.lt_of_le_of_lt hn (by decide)) dX5_isSame_31 ?_
        refine lv_astore (lv' := [(6, .ref (ba i)), (0, .ref (o 0)), (1, .ref x), (2, .ref q1), (3, .ref q2), (4, .int (sm (T 4) i)), (5, .int (nI i))]) hx hb dX5_isSame_32 hl (by decide) rfl (fun ls hl => ?_)
        refine lv_aload_n hx hb dX5_isSame_34 rfl (lv_at hl 2 rfl) ?_
        refine lv_iload hx hb dX5_isSame_35 (lv_at hl 6 rfl) ?_
        refine c_pVi (rest := []) hC hE hP (lx_flightOf l S (nI i) (xbag_n hra hi)) gc_RX5_51 hd_X4_flightOf ⟨rfl, rfl⟩ ⟨Nat.le_of_ble_eq_true rfl, Nat.le_of_ble_eq_true rfl⟩ 29 lw_29 rfl rfl hl.1 (Nat.le_of_ble_eq_true rfl) ⟨(Nat.le_of_ble_eq_true rfl), (Nat.le_of_ble_eq_true rfl)⟩ dX5_isSame_37 ?_
        refine w_top (show rd 40 (S 3) (nI i) = G 4 i from (rd_40 (Nat.lt_of_lt_of_le hi hn)).trans (hra.fli i hi).1) ?_
        refine lv_aload hx hb dX5_isSame_40 (lv_at hl 0 rfl) ?_
        refine lv_iconst (v := 0) hx hb dX5_isSame_42 (by decide) ?_
        refine k_iald (j := 0) hx hb hE hP (64 + nf + i) (lw_b hi) (by decide) (by decide) dX5_isSame_43 ?_
        refine w_top (show bgR G T i 0 = G 4 i from rfl) ?_
        refine lv_icmp_ne (tgt := 175) hx hb dX5_isSame_44 (by decide) (fun c_ => absurd rfl c_) (fun c_58 => ?_)
        refine lv_aload_n hx hb dX5_isSame_47 rfl (lv_at hl 2 rfl) ?_
        refine lv_iload hx hb dX5_isSame_48 (lv_at hl 6 rfl) ?_
        refine c_pVi (rest := []) hC hE hP (lx_whereIs l S (nI i) (xbag_n hra hi)) gc_RX5_56 hd_X4_whereIs ⟨rfl, rfl⟩ ⟨Nat.le_of_ble_eq_true rfl, Nat.le_of_ble_eq_true rfl⟩ 29 lw_29 rfl rfl hl.1 (Nat.le_of_ble_eq_true rfl) ⟨(Nat.le_of_ble_eq_true rfl), (Nat.le_of_ble_eq_true rfl)⟩ dX5_isSame_50 ?_
        refine w_top (show rd 40 (S 6) (nI i) = T 1 i from (rd_40 (Nat.lt_of_lt_of_le hi hn)).trans (hrb.whr i hi)) ?_
        refine lv_aload hx hb dX5_isSame_53 (lv_at hl 0 rfl) ?_
        refine lv_iconst (v := 3) hx hb dX5_isSame_55 (by decide) ?_
        refine k_iald (j := 3) hx hb hE hP (64 + nf + i) (lw_b hi) (by decide) (by decide) dX5_isSame_56 ?_
        refine w_top (show bgR G T i 3 = T 1 i from rfl) ?_
        refine lv_icmp_ne (tgt := 175) hx hb dX5_isSame_57 (by decide) (fun c_ => absurd rfl c_) (fun c_59 => ?_)
        refine lv_aload_n hx hb dX5_isSame_60 rfl (lv_at hl 2 rfl) ?_
        refine lv_iload hx hb dX5_isSame_61 (lv_at hl 6 rfl) ?_
        refine c_pVi (rest := []) hC hE hP (lx_placeOf l S (nI i) (xbag_n hra hi)) gc_RX5_59 hd_X4_placeOf ⟨rfl, rfl⟩ ⟨Nat.le_of_ble_eq_true rfl, Nat.le_of_ble_eq_true rfl⟩ 29 lw_29 rfl rfl hl.1 (Nat.le_of_ble_eq_true rfl) ⟨(Nat.le_of_ble_eq_true rfl), (Nat.le_of_ble_eq_true rfl)⟩ dX5_isSame_63 ?_
        refine w_top (show fnd (S 12) (nI i) 0 12 = mPl T i 1 from place_eq hrb hi) ?_
        refine lv_aload hx hb dX5_isSame_66 (lv_at hl 0 rfl) ?_
        refine lv_iconst (v := 3) hx hb dX5_isSame_68 (by decide) ?_
        refine k_iald (j := 3) hx hb hE hP (64 + nf + i) (lw_b hi) (by decide) (by decide) dX5_isSame_69 ?_
        refine w_top (show bgR G T i 3 = T 1 i from rfl) ?_
        refine lv_iconst (v := 1) hx hb dX5_isSame_70 (by decide) ?_
        refine lv_icmp_ne (tgt := 81) hx hb dX5_isSame_71 (by decide) (fun c_60 => ?_) (fun c_ => absurd c_ z1)
        refine lv_iconst (v := (-1)) hx hb dX5_isSame_81 (by decide) ?_
        refine lv_icmp_ne (tgt := 175) hx hb dX5_isSame_82 (by decide) (fun c_ => absurd (sel_f z1 _ _) c_) (fun c_61 => ?_)
        refine lv_aload_n hx hb dX5_isSame_85 rfl (lv_at hl 2 rfl) ?_
        refine lv_iload hx hb dX5_isSame_86 (lv_at hl 6 rfl) ?_
        refine c_pVi (rest := []) hC hE hP (lx_chuteOf l S (nI i) (xbag_n hra hi)) gc_RX5_62 hd_X4_chuteOf ⟨rfl, rfl⟩ ⟨Nat.le_of_ble_eq_true rfl, Nat.le_of_ble_eq_true rfl⟩ 29 lw_29 rfl rfl hl.1 (Nat.le_of_ble_eq_true rfl) ⟨(Nat.le_of_ble_eq_true rfl), (Nat.le_of_ble_eq_true rfl)⟩ dX5_isSame_88 ?_
        refine w_top (show rd 40 (S 7) (nI i) = mPl T i 2 from (rd_40 (Nat.lt_of_lt_of_le hi hn)).trans (chute_eq hrb hi)) ?_
        refine lv_aload hx hb dX5_isSame_91 (lv_at hl 0 rfl) ?_
        refine lv_iconst (v := 3) hx hb dX5_isSame_93 (by decide) ?_
        refine k_iald (j := 3) hx hb hE hP (64 + nf + i) (lw_b hi) (by decide) (by decide) dX5_isSame_94 ?_
        refine w_top (show bgR G T i 3 = T 1 i from rfl) ?_
        refine lv_iconst (v := 2) hx hb dX5_isSame_95 (by decide) ?_
        refine lv_icmp_ne (tgt := 106) hx hb dX5_isSame_96 (by decide) (fun c_62 => ?_) (fun c_ => absurd c_ z2)
        refine lv_iconst (v := (-1)) hx hb dX5_isSame_106 (by decide) ?_
        refine lv_icmp_ne (tgt := 175) hx hb dX5_isSame_107 (by decide) (fun c_ => absurd (sel_f z2 _ _) c_) (fun c_63 => ?_)
        refine lv_aload_n hx hb dX5_isSame_110 rfl (lv_at hl 2 rfl) ?_
        refine lv_iload hx hb dX5_isSame_111 (lv_at hl 6 rfl) ?_
        refine c_pVi (rest := []) hC hE hP (lx_readFor l S (nI i) (xbag_n hra hi)) gc_RX5_65 hd_X4_readFor ⟨rfl, rfl⟩ ⟨Nat.le_of_ble_eq_true rfl, Nat.le_of_ble_eq_true rfl⟩ 29 lw_29 rfl rfl hl.1 (Nat.le_of_ble_eq_true rfl) ⟨(Nat.le_of_ble_eq_true rfl), (Nat.le_of_ble_eq_true rfl)⟩ dX5_isSame_113 ?_
        refine w_top (show rd 40 (S 8) (nI i) = T 3 i from (rd_40 (Nat.lt_of_lt_of_le hi hn)).trans (hrb.rdd i hi)) ?_
        refine lv_aload hx hb dX5_isSame_116 (lv_at hl 0 rfl) ?_
        refine lv_iconst (v := 5) hx hb dX5_isSame_118 (by decide) ?_
        refine k_iald (j := 5) hx hb hE hP (64 + nf + i) (lw_b hi) (by decide) (by decide) dX5_isSame_119 ?_
        refine w_top (show bgR G T i 5 = T 3 i from rfl) ?_
        refine lv_icmp_ne (tgt := 175) hx hb dX5_isSame_120 (by decide) (fun c_ => absurd rfl c_) (fun c_64 => ?_)
        refine lv_aload_n hx hb dX5_isSame_123 rfl (lv_at hl 2 rfl) ?_
        refine lv_iload hx hb dX5_isSame_124 (lv_at hl 6 rfl) ?_
        refine c_pVi (rest := []) hC hE hP (lx_missesOf l S (nI i) (xbag_n hra hi)) gc_RX5_68 hd_X4_missesOf ⟨rfl, rfl⟩ ⟨Nat.le_of_ble_eq_true rfl, Nat.le_of_ble_eq_true rfl⟩ 29 lw_29 rfl rfl hl.1 (Nat.le_of_ble_eq_true rfl) ⟨(Nat.le_of_ble_eq_true rfl), (Nat.le_of_ble_eq_true rfl)⟩ dX5_isSame_126 ?_
        refine w_top (show rd 40 (S 9) (nI i) = T 4 i from (rd_40 (Nat.lt_of_lt_of_le hi hn)).trans (hrb.mis i hi)) ?_
        refine lv_aload hx hb dX5_isSame_129 (lv_at hl 0 rfl) ?_
        refine lv_bipush (v := 6) hx hb dX5_isSame_131 (by decide) ?_
        refine k_iald (j := 6) hx hb hE hP (64 + nf + i) (lw_b hi) (by decide) (by decide) dX5_isSame_133 ?_
        refine w_top (show bgR G T i 6 = T 4 i from rfl) ?_
        refine lv_icmp_ne (tgt := 175) hx hb dX5_isSame_134 (by decide) (fun c_ => absurd rfl c_) (fun c_65 => ?_)
        refine lv_aload_n hx hb dX5_isSame_137 rfl (lv_at hl 2 rfl) ?_
        refine lv_iload hx hb dX5_isSame_138 (lv_at hl 6 rfl) ?_
        refine c_pVi (rest := []) hC hE hP (lx_isMisrouted l S (nI i) (xbag_n hra hi)) gc_RX5_71 hd_X4_isMisrouted ⟨rfl, rfl⟩ ⟨Nat.le_of_ble_eq_true rfl, Nat.le_of_ble_eq_true rfl⟩ 29 lw_29 rfl rfl hl.1 (Nat.le_of_ble_eq_true rfl) ⟨(Nat.le_of_ble_eq_true rfl), (Nat.le_of_ble_eq_true rfl)⟩ dX5_isSame_140 ?_
        refine w_top (show bI (xAst S (nI i)) = bI (mMis G T i) from bI_cong (ast_iff hra hrb hi)) ?_
        refine lv_aload_n hx hb dX5_isSame_143 rfl (lv_at hl 1 rfl) ?_
        refine lv_iload hx hb dX5_isSame_144 (lv_at hl 6 rfl) ?_
        obtain ⟨f2, k1, k2, k3, k4, k5⟩ := flight_of hra hi
        refine c_pVi (rest := [.int (bI (mMis G T i))]) hC hE hP (metX5_isMisrouted l G T hn hnf i f2 hi k1 k3) gc_RX5_75 hd_X5_isMisrouted ⟨rfl, rfl⟩ ⟨Nat.le_of_ble_eq_true rfl, Nat.le_of_ble_eq_true rfl⟩ 59 lw_59 rfl rfl hl.1 (Nat.le_of_ble_eq_true rfl) ⟨(Nat.le_of_ble_eq_true rfl), (Nat.le_of_ble_eq_true rfl)⟩ dX5_isSame_146 ?_
        refine w_top (show bI (sMis G T f2 i) = bI (mMis G T i) from bI_cong (smis_iff hra k2 k5).symm) ?_
        refine lv_icmp_ne (tgt := 175) hx hb dX5_isSame_149 (by decide) (fun c_ => absurd rfl c_) (fun c_66 => ?_)
        refine lv_aload_n hx hb dX5_isSame_152 rfl (lv_at hl 2 rfl) ?_
        refine lv_iload hx hb dX5_isSame_153 (lv_at hl 6 rfl) ?_
        refine c_pVi (rest := []) hC hE hP (lx_hasOpenFile l S (nI i) (xbag_n hra hi)) gc_RX5_76 hd_X4_hasOpenFile ⟨rfl, rfl⟩ ⟨Nat.le_of_ble_eq_true rfl, Nat.le_of_ble_eq_true rfl⟩ 29 lw_29 rfl rfl hl.1 (Nat.le_of_ble_eq_true rfl) ⟨(Nat.le_of_ble_eq_true rfl), (Nat.le_of_ble_eq_true rfl)⟩ dX5_isSame_155 ?_
        refine w_top (show bI (rd 40 (S 10) (nI i) = 1) = bI (G 7 i = 1) from bI_cong (by rw [rd_40 (Nat.lt_of_lt_of_le hi hn), hra.fil i hi])) ?_
        refine lv_aload hx hb dX5_isSame_158 (lv_at hl 0 rfl) ?_
        refine lv_bipush (v := 7) hx hb dX5_isSame_160 (by decide) ?_
        refine k_iald (j := 7) hx hb hE hP (64 + nf + i) (lw_b hi) (by decide) (by decide) dX5_isSame_162 ?_
        refine w_top (show bgR G T i 7 = G 7 i from rfl) ?_
        refine lv_iconst (v := 1) hx hb dX5_isSame_163 (by decide) ?_
        refine lv_icmp_ne (tgt := 171) hx hb dX5_isSame_164 (by decide) (fun c_67 => ?_) (fun c_67 => ?_)
        · refine lv_iconst (v := 0) hx hb dX5_isSame_171 (by decide) ?_
          refine lv_icmp_eq (tgt := 177) hx hb dX5_isSame_172 (by decide) (fun c_68 => ?_) (fun c_ => absurd (bI_f c_67) c_)
          refine lv_aload_n hx hb dX5_isSame_177 rfl (lv_at hl 3 rfl) ?_
          refine lv_aload hx hb dX5_isSame_178 (lv_at hl 0 rfl) ?_
          refine lv_iconst (v := 3) hx hb dX5_isSame_180 (by decide) ?_
          refine k_iald (j := 3) hx hb hE hP (64 + nf + i) (lw_b hi) (by decide) (by decide) dX5_isSame_181 ?_
          refine w_top (show bgR G T i 3 = T 1 i from rfl) ?_
          refine w_top ew ?_
          refine lv_dup2_11 hx hb dX5_isSame_182 rfl rfl ?_
          refine k_iald (j := w9) hx hb hE hP (64 + nf + n + (R.length + 0)) ((lw_Ri (i := 0)).trans rfl) (by omega) (by decide) dX5_isSame_183 ?_
          refine lv_iconst (v := 1) hx hb dX5_isSame_184 (by decide) ?_
          refine lv_iadd hx hb dX5_isSame_185 ?_
          refine k_iast (j := w9) hx hb hE hP hD hS (64 + nf + n + (R.length + 0)) ((lw_Ri (i := 0)).trans rfl) (by omega) (by decide) dX5_isSame_186 (fun H locs hP hD hS => ?_)
          rw [lw_Riset (i := 0)] at hP hD
          have hP : va_P D vwCl (LW k a tr o fa ba x S U G T n nf (mL T n) (R ++ [(q1, .inl (k 0, 6, .inl (upd (atG T i) w9 (((atG T i) w9) + 1)))), (q2, .inl (k 0, 3, .inl (fiG G i)))])) H := hP
          have hD : va_D A (LW k a tr o fa ba x S U G T n nf (mL T n) (R ++ [(q1, .inl (k 0, 6, .inl (upd (atG T i) w9 (((atG T i) w9) + 1)))), (q2, .inl (k 0, 3, .inl (fiG G i)))])) := hD
          refine lv_aload_n hx hb dX5_isSame_187 rfl (lv_at hl 4 rfl) ?_
          refine lv_aload hx hb dX5_isSame_188 (lv_at hl 0 rfl) ?_
          refine lv_bipush (v := 7) hx hb dX5_isSame_190 (by decide) ?_
          refine k_iald (j := 7) hx hb hE hP (64 + nf + i) (lw_b hi) (by decide) (by decide) dX5_isSame_192 ?_
          refine w_top (show bgR G T i 7 = G 7 i from rfl) ?_
          refine w_top eg ?_
          refine lv_dup2_11 hx hb dX5_isSame_193 rfl rfl ?_
          refine k_iald (j := g9) hx hb hE hP (64 + nf + n + (R.length + 1)) ((lw_Ri (i := 1)).trans rfl) (by omega) (by decide) dX5_isSame_194 ?_
          refine lv_iconst (v := 1) hx hb dX5_isSame_195 (by decide) ?_
          refine lv_iadd hx hb dX5_isSame_196 ?_
          refine k_iast (j := g9) hx hb hE hP hD hS (64 + nf + n + (R.length + 1)) ((lw_Ri (i := 1)).trans rfl) (by omega) (by decide) dX5_isSame_197 (fun H locs hP hD hS => ?_)
          rw [lw_Riset (i := 1)] at hP hD
          have hP : va_P D vwCl (LW k a tr o fa ba x S U G T n nf (mL T n) (R ++ [(q1, .inl (k 0, 6, .inl (upd (atG T i) w9 (((atG T i) w9) + 1)))), (q2, .inl (k 0, 3, .inl (upd (fiG G i) g9 (((fiG G i) g9) + 1))))])) H := hP
          have hD : va_D A (LW k a tr o fa ba x S U G T n nf (mL T n) (R ++ [(q1, .inl (k 0, 6, .inl (upd (atG T i) w9 (((atG T i) w9) + 1)))), (q2, .inl (k 0, 3, .inl (upd (fiG G i) g9 (((fiG G i) g9) + 1))))])) := hD
          refine lv_iload hx hb dX5_isSame_198 (lv_at hl 5 rfl) ?_
          refine lv_aload hx hb dX5_isSame_200 (lv_at hl 0 rfl) ?_
          refine lv_bipush (v := 6) hx hb dX5_isSame_202 (by decide) ?_
          refine k_iald (j := 6) hx hb hE hP (64 + nf + i) (lw_b hi) (by decide) (by decide) dX5_isSame_204 ?_
          refine w_top (show bgR G T i 6 = T 4 i from rfl) ?_
          refine lv_iadd hx hb dX5_isSame_205 ?_
          refine lv_istore (lv' := [(4, .int ((sm (T 4) i) + (T 4 i))), (6, .ref (ba i)), (0, .ref (o 0)), (1, .ref x), (2, .ref q1), (3, .ref q2), (5, .int (nI i))]) hx hb dX5_isSame_206 hl (by decide) rfl (fun ls hl => ?_)
          refine lv_iinc (v := nI (i + 1)) (lv' := [(5, .int (nI (i + 1))), (4, .int ((sm (T 4) i) + (T 4 i))), (6, .ref (ba i)), (0, .ref (o 0)), (1, .ref x), (2, .ref q1), (3, .ref q2)]) hx hb dX5_isSame_208 hl (k := 6) rfl (iinc1 _) (by decide) rfl (fun ls hl => ?_)
          refine lv_goto (tgt := 15) hx hb dX5_isSame_211 (by decide) ?_
          have e9 : atG T (i + 1) = upd (atG T i) w9 (((atG T i) w9) + 1) := atG_s ew (by omega)
          have e8 : fiG G (i + 1) = upd (fiG G i) g9 (((fiG G i) g9) + 1) := fiG_s eg (by omega)
          have hP9 : va_P D vwCl (LW k a tr o fa ba x S U G T n nf (mL T n) (R ++ [(q1, .inl (k 0, 6, .inl (atG T (i + 1)))), (q2, .inl (k 0, 3, .inl (fiG G (i + 1))))])) H := by rw [e9, e8]; exact hP
          have hD9 : va_D A (LW k a tr o fa ba x S U G T n nf (mL T n) (R ++ [(q1, .inl (k 0, 6, .inl (atG T (i + 1)))), (q2, .inl (k 0, 3, .inl (fiG G (i + 1))))])) := by rw [e9, e8]; exact hD
          have h99 := ih ls H locs trivial (lv_sub hl [3, 4, 5, 6, 1, 0] rfl)
          exact h99 hP9 hD9 hS
        · refine lv_iconst (v := 1) hx hb dX5_isSame_167 (by decide) ?_
          refine lv_goto (tgt := 172) hx hb dX5_isSame_168 (by decide) ?_
          refine lv_icmp_eq (tgt := 177) hx hb dX5_isSame_172 (by decide) (fun c_69 => ?_) (fun c_ => absurd (bI_t c_67) c_)
          refine lv_aload_n hx hb dX5_isSame_177 rfl (lv_at hl 3 rfl) ?_
          refine lv_aload hx hb dX5_isSame_178 (lv_at hl 0 rfl) ?_
          refine lv_iconst (v := 3) hx hb dX5_isSame_180 (by decide) ?_
          refine k_iald (j := 3) hx hb hE hP (64 + nf + i) (lw_b hi) (by decide) (by decide) dX5_isSame_181 ?_
          refine w_top (show bgR G T i 3 = T 1 i from rfl) ?_
          refine w_top ew ?_
          refine lv_dup2_11 hx hb dX5_isSame_182 rfl rfl ?_
          refine k_iald (j := w9) hx hb hE hP (64 + nf + n + (R.length + 0)) ((lw_Ri (i := 0)).trans rfl) (by omega) (by decide) dX5_isSame_183 ?_
          refine lv_iconst (v := 1) hx hb dX5_isSame_184 (by decide) ?_
          refine lv_iadd hx hb dX5_isSame_185 ?_
          refine k_iast (j := w9) hx hb hE hP hD hS (64 + nf + n + (R.length + 0)) ((lw_Ri (i := 0)).trans rfl) (by omega) (by decide) dX5_isSame_186 (fun H locs hP hD hS => ?_)
          rw [lw_Riset (i := 0)] at hP hD
          have hP : va_P D vwCl (LW k a tr o fa ba x S U G T n nf (mL T n) (R ++ [(q1, .inl (k 0, 6, .inl (upd (atG T i) w9 (((atG T i) w9) + 1)))), (q2, .inl (k 0, 3, .inl (fiG G i)))])) H := hP
          have hD : va_D A (LW k a tr o fa ba x S U G T n nf (mL T n) (R ++ [(q1, .inl (k 0, 6, .inl (upd (atG T i) w9 (((atG T i) w9) + 1)))), (q2, .inl (k 0, 3, .inl (fiG G i)))])) := hD
          refine lv_aload_n hx hb dX5_isSame_187 rfl (lv_at hl 4 rfl) ?_
          refine lv_aload hx hb dX5_isSame_188 (lv_at hl 0 rfl) ?_
          refine lv_bipush (v := 7) hx hb dX5_isSame_190 (by decide) ?_
          refine k_iald (j := 7) hx hb hE hP (64 + nf + i) (lw_b hi) (by decide) (by decide) dX5_isSame_192 ?_
          refine w_top (show bgR G T i 7 = G 7 i from rfl) ?_
          refine w_top eg ?_
          refine lv_dup2_11 hx hb dX5_isSame_193 rfl rfl ?_
          refine k_iald (j := g9) hx hb hE hP (64 + nf + n + (R.length + 1)) ((lw_Ri (i := 1)).trans rfl) (by omega) (by decide) dX5_isSame_194 ?_
          refine lv_iconst (v := 1) hx hb dX5_isSame_195 (by decide) ?_
          refine lv_iadd hx hb dX5_isSame_196 ?_
          refine k_iast (j := g9) hx hb hE hP hD hS (64 + nf + n + (R.length + 1)) ((lw_Ri (i := 1)).trans rfl) (by omega) (by decide) dX5_isSame_197 (fun H locs hP hD hS => ?_)
          rw [lw_Riset (i := 1)] at hP hD
          have hP : va_P D vwCl (LW k a tr o fa ba x S U G T n nf (mL T n) (R ++ [(q1, .inl (k 0, 6, .inl (upd (atG T i) w9 (((atG T i) w9) + 1)))), (q2, .inl (k 0, 3, .inl (upd (fiG G i) g9 (((fiG G i) g9) + 1))))])) H := hP
          have hD : va_D A (LW k a tr o fa ba x S U G T n nf (mL T n) (R ++ [(q1, .inl (k 0, 6, .inl (upd (atG T i) w9 (((atG T i) w9) + 1)))), (q2, .inl (k 0, 3, .inl (upd (fiG G i) g9 (((fiG G i) g9) + 1))))])) := hD
          refine lv_iload hx hb dX5_isSame_198 (lv_at hl 5 rfl) ?_
          refine lv_aload hx hb dX5_isSame_200 (lv_at hl 0 rfl) ?_
          refine lv_bipush (v := 6) hx hb dX5_isSame_202 (by decide) ?_
          refine k_iald (j := 6) hx hb hE hP (64 + nf + i) (lw_b hi) (by decide) (by decide) dX5_isSame_204 ?_
          refine w_top (show bgR G T i 6 = T 4 i from rfl) ?_
          refine lv_iadd hx hb dX5_isSame_205 ?_
          refine lv_istore (lv' := [(4, .int ((sm (T 4) i) + (T 4 i))), (6, .ref (ba i)), (0, .ref (o 0)), (1, .ref x), (2, .ref q1), (3, .ref q2), (5, .int (nI i))]) hx hb dX5_isSame_206 hl (by decide) rfl (fun ls hl => ?_)
          refine lv_iinc (v := nI (i + 1)) (lv' := [(5, .int (nI (i + 1))), (4, .int ((sm (T 4) i) + (T 4 i))), (6, .ref (ba i)), (0, .ref (o 0)), (1, .ref x), (2, .ref q1), (3, .ref q2)]) hx hb dX5_isSame_208 hl (k := 6) rfl (iinc1 _) (by decide) rfl (fun ls hl => ?_)
          refine lv_goto (tgt := 15) hx hb dX5_isSame_211 (by decide) ?_
          have e9 : atG T (i + 1) = upd (atG T i) w9 (((atG T i) w9) + 1) := atG_s ew (by omega)
          have e8 : fiG G (i + 1) = upd (fiG G i) g9 (((fiG G i) g9) + 1) := fiG_s eg (by omega)
          have hP9 : va_P D vwCl (LW k a tr o fa ba x S U G T n nf (mL T n) (R ++ [(q1, .inl (k 0, 6, .inl (atG T (i + 1)))), (q2, .inl (k 0, 3, .inl (fiG G (i + 1))))])) H := by rw [e9, e8]; exact hP
          have hD9 : va_D A (LW k a tr o fa ba x S U G T n nf (mL T n) (R ++ [(q1, .inl (k 0, 6, .inl (atG T (i + 1)))), (q2, .inl (k 0, 3, .inl (fiG G (i + 1))))])) := by rw [e9, e8]; exact hD
          have h99 := ih ls H locs trivial (lv_sub hl [3, 4, 5, 6, 1, 0] rfl)
          exact h99 hP9 hD9 hS
  · exact lv_sub hl [4, 5, 3, 2, 1, 0] rfl
  · exact hP
  · exact hD
  · exact hS
set_option maxRecDepth 100000 in
/-- all is as by hand -/
theorem metX5_isSame (l : Launch) {D : va_G} {k : Nat → ClassId} {a tr o fa ba : Nat → Nat} {x : Nat} {S U G T : HS} {n nf : Nat} {R : va_W} {sz : Nat} (hra : RA S G n nf) (hrb : RB S T n) (hti : TI T n) (hgi : GI G T n nf) : MetD lw_cs l yX5_isSame (ws_ yX5_isSame cX5_isSame 8 (some FieldType.boolean)) ({ frames := 8, cells := 2, slots := 9, locals := 142 } : Room) (va_Pc [.ref (o 0), .ref x] (gP D k (LW k a tr o fa ba x S U G T n nf (mL T n) R) sz (fun _ => True))) (va_Qi (fun (r : Int32) (_ : Unit) => r = 1) (fun _ _ => True) (va_A (LW k a tr o fa ba x S U G T n nf (mL T n) R) sz)) 2 9 (va_A (LW k a tr o fa ba x S U G T n nf (mL T n) R) sz) := by
  refine MetD.ofW (cc := cX5_isSame) (maxL := 8) (ret := some FieldType.boolean) rfl rfl ?_
  intro p e s m args below meth c s₁ B hml hv hd0
  obtain ⟨rfl, rfl, hE, hP, hD, -⟩ := hv
  have hts := atoms_spec (ws := ws_ yX5_isSame cX5_isSame 8 (some FieldType.boolean)) B.pre
  rw [lg_entry_eq]
  refine W.base ?_
  exact same_all (A := va_A (LW k a tr o fa ba x S U G T n nf (mL T n) R) s.heap.size) ⟨B.exec, B.bytes, hml, findClass_of_methodNamed B.named, fun w h => hts w (List.mem_cons_of_mem _ h)⟩ B.returns B.notSynchronized hE (fun q h => Or.inr h) hra hrb hti hgi (lv_entry (n := 8) ([.ref (o 0), .ref x] : List Value) (Nat.le_of_ble_eq_true rfl)) hP hD.self va_S.rf

