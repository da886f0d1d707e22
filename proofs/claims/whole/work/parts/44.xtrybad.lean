set_option maxHeartbeats 4000000 in
set_option maxRecDepth 100000 in
theorem xmtX4_minutesUntilChute_0 (l : Launch) {D : va_G} {k : Nat → ClassId} {a tr : Nat → Nat} {x : Nat} {R : va_W} (S : HS) (b : Int32) (hfl : l.stackTraces = false) (hbad : ¬ xBag S b) : XM l yX4_minutesUntilChute cX4_minutesUntilChute 3 (some FieldType.int) rmX4_minutesUntilChute D k (hw k a S ++ ((x, .inr (4, [.ref (a 0), .ref (tr 0)])) :: R)) [.ref x, .int b] "java/lang/IndexOutOfBoundsException" := by
  refine XM_of rfl (Nat.le_of_ble_eq_true rfl) ?_
  intro p e s m below meth c hC hlk hnt hE hP hX hZ ls hl
  have hC : CallFix p m c cX4_minutesUntilChute 3 s _ lw_all RX4 := hC
  have hx := hC.1
  have hb := hC.2.1
  have hown : s.vm.findClass RX4 = some m.cls := hC.2.2.2.1
  have hts := hC.2.2.2.2
  have hl : lv_has ls 3 [(0, .ref x), (1, .int b)] := hl
  refine lv_aload_n hx hb dX4_minutesUntilChute_0 rfl (lv_at hl 0 rfl) ?_
  refine lv_iload_n hx hb dX4_minutesUntilChute_1 rfl (lv_at hl 1 rfl) ?_
  refine c_xV (rest := []) (E := "java/lang/IndexOutOfBoundsException") hC hE hP hX hZ (xmtX4_needBag l S b hfl hbad) gc_RX4_95 hd_X4_needBag ⟨Nat.le_of_ble_eq_true rfl, Nat.le_of_ble_eq_true rfl⟩ 29 xo_29 rfl rfl hl.1 (Nat.le_of_ble_eq_true rfl) ⟨Nat.le_of_ble_eq_true rfl, Nat.le_of_ble_eq_true rfl⟩ dX4_minutesUntilChute_2 (fun ce q9 H1 h1 h2 h3 hP1 hz1 hk1 => ?_)
  exact x_out hnt hlk h1 h2 h3 hP1 hz1 hk1

set_option maxHeartbeats 4000000 in
set_option maxRecDepth 100000 in
theorem xmtX4_readyAfter_0 (l : Launch) {D : va_G} {k : Nat → ClassId} {a tr : Nat → Nat} {x : Nat} {R : va_W} (S : HS) (f : Int32) (N : Nat) (hfl : l.stackTraces = false) (hbad : ¬ xFlt S f) : XM l yX4_readyAfter cX4_readyAfter 3 (some FieldType.int) rmX4_readyAfter D k (hw k a S ++ ((x, .inr (4, [.ref (a 0), .ref (tr 0)])) :: R)) [.ref x, .int f, .int (nI N)] "java/lang/IndexOutOfBoundsException" := by
  refine XM_of rfl (Nat.le_of_ble_eq_true rfl) ?_
  intro p e s m below meth c hC hlk hnt hE hP hX hZ ls hl
  have hC : CallFix p m c cX4_readyAfter 3 s _ lw_all RX4 := hC
  have hx := hC.1
  have hb := hC.2.1
  have hown : s.vm.findClass RX4 = some m.cls := hC.2.2.2.1
  have hts := hC.2.2.2.2
  have hl : lv_has ls 3 [(0, .ref x), (1, .int f), (2, .int (nI N))] := hl
  refine lv_aload_n hx hb dX4_readyAfter_0 rfl (lv_at hl 0 rfl) ?_
  refine lv_iload_n hx hb dX4_readyAfter_1 rfl (lv_at hl 1 rfl) ?_
  refine c_xV (rest := []) (E := "java/lang/IndexOutOfBoundsException") hC hE hP hX hZ (xmtX4_needFlight l S f hfl hbad) gc_RX4_40 hd_X4_needFlight ⟨Nat.le_of_ble_eq_true rfl, Nat.le_of_ble_eq_true rfl⟩ 29 xo_29 rfl rfl hl.1 (Nat.le_of_ble_eq_true rfl) ⟨Nat.le_of_ble_eq_true rfl, Nat.le_of_ble_eq_true rfl⟩ dX4_readyAfter_2 (fun ce q9 H1 h1 h2 h3 hP1 hz1 hk1 => ?_)
  exact x_out hnt hlk h1 h2 h3 hP1 hz1 hk1

set_option maxHeartbeats 4000000 in
set_option maxRecDepth 100000 in
theorem xmtX4_readyAfter_1 (l : Launch) {D : va_G} {k : Nat → ClassId} {a tr : Nat → Nat} {x : Nat} {R : va_W} (S : HS) (f : Int32) (N : Nat) (hfl : l.stackTraces = false) (hk0 : xFlt S f) (hbad : ¬ xM60 (nI N)) : XM l yX4_readyAfter cX4_readyAfter 3 (some FieldType.int) rmX4_readyAfter D k (hw k a S ++ ((x, .inr (4, [.ref (a 0), .ref (tr 0)])) :: R)) [.ref x, .int f, .int (nI N)] "java/lang/IllegalArgumentException" := by
  refine XM_of rfl (Nat.le_of_ble_eq_true rfl) ?_
  intro p e s m below meth c hC hlk hnt hE hP hX hZ ls hl
  have hC : CallFix p m c cX4_readyAfter 3 s _ lw_all RX4 := hC
  have hx := hC.1
  have hb := hC.2.1
  have hown : s.vm.findClass RX4 = some m.cls := hC.2.2.2.1
  have hts := hC.2.2.2.2
  have hl : lv_has ls 3 [(0, .ref x), (1, .int f), (2, .int (nI N))] := hl
  refine lv_aload_n hx hb dX4_readyAfter_0 rfl (lv_at hl 0 rfl) ?_
  refine lv_iload_n hx hb dX4_readyAfter_1 rfl (lv_at hl 1 rfl) ?_
  refine c_pVv (rest := []) hC hE hP (metX4_needFlight l S f (show xFlt S f from hk0)) gc_RX4_40 hd_X4_needFlight ⟨rfl, rfl⟩ ⟨Nat.le_of_ble_eq_true rfl, Nat.le_of_ble_eq_true rfl⟩ 29 xo_29 rfl rfl hl.1 (Nat.le_of_ble_eq_true rfl) ⟨Nat.le_of_ble_eq_true rfl, Nat.le_of_ble_eq_true rfl⟩ dX4_readyAfter_2 ?_
  refine lv_iload_n hx hb dX4_readyAfter_5 rfl (lv_at hl 2 rfl) ?_
  refine c_xS (rest := []) (E := "java/lang/IllegalArgumentException") hC hE hP hX hZ (xmtX4_needMinutes l (nI N) hfl hbad) gc_RX4_136 hd_X4_needMinutes ⟨Nat.le_of_ble_eq_true rfl, Nat.le_of_ble_eq_true rfl⟩ rfl hl.1 (Nat.le_of_ble_eq_true rfl) ⟨Nat.le_of_ble_eq_true rfl, Nat.le_of_ble_eq_true rfl⟩ dX4_readyAfter_6 (fun ce q9 H1 h1 h2 h3 hP1 hz1 hk1 => ?_)
  exact x_out hnt hlk h1 h2 h3 hP1 hz1 hk1

set_option maxHeartbeats 4000000 in
set_option maxRecDepth 100000 in
theorem xmtX4_bestChute_0 (l : Launch) {D : va_G} {k : Nat → ClassId} {a tr : Nat → Nat} {x : Nat} {R : va_W} (S : HS) (f : Int32) (N : Nat) (hfl : l.stackTraces = false) (hbad : ¬ xFlt S f) : XM l yX4_bestChute cX4_bestChute 7 (some FieldType.int) rmX4_bestChute D k (hw k a S ++ ((x, .inr (4, [.ref (a 0), .ref (tr 0)])) :: R)) [.ref x, .int f, .int (nI N)] "java/lang/IndexOutOfBoundsException" := by
  refine XM_of rfl (Nat.le_of_ble_eq_true rfl) ?_
  intro p e s m below meth c hC hlk hnt hE hP hX hZ ls hl
  have hC : CallFix p m c cX4_bestChute 7 s _ lw_all RX4 := hC
  have hx := hC.1
  have hb := hC.2.1
  have hown : s.vm.findClass RX4 = some m.cls := hC.2.2.2.1
  have hts := hC.2.2.2.2
  have hl : lv_has ls 7 [(0, .ref x), (1, .int f), (2, .int (nI N))] := hl
  refine lv_aload_n hx hb dX4_bestChute_0 rfl (lv_at hl 0 rfl) ?_
  refine lv_iload_n hx hb dX4_bestChute_1 rfl (lv_at hl 1 rfl) ?_
  refine c_xV (rest := []) (E := "java/lang/IndexOutOfBoundsException") hC hE hP hX hZ (xmtX4_needFlight l S f hfl hbad) gc_RX4_40 hd_X4_needFlight ⟨Nat.le_of_ble_eq_true rfl, Nat.le_of_ble_eq_true rfl⟩ 29 xo_29 rfl rfl hl.1 (Nat.le_of_ble_eq_true rfl) ⟨Nat.le_of_ble_eq_true rfl, Nat.le_of_ble_eq_true rfl⟩ dX4_bestChute_2 (fun ce q9 H1 h1 h2 h3 hP1 hz1 hk1 => ?_)
  exact x_out hnt hlk h1 h2 h3 hP1 hz1 hk1

set_option maxHeartbeats 4000000 in
set_option maxRecDepth 100000 in
theorem xmtX4_bestChute_1 (l : Launch) {D : va_G} {k : Nat → ClassId} {a tr : Nat → Nat} {x : Nat} {R : va_W} (S : HS) (f : Int32) (N : Nat) (hfl : l.stackTraces = false) (hk0 : xFlt S f) (hbad : ¬ xM60 (nI N)) : XM l yX4_bestChute cX4_bestChute 7 (some FieldType.int) rmX4_bestChute D k (hw k a S ++ ((x, .inr (4, [.ref (a 0), .ref (tr 0)])) :: R)) [.ref x, .int f, .int (nI N)] "java/lang/IllegalArgumentException" := by
  refine XM_of rfl (Nat.le_of_ble_eq_true rfl) ?_
  intro p e s m below meth c hC hlk hnt hE hP hX hZ ls hl
  have hC : CallFix p m c cX4_bestChute 7 s _ lw_all RX4 := hC
  have hx := hC.1
  have hb := hC.2.1
  have hown : s.vm.findClass RX4 = some m.cls := hC.2.2.2.1
  have hts := hC.2.2.2.2
  have hl : lv_has ls 7 [(0, .ref x), (1, .int f), (2, .int (nI N))] := hl
  refine lv_aload_n hx hb dX4_bestChute_0 rfl (lv_at hl 0 rfl) ?_
  refine lv_iload_n hx hb dX4_bestChute_1 rfl (lv_at hl 1 rfl) ?_
  refine c_pVv (rest := []) hC hE hP (metX4_needFlight l S f (show xFlt S f from hk0)) gc_RX4_40 hd_X4_needFlight ⟨rfl, rfl⟩ ⟨Nat.le_of_ble_eq_true rfl, Nat.le_of_ble_eq_true rfl⟩ 29 xo_29 rfl rfl hl.1 (Nat.le_of_ble_eq_true rfl) ⟨Nat.le_of_ble_eq_true rfl, Nat.le_of_ble_eq_true rfl⟩ dX4_bestChute_2 ?_
  refine lv_iload_n hx hb dX4_bestChute_5 rfl (lv_at hl 2 rfl) ?_
  refine c_xS (rest := []) (E := "java/lang/IllegalArgumentException") hC hE hP hX hZ (xmtX4_needMinutes l (nI N) hfl hbad) gc_RX4_136 hd_X4_needMinutes ⟨Nat.le_of_ble_eq_true rfl, Nat.le_of_ble_eq_true rfl⟩ rfl hl.1 (Nat.le_of_ble_eq_true rfl) ⟨Nat.le_of_ble_eq_true rfl, Nat.le_of_ble_eq_true rfl⟩ dX4_bestChute_6 (fun ce q9 H1 h1 h2 h3 hP1 hz1 hk1 => ?_)
  exact x_out hnt hlk h1 h2 h3 hP1 hz1 hk1

set_option maxHeartbeats 4000000 in
set_option maxRecDepth 100000 in
theorem xmtX4_bestChute_2 (l : Launch) {D : va_G} {k : Nat → ClassId} {a tr : Nat → Nat} {x : Nat} {R : va_W} (S : HS) (f : Int32) (N : Nat) (hfl : l.stackTraces = false) (hk0 : xFlt S f) (hk1 : xM60 (nI N)) (hbad : ¬ (¬ (xGone S f))) : XM l yX4_bestChute cX4_bestChute 7 (some FieldType.int) rmX4_bestChute D k (hw k a S ++ ((x, .inr (4, [.ref (a 0), .ref (tr 0)])) :: R)) [.ref x, .int f, .int (nI N)] "java/lang/IllegalStateException" := by
  refine XM_of rfl (Nat.le_of_ble_eq_true rfl) ?_
  intro p e s m below meth c hC hlk hnt hE hP hX hZ ls hl
  have hC : CallFix p m c cX4_bestChute 7 s _ lw_all RX4 := hC
  have hx := hC.1
  have hb := hC.2.1
  have hown : s.vm.findClass RX4 = some m.cls := hC.2.2.2.1
  have hts := hC.2.2.2.2
  have hl : lv_has ls 7 [(0, .ref x), (1, .int f), (2, .int (nI N))] := hl
  refine lv_aload_n hx hb dX4_bestChute_0 rfl (lv_at hl 0 rfl) ?_
  refine lv_iload_n hx hb dX4_bestChute_1 rfl (lv_at hl 1 rfl) ?_
  refine c_pVv (rest := []) hC hE hP (metX4_needFlight l S f (show xFlt S f from hk0)) gc_RX4_40 hd_X4_needFlight ⟨rfl, rfl⟩ ⟨Nat.le_of_ble_eq_true rfl, Nat.le_of_ble_eq_true rfl⟩ 29 xo_29 rfl rfl hl.1 (Nat.le_of_ble_eq_true rfl) ⟨Nat.le_of_ble_eq_true rfl, Nat.le_of_ble_eq_true rfl⟩ dX4_bestChute_2 ?_
  refine lv_iload_n hx hb dX4_bestChute_5 rfl (lv_at hl 2 rfl) ?_
  refine c_pSv (rest := []) hC hE hP (metX4_needMinutes l (nI N) (show xM60 (nI N) from hk1)) gc_RX4_136 hd_X4_needMinutes ⟨rfl, rfl⟩ ⟨Nat.le_of_ble_eq_true rfl, Nat.le_of_ble_eq_true rfl⟩ rfl hl.1 (Nat.le_of_ble_eq_true rfl) ⟨Nat.le_of_ble_eq_true rfl, Nat.le_of_ble_eq_true rfl⟩ dX4_bestChute_6 ?_
  refine lv_aload_n hx hb dX4_bestChute_9 rfl (lv_at hl 0 rfl) ?_
  refine lv_iload_n hx hb dX4_bestChute_10 rfl (lv_at hl 1 rfl) ?_
  refine c_xV (rest := []) (E := "java/lang/IllegalStateException") hC hE hP hX hZ (xmtX4_needNotGone l S f hfl hbad) gc_RX4_47 hd_X4_needNotGone ⟨Nat.le_of_ble_eq_true rfl, Nat.le_of_ble_eq_true rfl⟩ 29 xo_29 rfl rfl hl.1 (Nat.le_of_ble_eq_true rfl) ⟨Nat.le_of_ble_eq_true rfl, Nat.le_of_ble_eq_true rfl⟩ dX4_bestChute_11 (fun ce q9 H1 h1 h2 h3 hP1 hz1 hk1 => ?_)
  exact x_out hnt hlk h1 h2 h3 hP1 hz1 hk1

