section
-- ===== PART A: goes FIRST, ahead of the names: the tables' words, and 'selects' of the private methods out of them =====
/-- a private method of a class that the tables say can be made, by its rows of tables_1 -/
def lw_okq (q : MethodName × Nat) : Prop := (q.1.cls ≠ "java/lang/invoke/MethodHandle" ∧ q.1.cls ≠ "java/lang/invoke/VarHandle") ∧ Cond.instantiable q.1.cls q.2 ∈ tables_1 ∧ Cond.privateMethod q.1 ∈ tables_1 ∧ Cond.instanceMethod q.1 ∈ tables_1
theorem lw_p0 : lw_okq (⟨"BagCarousel", "addHall", "(J)J"⟩, 2) := ⟨⟨by decide +kernel, by decide +kernel⟩, List.mem_of_getElem? (i := 18) (by decide +kernel), List.mem_of_getElem? (i := 212) (by decide +kernel), List.mem_of_getElem? (i := 213) (by decide +kernel)⟩
theorem lw_p1 : lw_okq (⟨"BagCarousel", "addBag", "(JI)J"⟩, 2) := ⟨⟨by decide +kernel, by decide +kernel⟩, List.mem_of_getElem? (i := 18) (by decide +kernel), List.mem_of_getElem? (i := 220) (by decide +kernel), List.mem_of_getElem? (i := 221) (by decide +kernel)⟩
theorem lw_p2 : lw_okq (⟨"BagCarousel", "addChute", "(JI)J"⟩, 2) := ⟨⟨by decide +kernel, by decide +kernel⟩, List.mem_of_getElem? (i := 18) (by decide +kernel), List.mem_of_getElem? (i := 250) (by decide +kernel), List.mem_of_getElem? (i := 251) (by decide +kernel)⟩
theorem lw_p3 : lw_okq (⟨"BagCarousel", "addOfFlight", "(JI)J"⟩, 2) := ⟨⟨by decide +kernel, by decide +kernel⟩, List.mem_of_getElem? (i := 18) (by decide +kernel), List.mem_of_getElem? (i := 259) (by decide +kernel), List.mem_of_getElem? (i := 260) (by decide +kernel)⟩
theorem lw_p4 : lw_okq (⟨"java/lang/Throwable", "fillInStackTrace", "(I)Ljava/lang/Throwable;"⟩, 6) := ⟨⟨by decide +kernel, by decide +kernel⟩, List.mem_of_getElem? (i := 324) (by decide +kernel), List.mem_of_getElem? (i := 322) (by decide +kernel), List.mem_of_getElem? (i := 323) (by decide +kernel)⟩
theorem lw_p5 : lw_okq (⟨"BagCarousel", "needFlight", "(I)V"⟩, 2) := ⟨⟨by decide +kernel, by decide +kernel⟩, List.mem_of_getElem? (i := 18) (by decide +kernel), List.mem_of_getElem? (i := 366) (by decide +kernel), List.mem_of_getElem? (i := 367) (by decide +kernel)⟩
theorem lw_p6 : lw_okq (⟨"BagCarousel", "needNotGone", "(I)V"⟩, 2) := ⟨⟨by decide +kernel, by decide +kernel⟩, List.mem_of_getElem? (i := 18) (by decide +kernel), List.mem_of_getElem? (i := 393) (by decide +kernel), List.mem_of_getElem? (i := 394) (by decide +kernel)⟩
theorem lw_p7 : lw_okq (⟨"BagCarousel", "needBag", "(I)V"⟩, 2) := ⟨⟨by decide +kernel, by decide +kernel⟩, List.mem_of_getElem? (i := 18) (by decide +kernel), List.mem_of_getElem? (i := 464) (by decide +kernel), List.mem_of_getElem? (i := 465) (by decide +kernel)⟩
theorem lw_p8 : lw_okq (⟨"BagCarousel", "needInHand", "(I)V"⟩, 2) := ⟨⟨by decide +kernel, by decide +kernel⟩, List.mem_of_getElem? (i := 18) (by decide +kernel), List.mem_of_getElem? (i := 469) (by decide +kernel), List.mem_of_getElem? (i := 470) (by decide +kernel)⟩
theorem lw_p9 : lw_okq (⟨"BagCarousel", "readyWithChute", "(III)I"⟩, 2) := ⟨⟨by decide +kernel, by decide +kernel⟩, List.mem_of_getElem? (i := 18) (by decide +kernel), List.mem_of_getElem? (i := 726) (by decide +kernel), List.mem_of_getElem? (i := 727) (by decide +kernel)⟩
theorem lw_p10 : lw_okq (⟨"BagCarouselModel", "no", "(I)I"⟩, 13) := ⟨⟨by decide +kernel, by decide +kernel⟩, List.mem_of_getElem? (i := 737) (by decide +kernel), List.mem_of_getElem? (i := 834) (by decide +kernel), List.mem_of_getElem? (i := 835) (by decide +kernel)⟩
theorem lw_p11 : lw_okq (⟨"BagCarouselModel", "isFlight", "(I)Z"⟩, 13) := ⟨⟨by decide +kernel, by decide +kernel⟩, List.mem_of_getElem? (i := 737) (by decide +kernel), List.mem_of_getElem? (i := 842) (by decide +kernel), List.mem_of_getElem? (i := 843) (by decide +kernel)⟩
theorem lw_p12 : lw_okq (⟨"BagCarouselModel", "begin", "(I)V"⟩, 13) := ⟨⟨by decide +kernel, by decide +kernel⟩, List.mem_of_getElem? (i := 737) (by decide +kernel), List.mem_of_getElem? (i := 864) (by decide +kernel), List.mem_of_getElem? (i := 865) (by decide +kernel)⟩
theorem lw_p13 : lw_okq (⟨"BagCarouselModel", "isBag", "(I)Z"⟩, 13) := ⟨⟨by decide +kernel, by decide +kernel⟩, List.mem_of_getElem? (i := 737) (by decide +kernel), List.mem_of_getElem? (i := 881) (by decide +kernel), List.mem_of_getElem? (i := 882) (by decide +kernel)⟩
theorem lw_p14 : lw_okq (⟨"BagCarouselModel", "isAside", "(I)Z"⟩, 13) := ⟨⟨by decide +kernel, by decide +kernel⟩, List.mem_of_getElem? (i := 737) (by decide +kernel), List.mem_of_getElem? (i := 885) (by decide +kernel), List.mem_of_getElem? (i := 886) (by decide +kernel)⟩
theorem lw_p15 : lw_okq (⟨"BagCarouselModel", "close", "(I)V"⟩, 13) := ⟨⟨by decide +kernel, by decide +kernel⟩, List.mem_of_getElem? (i := 737) (by decide +kernel), List.mem_of_getElem? (i := 897) (by decide +kernel), List.mem_of_getElem? (i := 898) (by decide +kernel)⟩
def lw_privs_1 : List (MethodName × Nat) := [(⟨"BagCarousel", "addHall", "(J)J"⟩, 2), (⟨"BagCarousel", "addBag", "(JI)J"⟩, 2), (⟨"BagCarousel", "addChute", "(JI)J"⟩, 2), (⟨"BagCarousel", "addOfFlight", "(JI)J"⟩, 2), (⟨"java/lang/Throwable", "fillInStackTrace", "(I)Ljava/lang/Throwable;"⟩, 6), (⟨"BagCarousel", "needFlight", "(I)V"⟩, 2), (⟨"BagCarousel", "needNotGone", "(I)V"⟩, 2), (⟨"BagCarousel", "needBag", "(I)V"⟩, 2), (⟨"BagCarousel", "needInHand", "(I)V"⟩, 2), (⟨"BagCarousel", "readyWithChute", "(III)I"⟩, 2), (⟨"BagCarouselModel", "no", "(I)I"⟩, 13), (⟨"BagCarouselModel", "isFlight", "(I)Z"⟩, 13), (⟨"BagCarouselModel", "begin", "(I)V"⟩, 13), (⟨"BagCarouselModel", "isBag", "(I)Z"⟩, 13), (⟨"BagCarouselModel", "isAside", "(I)Z"⟩, 13), (⟨"BagCarouselModel", "close", "(I)V"⟩, 13)]
theorem lw_r1 : ∀ q ∈ lw_privs_1, lw_okq q := List.forall_mem_cons.mpr ⟨lw_p0, List.forall_mem_cons.mpr ⟨lw_p1, List.forall_mem_cons.mpr ⟨lw_p2, List.forall_mem_cons.mpr ⟨lw_p3, List.forall_mem_cons.mpr ⟨lw_p4, List.forall_mem_cons.mpr ⟨lw_p5, List.forall_mem_cons.mpr ⟨lw_p6, List.forall_mem_cons.mpr ⟨lw_p7, List.forall_mem_cons.mpr ⟨lw_p8, List.forall_mem_cons.mpr ⟨lw_p9, List.forall_mem_cons.mpr ⟨lw_p10, List.forall_mem_cons.mpr ⟨lw_p11, List.forall_mem_cons.mpr ⟨lw_p12, List.forall_mem_cons.mpr ⟨lw_p13, List.forall_mem_cons.mpr ⟨lw_p14, List.forall_mem_cons.mpr ⟨lw_p15, fun _ h => absurd h List.not_mem_nil⟩⟩⟩⟩⟩⟩⟩⟩⟩⟩⟩⟩⟩⟩⟩⟩
theorem lw_p16 : lw_okq (⟨"BagCarouselModel", "misrouted", "(I)Z"⟩, 13) := ⟨⟨by decide +kernel, by decide +kernel⟩, List.mem_of_getElem? (i := 737) (by decide +kernel), List.mem_of_getElem? (i := 905) (by decide +kernel), List.mem_of_getElem? (i := 906) (by decide +kernel)⟩
theorem lw_p17 : lw_okq (⟨"BagCarouselModel", "isInItsChute", "(I)Z"⟩, 13) := ⟨⟨by decide +kernel, by decide +kernel⟩, List.mem_of_getElem? (i := 737) (by decide +kernel), List.mem_of_getElem? (i := 913) (by decide +kernel), List.mem_of_getElem? (i := 914) (by decide +kernel)⟩
theorem lw_p18 : lw_okq (⟨"BagCarouselModel", "minutesOn", "(LBagCarouselModel$State;I)I"⟩, 13) := ⟨⟨by decide +kernel, by decide +kernel⟩, List.mem_of_getElem? (i := 737) (by decide +kernel), List.mem_of_getElem? (i := 921) (by decide +kernel), List.mem_of_getElem? (i := 922) (by decide +kernel)⟩
theorem lw_p19 : lw_okq (⟨"BagCarouselModel", "minuteOn", "(LBagCarouselModel$State;)I"⟩, 13) := ⟨⟨by decide +kernel, by decide +kernel⟩, List.mem_of_getElem? (i := 737) (by decide +kernel), List.mem_of_getElem? (i := 925) (by decide +kernel), List.mem_of_getElem? (i := 926) (by decide +kernel)⟩
theorem lw_p20 : lw_okq (⟨"BagCarouselModel", "readAt", "(LBagCarouselModel$State;)V"⟩, 13) := ⟨⟨by decide +kernel, by decide +kernel⟩, List.mem_of_getElem? (i := 737) (by decide +kernel), List.mem_of_getElem? (i := 934) (by decide +kernel), List.mem_of_getElem? (i := 935) (by decide +kernel)⟩
theorem lw_p21 : lw_okq (⟨"BagCarouselModel", "slide", "(LBagCarouselModel$State;I)I"⟩, 13) := ⟨⟨by decide +kernel, by decide +kernel⟩, List.mem_of_getElem? (i := 737) (by decide +kernel), List.mem_of_getElem? (i := 938) (by decide +kernel), List.mem_of_getElem? (i := 939) (by decide +kernel)⟩
theorem lw_p22 : lw_okq (⟨"BagCarouselModel", "placed", "(II)I"⟩, 13) := ⟨⟨by decide +kernel, by decide +kernel⟩, List.mem_of_getElem? (i := 737) (by decide +kernel), List.mem_of_getElem? (i := 958) (by decide +kernel), List.mem_of_getElem? (i := 959) (by decide +kernel)⟩
theorem lw_p23 : lw_okq (⟨"BagCarouselModel", "isNot", "(I)Z"⟩, 13) := ⟨⟨by decide +kernel, by decide +kernel⟩, List.mem_of_getElem? (i := 737) (by decide +kernel), List.mem_of_getElem? (i := 978) (by decide +kernel), List.mem_of_getElem? (i := 979) (by decide +kernel)⟩
theorem lw_p24 : lw_okq (⟨"BagCarouselModel", "badIn", "(I)I"⟩, 13) := ⟨⟨by decide +kernel, by decide +kernel⟩, List.mem_of_getElem? (i := 737) (by decide +kernel), List.mem_of_getElem? (i := 998) (by decide +kernel), List.mem_of_getElem? (i := 999) (by decide +kernel)⟩
theorem lw_p25 : lw_okq (⟨"BagCarouselModel", "readyIn", "(LBagCarouselModel$State;I)I"⟩, 13) := ⟨⟨by decide +kernel, by decide +kernel⟩, List.mem_of_getElem? (i := 737) (by decide +kernel), List.mem_of_getElem? (i := 1018) (by decide +kernel), List.mem_of_getElem? (i := 1019) (by decide +kernel)⟩
theorem lw_p26 : lw_okq (⟨"BagCarouselModel", "missing", "(I)I"⟩, 13) := ⟨⟨by decide +kernel, by decide +kernel⟩, List.mem_of_getElem? (i := 737) (by decide +kernel), List.mem_of_getElem? (i := 1026) (by decide +kernel), List.mem_of_getElem? (i := 1027) (by decide +kernel)⟩
theorem lw_p27 : lw_okq (⟨"BagCarouselModel", "ok", "(I)I"⟩, 13) := ⟨⟨by decide +kernel, by decide +kernel⟩, List.mem_of_getElem? (i := 737) (by decide +kernel), List.mem_of_getElem? (i := 1034) (by decide +kernel), List.mem_of_getElem? (i := 1035) (by decide +kernel)⟩
theorem lw_p28 : lw_okq (⟨"BagCarouselModel", "counted", "(I)I"⟩, 13) := ⟨⟨by decide +kernel, by decide +kernel⟩, List.mem_of_getElem? (i := 737) (by decide +kernel), List.mem_of_getElem? (i := 1054) (by decide +kernel), List.mem_of_getElem? (i := 1055) (by decide +kernel)⟩
theorem lw_p29 : lw_okq (⟨"BagCarouselModel", "files", "(I)I"⟩, 13) := ⟨⟨by decide +kernel, by decide +kernel⟩, List.mem_of_getElem? (i := 737) (by decide +kernel), List.mem_of_getElem? (i := 1066) (by decide +kernel), List.mem_of_getElem? (i := 1067) (by decide +kernel)⟩
theorem lw_p30 : lw_okq (⟨"BagCarouselModel", "untilChute", "(I)I"⟩, 13) := ⟨⟨by decide +kernel, by decide +kernel⟩, List.mem_of_getElem? (i := 737) (by decide +kernel), List.mem_of_getElem? (i := 1082) (by decide +kernel), List.mem_of_getElem? (i := 1083) (by decide +kernel)⟩
theorem lw_p31 : lw_okq (⟨"BagCarouselModel", "readyBehind", "(II)I"⟩, 13) := ⟨⟨by decide +kernel, by decide +kernel⟩, List.mem_of_getElem? (i := 737) (by decide +kernel), List.mem_of_getElem? (i := 1097) (by decide +kernel), List.mem_of_getElem? (i := 1098) (by decide +kernel)⟩
def lw_privs_2 : List (MethodName × Nat) := [(⟨"BagCarouselModel", "misrouted", "(I)Z"⟩, 13), (⟨"BagCarouselModel", "isInItsChute", "(I)Z"⟩, 13), (⟨"BagCarouselModel", "minutesOn", "(LBagCarouselModel$State;I)I"⟩, 13), (⟨"BagCarouselModel", "minuteOn", "(LBagCarouselModel$State;)I"⟩, 13), (⟨"BagCarouselModel", "readAt", "(LBagCarouselModel$State;)V"⟩, 13), (⟨"BagCarouselModel", "slide", "(LBagCarouselModel$State;I)I"⟩, 13), (⟨"BagCarouselModel", "placed", "(II)I"⟩, 13), (⟨"BagCarouselModel", "isNot", "(I)Z"⟩, 13), (⟨"BagCarouselModel", "badIn", "(I)I"⟩, 13), (⟨"BagCarouselModel", "readyIn", "(LBagCarouselModel$State;I)I"⟩, 13), (⟨"BagCarouselModel", "missing", "(I)I"⟩, 13), (⟨"BagCarouselModel", "ok", "(I)I"⟩, 13), (⟨"BagCarouselModel", "counted", "(I)I"⟩, 13), (⟨"BagCarouselModel", "files", "(I)I"⟩, 13), (⟨"BagCarouselModel", "untilChute", "(I)I"⟩, 13), (⟨"BagCarouselModel", "readyBehind", "(II)I"⟩, 13)]
theorem lw_r2 : ∀ q ∈ lw_privs_2, lw_okq q := List.forall_mem_cons.mpr ⟨lw_p16, List.forall_mem_cons.mpr ⟨lw_p17, List.forall_mem_cons.mpr ⟨lw_p18, List.forall_mem_cons.mpr ⟨lw_p19, List.forall_mem_cons.mpr ⟨lw_p20, List.forall_mem_cons.mpr ⟨lw_p21, List.forall_mem_cons.mpr ⟨lw_p22, List.forall_mem_cons.mpr ⟨lw_p23, List.forall_mem_cons.mpr ⟨lw_p24, List.forall_mem_cons.mpr ⟨lw_p25, List.forall_mem_cons.mpr ⟨lw_p26, List.forall_mem_cons.mpr ⟨lw_p27, List.forall_mem_cons.mpr ⟨lw_p28, List.forall_mem_cons.mpr ⟨lw_p29, List.forall_mem_cons.mpr ⟨lw_p30, List.forall_mem_cons.mpr ⟨lw_p31, fun _ h => absurd h List.not_mem_nil⟩⟩⟩⟩⟩⟩⟩⟩⟩⟩⟩⟩⟩⟩⟩⟩
theorem lw_p32 : lw_okq (⟨"BagCarouselModel", "best", "(II)I"⟩, 13) := ⟨⟨by decide +kernel, by decide +kernel⟩, List.mem_of_getElem? (i := 737) (by decide +kernel), List.mem_of_getElem? (i := 1105) (by decide +kernel), List.mem_of_getElem? (i := 1106) (by decide +kernel)⟩
def lw_privs_3 : List (MethodName × Nat) := [(⟨"BagCarouselModel", "best", "(II)I"⟩, 13)]
theorem lw_r3 : ∀ q ∈ lw_privs_3, lw_okq q := List.forall_mem_cons.mpr ⟨lw_p32, fun _ h => absurd h List.not_mem_nil⟩
def lw_privs : List (MethodName × Nat) := lw_privs_1 ++ (lw_privs_2 ++ (lw_privs_3))
def lw_tbl : List Cond := k2_sels lw_privs ++ tables_1
theorem lw_privs_ok : ∀ q ∈ lw_privs, lw_okq q := by
  show ∀ q ∈ lw_privs_1 ++ (lw_privs_2 ++ (lw_privs_3)), lw_okq q
  exact List.forall_mem_append.mpr ⟨lw_r1, List.forall_mem_append.mpr ⟨lw_r2, lw_r3⟩⟩
/-- the streams that the claim lets the run draw from -/
abbrev lw_cs : List Choice := [Jvm.Choice.named "NaN.bits"]
theorem lw_bits : nanBits ∈ lw_cs := by first | decide | exact List.mem_cons_self | simp [lw_cs, nanBits]
-- ===== end of PART A; then your names; then what follows =====
end
section
/-! ===== BEGIN words of one list among another's, by their places ===== -/
theorem goodIn_r {big : List Cond} (ws : List Cond) (ps : List Nat) (hp : ws = ps.filterMap (fun i => big[i]?)) (h : ws.all goodWord = true) : GoodIn big ws := by
  intro w hw
  have h1 := List.all_eq_true.mp h w hw
  rw [hp] at hw
  obtain ⟨i, -, hi⟩ := List.mem_filterMap.mp hw
  have hm : w ∈ big := by first | exact List.mem_of_getElem? hi | exact List.getElem?_mem hi
  exact ⟨hm, good_of_word h1⟩
theorem goodIn_app {big a b : List Cond} (ha : GoodIn big a) (hb : GoodIn big b) : GoodIn big (a ++ b) := fun w h => (List.mem_append.mp h).elim (ha w) (hb w)
theorem goodIn_ca {big a b : List Cond} {c : Cond} (ha : GoodIn big (c :: a)) (hb : GoodIn big b) : GoodIn big (c :: (a ++ b)) := fun w h => (List.mem_cons.mp h).elim (fun e => ha w (List.mem_cons.mpr (Or.inl e))) (fun h => (List.mem_append.mp h).elim (fun h => ha w (List.mem_cons.mpr (Or.inr h))) (hb w))
theorem goodIn_sub {big ws : List Cond} (hm : ∀ w ∈ ws, w ∈ big) (h : ws.all goodWord = true) : GoodIn big ws := fun w hw => ⟨hm w hw, good_of_word (List.all_eq_true.mp h w hw)⟩
/-! ===== END ===== -/

/-! ===== BEGIN exceptions that leave a method, and their catching by the caller (launches without stack traces) ===== -/
section VXA
/-! The laws vx_back, vx_callV, vx_callS, vx_callSW, vx_throw0, vx_throwS follow proofs of the library, with one case more: JvmDerived/Free/Laws.lean (Back.of_free), Shelf42/LK1.lean (callV, callS), Shelf/KitTraced.lean (throwNew0V, throwNewS). -/
/-- where a method has thrown q: the class by its name, the cell, what was written, the world -/
def vx_T (XC : String → State → State → Prop) (st : State) (q : Addr) (t : State) (mc ms : Nat) (free : Addr → Prop) : Prop :=
  ∃ (E : String) (ce : Cell) (L : List Loc), XC E st t ∧ t.heap[q]? = some ce ∧ ce.vm = .none ∧ st.vm.findClass E = some ce.cls ∧ st.WarmedH t.vm ∧ st.sameButNew ({ t with vm := st.vm } : State) L mc ms ∧ ∀ z ∈ L, free z.base
def vx_Q (Qc : Array Value → State → Outcome → State → Prop) (XC : String → State → State → Prop) (mc ms : Nat) (free : Addr → Prop) : Array Value → State → Outcome → State → Prop := fun a st o t =>
  (Qc a st o t ∧ ∃ L, FrameEnd st o t L mc ms ∧ ∀ q ∈ L, free q.base) ∨ ∃ q, o = .threw q ∧ vx_T XC st q t mc ms free
/-- a callee that returns or throws -/
def vx_Met (l : Launch) (y : MethodName) (ws : List Cond) (rm : Room) (Pc : Array Value → State → Prop) (Qc : Array Value → State → Outcome → State → Prop) (XC : String → State → State → Prop) (mc ms : Nat) (free : Addr → Prop) : Prop :=
  MetFree l y (headSpec ws rm) Pc (fun _ _ _ _ _ => True) (vx_Q Qc XC mc ms free)
def vx_Post (XC : String → State → State → Prop) (mc ms : Nat) (free : Addr → Prop) : Pt → Array Value → Addr → Pt → Prop := fun A a q B =>
  ∃ (g : JFrame) (mk : MethodId) (t : State) (L : List Loc) (E : String) (ce : Cell), B.U.heap = t.heap ∧ B.U.vm = t.vm ∧ XC E (A.U.calling g mk a) t ∧ t.heap[q]? = some ce ∧ ce.vm = .none ∧ A.U.vm.findClass E = some ce.cls ∧ B.locs = A.locs ++ L ∧ (∀ z ∈ L, free z.base) ∧ B.cells = A.cells + mc ∧ B.slots = A.slots + ms
def vx_Back (l : Launch) (R : Room) (p : Program) (e : Env) (below : List Frame) (s : State) (sargs : Array Value) (y : MethodName) (len W9 : Nat)
    (Pre : Pt → Array Value → Prop) (Post : Pt → Array Value → Option Value → Pt → Prop) (PostX : Pt → Array Value → Addr → Pt → Prop) : Prop :=
  ∀ (m : MethodId) (meth : Method) (c : Code) (A : Pt) (g : JFrame) (ig : Instr) (mk : MethodId) (a : Array Value),
    Stand p l e R s m sargs below meth c A.U A.locs A.cells A.slots → g.method = m → g.locals.size = c.maxLocals → decode c.code g.pc = .ok (ig, len) →
    2 * g.monitorRoom + (g.stack.map fun v => v.category).sum ≤ W9 → A.U.methodNamed? y = some mk → Pre A a →
    (∃ (v : Option Value) (B : Pt), Stand p l e R s m sargs below meth c B.U B.locs B.cells B.slots ∧ Post A a v B ∧
      Steps p.tables e below (doInvoke e (A.U.setTop g) [] mk a).1 (B.U.setTop { g with pc := g.pc + len, stack := v.toList ++ g.stack })) ∨
    (∃ (q : Addr) (B : Pt), Stand p l e R s m sargs below meth c B.U B.locs B.cells B.slots ∧ PostX A a q B ∧
      Steps p.tables e below (doInvoke e (A.U.setTop g) [] mk a).1 ((B.U.setTop g).pushFrame (.throwing q)))
section Payer
variable {l : Launch} {R : Room} {p : Program} {e : Env} {below : List Frame} {s : State} {sargs : Array Value} {y : MethodName} {len W9 : Nat}
theorem vx_back {ws : List Cond} {rm : Room} {Pc : Array Value → State → Prop} {Qc : Array Value → State → Outcome → State → Prop} {XC : String → State → State → Prop} {mc ms : Nat} {free : Addr → Prop} {bytes : ByteArray} {maxL : Nat} {ret : Option FieldType}
    (hM : vx_Met l y ws rm Pc Qc XC mc ms free) (hblind : FrameBlind Pc) (hrc : rm.cells = mc) (hrs : rm.slots = ms)
    (hframes : rm.frames + 1 ≤ R.frames) (hlocals : W9 + (maxL + 11) + rm.locals ≤ R.locals)
    (hws : ∀ w ∈ ws, ∀ a' U, s.WarmedH U.vm → w.before a' U = true) (hcode : Cond.code y bytes maxL ret ∈ ws) (hinit : ∀ a' U, s.WarmedH U.vm → (Cond.initialized y.cls).before a' U = true) :
    vx_Back l R p e below s sargs y len W9 (PreOf R mc ms Pc) (PostOf Qc mc ms free) (vx_Post XC mc ms free) := by
  intro m meth c A g ig mk a X hg hsize hdg hW hn hp
  have h1 : (headSpec ws rm).pre.before a A.U = true := atoms_intro fun w hw => hws w hw _ _ X.warmed
  have h2 : (Cond.code y bytes maxL ret).before a A.U = true := hws _ hcode _ _ X.warmed
  have h3 : (Cond.initialized y.cls).before a A.U = true := hinit _ _ X.warmed
  have h4 : A.cells + (headSpec ws rm).room.cells ≤ R.cells := by rw [show (headSpec ws rm).room.cells = mc from hrc]; exact hp.1
  have h5 : A.slots + (headSpec ws rm).room.slots ≤ R.slots := by rw [show (headSpec ws rm).room.slots = ms from hrs]; exact hp.2.1
  have hPc : Pc a (A.U.calling g mk a) := hblind _ _ _ _ hp.2.2
  obtain ⟨U, Ls, c0, s0⟩ := A
  dsimp only [Pt.U, Pt.locs, Pt.cells, Pt.slots] at h1 h2 h3 h4 h5 X hn hPc ⊢
  obtain ⟨methY, cY, hmY, hcY, -, hlY, -, -, -, -⟩ := Cond.code_spec hn h2
  obtain ⟨kY, hkY, -⟩ := className_of_methodNamed hn
  have hinitY : kY.init = .initialized := Cond.initialized_spec (findClass_of_methodNamed hn) hkY h3
  have h : At U g.method c below := by rw [hg]; exact X.here
  have hlocals9 : W9 + (maxL + 11) + (headSpec ws rm).room.locals ≤ R.locals := hlocals
  have happ : (headSpec ws rm).appliesLoose y e.platform (U.calling g mk a) = true :=
    Spec.appliesLoose_calling (g := g) h hdg hn hkY hinitY
      (X.room_calling (g := g) (R' := (headSpec ws rm).room) hsize hmY hcY hframes (by rw [hlY]; omega) h4 h5) h1
  obtain ⟨mid, hmid⟩ := h.above
  have hfr : (U.setTop g).frames = (.java g :: mid) ++ below := by rw [State.frames_setTop' g h.top, hmid]; rfl
  obtain ⟨o, s₂, hsteps, -, hend, hq⟩ := Steps.callFree hM p X.admits X.cas X.clock (acts := []) hfr happ hPc trivial
  have hq' : vx_Q Qc XC mc ms free a (U.calling g mk a) o s₂ := hq
  rw [State.frames_setTop' g h.top] at hend
  obtain ⟨g₀, hg0⟩ := Option.isSome_iff_exists.mp h.top
  obtain ⟨r, hr⟩ := State.topJava?_eq_some.mp hg0
  have hr' : (({ U with heap := s₂.heap, slotsUsed := s₂.slotsUsed } : State).setVm s₂.vm).frames = .java g₀ :: r := hr
  rcases hq' with ⟨hqc, L, hfe, hL⟩ | ⟨q, rfl, E, ce, L, hx, hce, hcv, hcl, hW₂, hsm, hL⟩
  · obtain ⟨⟨v, rfl⟩, hW₂, e2, q2, q3, q4, q5, q6⟩ := id hfe
    have e3 : s₂ = ({ (U.calling g mk a).setFrames s₂.frames with heap := s₂.heap, slotsUsed := s₂.slotsUsed } : State).setVm s₂.vm := by
      have : s₂ = ({ s₂ with vm := (U.calling g mk a).vm } : State).setVm s₂.vm := rfl
      rw [e2] at this
      exact this
    obtain ⟨c₂, i₂, len₂, hc₂, hd₂, hf₂⟩ := hend
    have hW' : U.WarmedH s₂.vm := hW₂
    have hcc : c₂ = c := by
      have h1 : s₂.code? g.method = U.code? g.method := by
        rw [State.code?_eq, State.code?_eq, hW'.alike.method?]
      exact Option.some.inj (hc₂.symm.trans (h1.trans h.code))
    subst hcc
    have hlen : len₂ = len := by rw [hdg] at hd₂; cases hd₂; rfl
    subst hlen
    have hs₂ : s₂ = (({ U with heap := s₂.heap, slotsUsed := s₂.slotsUsed } : State).setVm s₂.vm).setTop { g with pc := g.pc + len₂, stack := v.toList ++ g.stack } := by
      refine e3.trans ?_
      rw [hf₂, State.calling_eq h.top, State.setFrames_setFrames, State.setTop_of_frames _ hr', hr]
      rfl
    have hsame : U.sameButNew ({ U with heap := s₂.heap, slotsUsed := s₂.slotsUsed } : State) L mc ms := by
      refine ⟨?_, q2, q3, q4, q5, q6⟩
      obtain ⟨t, ht, -⟩ := State.frames_cons hr
      show ({ U with heap := s₂.heap, slotsUsed := s₂.slotsUsed } : State) = { U.setFrames U.frames with heap := s₂.heap, slotsUsed := s₂.slotsUsed }
      rw [State.setFrames_self ht]
    subst hg
    refine Or.inl ⟨v, ⟨(({ U with heap := s₂.heap, slotsUsed := s₂.slotsUsed } : State).setVm s₂.vm), Ls ++ L, c0 + mc, s0 + ms⟩,
      ⟨X.admits, X.cas, X.clock, X.frames, X.room, X.hears, X.method, X.code, (X.here.setHeapUsed s₂.heap s₂.slotsUsed).setVm hW'.alike, X.tail, State.WarmedH.trans X.warmed hW', X.limits, X.bytes, X.same.trans (hsame.setVm s.vm)⟩,
      ⟨g, mk, s₂, L, rfl, rfl, hqc, rfl, hL, rfl, rfl⟩, ?_⟩
    show Steps p.tables e below _ ((({ U with heap := s₂.heap, slotsUsed := s₂.slotsUsed } : State).setVm s₂.vm).setTop { g with pc := g.pc + len₂, stack := v.toList ++ g.stack })
    rw [← hs₂]
    exact hsteps
  · obtain ⟨e2, q2, q3, q4, q5, q6⟩ := id hsm
    have e3 : s₂ = ({ (U.calling g mk a).setFrames s₂.frames with heap := s₂.heap, slotsUsed := s₂.slotsUsed } : State).setVm s₂.vm := by
      have : s₂ = ({ s₂ with vm := (U.calling g mk a).vm } : State).setVm s₂.vm := rfl
      rw [e2] at this
      exact this
    have hf₂ : s₂.frames = .throwing q :: .java g :: U.frames.tail := hend
    have hW' : U.WarmedH s₂.vm := hW₂
    have hs₂ : s₂ = ((({ U with heap := s₂.heap, slotsUsed := s₂.slotsUsed } : State).setVm s₂.vm).setTop g).pushFrame (.throwing q) := by
      refine e3.trans ?_
      rw [hf₂, State.calling_eq h.top, State.setFrames_setFrames, State.pushFrame, State.frames_setTop _ hr', State.setTop_of_frames _ hr', State.setFrames_setFrames, hr]
      rfl
    have hsame : U.sameButNew ({ U with heap := s₂.heap, slotsUsed := s₂.slotsUsed } : State) L mc ms := by
      refine ⟨?_, q2, q3, q4, q5, q6⟩
      obtain ⟨t, ht, -⟩ := State.frames_cons hr
      show ({ U with heap := s₂.heap, slotsUsed := s₂.slotsUsed } : State) = { U.setFrames U.frames with heap := s₂.heap, slotsUsed := s₂.slotsUsed }
      rw [State.setFrames_self ht]
    subst hg
    refine Or.inr ⟨q, ⟨(({ U with heap := s₂.heap, slotsUsed := s₂.slotsUsed } : State).setVm s₂.vm), Ls ++ L, c0 + mc, s0 + ms⟩,
      ⟨X.admits, X.cas, X.clock, X.frames, X.room, X.hears, X.method, X.code, (X.here.setHeapUsed s₂.heap s₂.slotsUsed).setVm hW'.alike, X.tail, State.WarmedH.trans X.warmed hW', X.limits, X.bytes, X.same.trans (hsame.setVm s.vm)⟩,
      ⟨g, mk, s₂, L, E, ce, rfl, rfl, hx, hce, hcv, hcl, rfl, hL, rfl, rfl⟩, ?_⟩
    show Steps p.tables e below _ (((({ U with heap := s₂.heap, slotsUsed := s₂.slotsUsed } : State).setVm s₂.vm).setTop g).pushFrame (.throwing q))
    rw [← hs₂]
    exact hsteps
end Payer
section Calls
variable {p : Program} {l : Launch} {e : Env} {R : Room} {s : State} {m : MethodId} {args : Array Value} {below : List Frame} {meth : Method} {c : Code} {T : State} {locs : List Loc} {cells slots : Nat}
theorem vx_callV (X : Stand p l e R s m args below meth c T locs cells slots) (hexec : p.tables.exec = Jvm.exec) {own C : String} {index : Nat} {y : MethodName} {bytes : ByteArray} {maxL : Nat} {ret : Option FieldType}
    (hown : s.vm.findClass own = some m.cls) (hlink : (Cond.methodLink own index y).before args s = true) (hinst : (Cond.instanceMethod y).before args s = true) (hsel : (Cond.selects C y y).before args s = true)
    (hcode : (Cond.code y bytes maxL ret).before args s = true) (hy : y.cls ≠ "java/lang/invoke/MethodHandle" ∧ y.cls ≠ "java/lang/invoke/VarHandle")
    {W9 : Nat} {Pre : Pt → Array Value → Prop} {Post : Pt → Array Value → Option Value → Pt → Prop} {PostX : Pt → Array Value → Addr → Pt → Prop} (hK : vx_Back l R p e below s args y 3 W9 Pre Post PostX)
    {b : Addr} {cellB : Cell} (hcell : T.heap[b]? = some cellB) (hobj : cellB.vm.isStatics = false) (hcls : s.vm.findClass C = some cellB.cls)
    {g : JFrame} (hg : g.method = m) (hsize : g.locals.size = c.maxLocals) {argsL rest : List Value} (hlen : ∀ sig, parseMethodDescriptor y.desc = some sig → argsL.length = sig.parameters.length)
    (hstack : g.stack = argsL.reverse ++ .ref b :: rest) (hW : 2 * g.monitorRoom + (rest.map fun v => v.category).sum ≤ W9) (hdg : decode c.code g.pc = .ok (.invokevirtual index, 3))
    (hpre : ∀ vm₁, s.WarmedH vm₁ → Pre ⟨T.setVm vm₁, locs, cells, slots⟩ (Value.ref b :: argsL).toArray) :
    (∃ (v : Option Value) (vm₁ : Vm) (B : Pt), s.WarmedH vm₁ ∧ Stand p l e R s m args below meth c B.U B.locs B.cells B.slots ∧ Post ⟨T.setVm vm₁, locs, cells, slots⟩ (Value.ref b :: argsL).toArray v B ∧
      ∀ target, Steps p.tables e below (B.U.setTop { g with pc := g.pc + 3, stack := v.toList ++ rest }) target → Steps p.tables e below (T.setTop g) target) ∨
    (∃ (q : Addr) (vm₁ : Vm) (B : Pt), s.WarmedH vm₁ ∧ Stand p l e R s m args below meth c B.U B.locs B.cells B.slots ∧ PostX ⟨T.setVm vm₁, locs, cells, slots⟩ (Value.ref b :: argsL).toArray q B ∧
      Steps p.tables e below (T.setTop g) ((B.U.setTop { g with stack := rest }).pushFrame (.throwing q))) := by
  obtain ⟨mk, methM, hnamed, hmethM, hstM, habM⟩ := Cond.instanceMethod_spec hinst
  obtain ⟨methM', cM, hmethM', -, -, -, -, -, -, hsigM⟩ := Cond.code_spec hnamed hcode
  cases hmethM.symm.trans hmethM'
  obtain ⟨c2, r2, m2, q1, q2, q3, q4, kP, hkP, hkPi⟩ := Cond.selects_spec hsel
  cases hcls.symm.trans q1
  cases (State.methodFound?_of_named hnamed hy).symm.trans q2
  cases hnamed.symm.trans q3
  have hselP : selectMethod e.platform s.vm cellB.cls mk = .method mk := by rw [Launch.admits_selectMethod X.admits]; exact q4
  obtain ⟨vm₁, X₁, hstep₁⟩ := X.invokevirtual hexec hown hlink hnamed hmethM hstM hkP hkPi hy (a := b) (cell := cellB) hcell
    (fun z h => by rw [h] at hobj; cases hobj) hselP hmethM habM hkP hkPi (g := g) hg (argsL := argsL) (rest := rest) (hlen _ hsigM) hstack hdg
  rcases hK m meth c ⟨T.setVm vm₁, locs, cells, slots⟩ { g with stack := rest } (.invokevirtual index) mk (Value.ref b :: argsL).toArray X₁ hg hsize hdg hW (X₁.named hnamed) (hpre vm₁ X₁.warmed) with ⟨v, B, X', hpost, hsteps⟩ | ⟨q, B, X', hpost, hsteps⟩
  · exact Or.inl ⟨v, vm₁, B, X₁.warmed, X', hpost, fun target h => hstep₁ _ fun acts => by rw [doInvoke_state]; exact hsteps.trans h⟩
  · exact Or.inr ⟨q, vm₁, B, X₁.warmed, X', hpost, hstep₁ _ fun acts => by rw [doInvoke_state]; exact hsteps⟩
theorem vx_callS (X : Stand p l e R s m args below meth c T locs cells slots) (hexec : p.tables.exec = Jvm.exec) {own : String} {index : Nat} {y : MethodName} {bytes : ByteArray} {maxL : Nat} {ret : Option FieldType}
    (hown : s.vm.findClass own = some m.cls) (hlink : (Cond.methodLink own index y).before args s = true) (hstat : (Cond.static y).before args s = true) (hinit : (Cond.initialized y.cls).before args s = true)
    (hcode : (Cond.code y bytes maxL ret).before args s = true) (hy : y.cls ≠ "java/lang/invoke/MethodHandle" ∧ y.cls ≠ "java/lang/invoke/VarHandle")
    {W9 : Nat} {Pre : Pt → Array Value → Prop} {Post : Pt → Array Value → Option Value → Pt → Prop} {PostX : Pt → Array Value → Addr → Pt → Prop} (hK : vx_Back l R p e below s args y 3 W9 Pre Post PostX)
    {g : JFrame} (hg : g.method = m) (hsize : g.locals.size = c.maxLocals) {argsL rest : List Value} (hlen : ∀ sig, parseMethodDescriptor y.desc = some sig → argsL.length = sig.parameters.length)
    (hstack : g.stack = argsL.reverse ++ rest) (hW : 2 * g.monitorRoom + (rest.map fun v => v.category).sum ≤ W9) (hdg : decode c.code g.pc = .ok (.invokestatic index, 3))
    (hpre : ∀ vm₁, s.WarmedH vm₁ → Pre ⟨T.setVm vm₁, locs, cells, slots⟩ argsL.toArray) :
    (∃ (v : Option Value) (vm₁ : Vm) (B : Pt), s.WarmedH vm₁ ∧ Stand p l e R s m args below meth c B.U B.locs B.cells B.slots ∧ Post ⟨T.setVm vm₁, locs, cells, slots⟩ argsL.toArray v B ∧
      ∀ target, Steps p.tables e below (B.U.setTop { g with pc := g.pc + 3, stack := v.toList ++ rest }) target → Steps p.tables e below (T.setTop g) target) ∨
    (∃ (q : Addr) (vm₁ : Vm) (B : Pt), s.WarmedH vm₁ ∧ Stand p l e R s m args below meth c B.U B.locs B.cells B.slots ∧ PostX ⟨T.setVm vm₁, locs, cells, slots⟩ argsL.toArray q B ∧
      Steps p.tables e below (T.setTop g) ((B.U.setTop { g with stack := rest }).pushFrame (.throwing q))) := by
  obtain ⟨mk, hnamed⟩ := Cond.code_named hcode
  obtain ⟨methM, cM, hmethM, -, -, -, -, -, -, hsigM⟩ := Cond.code_spec hnamed hcode
  have hstatic : methM.isStatic = true := Cond.static_spec hnamed hmethM hstat
  obtain ⟨kP, hkP, -⟩ := className_of_methodNamed hnamed
  have hinitP : kP.init = .initialized := Cond.initialized_spec (findClass_of_methodNamed hnamed) hkP hinit
  obtain ⟨vm₁, X₁, hstep₁⟩ := X.invokestatic hexec hown hlink hnamed hmethM hstatic hkP hinitP hy (g := g) hg (argsL := argsL) (rest := rest) (hlen _ hsigM) hstack hdg
  rcases hK m meth c ⟨T.setVm vm₁, locs, cells, slots⟩ { g with stack := rest } (.invokestatic index) mk argsL.toArray X₁ hg hsize hdg hW (X₁.named hnamed) (hpre vm₁ X₁.warmed) with ⟨v, B, X', hpost, hsteps⟩ | ⟨q, B, X', hpost, hsteps⟩
  · exact Or.inl ⟨v, vm₁, B, X₁.warmed, X', hpost, fun target h => hstep₁ _ fun acts => by rw [doInvoke_state]; exact hsteps.trans h⟩
  · exact Or.inr ⟨q, vm₁, B, X₁.warmed, X', hpost, hstep₁ _ fun acts => by rw [doInvoke_state]; exact hsteps⟩
end Calls
theorem vx_cls {s : State} {T : State} {vm₁ : Vm} {E : String} {k : ClassId} (hW : s.WarmedH vm₁) (h : (T.setVm vm₁).vm.findClass E = some k) : s.vm.findClass E = some k := by
  have h1 : vm₁.findClass E = some k := h
  rw [hW.alike.findClass] at h1
  exact h1
/-- the method's frame g, with q thrown over it -/
def vx_W (p : Program) (l : Launch) (e : Env) (R : Room) (s : State) (m : MethodId) (args : Array Value) (below : List Frame) (meth : Method) (c : Code) (H : Heap) (locs : List Loc) (cells slots : Nat) (Q : State → Prop) (g : JFrame) (q : Addr) : Prop :=
  ∀ T : State, T.heap = H → Stand p l e R s m args below meth c T locs cells slots → ∃ t, Steps p.tables e below ((T.setTop g).pushFrame (.throwing q)) t ∧ Q t
def vx_Run (p : Program) (l : Launch) (e : Env) (R : Room) (s : State) (m : MethodId) (args : Array Value) (below : List Frame) (meth : Method) (c : Code) (H : Heap) (locs : List Loc) (cells slots mc ms : Nat) (g : JFrame) (rest : List Value) (Qa : State → Outcome → State → Prop) (XC : String → State → State → Prop) (free : Addr → Prop) : Prop :=
  ∀ T : State, T.heap = H → Stand p l e R s m args below meth c T locs cells slots →
    (∃ (v : Option Value) (st₀ t T' : State) (L : List Loc), st₀.heap = H ∧ Stand p l e R s m args below meth c T' (locs ++ L) (cells + mc) (slots + ms) ∧ (∀ q ∈ L, free q.base) ∧ T'.heap = t.heap ∧ T'.vm = t.vm ∧ Qa st₀ (.returned v) t ∧
      Goes p e below T g T' { g with pc := g.pc + 3, stack := v.toList ++ rest }) ∨
    (∃ (q : Addr) (st₀ t T' : State) (L : List Loc) (E : String) (ce : Cell), st₀.heap = H ∧ Stand p l e R s m args below meth c T' (locs ++ L) (cells + mc) (slots + ms) ∧ (∀ z ∈ L, free z.base) ∧ T'.heap = t.heap ∧ T'.vm = t.vm ∧ XC E st₀ t ∧ t.heap[q]? = some ce ∧ ce.vm = .none ∧ s.vm.findClass E = some ce.cls ∧
      Steps p.tables e below (T.setTop g) ((T'.setTop { g with stack := rest }).pushFrame (.throwing q)))
def vx_X {S : Type} (px : S → Prop) (B : String → S → State → Prop) (A : Nat → Prop) : String → State → State → Prop := fun E st t => ∃ u : S, px u ∧ B E u t ∧ va_F A st t
section Runs
variable {p : Program} {l : Launch} {e : Env} {R : Room} {s : State} {m : MethodId} {args : Array Value} {below : List Frame} {meth : Method} {c : Code} {H : Heap} {locs : List Loc} {cells slots : Nat}
variable {y : MethodName} {bytes cc : ByteArray} {maxL nL mc ms n index : Nat} {ret : Option FieldType} {ws : List Cond} {rm : Room} {Pc : Array Value → State → Prop} {Qc : Array Value → State → Outcome → State → Prop} {XC : String → State → State → Prop} {free : Addr → Prop} {Ts : List Cond} {own C : String} {b : Addr} {As rest : List Value} {g : JFrame}
theorem vx_callBack (cb : CallB R s args own index y bytes maxL ret ws rm mc ms n) (hM : vx_Met l y ws rm Pc Qc XC mc ms free) (hbl : FrameBlind Pc) : vx_Back l R p e below s args y 3 8 (PreOf R mc ms Pc) (PostOf Qc mc ms free) (vx_Post XC mc ms free) := by
  obtain ⟨hrc, hrs, hfr, hlo, hws, hcw, -, hini, -⟩ := cb
  exact vx_back (bytes := bytes) (maxL := maxL) (ret := ret) hM hbl hrc hrs hfr hlo hws hcw (fun a' U hW => word_at hW (Or.inl (by first | rfl | simp [Cond.onTables, Cond.keeps, Cond.steady])) hini)
theorem vx_runV (S : CallFix p m c cc nL s args Ts own) (hM : vx_Met l y ws rm Pc Qc XC mc ms free) (cw : CallW R s args own C index y bytes maxL ret ws rm mc ms n) (hp : PreV s H C b Pc As)
    (hg : g.method = m) (hn : As.length = n) (hsize : g.locals.size = nL) (hstack : g.stack = As.reverse ++ .ref b :: rest) (hW : 2 * g.monitorRoom + (rest.map fun v => v.category).sum ≤ 8) (hdg : decode cc g.pc = .ok (.invokevirtual index, 3)) (hf : cells + mc ≤ R.cells ∧ slots + ms ≤ R.slots) :
    vx_Run p l e R s m args below meth c H locs cells slots mc ms g rest (Qc (Value.ref b :: As).toArray) XC free := by
  have hK : vx_Back l R p e below s args y 3 8 (PreOf R mc ms Pc) (PostOf Qc mc ms free) (vx_Post XC mc ms free) := vx_callBack cw.1 hM hp.1
  obtain ⟨⟨-, -, -, -, -, -, hcode, -, hy, hlen, hl⟩, hin, hse⟩ := cw
  obtain ⟨hx, hb, hml, ho, -⟩ := S
  obtain ⟨-, ⟨cellB, hcB, hoB, hclB⟩, hPc⟩ := hp
  intro T hT X
  rcases vx_callV X hx (C := C) (bytes := bytes) (maxL := maxL) (ret := ret) ho hl hin hse hcode hy hK (by rw [hT]; exact hcB) hoB hclB hg (hsize.trans hml.symm) (argsL := As) (rest := rest) (fun sig h => hn.trans (hlen sig h)) hstack hW (by rw [hb]; exact hdg)
    (fun vm₁ hW₁ => ⟨hf.1, hf.2, hPc (T.setVm vm₁) hT hW₁⟩) with ⟨v, vm₁, ⟨U', l2, c2, s2⟩, hW₁, X', ⟨g', mk, t, L, e1, e2, hq, h1, hL, h2, h3⟩, st⟩ | ⟨q, vm₁, ⟨U', l2, c2, s2⟩, hW₁, X', ⟨g', mk, t, L, E, ce, e1, e2, hq, hce, hcv, hcl, h1, hL, h2, h3⟩, st⟩
  · dsimp only [Pt.U, Pt.locs, Pt.cells, Pt.slots] at X' e1 e2 h1 h2 h3 st
    subst h1; subst h2; subst h3
    exact Or.inl ⟨v, (T.setVm vm₁).calling g' mk (Value.ref b :: As).toArray, t, U', L, hT, X', hL, e1, e2, hq, st⟩
  · dsimp only [Pt.U, Pt.locs, Pt.cells, Pt.slots] at X' e1 e2 h1 h2 h3 st hcl
    subst h1; subst h2; subst h3
    exact Or.inr ⟨q, (T.setVm vm₁).calling g' mk (Value.ref b :: As).toArray, t, U', L, E, ce, hT, X', hL, e1, e2, hq, hce, hcv, vx_cls hW₁ hcl, st⟩
theorem vx_runS (S : CallFix p m c cc nL s args Ts own) (hM : vx_Met l y ws rm Pc Qc XC mc ms free) (cw : CallB R s args own index y bytes maxL ret ws rm mc ms n ∧ (Cond.static y).before args s = true) (hp : PreS s H Pc As)
    (hg : g.method = m) (hn : As.length = n) (hsize : g.locals.size = nL) (hstack : g.stack = As.reverse ++ rest) (hW : 2 * g.monitorRoom + (rest.map fun v => v.category).sum ≤ 8) (hdg : decode cc g.pc = .ok (.invokestatic index, 3)) (hf : cells + mc ≤ R.cells ∧ slots + ms ≤ R.slots) :
    vx_Run p l e R s m args below meth c H locs cells slots mc ms g rest (Qc As.toArray) XC free := by
  have hK : vx_Back l R p e below s args y 3 8 (PreOf R mc ms Pc) (PostOf Qc mc ms free) (vx_Post XC mc ms free) := vx_callBack cw.1 hM hp.1
  obtain ⟨⟨-, -, -, -, -, -, hcode, hini, hy, hlen, hl⟩, hstt⟩ := cw
  obtain ⟨hx, hb, hml, ho, -⟩ := S
  intro T hT X
  rcases vx_callS X hx (bytes := bytes) (maxL := maxL) (ret := ret) ho hl hstt hini hcode hy hK hg (hsize.trans hml.symm) (argsL := As) (rest := rest) (fun sig h => hn.trans (hlen sig h)) hstack hW (by rw [hb]; exact hdg)
    (fun vm₁ hW₁ => ⟨hf.1, hf.2, hp.2 (T.setVm vm₁) hT hW₁⟩) with ⟨v, vm₁, ⟨U', l2, c2, s2⟩, hW₁, X', ⟨g', mk, t, L, e1, e2, hq, h1, hL, h2, h3⟩, st⟩ | ⟨q, vm₁, ⟨U', l2, c2, s2⟩, hW₁, X', ⟨g', mk, t, L, E, ce, e1, e2, hq, hce, hcv, hcl, h1, hL, h2, h3⟩, st⟩
  · dsimp only [Pt.U, Pt.locs, Pt.cells, Pt.slots] at X' e1 e2 h1 h2 h3 st
    subst h1; subst h2; subst h3
    exact Or.inl ⟨v, (T.setVm vm₁).calling g' mk As.toArray, t, U', L, hT, X', hL, e1, e2, hq, st⟩
  · dsimp only [Pt.U, Pt.locs, Pt.cells, Pt.slots] at X' e1 e2 h1 h2 h3 st hcl
    subst h1; subst h2; subst h3
    exact Or.inr ⟨q, (T.setVm vm₁).calling g' mk As.toArray, t, U', L, E, ce, hT, X', hL, e1, e2, hq, hce, hcv, vx_cls hW₁ hcl, st⟩
end Runs
section Rows
variable {p : Program} {l : Launch} {e : Env} {R : Room} {s : State} {m : MethodId} {args : Array Value} {below : List Frame} {meth : Method} {c : Code} {H : Heap} {locs : List Loc} {cells slots : Nat} {Q : State → Prop}
variable {mc ms : Nat} {free : Addr → Prop} {A0 A1 : Nat → Prop} {H0 : Heap} {a : Array Value} {pc : Nat} {ls : Array Slot} {st0 rest : List Value}
theorem vx_keep {st₀ t T' : State} {L : List Loc} (h0 : st₀.heap = H) (e1 : T'.heap = t.heap) (hS : va_S A0 H0 H locs) (hA : ∀ q, q < H.size → A1 q → A0 q) (hf : ∀ q, free q → A0 q) (hL : ∀ q ∈ L, free q.base) (hF : va_F A1 st₀ t) :
    H.size ≤ T'.heap.size ∧ (∀ q : Nat, q < H.size → ¬ A1 q → T'.heap[q]? = H[q]?) ∧ va_S A0 H0 T'.heap (locs ++ L) := by
  obtain ⟨hz, hk⟩ := hF
  rw [h0] at hz hk
  exact ⟨by rw [e1]; exact hz, fun q h1 h2 => by rw [e1]; exact hk q h1 h2,
    ⟨Nat.le_trans hS.1 (by rw [e1]; exact hz), fun q h1 h2 => by rw [e1, hk q (Nat.lt_of_lt_of_le h1 hS.1) (fun z => h2 (hA q (Nat.lt_of_lt_of_le h1 hS.1) z))]; exact hS.2.1 q h1 h2, fun q hq => by
      rcases List.mem_append.mp hq with h | h
      · exact hS.2.2 q h
      · exact hf _ (hL q h)⟩⟩
theorem vx_calli {S SX : Type} {post : Int32 → S → Prop} {px : SX → Prop} {B : S → State → Prop} {BX : String → SX → State → Prop} {AX : Nat → Prop} (hr : vx_Run p l e R s m args below meth c H locs cells slots mc ms (F0 m pc ls st0) rest (va_Qi post B A1 a) (vx_X px BX AX) free) (hS : va_S A0 H0 H locs) (hA : ∀ q, q < H.size → A1 q → A0 q) (hf : ∀ q, free q → A0 q) (hAX : ∀ q, q < H.size → AX q → A0 q)
    (kx : ∀ (E : String) (ce : Cell) (q9 : Addr) (u : SX) (t : State) (H1 : Heap) (locs1 : List Loc), t.heap = H1 → s.vm.Alike t.vm → px u → BX E u t → H.size ≤ H1.size → (∀ q : Nat, q < H.size → ¬ AX q → H1[q]? = H[q]?) → va_S A0 H0 H1 locs1 → H1[q9]? = some ce → ce.vm = .none → s.vm.findClass E = some ce.cls → vx_W p l e R s m args below meth c H1 locs1 (cells + mc) (slots + ms) Q (F0 m pc ls rest) q9)
    (kk : ∀ (r : Int32) (u : S) (t : State) (H1 : Heap) (locs1 : List Loc), t.heap = H1 → s.vm.Alike t.vm → post r u → B u t → H.size ≤ H1.size → (∀ q : Nat, q < H.size → ¬ A1 q → H1[q]? = H[q]?) → va_S A0 H0 H1 locs1 → W p l e R s m args below meth c H1 locs1 (cells + mc) (slots + ms) Q (F0 m (pc + 3) ls (.int r :: rest))) : W p l e R s m args below meth c H locs cells slots Q (F0 m pc ls st0) := by
  intro T hT X
  rcases hr T hT X with ⟨v, st₀, t, T', L, h0, X', hL, e1, e2, ⟨⟨r, u, hv, hp, hb⟩, hF⟩, st⟩ | ⟨q, st₀, t, T', L, E, ce, h0, X', hL, e1, e2, ⟨u, hp, hb, hF⟩, hce, hcv, hcl, st⟩
  · cases hv
    obtain ⟨k1, k2, k3⟩ := vx_keep h0 e1 hS hA hf hL hF
    obtain ⟨t2, a1, b1⟩ := kk r u t T'.heap (locs ++ L) e1.symm (by rw [← e2]; exact X'.warmed.alike) hp hb k1 k2 k3 T' rfl X'
    exact ⟨t2, st t2 a1, b1⟩
  · obtain ⟨k1, k2, k3⟩ := vx_keep h0 e1 hS hAX hf hL hF
    obtain ⟨t2, a1, b1⟩ := kx E ce q u t T'.heap (locs ++ L) e1.symm (by rw [← e2]; exact X'.warmed.alike) hp hb k1 k2 k3 (by rw [e1]; exact hce) hcv hcl T' rfl X'
    exact ⟨t2, st.trans a1, b1⟩
theorem vx_calll {S SX : Type} {post : Int64 → S → Prop} {px : SX → Prop} {B : S → State → Prop} {BX : String → SX → State → Prop} {AX : Nat → Prop} (hr : vx_Run p l e R s m args below meth c H locs cells slots mc ms (F0 m pc ls st0) rest (va_Ql post B A1 a) (vx_X px BX AX) free) (hS : va_S A0 H0 H locs) (hA : ∀ q, q < H.size → A1 q → A0 q) (hf : ∀ q, free q → A0 q) (hAX : ∀ q, q < H.size → AX q → A0 q)
    (kx : ∀ (E : String) (ce : Cell) (q9 : Addr) (u : SX) (t : State) (H1 : Heap) (locs1 : List Loc), t.heap = H1 → s.vm.Alike t.vm → px u → BX E u t → H.size ≤ H1.size → (∀ q : Nat, q < H.size → ¬ AX q → H1[q]? = H[q]?) → va_S A0 H0 H1 locs1 → H1[q9]? = some ce → ce.vm = .none → s.vm.findClass E = some ce.cls → vx_W p l e R s m args below meth c H1 locs1 (cells + mc) (slots + ms) Q (F0 m pc ls rest) q9)
    (kk : ∀ (r : Int64) (u : S) (t : State) (H1 : Heap) (locs1 : List Loc), t.heap = H1 → s.vm.Alike t.vm → post r u → B u t → H.size ≤ H1.size → (∀ q : Nat, q < H.size → ¬ A1 q → H1[q]? = H[q]?) → va_S A0 H0 H1 locs1 → W p l e R s m args below meth c H1 locs1 (cells + mc) (slots + ms) Q (F0 m (pc + 3) ls (.long r :: rest))) : W p l e R s m args below meth c H locs cells slots Q (F0 m pc ls st0) := by
  intro T hT X
  rcases hr T hT X with ⟨v, st₀, t, T', L, h0, X', hL, e1, e2, ⟨⟨r, u, hv, hp, hb⟩, hF⟩, st⟩ | ⟨q, st₀, t, T', L, E, ce, h0, X', hL, e1, e2, ⟨u, hp, hb, hF⟩, hce, hcv, hcl, st⟩
  · cases hv
    obtain ⟨k1, k2, k3⟩ := vx_keep h0 e1 hS hA hf hL hF
    obtain ⟨t2, a1, b1⟩ := kk r u t T'.heap (locs ++ L) e1.symm (by rw [← e2]; exact X'.warmed.alike) hp hb k1 k2 k3 T' rfl X'
    exact ⟨t2, st t2 a1, b1⟩
  · obtain ⟨k1, k2, k3⟩ := vx_keep h0 e1 hS hAX hf hL hF
    obtain ⟨t2, a1, b1⟩ := kx E ce q u t T'.heap (locs ++ L) e1.symm (by rw [← e2]; exact X'.warmed.alike) hp hb k1 k2 k3 (by rw [e1]; exact hce) hcv hcl T' rfl X'
    exact ⟨t2, st.trans a1, b1⟩
theorem vx_callf {S SX : Type} {post : UInt32 → S → Prop} {px : SX → Prop} {B : S → State → Prop} {BX : String → SX → State → Prop} {AX : Nat → Prop} (hr : vx_Run p l e R s m args below meth c H locs cells slots mc ms (F0 m pc ls st0) rest (va_Qf post B A1 a) (vx_X px BX AX) free) (hS : va_S A0 H0 H locs) (hA : ∀ q, q < H.size → A1 q → A0 q) (hf : ∀ q, free q → A0 q) (hAX : ∀ q, q < H.size → AX q → A0 q)
    (kx : ∀ (E : String) (ce : Cell) (q9 : Addr) (u : SX) (t : State) (H1 : Heap) (locs1 : List Loc), t.heap = H1 → s.vm.Alike t.vm → px u → BX E u t → H.size ≤ H1.size → (∀ q : Nat, q < H.size → ¬ AX q → H1[q]? = H[q]?) → va_S A0 H0 H1 locs1 → H1[q9]? = some ce → ce.vm = .none → s.vm.findClass E = some ce.cls → vx_W p l e R s m args below meth c H1 locs1 (cells + mc) (slots + ms) Q (F0 m pc ls rest) q9)
    (kk : ∀ (r : UInt32) (u : S) (t : State) (H1 : Heap) (locs1 : List Loc), t.heap = H1 → s.vm.Alike t.vm → post r u → B u t → H.size ≤ H1.size → (∀ q : Nat, q < H.size → ¬ A1 q → H1[q]? = H[q]?) → va_S A0 H0 H1 locs1 → W p l e R s m args below meth c H1 locs1 (cells + mc) (slots + ms) Q (F0 m (pc + 3) ls (.float r :: rest))) : W p l e R s m args below meth c H locs cells slots Q (F0 m pc ls st0) := by
  intro T hT X
  rcases hr T hT X with ⟨v, st₀, t, T', L, h0, X', hL, e1, e2, ⟨⟨r, u, hv, hp, hb⟩, hF⟩, st⟩ | ⟨q, st₀, t, T', L, E, ce, h0, X', hL, e1, e2, ⟨u, hp, hb, hF⟩, hce, hcv, hcl, st⟩
  · cases hv
    obtain ⟨k1, k2, k3⟩ := vx_keep h0 e1 hS hA hf hL hF
    obtain ⟨t2, a1, b1⟩ := kk r u t T'.heap (locs ++ L) e1.symm (by rw [← e2]; exact X'.warmed.alike) hp hb k1 k2 k3 T' rfl X'
    exact ⟨t2, st t2 a1, b1⟩
  · obtain ⟨k1, k2, k3⟩ := vx_keep h0 e1 hS hAX hf hL hF
    obtain ⟨t2, a1, b1⟩ := kx E ce q u t T'.heap (locs ++ L) e1.symm (by rw [← e2]; exact X'.warmed.alike) hp hb k1 k2 k3 (by rw [e1]; exact hce) hcv hcl T' rfl X'
    exact ⟨t2, st.trans a1, b1⟩
theorem vx_calld {S SX : Type} {post : UInt64 → S → Prop} {px : SX → Prop} {B : S → State → Prop} {BX : String → SX → State → Prop} {AX : Nat → Prop} (hr : vx_Run p l e R s m args below meth c H locs cells slots mc ms (F0 m pc ls st0) rest (va_Qd post B A1 a) (vx_X px BX AX) free) (hS : va_S A0 H0 H locs) (hA : ∀ q, q < H.size → A1 q → A0 q) (hf : ∀ q, free q → A0 q) (hAX : ∀ q, q < H.size → AX q → A0 q)
    (kx : ∀ (E : String) (ce : Cell) (q9 : Addr) (u : SX) (t : State) (H1 : Heap) (locs1 : List Loc), t.heap = H1 → s.vm.Alike t.vm → px u → BX E u t → H.size ≤ H1.size → (∀ q : Nat, q < H.size → ¬ AX q → H1[q]? = H[q]?) → va_S A0 H0 H1 locs1 → H1[q9]? = some ce → ce.vm = .none → s.vm.findClass E = some ce.cls → vx_W p l e R s m args below meth c H1 locs1 (cells + mc) (slots + ms) Q (F0 m pc ls rest) q9)
    (kk : ∀ (r : UInt64) (u : S) (t : State) (H1 : Heap) (locs1 : List Loc), t.heap = H1 → s.vm.Alike t.vm → post r u → B u t → H.size ≤ H1.size → (∀ q : Nat, q < H.size → ¬ A1 q → H1[q]? = H[q]?) → va_S A0 H0 H1 locs1 → W p l e R s m args below meth c H1 locs1 (cells + mc) (slots + ms) Q (F0 m (pc + 3) ls (.double r :: rest))) : W p l e R s m args below meth c H locs cells slots Q (F0 m pc ls st0) := by
  intro T hT X
  rcases hr T hT X with ⟨v, st₀, t, T', L, h0, X', hL, e1, e2, ⟨⟨r, u, hv, hp, hb⟩, hF⟩, st⟩ | ⟨q, st₀, t, T', L, E, ce, h0, X', hL, e1, e2, ⟨u, hp, hb, hF⟩, hce, hcv, hcl, st⟩
  · cases hv
    obtain ⟨k1, k2, k3⟩ := vx_keep h0 e1 hS hA hf hL hF
    obtain ⟨t2, a1, b1⟩ := kk r u t T'.heap (locs ++ L) e1.symm (by rw [← e2]; exact X'.warmed.alike) hp hb k1 k2 k3 T' rfl X'
    exact ⟨t2, st t2 a1, b1⟩
  · obtain ⟨k1, k2, k3⟩ := vx_keep h0 e1 hS hAX hf hL hF
    obtain ⟨t2, a1, b1⟩ := kx E ce q u t T'.heap (locs ++ L) e1.symm (by rw [← e2]; exact X'.warmed.alike) hp hb k1 k2 k3 (by rw [e1]; exact hce) hcv hcl T' rfl X'
    exact ⟨t2, st.trans a1, b1⟩
theorem vx_callv {S SX : Type} {post : S → Prop} {px : SX → Prop} {B : S → State → Prop} {BX : String → SX → State → Prop} {AX : Nat → Prop} (hr : vx_Run p l e R s m args below meth c H locs cells slots mc ms (F0 m pc ls st0) rest (va_Qv post B A1 a) (vx_X px BX AX) free) (hS : va_S A0 H0 H locs) (hA : ∀ q, q < H.size → A1 q → A0 q) (hf : ∀ q, free q → A0 q) (hAX : ∀ q, q < H.size → AX q → A0 q)
    (kx : ∀ (E : String) (ce : Cell) (q9 : Addr) (u : SX) (t : State) (H1 : Heap) (locs1 : List Loc), t.heap = H1 → s.vm.Alike t.vm → px u → BX E u t → H.size ≤ H1.size → (∀ q : Nat, q < H.size → ¬ AX q → H1[q]? = H[q]?) → va_S A0 H0 H1 locs1 → H1[q9]? = some ce → ce.vm = .none → s.vm.findClass E = some ce.cls → vx_W p l e R s m args below meth c H1 locs1 (cells + mc) (slots + ms) Q (F0 m pc ls rest) q9)
    (kk : ∀ (u : S) (t : State) (H1 : Heap) (locs1 : List Loc), t.heap = H1 → s.vm.Alike t.vm → post u → B u t → H.size ≤ H1.size → (∀ q : Nat, q < H.size → ¬ A1 q → H1[q]? = H[q]?) → va_S A0 H0 H1 locs1 → W p l e R s m args below meth c H1 locs1 (cells + mc) (slots + ms) Q (F0 m (pc + 3) ls (rest))) : W p l e R s m args below meth c H locs cells slots Q (F0 m pc ls st0) := by
  intro T hT X
  rcases hr T hT X with ⟨v, st₀, t, T', L, h0, X', hL, e1, e2, ⟨⟨u, hv, hp, hb⟩, hF⟩, st⟩ | ⟨q, st₀, t, T', L, E, ce, h0, X', hL, e1, e2, ⟨u, hp, hb, hF⟩, hce, hcv, hcl, st⟩
  · cases hv
    obtain ⟨k1, k2, k3⟩ := vx_keep h0 e1 hS hA hf hL hF
    obtain ⟨t2, a1, b1⟩ := kk u t T'.heap (locs ++ L) e1.symm (by rw [← e2]; exact X'.warmed.alike) hp hb k1 k2 k3 T' rfl X'
    exact ⟨t2, st t2 a1, b1⟩
  · obtain ⟨k1, k2, k3⟩ := vx_keep h0 e1 hS hAX hf hL hF
    obtain ⟨t2, a1, b1⟩ := kx E ce q u t T'.heap (locs ++ L) e1.symm (by rw [← e2]; exact X'.warmed.alike) hp hb k1 k2 k3 (by rw [e1]; exact hce) hcv hcl T' rfl X'
    exact ⟨t2, st.trans a1, b1⟩
/-- caught by the row x of this method's table; the rows ahead don't take it -/
theorem vx_catch {own name : String} {E : String} {ce : Cell} {q : Addr} (hown : s.vm.findClass own = some m.cls) (pre : List ExceptionTableEntry) (x : ExceptionTableEntry) (suf : List ExceptionTableEntry) (hsplit : c.exceptionTable.toList = pre ++ x :: suf)
    (hpass : ∀ z ∈ pre, covers z pc = false ∨ (z.catchType ≠ 0 ∧ ∃ nm : String, (Cond.classLink own z.catchType nm).before args s = true ∧ va_Nc E nm s)) (hx : covers x pc = true) (h0 : x.catchType ≠ 0)
    (hlink : (Cond.classLink own x.catchType name).before args s = true) (hcast : (Cond.castable E name).before args s = true) (hcell : H[q]? = some ce) (hv : ce.vm = .none) (hcl : s.vm.findClass E = some ce.cls)
    (kk : W p l e R s m args below meth c H locs cells slots Q (F0 m x.handlerPc ls [.ref q])) : vx_W p l e R s m args below meth c H locs cells slots Q (F0 m pc ls rest) q := by
  intro T hT X
  have hpl : e.platform.magicAccessors = ({} : Platform).magicAccessors := by rw [X.admits.platform]
  obtain ⟨c3, c4, hc3, hc4, hasg⟩ := Cond.castable_spec hcast
  cases Option.some.inj (hc3.symm.trans hcl)
  obtain ⟨c5, hc5, hcl5⟩ := Cond.classLink_spec hown hlink e.platform hpl
  cases Option.some.inj (hc4.symm.trans hc5)
  obtain ⟨vm', X', st⟩ := X.thenCaughtThrough q (g := F0 m pc ls rest) rfl (Steps.refl _) (by rw [hT]; exact hcell) (by rw [hv]; rfl) (by obtain ⟨k9, h9, -⟩ := Vm.findClass_spec hcl; exact ⟨k9, h9⟩) pre x suf hsplit
    (fun z hz => by
      rcases hpass z hz with h | ⟨hz0, nm, hl1, hn1⟩
      · exact Or.inl h
      · obtain ⟨c6, hc6, hcl6⟩ := Cond.classLink_spec hown hl1 e.platform hpl
        obtain ⟨a8, b8, h1, h2, h3⟩ := hn1
        cases Option.some.inj (h1.symm.trans hcl)
        cases Option.some.inj (h2.symm.trans hc6)
        exact Or.inr ⟨hz0, _, hcl6, h3⟩) hx (Or.inr ⟨h0, c4, hcl5, hasg⟩)
  obtain ⟨t, a1, b1⟩ := kk (T.setVm vm') hT X'
  exact ⟨t, st.trans a1, b1⟩
end Rows
section Ends
variable {p : Program} {l : Launch} {e : Env} {R : Room} {s : State} {m : MethodId} {args : Array Value} {below : List Frame} {meth : Method} {c : Code} {H : Heap} {locs : List Loc} {cells slots : Nat} {Q : State → Prop}
variable {mc ms : Nat} {free : Addr → Prop} {A0 A1 : Nat → Prop} {H0 : Heap} {a : Array Value} {ls : Array Slot} {st0 rest : List Value}
variable {Qc : Array Value → State → Outcome → State → Prop} {XC : String → State → State → Prop}
/-- what a body that may throw owes at its end -/
def vx_MQ (below : List Frame) (Qc : Array Value → State → Outcome → State → Prop) (XC : String → State → State → Prop) (a : Array Value) (s : State) (mc ms : Nat) (free : Addr → Prop) : State → Prop := fun t =>
  ∃ o, t.status = .running ∧ Ended t below o ∧ vx_Q Qc XC mc ms free a s o t
theorem vx_ret {g : JFrame} {mc ms : Nat} (k : W p l e R s m args below meth c H locs cells slots (MQ below Qc args s mc ms free) g) : W p l e R s m args below meth c H locs cells slots (vx_MQ below Qc XC args s mc ms free) g := by
  intro T hT X
  obtain ⟨t, a1, o, b1, b2, b3, b4⟩ := k T hT X
  exact ⟨t, a1, o, b1, b2, Or.inl ⟨b3, b4⟩⟩
/-- not caught here: it goes on to the caller -/
theorem vx_widen {g : JFrame} {q : Addr} {k n : Nat} (h1 : cells ≤ k) (h2 : slots ≤ n) (kk : vx_W p l e R s m args below meth c H locs k n Q g q) : vx_W p l e R s m args below meth c H locs cells slots Q g q := fun T hT X => kk T hT (stand_widen X h1 h2)
theorem vx_out {pc : Nat} {E : String} {ce : Cell} {q : Addr} {mc ms : Nat} (hout : ∀ x ∈ c.exceptionTable.toList, covers x pc = false) (hlocks : meth.locks = false) (hcell : H[q]? = some ce) (hv : ce.vm = .none) (hcl : s.vm.findClass E = some ce.cls)
    (hx : ∀ t : State, t.heap = H → s.vm.Alike t.vm → XC E s t) (hf : ∀ z ∈ locs, free z.base) (hc : cells ≤ mc) (hs : slots ≤ ms) :
    vx_W p l e R s m args below meth c H locs cells slots (vx_MQ below Qc XC args s mc ms free) (F0 m pc ls rest) q := by
  intro T hT X
  obtain ⟨st1, hrun, hend, hW, hsm⟩ := X.leaveThrown q (g := F0 m pc ls rest) rfl rfl rfl hout hlocks
  have hcell9 : (T.setFrames (.throwing q :: below)).heap[q]? = some ce := by
    show T.heap[q]? = some ce
    rw [hT]; exact hcell
  exact ⟨_, st1, .threw q, hrun, hend, Or.inr ⟨q, rfl, E, ce, locs, hx _ hT hW.alike, hcell9, hv, hcl, hW, hsm.mono hc hs, hf⟩⟩
theorem vx_frame {U : State} {k n : Nat} (h : s.sameButNew ({ U with vm := s.vm } : State) locs k n) : s.heap.size ≤ U.heap.size ∧ ∀ q : Nat, q < s.heap.size → (∀ z ∈ locs, z.base ≠ q) → U.heap[q]? = s.heap[q]? := by
  obtain ⟨-, h2, -, -, -, h6⟩ := h
  refine ⟨h2, fun q hq hz => ?_⟩
  obtain ⟨c9, e1, e2, e3, e4⟩ := h6 q _ (Array.getElem?_eq_getElem hq)
  have hs : c9.slots = (s.heap[q]).slots := Array.ext_getElem? fun i => e4 i fun hm => hz _ hm rfl
  have h9 : c9 = s.heap[q] := by
    rw [hs] at e2
    exact e2
  have e5 : U.heap[q]? = some c9 := e1
  rw [e5, h9, Array.getElem?_eq_getElem hq]
/-- the words of a throw but the four that speak of the heap -/
def vx_no (w : Cond) : Bool := decide (w ≠ .isRef (.static Bundle.tN "UNASSIGNED_STACK" Bundle.steD)) && decide (w ≠ .isRef (.static Bundle.tN "SUPPRESSED_SENTINEL" Bundle.listD)) && decide (w ≠ .laysStatic Bundle.tN "UNASSIGNED_STACK" Bundle.steD) && decide (w ≠ .laysStatic Bundle.tN "SUPPRESSED_SENTINEL" Bundle.listD)
def vx_at0 (own : String) (ic : Nat) (X : String) (names : List String) : List Cond := (Bundle.ownAtoms0 own ic X names).filter vx_no
def vx_atS (own : String) (ic : Nat) (X : String) (names : List String) : List Cond := (Bundle.ownAtoms own ic X names).filter vx_no
/-- a word that the tables alone decide, or a good one -/
def vx_ot (w : Cond) : Bool := w.onTables || goodWord w
theorem vx_ot_at {args a' : Array Value} {s U : State} {w : Cond} (hW : s.WarmedH U.vm) (hvm : s.vm = U.vm) (hg : vx_ot w = true) (h : w.before args s = true) : w.before a' U = true := by
  simp only [vx_ot, Bool.or_eq_true] at hg
  rcases hg with hg | hg
  · exact va_tabs hg hvm h
  · exact word_at hW (good_of_word hg) h
/-- a list's words: the good ones out of the method's own list, the others by premises of their own -/
theorem vx_hat {args : Array Value} {s : State} {L B : List Cond} (h1 : ∀ w ∈ L.filter goodWord, w.before args s = true) (h2 : ∀ w ∈ L.filter (fun w => !goodWord w), w ∈ B) (h3 : ∀ w ∈ B, w.before args s = true) : ∀ w ∈ L, w.before args s = true := by
  intro w hw
  by_cases g : goodWord w = true
  · exact h1 w (List.mem_filter.mpr ⟨hw, g⟩)
  · refine h3 w (h2 w (List.mem_filter.mpr ⟨hw, ?_⟩))
    show (!goodWord w) = true
    cases hgw : goodWord w
    · rfl
    · exact absurd hgw g
theorem vx_c {args : Array Value} {s : State} {w : Cond} {B : List Cond} (h : w.before args s = true) (t : ∀ w ∈ B, w.before args s = true) : ∀ w' ∈ w :: B, w'.before args s = true := fun w' h' => (List.mem_cons.mp h').elim (fun e => by rw [e]; exact h) (t w')
theorem vx_n {args : Array Value} {s : State} : ∀ w ∈ ([] : List Cond), w.before args s = true := fun _ h => nomatch h
theorem vx_own {args : Array Value} {s : State} {L : List Cond} (h1 : ∀ w ∈ L.filter vx_no, w.before args s = true)
    (hU : (Cond.isRef (.static Bundle.tN "UNASSIGNED_STACK" Bundle.steD)).before args s = true) (hN : (Cond.isRef (.static Bundle.tN "SUPPRESSED_SENTINEL" Bundle.listD)).before args s = true)
    (lU : (Cond.laysStatic Bundle.tN "UNASSIGNED_STACK" Bundle.steD).before args s = true) (lN : (Cond.laysStatic Bundle.tN "SUPPRESSED_SENTINEL" Bundle.listD).before args s = true) : ∀ w ∈ L, w.before args s = true := by
  intro w hw
  by_cases e1 : w = .isRef (.static Bundle.tN "UNASSIGNED_STACK" Bundle.steD)
  · rw [e1]; exact hU
  · by_cases e2 : w = .isRef (.static Bundle.tN "SUPPRESSED_SENTINEL" Bundle.listD)
    · rw [e2]; exact hN
    · by_cases e3 : w = .laysStatic Bundle.tN "UNASSIGNED_STACK" Bundle.steD
      · rw [e3]; exact lU
      · by_cases e4 : w = .laysStatic Bundle.tN "SUPPRESSED_SENTINEL" Bundle.listD
        · rw [e4]; exact lN
        · exact h1 w (List.mem_filter.mpr ⟨hw, by unfold vx_no; rw [decide_eq_true e1, decide_eq_true e2, decide_eq_true e3, decide_eq_true e4]; rfl⟩)
/-- where a static field lies, its class's statics cell in H -/
def vx_L (C n d : String) (A : Nat → Prop) (U : State) (H : Heap) : Prop := ∃ (c : ClassId) (k : Class) (i : Nat) (f : Field) (a : Nat) (cell : Cell), U.vm.findClass C = some c ∧ U.fieldFound? C n d = some (c, k, i, f) ∧ f.isStatic = true ∧ k.statics = some a ∧ H[a]? = some cell ∧ cell.vm.isStatics = true ∧ cell.cls = c ∧ f.slot < cell.slots.size ∧ k.staticTypes[f.slot]? = some f.type ∧ ¬ A a
theorem vx_L.moved {C n d : String} {A : Nat → Prop} {u U : State} {H : Heap} (hvm : u.vm.Alike U.vm) (h : vx_L C n d A u H) : vx_L C n d A U H := by
  obtain ⟨c, k, i, f, a, cell, h1, h2, h3, h4, h5, h6, h7, h8, h9, h10⟩ := h
  obtain ⟨k', hi', he⟩ := State.fieldFound?_setVm hvm h2
  exact ⟨c, k', i, f, a, cell, by rw [hvm.findClass]; exact h1, hi', h3, by rw [he]; exact h4, h5, h6, h7, h8, by rw [he]; exact h9, h10⟩
theorem vx_L.kept {C n d : String} {A : Nat → Prop} {U : State} {H H1 : Heap} (h : vx_L C n d A U H) (hq : ∀ a : Nat, a < H.size → ¬ A a → H1[a]? = H[a]?) : vx_L C n d A U H1 := by
  obtain ⟨c, k, i, f, a, cell, h1, h2, h3, h4, h5, h6, h7, h8, h9, h10⟩ := h
  exact ⟨c, k, i, f, a, cell, h1, h2, h3, h4, by rw [hq a (Array.getElem?_eq_some_iff.mp h5).1 h10]; exact h5, h6, h7, h8, h9, h10⟩
theorem vx_L.narrow {C n d : String} {A B : Nat → Prop} {U : State} {H : Heap} (h : vx_L C n d A U H) (hAB : ∀ q, B q → A q) : vx_L C n d B U H := by
  obtain ⟨c, k, i, f, a, cell, h1, h2, h3, h4, h5, h6, h7, h8, h9, h10⟩ := h
  exact ⟨c, k, i, f, a, cell, h1, h2, h3, h4, h5, h6, h7, h8, h9, fun z => h10 (hAB _ z)⟩
theorem vx_L.word {C n d : String} {A : Nat → Prop} {s : State} {args : Array Value} (h : vx_L C n d A s s.heap) : (Cond.laysStatic C n d).before args s = true := by
  obtain ⟨c, k, i, f, a, cell, h1, h2, h3, h4, h5, h6, h7, h8, h9, -⟩ := h
  show (Cond.laysStatic C n d).holds args s none s [] = true
  exact Cond.laysStatic_of h1 h2 h3 h4 h5 h6 h7 h8 h9
/-- .. and what it holds: null or some reference -/
def vx_Zq (C n d : String) (A : Nat → Prop) (U : State) (H : Heap) : Prop := va_Zq C n d A U H ∧ vx_L C n d A U H
theorem vx_Zq.moved {C n d : String} {A : Nat → Prop} {u U : State} {H : Heap} (hvm : u.vm.Alike U.vm) (h : vx_Zq C n d A u H) : vx_Zq C n d A U H := ⟨va_Zq.moved hvm h.1, vx_L.moved hvm h.2⟩
theorem vx_Zq.kept {C n d : String} {A : Nat → Prop} {U : State} {H H1 : Heap} (h : vx_Zq C n d A U H) (hq : ∀ a : Nat, a < H.size → ¬ A a → H1[a]? = H[a]?) : vx_Zq C n d A U H1 := ⟨va_Zq.kept h.1 hq, vx_L.kept h.2 hq⟩
theorem vx_Zq.narrow {C n d : String} {A B : Nat → Prop} {U : State} {H : Heap} (h : vx_Zq C n d A U H) (hAB : ∀ q, B q → A q) : vx_Zq C n d B U H := ⟨va_Zq.narrow h.1 hAB, vx_L.narrow h.2 hAB⟩
theorem vx_Zqof {args : Array Value} {s : State} {C n d : String} {A : Nat → Prop} (hl : (Cond.laysStatic C n d).before args s = true) (hini : (Cond.initialized C).before args s = true) (h : (Cond.isRef (.static C n d)).before args s = true) (hA : ∀ a : Nat, a < s.heap.size → ¬ A a) : vx_Zq C n d A s s.heap := by
  refine ⟨va_Zqof hl hini h hA, ?_⟩
  obtain ⟨c, k, i, f, a, cell, h1, h2, h3, h4, h5, h6, h7, h8, h9⟩ := Cond.laysStatic_spec hl
  exact ⟨c, k, i, f, a, cell, h1, h2, h3, h4, h5, h6, h7, h8, h9, hA a (Array.getElem?_eq_some_iff.mp h5).1⟩
theorem vx_isRef {C n d : String} {v : Value} {A : Nat → Prop} {s : State} {args : Array Value} (h : va_Z C n d v A s s.heap) (hv : v.isRef = true) : (Cond.isRef (.static C n d)).before args s = true := by
  obtain ⟨cf, kf, fi, f, a, cell, h1, h2, h3, h4, h5, h6, h7, -⟩ := h
  have he : (Term.static C n d).eval args s none [] s = some v := by
    simp [Term.eval, State.fieldNamed?, h1, h2, h4, h5, h6, h7]
  simp only [Cond.before, Cond.holds, Cond.value, he]
  cases v <;> simp_all [Value.isRef]
theorem vx_isRefq {C n d : String} {A : Nat → Prop} {s : State} {args : Array Value} (h : va_Zq C n d A s s.heap) : (Cond.isRef (.static C n d)).before args s = true := by
  rcases h with h | ⟨t, h⟩
  · exact vx_isRef h rfl
  · exact vx_isRef h rfl
/-- the same frame, seen from here: as if the method were called anew in this heap -/
theorem vx_rebase {T : State} (X : Stand p l e R s m args below meth c T locs cells slots) {R' : Room} (hf : R'.frames ≤ R.frames) (hl : R'.locals ≤ R.locals) (hc : cells + R'.cells ≤ R.cells) (hs : slots + R'.slots ≤ R.slots) :
    Stand p l e R' ((T.setVm s.vm).setFrames (.invoking m args :: below)) m args below meth c T [] 0 0 := by
  have htop : (T.setVm s.vm).topJava?.isSome := X.here.top
  have hF : ((T.setVm s.vm).setFrames (.invoking m args :: below)).frames = .invoking m args :: below := State.frames_setFrames _ (State.cur_lt_of_top htop)
  obtain ⟨g₀, hg0⟩ := Option.isSome_iff_exists.mp htop
  obtain ⟨r, hr⟩ := State.topJava?_eq_some.mp hg0
  have hl9 : e.platform.stackLimits (T.setVm s.vm).me = e.platform.stackLimits s.me := X.limits
  have hb9 : (T.setVm s.vm).me.stackBytes = s.me.stackBytes := X.bytes
  refine ⟨X.admits, X.cas, X.clock, hF, ?_, X.hears, X.method, X.code, X.here, X.tail, X.warmed, ?_, ?_, ?_⟩
  · have h := X.room
    have hU : ((T.setVm s.vm).setFrames (.invoking m args :: below)).localsInUse = s.localsInUse := by
      rw [State.localsInUse_invoking hF (meth := meth) (c := c) X.method X.code, State.localsInUse_invoking X.frames X.method X.code]
    simp only [State.hasRoom, Bool.and_eq_true, decide_eq_true_eq] at h ⊢
    obtain ⟨⟨⟨⟨h1, h2, h3, h4, h5, h6⟩, h7⟩, h8⟩, h9⟩ := h
    rw [X.frames, List.length_cons] at h2 h3
    have q1 := X.heapSize
    have q2 := X.used
    simp only [hF, hU, List.length_cons, State.stackLimits_setFrames, State.stackBytes_setFrames, hl9, hb9]
    refine ⟨⟨⟨⟨by omega, by omega, by omega, by omega, by omega, h6⟩, ?_⟩, ?_⟩, X.book⟩
    · show T.heap.size + R'.cells ≤ e.platform.maxCells
      omega
    · show T.slotsUsed + R'.slots ≤ e.platform.maxSlots
      omega
  · rw [State.stackLimits_setFrames]; rfl
  · rw [State.stackBytes_setFrames]; rfl
  · refine ⟨?_, Nat.le_refl _, Nat.le_refl _, ?_, ?_, fun a c9 h9 => ⟨c9, h9, rfl, rfl, fun _ _ => rfl⟩⟩
    · obtain ⟨t, ht, -⟩ := State.frames_cons hr
      show T.setVm s.vm = { ((T.setVm s.vm).setFrames (.invoking m args :: below)).setFrames (T.setVm s.vm).frames with heap := T.heap, slotsUsed := T.slotsUsed }
      rw [State.setFrames_setFrames, State.setFrames_self ht]
      rfl
    · show T.slotsUsed = T.slotsUsed + ((T.heap.toList.drop T.heap.size).map (·.slots.size)).sum
      rw [List.drop_eq_nil_of_le (Nat.le_of_eq Array.length_toList)]
      rfl
    · show ((T.heap.toList.drop T.heap.size).map (·.slots.size)).sum ≤ 0
      rw [List.drop_eq_nil_of_le (Nat.le_of_eq Array.length_toList)]
      exact Nat.le_refl _
/-- 'throw new E()': new; dup; invokespecial; athrow -/
theorem vx_throw0 {cc : ByteArray} {pc : Nat} (hexec : p.tables.exec = Jvm.exec) (hb : c.code = cc) (hl : l.stackTraces = false) {own cls : String} {names : List String} {ik ic mc ms : Nat} {A : Nat → Prop}
    (hown : s.vm.findClass own = some m.cls) (hcls : Bundle.fit cls = true) (hnames : ∀ n ∈ names, Bundle.fit n = true)
    (hk : (Cond.classLink own ik cls).before args s = true) (hini : (Cond.initialized cls).before args s = true) (hat : ∀ w ∈ vx_at0 own ic cls names, w.before args s = true)
    (hgood : ∀ w ∈ Cond.classLink own ik cls :: Cond.initialized cls :: vx_at0 own ic cls names, vx_ot w = true)
    (hU : vx_Zq Bundle.tN "UNASSIGNED_STACK" Bundle.steD A s s.heap) (hN : vx_Zq Bundle.tN "SUPPRESSED_SENTINEL" Bundle.listD A s s.heap) (hS : va_S A s.heap H locs) (hsize : ls.size = c.maxLocals)
    (d0 : decode cc pc = .ok (.new ik, 3)) (d3 : decode cc (pc + 3) = .ok (.dup, 1)) (d4 : decode cc (pc + 4) = .ok (.invokespecial ic, 3)) (d7 : decode cc (pc + 7) = .ok (.athrow, 1))
    (hout : ∀ x ∈ c.exceptionTable.toList, covers x (pc + 7) = false)
    (hRframes : names.length + 3 < R.frames) (hRlocals : (rest.map fun v => v.category).sum + (13 * (names.length + 1) + 42) ≤ R.locals) (hRcells : cells + 1 ≤ R.cells) (hRslots : slots + 6 ≤ R.slots) (hlocks : meth.locks = false)
    (hx : ∀ t : State, s.vm.Alike t.vm → H.size ≤ t.heap.size → (∀ q : Nat, q < H.size → t.heap[q]? = H[q]?) → XC cls s t)
    (hf : ∀ z ∈ locs, free z.base) (hc : cells + 1 ≤ mc) (hs : slots + 6 ≤ ms) :
    W p l e R s m args below meth c H locs cells slots (vx_MQ below Qc XC args s mc ms free) (F0 m pc ls rest) := by
  intro T hT X
  have htr : e.platform.stackTraces = false := (show e.platform.stackTraces = l.stackTraces by rw [X.admits.platform]).trans hl
  have Y := vx_rebase X (R' := { frames := R.frames, locals := R.locals, cells := 1, slots := 6 }) (Nat.le_refl _) (Nat.le_refl _) hRcells hRslots
  obtain ⟨s', hA⟩ : ∃ z, z = (T.setVm s.vm).setFrames (.invoking m args :: below) := ⟨_, rfl⟩
  rw [← hA] at Y
  have hvm : s'.vm = s.vm := by rw [hA]; rfl
  have hhp : s'.heap = H := by rw [hA]; exact hT
  have hW0 : s.WarmedH s'.vm := by rw [hvm]; exact State.WarmedH.refl s
  have hat' : ∀ w ∈ vx_at0 own ic cls names, w.before args s' = true := fun w hw => vx_ot_at hW0 hvm.symm (hgood w (List.mem_cons_of_mem _ (List.mem_cons_of_mem _ hw))) (hat w hw)
  have hk' : (Cond.classLink own ik cls).before args s' = true := vx_ot_at hW0 hvm.symm (hgood _ List.mem_cons_self) hk
  have hini' : (Cond.initialized cls).before args s' = true := vx_ot_at hW0 hvm.symm (hgood _ (List.mem_cons_of_mem _ List.mem_cons_self)) hini
  have hU' : vx_Zq Bundle.tN "UNASSIGNED_STACK" Bundle.steD A s' s'.heap := by rw [hhp]; exact vx_Zq.moved hW0.alike (hU.kept hS.2.1)
  have hN' : vx_Zq Bundle.tN "SUPPRESSED_SENTINEL" Bundle.listD A s' s'.heap := by rw [hhp]; exact vx_Zq.moved hW0.alike (hN.kept hS.2.1)
  have h : ∀ w ∈ Bundle.ownAtoms0 own ic cls names, w.before args s' = true := vx_own hat' (vx_isRefq hU'.1) (vx_isRefq hN'.1) hU'.2.word hN'.2.word
  have hown' : s'.vm.findClass own = some m.cls := by rw [hvm]; exact hown
  have hins : (Cond.instantiable cls 6).before args s' = true := h _ (by simp [Bundle.ownAtoms0])
  obtain ⟨vm₁, cX, kX, hfX, hkX, -, -, X₁, st1⟩ := Y.newCold hexec (own := own) (C := cls) (index := ik) (n := 6) hown' hk' hins hini'
    (g := F0 m pc ls rest) rfl (by rw [hb]; exact d0) (Nat.le_refl _) (Nat.le_refl _)
  generalize hT1 : (T.setVm vm₁).pushCell { cls := cX, slots := kX.instanceTypes.map defaultValue, vm := .none } = T1 at X₁ st1
  have hcat : (Value.ref T.heap.size).category = 1 := rfl
  have hcellA : T1.heap[T.heap.size]? = some (freshCell cX kX) := by rw [← hT1]; exact State.heap_pushCell_size _ _
  have d3' : decode c.code (pc + 3) = .ok (.dup, 1) := by rw [hb]; exact d3
  obtain ⟨U, hsteps, hrun, hend, hW, hsame, ce, hce, hO⟩ := X₁.ctorThrow0 hexec htr (own := own) (cls := cls) (names := names) (ic := ic) hown' hcls hnames h (fun x hx => nomatch hx) hfX hkX hcellA (by rw [hhp, hT]; exact Nat.le_refl _)
    (g := { method := m, pc := pc + 4, locals := ls, stack := .ref T.heap.size :: .ref T.heap.size :: rest, locked := none }) rfl hsize rfl rfl (rest := rest) rfl
    (by rw [hb]; exact d4) (by rw [hb]; exact d7) hout hRframes (by simp only [List.map_cons, List.sum_cons, hcat]; omega) hlocks
  obtain ⟨f1, f2⟩ := vx_frame hsame
  rw [hhp] at f1 f2
  have hWs : s.WarmedH U.vm := State.WarmedH.trans hW0 hW
  have hcl : s.vm.findClass cls = some ce.cls := by
    have h9 := hO.cls
    rw [hvm] at h9
    exact h9
  have hall : s.sameButNew ({ U with vm := s.vm } : State) locs mc ms := by
    subst hA
    obtain ⟨e1, e2⟩ := hsame
    rw [State.setFrames_setFrames] at e1
    have h2 : (T.setVm s.vm).sameButNew ({ U with vm := s.vm } : State) [] (0 + 1) (0 + 6) := ⟨e1, e2⟩
    have h3 := X.same.trans h2
    rw [List.append_nil] at h3
    exact h3.mono hc hs
  refine ⟨U, ?_, .threw T.heap.size, hrun, hend, Or.inr ⟨T.heap.size, rfl, cls, ce, locs, hx U hWs.alike f1 (fun q hq => f2 q hq (fun z hz => nomatch hz)), hce, hO.vm, hcl, hWs, hall, hf⟩⟩
  refine st1 _ ?_
  show Steps p.tables e below (T1.setTop { method := m, pc := pc + 3, locals := ls, stack := .ref T.heap.size :: rest, locked := none }) _
  jvm_step X₁.here [X₁.here.top, hexec, d3', Value.category]
  exact hsteps
/-- 'throw new E("text")': new; dup; ldc; invokespecial; athrow -/
theorem vx_throwS {cc : ByteArray} {pc : Nat} (hexec : p.tables.exec = Jvm.exec) (hb : c.code = cc) (hl : l.stackTraces = false) {own cls text : String} {names : List String} {ik is ic mc ms sa : Nat} {A : Nat → Prop}
    (hown : s.vm.findClass own = some m.cls) (hcls : Bundle.fit cls = true) (hnames : ∀ n ∈ names, Bundle.fit n = true)
    (hk : (Cond.classLink own ik cls).before args s = true) (hini : (Cond.initialized cls).before args s = true) (hstr : vk_R own is text sa s) (hat : ∀ w ∈ vx_atS own ic cls names, w.before args s = true)
    (hgood : ∀ w ∈ Cond.classLink own ik cls :: Cond.initialized cls :: vx_atS own ic cls names, vx_ot w = true)
    (hU : vx_Zq Bundle.tN "UNASSIGNED_STACK" Bundle.steD A s s.heap) (hN : vx_Zq Bundle.tN "SUPPRESSED_SENTINEL" Bundle.listD A s s.heap) (hS : va_S A s.heap H locs) (hsize : ls.size = c.maxLocals)
    (d0 : decode cc pc = .ok (.new ik, 3)) (d3 : decode cc (pc + 3) = .ok (.dup, 1)) (d4 : decode cc (pc + 4) = .ok (.ldc is, 2)) (d6 : decode cc (pc + 6) = .ok (.invokespecial ic, 3)) (d9 : decode cc (pc + 9) = .ok (.athrow, 1))
    (hout : ∀ x ∈ c.exceptionTable.toList, covers x (pc + 9) = false)
    (hRframes : names.length + 3 < R.frames) (hRlocals : (rest.map fun v => v.category).sum + (13 * (names.length + 1) + 43) ≤ R.locals) (hRcells : cells + 1 ≤ R.cells) (hRslots : slots + 6 ≤ R.slots) (hlocks : meth.locks = false)
    (hx : ∀ t : State, s.vm.Alike t.vm → H.size ≤ t.heap.size → (∀ q : Nat, q < H.size → t.heap[q]? = H[q]?) → XC cls s t)
    (hf : ∀ z ∈ locs, free z.base) (hc : cells + 1 ≤ mc) (hs : slots + 6 ≤ ms) :
    W p l e R s m args below meth c H locs cells slots (vx_MQ below Qc XC args s mc ms free) (F0 m pc ls rest) := by
  intro T hT X
  have htr : e.platform.stackTraces = false := (show e.platform.stackTraces = l.stackTraces by rw [X.admits.platform]).trans hl
  have Y := vx_rebase X (R' := { frames := R.frames, locals := R.locals, cells := 1, slots := 6 }) (Nat.le_refl _) (Nat.le_refl _) hRcells hRslots
  obtain ⟨s', hA⟩ : ∃ z, z = (T.setVm s.vm).setFrames (.invoking m args :: below) := ⟨_, rfl⟩
  rw [← hA] at Y
  have hvm : s'.vm = s.vm := by rw [hA]; rfl
  have hhp : s'.heap = H := by rw [hA]; exact hT
  have hW0 : s.WarmedH s'.vm := by rw [hvm]; exact State.WarmedH.refl s
  have hat' : ∀ w ∈ vx_atS own ic cls names, w.before args s' = true := fun w hw => vx_ot_at hW0 hvm.symm (hgood w (List.mem_cons_of_mem _ (List.mem_cons_of_mem _ hw))) (hat w hw)
  have hk' : (Cond.classLink own ik cls).before args s' = true := vx_ot_at hW0 hvm.symm (hgood _ List.mem_cons_self) hk
  have hini' : (Cond.initialized cls).before args s' = true := vx_ot_at hW0 hvm.symm (hgood _ (List.mem_cons_of_mem _ List.mem_cons_self)) hini
  have hU' : vx_Zq Bundle.tN "UNASSIGNED_STACK" Bundle.steD A s' s'.heap := by rw [hhp]; exact vx_Zq.moved hW0.alike (hU.kept hS.2.1)
  have hN' : vx_Zq Bundle.tN "SUPPRESSED_SENTINEL" Bundle.listD A s' s'.heap := by rw [hhp]; exact vx_Zq.moved hW0.alike (hN.kept hS.2.1)
  have h : ∀ w ∈ Bundle.ownAtoms own ic cls names, w.before args s' = true := vx_own hat' (vx_isRefq hU'.1) (vx_isRefq hN'.1) hU'.2.word hN'.2.word
  have hown' : s'.vm.findClass own = some m.cls := by rw [hvm]; exact hown
  have hins : (Cond.instantiable cls 6).before args s' = true := h _ (by simp [Bundle.ownAtoms])
  obtain ⟨vm₁, cX, kX, hfX, hkX, -, -, X₁, st1⟩ := Y.newCold hexec (own := own) (C := cls) (index := ik) (n := 6) hown' hk' hins hini'
    (g := F0 m pc ls rest) rfl (by rw [hb]; exact d0) (Nat.le_refl _) (Nat.le_refl _)
  generalize hT1 : (T.setVm vm₁).pushCell { cls := cX, slots := kX.instanceTypes.map defaultValue, vm := .none } = T1 at X₁ st1
  have hcat : (Value.ref T.heap.size).category = 1 := rfl
  have hcellA : T1.heap[T.heap.size]? = some (freshCell cX kX) := by rw [← hT1]; exact State.heap_pushCell_size _ _
  have d3' : decode c.code (pc + 3) = .ok (.dup, 1) := by rw [hb]; exact d3
  have d4' : decode c.code (pc + 4) = .ok (.ldc is, 2) := by rw [hb]; exact d4
  have hstr' : vk_R own is text sa s' := vk_R.warm hW0 hstr
  obtain ⟨U, hsteps, hrun, hend, hW, hsame, ce, hce, hO⟩ := X₁.ctorThrowS hexec htr (own := own) (cls := cls) (names := names) (ic := ic) hown' hcls hnames h (fun x hx => nomatch hx) hfX hkX hcellA (by rw [hhp, hT]; exact Nat.le_refl _) (msg := .ref sa) rfl
    (g := { method := m, pc := pc + 6, locals := ls, stack := .ref sa :: .ref T.heap.size :: .ref T.heap.size :: rest, locked := none }) rfl hsize rfl rfl (rest := rest) rfl
    (by rw [hb]; exact d6) (by rw [hb]; exact d9) hout hRframes (by simp only [List.map_cons, List.sum_cons, hcat]; omega) hlocks
  obtain ⟨f1, f2⟩ := vx_frame hsame
  rw [hhp] at f1 f2
  have hWs : s.WarmedH U.vm := State.WarmedH.trans hW0 hW
  have hcl : s.vm.findClass cls = some ce.cls := by
    have h9 := hO.cls
    rw [hvm] at h9
    exact h9
  have hall : s.sameButNew ({ U with vm := s.vm } : State) locs mc ms := by
    subst hA
    obtain ⟨e1, e2⟩ := hsame
    rw [State.setFrames_setFrames] at e1
    have h2 : (T.setVm s.vm).sameButNew ({ U with vm := s.vm } : State) [] (0 + 1) (0 + 6) := ⟨e1, e2⟩
    have h3 := X.same.trans h2
    rw [List.append_nil] at h3
    exact h3.mono hc hs
  refine ⟨U, ?_, .threw T.heap.size, hrun, hend, Or.inr ⟨T.heap.size, rfl, cls, ce, locs, hx U hWs.alike f1 (fun q hq => f2 q hq (fun z hz => nomatch hz)), hce, hO.vm, hcl, hWs, hall, hf⟩⟩
  refine st1 _ ?_
  show Steps p.tables e below (T1.setTop { method := m, pc := pc + 3, locals := ls, stack := .ref T.heap.size :: rest, locked := none }) _
  jvm_step X₁.here [X₁.here.top, hexec, d3', Value.category]
  exact X₁.ldcString hexec (own := own) (text := text) (index := is) (a := sa) hown' hstr'.1 hstr'.2
    (g := { method := m, pc := pc + 4, locals := ls, stack := .ref T.heap.size :: .ref T.heap.size :: rest, locked := none }) rfl d4' _ hsteps
/-- 'throw new E("text")', the text by a wide index -/
theorem vx_throwSW {cc : ByteArray} {pc : Nat} (hexec : p.tables.exec = Jvm.exec) (hb : c.code = cc) (hl : l.stackTraces = false) {own cls text : String} {names : List String} {ik is ic mc ms sa : Nat} {A : Nat → Prop}
    (hown : s.vm.findClass own = some m.cls) (hcls : Bundle.fit cls = true) (hnames : ∀ n ∈ names, Bundle.fit n = true)
    (hk : (Cond.classLink own ik cls).before args s = true) (hini : (Cond.initialized cls).before args s = true) (hstr : vk_R own is text sa s) (hat : ∀ w ∈ vx_atS own ic cls names, w.before args s = true)
    (hgood : ∀ w ∈ Cond.classLink own ik cls :: Cond.initialized cls :: vx_atS own ic cls names, vx_ot w = true)
    (hU : vx_Zq Bundle.tN "UNASSIGNED_STACK" Bundle.steD A s s.heap) (hN : vx_Zq Bundle.tN "SUPPRESSED_SENTINEL" Bundle.listD A s s.heap) (hS : va_S A s.heap H locs) (hsize : ls.size = c.maxLocals)
    (d0 : decode cc pc = .ok (.new ik, 3)) (d3 : decode cc (pc + 3) = .ok (.dup, 1)) (d4 : decode cc (pc + 4) = .ok (.ldc_w is, 3)) (d7 : decode cc (pc + 7) = .ok (.invokespecial ic, 3)) (d10 : decode cc (pc + 10) = .ok (.athrow, 1))
    (hout : ∀ x ∈ c.exceptionTable.toList, covers x (pc + 10) = false)
    (hRframes : names.length + 3 < R.frames) (hRlocals : (rest.map fun v => v.category).sum + (13 * (names.length + 1) + 43) ≤ R.locals) (hRcells : cells + 1 ≤ R.cells) (hRslots : slots + 6 ≤ R.slots) (hlocks : meth.locks = false)
    (hx : ∀ t : State, s.vm.Alike t.vm → H.size ≤ t.heap.size → (∀ q : Nat, q < H.size → t.heap[q]? = H[q]?) → XC cls s t)
    (hf : ∀ z ∈ locs, free z.base) (hc : cells + 1 ≤ mc) (hs : slots + 6 ≤ ms) :
    W p l e R s m args below meth c H locs cells slots (vx_MQ below Qc XC args s mc ms free) (F0 m pc ls rest) := by
  intro T hT X
  have htr : e.platform.stackTraces = false := (show e.platform.stackTraces = l.stackTraces by rw [X.admits.platform]).trans hl
  have Y := vx_rebase X (R' := { frames := R.frames, locals := R.locals, cells := 1, slots := 6 }) (Nat.le_refl _) (Nat.le_refl _) hRcells hRslots
  obtain ⟨s', hA⟩ : ∃ z, z = (T.setVm s.vm).setFrames (.invoking m args :: below) := ⟨_, rfl⟩
  rw [← hA] at Y
  have hvm : s'.vm = s.vm := by rw [hA]; rfl
  have hhp : s'.heap = H := by rw [hA]; exact hT
  have hW0 : s.WarmedH s'.vm := by rw [hvm]; exact State.WarmedH.refl s
  have hat' : ∀ w ∈ vx_atS own ic cls names, w.before args s' = true := fun w hw => vx_ot_at hW0 hvm.symm (hgood w (List.mem_cons_of_mem _ (List.mem_cons_of_mem _ hw))) (hat w hw)
  have hk' : (Cond.classLink own ik cls).before args s' = true := vx_ot_at hW0 hvm.symm (hgood _ List.mem_cons_self) hk
  have hini' : (Cond.initialized cls).before args s' = true := vx_ot_at hW0 hvm.symm (hgood _ (List.mem_cons_of_mem _ List.mem_cons_self)) hini
  have hU' : vx_Zq Bundle.tN "UNASSIGNED_STACK" Bundle.steD A s' s'.heap := by rw [hhp]; exact vx_Zq.moved hW0.alike (hU.kept hS.2.1)
  have hN' : vx_Zq Bundle.tN "SUPPRESSED_SENTINEL" Bundle.listD A s' s'.heap := by rw [hhp]; exact vx_Zq.moved hW0.alike (hN.kept hS.2.1)
  have h : ∀ w ∈ Bundle.ownAtoms own ic cls names, w.before args s' = true := vx_own hat' (vx_isRefq hU'.1) (vx_isRefq hN'.1) hU'.2.word hN'.2.word
  have hown' : s'.vm.findClass own = some m.cls := by rw [hvm]; exact hown
  have hins : (Cond.instantiable cls 6).before args s' = true := h _ (by simp [Bundle.ownAtoms])
  obtain ⟨vm₁, cX, kX, hfX, hkX, -, -, X₁, st1⟩ := Y.newCold hexec (own := own) (C := cls) (index := ik) (n := 6) hown' hk' hins hini'
    (g := F0 m pc ls rest) rfl (by rw [hb]; exact d0) (Nat.le_refl _) (Nat.le_refl _)
  generalize hT1 : (T.setVm vm₁).pushCell { cls := cX, slots := kX.instanceTypes.map defaultValue, vm := .none } = T1 at X₁ st1
  have hcat : (Value.ref T.heap.size).category = 1 := rfl
  have hcellA : T1.heap[T.heap.size]? = some (freshCell cX kX) := by rw [← hT1]; exact State.heap_pushCell_size _ _
  have d3' : decode c.code (pc + 3) = .ok (.dup, 1) := by rw [hb]; exact d3
  have d4' : decode c.code (pc + 4) = .ok (.ldc_w is, 3) := by rw [hb]; exact d4
  have hstr' : vk_R own is text sa s' := vk_R.warm hW0 hstr
  obtain ⟨U, hsteps, hrun, hend, hW, hsame, ce, hce, hO⟩ := X₁.ctorThrowS hexec htr (own := own) (cls := cls) (names := names) (ic := ic) hown' hcls hnames h (fun x hx => nomatch hx) hfX hkX hcellA (by rw [hhp, hT]; exact Nat.le_refl _) (msg := .ref sa) rfl
    (g := { method := m, pc := pc + 7, locals := ls, stack := .ref sa :: .ref T.heap.size :: .ref T.heap.size :: rest, locked := none }) rfl hsize rfl rfl (rest := rest) rfl
    (by rw [hb]; exact d7) (by rw [hb]; exact d10) hout hRframes (by simp only [List.map_cons, List.sum_cons, hcat]; omega) hlocks
  obtain ⟨f1, f2⟩ := vx_frame hsame
  rw [hhp] at f1 f2
  have hWs : s.WarmedH U.vm := State.WarmedH.trans hW0 hW
  have hcl : s.vm.findClass cls = some ce.cls := by
    have h9 := hO.cls
    rw [hvm] at h9
    exact h9
  have hall : s.sameButNew ({ U with vm := s.vm } : State) locs mc ms := by
    subst hA
    obtain ⟨e1, e2⟩ := hsame
    rw [State.setFrames_setFrames] at e1
    have h2 : (T.setVm s.vm).sameButNew ({ U with vm := s.vm } : State) [] (0 + 1) (0 + 6) := ⟨e1, e2⟩
    have h3 := X.same.trans h2
    rw [List.append_nil] at h3
    exact h3.mono hc hs
  refine ⟨U, ?_, .threw T.heap.size, hrun, hend, Or.inr ⟨T.heap.size, rfl, cls, ce, locs, hx U hWs.alike f1 (fun q hq => f2 q hq (fun z hz => nomatch hz)), hce, hO.vm, hcl, hWs, hall, hf⟩⟩
  refine st1 _ ?_
  show Steps p.tables e below (T1.setTop { method := m, pc := pc + 3, locals := ls, stack := .ref T.heap.size :: rest, locked := none }) _
  jvm_step X₁.here [X₁.here.top, hexec, d3', Value.category]
  exact X₁.ldcStringW hexec (own := own) (text := text) (index := is) (a := sa) hown' hstr'.1 hstr'.2
    (g := { method := m, pc := pc + 4, locals := ls, stack := .ref T.heap.size :: .ref T.heap.size :: rest, locked := none }) rfl d4' _ hsteps
end Ends
section Bodies
variable {l : Launch}
theorem vx_ofW {y : MethodName} {ws ws' : List Cond} {rm : Room} {Pc : Array Value → State → Prop} {Qc : Array Value → State → Outcome → State → Prop} {XC : String → State → State → Prop} {mc ms : Nat} {free : Addr → Prop} {cc : ByteArray} {maxL : Nat} {ret : Option FieldType}
    (hy : plainName y.cls = true) (hw : ws = Cond.code y cc maxL ret :: ws')
    (body : ∀ p e s m args below meth c s₁, BodyLoose p l y (headSpec ws rm) cc maxL ret e s m args below meth c s₁ → c.maxLocals = maxL → (∀ x ∈ c.exceptionTable.toList, False) → Pc args s →
      W p l e (headSpec ws rm).room s m args below meth c s.heap [] 0 0 (vx_MQ below Qc XC args s mc ms free) (entryFrame m args maxL)) : vx_Met l y ws rm Pc Qc XC mc ms free := by
  refine MetFree.of_bodyS (code := cc) (maxLocals := maxL) (ret := ret) hy ?_ ?_
  · intro args s m h hn
    obtain ⟨meth, c, h1, h2, h3, h4, h5, h6, -, -⟩ := Cond.code_spec hn (atoms_spec (ws := ws) h _ (by rw [hw]; exact List.mem_cons_self))
    exact ⟨meth, c, h1, h2, h3, h4, h5, h6⟩
  · intro p e s m args below meth c s₁ B hml hP _
    have hh0 : s₁.heap = s.heap := by rw [B.state]; rfl
    have ht : ∀ x ∈ c.exceptionTable.toList, False := by
      obtain ⟨meth9, c9, h1, h2, -, -, -, -, h7, -⟩ := Cond.code_spec B.named (atoms_spec (ws := ws) B.pre _ (by rw [hw]; exact List.mem_cons_self))
      cases Option.some.inj (h1.symm.trans B.method)
      cases Option.some.inj (h2.symm.trans (Stand.of_body B).code)
      intro x hx
      rw [Array.isEmpty_iff.mp h7] at hx
      cases hx
    obtain ⟨t, a1, o, b1, b2, b3⟩ := body p e s m args below meth c s₁ B hml ht hP s₁ hh0 (Stand.of_body B)
    exact ⟨t, o, a1, b1, b2, b3⟩
/-- the table of a body with handlers -/
theorem vx_table {p : Program} {x y : MethodName} {S : Spec} {cc bytes : ByteArray} {maxL maxL' : Nat} {ret ret' : Option FieldType} {e : Env} {s s₁ : State} {m : MethodId} {args : Array Value} {below : List Frame} {meth : Method} {c : Code} {hh : List (Nat × Nat × Nat × Nat)}
    (B : BodyLoose p l y S cc maxL ret e s m args below meth c s₁) (h : (Cond.codeWith y bytes maxL' ret' hh).before args s = true) : c.exceptionTable.toList = tableOf hh := by
  obtain ⟨m9, meth9, c9, hn9, h1, h2, -, -, h6, -⟩ := Cond.codeWith_spec h
  cases Option.some.inj (hn9.symm.trans B.named)
  cases Option.some.inj (h1.symm.trans B.method)
  cases Option.some.inj (h2.symm.trans (Stand.of_body B).code)
  rw [← h6, table_eq]
end Bodies
end VXA
/-! ===== END ===== -/
/-! ===== BEGIN a static call of a method with an exception table ===== -/
section VXS
variable {p : Program} {l : Launch} {e : Env} {R : Room} {s : State} {m : MethodId} {args : Array Value} {below : List Frame} {meth : Method} {c : Code} {T : State} {H : Heap} {locs : List Loc} {cells slots : Nat}
abbrev vx_CSW (R : Room) (s : State) (args : Array Value) (own : String) (index : Nat) (y : MethodName) (bytes : ByteArray) (maxL : Nat) (ret : Option FieldType) (hh : List (Nat × Nat × Nat × Nat)) (ws : List Cond) (rm : Room) (mc ms n : Nat) : Prop :=
  (rm.cells = mc ∧ rm.slots = ms ∧ rm.frames + 1 ≤ R.frames ∧ 8 + (maxL + 11) + rm.locals ≤ R.locals ∧ (∀ w ∈ ws, ∀ (a' : Array Value) (U : State), s.WarmedH U.vm → w.before a' U = true) ∧ Cond.codeWith y bytes maxL ret hh ∈ ws) ∧
  (Cond.codeWith y bytes maxL ret hh).before args s = true ∧ (Cond.initialized y.cls).before args s = true ∧ (y.cls ≠ "java/lang/invoke/MethodHandle" ∧ y.cls ≠ "java/lang/invoke/VarHandle") ∧
  (∀ sig, parseMethodDescriptor y.desc = some sig → n = sig.parameters.length) ∧ (Cond.methodLink own index y).before args s = true ∧ (Cond.static y).before args s = true
theorem vx_cwSW {own : String} {index maxL mc ms : Nat} {y : MethodName} {bytes : ByteArray} {ret : Option FieldType} {hh : List (Nat × Nat × Nat × Nat)} {Ts ws ws' : List Cond} {rm : Room} (n : Nat) (ht : ∀ w ∈ Ts, w.before args s = true) (hT : GoodIn Ts (va_wsS own index y ws)) (hw : ws = Cond.codeWith y bytes maxL ret hh :: ws') (hrc : rm.cells = mc) (hrs : rm.slots = ms)
    (hd : y.cls ≠ "java/lang/invoke/MethodHandle" ∧ y.cls ≠ "java/lang/invoke/VarHandle" ∧ (parseMethodDescriptor y.desc).map (fun d => d.parameters.length) = some n) (hR : rm.frames + 1 ≤ R.frames ∧ 8 + (maxL + 11) + rm.locals ≤ R.locals) :
    vx_CSW R s args own index y bytes maxL ret hh ws rm mc ms n := by
  have ok : ∀ w ∈ va_wsS own index y ws, w.before args s = true := fun w h => ht w (hT w h).1
  have hG : GoodIn Ts ws := fun w h => hT w (by unfold va_wsS; exact List.mem_append_right _ h)
  have hc : Cond.codeWith y bytes maxL ret hh ∈ ws := by rw [hw]; exact List.mem_cons_self
  refine ⟨⟨hrc, hrs, hR.1, hR.2, pay_in ht hG, hc⟩, ht _ (hG _ hc).1, ok _ (by simp [va_wsS]), ⟨hd.1, hd.2.1⟩, fun sig h => ?_, ok _ (by simp [va_wsS]), ok _ (by simp [va_wsS])⟩
  have h2 := hd.2.2
  rw [h] at h2
  exact (Option.some.inj h2).symm
theorem vx_callSW (X : Stand p l e R s m args below meth c T locs cells slots) (hexec : p.tables.exec = Jvm.exec) {own : String} {index : Nat} {y : MethodName} {bytes : ByteArray} {maxL : Nat} {ret : Option FieldType} {hh : List (Nat × Nat × Nat × Nat)}
    (hown : s.vm.findClass own = some m.cls) (hlink : (Cond.methodLink own index y).before args s = true) (hstat : (Cond.static y).before args s = true) (hinit : (Cond.initialized y.cls).before args s = true)
    (hcode : (Cond.codeWith y bytes maxL ret hh).before args s = true) (hy : y.cls ≠ "java/lang/invoke/MethodHandle" ∧ y.cls ≠ "java/lang/invoke/VarHandle")
    {W9 : Nat} {Pre : Pt → Array Value → Prop} {Post : Pt → Array Value → Option Value → Pt → Prop} (hK : Back l R p e below s args y 3 W9 Pre Post)
    {g : JFrame} (hg : g.method = m) (hsize : g.locals.size = c.maxLocals) {argsL rest : List Value} (hlen : ∀ sig, parseMethodDescriptor y.desc = some sig → argsL.length = sig.parameters.length)
    (hstack : g.stack = argsL.reverse ++ rest) (hW : 2 * g.monitorRoom + (rest.map fun v => v.category).sum ≤ W9) (hdg : decode c.code g.pc = .ok (.invokestatic index, 3))
    (hpre : ∀ vm₁, s.WarmedH vm₁ → Pre ⟨T.setVm vm₁, locs, cells, slots⟩ argsL.toArray) :
    ∃ (v : Option Value) (vm₁ : Vm) (B : Pt), s.WarmedH vm₁ ∧ Stand p l e R s m args below meth c B.U B.locs B.cells B.slots ∧ Post ⟨T.setVm vm₁, locs, cells, slots⟩ argsL.toArray v B ∧
      ∀ target, Steps p.tables e below (B.U.setTop { g with pc := g.pc + 3, stack := v.toList ++ rest }) target → Steps p.tables e below (T.setTop g) target := by
  obtain ⟨mk, methM, cM, hnamed, hmethM, -, -, -, -, -, -, hsigM⟩ := Cond.codeWith_spec hcode
  have hstatic : methM.isStatic = true := Cond.static_spec hnamed hmethM hstat
  obtain ⟨kP, hkP, -⟩ := className_of_methodNamed hnamed
  have hinitP : kP.init = .initialized := Cond.initialized_spec (findClass_of_methodNamed hnamed) hkP hinit
  obtain ⟨vm₁, X₁, hstep₁⟩ := X.invokestatic hexec hown hlink hnamed hmethM hstatic hkP hinitP hy (g := g) hg (argsL := argsL) (rest := rest) (hlen _ hsigM) hstack hdg
  obtain ⟨v, B, X', hpost, hsteps⟩ := hK m meth c ⟨T.setVm vm₁, locs, cells, slots⟩ { g with stack := rest } (.invokestatic index) mk argsL.toArray X₁ hg hsize hdg hW (X₁.named hnamed) (hpre vm₁ X₁.warmed)
  exact ⟨v, vm₁, B, X₁.warmed, X', hpost, fun target h => hstep₁ _ fun acts => by rw [doInvoke_state]; exact hsteps.trans h⟩
theorem vx_runSW {y : MethodName} {bytes cc : ByteArray} {maxL nL mc ms n index : Nat} {ret : Option FieldType} {hh : List (Nat × Nat × Nat × Nat)} {ws : List Cond} {rm : Room} {Pc : Array Value → State → Prop} {Qc : Array Value → State → Outcome → State → Prop} {free : Addr → Prop} {Ts : List Cond} {own : String} {As rest : List Value} {g : JFrame}
    (S : CallFix p m c cc nL s args Ts own) (hM : Met l y ws rm Pc Qc mc ms free) (cw : vx_CSW R s args own index y bytes maxL ret hh ws rm mc ms n) (hp : PreS s H Pc As)
    (hg : g.method = m) (hn : As.length = n) (hsize : g.locals.size = nL) (hstack : g.stack = As.reverse ++ rest) (hW : 2 * g.monitorRoom + (rest.map fun v => v.category).sum ≤ 8) (hdg : decode cc g.pc = .ok (.invokestatic index, 3)) (hf : cells + mc ≤ R.cells ∧ slots + ms ≤ R.slots) :
    va_Run p l e R s m args below meth c H locs cells slots mc ms g rest (Qc As.toArray) (free) := by
  obtain ⟨⟨hrc, hrs, hfr, hlo, hws, hcw⟩, hcode, hini, hy, hlen, hl, hstt⟩ := cw
  have hK : Back l R p e below s args y 3 8 (PreOf R mc ms Pc) (PostOf Qc mc ms free) := va_backW (hh := hh) (bytes := bytes) (maxL := maxL) (ret := ret) hM hp.1 hrc hrs hfr hlo hws hcw (fun a' U hW => word_at hW (Or.inl (by first | rfl | simp [Cond.onTables, Cond.keeps, Cond.steady])) hini)
  obtain ⟨hx, hb, hml, ho, -⟩ := S
  intro T hT X
  obtain ⟨v, vm₁, ⟨U', l2, c2, s2⟩, hW₁, X', ⟨g', mk, t, L, e1, e2, hq, h1, hL, h2, h3⟩, st⟩ := vx_callSW X hx (hh := hh) (bytes := bytes) (maxL := maxL) (ret := ret) ho hl hstt hini hcode hy hK hg (hsize.trans hml.symm) (argsL := As) (rest := rest) (fun sig h => hn.trans (hlen sig h)) hstack hW (by rw [hb]; exact hdg)
    (fun vm₁ hW₁ => ⟨hf.1, hf.2, hp.2 (T.setVm vm₁) hT hW₁⟩)
  dsimp only [Pt.U, Pt.locs, Pt.cells, Pt.slots] at X' e1 e2 h1 h2 h3 st
  subst h1; subst h2; subst h3
  exact ⟨v, (T.setVm vm₁).calling g' mk As.toArray, t, U', L, hT, X', hL, e1, e2, hq, st⟩
/-- not caught here, past rows that name other classes: it goes on to the caller -/
theorem vx_outP {p : Program} {l : Launch} {e : Env} {R : Room} {s : State} {m : MethodId} {args : Array Value} {below : List Frame} {meth : Method} {c : Code} {H : Heap} {locs : List Loc} {cells slots : Nat} {free : Addr → Prop} {ls : Array Slot} {rest : List Value} {Qc : Array Value → State → Outcome → State → Prop} {XC : String → State → State → Prop}
    {pc : Nat} {own E : String} {ce : Cell} {q : Addr} {mc ms : Nat} (hown : s.vm.findClass own = some m.cls) (hlocks : meth.locks = false)
    (hpass : ∀ z ∈ c.exceptionTable.toList, covers z pc = false ∨ (z.catchType ≠ 0 ∧ ∃ nm : String, (Cond.classLink own z.catchType nm).before args s = true ∧ va_Nc E nm s)) (hcell : H[q]? = some ce) (hv : ce.vm = .none) (hcl : s.vm.findClass E = some ce.cls)
    (hx : ∀ t : State, t.heap = H → s.vm.Alike t.vm → XC E s t) (hf : ∀ z ∈ locs, free z.base) (hc : cells ≤ mc) (hs : slots ≤ ms) :
    vx_W p l e R s m args below meth c H locs cells slots (vx_MQ below Qc XC args s mc ms free) (F0 m pc ls rest) q := by
  intro T hT X
  have hpl : e.platform.magicAccessors = ({} : Platform).magicAccessors := by rw [X.admits.platform]
  obtain ⟨vm', hW', X', st⟩ := X.outThrough hlocks q (g := F0 m pc ls rest) rfl rfl rfl (cell := ce) (by rw [hT]; exact hcell) (by rw [hv]; rfl)
    (by obtain ⟨k9, h9, -⟩ := Vm.findClass_spec hcl; exact ⟨k9, h9⟩) (fun z hz => by
      rcases hpass z hz with h | ⟨hz0, nm, hl1, hn1⟩
      · exact Or.inl h
      · obtain ⟨c6, hc6, hcl6⟩ := Cond.classLink_spec hown hl1 e.platform hpl
        obtain ⟨a8, b8, h1, h2, h3⟩ := hn1
        cases Option.some.inj (h1.symm.trans hcl)
        cases Option.some.inj (h2.symm.trans hc6)
        exact Or.inr ⟨hz0, _, hcl6, h3⟩)
  obtain ⟨g₀, hfr⟩ := X'.frames_eq
  have hcell9 : ((T.setVm vm').setFrames (.throwing q :: below)).heap[q]? = some ce := by
    show T.heap[q]? = some ce
    rw [hT]; exact hcell
  have hend : Ended ((T.setVm vm').setFrames (.throwing q :: below)) below (.threw q) := State.frames_setFrames _ (State.cur_lt_of_frames hfr)
  refine ⟨(T.setVm vm').setFrames (.throwing q :: below), ?_, .threw q, X'.here.running, hend, Or.inr ⟨q, rfl, E, ce, locs, hx _ hT (X'.ends _).1.alike, hcell9, hv, hcl, (X'.ends _).1, (X'.ends _).2.mono hc hs, hf⟩⟩
  rw [X.pushThrowing_eq]
  exact st
/-- a thing of a world lies in the heap -/
theorem vx_lt {D : va_G} {cl : List vw_C} {ws : va_W} {H1 : Heap} (h : va_P D cl ws H1) {k : Nat} {q : Nat × va_E} (hk : ws[k]? = some q) : q.1 < H1.size := (h k q hk).lt
end VXS
/-! ===== END ===== -/
/-! ===== BEGIN methods with a table of their own: called by a name, returning or throwing ===== -/
section VXH
/-! vx_backW, vx_callVX, vx_callSX, vx_callVW, vx_runVW, vx_runVX, vx_runSX, vx_ofWH follow the same proofs as their sisters above (Free/Laws.lean, Shelf42/LK1.lean); vx_outP calls Shelf42/NT130.lean (outThrough). -/
section
variable {l : Launch} {R : Room} {p : Program} {e : Env} {below : List Frame} {s : State} {sargs : Array Value} {y : MethodName} {len W9 : Nat}
theorem vx_backW {ws : List Cond} {rm : Room} {Pc : Array Value → State → Prop} {Qc : Array Value → State → Outcome → State → Prop} {XC : String → State → State → Prop} {mc ms : Nat} {free : Addr → Prop} {bytes : ByteArray} {maxL : Nat} {ret : Option FieldType} {hh : List (Nat × Nat × Nat × Nat)}
    (hM : vx_Met l y ws rm Pc Qc XC mc ms free) (hblind : FrameBlind Pc) (hrc : rm.cells = mc) (hrs : rm.slots = ms)
    (hframes : rm.frames + 1 ≤ R.frames) (hlocals : W9 + (maxL + 11) + rm.locals ≤ R.locals)
    (hws : ∀ w ∈ ws, ∀ a' U, s.WarmedH U.vm → w.before a' U = true) (hcode : Cond.codeWith y bytes maxL ret hh ∈ ws) (hinit : ∀ a' U, s.WarmedH U.vm → (Cond.initialized y.cls).before a' U = true) :
    vx_Back l R p e below s sargs y len W9 (PreOf R mc ms Pc) (PostOf Qc mc ms free) (vx_Post XC mc ms free) := by
  intro m meth c A g ig mk a X hg hsize hdg hW hn hp
  have h1 : (headSpec ws rm).pre.before a A.U = true := atoms_intro fun w hw => hws w hw _ _ X.warmed
  have h2 : (Cond.codeWith y bytes maxL ret hh).before a A.U = true := hws _ hcode _ _ X.warmed
  have h3 : (Cond.initialized y.cls).before a A.U = true := hinit _ _ X.warmed
  have h4 : A.cells + (headSpec ws rm).room.cells ≤ R.cells := by rw [show (headSpec ws rm).room.cells = mc from hrc]; exact hp.1
  have h5 : A.slots + (headSpec ws rm).room.slots ≤ R.slots := by rw [show (headSpec ws rm).room.slots = ms from hrs]; exact hp.2.1
  have hPc : Pc a (A.U.calling g mk a) := hblind _ _ _ _ hp.2.2
  obtain ⟨U, Ls, c0, s0⟩ := A
  dsimp only [Pt.U, Pt.locs, Pt.cells, Pt.slots] at h1 h2 h3 h4 h5 X hn hPc ⊢
  obtain ⟨m9, methY, cY, hn9, hmY, hcY, -, hlY, -⟩ := Cond.codeWith_spec h2
  cases Option.some.inj (hn9.symm.trans hn)
  obtain ⟨kY, hkY, -⟩ := className_of_methodNamed hn
  have hinitY : kY.init = .initialized := Cond.initialized_spec (findClass_of_methodNamed hn) hkY h3
  have h : At U g.method c below := by rw [hg]; exact X.here
  have hlocals9 : W9 + (maxL + 11) + (headSpec ws rm).room.locals ≤ R.locals := hlocals
  have happ : (headSpec ws rm).appliesLoose y e.platform (U.calling g mk a) = true :=
    Spec.appliesLoose_calling (g := g) h hdg hn hkY hinitY
      (X.room_calling (g := g) (R' := (headSpec ws rm).room) hsize hmY hcY hframes (by rw [hlY]; omega) h4 h5) h1
  obtain ⟨mid, hmid⟩ := h.above
  have hfr : (U.setTop g).frames = (.java g :: mid) ++ below := by rw [State.frames_setTop' g h.top, hmid]; rfl
  obtain ⟨o, s₂, hsteps, -, hend, hq⟩ := Steps.callFree hM p X.admits X.cas X.clock (acts := []) hfr happ hPc trivial
  have hq' : vx_Q Qc XC mc ms free a (U.calling g mk a) o s₂ := hq
  rw [State.frames_setTop' g h.top] at hend
  obtain ⟨g₀, hg0⟩ := Option.isSome_iff_exists.mp h.top
  obtain ⟨r, hr⟩ := State.topJava?_eq_some.mp hg0
  have hr' : (({ U with heap := s₂.heap, slotsUsed := s₂.slotsUsed } : State).setVm s₂.vm).frames = .java g₀ :: r := hr
  rcases hq' with ⟨hqc, L, hfe, hL⟩ | ⟨q, rfl, E, ce, L, hx, hce, hcv, hcl, hW₂, hsm, hL⟩
  · obtain ⟨⟨v, rfl⟩, hW₂, e2, q2, q3, q4, q5, q6⟩ := id hfe
    have e3 : s₂ = ({ (U.calling g mk a).setFrames s₂.frames with heap := s₂.heap, slotsUsed := s₂.slotsUsed } : State).setVm s₂.vm := by
      have : s₂ = ({ s₂ with vm := (U.calling g mk a).vm } : State).setVm s₂.vm := rfl
      rw [e2] at this
      exact this
    obtain ⟨c₂, i₂, len₂, hc₂, hd₂, hf₂⟩ := hend
    have hW' : U.WarmedH s₂.vm := hW₂
    have hcc : c₂ = c := by
      have h1 : s₂.code? g.method = U.code? g.method := by
        rw [State.code?_eq, State.code?_eq, hW'.alike.method?]
      exact Option.some.inj (hc₂.symm.trans (h1.trans h.code))
    subst hcc
    have hlen : len₂ = len := by rw [hdg] at hd₂; cases hd₂; rfl
    subst hlen
    have hs₂ : s₂ = (({ U with heap := s₂.heap, slotsUsed := s₂.slotsUsed } : State).setVm s₂.vm).setTop { g with pc := g.pc + len₂, stack := v.toList ++ g.stack } := by
      refine e3.trans ?_
      rw [hf₂, State.calling_eq h.top, State.setFrames_setFrames, State.setTop_of_frames _ hr', hr]
      rfl
    have hsame : U.sameButNew ({ U with heap := s₂.heap, slotsUsed := s₂.slotsUsed } : State) L mc ms := by
      refine ⟨?_, q2, q3, q4, q5, q6⟩
      obtain ⟨t, ht, -⟩ := State.frames_cons hr
      show ({ U with heap := s₂.heap, slotsUsed := s₂.slotsUsed } : State) = { U.setFrames U.frames with heap := s₂.heap, slotsUsed := s₂.slotsUsed }
      rw [State.setFrames_self ht]
    subst hg
    refine Or.inl ⟨v, ⟨(({ U with heap := s₂.heap, slotsUsed := s₂.slotsUsed } : State).setVm s₂.vm), Ls ++ L, c0 + mc, s0 + ms⟩,
      ⟨X.admits, X.cas, X.clock, X.frames, X.room, X.hears, X.method, X.code, (X.here.setHeapUsed s₂.heap s₂.slotsUsed).setVm hW'.alike, X.tail, State.WarmedH.trans X.warmed hW', X.limits, X.bytes, X.same.trans (hsame.setVm s.vm)⟩,
      ⟨g, mk, s₂, L, rfl, rfl, hqc, rfl, hL, rfl, rfl⟩, ?_⟩
    show Steps p.tables e below _ ((({ U with heap := s₂.heap, slotsUsed := s₂.slotsUsed } : State).setVm s₂.vm).setTop { g with pc := g.pc + len₂, stack := v.toList ++ g.stack })
    rw [← hs₂]
    exact hsteps
  · obtain ⟨e2, q2, q3, q4, q5, q6⟩ := id hsm
    have e3 : s₂ = ({ (U.calling g mk a).setFrames s₂.frames with heap := s₂.heap, slotsUsed := s₂.slotsUsed } : State).setVm s₂.vm := by
      have : s₂ = ({ s₂ with vm := (U.calling g mk a).vm } : State).setVm s₂.vm := rfl
      rw [e2] at this
      exact this
    have hf₂ : s₂.frames = .throwing q :: .java g :: U.frames.tail := hend
    have hW' : U.WarmedH s₂.vm := hW₂
    have hs₂ : s₂ = ((({ U with heap := s₂.heap, slotsUsed := s₂.slotsUsed } : State).setVm s₂.vm).setTop g).pushFrame (.throwing q) := by
      refine e3.trans ?_
      rw [hf₂, State.calling_eq h.top, State.setFrames_setFrames, State.pushFrame, State.frames_setTop _ hr', State.setTop_of_frames _ hr', State.setFrames_setFrames, hr]
      rfl
    have hsame : U.sameButNew ({ U with heap := s₂.heap, slotsUsed := s₂.slotsUsed } : State) L mc ms := by
      refine ⟨?_, q2, q3, q4, q5, q6⟩
      obtain ⟨t, ht, -⟩ := State.frames_cons hr
      show ({ U with heap := s₂.heap, slotsUsed := s₂.slotsUsed } : State) = { U.setFrames U.frames with heap := s₂.heap, slotsUsed := s₂.slotsUsed }
      rw [State.setFrames_self ht]
    subst hg
    refine Or.inr ⟨q, ⟨(({ U with heap := s₂.heap, slotsUsed := s₂.slotsUsed } : State).setVm s₂.vm), Ls ++ L, c0 + mc, s0 + ms⟩,
      ⟨X.admits, X.cas, X.clock, X.frames, X.room, X.hears, X.method, X.code, (X.here.setHeapUsed s₂.heap s₂.slotsUsed).setVm hW'.alike, X.tail, State.WarmedH.trans X.warmed hW', X.limits, X.bytes, X.same.trans (hsame.setVm s.vm)⟩,
      ⟨g, mk, s₂, L, E, ce, rfl, rfl, hx, hce, hcv, hcl, rfl, hL, rfl, rfl⟩, ?_⟩
    show Steps p.tables e below _ (((({ U with heap := s₂.heap, slotsUsed := s₂.slotsUsed } : State).setVm s₂.vm).setTop g).pushFrame (.throwing q))
    rw [← hs₂]
    exact hsteps
end
variable {p : Program} {l : Launch} {e : Env} {R : Room} {s : State} {m : MethodId} {args : Array Value} {below : List Frame} {meth : Method} {c : Code} {T : State} {H : Heap} {locs : List Loc} {cells slots : Nat}
theorem vx_callVX (X : Stand p l e R s m args below meth c T locs cells slots) (hexec : p.tables.exec = Jvm.exec) {own C : String} {index : Nat} {y : MethodName} {bytes : ByteArray} {maxL : Nat} {ret : Option FieldType} {hh : List (Nat × Nat × Nat × Nat)}
    (hown : s.vm.findClass own = some m.cls) (hlink : (Cond.methodLink own index y).before args s = true) (hinst : (Cond.instanceMethod y).before args s = true) (hsel : (Cond.selects C y y).before args s = true)
    (hcode : (Cond.codeWith y bytes maxL ret hh).before args s = true) (hy : y.cls ≠ "java/lang/invoke/MethodHandle" ∧ y.cls ≠ "java/lang/invoke/VarHandle")
    {W9 : Nat} {Pre : Pt → Array Value → Prop} {Post : Pt → Array Value → Option Value → Pt → Prop} {PostX : Pt → Array Value → Addr → Pt → Prop} (hK : vx_Back l R p e below s args y 3 W9 Pre Post PostX)
    {b : Addr} {cellB : Cell} (hcell : T.heap[b]? = some cellB) (hobj : cellB.vm.isStatics = false) (hcls : s.vm.findClass C = some cellB.cls)
    {g : JFrame} (hg : g.method = m) (hsize : g.locals.size = c.maxLocals) {argsL rest : List Value} (hlen : ∀ sig, parseMethodDescriptor y.desc = some sig → argsL.length = sig.parameters.length)
    (hstack : g.stack = argsL.reverse ++ .ref b :: rest) (hW : 2 * g.monitorRoom + (rest.map fun v => v.category).sum ≤ W9) (hdg : decode c.code g.pc = .ok (.invokevirtual index, 3))
    (hpre : ∀ vm₁, s.WarmedH vm₁ → Pre ⟨T.setVm vm₁, locs, cells, slots⟩ (Value.ref b :: argsL).toArray) :
    (∃ (v : Option Value) (vm₁ : Vm) (B : Pt), s.WarmedH vm₁ ∧ Stand p l e R s m args below meth c B.U B.locs B.cells B.slots ∧ Post ⟨T.setVm vm₁, locs, cells, slots⟩ (Value.ref b :: argsL).toArray v B ∧
      ∀ target, Steps p.tables e below (B.U.setTop { g with pc := g.pc + 3, stack := v.toList ++ rest }) target → Steps p.tables e below (T.setTop g) target) ∨
    (∃ (q : Addr) (vm₁ : Vm) (B : Pt), s.WarmedH vm₁ ∧ Stand p l e R s m args below meth c B.U B.locs B.cells B.slots ∧ PostX ⟨T.setVm vm₁, locs, cells, slots⟩ (Value.ref b :: argsL).toArray q B ∧
      Steps p.tables e below (T.setTop g) ((B.U.setTop { g with stack := rest }).pushFrame (.throwing q))) := by
  obtain ⟨mk, methM, hnamed, hmethM, hstM, habM⟩ := Cond.instanceMethod_spec hinst
  obtain ⟨m8, methM', cM, hn8, hmethM', -, -, -, -, -, -, hsigM⟩ := Cond.codeWith_spec hcode
  cases Option.some.inj (hn8.symm.trans hnamed)
  cases hmethM.symm.trans hmethM'
  obtain ⟨c2, r2, m2, q1, q2, q3, q4, kP, hkP, hkPi⟩ := Cond.selects_spec hsel
  cases hcls.symm.trans q1
  cases (State.methodFound?_of_named hnamed hy).symm.trans q2
  cases hnamed.symm.trans q3
  have hselP : selectMethod e.platform s.vm cellB.cls mk = .method mk := by rw [Launch.admits_selectMethod X.admits]; exact q4
  obtain ⟨vm₁, X₁, hstep₁⟩ := X.invokevirtual hexec hown hlink hnamed hmethM hstM hkP hkPi hy (a := b) (cell := cellB) hcell
    (fun z h => by rw [h] at hobj; cases hobj) hselP hmethM habM hkP hkPi (g := g) hg (argsL := argsL) (rest := rest) (hlen _ hsigM) hstack hdg
  rcases hK m meth c ⟨T.setVm vm₁, locs, cells, slots⟩ { g with stack := rest } (.invokevirtual index) mk (Value.ref b :: argsL).toArray X₁ hg hsize hdg hW (X₁.named hnamed) (hpre vm₁ X₁.warmed) with ⟨v, B, X', hpost, hsteps⟩ | ⟨q, B, X', hpost, hsteps⟩
  · exact Or.inl ⟨v, vm₁, B, X₁.warmed, X', hpost, fun target h => hstep₁ _ fun acts => by rw [doInvoke_state]; exact hsteps.trans h⟩
  · exact Or.inr ⟨q, vm₁, B, X₁.warmed, X', hpost, hstep₁ _ fun acts => by rw [doInvoke_state]; exact hsteps⟩
theorem vx_callSX (X : Stand p l e R s m args below meth c T locs cells slots) (hexec : p.tables.exec = Jvm.exec) {own : String} {index : Nat} {y : MethodName} {bytes : ByteArray} {maxL : Nat} {ret : Option FieldType} {hh : List (Nat × Nat × Nat × Nat)}
    (hown : s.vm.findClass own = some m.cls) (hlink : (Cond.methodLink own index y).before args s = true) (hstat : (Cond.static y).before args s = true) (hinit : (Cond.initialized y.cls).before args s = true)
    (hcode : (Cond.codeWith y bytes maxL ret hh).before args s = true) (hy : y.cls ≠ "java/lang/invoke/MethodHandle" ∧ y.cls ≠ "java/lang/invoke/VarHandle")
    {W9 : Nat} {Pre : Pt → Array Value → Prop} {Post : Pt → Array Value → Option Value → Pt → Prop} {PostX : Pt → Array Value → Addr → Pt → Prop} (hK : vx_Back l R p e below s args y 3 W9 Pre Post PostX)
    {g : JFrame} (hg : g.method = m) (hsize : g.locals.size = c.maxLocals) {argsL rest : List Value} (hlen : ∀ sig, parseMethodDescriptor y.desc = some sig → argsL.length = sig.parameters.length)
    (hstack : g.stack = argsL.reverse ++ rest) (hW : 2 * g.monitorRoom + (rest.map fun v => v.category).sum ≤ W9) (hdg : decode c.code g.pc = .ok (.invokestatic index, 3))
    (hpre : ∀ vm₁, s.WarmedH vm₁ → Pre ⟨T.setVm vm₁, locs, cells, slots⟩ argsL.toArray) :
    (∃ (v : Option Value) (vm₁ : Vm) (B : Pt), s.WarmedH vm₁ ∧ Stand p l e R s m args below meth c B.U B.locs B.cells B.slots ∧ Post ⟨T.setVm vm₁, locs, cells, slots⟩ argsL.toArray v B ∧
      ∀ target, Steps p.tables e below (B.U.setTop { g with pc := g.pc + 3, stack := v.toList ++ rest }) target → Steps p.tables e below (T.setTop g) target) ∨
    (∃ (q : Addr) (vm₁ : Vm) (B : Pt), s.WarmedH vm₁ ∧ Stand p l e R s m args below meth c B.U B.locs B.cells B.slots ∧ PostX ⟨T.setVm vm₁, locs, cells, slots⟩ argsL.toArray q B ∧
      Steps p.tables e below (T.setTop g) ((B.U.setTop { g with stack := rest }).pushFrame (.throwing q))) := by
  obtain ⟨mk, methM, cM, hnamed, hmethM, -, -, -, -, -, -, hsigM⟩ := Cond.codeWith_spec hcode
  have hstatic : methM.isStatic = true := Cond.static_spec hnamed hmethM hstat
  obtain ⟨kP, hkP, -⟩ := className_of_methodNamed hnamed
  have hinitP : kP.init = .initialized := Cond.initialized_spec (findClass_of_methodNamed hnamed) hkP hinit
  obtain ⟨vm₁, X₁, hstep₁⟩ := X.invokestatic hexec hown hlink hnamed hmethM hstatic hkP hinitP hy (g := g) hg (argsL := argsL) (rest := rest) (hlen _ hsigM) hstack hdg
  rcases hK m meth c ⟨T.setVm vm₁, locs, cells, slots⟩ { g with stack := rest } (.invokestatic index) mk argsL.toArray X₁ hg hsize hdg hW (X₁.named hnamed) (hpre vm₁ X₁.warmed) with ⟨v, B, X', hpost, hsteps⟩ | ⟨q, B, X', hpost, hsteps⟩
  · exact Or.inl ⟨v, vm₁, B, X₁.warmed, X', hpost, fun target h => hstep₁ _ fun acts => by rw [doInvoke_state]; exact hsteps.trans h⟩
  · exact Or.inr ⟨q, vm₁, B, X₁.warmed, X', hpost, hstep₁ _ fun acts => by rw [doInvoke_state]; exact hsteps⟩
theorem vx_callVW (X : Stand p l e R s m args below meth c T locs cells slots) (hexec : p.tables.exec = Jvm.exec) {own C : String} {index : Nat} {y : MethodName} {bytes : ByteArray} {maxL : Nat} {ret : Option FieldType} {hh : List (Nat × Nat × Nat × Nat)}
    (hown : s.vm.findClass own = some m.cls) (hlink : (Cond.methodLink own index y).before args s = true) (hinst : (Cond.instanceMethod y).before args s = true) (hsel : (Cond.selects C y y).before args s = true)
    (hcode : (Cond.codeWith y bytes maxL ret hh).before args s = true) (hy : y.cls ≠ "java/lang/invoke/MethodHandle" ∧ y.cls ≠ "java/lang/invoke/VarHandle")
    {W9 : Nat} {Pre : Pt → Array Value → Prop} {Post : Pt → Array Value → Option Value → Pt → Prop} (hK : Back l R p e below s args y 3 W9 Pre Post)
    {b : Addr} {cellB : Cell} (hcell : T.heap[b]? = some cellB) (hobj : cellB.vm.isStatics = false) (hcls : s.vm.findClass C = some cellB.cls)
    {g : JFrame} (hg : g.method = m) (hsize : g.locals.size = c.maxLocals) {argsL rest : List Value} (hlen : ∀ sig, parseMethodDescriptor y.desc = some sig → argsL.length = sig.parameters.length)
    (hstack : g.stack = argsL.reverse ++ .ref b :: rest) (hW : 2 * g.monitorRoom + (rest.map fun v => v.category).sum ≤ W9) (hdg : decode c.code g.pc = .ok (.invokevirtual index, 3))
    (hpre : ∀ vm₁, s.WarmedH vm₁ → Pre ⟨T.setVm vm₁, locs, cells, slots⟩ (Value.ref b :: argsL).toArray) :
    ∃ (v : Option Value) (vm₁ : Vm) (B : Pt), s.WarmedH vm₁ ∧ Stand p l e R s m args below meth c B.U B.locs B.cells B.slots ∧ Post ⟨T.setVm vm₁, locs, cells, slots⟩ (Value.ref b :: argsL).toArray v B ∧
      ∀ target, Steps p.tables e below (B.U.setTop { g with pc := g.pc + 3, stack := v.toList ++ rest }) target → Steps p.tables e below (T.setTop g) target := by
  obtain ⟨mk, methM, hnamed, hmethM, hstM, habM⟩ := Cond.instanceMethod_spec hinst
  obtain ⟨m8, methM', cM, hn8, hmethM', -, -, -, -, -, -, hsigM⟩ := Cond.codeWith_spec hcode
  cases Option.some.inj (hn8.symm.trans hnamed)
  cases hmethM.symm.trans hmethM'
  obtain ⟨c2, r2, m2, q1, q2, q3, q4, kP, hkP, hkPi⟩ := Cond.selects_spec hsel
  cases hcls.symm.trans q1
  cases (State.methodFound?_of_named hnamed hy).symm.trans q2
  cases hnamed.symm.trans q3
  have hselP : selectMethod e.platform s.vm cellB.cls mk = .method mk := by rw [Launch.admits_selectMethod X.admits]; exact q4
  obtain ⟨vm₁, X₁, hstep₁⟩ := X.invokevirtual hexec hown hlink hnamed hmethM hstM hkP hkPi hy (a := b) (cell := cellB) hcell
    (fun z h => by rw [h] at hobj; cases hobj) hselP hmethM habM hkP hkPi (g := g) hg (argsL := argsL) (rest := rest) (hlen _ hsigM) hstack hdg
  obtain ⟨v, B, X', hpost, hsteps⟩ := hK m meth c ⟨T.setVm vm₁, locs, cells, slots⟩ { g with stack := rest } (.invokevirtual index) mk (Value.ref b :: argsL).toArray X₁ hg hsize hdg hW (X₁.named hnamed) (hpre vm₁ X₁.warmed)
  exact ⟨v, vm₁, B, X₁.warmed, X', hpost, fun target h => hstep₁ _ fun acts => by rw [doInvoke_state]; exact hsteps.trans h⟩
abbrev vx_CVW (R : Room) (s : State) (args : Array Value) (own C : String) (index : Nat) (y : MethodName) (bytes : ByteArray) (maxL : Nat) (ret : Option FieldType) (hh : List (Nat × Nat × Nat × Nat)) (ws : List Cond) (rm : Room) (mc ms n : Nat) : Prop :=
  (rm.cells = mc ∧ rm.slots = ms ∧ rm.frames + 1 ≤ R.frames ∧ 8 + (maxL + 11) + rm.locals ≤ R.locals ∧ (∀ w ∈ ws, ∀ (a' : Array Value) (U : State), s.WarmedH U.vm → w.before a' U = true) ∧ Cond.codeWith y bytes maxL ret hh ∈ ws) ∧
  (Cond.codeWith y bytes maxL ret hh).before args s = true ∧ (Cond.initialized y.cls).before args s = true ∧ (y.cls ≠ "java/lang/invoke/MethodHandle" ∧ y.cls ≠ "java/lang/invoke/VarHandle") ∧
  (∀ sig, parseMethodDescriptor y.desc = some sig → n = sig.parameters.length) ∧ (Cond.methodLink own index y).before args s = true ∧ (Cond.instanceMethod y).before args s = true ∧ (Cond.selects C y y).before args s = true
theorem vx_cwVW {own C : String} {index maxL mc ms : Nat} {y : MethodName} {bytes : ByteArray} {ret : Option FieldType} {hh : List (Nat × Nat × Nat × Nat)} {Ts ws ws' : List Cond} {rm : Room} (n : Nat) (ht : ∀ w ∈ Ts, w.before args s = true) (hT : GoodIn Ts (wsV own index C y ws)) (hw : ws = Cond.codeWith y bytes maxL ret hh :: ws') (hrc : rm.cells = mc) (hrs : rm.slots = ms)
    (hd : y.cls = C ∧ y.cls ≠ "java/lang/invoke/MethodHandle" ∧ y.cls ≠ "java/lang/invoke/VarHandle" ∧ (parseMethodDescriptor y.desc).map (fun d => d.parameters.length) = some n) (hR : rm.frames + 1 ≤ R.frames ∧ 8 + (maxL + 11) + rm.locals ≤ R.locals) :
    vx_CVW R s args own C index y bytes maxL ret hh ws rm mc ms n := by
  obtain ⟨hC, hd⟩ := hd
  subst hC
  have ok : ∀ w ∈ wsV own index y.cls y ws, w.before args s = true := fun w h => ht w (hT w h).1
  have hG : GoodIn Ts ws := fun w h => hT w (by unfold wsV; exact List.mem_append_right _ h)
  have hc : Cond.codeWith y bytes maxL ret hh ∈ ws := by rw [hw]; exact List.mem_cons_self
  refine ⟨⟨hrc, hrs, hR.1, hR.2, pay_in ht hG, hc⟩, ht _ (hG _ hc).1, ok _ (by simp [wsV]), ⟨hd.1, hd.2.1⟩, fun sig h => ?_, ok _ (by simp [wsV]), ok _ (by simp [wsV]), ok _ (by simp [wsV])⟩
  have h2 := hd.2.2
  rw [h] at h2
  exact (Option.some.inj h2).symm
theorem vx_runVW {y : MethodName} {bytes cc : ByteArray} {maxL nL mc ms n index : Nat} {ret : Option FieldType} {hh : List (Nat × Nat × Nat × Nat)} {ws : List Cond} {rm : Room} {Pc : Array Value → State → Prop} {Qc : Array Value → State → Outcome → State → Prop} {free : Addr → Prop} {Ts : List Cond} {own C : String} {b : Addr} {As rest : List Value} {g : JFrame}
    (S : CallFix p m c cc nL s args Ts own) (hM : Met l y ws rm Pc Qc mc ms free) (cw : vx_CVW R s args own C index y bytes maxL ret hh ws rm mc ms n) (hp : PreV s H C b Pc As)
    (hg : g.method = m) (hn : As.length = n) (hsize : g.locals.size = nL) (hstack : g.stack = As.reverse ++ .ref b :: rest) (hW : 2 * g.monitorRoom + (rest.map fun v => v.category).sum ≤ 8) (hdg : decode cc g.pc = .ok (.invokevirtual index, 3)) (hf : cells + mc ≤ R.cells ∧ slots + ms ≤ R.slots) :
    va_Run p l e R s m args below meth c H locs cells slots mc ms g rest (Qc (Value.ref b :: As).toArray) free := by
  obtain ⟨⟨hrc, hrs, hfr, hlo, hws, hcw⟩, hcode, hini, hy, hlen, hl, hin, hse⟩ := cw
  have hK : Back l R p e below s args y 3 8 (PreOf R mc ms Pc) (PostOf Qc mc ms free) := va_backW (hh := hh) (bytes := bytes) (maxL := maxL) (ret := ret) hM hp.1 hrc hrs hfr hlo hws hcw (fun a' U hW => word_at hW (Or.inl (by first | rfl | simp [Cond.onTables, Cond.keeps, Cond.steady])) hini)
  obtain ⟨hx, hb, hml, ho, -⟩ := S
  obtain ⟨-, ⟨cellB, hcB, hoB, hclB⟩, hPc⟩ := hp
  intro T hT X
  obtain ⟨v, vm₁, ⟨U', l2, c2, s2⟩, hW₁, X', ⟨g', mk, t, L, e1, e2, hq, h1, hL, h2, h3⟩, st⟩ := vx_callVW X hx (C := C) (hh := hh) (bytes := bytes) (maxL := maxL) (ret := ret) ho hl hin hse hcode hy hK (by rw [hT]; exact hcB) hoB hclB hg (hsize.trans hml.symm) (argsL := As) (rest := rest) (fun sig h => hn.trans (hlen sig h)) hstack hW (by rw [hb]; exact hdg)
    (fun vm₁ hW₁ => ⟨hf.1, hf.2, hPc (T.setVm vm₁) hT hW₁⟩)
  dsimp only [Pt.U, Pt.locs, Pt.cells, Pt.slots] at X' e1 e2 h1 h2 h3 st
  subst h1; subst h2; subst h3
  exact ⟨v, (T.setVm vm₁).calling g' mk (Value.ref b :: As).toArray, t, U', L, hT, X', hL, e1, e2, hq, st⟩
section
variable {y : MethodName} {bytes cc : ByteArray} {maxL nL mc ms n index : Nat} {ret : Option FieldType} {ws : List Cond} {rm : Room} {Pc : Array Value → State → Prop} {Qc : Array Value → State → Outcome → State → Prop} {XC : String → State → State → Prop} {free : Addr → Prop} {Ts : List Cond} {own C : String} {b : Addr} {As rest : List Value} {g : JFrame}
theorem vx_runVX {hh : List (Nat × Nat × Nat × Nat)} (S : CallFix p m c cc nL s args Ts own) (hM : vx_Met l y ws rm Pc Qc XC mc ms free) (cw : vx_CVW R s args own C index y bytes maxL ret hh ws rm mc ms n) (hp : PreV s H C b Pc As)
    (hg : g.method = m) (hn : As.length = n) (hsize : g.locals.size = nL) (hstack : g.stack = As.reverse ++ .ref b :: rest) (hW : 2 * g.monitorRoom + (rest.map fun v => v.category).sum ≤ 8) (hdg : decode cc g.pc = .ok (.invokevirtual index, 3)) (hf : cells + mc ≤ R.cells ∧ slots + ms ≤ R.slots) :
    vx_Run p l e R s m args below meth c H locs cells slots mc ms g rest (Qc (Value.ref b :: As).toArray) XC free := by
  obtain ⟨⟨hrc, hrs, hfr, hlo, hws, hcw⟩, hcode, hini, hy, hlen, hl, hin, hse⟩ := cw
  have hK : vx_Back l R p e below s args y 3 8 (PreOf R mc ms Pc) (PostOf Qc mc ms free) (vx_Post XC mc ms free) := vx_backW (hh := hh) (bytes := bytes) (maxL := maxL) (ret := ret) hM hp.1 hrc hrs hfr hlo hws hcw (fun a' U hW => word_at hW (Or.inl (by first | rfl | simp [Cond.onTables, Cond.keeps, Cond.steady])) hini)
  obtain ⟨hx, hb, hml, ho, -⟩ := S
  obtain ⟨-, ⟨cellB, hcB, hoB, hclB⟩, hPc⟩ := hp
  intro T hT X
  rcases vx_callVX X hx (C := C) (hh := hh) (bytes := bytes) (maxL := maxL) (ret := ret) ho hl hin hse hcode hy hK (by rw [hT]; exact hcB) hoB hclB hg (hsize.trans hml.symm) (argsL := As) (rest := rest) (fun sig h => hn.trans (hlen sig h)) hstack hW (by rw [hb]; exact hdg)
    (fun vm₁ hW₁ => ⟨hf.1, hf.2, hPc (T.setVm vm₁) hT hW₁⟩) with ⟨v, vm₁, ⟨U', l2, c2, s2⟩, hW₁, X', ⟨g', mk, t, L, e1, e2, hq, h1, hL, h2, h3⟩, st⟩ | ⟨q, vm₁, ⟨U', l2, c2, s2⟩, hW₁, X', ⟨g', mk, t, L, E, ce, e1, e2, hq, hce, hcv, hcl, h1, hL, h2, h3⟩, st⟩
  · dsimp only [Pt.U, Pt.locs, Pt.cells, Pt.slots] at X' e1 e2 h1 h2 h3 st
    subst h1; subst h2; subst h3
    exact Or.inl ⟨v, (T.setVm vm₁).calling g' mk (Value.ref b :: As).toArray, t, U', L, hT, X', hL, e1, e2, hq, st⟩
  · dsimp only [Pt.U, Pt.locs, Pt.cells, Pt.slots] at X' e1 e2 h1 h2 h3 st hcl
    subst h1; subst h2; subst h3
    exact Or.inr ⟨q, (T.setVm vm₁).calling g' mk (Value.ref b :: As).toArray, t, U', L, E, ce, hT, X', hL, e1, e2, hq, hce, hcv, vx_cls hW₁ hcl, st⟩
theorem vx_runSX {hh : List (Nat × Nat × Nat × Nat)} (S : CallFix p m c cc nL s args Ts own) (hM : vx_Met l y ws rm Pc Qc XC mc ms free) (cw : vx_CSW R s args own index y bytes maxL ret hh ws rm mc ms n) (hp : PreS s H Pc As)
    (hg : g.method = m) (hn : As.length = n) (hsize : g.locals.size = nL) (hstack : g.stack = As.reverse ++ rest) (hW : 2 * g.monitorRoom + (rest.map fun v => v.category).sum ≤ 8) (hdg : decode cc g.pc = .ok (.invokestatic index, 3)) (hf : cells + mc ≤ R.cells ∧ slots + ms ≤ R.slots) :
    vx_Run p l e R s m args below meth c H locs cells slots mc ms g rest (Qc As.toArray) XC free := by
  obtain ⟨⟨hrc, hrs, hfr, hlo, hws, hcw⟩, hcode, hini, hy, hlen, hl, hstt⟩ := cw
  have hK : vx_Back l R p e below s args y 3 8 (PreOf R mc ms Pc) (PostOf Qc mc ms free) (vx_Post XC mc ms free) := vx_backW (hh := hh) (bytes := bytes) (maxL := maxL) (ret := ret) hM hp.1 hrc hrs hfr hlo hws hcw (fun a' U hW => word_at hW (Or.inl (by first | rfl | simp [Cond.onTables, Cond.keeps, Cond.steady])) hini)
  obtain ⟨hx, hb, hml, ho, -⟩ := S
  intro T hT X
  rcases vx_callSX X hx (hh := hh) (bytes := bytes) (maxL := maxL) (ret := ret) ho hl hstt hini hcode hy hK hg (hsize.trans hml.symm) (argsL := As) (rest := rest) (fun sig h => hn.trans (hlen sig h)) hstack hW (by rw [hb]; exact hdg)
    (fun vm₁ hW₁ => ⟨hf.1, hf.2, hp.2 (T.setVm vm₁) hT hW₁⟩) with ⟨v, vm₁, ⟨U', l2, c2, s2⟩, hW₁, X', ⟨g', mk, t, L, e1, e2, hq, h1, hL, h2, h3⟩, st⟩ | ⟨q, vm₁, ⟨U', l2, c2, s2⟩, hW₁, X', ⟨g', mk, t, L, E, ce, e1, e2, hq, hce, hcv, hcl, h1, hL, h2, h3⟩, st⟩
  · dsimp only [Pt.U, Pt.locs, Pt.cells, Pt.slots] at X' e1 e2 h1 h2 h3 st
    subst h1; subst h2; subst h3
    exact Or.inl ⟨v, (T.setVm vm₁).calling g' mk As.toArray, t, U', L, hT, X', hL, e1, e2, hq, st⟩
  · dsimp only [Pt.U, Pt.locs, Pt.cells, Pt.slots] at X' e1 e2 h1 h2 h3 st hcl
    subst h1; subst h2; subst h3
    exact Or.inr ⟨q, (T.setVm vm₁).calling g' mk As.toArray, t, U', L, E, ce, hT, X', hL, e1, e2, hq, hce, hcv, vx_cls hW₁ hcl, st⟩
end
end VXH
theorem vx_ofWH {l : Launch} {y : MethodName} {ws ws' : List Cond} {rm : Room} {Pc : Array Value → State → Prop} {Qc : Array Value → State → Outcome → State → Prop} {XC : String → State → State → Prop} {mc ms : Nat} {free : Addr → Prop} {cc : ByteArray} {maxL : Nat} {ret : Option FieldType} {hh : List (Nat × Nat × Nat × Nat)}
    (hy : plainName y.cls = true) (hw : ws = Cond.codeWith y cc maxL ret hh :: ws')
    (body : ∀ p e s m args below meth c s₁, BodyLoose p l y (headSpec ws rm) cc maxL ret e s m args below meth c s₁ → c.maxLocals = maxL → Pc args s →
      W p l e (headSpec ws rm).room s m args below meth c s.heap [] 0 0 (vx_MQ below Qc XC args s mc ms free) (entryFrame m args maxL)) : vx_Met l y ws rm Pc Qc XC mc ms free := by
  refine MetFree.of_bodyS (code := cc) (maxLocals := maxL) (ret := ret) hy ?_ ?_
  · intro args s m h hn
    obtain ⟨m9, meth, c, hn9, h1, h2, h3, h4, -, h5, h6, -⟩ := Cond.codeWith_spec (atoms_spec (ws := ws) h _ (by rw [hw]; exact List.mem_cons_self))
    cases hn.symm.trans hn9
    exact ⟨meth, c, h1, h2, h3, h4, h5, h6⟩
  · intro p e s m args below meth c s₁ B hml hP _
    have hh0 : s₁.heap = s.heap := by rw [B.state]; rfl
    obtain ⟨t, a1, o, b1, b2, b3⟩ := body p e s m args below meth c s₁ B hml hP s₁ hh0 (Stand.of_body B)
    exact ⟨t, o, a1, b1, b2, b3⟩
/-! ===== END ===== -/

/-! ===== BEGIN printed: names, fields, word lists, decode rows ===== -/
def RX0 : String := "BagCarousel$Bags"
def TX0 : u_T := fun k => match k with
  | 0 => ("BagCarousel$Bags", "count", "I", false)
  | 1 => ("BagCarousel$Bags", "flight", "LBagCarousel$Row;", true)
  | 2 => ("BagCarousel$Bags", "size", "LBagCarousel$Row;", true)
  | 3 => ("BagCarousel$Bags", "smudge", "LBagCarousel$Row;", true)
  | 4 => ("BagCarousel$Bags", "where", "LBagCarousel$Row;", true)
  | 5 => ("BagCarousel$Bags", "chute", "LBagCarousel$Row;", true)
  | 6 => ("BagCarousel$Bags", "read", "LBagCarousel$Row;", true)
  | 7 => ("BagCarousel$Bags", "misses", "LBagCarousel$Row;", true)
  | _ => ("BagCarousel$Bags", "file", "LBagCarousel$Row;", true)
def tyX0 : Nat → FieldType := fun k => match k with
  | 0 => .int
  | 1 => .object "BagCarousel$Row"
  | 2 => .object "BagCarousel$Row"
  | 3 => .object "BagCarousel$Row"
  | 4 => .object "BagCarousel$Row"
  | 5 => .object "BagCarousel$Row"
  | 6 => .object "BagCarousel$Row"
  | 7 => .object "BagCarousel$Row"
  | _ => .object "BagCarousel$Row"
abbrev wsX00 : List Cond := u_ws RX0 TX0 9
theorem nmX0 : ∀ a, a < 9 → ∀ b, b < 9 → a ≠ b → (TX0 a).2.1 ≠ (TX0 b).2.1 := by decide +kernel
theorem tyX0_ok : ∀ k, k < 9 → parseFieldDescriptor (TX0 k).2.2.1 = some (tyX0 k) := by decide +kernel
abbrev cX0_init : ByteArray := prog_2_method_1_code
def yX0_init : MethodName := ⟨RX0, "<init>", "()V"⟩
abbrev cX0_addOne : ByteArray := prog_2_method_2_code
def yX0_addOne : MethodName := ⟨RX0, "addOne", "(III)I"⟩
abbrev cX0_renew : ByteArray := prog_2_method_3_code
def yX0_renew : MethodName := ⟨RX0, "renew", "(II)V"⟩
abbrev cX0_putIntoChute : ByteArray := prog_2_method_4_code
def yX0_putIntoChute : MethodName := ⟨RX0, "putIntoChute", "(II)V"⟩
abbrev cX0_takeFromChute : ByteArray := prog_2_method_5_code
def yX0_takeFromChute : MethodName := ⟨RX0, "takeFromChute", "(II)V"⟩
abbrev cX0_closeFile : ByteArray := prog_2_method_6_code
def yX0_closeFile : MethodName := ⟨RX0, "closeFile", "(I)V"⟩
abbrev cX0_takeAll : ByteArray := prog_2_method_7_code
def yX0_takeAll : MethodName := ⟨RX0, "takeAll", "(LBagCarousel$Bags;)V"⟩
def RX1 : String := "BagCarousel$Flights"
def TX1 : u_T := fun k => match k with
  | 0 => ("BagCarousel$Flights", "count", "I", false)
  | 1 => ("BagCarousel$Flights", "chute", "LBagCarousel$Row;", true)
  | _ => ("BagCarousel$Flights", "gone", "LBagCarousel$Row;", true)
def tyX1 : Nat → FieldType := fun k => match k with
  | 0 => .int
  | 1 => .object "BagCarousel$Row"
  | _ => .object "BagCarousel$Row"
abbrev wsX10 : List Cond := u_ws RX1 TX1 3
theorem nmX1 : ∀ a, a < 3 → ∀ b, b < 3 → a ≠ b → (TX1 a).2.1 ≠ (TX1 b).2.1 := by decide +kernel
theorem tyX1_ok : ∀ k, k < 3 → parseFieldDescriptor (TX1 k).2.2.1 = some (tyX1 k) := by decide +kernel
abbrev cX1_init : ByteArray := prog_3_method_1_code
def yX1_init : MethodName := ⟨RX1, "<init>", "()V"⟩
abbrev cX1_addOne : ByteArray := prog_3_method_2_code
def yX1_addOne : MethodName := ⟨RX1, "addOne", "()I"⟩
abbrev cX1_hasLeft : ByteArray := prog_3_method_3_code
def yX1_hasLeft : MethodName := ⟨RX1, "hasLeft", "(I)Z"⟩
abbrev cX1_takeAll : ByteArray := prog_3_method_4_code
def yX1_takeAll : MethodName := ⟨RX1, "takeAll", "(LBagCarousel$Flights;)V"⟩
def RX2 : String := "BagCarousel$Hall"
def TX2 : u_T := fun k => match k with
  | 0 => ("BagCarousel$Hall", "minutesGone", "I", false)
  | 1 => ("BagCarousel$Hall", "strength", "I", false)
  | 2 => ("BagCarousel$Hall", "lineCount", "I", false)
  | 3 => ("BagCarousel$Hall", "flights", "LBagCarousel$Flights;", true)
  | 4 => ("BagCarousel$Hall", "bags", "LBagCarousel$Bags;", true)
  | 5 => ("BagCarousel$Hall", "rooms", "LBagCarousel$Row;", true)
  | 6 => ("BagCarousel$Hall", "belt", "LBagCarousel$Row;", true)
  | _ => ("BagCarousel$Hall", "line", "LBagCarousel$Row;", true)
def tyX2 : Nat → FieldType := fun k => match k with
  | 0 => .int
  | 1 => .int
  | 2 => .int
  | 3 => .object "BagCarousel$Flights"
  | 4 => .object "BagCarousel$Bags"
  | 5 => .object "BagCarousel$Row"
  | 6 => .object "BagCarousel$Row"
  | _ => .object "BagCarousel$Row"
abbrev wsX20 : List Cond := u_ws RX2 TX2 8
theorem nmX2 : ∀ a, a < 8 → ∀ b, b < 8 → a ≠ b → (TX2 a).2.1 ≠ (TX2 b).2.1 := by decide +kernel
theorem tyX2_ok : ∀ k, k < 8 → parseFieldDescriptor (TX2 k).2.2.1 = some (tyX2 k) := by decide +kernel
abbrev cX2_init : ByteArray := prog_4_method_1_code
def yX2_init : MethodName := ⟨RX2, "<init>", "()V"⟩
abbrev cX2_becomeLike : ByteArray := prog_4_method_2_code
def yX2_becomeLike : MethodName := ⟨RX2, "becomeLike", "(LBagCarousel$Hall;)V"⟩
abbrev cX2_takeIn : ByteArray := prog_4_method_3_code
def yX2_takeIn : MethodName := ⟨RX2, "takeIn", "(I)V"⟩
abbrev cX2_changeChute : ByteArray := prog_4_method_4_code
def yX2_changeChute : MethodName := ⟨RX2, "changeChute", "(II)I"⟩
abbrev cX2_clearMisrouted : ByteArray := prog_4_method_5_code
def yX2_clearMisrouted : MethodName := ⟨RX2, "clearMisrouted", "(I)I"⟩
abbrev cX2_letLeave : ByteArray := prog_4_method_6_code
def yX2_letLeave : MethodName := ⟨RX2, "letLeave", "(I)I"⟩
abbrev cX2_goMinutes : ByteArray := prog_4_method_7_code
def yX2_goMinutes : MethodName := ⟨RX2, "goMinutes", "(I)I"⟩
abbrev cX2_goMinute : ByteArray := prog_4_method_8_code
def yX2_goMinute : MethodName := ⟨RX2, "goMinute", "()I"⟩
abbrev cX2_readTag : ByteArray := prog_4_method_9_code
def yX2_readTag : MethodName := ⟨RX2, "readTag", "()V"⟩
abbrev cX2_missTag : ByteArray := prog_4_method_10_code
def yX2_missTag : MethodName := ⟨RX2, "missTag", "(I)V"⟩
abbrev cX2_fillChutes : ByteArray := prog_4_method_11_code
def yX2_fillChutes : MethodName := ⟨RX2, "fillChutes", "()I"⟩
abbrev cX2_feedBelt : ByteArray := prog_4_method_12_code
def yX2_feedBelt : MethodName := ⟨RX2, "feedBelt", "()V"⟩
abbrev cX2_hasRoom : ByteArray := prog_4_method_13_code
def yX2_hasRoom : MethodName := ⟨RX2, "hasRoom", "(I)Z"⟩
abbrev cX2_findOnBelt : ByteArray := prog_4_method_14_code
def yX2_findOnBelt : MethodName := ⟨RX2, "findOnBelt", "(I)I"⟩
abbrev cX2_isInOwnChute : ByteArray := prog_4_method_15_code
def yX2_isInOwnChute : MethodName := ⟨RX2, "isInOwnChute", "(I)Z"⟩
abbrev cX2_isAstray : ByteArray := prog_4_method_16_code
def yX2_isAstray : MethodName := ⟨RX2, "isAstray", "(I)Z"⟩
abbrev cX2_isReady : ByteArray := prog_4_method_17_code
def yX2_isReady : MethodName := ⟨RX2, "isReady", "(I)Z"⟩
abbrev cX2_countMisrouted : ByteArray := prog_4_method_18_code
def yX2_countMisrouted : MethodName := ⟨RX2, "countMisrouted", "(I)I"⟩
abbrev cX2_countReady : ByteArray := prog_4_method_19_code
def yX2_countReady : MethodName := ⟨RX2, "countReady", "(I)I"⟩
abbrev cX2_countMissing : ByteArray := prog_4_method_20_code
def yX2_countMissing : MethodName := ⟨RX2, "countMissing", "(I)I"⟩
def RX3 : String := "BagCarousel$Row"
def TX3 : u_T := fun k => match k with
  | _ => ("BagCarousel$Row", "cells", "[I", true)
def tyX3 : Nat → FieldType := fun k => match k with
  | _ => .array .int
abbrev wsX30 : List Cond := u_ws RX3 TX3 1
theorem nmX3 : ∀ a, a < 1 → ∀ b, b < 1 → a ≠ b → (TX3 a).2.1 ≠ (TX3 b).2.1 := by decide +kernel
theorem tyX3_ok : ∀ k, k < 1 → parseFieldDescriptor (TX3 k).2.2.1 = some (tyX3 k) := by decide +kernel
abbrev cX3_init : ByteArray := prog_5_method_1_code
def yX3_init : MethodName := ⟨RX3, "<init>", "([II)V"⟩
abbrev cX3_at : ByteArray := prog_5_method_2_code
def yX3_at : MethodName := ⟨RX3, "at", "(I)I"⟩
abbrev cX3_put : ByteArray := prog_5_method_3_code
def yX3_put : MethodName := ⟨RX3, "put", "(II)V"⟩
abbrev cX3_takeAll : ByteArray := prog_5_method_4_code
def yX3_takeAll : MethodName := ⟨RX3, "takeAll", "(LBagCarousel$Row;)V"⟩
abbrev cX3_turn : ByteArray := prog_5_method_5_code
def yX3_turn : MethodName := ⟨RX3, "turn", "()V"⟩
abbrev cX3_takeFront : ByteArray := prog_5_method_6_code
def yX3_takeFront : MethodName := ⟨RX3, "takeFront", "()I"⟩
abbrev cX3_count : ByteArray := prog_5_method_7_code
def yX3_count : MethodName := ⟨RX3, "count", "(I)I"⟩
abbrev cX3_sum : ByteArray := prog_5_method_8_code
def yX3_sum : MethodName := ⟨RX3, "sum", "()I"⟩
abbrev cX3_find : ByteArray := prog_5_method_9_code
def yX3_find : MethodName := ⟨RX3, "find", "(I)I"⟩
def RX4 : String := "BagCarousel"
def TX4 : u_T := fun k => match k with
  | 0 => ("BagCarousel", "hall", "LBagCarousel$Hall;", true)
  | _ => ("BagCarousel", "trial", "LBagCarousel$Hall;", true)
def tyX4 : Nat → FieldType := fun k => match k with
  | 0 => .object "BagCarousel$Hall"
  | _ => .object "BagCarousel$Hall"
abbrev wsX40 : List Cond := u_ws RX4 TX4 2
theorem nmX4 : ∀ a, a < 2 → ∀ b, b < 2 → a ≠ b → (TX4 a).2.1 ≠ (TX4 b).2.1 := by decide +kernel
theorem tyX4_ok : ∀ k, k < 2 → parseFieldDescriptor (TX4 k).2.2.1 = some (tyX4 k) := by decide +kernel
abbrev cX4_init : ByteArray := prog_1_method_1_code
def yX4_init : MethodName := ⟨RX4, "<init>", "()V"⟩
abbrev cX4_addFlight : ByteArray := prog_1_method_2_code
def yX4_addFlight : MethodName := ⟨RX4, "addFlight", "()I"⟩
abbrev cX4_giveChute : ByteArray := prog_1_method_3_code
def yX4_giveChute : MethodName := ⟨RX4, "giveChute", "(II)I"⟩
abbrev cX4_setReader : ByteArray := prog_1_method_4_code
def yX4_setReader : MethodName := ⟨RX4, "setReader", "(I)I"⟩
abbrev cX4_setRoom : ByteArray := prog_1_method_5_code
def yX4_setRoom : MethodName := ⟨RX4, "setRoom", "(II)I"⟩
abbrev cX4_checkIn : ByteArray := prog_1_method_6_code
def yX4_checkIn : MethodName := ⟨RX4, "checkIn", "(III)I"⟩
abbrev cX4_carry : ByteArray := prog_1_method_7_code
def yX4_carry : MethodName := ⟨RX4, "carry", "(I)I"⟩
abbrev cX4_forward : ByteArray := prog_1_method_8_code
def yX4_forward : MethodName := ⟨RX4, "forward", "(II)I"⟩
abbrev cX4_sweep : ByteArray := prog_1_method_9_code
def yX4_sweep : MethodName := ⟨RX4, "sweep", "(I)I"⟩
abbrev cX4_depart : ByteArray := prog_1_method_10_code
def yX4_depart : MethodName := ⟨RX4, "depart", "(I)I"⟩
abbrev cX4_pass : ByteArray := prog_1_method_11_code
def yX4_pass : MethodName := ⟨RX4, "pass", "(I)I"⟩
abbrev cX4_flightOf : ByteArray := prog_1_method_12_code
def yX4_flightOf : MethodName := ⟨RX4, "flightOf", "(I)I"⟩
abbrev cX4_whereIs : ByteArray := prog_1_method_13_code
def yX4_whereIs : MethodName := ⟨RX4, "whereIs", "(I)I"⟩
abbrev cX4_placeOf : ByteArray := prog_1_method_14_code
def yX4_placeOf : MethodName := ⟨RX4, "placeOf", "(I)I"⟩
abbrev cX4_chuteOf : ByteArray := prog_1_method_15_code
def yX4_chuteOf : MethodName := ⟨RX4, "chuteOf", "(I)I"⟩
abbrev cX4_readFor : ByteArray := prog_1_method_16_code
def yX4_readFor : MethodName := ⟨RX4, "readFor", "(I)I"⟩
abbrev cX4_missesOf : ByteArray := prog_1_method_17_code
def yX4_missesOf : MethodName := ⟨RX4, "missesOf", "(I)I"⟩
abbrev cX4_isMisrouted : ByteArray := prog_1_method_18_code
def yX4_isMisrouted : MethodName := ⟨RX4, "isMisrouted", "(I)Z"⟩
abbrev cX4_hasOpenFile : ByteArray := prog_1_method_19_code
def yX4_hasOpenFile : MethodName := ⟨RX4, "hasOpenFile", "(I)Z"⟩
abbrev cX4_bagAt : ByteArray := prog_1_method_20_code
def yX4_bagAt : MethodName := ⟨RX4, "bagAt", "(I)I"⟩
abbrev cX4_bagsIn : ByteArray := prog_1_method_21_code
def yX4_bagsIn : MethodName := ⟨RX4, "bagsIn", "(I)I"⟩
abbrev cX4_misroutedIn : ByteArray := prog_1_method_22_code
def yX4_misroutedIn : MethodName := ⟨RX4, "misroutedIn", "(I)I"⟩
abbrev cX4_roomOf : ByteArray := prog_1_method_23_code
def yX4_roomOf : MethodName := ⟨RX4, "roomOf", "(I)I"⟩
abbrev cX4_chuteOfFlight : ByteArray := prog_1_method_24_code
def yX4_chuteOfFlight : MethodName := ⟨RX4, "chuteOfFlight", "(I)I"⟩
abbrev cX4_isGone : ByteArray := prog_1_method_25_code
def yX4_isGone : MethodName := ⟨RX4, "isGone", "(I)Z"⟩
abbrev cX4_readyOf : ByteArray := prog_1_method_26_code
def yX4_readyOf : MethodName := ⟨RX4, "readyOf", "(I)I"⟩
abbrev cX4_missingOf : ByteArray := prog_1_method_27_code
def yX4_missingOf : MethodName := ⟨RX4, "missingOf", "(I)I"⟩
abbrev cX4_minute : ByteArray := prog_1_method_28_code
def yX4_minute : MethodName := ⟨RX4, "minute", "()I"⟩
abbrev cX4_flights : ByteArray := prog_1_method_29_code
def yX4_flights : MethodName := ⟨RX4, "flights", "()I"⟩
abbrev cX4_bags : ByteArray := prog_1_method_30_code
def yX4_bags : MethodName := ⟨RX4, "bags", "()I"⟩
abbrev cX4_inLine : ByteArray := prog_1_method_31_code
def yX4_inLine : MethodName := ⟨RX4, "inLine", "()I"⟩
abbrev cX4_onBelt : ByteArray := prog_1_method_32_code
def yX4_onBelt : MethodName := ⟨RX4, "onBelt", "()I"⟩
abbrev cX4_atDesk : ByteArray := prog_1_method_33_code
def yX4_atDesk : MethodName := ⟨RX4, "atDesk", "()I"⟩
abbrev cX4_openFiles : ByteArray := prog_1_method_34_code
def yX4_openFiles : MethodName := ⟨RX4, "openFiles", "()I"⟩
abbrev cX4_closedFiles : ByteArray := prog_1_method_35_code
def yX4_closedFiles : MethodName := ⟨RX4, "closedFiles", "()I"⟩
abbrev cX4_reader : ByteArray := prog_1_method_36_code
def yX4_reader : MethodName := ⟨RX4, "reader", "()I"⟩
abbrev cX4_minutesUntilChute : ByteArray := prog_1_method_37_code
def yX4_minutesUntilChute : MethodName := ⟨RX4, "minutesUntilChute", "(I)I"⟩
abbrev cX4_readyAfter : ByteArray := prog_1_method_38_code
def yX4_readyAfter : MethodName := ⟨RX4, "readyAfter", "(II)I"⟩
abbrev cX4_bestChute : ByteArray := prog_1_method_39_code
def yX4_bestChute : MethodName := ⟨RX4, "bestChute", "(II)I"⟩
abbrev cX4_meanMisses : ByteArray := prog_1_method_40_code
def yX4_meanMisses : MethodName := ⟨RX4, "meanMisses", "()D"⟩
abbrev cX4_digest : ByteArray := prog_1_method_41_code
def yX4_digest : MethodName := ⟨RX4, "digest", "()J"⟩
abbrev cX4_addHall : ByteArray := prog_1_method_42_code
def yX4_addHall : MethodName := ⟨RX4, "addHall", "(J)J"⟩
abbrev cX4_addBag : ByteArray := prog_1_method_43_code
def yX4_addBag : MethodName := ⟨RX4, "addBag", "(JI)J"⟩
abbrev cX4_addChute : ByteArray := prog_1_method_44_code
def yX4_addChute : MethodName := ⟨RX4, "addChute", "(JI)J"⟩
abbrev cX4_addOfFlight : ByteArray := prog_1_method_45_code
def yX4_addOfFlight : MethodName := ⟨RX4, "addOfFlight", "(JI)J"⟩
abbrev cX4_addNumber : ByteArray := prog_1_method_46_code
def yX4_addNumber : MethodName := ⟨RX4, "addNumber", "(JJ)J"⟩
abbrev cX4_needBag : ByteArray := prog_1_method_47_code
def yX4_needBag : MethodName := ⟨RX4, "needBag", "(I)V"⟩
abbrev cX4_needFlight : ByteArray := prog_1_method_48_code
def yX4_needFlight : MethodName := ⟨RX4, "needFlight", "(I)V"⟩
abbrev cX4_needChute : ByteArray := prog_1_method_49_code
def yX4_needChute : MethodName := ⟨RX4, "needChute", "(I)V"⟩
abbrev cX4_needMinutes : ByteArray := prog_1_method_50_code
def yX4_needMinutes : MethodName := ⟨RX4, "needMinutes", "(I)V"⟩
abbrev cX4_needNotGone : ByteArray := prog_1_method_51_code
def yX4_needNotGone : MethodName := ⟨RX4, "needNotGone", "(I)V"⟩
abbrev cX4_needInHand : ByteArray := prog_1_method_52_code
def yX4_needInHand : MethodName := ⟨RX4, "needInHand", "(I)V"⟩
abbrev cX4_isChute : ByteArray := prog_1_method_53_code
def yX4_isChute : MethodName := ⟨RX4, "isChute", "(I)Z"⟩
abbrev cX4_readyWithChute : ByteArray := prog_1_method_54_code
def yX4_readyWithChute : MethodName := ⟨RX4, "readyWithChute", "(III)I"⟩
def RX5 : String := "BagCarouselModel$State"
def TX5 : u_T := fun k => match k with
  | 0 => ("BagCarouselModel$State", "minute", "I", false)
  | 1 => ("BagCarouselModel$State", "where", "[I", true)
  | 2 => ("BagCarouselModel$State", "at", "[I", true)
  | 3 => ("BagCarouselModel$State", "read", "[I", true)
  | 4 => ("BagCarouselModel$State", "missed", "[I", true)
  | 5 => ("BagCarouselModel$State", "belt", "[I", true)
  | 6 => ("BagCarouselModel$State", "line", "[I", true)
  | 7 => ("BagCarouselModel$State", "inLine", "I", false)
  | _ => ("BagCarouselModel$State", "in", "[I", true)
def tyX5 : Nat → FieldType := fun k => match k with
  | 0 => .int
  | 1 => .array .int
  | 2 => .array .int
  | 3 => .array .int
  | 4 => .array .int
  | 5 => .array .int
  | 6 => .array .int
  | 7 => .int
  | _ => .array .int
abbrev wsX50 : List Cond := u_ws RX5 TX5 9
theorem nmX5 : ∀ a, a < 9 → ∀ b, b < 9 → a ≠ b → (TX5 a).2.1 ≠ (TX5 b).2.1 := by decide +kernel
theorem tyX5_ok : ∀ k, k < 9 → parseFieldDescriptor (TX5 k).2.2.1 = some (tyX5 k) := by decide +kernel
abbrev cX5_init : ByteArray := prog_8_method_1_code
def yX5_init : MethodName := ⟨RX5, "<init>", "()V"⟩
abbrev cX5_copy : ByteArray := prog_8_method_2_code
def yX5_copy : MethodName := ⟨RX5, "copy", "([I[I)V"⟩
abbrev cX5_become : ByteArray := prog_8_method_3_code
def yX5_become : MethodName := ⟨RX5, "become", "(LBagCarouselModel$State;)V"⟩
abbrev cX5_put : ByteArray := prog_8_method_4_code
def yX5_put : MethodName := ⟨RX5, "put", "(III)V"⟩
abbrev cX5_toLine : ByteArray := prog_8_method_5_code
def yX5_toLine : MethodName := ⟨RX5, "toLine", "(I)V"⟩
abbrev cX5_toChute : ByteArray := prog_8_method_6_code
def yX5_toChute : MethodName := ⟨RX5, "toChute", "(II)V"⟩
abbrev cX5_turnRound : ByteArray := prog_8_method_7_code
def yX5_turnRound : MethodName := ⟨RX5, "turnRound", "()V"⟩
abbrev cX5_firstInLine : ByteArray := prog_8_method_8_code
def yX5_firstInLine : MethodName := ⟨RX5, "firstInLine", "()I"⟩
def RX6 : String := "BagCarouselModel"
def TX6 : u_T := fun k => match k with
  | 0 => ("BagCarouselModel", "thrown", "I", false)
  | 1 => ("BagCarouselModel", "flights", "I", false)
  | 2 => ("BagCarouselModel", "chuteOf", "[I", true)
  | 3 => ("BagCarouselModel", "isGone", "[Z", true)
  | 4 => ("BagCarouselModel", "room", "[I", true)
  | 5 => ("BagCarouselModel", "strength", "I", false)
  | 6 => ("BagCarouselModel", "bags", "I", false)
  | 7 => ("BagCarouselModel", "flight", "[I", true)
  | 8 => ("BagCarouselModel", "size", "[I", true)
  | 9 => ("BagCarouselModel", "smudge", "[I", true)
  | 10 => ("BagCarouselModel", "file", "[I", true)
  | 11 => ("BagCarouselModel", "s", "LBagCarouselModel$State;", true)
  | _ => ("BagCarouselModel", "ahead", "LBagCarouselModel$State;", true)
def tyX6 : Nat → FieldType := fun k => match k with
  | 0 => .int
  | 1 => .int
  | 2 => .array .int
  | 3 => .array .boolean
  | 4 => .array .int
  | 5 => .int
  | 6 => .int
  | 7 => .array .int
  | 8 => .array .int
  | 9 => .array .int
  | 10 => .array .int
  | 11 => .object "BagCarouselModel$State"
  | _ => .object "BagCarouselModel$State"
abbrev wsX60 : List Cond := u_ws RX6 TX6 13
theorem nmX6 : ∀ a, a < 13 → ∀ b, b < 13 → a ≠ b → (TX6 a).2.1 ≠ (TX6 b).2.1 := by decide +kernel
theorem tyX6_ok : ∀ k, k < 13 → parseFieldDescriptor (TX6 k).2.2.1 = some (tyX6 k) := by decide +kernel
abbrev cX6_init : ByteArray := prog_7_method_1_code
def yX6_init : MethodName := ⟨RX6, "<init>", "()V"⟩
abbrev cX6_thrown : ByteArray := prog_7_method_2_code
def yX6_thrown : MethodName := ⟨RX6, "thrown", "()I"⟩
abbrev cX6_no : ByteArray := prog_7_method_3_code
def yX6_no : MethodName := ⟨RX6, "no", "(I)I"⟩
abbrev cX6_isNot : ByteArray := prog_7_method_4_code
def yX6_isNot : MethodName := ⟨RX6, "isNot", "(I)Z"⟩
abbrev cX6_isIn : ByteArray := prog_7_method_5_code
def yX6_isIn : MethodName := ⟨RX6, "isIn", "(III)Z"⟩
abbrev cX6_isBag : ByteArray := prog_7_method_6_code
def yX6_isBag : MethodName := ⟨RX6, "isBag", "(I)Z"⟩
abbrev cX6_isFlight : ByteArray := prog_7_method_7_code
def yX6_isFlight : MethodName := ⟨RX6, "isFlight", "(I)Z"⟩
abbrev cX6_isChute : ByteArray := prog_7_method_8_code
def yX6_isChute : MethodName := ⟨RX6, "isChute", "(I)Z"⟩
abbrev cX6_readAt : ByteArray := prog_7_method_9_code
def yX6_readAt : MethodName := ⟨RX6, "readAt", "(LBagCarouselModel$State;)V"⟩
abbrev cX6_slide : ByteArray := prog_7_method_10_code
def yX6_slide : MethodName := ⟨RX6, "slide", "(LBagCarouselModel$State;I)I"⟩
abbrev cX6_minuteOn : ByteArray := prog_7_method_11_code
def yX6_minuteOn : MethodName := ⟨RX6, "minuteOn", "(LBagCarouselModel$State;)I"⟩
abbrev cX6_minutesOn : ByteArray := prog_7_method_12_code
def yX6_minutesOn : MethodName := ⟨RX6, "minutesOn", "(LBagCarouselModel$State;I)I"⟩
abbrev cX6_misrouted : ByteArray := prog_7_method_13_code
def yX6_misrouted : MethodName := ⟨RX6, "misrouted", "(I)Z"⟩
abbrev cX6_addFlight : ByteArray := prog_7_method_14_code
def yX6_addFlight : MethodName := ⟨RX6, "addFlight", "()I"⟩
abbrev cX6_giveChute : ByteArray := prog_7_method_15_code
def yX6_giveChute : MethodName := ⟨RX6, "giveChute", "(II)I"⟩
abbrev cX6_setReader : ByteArray := prog_7_method_16_code
def yX6_setReader : MethodName := ⟨RX6, "setReader", "(I)I"⟩
abbrev cX6_setRoom : ByteArray := prog_7_method_17_code
def yX6_setRoom : MethodName := ⟨RX6, "setRoom", "(II)I"⟩
abbrev cX6_begin : ByteArray := prog_7_method_18_code
def yX6_begin : MethodName := ⟨RX6, "begin", "(I)V"⟩
abbrev cX6_checkIn : ByteArray := prog_7_method_19_code
def yX6_checkIn : MethodName := ⟨RX6, "checkIn", "(III)I"⟩
abbrev cX6_isAside : ByteArray := prog_7_method_20_code
def yX6_isAside : MethodName := ⟨RX6, "isAside", "(I)Z"⟩
abbrev cX6_carry : ByteArray := prog_7_method_21_code
def yX6_carry : MethodName := ⟨RX6, "carry", "(I)I"⟩
abbrev cX6_close : ByteArray := prog_7_method_22_code
def yX6_close : MethodName := ⟨RX6, "close", "(I)V"⟩
abbrev cX6_forward : ByteArray := prog_7_method_23_code
def yX6_forward : MethodName := ⟨RX6, "forward", "(II)I"⟩
abbrev cX6_sweep : ByteArray := prog_7_method_24_code
def yX6_sweep : MethodName := ⟨RX6, "sweep", "(I)I"⟩
abbrev cX6_isInItsChute : ByteArray := prog_7_method_25_code
def yX6_isInItsChute : MethodName := ⟨RX6, "isInItsChute", "(I)Z"⟩
abbrev cX6_depart : ByteArray := prog_7_method_26_code
def yX6_depart : MethodName := ⟨RX6, "depart", "(I)I"⟩
abbrev cX6_pass : ByteArray := prog_7_method_27_code
def yX6_pass : MethodName := ⟨RX6, "pass", "(I)I"⟩
abbrev cX6_placed : ByteArray := prog_7_method_28_code
def yX6_placed : MethodName := ⟨RX6, "placed", "(II)I"⟩
abbrev cX6_flightOf : ByteArray := prog_7_method_29_code
def yX6_flightOf : MethodName := ⟨RX6, "flightOf", "(I)I"⟩
abbrev cX6_whereIs : ByteArray := prog_7_method_30_code
def yX6_whereIs : MethodName := ⟨RX6, "whereIs", "(I)I"⟩
abbrev cX6_placeOf : ByteArray := prog_7_method_31_code
def yX6_placeOf : MethodName := ⟨RX6, "placeOf", "(I)I"⟩
abbrev cX6_chuteOf : ByteArray := prog_7_method_32_code
def yX6_chuteOf : MethodName := ⟨RX6, "chuteOf", "(I)I"⟩
abbrev cX6_readFor : ByteArray := prog_7_method_33_code
def yX6_readFor : MethodName := ⟨RX6, "readFor", "(I)I"⟩
abbrev cX6_missesOf : ByteArray := prog_7_method_34_code
def yX6_missesOf : MethodName := ⟨RX6, "missesOf", "(I)I"⟩
abbrev cX6_isMisrouted : ByteArray := prog_7_method_35_code
def yX6_isMisrouted : MethodName := ⟨RX6, "isMisrouted", "(I)Z"⟩
abbrev cX6_hasOpenFile : ByteArray := prog_7_method_36_code
def yX6_hasOpenFile : MethodName := ⟨RX6, "hasOpenFile", "(I)Z"⟩
abbrev cX6_bagAt : ByteArray := prog_7_method_37_code
def yX6_bagAt : MethodName := ⟨RX6, "bagAt", "(I)I"⟩
abbrev cX6_bagsIn : ByteArray := prog_7_method_38_code
def yX6_bagsIn : MethodName := ⟨RX6, "bagsIn", "(I)I"⟩
abbrev cX6_badIn : ByteArray := prog_7_method_39_code
def yX6_badIn : MethodName := ⟨RX6, "badIn", "(I)I"⟩
abbrev cX6_misroutedIn : ByteArray := prog_7_method_40_code
def yX6_misroutedIn : MethodName := ⟨RX6, "misroutedIn", "(I)I"⟩
abbrev cX6_roomOf : ByteArray := prog_7_method_41_code
def yX6_roomOf : MethodName := ⟨RX6, "roomOf", "(I)I"⟩
abbrev cX6_chuteOfFlight : ByteArray := prog_7_method_42_code
def yX6_chuteOfFlight : MethodName := ⟨RX6, "chuteOfFlight", "(I)I"⟩
abbrev cX6_isGone : ByteArray := prog_7_method_43_code
def yX6_isGone : MethodName := ⟨RX6, "isGone", "(I)Z"⟩
abbrev cX6_readyIn : ByteArray := prog_7_method_44_code
def yX6_readyIn : MethodName := ⟨RX6, "readyIn", "(LBagCarouselModel$State;I)I"⟩
abbrev cX6_missing : ByteArray := prog_7_method_45_code
def yX6_missing : MethodName := ⟨RX6, "missing", "(I)I"⟩
abbrev cX6_readyOf : ByteArray := prog_7_method_46_code
def yX6_readyOf : MethodName := ⟨RX6, "readyOf", "(I)I"⟩
abbrev cX6_missingOf : ByteArray := prog_7_method_47_code
def yX6_missingOf : MethodName := ⟨RX6, "missingOf", "(I)I"⟩
abbrev cX6_counted : ByteArray := prog_7_method_48_code
def yX6_counted : MethodName := ⟨RX6, "counted", "(I)I"⟩
abbrev cX6_files : ByteArray := prog_7_method_49_code
def yX6_files : MethodName := ⟨RX6, "files", "(I)I"⟩
abbrev cX6_ok : ByteArray := prog_7_method_50_code
def yX6_ok : MethodName := ⟨RX6, "ok", "(I)I"⟩
abbrev cX6_minute : ByteArray := prog_7_method_51_code
def yX6_minute : MethodName := ⟨RX6, "minute", "()I"⟩
abbrev cX6_flights : ByteArray := prog_7_method_52_code
def yX6_flights : MethodName := ⟨RX6, "flights", "()I"⟩
abbrev cX6_bags : ByteArray := prog_7_method_53_code
def yX6_bags : MethodName := ⟨RX6, "bags", "()I"⟩
abbrev cX6_inLine : ByteArray := prog_7_method_54_code
def yX6_inLine : MethodName := ⟨RX6, "inLine", "()I"⟩
abbrev cX6_onBelt : ByteArray := prog_7_method_55_code
def yX6_onBelt : MethodName := ⟨RX6, "onBelt", "()I"⟩
abbrev cX6_atDesk : ByteArray := prog_7_method_56_code
def yX6_atDesk : MethodName := ⟨RX6, "atDesk", "()I"⟩
abbrev cX6_openFiles : ByteArray := prog_7_method_57_code
def yX6_openFiles : MethodName := ⟨RX6, "openFiles", "()I"⟩
abbrev cX6_closedFiles : ByteArray := prog_7_method_58_code
def yX6_closedFiles : MethodName := ⟨RX6, "closedFiles", "()I"⟩
abbrev cX6_reader : ByteArray := prog_7_method_59_code
def yX6_reader : MethodName := ⟨RX6, "reader", "()I"⟩
abbrev cX6_untilChute : ByteArray := prog_7_method_60_code
def yX6_untilChute : MethodName := ⟨RX6, "untilChute", "(I)I"⟩
abbrev cX6_minutesUntilChute : ByteArray := prog_7_method_61_code
def yX6_minutesUntilChute : MethodName := ⟨RX6, "minutesUntilChute", "(I)I"⟩
abbrev cX6_readyBehind : ByteArray := prog_7_method_62_code
def yX6_readyBehind : MethodName := ⟨RX6, "readyBehind", "(II)I"⟩
abbrev cX6_readyAfter : ByteArray := prog_7_method_63_code
def yX6_readyAfter : MethodName := ⟨RX6, "readyAfter", "(II)I"⟩
abbrev cX6_best : ByteArray := prog_7_method_64_code
def yX6_best : MethodName := ⟨RX6, "best", "(II)I"⟩
abbrev cX6_bestChute : ByteArray := prog_7_method_65_code
def yX6_bestChute : MethodName := ⟨RX6, "bestChute", "(II)I"⟩
abbrev cX6_meanMisses : ByteArray := prog_7_method_66_code
def yX6_meanMisses : MethodName := ⟨RX6, "meanMisses", "()D"⟩
abbrev cX6_one : ByteArray := prog_7_method_67_code
def yX6_one : MethodName := ⟨RX6, "one", "(Z)I"⟩
abbrev cX6_on : ByteArray := prog_7_method_68_code
def yX6_on : MethodName := ⟨RX6, "on", "(JI)J"⟩
abbrev cX6_digest : ByteArray := prog_7_method_69_code
def yX6_digest : MethodName := ⟨RX6, "digest", "()J"⟩
def RJx145de : String := "java/io/Serializable"
def TJx145de : u_T := fun k => match k with
  | _ => ("", "", "", false)
def tyJx145de : Nat → FieldType := fun k => match k with
  | _ => .int
abbrev wsJx145de0 : List Cond := u_ws RJx145de TJx145de 0
theorem nmJx145de : ∀ a, a < 0 → ∀ b, b < 0 → a ≠ b → (TJx145de a).2.1 ≠ (TJx145de b).2.1 := by decide +kernel
theorem tyJx145de_ok : ∀ k, k < 0 → parseFieldDescriptor (TJx145de k).2.2.1 = some (tyJx145de k) := by decide +kernel
def RJ9 : String := "java/lang/Math"
def TJ9 : u_T := fun k => match k with
  | _ => ("", "", "", false)
def tyJ9 : Nat → FieldType := fun k => match k with
  | _ => .int
abbrev wsJ90 : List Cond := u_ws RJ9 TJ9 0
theorem nmJ9 : ∀ a, a < 0 → ∀ b, b < 0 → a ≠ b → (TJ9 a).2.1 ≠ (TJ9 b).2.1 := by decide +kernel
theorem tyJ9_ok : ∀ k, k < 0 → parseFieldDescriptor (TJ9 k).2.2.1 = some (tyJ9 k) := by decide +kernel
abbrev cJ9_min_7cf53 : ByteArray := prog_13_method_69_code
def yJ9_min_7cf53 : MethodName := ⟨RJ9, "min", "(II)I"⟩
def RJ0 : String := "java/lang/String"
def TJ0 : u_T := fun k => match k with
  | _ => ("", "", "", false)
def tyJ0 : Nat → FieldType := fun k => match k with
  | _ => .int
abbrev wsJ00 : List Cond := u_ws RJ0 TJ0 0
theorem nmJ0 : ∀ a, a < 0 → ∀ b, b < 0 → a ≠ b → (TJ0 a).2.1 ≠ (TJ0 b).2.1 := by decide +kernel
theorem tyJ0_ok : ∀ k, k < 0 → parseFieldDescriptor (TJ0 k).2.2.1 = some (tyJ0 k) := by decide +kernel
def RJ10 : String := "java/lang/System"
def TJ10 : u_T := fun k => match k with
  | _ => ("", "", "", false)
def tyJ10 : Nat → FieldType := fun k => match k with
  | _ => .int
abbrev wsJ100 : List Cond := u_ws RJ10 TJ10 0
theorem nmJ10 : ∀ a, a < 0 → ∀ b, b < 0 → a ≠ b → (TJ10 a).2.1 ≠ (TJ10 b).2.1 := by decide +kernel
theorem tyJ10_ok : ∀ k, k < 0 → parseFieldDescriptor (TJ10 k).2.2.1 = some (tyJ10 k) := by decide +kernel
def RJ7 : String := "java/util/Arrays"
def TJ7 : u_T := fun k => match k with
  | _ => ("", "", "", false)
def tyJ7 : Nat → FieldType := fun k => match k with
  | _ => .int
abbrev wsJ70 : List Cond := u_ws RJ7 TJ7 0
theorem nmJ7 : ∀ a, a < 0 → ∀ b, b < 0 → a ≠ b → (TJ7 a).2.1 ≠ (TJ7 b).2.1 := by decide +kernel
theorem tyJ7_ok : ∀ k, k < 0 → parseFieldDescriptor (TJ7 k).2.2.1 = some (tyJ7 k) := by decide +kernel
abbrev cJ7_fill_53178 : ByteArray := prog_18_method_103_code
def yJ7_fill_53178 : MethodName := ⟨RJ7, "fill", "([II)V"⟩
def RL : String := "BagCarouselLaw"
abbrev cL_addFlight : ByteArray := method_3_code
def yL_addFlight : MethodName := ⟨RL, "addFlight", "(LBagCarousel;[J)I"⟩
abbrev cL_giveChute : ByteArray := method_4_code
def yL_giveChute : MethodName := ⟨RL, "giveChute", "(LBagCarousel;II[J)I"⟩
abbrev cL_setReader : ByteArray := method_5_code
def yL_setReader : MethodName := ⟨RL, "setReader", "(LBagCarousel;I[J)I"⟩
abbrev cL_setRoom : ByteArray := method_6_code
def yL_setRoom : MethodName := ⟨RL, "setRoom", "(LBagCarousel;II[J)I"⟩
abbrev cL_checkIn : ByteArray := method_7_code
def yL_checkIn : MethodName := ⟨RL, "checkIn", "(LBagCarousel;III[J)I"⟩
abbrev cL_carry : ByteArray := method_8_code
def yL_carry : MethodName := ⟨RL, "carry", "(LBagCarousel;I[J)I"⟩
abbrev cL_forward : ByteArray := method_9_code
def yL_forward : MethodName := ⟨RL, "forward", "(LBagCarousel;II[J)I"⟩
abbrev cL_sweep : ByteArray := method_10_code
def yL_sweep : MethodName := ⟨RL, "sweep", "(LBagCarousel;I[J)I"⟩
abbrev cL_depart : ByteArray := method_11_code
def yL_depart : MethodName := ⟨RL, "depart", "(LBagCarousel;I[J)I"⟩
abbrev cL_pass : ByteArray := method_12_code
def yL_pass : MethodName := ⟨RL, "pass", "(LBagCarousel;I[J)I"⟩
abbrev cL_flightOf : ByteArray := method_13_code
def yL_flightOf : MethodName := ⟨RL, "flightOf", "(LBagCarousel;I[J)I"⟩
abbrev cL_whereIs : ByteArray := method_14_code
def yL_whereIs : MethodName := ⟨RL, "whereIs", "(LBagCarousel;I[J)I"⟩
abbrev cL_placeOf : ByteArray := method_15_code
def yL_placeOf : MethodName := ⟨RL, "placeOf", "(LBagCarousel;I[J)I"⟩
abbrev cL_chuteOf : ByteArray := method_16_code
def yL_chuteOf : MethodName := ⟨RL, "chuteOf", "(LBagCarousel;I[J)I"⟩
abbrev cL_readFor : ByteArray := method_17_code
def yL_readFor : MethodName := ⟨RL, "readFor", "(LBagCarousel;I[J)I"⟩
abbrev cL_missesOf : ByteArray := method_18_code
def yL_missesOf : MethodName := ⟨RL, "missesOf", "(LBagCarousel;I[J)I"⟩
abbrev cL_isMisrouted : ByteArray := method_19_code
def yL_isMisrouted : MethodName := ⟨RL, "isMisrouted", "(LBagCarousel;I[J)I"⟩
abbrev cL_hasOpenFile : ByteArray := method_20_code
def yL_hasOpenFile : MethodName := ⟨RL, "hasOpenFile", "(LBagCarousel;I[J)I"⟩
abbrev cL_bagAt : ByteArray := method_21_code
def yL_bagAt : MethodName := ⟨RL, "bagAt", "(LBagCarousel;I[J)I"⟩
abbrev cL_bagsIn : ByteArray := method_22_code
def yL_bagsIn : MethodName := ⟨RL, "bagsIn", "(LBagCarousel;I[J)I"⟩
abbrev cL_misroutedIn : ByteArray := method_23_code
def yL_misroutedIn : MethodName := ⟨RL, "misroutedIn", "(LBagCarousel;I[J)I"⟩
abbrev cL_roomOf : ByteArray := method_24_code
def yL_roomOf : MethodName := ⟨RL, "roomOf", "(LBagCarousel;I[J)I"⟩
abbrev cL_chuteOfFlight : ByteArray := method_25_code
def yL_chuteOfFlight : MethodName := ⟨RL, "chuteOfFlight", "(LBagCarousel;I[J)I"⟩
abbrev cL_isGone : ByteArray := method_26_code
def yL_isGone : MethodName := ⟨RL, "isGone", "(LBagCarousel;I[J)I"⟩
abbrev cL_readyOf : ByteArray := method_27_code
def yL_readyOf : MethodName := ⟨RL, "readyOf", "(LBagCarousel;I[J)I"⟩
abbrev cL_missingOf : ByteArray := method_28_code
def yL_missingOf : MethodName := ⟨RL, "missingOf", "(LBagCarousel;I[J)I"⟩
abbrev cL_minutesUntilChute : ByteArray := method_29_code
def yL_minutesUntilChute : MethodName := ⟨RL, "minutesUntilChute", "(LBagCarousel;I[J)I"⟩
abbrev cL_readyAfter : ByteArray := method_30_code
def yL_readyAfter : MethodName := ⟨RL, "readyAfter", "(LBagCarousel;II[J)I"⟩
abbrev cL_bestChute : ByteArray := method_31_code
def yL_bestChute : MethodName := ⟨RL, "bestChute", "(LBagCarousel;II[J)I"⟩
abbrev cL_law : ByteArray := code
def yL_law : MethodName := ⟨RL, "law", "([I)Z"⟩
abbrev vwCl : List vw_C := [(RX0, TX0, 9), (RX1, TX1, 3), (RX2, TX2, 8), (RX3, TX3, 1), (RX4, TX4, 2), (RX5, TX5, 9), (RX6, TX6, 13)]
end
section
/-! the words of the tables that ride through calls, in one list; each by its place -/
def lw_all : List Cond := lw_tbl.filter goodWord
theorem lw_all_tbl {w : Cond} (h : w ∈ lw_all) : w ∈ lw_tbl := (List.mem_filter.mp h).1
theorem lw_mem {w : Cond} (i : Nat) (h : lw_tbl[i]? = some w) (g : goodWord w = true) : w ∈ lw_all := List.mem_filter.mpr ⟨List.mem_of_getElem? h, g⟩
theorem lw_good {w : Cond} (h : w ∈ lw_all) : w ∈ lw_all ∧ ((w.onTables && w.keeps) = true ∨ ∃ ty, w = .arrayClass ty) := ⟨h, good_of_word (List.mem_filter.mp h).2⟩
theorem lw_self : GoodIn lw_all lw_all := fun _ h => lw_good h
theorem lw_cons {w : Cond} {ws : List Cond} (h : w ∈ lw_all) (k : GoodIn lw_all ws) : GoodIn lw_all (w :: ws) := fun v hv => (List.mem_cons.mp hv).elim (fun e => by rw [e]; exact lw_good h) (k v)
theorem lw_sub {ws : List Cond} (ps : List Nat) (hp : ws = ps.filterMap (fun i => lw_tbl[i]?)) (hg : ws.all goodWord = true) : ∀ w ∈ ws, w ∈ lw_all := by
  intro w hw
  have h1 := List.all_eq_true.mp hg w hw
  rw [hp] at hw
  obtain ⟨i, -, hi⟩ := List.mem_filterMap.mp hw
  exact lw_mem i hi h1
abbrev ws_ (y : MethodName) (cc : ByteArray) (n : Nat) (r : Option FieldType) : List Cond := Cond.code y cc n r :: lw_all
theorem lw_C {y : MethodName} {cc : ByteArray} {n : Nat} {r : Option FieldType} (h : Cond.code y cc n r ∈ lw_all) : GoodIn lw_all (ws_ y cc n r) := lw_cons h lw_self
theorem lw_V {own C : String} {idx : Nat} {y : MethodName} {cc : ByteArray} {n : Nat} {r : Option FieldType} (h1 : Cond.methodLink own idx y ∈ lw_all) (h2 : Cond.instanceMethod y ∈ lw_all) (h3 : Cond.selects C y y ∈ lw_all) (h4 : Cond.initialized C ∈ lw_all) (h5 : Cond.code y cc n r ∈ lw_all) : GoodIn lw_all (wsV own idx C y (ws_ y cc n r)) := lw_cons h1 (lw_cons h2 (lw_cons h3 (lw_cons h4 (lw_C h5))))
theorem lw_S {own : String} {idx : Nat} {y : MethodName} {cc : ByteArray} {n : Nat} {r : Option FieldType} (h1 : Cond.methodLink own idx y ∈ lw_all) (h2 : Cond.static y ∈ lw_all) (h4 : Cond.initialized y.cls ∈ lw_all) (h5 : Cond.code y cc n r ∈ lw_all) : GoodIn lw_all (va_wsS own idx y (ws_ y cc n r)) := lw_cons h1 (lw_cons h2 (lw_cons h4 (lw_C h5)))

theorem tp_0 : Cond.selects RX4 yX4_addHall yX4_addHall ∈ lw_all := lw_mem 0 (by decide +kernel) rfl
theorem tp_1 : Cond.selects RX4 yX4_addBag yX4_addBag ∈ lw_all := lw_mem 1 (by decide +kernel) rfl
theorem tp_2 : Cond.selects RX4 yX4_addChute yX4_addChute ∈ lw_all := lw_mem 2 (by decide +kernel) rfl
theorem tp_3 : Cond.selects RX4 yX4_addOfFlight yX4_addOfFlight ∈ lw_all := lw_mem 3 (by decide +kernel) rfl
theorem tp_4 : Cond.selects "java/lang/Throwable" ⟨"java/lang/Throwable", "fillInStackTrace", "(I)Ljava/lang/Throwable;"⟩ ⟨"java/lang/Throwable", "fillInStackTrace", "(I)Ljava/lang/Throwable;"⟩ ∈ lw_all := lw_mem 4 (by decide +kernel) rfl
theorem tp_5 : Cond.selects RX4 yX4_needFlight yX4_needFlight ∈ lw_all := lw_mem 5 (by decide +kernel) rfl
theorem tp_6 : Cond.selects RX4 yX4_needNotGone yX4_needNotGone ∈ lw_all := lw_mem 6 (by decide +kernel) rfl
theorem tp_7 : Cond.selects RX4 yX4_needBag yX4_needBag ∈ lw_all := lw_mem 7 (by decide +kernel) rfl
theorem tp_8 : Cond.selects RX4 yX4_needInHand yX4_needInHand ∈ lw_all := lw_mem 8 (by decide +kernel) rfl
theorem tp_9 : Cond.selects RX4 yX4_readyWithChute yX4_readyWithChute ∈ lw_all := lw_mem 9 (by decide +kernel) rfl
theorem tp_10 : Cond.selects RX6 yX6_no yX6_no ∈ lw_all := lw_mem 10 (by decide +kernel) rfl
theorem tp_11 : Cond.selects RX6 yX6_isFlight yX6_isFlight ∈ lw_all := lw_mem 11 (by decide +kernel) rfl
theorem tp_12 : Cond.selects RX6 yX6_begin yX6_begin ∈ lw_all := lw_mem 12 (by decide +kernel) rfl
theorem tp_13 : Cond.selects RX6 yX6_isBag yX6_isBag ∈ lw_all := lw_mem 13 (by decide +kernel) rfl
theorem tp_14 : Cond.selects RX6 yX6_isAside yX6_isAside ∈ lw_all := lw_mem 14 (by decide +kernel) rfl
theorem tp_15 : Cond.selects RX6 yX6_close yX6_close ∈ lw_all := lw_mem 15 (by decide +kernel) rfl
theorem tp_16 : Cond.selects RX6 yX6_misrouted yX6_misrouted ∈ lw_all := lw_mem 16 (by decide +kernel) rfl
theorem tp_17 : Cond.selects RX6 yX6_isInItsChute yX6_isInItsChute ∈ lw_all := lw_mem 17 (by decide +kernel) rfl
theorem tp_18 : Cond.selects RX6 yX6_minutesOn yX6_minutesOn ∈ lw_all := lw_mem 18 (by decide +kernel) rfl
theorem tp_19 : Cond.selects RX6 yX6_minuteOn yX6_minuteOn ∈ lw_all := lw_mem 19 (by decide +kernel) rfl
theorem tp_20 : Cond.selects RX6 yX6_readAt yX6_readAt ∈ lw_all := lw_mem 20 (by decide +kernel) rfl
theorem tp_21 : Cond.selects RX6 yX6_slide yX6_slide ∈ lw_all := lw_mem 21 (by decide +kernel) rfl
theorem tp_22 : Cond.selects RX6 yX6_placed yX6_placed ∈ lw_all := lw_mem 22 (by decide +kernel) rfl
theorem tp_23 : Cond.selects RX6 yX6_isNot yX6_isNot ∈ lw_all := lw_mem 23 (by decide +kernel) rfl
theorem tp_24 : Cond.selects RX6 yX6_badIn yX6_badIn ∈ lw_all := lw_mem 24 (by decide +kernel) rfl
theorem tp_25 : Cond.selects RX6 yX6_readyIn yX6_readyIn ∈ lw_all := lw_mem 25 (by decide +kernel) rfl
theorem tp_26 : Cond.selects RX6 yX6_missing yX6_missing ∈ lw_all := lw_mem 26 (by decide +kernel) rfl
theorem tp_27 : Cond.selects RX6 yX6_ok yX6_ok ∈ lw_all := lw_mem 27 (by decide +kernel) rfl
theorem tp_28 : Cond.selects RX6 yX6_counted yX6_counted ∈ lw_all := lw_mem 28 (by decide +kernel) rfl
theorem tp_29 : Cond.selects RX6 yX6_files yX6_files ∈ lw_all := lw_mem 29 (by decide +kernel) rfl
theorem tp_30 : Cond.selects RX6 yX6_untilChute yX6_untilChute ∈ lw_all := lw_mem 30 (by decide +kernel) rfl
theorem tp_31 : Cond.selects RX6 yX6_readyBehind yX6_readyBehind ∈ lw_all := lw_mem 31 (by decide +kernel) rfl
theorem tp_32 : Cond.selects RX6 yX6_best yX6_best ∈ lw_all := lw_mem 32 (by decide +kernel) rfl
theorem tw_0 : Cond.initialized RL ∈ lw_all := lw_mem 33 (by decide +kernel) rfl
theorem tw_1 : Cond.initialized RX4 ∈ lw_all := lw_mem 34 (by decide +kernel) rfl
theorem tw_2 : Cond.initialized RX2 ∈ lw_all := lw_mem 35 (by decide +kernel) rfl
theorem tw_3 : Cond.initialized RX1 ∈ lw_all := lw_mem 36 (by decide +kernel) rfl
theorem tw_4 : Cond.initialized RX3 ∈ lw_all := lw_mem 37 (by decide +kernel) rfl
theorem tw_5 : Cond.initialized RJ7 ∈ lw_all := lw_mem 38 (by decide +kernel) rfl
theorem tw_6 : Cond.initialized RX0 ∈ lw_all := lw_mem 39 (by decide +kernel) rfl
theorem tw_7 : Cond.initialized RX6 ∈ lw_all := lw_mem 40 (by decide +kernel) rfl
theorem tw_8 : Cond.initialized RX5 ∈ lw_all := lw_mem 41 (by decide +kernel) rfl
theorem tw_9 : Cond.initialized "java/lang/Throwable" ∈ lw_all := lw_mem 42 (by decide +kernel) rfl
theorem tw_10 : Cond.initialized "java/lang/Exception" ∈ lw_all := lw_mem 43 (by decide +kernel) rfl
theorem tw_11 : Cond.initialized "java/lang/RuntimeException" ∈ lw_all := lw_mem 44 (by decide +kernel) rfl
theorem tw_12 : Cond.initialized "java/lang/IllegalStateException" ∈ lw_all := lw_mem 45 (by decide +kernel) rfl
theorem tw_13 : Cond.initialized "java/lang/IndexOutOfBoundsException" ∈ lw_all := lw_mem 46 (by decide +kernel) rfl
theorem tw_14 : Cond.initialized "java/lang/IllegalArgumentException" ∈ lw_all := lw_mem 47 (by decide +kernel) rfl
theorem tw_15 : Cond.initialized RJ10 ∈ lw_all := lw_mem 48 (by decide +kernel) rfl
theorem tw_16 : Cond.initialized RJ9 ∈ lw_all := lw_mem 49 (by decide +kernel) rfl
theorem tw_17 : Cond.classLink RL 8 RX4 ∈ lw_all := lw_mem 50 (by decide +kernel) rfl
theorem tw_18 : Cond.instantiable RX4 2 ∈ lw_all := lw_mem 51 (by decide +kernel) rfl
theorem tw_19 : Cond.methodLink RL 107 yX4_init ∈ lw_all := lw_mem 52 (by decide +kernel) rfl
theorem tw_20 : Cond.instanceMethod yX4_init ∈ lw_all := lw_mem 53 (by decide +kernel) rfl
theorem tw_21 : Cond.code yX4_init cX4_init 1 none ∈ lw_all := lw_mem 54 (by decide +kernel) rfl
theorem tw_22 : Cond.methodLink RX4 1 objectInit ∈ lw_all := lw_mem 55 (by decide +kernel) rfl
theorem tw_23 : Cond.instanceMethod objectInit ∈ lw_all := lw_mem 56 (by decide +kernel) rfl
theorem tw_24 : Cond.code objectInit object_method_1_code 1 none ∈ lw_all := lw_mem 57 (by decide +kernel) rfl
theorem tw_25 : Cond.classLink RX4 7 RX2 ∈ lw_all := lw_mem 58 (by decide +kernel) rfl
theorem tw_26 : Cond.instantiable RX2 8 ∈ lw_all := lw_mem 59 (by decide +kernel) rfl
theorem tw_28 : Cond.instanceMethod yX2_init ∈ lw_all := lw_mem 61 (by decide +kernel) rfl
theorem tw_29 : Cond.code yX2_init cX2_init 1 none ∈ lw_all := lw_mem 62 (by decide +kernel) rfl
theorem tw_30 : Cond.methodLink RX2 3 objectInit ∈ lw_all := lw_mem 63 (by decide +kernel) rfl
theorem tw_31 : Cond.classLink RX2 15 RX1 ∈ lw_all := lw_mem 64 (by decide +kernel) rfl
theorem tw_32 : Cond.instantiable RX1 3 ∈ lw_all := lw_mem 65 (by decide +kernel) rfl
theorem tw_34 : Cond.instanceMethod yX1_init ∈ lw_all := lw_mem 67 (by decide +kernel) rfl
theorem tw_35 : Cond.code yX1_init cX1_init 1 none ∈ lw_all := lw_mem 68 (by decide +kernel) rfl
theorem tw_36 : Cond.methodLink RX1 3 objectInit ∈ lw_all := lw_mem 69 (by decide +kernel) rfl
theorem tw_37 : Cond.classLink RX1 9 RX3 ∈ lw_all := lw_mem 70 (by decide +kernel) rfl
theorem tw_38 : Cond.instantiable RX3 1 ∈ lw_all := lw_mem 71 (by decide +kernel) rfl
theorem tw_39 : Cond.methodLink RX1 11 yX3_init ∈ lw_all := lw_mem 72 (by decide +kernel) rfl
theorem tw_40 : Cond.instanceMethod yX3_init ∈ lw_all := lw_mem 73 (by decide +kernel) rfl
theorem tw_41 : Cond.code yX3_init cX3_init 3 none ∈ lw_all := lw_mem 74 (by decide +kernel) rfl
theorem tw_42 : Cond.methodLink RX3 3 objectInit ∈ lw_all := lw_mem 75 (by decide +kernel) rfl
theorem tw_43 : Cond.methodLink RX3 15 yJ7_fill_53178 ∈ lw_all := lw_mem 76 (by decide +kernel) rfl
theorem tw_44 : Cond.static yJ7_fill_53178 ∈ lw_all := lw_mem 77 (by decide +kernel) rfl
theorem tw_45 : Cond.code yJ7_fill_53178 cJ7_fill_53178 4 none ∈ lw_all := lw_mem 78 (by decide +kernel) rfl
theorem tw_46 : Cond.fieldLink RX3 9 "BagCarousel$Row" "cells" "[I" ∈ lw_all := lw_mem 79 (by decide +kernel) rfl
theorem tw_47 : Cond.laysFinal "BagCarousel$Row" "BagCarousel$Row" "cells" "[I" ∈ lw_all := lw_mem 80 (by decide +kernel) rfl
theorem tw_48 : Cond.soleField "BagCarousel$Row" "cells" ∈ lw_all := lw_mem 81 (by decide +kernel) rfl
theorem tw_49 : Cond.superclass "BagCarousel$Row" "java/lang/Object" ∈ lw_all := lw_mem 82 (by decide +kernel) rfl
theorem tw_50 : Cond.arrayClass FieldType.int ∈ lw_all := lw_mem 83 (by decide +kernel) rfl
theorem tw_51 : Cond.fieldLink RX1 23 "BagCarousel$Flights" "count" "I" ∈ lw_all := lw_mem 84 (by decide +kernel) rfl
theorem tw_52 : Cond.fieldLink RX4 23 "BagCarousel$Flights" "count" "I" ∈ lw_all := lw_mem 85 (by decide +kernel) rfl
theorem tw_53 : Cond.fieldLink RX1 14 "BagCarousel$Flights" "chute" "LBagCarousel$Row;" ∈ lw_all := lw_mem 86 (by decide +kernel) rfl
theorem tw_54 : Cond.fieldLink RX2 87 "BagCarousel$Flights" "chute" "LBagCarousel$Row;" ∈ lw_all := lw_mem 87 (by decide +kernel) rfl
theorem tw_55 : Cond.fieldLink RX4 104 "BagCarousel$Flights" "chute" "LBagCarousel$Row;" ∈ lw_all := lw_mem 88 (by decide +kernel) rfl
theorem tw_56 : Cond.fieldLink RX1 20 "BagCarousel$Flights" "gone" "LBagCarousel$Row;" ∈ lw_all := lw_mem 89 (by decide +kernel) rfl
theorem tw_57 : Cond.fieldLink RX2 101 "BagCarousel$Flights" "gone" "LBagCarousel$Row;" ∈ lw_all := lw_mem 90 (by decide +kernel) rfl
theorem tw_58 : Cond.lays "BagCarousel$Flights" "BagCarousel$Flights" "count" "I" ∈ lw_all := lw_mem 91 (by decide +kernel) rfl
theorem tw_59 : Cond.soleField "BagCarousel$Flights" "count" ∈ lw_all := lw_mem 92 (by decide +kernel) rfl
theorem tw_60 : Cond.laysFinal "BagCarousel$Flights" "BagCarousel$Flights" "chute" "LBagCarousel$Row;" ∈ lw_all := lw_mem 93 (by decide +kernel) rfl
theorem tw_61 : Cond.soleField "BagCarousel$Flights" "chute" ∈ lw_all := lw_mem 94 (by decide +kernel) rfl
theorem tw_62 : Cond.laysFinal "BagCarousel$Flights" "BagCarousel$Flights" "gone" "LBagCarousel$Row;" ∈ lw_all := lw_mem 95 (by decide +kernel) rfl
theorem tw_63 : Cond.soleField "BagCarousel$Flights" "gone" ∈ lw_all := lw_mem 96 (by decide +kernel) rfl
theorem tw_64 : Cond.superclass "BagCarousel$Flights" "java/lang/Object" ∈ lw_all := lw_mem 97 (by decide +kernel) rfl
theorem tw_65 : Cond.classLink RX2 22 RX0 ∈ lw_all := lw_mem 98 (by decide +kernel) rfl
theorem tw_66 : Cond.instantiable RX0 9 ∈ lw_all := lw_mem 99 (by decide +kernel) rfl
theorem tw_68 : Cond.instanceMethod yX0_init ∈ lw_all := lw_mem 101 (by decide +kernel) rfl
theorem tw_69 : Cond.code yX0_init cX0_init 1 none ∈ lw_all := lw_mem 102 (by decide +kernel) rfl
theorem tw_70 : Cond.methodLink RX0 3 objectInit ∈ lw_all := lw_mem 103 (by decide +kernel) rfl
theorem tw_71 : Cond.classLink RX0 9 RX3 ∈ lw_all := lw_mem 104 (by decide +kernel) rfl
theorem tw_72 : Cond.methodLink RX0 11 yX3_init ∈ lw_all := lw_mem 105 (by decide +kernel) rfl
theorem tw_73 : Cond.fieldLink RX0 41 "BagCarousel$Bags" "count" "I" ∈ lw_all := lw_mem 106 (by decide +kernel) rfl
theorem tw_74 : Cond.fieldLink RX2 74 "BagCarousel$Bags" "count" "I" ∈ lw_all := lw_mem 107 (by decide +kernel) rfl
theorem tw_75 : Cond.fieldLink RX4 84 "BagCarousel$Bags" "count" "I" ∈ lw_all := lw_mem 108 (by decide +kernel) rfl
theorem tw_76 : Cond.fieldLink RX0 14 "BagCarousel$Bags" "flight" "LBagCarousel$Row;" ∈ lw_all := lw_mem 109 (by decide +kernel) rfl
theorem tw_77 : Cond.fieldLink RX2 77 "BagCarousel$Bags" "flight" "LBagCarousel$Row;" ∈ lw_all := lw_mem 110 (by decide +kernel) rfl
theorem tw_78 : Cond.fieldLink RX4 101 "BagCarousel$Bags" "flight" "LBagCarousel$Row;" ∈ lw_all := lw_mem 111 (by decide +kernel) rfl
theorem tw_79 : Cond.fieldLink RX0 20 "BagCarousel$Bags" "size" "LBagCarousel$Row;" ∈ lw_all := lw_mem 112 (by decide +kernel) rfl
theorem tw_80 : Cond.fieldLink RX2 60 "BagCarousel$Bags" "size" "LBagCarousel$Row;" ∈ lw_all := lw_mem 113 (by decide +kernel) rfl
theorem tw_81 : Cond.fieldLink RX0 23 "BagCarousel$Bags" "smudge" "LBagCarousel$Row;" ∈ lw_all := lw_mem 114 (by decide +kernel) rfl
theorem tw_82 : Cond.fieldLink RX2 123 "BagCarousel$Bags" "smudge" "LBagCarousel$Row;" ∈ lw_all := lw_mem 115 (by decide +kernel) rfl
theorem tw_83 : Cond.fieldLink RX0 26 "BagCarousel$Bags" "where" "LBagCarousel$Row;" ∈ lw_all := lw_mem 116 (by decide +kernel) rfl
theorem tw_84 : Cond.fieldLink RX2 67 "BagCarousel$Bags" "where" "LBagCarousel$Row;" ∈ lw_all := lw_mem 117 (by decide +kernel) rfl
theorem tw_85 : Cond.fieldLink RX4 142 "BagCarousel$Bags" "where" "LBagCarousel$Row;" ∈ lw_all := lw_mem 118 (by decide +kernel) rfl
theorem tw_86 : Cond.fieldLink RX0 29 "BagCarousel$Bags" "chute" "LBagCarousel$Row;" ∈ lw_all := lw_mem 119 (by decide +kernel) rfl
theorem tw_87 : Cond.fieldLink RX2 84 "BagCarousel$Bags" "chute" "LBagCarousel$Row;" ∈ lw_all := lw_mem 120 (by decide +kernel) rfl
theorem tw_88 : Cond.fieldLink RX4 148 "BagCarousel$Bags" "chute" "LBagCarousel$Row;" ∈ lw_all := lw_mem 121 (by decide +kernel) rfl
theorem tw_89 : Cond.fieldLink RX0 32 "BagCarousel$Bags" "read" "LBagCarousel$Row;" ∈ lw_all := lw_mem 122 (by decide +kernel) rfl
theorem tw_90 : Cond.fieldLink RX2 120 "BagCarousel$Bags" "read" "LBagCarousel$Row;" ∈ lw_all := lw_mem 123 (by decide +kernel) rfl
theorem tw_91 : Cond.fieldLink RX4 149 "BagCarousel$Bags" "read" "LBagCarousel$Row;" ∈ lw_all := lw_mem 124 (by decide +kernel) rfl
theorem tw_92 : Cond.fieldLink RX0 35 "BagCarousel$Bags" "misses" "LBagCarousel$Row;" ∈ lw_all := lw_mem 125 (by decide +kernel) rfl
theorem tw_93 : Cond.fieldLink RX2 129 "BagCarousel$Bags" "misses" "LBagCarousel$Row;" ∈ lw_all := lw_mem 126 (by decide +kernel) rfl
theorem tw_94 : Cond.fieldLink RX4 152 "BagCarousel$Bags" "misses" "LBagCarousel$Row;" ∈ lw_all := lw_mem 127 (by decide +kernel) rfl
theorem tw_95 : Cond.fieldLink RX0 38 "BagCarousel$Bags" "file" "LBagCarousel$Row;" ∈ lw_all := lw_mem 128 (by decide +kernel) rfl
theorem tw_96 : Cond.fieldLink RX2 98 "BagCarousel$Bags" "file" "LBagCarousel$Row;" ∈ lw_all := lw_mem 129 (by decide +kernel) rfl
theorem tw_97 : Cond.fieldLink RX4 158 "BagCarousel$Bags" "file" "LBagCarousel$Row;" ∈ lw_all := lw_mem 130 (by decide +kernel) rfl
theorem tw_98 : Cond.lays "BagCarousel$Bags" "BagCarousel$Bags" "count" "I" ∈ lw_all := lw_mem 131 (by decide +kernel) rfl
theorem tw_99 : Cond.soleField "BagCarousel$Bags" "count" ∈ lw_all := lw_mem 132 (by decide +kernel) rfl
theorem tw_100 : Cond.laysFinal "BagCarousel$Bags" "BagCarousel$Bags" "flight" "LBagCarousel$Row;" ∈ lw_all := lw_mem 133 (by decide +kernel) rfl
theorem tw_101 : Cond.soleField "BagCarousel$Bags" "flight" ∈ lw_all := lw_mem 134 (by decide +kernel) rfl
theorem tw_102 : Cond.laysFinal "BagCarousel$Bags" "BagCarousel$Bags" "size" "LBagCarousel$Row;" ∈ lw_all := lw_mem 135 (by decide +kernel) rfl
theorem tw_103 : Cond.soleField "BagCarousel$Bags" "size" ∈ lw_all := lw_mem 136 (by decide +kernel) rfl
theorem tw_104 : Cond.laysFinal "BagCarousel$Bags" "BagCarousel$Bags" "smudge" "LBagCarousel$Row;" ∈ lw_all := lw_mem 137 (by decide +kernel) rfl
theorem tw_105 : Cond.soleField "BagCarousel$Bags" "smudge" ∈ lw_all := lw_mem 138 (by decide +kernel) rfl
theorem tw_106 : Cond.laysFinal "BagCarousel$Bags" "BagCarousel$Bags" "where" "LBagCarousel$Row;" ∈ lw_all := lw_mem 139 (by decide +kernel) rfl
theorem tw_107 : Cond.soleField "BagCarousel$Bags" "where" ∈ lw_all := lw_mem 140 (by decide +kernel) rfl
theorem tw_108 : Cond.laysFinal "BagCarousel$Bags" "BagCarousel$Bags" "chute" "LBagCarousel$Row;" ∈ lw_all := lw_mem 141 (by decide +kernel) rfl
theorem tw_109 : Cond.soleField "BagCarousel$Bags" "chute" ∈ lw_all := lw_mem 142 (by decide +kernel) rfl
theorem tw_110 : Cond.laysFinal "BagCarousel$Bags" "BagCarousel$Bags" "read" "LBagCarousel$Row;" ∈ lw_all := lw_mem 143 (by decide +kernel) rfl
theorem tw_111 : Cond.soleField "BagCarousel$Bags" "read" ∈ lw_all := lw_mem 144 (by decide +kernel) rfl
theorem tw_112 : Cond.laysFinal "BagCarousel$Bags" "BagCarousel$Bags" "misses" "LBagCarousel$Row;" ∈ lw_all := lw_mem 145 (by decide +kernel) rfl
theorem tw_113 : Cond.soleField "BagCarousel$Bags" "misses" ∈ lw_all := lw_mem 146 (by decide +kernel) rfl
theorem tw_114 : Cond.laysFinal "BagCarousel$Bags" "BagCarousel$Bags" "file" "LBagCarousel$Row;" ∈ lw_all := lw_mem 147 (by decide +kernel) rfl
theorem tw_115 : Cond.soleField "BagCarousel$Bags" "file" ∈ lw_all := lw_mem 148 (by decide +kernel) rfl
theorem tw_116 : Cond.superclass "BagCarousel$Bags" "java/lang/Object" ∈ lw_all := lw_mem 149 (by decide +kernel) rfl
theorem tw_117 : Cond.classLink RX2 29 RX3 ∈ lw_all := lw_mem 150 (by decide +kernel) rfl
theorem tw_118 : Cond.methodLink RX2 31 yX3_init ∈ lw_all := lw_mem 151 (by decide +kernel) rfl
theorem tw_119 : Cond.fieldLink RX2 44 "BagCarousel$Hall" "minutesGone" "I" ∈ lw_all := lw_mem 152 (by decide +kernel) rfl
theorem tw_120 : Cond.fieldLink RX4 180 "BagCarousel$Hall" "minutesGone" "I" ∈ lw_all := lw_mem 153 (by decide +kernel) rfl
theorem tw_121 : Cond.fieldLink RX2 9 "BagCarousel$Hall" "strength" "I" ∈ lw_all := lw_mem 154 (by decide +kernel) rfl
theorem tw_122 : Cond.fieldLink RX4 59 "BagCarousel$Hall" "strength" "I" ∈ lw_all := lw_mem 155 (by decide +kernel) rfl
theorem tw_123 : Cond.fieldLink RX2 47 "BagCarousel$Hall" "lineCount" "I" ∈ lw_all := lw_mem 156 (by decide +kernel) rfl
theorem tw_124 : Cond.fieldLink RX4 127 "BagCarousel$Hall" "lineCount" "I" ∈ lw_all := lw_mem 157 (by decide +kernel) rfl
theorem tw_125 : Cond.fieldLink RX2 18 "BagCarousel$Hall" "flights" "LBagCarousel$Flights;" ∈ lw_all := lw_mem 158 (by decide +kernel) rfl
theorem tw_126 : Cond.fieldLink RX4 19 "BagCarousel$Hall" "flights" "LBagCarousel$Flights;" ∈ lw_all := lw_mem 159 (by decide +kernel) rfl
theorem tw_127 : Cond.fieldLink RX2 25 "BagCarousel$Hall" "bags" "LBagCarousel$Bags;" ∈ lw_all := lw_mem 160 (by decide +kernel) rfl
theorem tw_128 : Cond.fieldLink RX4 80 "BagCarousel$Hall" "bags" "LBagCarousel$Bags;" ∈ lw_all := lw_mem 161 (by decide +kernel) rfl
theorem tw_129 : Cond.fieldLink RX2 34 "BagCarousel$Hall" "rooms" "LBagCarousel$Row;" ∈ lw_all := lw_mem 162 (by decide +kernel) rfl
theorem tw_130 : Cond.fieldLink RX4 64 "BagCarousel$Hall" "rooms" "LBagCarousel$Row;" ∈ lw_all := lw_mem 163 (by decide +kernel) rfl
theorem tw_131 : Cond.fieldLink RX2 38 "BagCarousel$Hall" "belt" "LBagCarousel$Row;" ∈ lw_all := lw_mem 164 (by decide +kernel) rfl
theorem tw_132 : Cond.fieldLink RX4 166 "BagCarousel$Hall" "belt" "LBagCarousel$Row;" ∈ lw_all := lw_mem 165 (by decide +kernel) rfl
theorem tw_133 : Cond.fieldLink RX2 41 "BagCarousel$Hall" "line" "LBagCarousel$Row;" ∈ lw_all := lw_mem 166 (by decide +kernel) rfl
theorem tw_134 : Cond.lays "BagCarousel$Hall" "BagCarousel$Hall" "minutesGone" "I" ∈ lw_all := lw_mem 167 (by decide +kernel) rfl
theorem tw_135 : Cond.soleField "BagCarousel$Hall" "minutesGone" ∈ lw_all := lw_mem 168 (by decide +kernel) rfl
theorem tw_136 : Cond.lays "BagCarousel$Hall" "BagCarousel$Hall" "strength" "I" ∈ lw_all := lw_mem 169 (by decide +kernel) rfl
theorem tw_137 : Cond.soleField "BagCarousel$Hall" "strength" ∈ lw_all := lw_mem 170 (by decide +kernel) rfl
theorem tw_138 : Cond.lays "BagCarousel$Hall" "BagCarousel$Hall" "lineCount" "I" ∈ lw_all := lw_mem 171 (by decide +kernel) rfl
theorem tw_139 : Cond.soleField "BagCarousel$Hall" "lineCount" ∈ lw_all := lw_mem 172 (by decide +kernel) rfl
theorem tw_140 : Cond.laysFinal "BagCarousel$Hall" "BagCarousel$Hall" "flights" "LBagCarousel$Flights;" ∈ lw_all := lw_mem 173 (by decide +kernel) rfl
theorem tw_141 : Cond.soleField "BagCarousel$Hall" "flights" ∈ lw_all := lw_mem 174 (by decide +kernel) rfl
theorem tw_142 : Cond.laysFinal "BagCarousel$Hall" "BagCarousel$Hall" "bags" "LBagCarousel$Bags;" ∈ lw_all := lw_mem 175 (by decide +kernel) rfl
theorem tw_143 : Cond.soleField "BagCarousel$Hall" "bags" ∈ lw_all := lw_mem 176 (by decide +kernel) rfl
theorem tw_144 : Cond.laysFinal "BagCarousel$Hall" "BagCarousel$Hall" "rooms" "LBagCarousel$Row;" ∈ lw_all := lw_mem 177 (by decide +kernel) rfl
theorem tw_145 : Cond.soleField "BagCarousel$Hall" "rooms" ∈ lw_all := lw_mem 178 (by decide +kernel) rfl
theorem tw_146 : Cond.laysFinal "BagCarousel$Hall" "BagCarousel$Hall" "belt" "LBagCarousel$Row;" ∈ lw_all := lw_mem 179 (by decide +kernel) rfl
theorem tw_147 : Cond.soleField "BagCarousel$Hall" "belt" ∈ lw_all := lw_mem 180 (by decide +kernel) rfl
theorem tw_148 : Cond.laysFinal "BagCarousel$Hall" "BagCarousel$Hall" "line" "LBagCarousel$Row;" ∈ lw_all := lw_mem 181 (by decide +kernel) rfl
theorem tw_149 : Cond.soleField "BagCarousel$Hall" "line" ∈ lw_all := lw_mem 182 (by decide +kernel) rfl
theorem tw_150 : Cond.superclass "BagCarousel$Hall" "java/lang/Object" ∈ lw_all := lw_mem 183 (by decide +kernel) rfl
theorem tw_151 : Cond.fieldLink RX4 10 "BagCarousel" "hall" "LBagCarousel$Hall;" ∈ lw_all := lw_mem 184 (by decide +kernel) rfl
theorem tw_152 : Cond.fieldLink RX4 16 "BagCarousel" "trial" "LBagCarousel$Hall;" ∈ lw_all := lw_mem 185 (by decide +kernel) rfl
theorem tw_153 : Cond.laysFinal "BagCarousel" "BagCarousel" "hall" "LBagCarousel$Hall;" ∈ lw_all := lw_mem 186 (by decide +kernel) rfl
theorem tw_154 : Cond.soleField "BagCarousel" "hall" ∈ lw_all := lw_mem 187 (by decide +kernel) rfl
theorem tw_155 : Cond.laysFinal "BagCarousel" "BagCarousel" "trial" "LBagCarousel$Hall;" ∈ lw_all := lw_mem 188 (by decide +kernel) rfl
theorem tw_156 : Cond.soleField "BagCarousel" "trial" ∈ lw_all := lw_mem 189 (by decide +kernel) rfl
theorem tw_157 : Cond.superclass "BagCarousel" "java/lang/Object" ∈ lw_all := lw_mem 190 (by decide +kernel) rfl
theorem tw_158 : Cond.methodLink RL 198 yX4_minute ∈ lw_all := lw_mem 191 (by decide +kernel) rfl
theorem tw_159 : Cond.instanceMethod yX4_minute ∈ lw_all := lw_mem 192 (by decide +kernel) rfl
theorem tw_160 : Cond.selects RX4 yX4_minute yX4_minute ∈ lw_all := lw_mem 193 (by decide +kernel) rfl
theorem tw_161 : Cond.code yX4_minute cX4_minute 1 (some FieldType.int) ∈ lw_all := lw_mem 194 (by decide +kernel) rfl
theorem tw_162 : Cond.methodLink RL 202 yX4_flights ∈ lw_all := lw_mem 195 (by decide +kernel) rfl
theorem tw_163 : Cond.instanceMethod yX4_flights ∈ lw_all := lw_mem 196 (by decide +kernel) rfl
theorem tw_164 : Cond.selects RX4 yX4_flights yX4_flights ∈ lw_all := lw_mem 197 (by decide +kernel) rfl
theorem tw_165 : Cond.code yX4_flights cX4_flights 1 (some FieldType.int) ∈ lw_all := lw_mem 198 (by decide +kernel) rfl
theorem tw_166 : Cond.methodLink RL 206 yX4_bags ∈ lw_all := lw_mem 199 (by decide +kernel) rfl
theorem tw_167 : Cond.instanceMethod yX4_bags ∈ lw_all := lw_mem 200 (by decide +kernel) rfl
theorem tw_168 : Cond.selects RX4 yX4_bags yX4_bags ∈ lw_all := lw_mem 201 (by decide +kernel) rfl
theorem tw_169 : Cond.code yX4_bags cX4_bags 1 (some FieldType.int) ∈ lw_all := lw_mem 202 (by decide +kernel) rfl
theorem tw_170 : Cond.methodLink RL 210 yX4_inLine ∈ lw_all := lw_mem 203 (by decide +kernel) rfl
theorem tw_171 : Cond.instanceMethod yX4_inLine ∈ lw_all := lw_mem 204 (by decide +kernel) rfl
theorem tw_172 : Cond.selects RX4 yX4_inLine yX4_inLine ∈ lw_all := lw_mem 205 (by decide +kernel) rfl
theorem tw_173 : Cond.code yX4_inLine cX4_inLine 1 (some FieldType.int) ∈ lw_all := lw_mem 206 (by decide +kernel) rfl
theorem tw_174 : Cond.methodLink RX4 169 yX3_count ∈ lw_all := lw_mem 207 (by decide +kernel) rfl
theorem tw_175 : Cond.instanceMethod yX3_count ∈ lw_all := lw_mem 208 (by decide +kernel) rfl
theorem tw_176 : Cond.selects RX3 yX3_count yX3_count ∈ lw_all := lw_mem 209 (by decide +kernel) rfl
theorem tw_177 : Cond.code yX3_count cX3_count 7 (some FieldType.int) ∈ lw_all := lw_mem 210 (by decide +kernel) rfl
theorem tw_178 : Cond.methodLink RL 214 yX4_onBelt ∈ lw_all := lw_mem 211 (by decide +kernel) rfl
theorem tw_179 : Cond.instanceMethod yX4_onBelt ∈ lw_all := lw_mem 212 (by decide +kernel) rfl
theorem tw_180 : Cond.selects RX4 yX4_onBelt yX4_onBelt ∈ lw_all := lw_mem 213 (by decide +kernel) rfl
theorem tw_181 : Cond.code yX4_onBelt cX4_onBelt 1 (some FieldType.int) ∈ lw_all := lw_mem 214 (by decide +kernel) rfl
theorem tw_182 : Cond.methodLink RL 218 yX4_atDesk ∈ lw_all := lw_mem 215 (by decide +kernel) rfl
theorem tw_183 : Cond.instanceMethod yX4_atDesk ∈ lw_all := lw_mem 216 (by decide +kernel) rfl
theorem tw_184 : Cond.selects RX4 yX4_atDesk yX4_atDesk ∈ lw_all := lw_mem 217 (by decide +kernel) rfl
theorem tw_185 : Cond.code yX4_atDesk cX4_atDesk 1 (some FieldType.int) ∈ lw_all := lw_mem 218 (by decide +kernel) rfl
theorem tw_186 : Cond.methodLink RL 222 yX4_openFiles ∈ lw_all := lw_mem 219 (by decide +kernel) rfl
theorem tw_187 : Cond.instanceMethod yX4_openFiles ∈ lw_all := lw_mem 220 (by decide +kernel) rfl
theorem tw_188 : Cond.selects RX4 yX4_openFiles yX4_openFiles ∈ lw_all := lw_mem 221 (by decide +kernel) rfl
theorem tw_189 : Cond.code yX4_openFiles cX4_openFiles 1 (some FieldType.int) ∈ lw_all := lw_mem 222 (by decide +kernel) rfl
theorem tw_190 : Cond.methodLink RL 226 yX4_closedFiles ∈ lw_all := lw_mem 223 (by decide +kernel) rfl
theorem tw_191 : Cond.instanceMethod yX4_closedFiles ∈ lw_all := lw_mem 224 (by decide +kernel) rfl
theorem tw_192 : Cond.selects RX4 yX4_closedFiles yX4_closedFiles ∈ lw_all := lw_mem 225 (by decide +kernel) rfl
theorem tw_193 : Cond.code yX4_closedFiles cX4_closedFiles 1 (some FieldType.int) ∈ lw_all := lw_mem 226 (by decide +kernel) rfl
theorem tw_194 : Cond.methodLink RL 230 yX4_reader ∈ lw_all := lw_mem 227 (by decide +kernel) rfl
theorem tw_195 : Cond.instanceMethod yX4_reader ∈ lw_all := lw_mem 228 (by decide +kernel) rfl
theorem tw_196 : Cond.selects RX4 yX4_reader yX4_reader ∈ lw_all := lw_mem 229 (by decide +kernel) rfl
theorem tw_197 : Cond.code yX4_reader cX4_reader 1 (some FieldType.int) ∈ lw_all := lw_mem 230 (by decide +kernel) rfl
theorem tw_198 : Cond.methodLink RL 243 yX4_meanMisses ∈ lw_all := lw_mem 231 (by decide +kernel) rfl
theorem tw_199 : Cond.instanceMethod yX4_meanMisses ∈ lw_all := lw_mem 232 (by decide +kernel) rfl
theorem tw_200 : Cond.selects RX4 yX4_meanMisses yX4_meanMisses ∈ lw_all := lw_mem 233 (by decide +kernel) rfl
theorem tw_201 : Cond.code yX4_meanMisses cX4_meanMisses 2 (some FieldType.double) ∈ lw_all := lw_mem 234 (by decide +kernel) rfl
theorem tw_202 : Cond.methodLink RX4 193 yX3_sum ∈ lw_all := lw_mem 235 (by decide +kernel) rfl
theorem tw_203 : Cond.instanceMethod yX3_sum ∈ lw_all := lw_mem 236 (by decide +kernel) rfl
theorem tw_204 : Cond.selects RX3 yX3_sum yX3_sum ∈ lw_all := lw_mem 237 (by decide +kernel) rfl
theorem tw_205 : Cond.code yX3_sum cX3_sum 6 (some FieldType.int) ∈ lw_all := lw_mem 238 (by decide +kernel) rfl
theorem tw_206 : Cond.methodLink RL 248 yX4_digest ∈ lw_all := lw_mem 239 (by decide +kernel) rfl
theorem tw_207 : Cond.instanceMethod yX4_digest ∈ lw_all := lw_mem 240 (by decide +kernel) rfl
theorem tw_208 : Cond.selects RX4 yX4_digest yX4_digest ∈ lw_all := lw_mem 241 (by decide +kernel) rfl
theorem tw_209 : Cond.code yX4_digest cX4_digest 4 (some FieldType.long) ∈ lw_all := lw_mem 242 (by decide +kernel) rfl
theorem tw_210 : Cond.constantLong RX4 196 (1867 : Int64) ∈ lw_all := lw_mem 243 (by decide +kernel) rfl
theorem tw_211 : Cond.methodLink RX4 198 yX4_addHall ∈ lw_all := lw_mem 244 (by decide +kernel) rfl
theorem tw_213 : Cond.instanceMethod yX4_addHall ∈ lw_all := lw_mem 246 (by decide +kernel) rfl
theorem tw_214 : Cond.code yX4_addHall cX4_addHall 5 (some FieldType.long) ∈ lw_all := lw_mem 247 (by decide +kernel) rfl
theorem tw_215 : Cond.methodLink RX4 212 yX4_addNumber ∈ lw_all := lw_mem 248 (by decide +kernel) rfl
theorem tw_216 : Cond.static yX4_addNumber ∈ lw_all := lw_mem 249 (by decide +kernel) rfl
theorem tw_217 : Cond.code yX4_addNumber cX4_addNumber 4 (some FieldType.long) ∈ lw_all := lw_mem 250 (by decide +kernel) rfl
theorem tw_218 : Cond.constantLong RX4 216 (31 : Int64) ∈ lw_all := lw_mem 251 (by decide +kernel) rfl
theorem tw_219 : Cond.methodLink RX4 202 yX4_addBag ∈ lw_all := lw_mem 252 (by decide +kernel) rfl
theorem tw_221 : Cond.instanceMethod yX4_addBag ∈ lw_all := lw_mem 254 (by decide +kernel) rfl
theorem tw_222 : Cond.code yX4_addBag cX4_addBag 6 (some FieldType.long) ∈ lw_all := lw_mem 255 (by decide +kernel) rfl
theorem tw_223 : Cond.methodLink RX4 68 yX3_at ∈ lw_all := lw_mem 256 (by decide +kernel) rfl
theorem tw_224 : Cond.instanceMethod yX3_at ∈ lw_all := lw_mem 257 (by decide +kernel) rfl
theorem tw_225 : Cond.selects RX3 yX3_at yX3_at ∈ lw_all := lw_mem 258 (by decide +kernel) rfl
theorem tw_226 : Cond.code yX3_at cX3_at 2 (some FieldType.int) ∈ lw_all := lw_mem 259 (by decide +kernel) rfl
theorem tw_227 : Cond.methodLink RX4 145 yX2_findOnBelt ∈ lw_all := lw_mem 260 (by decide +kernel) rfl
theorem tw_228 : Cond.instanceMethod yX2_findOnBelt ∈ lw_all := lw_mem 261 (by decide +kernel) rfl
theorem tw_229 : Cond.selects RX2 yX2_findOnBelt yX2_findOnBelt ∈ lw_all := lw_mem 262 (by decide +kernel) rfl
theorem tw_230 : Cond.code yX2_findOnBelt cX2_findOnBelt 2 (some FieldType.int) ∈ lw_all := lw_mem 263 (by decide +kernel) rfl
theorem tw_231 : Cond.methodLink RX2 143 yX3_find ∈ lw_all := lw_mem 264 (by decide +kernel) rfl
theorem tw_232 : Cond.instanceMethod yX3_find ∈ lw_all := lw_mem 265 (by decide +kernel) rfl
theorem tw_233 : Cond.selects RX3 yX3_find yX3_find ∈ lw_all := lw_mem 266 (by decide +kernel) rfl
theorem tw_234 : Cond.code yX3_find cX3_find 3 (some FieldType.int) ∈ lw_all := lw_mem 267 (by decide +kernel) rfl
theorem tw_235 : Cond.methodLink RX4 155 yX2_isAstray ∈ lw_all := lw_mem 268 (by decide +kernel) rfl
theorem tw_236 : Cond.instanceMethod yX2_isAstray ∈ lw_all := lw_mem 269 (by decide +kernel) rfl
theorem tw_237 : Cond.selects RX2 yX2_isAstray yX2_isAstray ∈ lw_all := lw_mem 270 (by decide +kernel) rfl
theorem tw_238 : Cond.code yX2_isAstray cX2_isAstray 2 (some FieldType.boolean) ∈ lw_all := lw_mem 271 (by decide +kernel) rfl
theorem tw_239 : Cond.methodLink RX2 63 yX3_at ∈ lw_all := lw_mem 272 (by decide +kernel) rfl
theorem tw_240 : Cond.methodLink RX2 80 yX2_isInOwnChute ∈ lw_all := lw_mem 273 (by decide +kernel) rfl
theorem tw_241 : Cond.instanceMethod yX2_isInOwnChute ∈ lw_all := lw_mem 274 (by decide +kernel) rfl
theorem tw_242 : Cond.selects RX2 yX2_isInOwnChute yX2_isInOwnChute ∈ lw_all := lw_mem 275 (by decide +kernel) rfl
theorem tw_243 : Cond.code yX2_isInOwnChute cX2_isInOwnChute 2 (some FieldType.boolean) ∈ lw_all := lw_mem 276 (by decide +kernel) rfl
theorem tw_244 : Cond.methodLink RX2 146 yX1_hasLeft ∈ lw_all := lw_mem 277 (by decide +kernel) rfl
theorem tw_245 : Cond.instanceMethod yX1_hasLeft ∈ lw_all := lw_mem 278 (by decide +kernel) rfl
theorem tw_246 : Cond.selects RX1 yX1_hasLeft yX1_hasLeft ∈ lw_all := lw_mem 279 (by decide +kernel) rfl
theorem tw_247 : Cond.code yX1_hasLeft cX1_hasLeft 2 (some FieldType.boolean) ∈ lw_all := lw_mem 280 (by decide +kernel) rfl
theorem tw_248 : Cond.methodLink RX1 27 yX3_at ∈ lw_all := lw_mem 281 (by decide +kernel) rfl
theorem tw_249 : Cond.methodLink RX4 206 yX4_addChute ∈ lw_all := lw_mem 282 (by decide +kernel) rfl
theorem tw_251 : Cond.instanceMethod yX4_addChute ∈ lw_all := lw_mem 284 (by decide +kernel) rfl
theorem tw_252 : Cond.code yX4_addChute cX4_addChute 6 (some FieldType.long) ∈ lw_all := lw_mem 285 (by decide +kernel) rfl
theorem tw_253 : Cond.methodLink RX4 171 yX2_countMisrouted ∈ lw_all := lw_mem 286 (by decide +kernel) rfl
theorem tw_254 : Cond.instanceMethod yX2_countMisrouted ∈ lw_all := lw_mem 287 (by decide +kernel) rfl
theorem tw_255 : Cond.selects RX2 yX2_countMisrouted yX2_countMisrouted ∈ lw_all := lw_mem 288 (by decide +kernel) rfl
theorem tw_256 : Cond.code yX2_countMisrouted cX2_countMisrouted 4 (some FieldType.int) ∈ lw_all := lw_mem 289 (by decide +kernel) rfl
theorem tw_257 : Cond.methodLink RX2 88 yX2_isAstray ∈ lw_all := lw_mem 290 (by decide +kernel) rfl
theorem tw_258 : Cond.methodLink RX4 209 yX4_addOfFlight ∈ lw_all := lw_mem 291 (by decide +kernel) rfl
theorem tw_260 : Cond.instanceMethod yX4_addOfFlight ∈ lw_all := lw_mem 293 (by decide +kernel) rfl
theorem tw_261 : Cond.code yX4_addOfFlight cX4_addOfFlight 6 (some FieldType.long) ∈ lw_all := lw_mem 294 (by decide +kernel) rfl
theorem tw_262 : Cond.methodLink RX4 119 yX1_hasLeft ∈ lw_all := lw_mem 295 (by decide +kernel) rfl
theorem tw_263 : Cond.methodLink RX4 174 yX2_countReady ∈ lw_all := lw_mem 296 (by decide +kernel) rfl
theorem tw_264 : Cond.instanceMethod yX2_countReady ∈ lw_all := lw_mem 297 (by decide +kernel) rfl
theorem tw_265 : Cond.selects RX2 yX2_countReady yX2_countReady ∈ lw_all := lw_mem 298 (by decide +kernel) rfl
theorem tw_266 : Cond.code yX2_countReady cX2_countReady 4 (some FieldType.int) ∈ lw_all := lw_mem 299 (by decide +kernel) rfl
theorem tw_267 : Cond.methodLink RX2 149 yX2_isReady ∈ lw_all := lw_mem 300 (by decide +kernel) rfl
theorem tw_268 : Cond.instanceMethod yX2_isReady ∈ lw_all := lw_mem 301 (by decide +kernel) rfl
theorem tw_269 : Cond.selects RX2 yX2_isReady yX2_isReady ∈ lw_all := lw_mem 302 (by decide +kernel) rfl
theorem tw_270 : Cond.code yX2_isReady cX2_isReady 2 (some FieldType.boolean) ∈ lw_all := lw_mem 303 (by decide +kernel) rfl
theorem tw_271 : Cond.methodLink RX4 177 yX2_countMissing ∈ lw_all := lw_mem 304 (by decide +kernel) rfl
theorem tw_272 : Cond.instanceMethod yX2_countMissing ∈ lw_all := lw_mem 305 (by decide +kernel) rfl
theorem tw_273 : Cond.selects RX2 yX2_countMissing yX2_countMissing ∈ lw_all := lw_mem 306 (by decide +kernel) rfl
theorem tw_274 : Cond.code yX2_countMissing cX2_countMissing 2 (some FieldType.int) ∈ lw_all := lw_mem 307 (by decide +kernel) rfl
theorem tw_275 : Cond.methodLink RX2 141 yX3_count ∈ lw_all := lw_mem 308 (by decide +kernel) rfl
theorem tw_276 : Cond.methodLink RX2 152 yX2_countReady ∈ lw_all := lw_mem 309 (by decide +kernel) rfl
theorem tw_277 : Cond.methodLink RL 111 yL_addFlight ∈ lw_all := lw_mem 310 (by decide +kernel) rfl
theorem tw_278 : Cond.static yL_addFlight ∈ lw_all := lw_mem 311 (by decide +kernel) rfl
theorem tw_279 : Cond.codeWith yL_addFlight cL_addFlight 3 (some FieldType.int) [(0, 8, 11, 13)] ∈ lw_all := lw_mem 312 (by decide +kernel) rfl
theorem tw_280 : Cond.classLink RL 13 "java/lang/IllegalStateException" ∈ lw_all := lw_mem 313 (by decide +kernel) rfl
theorem tw_281 : Cond.methodLink RL 7 yX4_addFlight ∈ lw_all := lw_mem 314 (by decide +kernel) rfl
theorem tw_282 : Cond.instanceMethod yX4_addFlight ∈ lw_all := lw_mem 315 (by decide +kernel) rfl
theorem tw_283 : Cond.selects RX4 yX4_addFlight yX4_addFlight ∈ lw_all := lw_mem 316 (by decide +kernel) rfl
theorem tw_284 : Cond.code yX4_addFlight cX4_addFlight 1 (some FieldType.int) ∈ lw_all := lw_mem 317 (by decide +kernel) rfl
theorem tw_285 : Cond.classLink RX4 29 "java/lang/IllegalStateException" ∈ lw_all := lw_mem 318 (by decide +kernel) rfl
theorem tw_286 : Cond.instantiable "java/lang/IllegalStateException" 6 ∈ lw_all := lw_mem 319 (by decide +kernel) rfl
theorem tw_294 : Cond.selects "java/lang/IllegalStateException" ⟨"java/lang/Throwable", "fillInStackTrace", "(I)Ljava/lang/Throwable;"⟩ ⟨"java/lang/Throwable", "fillInStackTrace", "(I)Ljava/lang/Throwable;"⟩ ∈ lw_all := lw_mem 327 (by decide +kernel) rfl
theorem tw_295 : Cond.selects "java/lang/IllegalStateException" ⟨"java/lang/Throwable", "fillInStackTrace", "()Ljava/lang/Throwable;"⟩ ⟨"java/lang/Throwable", "fillInStackTrace", "()Ljava/lang/Throwable;"⟩ ∈ lw_all := lw_mem 328 (by decide +kernel) rfl
theorem tw_296 : Cond.lays "java/lang/IllegalStateException" "java/lang/Throwable" "cause" "Ljava/lang/Throwable;" ∈ lw_all := lw_mem 329 (by decide +kernel) rfl
theorem tw_297 : Cond.lays "java/lang/Throwable" "java/lang/Throwable" "cause" "Ljava/lang/Throwable;" ∈ lw_all := lw_mem 330 (by decide +kernel) rfl
theorem tw_298 : Cond.lays "java/lang/IllegalStateException" "java/lang/Throwable" "stackTrace" "[Ljava/lang/StackTraceElement;" ∈ lw_all := lw_mem 331 (by decide +kernel) rfl
theorem tw_299 : Cond.lays "java/lang/Throwable" "java/lang/Throwable" "stackTrace" "[Ljava/lang/StackTraceElement;" ∈ lw_all := lw_mem 332 (by decide +kernel) rfl
theorem tw_300 : Cond.lays "java/lang/IllegalStateException" "java/lang/Throwable" "suppressedExceptions" "Ljava/util/List;" ∈ lw_all := lw_mem 333 (by decide +kernel) rfl
theorem tw_301 : Cond.lays "java/lang/Throwable" "java/lang/Throwable" "suppressedExceptions" "Ljava/util/List;" ∈ lw_all := lw_mem 334 (by decide +kernel) rfl
theorem tw_302 : Cond.lays "java/lang/IllegalStateException" "java/lang/Throwable" "detailMessage" "Ljava/lang/String;" ∈ lw_all := lw_mem 335 (by decide +kernel) rfl
theorem tw_303 : Cond.lays "java/lang/Throwable" "java/lang/Throwable" "detailMessage" "Ljava/lang/String;" ∈ lw_all := lw_mem 336 (by decide +kernel) rfl
theorem tw_304 : Cond.lays "java/lang/IllegalStateException" "java/lang/Throwable" "backtrace" "Ljava/lang/Object;" ∈ lw_all := lw_mem 337 (by decide +kernel) rfl
theorem tw_305 : Cond.lays "java/lang/Throwable" "java/lang/Throwable" "backtrace" "Ljava/lang/Object;" ∈ lw_all := lw_mem 338 (by decide +kernel) rfl
theorem tw_306 : Cond.fieldLink "java/lang/Throwable" 198 "java/lang/Throwable" "backtrace" "Ljava/lang/Object;" ∈ lw_all := lw_mem 339 (by decide +kernel) rfl
theorem tw_307 : Cond.superclass "java/lang/Throwable" "java/lang/Object" ∈ lw_all := lw_mem 340 (by decide +kernel) rfl
theorem tw_308 : Cond.instanceMethod ⟨"java/lang/Throwable", "<init>", "()V"⟩ ∈ lw_all := lw_mem 341 (by decide +kernel) rfl
theorem tw_309 : Cond.code ⟨"java/lang/Throwable", "<init>", "()V"⟩ prog_17_method_1_code 1 none ∈ lw_all := lw_mem 342 (by decide +kernel) rfl
theorem tw_310 : Cond.methodLink "java/lang/Throwable" 1 objectInit ∈ lw_all := lw_mem 343 (by decide +kernel) rfl
theorem tw_311 : Cond.fieldLink "java/lang/Throwable" 13 "java/lang/Throwable" "UNASSIGNED_STACK" "[Ljava/lang/StackTraceElement;" ∈ lw_all := lw_mem 344 (by decide +kernel) rfl
theorem tw_313 : Cond.fieldLink "java/lang/Throwable" 20 "java/lang/Throwable" "SUPPRESSED_SENTINEL" "Ljava/util/List;" ∈ lw_all := lw_mem 346 (by decide +kernel) rfl
theorem tw_315 : Cond.methodLink "java/lang/Throwable" 27 ⟨"java/lang/Throwable", "fillInStackTrace", "()Ljava/lang/Throwable;"⟩ ∈ lw_all := lw_mem 348 (by decide +kernel) rfl
theorem tw_316 : Cond.instanceMethod ⟨"java/lang/Throwable", "fillInStackTrace", "()Ljava/lang/Throwable;"⟩ ∈ lw_all := lw_mem 349 (by decide +kernel) rfl
theorem tw_318 : Cond.selects "java/lang/IllegalArgumentException" ⟨"java/lang/Throwable", "fillInStackTrace", "()Ljava/lang/Throwable;"⟩ ⟨"java/lang/Throwable", "fillInStackTrace", "()Ljava/lang/Throwable;"⟩ ∈ lw_all := lw_mem 351 (by decide +kernel) rfl
theorem tw_319 : Cond.selects "java/lang/IndexOutOfBoundsException" ⟨"java/lang/Throwable", "fillInStackTrace", "()Ljava/lang/Throwable;"⟩ ⟨"java/lang/Throwable", "fillInStackTrace", "()Ljava/lang/Throwable;"⟩ ∈ lw_all := lw_mem 352 (by decide +kernel) rfl
theorem tw_321 : Cond.methodLink "java/lang/Throwable" 202 ⟨"java/lang/Throwable", "fillInStackTrace", "(I)Ljava/lang/Throwable;"⟩ ∈ lw_all := lw_mem 354 (by decide +kernel) rfl
theorem tw_323 : Cond.instanceMethod ⟨"java/lang/Throwable", "fillInStackTrace", "(I)Ljava/lang/Throwable;"⟩ ∈ lw_all := lw_mem 356 (by decide +kernel) rfl
theorem tw_324 : Cond.instantiable "java/lang/Throwable" 6 ∈ lw_all := lw_mem 357 (by decide +kernel) rfl
theorem tw_325 : Cond.native ⟨"java/lang/Throwable", "fillInStackTrace", "(I)Ljava/lang/Throwable;"⟩ ∈ lw_all := lw_mem 358 (by decide +kernel) rfl
theorem tw_327 : Cond.methodLink RX4 33 ⟨"java/lang/IllegalStateException", "<init>", "(Ljava/lang/String;)V"⟩ ∈ lw_all := lw_mem 360 (by decide +kernel) rfl
theorem tw_328 : Cond.instanceMethod ⟨"java/lang/IllegalStateException", "<init>", "(Ljava/lang/String;)V"⟩ ∈ lw_all := lw_mem 361 (by decide +kernel) rfl
theorem tw_329 : Cond.code ⟨"java/lang/IllegalStateException", "<init>", "(Ljava/lang/String;)V"⟩ prog_11_method_2_code 2 none ∈ lw_all := lw_mem 362 (by decide +kernel) rfl
theorem tw_330 : Cond.methodLink "java/lang/IllegalStateException" 7 ⟨"java/lang/RuntimeException", "<init>", "(Ljava/lang/String;)V"⟩ ∈ lw_all := lw_mem 363 (by decide +kernel) rfl
theorem tw_331 : Cond.instanceMethod ⟨"java/lang/RuntimeException", "<init>", "(Ljava/lang/String;)V"⟩ ∈ lw_all := lw_mem 364 (by decide +kernel) rfl
theorem tw_332 : Cond.code ⟨"java/lang/RuntimeException", "<init>", "(Ljava/lang/String;)V"⟩ prog_14_method_2_code 2 none ∈ lw_all := lw_mem 365 (by decide +kernel) rfl
theorem tw_333 : Cond.methodLink "java/lang/RuntimeException" 7 ⟨"java/lang/Exception", "<init>", "(Ljava/lang/String;)V"⟩ ∈ lw_all := lw_mem 366 (by decide +kernel) rfl
theorem tw_334 : Cond.instanceMethod ⟨"java/lang/Exception", "<init>", "(Ljava/lang/String;)V"⟩ ∈ lw_all := lw_mem 367 (by decide +kernel) rfl
theorem tw_335 : Cond.code ⟨"java/lang/Exception", "<init>", "(Ljava/lang/String;)V"⟩ prog_9_method_2_code 2 none ∈ lw_all := lw_mem 368 (by decide +kernel) rfl
theorem tw_336 : Cond.methodLink "java/lang/Exception" 7 ⟨"java/lang/Throwable", "<init>", "(Ljava/lang/String;)V"⟩ ∈ lw_all := lw_mem 369 (by decide +kernel) rfl
theorem tw_337 : Cond.instanceMethod ⟨"java/lang/Throwable", "<init>", "(Ljava/lang/String;)V"⟩ ∈ lw_all := lw_mem 370 (by decide +kernel) rfl
theorem tw_338 : Cond.code ⟨"java/lang/Throwable", "<init>", "(Ljava/lang/String;)V"⟩ prog_17_method_2_code 2 none ∈ lw_all := lw_mem 371 (by decide +kernel) rfl
theorem tw_339 : Cond.fieldLink "java/lang/Throwable" 198 "java/lang/Throwable" "backtrace" "Ljava/lang/Object;" ∈ lw_all := lw_mem 372 (by decide +kernel) rfl
theorem tw_340 : Cond.fieldLink "java/lang/Throwable" 31 "java/lang/Throwable" "detailMessage" "Ljava/lang/String;" ∈ lw_all := lw_mem 373 (by decide +kernel) rfl
theorem tw_341 : Cond.fieldLink "java/lang/Throwable" 7 "java/lang/Throwable" "cause" "Ljava/lang/Throwable;" ∈ lw_all := lw_mem 374 (by decide +kernel) rfl
theorem tw_342 : Cond.fieldLink "java/lang/Throwable" 17 "java/lang/Throwable" "stackTrace" "[Ljava/lang/StackTraceElement;" ∈ lw_all := lw_mem 375 (by decide +kernel) rfl
theorem tw_343 : Cond.fieldLink "java/lang/Throwable" 24 "java/lang/Throwable" "suppressedExceptions" "Ljava/util/List;" ∈ lw_all := lw_mem 376 (by decide +kernel) rfl
theorem tw_344 : Cond.soleField "java/lang/Throwable" "backtrace" ∈ lw_all := lw_mem 377 (by decide +kernel) rfl
theorem tw_345 : Cond.soleField "java/lang/Throwable" "detailMessage" ∈ lw_all := lw_mem 378 (by decide +kernel) rfl
theorem tw_346 : Cond.soleField "java/lang/Throwable" "cause" ∈ lw_all := lw_mem 379 (by decide +kernel) rfl
theorem tw_347 : Cond.soleField "java/lang/Throwable" "stackTrace" ∈ lw_all := lw_mem 380 (by decide +kernel) rfl
theorem tw_348 : Cond.lays "java/lang/IllegalStateException" "java/lang/Throwable" "depth" "I" ∈ lw_all := lw_mem 381 (by decide +kernel) rfl
theorem tw_349 : Cond.soleField "java/lang/Throwable" "depth" ∈ lw_all := lw_mem 382 (by decide +kernel) rfl
theorem tw_350 : Cond.soleField "java/lang/Throwable" "suppressedExceptions" ∈ lw_all := lw_mem 383 (by decide +kernel) rfl
theorem tw_351 : Cond.superclass "java/lang/IllegalStateException" "java/lang/RuntimeException" ∈ lw_all := lw_mem 384 (by decide +kernel) rfl
theorem tw_352 : Cond.arrayClass FieldType.byte ∈ lw_all := lw_mem 385 (by decide +kernel) rfl
theorem tw_353 : Cond.methodLink RX4 36 yX1_addOne ∈ lw_all := lw_mem 386 (by decide +kernel) rfl
theorem tw_354 : Cond.instanceMethod yX1_addOne ∈ lw_all := lw_mem 387 (by decide +kernel) rfl
theorem tw_355 : Cond.selects RX1 yX1_addOne yX1_addOne ∈ lw_all := lw_mem 388 (by decide +kernel) rfl
theorem tw_356 : Cond.code yX1_addOne cX1_addOne 2 (some FieldType.int) ∈ lw_all := lw_mem 389 (by decide +kernel) rfl
theorem tw_357 : Cond.methodLink RL 120 yL_giveChute ∈ lw_all := lw_mem 390 (by decide +kernel) rfl
theorem tw_358 : Cond.static yL_giveChute ∈ lw_all := lw_mem 391 (by decide +kernel) rfl
theorem tw_359 : Cond.codeWith yL_giveChute cL_giveChute 5 (some FieldType.int) [(0, 10, 13, 19), (0, 10, 17, 13)] ∈ lw_all := lw_mem 392 (by decide +kernel) rfl
theorem tw_360 : Cond.classLink RL 19 "java/lang/IndexOutOfBoundsException" ∈ lw_all := lw_mem 393 (by decide +kernel) rfl
theorem tw_361 : Cond.methodLink RL 15 yX4_giveChute ∈ lw_all := lw_mem 394 (by decide +kernel) rfl
theorem tw_362 : Cond.instanceMethod yX4_giveChute ∈ lw_all := lw_mem 395 (by decide +kernel) rfl
theorem tw_363 : Cond.selects RX4 yX4_giveChute yX4_giveChute ∈ lw_all := lw_mem 396 (by decide +kernel) rfl
theorem tw_364 : Cond.code yX4_giveChute cX4_giveChute 3 (some FieldType.int) ∈ lw_all := lw_mem 397 (by decide +kernel) rfl
theorem tw_365 : Cond.methodLink RX4 40 yX4_needFlight ∈ lw_all := lw_mem 398 (by decide +kernel) rfl
theorem tw_367 : Cond.instanceMethod yX4_needFlight ∈ lw_all := lw_mem 400 (by decide +kernel) rfl
theorem tw_368 : Cond.code yX4_needFlight cX4_needFlight 2 none ∈ lw_all := lw_mem 401 (by decide +kernel) rfl
theorem tw_369 : Cond.classLink RX4 161 "java/lang/IndexOutOfBoundsException" ∈ lw_all := lw_mem 402 (by decide +kernel) rfl
theorem tw_370 : Cond.instantiable "java/lang/IndexOutOfBoundsException" 6 ∈ lw_all := lw_mem 403 (by decide +kernel) rfl
theorem tw_372 : Cond.selects "java/lang/IndexOutOfBoundsException" ⟨"java/lang/Throwable", "fillInStackTrace", "(I)Ljava/lang/Throwable;"⟩ ⟨"java/lang/Throwable", "fillInStackTrace", "(I)Ljava/lang/Throwable;"⟩ ∈ lw_all := lw_mem 405 (by decide +kernel) rfl
theorem tw_373 : Cond.lays "java/lang/IndexOutOfBoundsException" "java/lang/Throwable" "cause" "Ljava/lang/Throwable;" ∈ lw_all := lw_mem 406 (by decide +kernel) rfl
theorem tw_374 : Cond.lays "java/lang/IndexOutOfBoundsException" "java/lang/Throwable" "stackTrace" "[Ljava/lang/StackTraceElement;" ∈ lw_all := lw_mem 407 (by decide +kernel) rfl
theorem tw_375 : Cond.lays "java/lang/IndexOutOfBoundsException" "java/lang/Throwable" "suppressedExceptions" "Ljava/util/List;" ∈ lw_all := lw_mem 408 (by decide +kernel) rfl
theorem tw_376 : Cond.lays "java/lang/IndexOutOfBoundsException" "java/lang/Throwable" "detailMessage" "Ljava/lang/String;" ∈ lw_all := lw_mem 409 (by decide +kernel) rfl
theorem tw_377 : Cond.lays "java/lang/IndexOutOfBoundsException" "java/lang/Throwable" "backtrace" "Ljava/lang/Object;" ∈ lw_all := lw_mem 410 (by decide +kernel) rfl
theorem tw_379 : Cond.methodLink RX4 165 ⟨"java/lang/IndexOutOfBoundsException", "<init>", "(Ljava/lang/String;)V"⟩ ∈ lw_all := lw_mem 412 (by decide +kernel) rfl
theorem tw_380 : Cond.instanceMethod ⟨"java/lang/IndexOutOfBoundsException", "<init>", "(Ljava/lang/String;)V"⟩ ∈ lw_all := lw_mem 413 (by decide +kernel) rfl
theorem tw_381 : Cond.code ⟨"java/lang/IndexOutOfBoundsException", "<init>", "(Ljava/lang/String;)V"⟩ prog_12_method_2_code 2 none ∈ lw_all := lw_mem 414 (by decide +kernel) rfl
theorem tw_382 : Cond.methodLink "java/lang/IndexOutOfBoundsException" 7 ⟨"java/lang/RuntimeException", "<init>", "(Ljava/lang/String;)V"⟩ ∈ lw_all := lw_mem 415 (by decide +kernel) rfl
theorem tw_383 : Cond.lays "java/lang/IndexOutOfBoundsException" "java/lang/Throwable" "depth" "I" ∈ lw_all := lw_mem 416 (by decide +kernel) rfl
theorem tw_384 : Cond.superclass "java/lang/IndexOutOfBoundsException" "java/lang/RuntimeException" ∈ lw_all := lw_mem 417 (by decide +kernel) rfl
theorem tw_385 : Cond.methodLink RX4 44 yX4_needChute ∈ lw_all := lw_mem 418 (by decide +kernel) rfl
theorem tw_386 : Cond.static yX4_needChute ∈ lw_all := lw_mem 419 (by decide +kernel) rfl
theorem tw_387 : Cond.code yX4_needChute cX4_needChute 1 none ∈ lw_all := lw_mem 420 (by decide +kernel) rfl
theorem tw_388 : Cond.methodLink RX4 107 yX4_isChute ∈ lw_all := lw_mem 421 (by decide +kernel) rfl
theorem tw_389 : Cond.static yX4_isChute ∈ lw_all := lw_mem 422 (by decide +kernel) rfl
theorem tw_390 : Cond.code yX4_isChute cX4_isChute 1 (some FieldType.boolean) ∈ lw_all := lw_mem 423 (by decide +kernel) rfl
theorem tw_392 : Cond.methodLink RX4 47 yX4_needNotGone ∈ lw_all := lw_mem 425 (by decide +kernel) rfl
theorem tw_394 : Cond.instanceMethod yX4_needNotGone ∈ lw_all := lw_mem 427 (by decide +kernel) rfl
theorem tw_395 : Cond.code yX4_needNotGone cX4_needNotGone 2 none ∈ lw_all := lw_mem 428 (by decide +kernel) rfl
theorem tw_397 : Cond.methodLink RX4 50 yX2_changeChute ∈ lw_all := lw_mem 430 (by decide +kernel) rfl
theorem tw_398 : Cond.instanceMethod yX2_changeChute ∈ lw_all := lw_mem 431 (by decide +kernel) rfl
theorem tw_399 : Cond.selects RX2 yX2_changeChute yX2_changeChute ∈ lw_all := lw_mem 432 (by decide +kernel) rfl
theorem tw_400 : Cond.code yX2_changeChute cX2_changeChute 5 (some FieldType.int) ∈ lw_all := lw_mem 433 (by decide +kernel) rfl
theorem tw_401 : Cond.methodLink RX2 70 yX3_put ∈ lw_all := lw_mem 434 (by decide +kernel) rfl
theorem tw_402 : Cond.instanceMethod yX3_put ∈ lw_all := lw_mem 435 (by decide +kernel) rfl
theorem tw_403 : Cond.selects RX3 yX3_put yX3_put ∈ lw_all := lw_mem 436 (by decide +kernel) rfl
theorem tw_404 : Cond.code yX3_put cX3_put 3 none ∈ lw_all := lw_mem 437 (by decide +kernel) rfl
theorem tw_405 : Cond.methodLink RL 124 yL_setReader ∈ lw_all := lw_mem 438 (by decide +kernel) rfl
theorem tw_406 : Cond.static yL_setReader ∈ lw_all := lw_mem 439 (by decide +kernel) rfl
theorem tw_407 : Cond.codeWith yL_setReader cL_setReader 4 (some FieldType.int) [(0, 9, 12, 25)] ∈ lw_all := lw_mem 440 (by decide +kernel) rfl
theorem tw_408 : Cond.classLink RL 25 "java/lang/IllegalArgumentException" ∈ lw_all := lw_mem 441 (by decide +kernel) rfl
theorem tw_409 : Cond.methodLink RL 21 yX4_setReader ∈ lw_all := lw_mem 442 (by decide +kernel) rfl
theorem tw_410 : Cond.instanceMethod yX4_setReader ∈ lw_all := lw_mem 443 (by decide +kernel) rfl
theorem tw_411 : Cond.selects RX4 yX4_setReader yX4_setReader ∈ lw_all := lw_mem 444 (by decide +kernel) rfl
theorem tw_412 : Cond.code yX4_setReader cX4_setReader 3 (some FieldType.int) ∈ lw_all := lw_mem 445 (by decide +kernel) rfl
theorem tw_413 : Cond.classLink RX4 54 "java/lang/IllegalArgumentException" ∈ lw_all := lw_mem 446 (by decide +kernel) rfl
theorem tw_414 : Cond.instantiable "java/lang/IllegalArgumentException" 6 ∈ lw_all := lw_mem 447 (by decide +kernel) rfl
theorem tw_416 : Cond.selects "java/lang/IllegalArgumentException" ⟨"java/lang/Throwable", "fillInStackTrace", "(I)Ljava/lang/Throwable;"⟩ ⟨"java/lang/Throwable", "fillInStackTrace", "(I)Ljava/lang/Throwable;"⟩ ∈ lw_all := lw_mem 449 (by decide +kernel) rfl
theorem tw_417 : Cond.lays "java/lang/IllegalArgumentException" "java/lang/Throwable" "cause" "Ljava/lang/Throwable;" ∈ lw_all := lw_mem 450 (by decide +kernel) rfl
theorem tw_418 : Cond.lays "java/lang/IllegalArgumentException" "java/lang/Throwable" "stackTrace" "[Ljava/lang/StackTraceElement;" ∈ lw_all := lw_mem 451 (by decide +kernel) rfl
theorem tw_419 : Cond.lays "java/lang/IllegalArgumentException" "java/lang/Throwable" "suppressedExceptions" "Ljava/util/List;" ∈ lw_all := lw_mem 452 (by decide +kernel) rfl
theorem tw_420 : Cond.lays "java/lang/IllegalArgumentException" "java/lang/Throwable" "detailMessage" "Ljava/lang/String;" ∈ lw_all := lw_mem 453 (by decide +kernel) rfl
theorem tw_421 : Cond.lays "java/lang/IllegalArgumentException" "java/lang/Throwable" "backtrace" "Ljava/lang/Object;" ∈ lw_all := lw_mem 454 (by decide +kernel) rfl
theorem tw_423 : Cond.methodLink RX4 58 ⟨"java/lang/IllegalArgumentException", "<init>", "(Ljava/lang/String;)V"⟩ ∈ lw_all := lw_mem 456 (by decide +kernel) rfl
theorem tw_424 : Cond.instanceMethod ⟨"java/lang/IllegalArgumentException", "<init>", "(Ljava/lang/String;)V"⟩ ∈ lw_all := lw_mem 457 (by decide +kernel) rfl
theorem tw_425 : Cond.code ⟨"java/lang/IllegalArgumentException", "<init>", "(Ljava/lang/String;)V"⟩ prog_10_method_2_code 2 none ∈ lw_all := lw_mem 458 (by decide +kernel) rfl
theorem tw_426 : Cond.methodLink "java/lang/IllegalArgumentException" 7 ⟨"java/lang/RuntimeException", "<init>", "(Ljava/lang/String;)V"⟩ ∈ lw_all := lw_mem 459 (by decide +kernel) rfl
theorem tw_427 : Cond.lays "java/lang/IllegalArgumentException" "java/lang/Throwable" "depth" "I" ∈ lw_all := lw_mem 460 (by decide +kernel) rfl
theorem tw_428 : Cond.superclass "java/lang/IllegalArgumentException" "java/lang/RuntimeException" ∈ lw_all := lw_mem 461 (by decide +kernel) rfl
theorem tw_429 : Cond.methodLink RL 128 yL_setRoom ∈ lw_all := lw_mem 462 (by decide +kernel) rfl
theorem tw_430 : Cond.static yL_setRoom ∈ lw_all := lw_mem 463 (by decide +kernel) rfl
theorem tw_431 : Cond.codeWith yL_setRoom cL_setRoom 5 (some FieldType.int) [(0, 10, 13, 19), (0, 10, 17, 25)] ∈ lw_all := lw_mem 464 (by decide +kernel) rfl
theorem tw_432 : Cond.methodLink RL 27 yX4_setRoom ∈ lw_all := lw_mem 465 (by decide +kernel) rfl
theorem tw_433 : Cond.instanceMethod yX4_setRoom ∈ lw_all := lw_mem 466 (by decide +kernel) rfl
theorem tw_434 : Cond.selects RX4 yX4_setRoom yX4_setRoom ∈ lw_all := lw_mem 467 (by decide +kernel) rfl
theorem tw_435 : Cond.code yX4_setRoom cX4_setRoom 4 (some FieldType.int) ∈ lw_all := lw_mem 468 (by decide +kernel) rfl
theorem tw_437 : Cond.methodLink RX4 74 yX3_put ∈ lw_all := lw_mem 470 (by decide +kernel) rfl
theorem tw_438 : Cond.methodLink RL 131 yL_checkIn ∈ lw_all := lw_mem 471 (by decide +kernel) rfl
theorem tw_439 : Cond.static yL_checkIn ∈ lw_all := lw_mem 472 (by decide +kernel) rfl
theorem tw_440 : Cond.codeWith yL_checkIn cL_checkIn 6 (some FieldType.int) [(0, 12, 15, 19), (0, 12, 19, 25), (0, 12, 23, 13)] ∈ lw_all := lw_mem 473 (by decide +kernel) rfl
theorem tw_441 : Cond.methodLink RL 30 yX4_checkIn ∈ lw_all := lw_mem 474 (by decide +kernel) rfl
theorem tw_442 : Cond.instanceMethod yX4_checkIn ∈ lw_all := lw_mem 475 (by decide +kernel) rfl
theorem tw_443 : Cond.selects RX4 yX4_checkIn yX4_checkIn ∈ lw_all := lw_mem 476 (by decide +kernel) rfl
theorem tw_444 : Cond.code yX4_checkIn cX4_checkIn 5 (some FieldType.int) ∈ lw_all := lw_mem 477 (by decide +kernel) rfl
theorem tw_447 : Cond.methodLink RX4 89 yX0_addOne ∈ lw_all := lw_mem 480 (by decide +kernel) rfl
theorem tw_448 : Cond.instanceMethod yX0_addOne ∈ lw_all := lw_mem 481 (by decide +kernel) rfl
theorem tw_449 : Cond.selects RX0 yX0_addOne yX0_addOne ∈ lw_all := lw_mem 482 (by decide +kernel) rfl
theorem tw_450 : Cond.code yX0_addOne cX0_addOne 5 (some FieldType.int) ∈ lw_all := lw_mem 483 (by decide +kernel) rfl
theorem tw_451 : Cond.methodLink RX0 45 yX3_put ∈ lw_all := lw_mem 484 (by decide +kernel) rfl
theorem tw_452 : Cond.methodLink RX4 92 yX2_takeIn ∈ lw_all := lw_mem 485 (by decide +kernel) rfl
theorem tw_453 : Cond.instanceMethod yX2_takeIn ∈ lw_all := lw_mem 486 (by decide +kernel) rfl
theorem tw_454 : Cond.selects RX2 yX2_takeIn yX2_takeIn ∈ lw_all := lw_mem 487 (by decide +kernel) rfl
theorem tw_455 : Cond.code yX2_takeIn cX2_takeIn 2 none ∈ lw_all := lw_mem 488 (by decide +kernel) rfl
theorem tw_456 : Cond.methodLink RL 135 yL_carry ∈ lw_all := lw_mem 489 (by decide +kernel) rfl
theorem tw_457 : Cond.static yL_carry ∈ lw_all := lw_mem 490 (by decide +kernel) rfl
theorem tw_458 : Cond.codeWith yL_carry cL_carry 4 (some FieldType.int) [(0, 9, 12, 19), (0, 9, 15, 13)] ∈ lw_all := lw_mem 491 (by decide +kernel) rfl
theorem tw_459 : Cond.methodLink RL 34 yX4_carry ∈ lw_all := lw_mem 492 (by decide +kernel) rfl
theorem tw_460 : Cond.instanceMethod yX4_carry ∈ lw_all := lw_mem 493 (by decide +kernel) rfl
theorem tw_461 : Cond.selects RX4 yX4_carry yX4_carry ∈ lw_all := lw_mem 494 (by decide +kernel) rfl
theorem tw_462 : Cond.code yX4_carry cX4_carry 4 (some FieldType.int) ∈ lw_all := lw_mem 495 (by decide +kernel) rfl
theorem tw_463 : Cond.methodLink RX4 95 yX4_needBag ∈ lw_all := lw_mem 496 (by decide +kernel) rfl
theorem tw_465 : Cond.instanceMethod yX4_needBag ∈ lw_all := lw_mem 498 (by decide +kernel) rfl
theorem tw_466 : Cond.code yX4_needBag cX4_needBag 2 none ∈ lw_all := lw_mem 499 (by decide +kernel) rfl
theorem tw_468 : Cond.methodLink RX4 98 yX4_needInHand ∈ lw_all := lw_mem 501 (by decide +kernel) rfl
theorem tw_470 : Cond.instanceMethod yX4_needInHand ∈ lw_all := lw_mem 503 (by decide +kernel) rfl
theorem tw_471 : Cond.code yX4_needInHand cX4_needInHand 3 none ∈ lw_all := lw_mem 504 (by decide +kernel) rfl
theorem tw_473 : Cond.methodLink RX4 111 yX2_hasRoom ∈ lw_all := lw_mem 506 (by decide +kernel) rfl
theorem tw_474 : Cond.instanceMethod yX2_hasRoom ∈ lw_all := lw_mem 507 (by decide +kernel) rfl
theorem tw_475 : Cond.selects RX2 yX2_hasRoom yX2_hasRoom ∈ lw_all := lw_mem 508 (by decide +kernel) rfl
theorem tw_476 : Cond.code yX2_hasRoom cX2_hasRoom 2 (some FieldType.boolean) ∈ lw_all := lw_mem 509 (by decide +kernel) rfl
theorem tw_478 : Cond.methodLink RX4 116 yX0_putIntoChute ∈ lw_all := lw_mem 511 (by decide +kernel) rfl
theorem tw_479 : Cond.instanceMethod yX0_putIntoChute ∈ lw_all := lw_mem 512 (by decide +kernel) rfl
theorem tw_480 : Cond.selects RX0 yX0_putIntoChute yX0_putIntoChute ∈ lw_all := lw_mem 513 (by decide +kernel) rfl
theorem tw_481 : Cond.code yX0_putIntoChute cX0_putIntoChute 3 none ∈ lw_all := lw_mem 514 (by decide +kernel) rfl
theorem tw_482 : Cond.methodLink RL 138 yL_forward ∈ lw_all := lw_mem 515 (by decide +kernel) rfl
theorem tw_483 : Cond.static yL_forward ∈ lw_all := lw_mem 516 (by decide +kernel) rfl
theorem tw_484 : Cond.codeWith yL_forward cL_forward 5 (some FieldType.int) [(0, 10, 13, 19), (0, 10, 17, 13)] ∈ lw_all := lw_mem 517 (by decide +kernel) rfl
theorem tw_485 : Cond.methodLink RL 37 yX4_forward ∈ lw_all := lw_mem 518 (by decide +kernel) rfl
theorem tw_486 : Cond.instanceMethod yX4_forward ∈ lw_all := lw_mem 519 (by decide +kernel) rfl
theorem tw_487 : Cond.selects RX4 yX4_forward yX4_forward ∈ lw_all := lw_mem 520 (by decide +kernel) rfl
theorem tw_488 : Cond.code yX4_forward cX4_forward 3 (some FieldType.int) ∈ lw_all := lw_mem 521 (by decide +kernel) rfl
theorem tw_490 : Cond.methodLink RX4 124 yX0_renew ∈ lw_all := lw_mem 523 (by decide +kernel) rfl
theorem tw_491 : Cond.instanceMethod yX0_renew ∈ lw_all := lw_mem 524 (by decide +kernel) rfl
theorem tw_492 : Cond.selects RX0 yX0_renew yX0_renew ∈ lw_all := lw_mem 525 (by decide +kernel) rfl
theorem tw_493 : Cond.code yX0_renew cX0_renew 3 none ∈ lw_all := lw_mem 526 (by decide +kernel) rfl
theorem tw_494 : Cond.methodLink RX0 49 yX0_closeFile ∈ lw_all := lw_mem 527 (by decide +kernel) rfl
theorem tw_495 : Cond.instanceMethod yX0_closeFile ∈ lw_all := lw_mem 528 (by decide +kernel) rfl
theorem tw_496 : Cond.selects RX0 yX0_closeFile yX0_closeFile ∈ lw_all := lw_mem 529 (by decide +kernel) rfl
theorem tw_497 : Cond.code yX0_closeFile cX0_closeFile 2 none ∈ lw_all := lw_mem 530 (by decide +kernel) rfl
theorem tw_498 : Cond.methodLink RX0 53 yX3_at ∈ lw_all := lw_mem 531 (by decide +kernel) rfl
theorem tw_499 : Cond.methodLink RL 141 yL_sweep ∈ lw_all := lw_mem 532 (by decide +kernel) rfl
theorem tw_500 : Cond.static yL_sweep ∈ lw_all := lw_mem 533 (by decide +kernel) rfl
theorem tw_501 : Cond.codeWith yL_sweep cL_sweep 4 (some FieldType.int) [(0, 9, 12, 19)] ∈ lw_all := lw_mem 534 (by decide +kernel) rfl
theorem tw_502 : Cond.methodLink RL 40 yX4_sweep ∈ lw_all := lw_mem 535 (by decide +kernel) rfl
theorem tw_503 : Cond.instanceMethod yX4_sweep ∈ lw_all := lw_mem 536 (by decide +kernel) rfl
theorem tw_504 : Cond.selects RX4 yX4_sweep yX4_sweep ∈ lw_all := lw_mem 537 (by decide +kernel) rfl
theorem tw_505 : Cond.code yX4_sweep cX4_sweep 2 (some FieldType.int) ∈ lw_all := lw_mem 538 (by decide +kernel) rfl
theorem tw_506 : Cond.methodLink RX4 130 yX2_clearMisrouted ∈ lw_all := lw_mem 539 (by decide +kernel) rfl
theorem tw_507 : Cond.instanceMethod yX2_clearMisrouted ∈ lw_all := lw_mem 540 (by decide +kernel) rfl
theorem tw_508 : Cond.selects RX2 yX2_clearMisrouted yX2_clearMisrouted ∈ lw_all := lw_mem 541 (by decide +kernel) rfl
theorem tw_509 : Cond.code yX2_clearMisrouted cX2_clearMisrouted 4 (some FieldType.int) ∈ lw_all := lw_mem 542 (by decide +kernel) rfl
theorem tw_510 : Cond.methodLink RX2 91 yX0_takeFromChute ∈ lw_all := lw_mem 543 (by decide +kernel) rfl
theorem tw_511 : Cond.instanceMethod yX0_takeFromChute ∈ lw_all := lw_mem 544 (by decide +kernel) rfl
theorem tw_512 : Cond.selects RX0 yX0_takeFromChute yX0_takeFromChute ∈ lw_all := lw_mem 545 (by decide +kernel) rfl
theorem tw_513 : Cond.code yX0_takeFromChute cX0_takeFromChute 3 none ∈ lw_all := lw_mem 546 (by decide +kernel) rfl
theorem tw_514 : Cond.methodLink RX2 94 yX0_closeFile ∈ lw_all := lw_mem 547 (by decide +kernel) rfl
theorem tw_515 : Cond.methodLink RL 144 yL_depart ∈ lw_all := lw_mem 548 (by decide +kernel) rfl
theorem tw_516 : Cond.static yL_depart ∈ lw_all := lw_mem 549 (by decide +kernel) rfl
theorem tw_517 : Cond.codeWith yL_depart cL_depart 4 (some FieldType.int) [(0, 9, 12, 19), (0, 9, 15, 13)] ∈ lw_all := lw_mem 550 (by decide +kernel) rfl
theorem tw_518 : Cond.methodLink RL 43 yX4_depart ∈ lw_all := lw_mem 551 (by decide +kernel) rfl
theorem tw_519 : Cond.instanceMethod yX4_depart ∈ lw_all := lw_mem 552 (by decide +kernel) rfl
theorem tw_520 : Cond.selects RX4 yX4_depart yX4_depart ∈ lw_all := lw_mem 553 (by decide +kernel) rfl
theorem tw_521 : Cond.code yX4_depart cX4_depart 2 (some FieldType.int) ∈ lw_all := lw_mem 554 (by decide +kernel) rfl
theorem tw_522 : Cond.methodLink RX4 133 yX2_letLeave ∈ lw_all := lw_mem 555 (by decide +kernel) rfl
theorem tw_523 : Cond.instanceMethod yX2_letLeave ∈ lw_all := lw_mem 556 (by decide +kernel) rfl
theorem tw_524 : Cond.selects RX2 yX2_letLeave yX2_letLeave ∈ lw_all := lw_mem 557 (by decide +kernel) rfl
theorem tw_525 : Cond.code yX2_letLeave cX2_letLeave 4 (some FieldType.int) ∈ lw_all := lw_mem 558 (by decide +kernel) rfl
theorem tw_526 : Cond.methodLink RL 147 yL_pass ∈ lw_all := lw_mem 559 (by decide +kernel) rfl
theorem tw_527 : Cond.static yL_pass ∈ lw_all := lw_mem 560 (by decide +kernel) rfl
theorem tw_528 : Cond.codeWith yL_pass cL_pass 4 (some FieldType.int) [(0, 9, 12, 25)] ∈ lw_all := lw_mem 561 (by decide +kernel) rfl
theorem tw_529 : Cond.methodLink RL 46 yX4_pass ∈ lw_all := lw_mem 562 (by decide +kernel) rfl
theorem tw_530 : Cond.instanceMethod yX4_pass ∈ lw_all := lw_mem 563 (by decide +kernel) rfl
theorem tw_531 : Cond.selects RX4 yX4_pass yX4_pass ∈ lw_all := lw_mem 564 (by decide +kernel) rfl
theorem tw_532 : Cond.code yX4_pass cX4_pass 2 (some FieldType.int) ∈ lw_all := lw_mem 565 (by decide +kernel) rfl
theorem tw_533 : Cond.methodLink RX4 136 yX4_needMinutes ∈ lw_all := lw_mem 566 (by decide +kernel) rfl
theorem tw_534 : Cond.static yX4_needMinutes ∈ lw_all := lw_mem 567 (by decide +kernel) rfl
theorem tw_535 : Cond.code yX4_needMinutes cX4_needMinutes 1 none ∈ lw_all := lw_mem 568 (by decide +kernel) rfl
theorem tw_537 : Cond.methodLink RX4 139 yX2_goMinutes ∈ lw_all := lw_mem 570 (by decide +kernel) rfl
theorem tw_538 : Cond.instanceMethod yX2_goMinutes ∈ lw_all := lw_mem 571 (by decide +kernel) rfl
theorem tw_539 : Cond.selects RX2 yX2_goMinutes yX2_goMinutes ∈ lw_all := lw_mem 572 (by decide +kernel) rfl
theorem tw_540 : Cond.code yX2_goMinutes cX2_goMinutes 4 (some FieldType.int) ∈ lw_all := lw_mem 573 (by decide +kernel) rfl
theorem tw_541 : Cond.methodLink RX2 104 yX2_goMinute ∈ lw_all := lw_mem 574 (by decide +kernel) rfl
theorem tw_542 : Cond.instanceMethod yX2_goMinute ∈ lw_all := lw_mem 575 (by decide +kernel) rfl
theorem tw_543 : Cond.selects RX2 yX2_goMinute yX2_goMinute ∈ lw_all := lw_mem 576 (by decide +kernel) rfl
theorem tw_544 : Cond.code yX2_goMinute cX2_goMinute 2 (some FieldType.int) ∈ lw_all := lw_mem 577 (by decide +kernel) rfl
theorem tw_545 : Cond.methodLink RX2 108 yX3_turn ∈ lw_all := lw_mem 578 (by decide +kernel) rfl
theorem tw_546 : Cond.instanceMethod yX3_turn ∈ lw_all := lw_mem 579 (by decide +kernel) rfl
theorem tw_547 : Cond.selects RX3 yX3_turn yX3_turn ∈ lw_all := lw_mem 580 (by decide +kernel) rfl
theorem tw_548 : Cond.code yX3_turn cX3_turn 3 none ∈ lw_all := lw_mem 581 (by decide +kernel) rfl
theorem tw_549 : Cond.methodLink RX3 33 yX3_at ∈ lw_all := lw_mem 582 (by decide +kernel) rfl
theorem tw_550 : Cond.methodLink RX3 37 yX3_put ∈ lw_all := lw_mem 583 (by decide +kernel) rfl
theorem tw_551 : Cond.methodLink RX2 111 yX2_readTag ∈ lw_all := lw_mem 584 (by decide +kernel) rfl
theorem tw_552 : Cond.instanceMethod yX2_readTag ∈ lw_all := lw_mem 585 (by decide +kernel) rfl
theorem tw_553 : Cond.selects RX2 yX2_readTag yX2_readTag ∈ lw_all := lw_mem 586 (by decide +kernel) rfl
theorem tw_554 : Cond.code yX2_readTag cX2_readTag 3 none ∈ lw_all := lw_mem 587 (by decide +kernel) rfl
theorem tw_555 : Cond.methodLink RX2 126 yX2_missTag ∈ lw_all := lw_mem 588 (by decide +kernel) rfl
theorem tw_556 : Cond.instanceMethod yX2_missTag ∈ lw_all := lw_mem 589 (by decide +kernel) rfl
theorem tw_557 : Cond.selects RX2 yX2_missTag yX2_missTag ∈ lw_all := lw_mem 590 (by decide +kernel) rfl
theorem tw_558 : Cond.code yX2_missTag cX2_missTag 3 none ∈ lw_all := lw_mem 591 (by decide +kernel) rfl
theorem tw_559 : Cond.methodLink RX2 114 yX2_fillChutes ∈ lw_all := lw_mem 592 (by decide +kernel) rfl
theorem tw_560 : Cond.instanceMethod yX2_fillChutes ∈ lw_all := lw_mem 593 (by decide +kernel) rfl
theorem tw_561 : Cond.selects RX2 yX2_fillChutes yX2_fillChutes ∈ lw_all := lw_mem 594 (by decide +kernel) rfl
theorem tw_562 : Cond.code yX2_fillChutes cX2_fillChutes 5 (some FieldType.int) ∈ lw_all := lw_mem 595 (by decide +kernel) rfl
theorem tw_563 : Cond.methodLink RX2 132 yX2_hasRoom ∈ lw_all := lw_mem 596 (by decide +kernel) rfl
theorem tw_564 : Cond.methodLink RX2 135 yX0_putIntoChute ∈ lw_all := lw_mem 597 (by decide +kernel) rfl
theorem tw_565 : Cond.methodLink RX2 117 yX2_feedBelt ∈ lw_all := lw_mem 598 (by decide +kernel) rfl
theorem tw_566 : Cond.instanceMethod yX2_feedBelt ∈ lw_all := lw_mem 599 (by decide +kernel) rfl
theorem tw_567 : Cond.selects RX2 yX2_feedBelt yX2_feedBelt ∈ lw_all := lw_mem 600 (by decide +kernel) rfl
theorem tw_568 : Cond.code yX2_feedBelt cX2_feedBelt 2 none ∈ lw_all := lw_mem 601 (by decide +kernel) rfl
theorem tw_569 : Cond.methodLink RX2 138 yX3_takeFront ∈ lw_all := lw_mem 602 (by decide +kernel) rfl
theorem tw_570 : Cond.instanceMethod yX3_takeFront ∈ lw_all := lw_mem 603 (by decide +kernel) rfl
theorem tw_571 : Cond.selects RX3 yX3_takeFront yX3_takeFront ∈ lw_all := lw_mem 604 (by decide +kernel) rfl
theorem tw_572 : Cond.code yX3_takeFront cX3_takeFront 3 (some FieldType.int) ∈ lw_all := lw_mem 605 (by decide +kernel) rfl
theorem tw_573 : Cond.methodLink RL 150 yL_flightOf ∈ lw_all := lw_mem 606 (by decide +kernel) rfl
theorem tw_574 : Cond.static yL_flightOf ∈ lw_all := lw_mem 607 (by decide +kernel) rfl
theorem tw_575 : Cond.codeWith yL_flightOf cL_flightOf 4 (some FieldType.int) [(0, 9, 12, 19)] ∈ lw_all := lw_mem 608 (by decide +kernel) rfl
theorem tw_576 : Cond.methodLink RL 49 yX4_flightOf ∈ lw_all := lw_mem 609 (by decide +kernel) rfl
theorem tw_577 : Cond.instanceMethod yX4_flightOf ∈ lw_all := lw_mem 610 (by decide +kernel) rfl
theorem tw_578 : Cond.selects RX4 yX4_flightOf yX4_flightOf ∈ lw_all := lw_mem 611 (by decide +kernel) rfl
theorem tw_579 : Cond.code yX4_flightOf cX4_flightOf 2 (some FieldType.int) ∈ lw_all := lw_mem 612 (by decide +kernel) rfl
theorem tw_580 : Cond.methodLink RL 153 yL_whereIs ∈ lw_all := lw_mem 613 (by decide +kernel) rfl
theorem tw_581 : Cond.static yL_whereIs ∈ lw_all := lw_mem 614 (by decide +kernel) rfl
theorem tw_582 : Cond.codeWith yL_whereIs cL_whereIs 4 (some FieldType.int) [(0, 9, 12, 19)] ∈ lw_all := lw_mem 615 (by decide +kernel) rfl
theorem tw_583 : Cond.methodLink RL 52 yX4_whereIs ∈ lw_all := lw_mem 616 (by decide +kernel) rfl
theorem tw_584 : Cond.instanceMethod yX4_whereIs ∈ lw_all := lw_mem 617 (by decide +kernel) rfl
theorem tw_585 : Cond.selects RX4 yX4_whereIs yX4_whereIs ∈ lw_all := lw_mem 618 (by decide +kernel) rfl
theorem tw_586 : Cond.code yX4_whereIs cX4_whereIs 2 (some FieldType.int) ∈ lw_all := lw_mem 619 (by decide +kernel) rfl
theorem tw_587 : Cond.methodLink RL 156 yL_placeOf ∈ lw_all := lw_mem 620 (by decide +kernel) rfl
theorem tw_588 : Cond.static yL_placeOf ∈ lw_all := lw_mem 621 (by decide +kernel) rfl
theorem tw_589 : Cond.codeWith yL_placeOf cL_placeOf 4 (some FieldType.int) [(0, 9, 12, 19)] ∈ lw_all := lw_mem 622 (by decide +kernel) rfl
theorem tw_590 : Cond.methodLink RL 55 yX4_placeOf ∈ lw_all := lw_mem 623 (by decide +kernel) rfl
theorem tw_591 : Cond.instanceMethod yX4_placeOf ∈ lw_all := lw_mem 624 (by decide +kernel) rfl
theorem tw_592 : Cond.selects RX4 yX4_placeOf yX4_placeOf ∈ lw_all := lw_mem 625 (by decide +kernel) rfl
theorem tw_593 : Cond.code yX4_placeOf cX4_placeOf 2 (some FieldType.int) ∈ lw_all := lw_mem 626 (by decide +kernel) rfl
theorem tw_594 : Cond.methodLink RL 159 yL_chuteOf ∈ lw_all := lw_mem 627 (by decide +kernel) rfl
theorem tw_595 : Cond.static yL_chuteOf ∈ lw_all := lw_mem 628 (by decide +kernel) rfl
theorem tw_596 : Cond.codeWith yL_chuteOf cL_chuteOf 4 (some FieldType.int) [(0, 9, 12, 19)] ∈ lw_all := lw_mem 629 (by decide +kernel) rfl
theorem tw_597 : Cond.methodLink RL 58 yX4_chuteOf ∈ lw_all := lw_mem 630 (by decide +kernel) rfl
theorem tw_598 : Cond.instanceMethod yX4_chuteOf ∈ lw_all := lw_mem 631 (by decide +kernel) rfl
theorem tw_599 : Cond.selects RX4 yX4_chuteOf yX4_chuteOf ∈ lw_all := lw_mem 632 (by decide +kernel) rfl
theorem tw_600 : Cond.code yX4_chuteOf cX4_chuteOf 2 (some FieldType.int) ∈ lw_all := lw_mem 633 (by decide +kernel) rfl
theorem tw_601 : Cond.methodLink RL 162 yL_readFor ∈ lw_all := lw_mem 634 (by decide +kernel) rfl
theorem tw_602 : Cond.static yL_readFor ∈ lw_all := lw_mem 635 (by decide +kernel) rfl
theorem tw_603 : Cond.codeWith yL_readFor cL_readFor 4 (some FieldType.int) [(0, 9, 12, 19)] ∈ lw_all := lw_mem 636 (by decide +kernel) rfl
theorem tw_604 : Cond.methodLink RL 61 yX4_readFor ∈ lw_all := lw_mem 637 (by decide +kernel) rfl
theorem tw_605 : Cond.instanceMethod yX4_readFor ∈ lw_all := lw_mem 638 (by decide +kernel) rfl
theorem tw_606 : Cond.selects RX4 yX4_readFor yX4_readFor ∈ lw_all := lw_mem 639 (by decide +kernel) rfl
theorem tw_607 : Cond.code yX4_readFor cX4_readFor 2 (some FieldType.int) ∈ lw_all := lw_mem 640 (by decide +kernel) rfl
theorem tw_608 : Cond.methodLink RL 165 yL_missesOf ∈ lw_all := lw_mem 641 (by decide +kernel) rfl
theorem tw_609 : Cond.static yL_missesOf ∈ lw_all := lw_mem 642 (by decide +kernel) rfl
theorem tw_610 : Cond.codeWith yL_missesOf cL_missesOf 4 (some FieldType.int) [(0, 9, 12, 19)] ∈ lw_all := lw_mem 643 (by decide +kernel) rfl
theorem tw_611 : Cond.methodLink RL 64 yX4_missesOf ∈ lw_all := lw_mem 644 (by decide +kernel) rfl
theorem tw_612 : Cond.instanceMethod yX4_missesOf ∈ lw_all := lw_mem 645 (by decide +kernel) rfl
theorem tw_613 : Cond.selects RX4 yX4_missesOf yX4_missesOf ∈ lw_all := lw_mem 646 (by decide +kernel) rfl
theorem tw_614 : Cond.code yX4_missesOf cX4_missesOf 2 (some FieldType.int) ∈ lw_all := lw_mem 647 (by decide +kernel) rfl
theorem tw_615 : Cond.methodLink RL 168 yL_isMisrouted ∈ lw_all := lw_mem 648 (by decide +kernel) rfl
theorem tw_616 : Cond.static yL_isMisrouted ∈ lw_all := lw_mem 649 (by decide +kernel) rfl
theorem tw_617 : Cond.codeWith yL_isMisrouted cL_isMisrouted 4 (some FieldType.int) [(0, 16, 19, 19)] ∈ lw_all := lw_mem 650 (by decide +kernel) rfl
theorem tw_618 : Cond.methodLink RL 67 yX4_isMisrouted ∈ lw_all := lw_mem 651 (by decide +kernel) rfl
theorem tw_619 : Cond.instanceMethod yX4_isMisrouted ∈ lw_all := lw_mem 652 (by decide +kernel) rfl
theorem tw_620 : Cond.selects RX4 yX4_isMisrouted yX4_isMisrouted ∈ lw_all := lw_mem 653 (by decide +kernel) rfl
theorem tw_621 : Cond.code yX4_isMisrouted cX4_isMisrouted 2 (some FieldType.boolean) ∈ lw_all := lw_mem 654 (by decide +kernel) rfl
theorem tw_622 : Cond.methodLink RL 171 yL_hasOpenFile ∈ lw_all := lw_mem 655 (by decide +kernel) rfl
theorem tw_623 : Cond.static yL_hasOpenFile ∈ lw_all := lw_mem 656 (by decide +kernel) rfl
theorem tw_624 : Cond.codeWith yL_hasOpenFile cL_hasOpenFile 4 (some FieldType.int) [(0, 16, 19, 19)] ∈ lw_all := lw_mem 657 (by decide +kernel) rfl
theorem tw_625 : Cond.methodLink RL 71 yX4_hasOpenFile ∈ lw_all := lw_mem 658 (by decide +kernel) rfl
theorem tw_626 : Cond.instanceMethod yX4_hasOpenFile ∈ lw_all := lw_mem 659 (by decide +kernel) rfl
theorem tw_627 : Cond.selects RX4 yX4_hasOpenFile yX4_hasOpenFile ∈ lw_all := lw_mem 660 (by decide +kernel) rfl
theorem tw_628 : Cond.code yX4_hasOpenFile cX4_hasOpenFile 2 (some FieldType.boolean) ∈ lw_all := lw_mem 661 (by decide +kernel) rfl
theorem tw_629 : Cond.methodLink RL 174 yL_bagAt ∈ lw_all := lw_mem 662 (by decide +kernel) rfl
theorem tw_630 : Cond.static yL_bagAt ∈ lw_all := lw_mem 663 (by decide +kernel) rfl
theorem tw_631 : Cond.codeWith yL_bagAt cL_bagAt 4 (some FieldType.int) [(0, 9, 12, 19)] ∈ lw_all := lw_mem 664 (by decide +kernel) rfl
theorem tw_632 : Cond.methodLink RL 74 yX4_bagAt ∈ lw_all := lw_mem 665 (by decide +kernel) rfl
theorem tw_633 : Cond.instanceMethod yX4_bagAt ∈ lw_all := lw_mem 666 (by decide +kernel) rfl
theorem tw_634 : Cond.selects RX4 yX4_bagAt yX4_bagAt ∈ lw_all := lw_mem 667 (by decide +kernel) rfl
theorem tw_635 : Cond.code yX4_bagAt cX4_bagAt 2 (some FieldType.int) ∈ lw_all := lw_mem 668 (by decide +kernel) rfl
theorem tw_637 : Cond.methodLink RL 177 yL_bagsIn ∈ lw_all := lw_mem 670 (by decide +kernel) rfl
theorem tw_638 : Cond.static yL_bagsIn ∈ lw_all := lw_mem 671 (by decide +kernel) rfl
theorem tw_639 : Cond.codeWith yL_bagsIn cL_bagsIn 4 (some FieldType.int) [(0, 9, 12, 19)] ∈ lw_all := lw_mem 672 (by decide +kernel) rfl
theorem tw_640 : Cond.methodLink RL 77 yX4_bagsIn ∈ lw_all := lw_mem 673 (by decide +kernel) rfl
theorem tw_641 : Cond.instanceMethod yX4_bagsIn ∈ lw_all := lw_mem 674 (by decide +kernel) rfl
theorem tw_642 : Cond.selects RX4 yX4_bagsIn yX4_bagsIn ∈ lw_all := lw_mem 675 (by decide +kernel) rfl
theorem tw_643 : Cond.code yX4_bagsIn cX4_bagsIn 2 (some FieldType.int) ∈ lw_all := lw_mem 676 (by decide +kernel) rfl
theorem tw_644 : Cond.methodLink RL 180 yL_misroutedIn ∈ lw_all := lw_mem 677 (by decide +kernel) rfl
theorem tw_645 : Cond.static yL_misroutedIn ∈ lw_all := lw_mem 678 (by decide +kernel) rfl
theorem tw_646 : Cond.codeWith yL_misroutedIn cL_misroutedIn 4 (some FieldType.int) [(0, 9, 12, 19)] ∈ lw_all := lw_mem 679 (by decide +kernel) rfl
theorem tw_647 : Cond.methodLink RL 80 yX4_misroutedIn ∈ lw_all := lw_mem 680 (by decide +kernel) rfl
theorem tw_648 : Cond.instanceMethod yX4_misroutedIn ∈ lw_all := lw_mem 681 (by decide +kernel) rfl
theorem tw_649 : Cond.selects RX4 yX4_misroutedIn yX4_misroutedIn ∈ lw_all := lw_mem 682 (by decide +kernel) rfl
theorem tw_650 : Cond.code yX4_misroutedIn cX4_misroutedIn 2 (some FieldType.int) ∈ lw_all := lw_mem 683 (by decide +kernel) rfl
theorem tw_651 : Cond.methodLink RL 183 yL_roomOf ∈ lw_all := lw_mem 684 (by decide +kernel) rfl
theorem tw_652 : Cond.static yL_roomOf ∈ lw_all := lw_mem 685 (by decide +kernel) rfl
theorem tw_653 : Cond.codeWith yL_roomOf cL_roomOf 4 (some FieldType.int) [(0, 9, 12, 19)] ∈ lw_all := lw_mem 686 (by decide +kernel) rfl
theorem tw_654 : Cond.methodLink RL 83 yX4_roomOf ∈ lw_all := lw_mem 687 (by decide +kernel) rfl
theorem tw_655 : Cond.instanceMethod yX4_roomOf ∈ lw_all := lw_mem 688 (by decide +kernel) rfl
theorem tw_656 : Cond.selects RX4 yX4_roomOf yX4_roomOf ∈ lw_all := lw_mem 689 (by decide +kernel) rfl
theorem tw_657 : Cond.code yX4_roomOf cX4_roomOf 2 (some FieldType.int) ∈ lw_all := lw_mem 690 (by decide +kernel) rfl
theorem tw_658 : Cond.methodLink RL 186 yL_chuteOfFlight ∈ lw_all := lw_mem 691 (by decide +kernel) rfl
theorem tw_659 : Cond.static yL_chuteOfFlight ∈ lw_all := lw_mem 692 (by decide +kernel) rfl
theorem tw_660 : Cond.codeWith yL_chuteOfFlight cL_chuteOfFlight 4 (some FieldType.int) [(0, 9, 12, 19)] ∈ lw_all := lw_mem 693 (by decide +kernel) rfl
theorem tw_661 : Cond.methodLink RL 86 yX4_chuteOfFlight ∈ lw_all := lw_mem 694 (by decide +kernel) rfl
theorem tw_662 : Cond.instanceMethod yX4_chuteOfFlight ∈ lw_all := lw_mem 695 (by decide +kernel) rfl
theorem tw_663 : Cond.selects RX4 yX4_chuteOfFlight yX4_chuteOfFlight ∈ lw_all := lw_mem 696 (by decide +kernel) rfl
theorem tw_664 : Cond.code yX4_chuteOfFlight cX4_chuteOfFlight 2 (some FieldType.int) ∈ lw_all := lw_mem 697 (by decide +kernel) rfl
theorem tw_665 : Cond.methodLink RL 189 yL_isGone ∈ lw_all := lw_mem 698 (by decide +kernel) rfl
theorem tw_666 : Cond.static yL_isGone ∈ lw_all := lw_mem 699 (by decide +kernel) rfl
theorem tw_667 : Cond.codeWith yL_isGone cL_isGone 4 (some FieldType.int) [(0, 16, 19, 19)] ∈ lw_all := lw_mem 700 (by decide +kernel) rfl
theorem tw_668 : Cond.methodLink RL 89 yX4_isGone ∈ lw_all := lw_mem 701 (by decide +kernel) rfl
theorem tw_669 : Cond.instanceMethod yX4_isGone ∈ lw_all := lw_mem 702 (by decide +kernel) rfl
theorem tw_670 : Cond.selects RX4 yX4_isGone yX4_isGone ∈ lw_all := lw_mem 703 (by decide +kernel) rfl
theorem tw_671 : Cond.code yX4_isGone cX4_isGone 2 (some FieldType.boolean) ∈ lw_all := lw_mem 704 (by decide +kernel) rfl
theorem tw_672 : Cond.methodLink RL 192 yL_readyOf ∈ lw_all := lw_mem 705 (by decide +kernel) rfl
theorem tw_673 : Cond.static yL_readyOf ∈ lw_all := lw_mem 706 (by decide +kernel) rfl
theorem tw_674 : Cond.codeWith yL_readyOf cL_readyOf 4 (some FieldType.int) [(0, 9, 12, 19)] ∈ lw_all := lw_mem 707 (by decide +kernel) rfl
theorem tw_675 : Cond.methodLink RL 92 yX4_readyOf ∈ lw_all := lw_mem 708 (by decide +kernel) rfl
theorem tw_676 : Cond.instanceMethod yX4_readyOf ∈ lw_all := lw_mem 709 (by decide +kernel) rfl
theorem tw_677 : Cond.selects RX4 yX4_readyOf yX4_readyOf ∈ lw_all := lw_mem 710 (by decide +kernel) rfl
theorem tw_678 : Cond.code yX4_readyOf cX4_readyOf 2 (some FieldType.int) ∈ lw_all := lw_mem 711 (by decide +kernel) rfl
theorem tw_679 : Cond.methodLink RL 195 yL_missingOf ∈ lw_all := lw_mem 712 (by decide +kernel) rfl
theorem tw_680 : Cond.static yL_missingOf ∈ lw_all := lw_mem 713 (by decide +kernel) rfl
theorem tw_681 : Cond.codeWith yL_missingOf cL_missingOf 4 (some FieldType.int) [(0, 9, 12, 19)] ∈ lw_all := lw_mem 714 (by decide +kernel) rfl
theorem tw_682 : Cond.methodLink RL 95 yX4_missingOf ∈ lw_all := lw_mem 715 (by decide +kernel) rfl
theorem tw_683 : Cond.instanceMethod yX4_missingOf ∈ lw_all := lw_mem 716 (by decide +kernel) rfl
theorem tw_684 : Cond.selects RX4 yX4_missingOf yX4_missingOf ∈ lw_all := lw_mem 717 (by decide +kernel) rfl
theorem tw_685 : Cond.code yX4_missingOf cX4_missingOf 2 (some FieldType.int) ∈ lw_all := lw_mem 718 (by decide +kernel) rfl
theorem tw_686 : Cond.methodLink RL 234 yL_minutesUntilChute ∈ lw_all := lw_mem 719 (by decide +kernel) rfl
theorem tw_687 : Cond.static yL_minutesUntilChute ∈ lw_all := lw_mem 720 (by decide +kernel) rfl
theorem tw_688 : Cond.codeWith yL_minutesUntilChute cL_minutesUntilChute 4 (some FieldType.int) [(0, 9, 12, 19)] ∈ lw_all := lw_mem 721 (by decide +kernel) rfl
theorem tw_689 : Cond.methodLink RL 98 yX4_minutesUntilChute ∈ lw_all := lw_mem 722 (by decide +kernel) rfl
theorem tw_690 : Cond.instanceMethod yX4_minutesUntilChute ∈ lw_all := lw_mem 723 (by decide +kernel) rfl
theorem tw_691 : Cond.selects RX4 yX4_minutesUntilChute yX4_minutesUntilChute ∈ lw_all := lw_mem 724 (by decide +kernel) rfl
theorem tw_692 : Cond.code yX4_minutesUntilChute cX4_minutesUntilChute 3 (some FieldType.int) ∈ lw_all := lw_mem 725 (by decide +kernel) rfl
theorem tw_693 : Cond.methodLink RX4 183 yX2_becomeLike ∈ lw_all := lw_mem 726 (by decide +kernel) rfl
theorem tw_694 : Cond.instanceMethod yX2_becomeLike ∈ lw_all := lw_mem 727 (by decide +kernel) rfl
theorem tw_695 : Cond.selects RX2 yX2_becomeLike yX2_becomeLike ∈ lw_all := lw_mem 728 (by decide +kernel) rfl
theorem tw_696 : Cond.code yX2_becomeLike cX2_becomeLike 2 none ∈ lw_all := lw_mem 729 (by decide +kernel) rfl
theorem tw_697 : Cond.methodLink RX2 50 yX1_takeAll ∈ lw_all := lw_mem 730 (by decide +kernel) rfl
theorem tw_698 : Cond.instanceMethod yX1_takeAll ∈ lw_all := lw_mem 731 (by decide +kernel) rfl
theorem tw_699 : Cond.selects RX1 yX1_takeAll yX1_takeAll ∈ lw_all := lw_mem 732 (by decide +kernel) rfl
theorem tw_700 : Cond.code yX1_takeAll cX1_takeAll 2 none ∈ lw_all := lw_mem 733 (by decide +kernel) rfl
theorem tw_701 : Cond.methodLink RX1 31 yX3_takeAll ∈ lw_all := lw_mem 734 (by decide +kernel) rfl
theorem tw_702 : Cond.instanceMethod yX3_takeAll ∈ lw_all := lw_mem 735 (by decide +kernel) rfl
theorem tw_703 : Cond.selects RX3 yX3_takeAll yX3_takeAll ∈ lw_all := lw_mem 736 (by decide +kernel) rfl
theorem tw_704 : Cond.code yX3_takeAll cX3_takeAll 2 none ∈ lw_all := lw_mem 737 (by decide +kernel) rfl
theorem tw_705 : Cond.methodLink RX3 21 yJ9_min_7cf53 ∈ lw_all := lw_mem 738 (by decide +kernel) rfl
theorem tw_706 : Cond.static yJ9_min_7cf53 ∈ lw_all := lw_mem 739 (by decide +kernel) rfl
theorem tw_707 : Cond.code yJ9_min_7cf53 cJ9_min_7cf53 2 (some FieldType.int) ∈ lw_all := lw_mem 740 (by decide +kernel) rfl
theorem tw_708 : Cond.methodLink RX3 27 ⟨"java/lang/System", "arraycopy", "(Ljava/lang/Object;ILjava/lang/Object;II)V"⟩ ∈ lw_all := lw_mem 741 (by decide +kernel) rfl
theorem tw_709 : Cond.static ⟨"java/lang/System", "arraycopy", "(Ljava/lang/Object;ILjava/lang/Object;II)V"⟩ ∈ lw_all := lw_mem 742 (by decide +kernel) rfl
theorem tw_710 : Cond.native ⟨"java/lang/System", "arraycopy", "(Ljava/lang/Object;ILjava/lang/Object;II)V"⟩ ∈ lw_all := lw_mem 743 (by decide +kernel) rfl
theorem tw_711 : Cond.methodLink RX2 54 yX0_takeAll ∈ lw_all := lw_mem 744 (by decide +kernel) rfl
theorem tw_712 : Cond.instanceMethod yX0_takeAll ∈ lw_all := lw_mem 745 (by decide +kernel) rfl
theorem tw_713 : Cond.selects RX0 yX0_takeAll yX0_takeAll ∈ lw_all := lw_mem 746 (by decide +kernel) rfl
theorem tw_714 : Cond.code yX0_takeAll cX0_takeAll 2 none ∈ lw_all := lw_mem 747 (by decide +kernel) rfl
theorem tw_715 : Cond.methodLink RX0 57 yX3_takeAll ∈ lw_all := lw_mem 748 (by decide +kernel) rfl
theorem tw_716 : Cond.methodLink RX2 57 yX3_takeAll ∈ lw_all := lw_mem 749 (by decide +kernel) rfl
theorem tw_717 : Cond.methodLink RX4 187 yX2_goMinute ∈ lw_all := lw_mem 750 (by decide +kernel) rfl
theorem tw_718 : Cond.methodLink RL 237 yL_readyAfter ∈ lw_all := lw_mem 751 (by decide +kernel) rfl
theorem tw_719 : Cond.static yL_readyAfter ∈ lw_all := lw_mem 752 (by decide +kernel) rfl
theorem tw_720 : Cond.codeWith yL_readyAfter cL_readyAfter 5 (some FieldType.int) [(0, 10, 13, 19), (0, 10, 17, 25)] ∈ lw_all := lw_mem 753 (by decide +kernel) rfl
theorem tw_721 : Cond.methodLink RL 101 yX4_readyAfter ∈ lw_all := lw_mem 754 (by decide +kernel) rfl
theorem tw_722 : Cond.instanceMethod yX4_readyAfter ∈ lw_all := lw_mem 755 (by decide +kernel) rfl
theorem tw_723 : Cond.selects RX4 yX4_readyAfter yX4_readyAfter ∈ lw_all := lw_mem 756 (by decide +kernel) rfl
theorem tw_724 : Cond.code yX4_readyAfter cX4_readyAfter 3 (some FieldType.int) ∈ lw_all := lw_mem 757 (by decide +kernel) rfl
theorem tw_725 : Cond.methodLink RX4 190 yX4_readyWithChute ∈ lw_all := lw_mem 758 (by decide +kernel) rfl
theorem tw_727 : Cond.instanceMethod yX4_readyWithChute ∈ lw_all := lw_mem 760 (by decide +kernel) rfl
theorem tw_728 : Cond.code yX4_readyWithChute cX4_readyWithChute 4 (some FieldType.int) ∈ lw_all := lw_mem 761 (by decide +kernel) rfl
theorem tw_729 : Cond.methodLink RL 240 yL_bestChute ∈ lw_all := lw_mem 762 (by decide +kernel) rfl
theorem tw_730 : Cond.static yL_bestChute ∈ lw_all := lw_mem 763 (by decide +kernel) rfl
theorem tw_731 : Cond.codeWith yL_bestChute cL_bestChute 5 (some FieldType.int) [(0, 10, 13, 19), (0, 10, 17, 25), (0, 10, 21, 13)] ∈ lw_all := lw_mem 764 (by decide +kernel) rfl
theorem tw_732 : Cond.methodLink RL 104 yX4_bestChute ∈ lw_all := lw_mem 765 (by decide +kernel) rfl
theorem tw_733 : Cond.instanceMethod yX4_bestChute ∈ lw_all := lw_mem 766 (by decide +kernel) rfl
theorem tw_734 : Cond.selects RX4 yX4_bestChute yX4_bestChute ∈ lw_all := lw_mem 767 (by decide +kernel) rfl
theorem tw_735 : Cond.code yX4_bestChute cX4_bestChute 7 (some FieldType.int) ∈ lw_all := lw_mem 768 (by decide +kernel) rfl
theorem tw_736 : Cond.classLink RL 108 RX6 ∈ lw_all := lw_mem 769 (by decide +kernel) rfl
theorem tw_737 : Cond.instantiable RX6 13 ∈ lw_all := lw_mem 770 (by decide +kernel) rfl
theorem tw_738 : Cond.methodLink RL 110 yX6_init ∈ lw_all := lw_mem 771 (by decide +kernel) rfl
theorem tw_739 : Cond.instanceMethod yX6_init ∈ lw_all := lw_mem 772 (by decide +kernel) rfl
theorem tw_740 : Cond.code yX6_init cX6_init 2 none ∈ lw_all := lw_mem 773 (by decide +kernel) rfl
theorem tw_741 : Cond.methodLink RX6 1 objectInit ∈ lw_all := lw_mem 774 (by decide +kernel) rfl
theorem tw_742 : Cond.classLink RX6 36 RX5 ∈ lw_all := lw_mem 775 (by decide +kernel) rfl
theorem tw_743 : Cond.instantiable RX5 9 ∈ lw_all := lw_mem 776 (by decide +kernel) rfl
theorem tw_744 : Cond.methodLink RX6 38 yX5_init ∈ lw_all := lw_mem 777 (by decide +kernel) rfl
theorem tw_745 : Cond.instanceMethod yX5_init ∈ lw_all := lw_mem 778 (by decide +kernel) rfl
theorem tw_746 : Cond.code yX5_init cX5_init 2 none ∈ lw_all := lw_mem 779 (by decide +kernel) rfl
theorem tw_747 : Cond.methodLink RX5 3 objectInit ∈ lw_all := lw_mem 780 (by decide +kernel) rfl
theorem tw_748 : Cond.fieldLink RX5 39 "BagCarouselModel$State" "minute" "I" ∈ lw_all := lw_mem 781 (by decide +kernel) rfl
theorem tw_750 : Cond.fieldLink RX5 9 "BagCarouselModel$State" "where" "[I" ∈ lw_all := lw_mem 783 (by decide +kernel) rfl
theorem tw_752 : Cond.fieldLink RX5 15 "BagCarouselModel$State" "at" "[I" ∈ lw_all := lw_mem 785 (by decide +kernel) rfl
theorem tw_754 : Cond.fieldLink RX5 18 "BagCarouselModel$State" "read" "[I" ∈ lw_all := lw_mem 787 (by decide +kernel) rfl
theorem tw_756 : Cond.fieldLink RX5 21 "BagCarouselModel$State" "missed" "[I" ∈ lw_all := lw_mem 789 (by decide +kernel) rfl
theorem tw_758 : Cond.fieldLink RX5 24 "BagCarouselModel$State" "belt" "[I" ∈ lw_all := lw_mem 791 (by decide +kernel) rfl
theorem tw_760 : Cond.fieldLink RX5 27 "BagCarouselModel$State" "line" "[I" ∈ lw_all := lw_mem 793 (by decide +kernel) rfl
theorem tw_761 : Cond.fieldLink RX5 43 "BagCarouselModel$State" "inLine" "I" ∈ lw_all := lw_mem 794 (by decide +kernel) rfl
theorem tw_763 : Cond.fieldLink RX5 30 "BagCarouselModel$State" "in" "[I" ∈ lw_all := lw_mem 796 (by decide +kernel) rfl
theorem tw_765 : Cond.lays "BagCarouselModel$State" "BagCarouselModel$State" "minute" "I" ∈ lw_all := lw_mem 798 (by decide +kernel) rfl
theorem tw_766 : Cond.soleField "BagCarouselModel$State" "minute" ∈ lw_all := lw_mem 799 (by decide +kernel) rfl
theorem tw_767 : Cond.laysFinal "BagCarouselModel$State" "BagCarouselModel$State" "where" "[I" ∈ lw_all := lw_mem 800 (by decide +kernel) rfl
theorem tw_768 : Cond.soleField "BagCarouselModel$State" "where" ∈ lw_all := lw_mem 801 (by decide +kernel) rfl
theorem tw_769 : Cond.laysFinal "BagCarouselModel$State" "BagCarouselModel$State" "at" "[I" ∈ lw_all := lw_mem 802 (by decide +kernel) rfl
theorem tw_770 : Cond.soleField "BagCarouselModel$State" "at" ∈ lw_all := lw_mem 803 (by decide +kernel) rfl
theorem tw_771 : Cond.laysFinal "BagCarouselModel$State" "BagCarouselModel$State" "read" "[I" ∈ lw_all := lw_mem 804 (by decide +kernel) rfl
theorem tw_772 : Cond.soleField "BagCarouselModel$State" "read" ∈ lw_all := lw_mem 805 (by decide +kernel) rfl
theorem tw_773 : Cond.laysFinal "BagCarouselModel$State" "BagCarouselModel$State" "missed" "[I" ∈ lw_all := lw_mem 806 (by decide +kernel) rfl
theorem tw_774 : Cond.soleField "BagCarouselModel$State" "missed" ∈ lw_all := lw_mem 807 (by decide +kernel) rfl
theorem tw_775 : Cond.laysFinal "BagCarouselModel$State" "BagCarouselModel$State" "belt" "[I" ∈ lw_all := lw_mem 808 (by decide +kernel) rfl
theorem tw_776 : Cond.soleField "BagCarouselModel$State" "belt" ∈ lw_all := lw_mem 809 (by decide +kernel) rfl
theorem tw_777 : Cond.laysFinal "BagCarouselModel$State" "BagCarouselModel$State" "line" "[I" ∈ lw_all := lw_mem 810 (by decide +kernel) rfl
theorem tw_778 : Cond.soleField "BagCarouselModel$State" "line" ∈ lw_all := lw_mem 811 (by decide +kernel) rfl
theorem tw_779 : Cond.lays "BagCarouselModel$State" "BagCarouselModel$State" "inLine" "I" ∈ lw_all := lw_mem 812 (by decide +kernel) rfl
theorem tw_780 : Cond.soleField "BagCarouselModel$State" "inLine" ∈ lw_all := lw_mem 813 (by decide +kernel) rfl
theorem tw_781 : Cond.laysFinal "BagCarouselModel$State" "BagCarouselModel$State" "in" "[I" ∈ lw_all := lw_mem 814 (by decide +kernel) rfl
theorem tw_782 : Cond.soleField "BagCarouselModel$State" "in" ∈ lw_all := lw_mem 815 (by decide +kernel) rfl
theorem tw_783 : Cond.superclass "BagCarouselModel$State" "java/lang/Object" ∈ lw_all := lw_mem 816 (by decide +kernel) rfl
theorem tw_784 : Cond.arrayClass FieldType.boolean ∈ lw_all := lw_mem 817 (by decide +kernel) rfl
theorem tw_785 : Cond.fieldLink RX6 46 "BagCarouselModel" "thrown" "I" ∈ lw_all := lw_mem 818 (by decide +kernel) rfl
theorem tw_786 : Cond.fieldLink RX6 56 "BagCarouselModel" "flights" "I" ∈ lw_all := lw_mem 819 (by decide +kernel) rfl
theorem tw_787 : Cond.fieldLink RX6 9 "BagCarouselModel" "chuteOf" "[I" ∈ lw_all := lw_mem 820 (by decide +kernel) rfl
theorem tw_788 : Cond.fieldLink RX6 13 "BagCarouselModel" "isGone" "[Z" ∈ lw_all := lw_mem 821 (by decide +kernel) rfl
theorem tw_789 : Cond.fieldLink RX6 17 "BagCarouselModel" "room" "[I" ∈ lw_all := lw_mem 822 (by decide +kernel) rfl
theorem tw_790 : Cond.fieldLink RX6 20 "BagCarouselModel" "strength" "I" ∈ lw_all := lw_mem 823 (by decide +kernel) rfl
theorem tw_791 : Cond.fieldLink RX6 49 "BagCarouselModel" "bags" "I" ∈ lw_all := lw_mem 824 (by decide +kernel) rfl
theorem tw_792 : Cond.fieldLink RX6 24 "BagCarouselModel" "flight" "[I" ∈ lw_all := lw_mem 825 (by decide +kernel) rfl
theorem tw_793 : Cond.fieldLink RX6 27 "BagCarouselModel" "size" "[I" ∈ lw_all := lw_mem 826 (by decide +kernel) rfl
theorem tw_794 : Cond.fieldLink RX6 30 "BagCarouselModel" "smudge" "[I" ∈ lw_all := lw_mem 827 (by decide +kernel) rfl
theorem tw_795 : Cond.fieldLink RX6 33 "BagCarouselModel" "file" "[I" ∈ lw_all := lw_mem 828 (by decide +kernel) rfl
theorem tw_796 : Cond.fieldLink RX6 39 "BagCarouselModel" "s" "LBagCarouselModel$State;" ∈ lw_all := lw_mem 829 (by decide +kernel) rfl
theorem tw_797 : Cond.fieldLink RX6 43 "BagCarouselModel" "ahead" "LBagCarouselModel$State;" ∈ lw_all := lw_mem 830 (by decide +kernel) rfl
theorem tw_798 : Cond.lays "BagCarouselModel" "BagCarouselModel" "thrown" "I" ∈ lw_all := lw_mem 831 (by decide +kernel) rfl
theorem tw_799 : Cond.soleField "BagCarouselModel" "thrown" ∈ lw_all := lw_mem 832 (by decide +kernel) rfl
theorem tw_800 : Cond.lays "BagCarouselModel" "BagCarouselModel" "flights" "I" ∈ lw_all := lw_mem 833 (by decide +kernel) rfl
theorem tw_801 : Cond.soleField "BagCarouselModel" "flights" ∈ lw_all := lw_mem 834 (by decide +kernel) rfl
theorem tw_802 : Cond.laysFinal "BagCarouselModel" "BagCarouselModel" "chuteOf" "[I" ∈ lw_all := lw_mem 835 (by decide +kernel) rfl
theorem tw_803 : Cond.soleField "BagCarouselModel" "chuteOf" ∈ lw_all := lw_mem 836 (by decide +kernel) rfl
theorem tw_804 : Cond.laysFinal "BagCarouselModel" "BagCarouselModel" "isGone" "[Z" ∈ lw_all := lw_mem 837 (by decide +kernel) rfl
theorem tw_805 : Cond.soleField "BagCarouselModel" "isGone" ∈ lw_all := lw_mem 838 (by decide +kernel) rfl
theorem tw_806 : Cond.laysFinal "BagCarouselModel" "BagCarouselModel" "room" "[I" ∈ lw_all := lw_mem 839 (by decide +kernel) rfl
theorem tw_807 : Cond.soleField "BagCarouselModel" "room" ∈ lw_all := lw_mem 840 (by decide +kernel) rfl
theorem tw_808 : Cond.lays "BagCarouselModel" "BagCarouselModel" "strength" "I" ∈ lw_all := lw_mem 841 (by decide +kernel) rfl
theorem tw_809 : Cond.soleField "BagCarouselModel" "strength" ∈ lw_all := lw_mem 842 (by decide +kernel) rfl
theorem tw_810 : Cond.lays "BagCarouselModel" "BagCarouselModel" "bags" "I" ∈ lw_all := lw_mem 843 (by decide +kernel) rfl
theorem tw_811 : Cond.soleField "BagCarouselModel" "bags" ∈ lw_all := lw_mem 844 (by decide +kernel) rfl
theorem tw_812 : Cond.laysFinal "BagCarouselModel" "BagCarouselModel" "flight" "[I" ∈ lw_all := lw_mem 845 (by decide +kernel) rfl
theorem tw_813 : Cond.soleField "BagCarouselModel" "flight" ∈ lw_all := lw_mem 846 (by decide +kernel) rfl
theorem tw_814 : Cond.laysFinal "BagCarouselModel" "BagCarouselModel" "size" "[I" ∈ lw_all := lw_mem 847 (by decide +kernel) rfl
theorem tw_815 : Cond.soleField "BagCarouselModel" "size" ∈ lw_all := lw_mem 848 (by decide +kernel) rfl
theorem tw_816 : Cond.laysFinal "BagCarouselModel" "BagCarouselModel" "smudge" "[I" ∈ lw_all := lw_mem 849 (by decide +kernel) rfl
theorem tw_817 : Cond.soleField "BagCarouselModel" "smudge" ∈ lw_all := lw_mem 850 (by decide +kernel) rfl
theorem tw_818 : Cond.laysFinal "BagCarouselModel" "BagCarouselModel" "file" "[I" ∈ lw_all := lw_mem 851 (by decide +kernel) rfl
theorem tw_819 : Cond.soleField "BagCarouselModel" "file" ∈ lw_all := lw_mem 852 (by decide +kernel) rfl
theorem tw_820 : Cond.laysFinal "BagCarouselModel" "BagCarouselModel" "s" "LBagCarouselModel$State;" ∈ lw_all := lw_mem 853 (by decide +kernel) rfl
theorem tw_821 : Cond.soleField "BagCarouselModel" "s" ∈ lw_all := lw_mem 854 (by decide +kernel) rfl
theorem tw_822 : Cond.laysFinal "BagCarouselModel" "BagCarouselModel" "ahead" "LBagCarouselModel$State;" ∈ lw_all := lw_mem 855 (by decide +kernel) rfl
theorem tw_823 : Cond.soleField "BagCarouselModel" "ahead" ∈ lw_all := lw_mem 856 (by decide +kernel) rfl
theorem tw_824 : Cond.superclass "BagCarouselModel" "java/lang/Object" ∈ lw_all := lw_mem 857 (by decide +kernel) rfl
theorem tw_825 : Cond.methodLink RL 117 yX6_thrown ∈ lw_all := lw_mem 858 (by decide +kernel) rfl
theorem tw_826 : Cond.instanceMethod yX6_thrown ∈ lw_all := lw_mem 859 (by decide +kernel) rfl
theorem tw_827 : Cond.selects RX6 yX6_thrown yX6_thrown ∈ lw_all := lw_mem 860 (by decide +kernel) rfl
theorem tw_828 : Cond.code yX6_thrown cX6_thrown 1 (some FieldType.int) ∈ lw_all := lw_mem 861 (by decide +kernel) rfl
theorem tw_829 : Cond.methodLink RL 116 yX6_addFlight ∈ lw_all := lw_mem 862 (by decide +kernel) rfl
theorem tw_830 : Cond.instanceMethod yX6_addFlight ∈ lw_all := lw_mem 863 (by decide +kernel) rfl
theorem tw_831 : Cond.selects RX6 yX6_addFlight yX6_addFlight ∈ lw_all := lw_mem 864 (by decide +kernel) rfl
theorem tw_832 : Cond.code yX6_addFlight cX6_addFlight 1 (some FieldType.int) ∈ lw_all := lw_mem 865 (by decide +kernel) rfl
theorem tw_833 : Cond.methodLink RX6 110 yX6_no ∈ lw_all := lw_mem 866 (by decide +kernel) rfl
theorem tw_835 : Cond.instanceMethod yX6_no ∈ lw_all := lw_mem 868 (by decide +kernel) rfl
theorem tw_836 : Cond.code yX6_no cX6_no 2 (some FieldType.int) ∈ lw_all := lw_mem 869 (by decide +kernel) rfl
theorem tw_837 : Cond.methodLink RL 123 yX6_giveChute ∈ lw_all := lw_mem 870 (by decide +kernel) rfl
theorem tw_838 : Cond.instanceMethod yX6_giveChute ∈ lw_all := lw_mem 871 (by decide +kernel) rfl
theorem tw_839 : Cond.selects RX6 yX6_giveChute yX6_giveChute ∈ lw_all := lw_mem 872 (by decide +kernel) rfl
theorem tw_840 : Cond.code yX6_giveChute cX6_giveChute 5 (some FieldType.int) ∈ lw_all := lw_mem 873 (by decide +kernel) rfl
theorem tw_841 : Cond.methodLink RX6 114 yX6_isFlight ∈ lw_all := lw_mem 874 (by decide +kernel) rfl
theorem tw_843 : Cond.instanceMethod yX6_isFlight ∈ lw_all := lw_mem 876 (by decide +kernel) rfl
theorem tw_844 : Cond.code yX6_isFlight cX6_isFlight 2 (some FieldType.boolean) ∈ lw_all := lw_mem 877 (by decide +kernel) rfl
theorem tw_845 : Cond.methodLink RX6 52 yX6_isIn ∈ lw_all := lw_mem 878 (by decide +kernel) rfl
theorem tw_846 : Cond.static yX6_isIn ∈ lw_all := lw_mem 879 (by decide +kernel) rfl
theorem tw_847 : Cond.code yX6_isIn cX6_isIn 3 (some FieldType.boolean) ∈ lw_all := lw_mem 880 (by decide +kernel) rfl
theorem tw_848 : Cond.methodLink RX6 118 yX6_isChute ∈ lw_all := lw_mem 881 (by decide +kernel) rfl
theorem tw_849 : Cond.static yX6_isChute ∈ lw_all := lw_mem 882 (by decide +kernel) rfl
theorem tw_850 : Cond.code yX6_isChute cX6_isChute 1 (some FieldType.boolean) ∈ lw_all := lw_mem 883 (by decide +kernel) rfl
theorem tw_851 : Cond.methodLink RL 127 yX6_setReader ∈ lw_all := lw_mem 884 (by decide +kernel) rfl
theorem tw_852 : Cond.instanceMethod yX6_setReader ∈ lw_all := lw_mem 885 (by decide +kernel) rfl
theorem tw_853 : Cond.selects RX6 yX6_setReader yX6_setReader ∈ lw_all := lw_mem 886 (by decide +kernel) rfl
theorem tw_854 : Cond.code yX6_setReader cX6_setReader 3 (some FieldType.int) ∈ lw_all := lw_mem 887 (by decide +kernel) rfl
theorem tw_855 : Cond.methodLink RL 130 yX6_setRoom ∈ lw_all := lw_mem 888 (by decide +kernel) rfl
theorem tw_856 : Cond.instanceMethod yX6_setRoom ∈ lw_all := lw_mem 889 (by decide +kernel) rfl
theorem tw_857 : Cond.selects RX6 yX6_setRoom yX6_setRoom ∈ lw_all := lw_mem 890 (by decide +kernel) rfl
theorem tw_858 : Cond.code yX6_setRoom cX6_setRoom 4 (some FieldType.int) ∈ lw_all := lw_mem 891 (by decide +kernel) rfl
theorem tw_859 : Cond.methodLink RL 134 yX6_checkIn ∈ lw_all := lw_mem 892 (by decide +kernel) rfl
theorem tw_860 : Cond.instanceMethod yX6_checkIn ∈ lw_all := lw_mem 893 (by decide +kernel) rfl
theorem tw_861 : Cond.selects RX6 yX6_checkIn yX6_checkIn ∈ lw_all := lw_mem 894 (by decide +kernel) rfl
theorem tw_862 : Cond.code yX6_checkIn cX6_checkIn 4 (some FieldType.int) ∈ lw_all := lw_mem 895 (by decide +kernel) rfl
theorem tw_863 : Cond.methodLink RX6 125 yX6_begin ∈ lw_all := lw_mem 896 (by decide +kernel) rfl
theorem tw_865 : Cond.instanceMethod yX6_begin ∈ lw_all := lw_mem 898 (by decide +kernel) rfl
theorem tw_866 : Cond.code yX6_begin cX6_begin 2 none ∈ lw_all := lw_mem 899 (by decide +kernel) rfl
theorem tw_867 : Cond.methodLink RX6 68 yX5_put ∈ lw_all := lw_mem 900 (by decide +kernel) rfl
theorem tw_868 : Cond.instanceMethod yX5_put ∈ lw_all := lw_mem 901 (by decide +kernel) rfl
theorem tw_869 : Cond.selects RX5 yX5_put yX5_put ∈ lw_all := lw_mem 902 (by decide +kernel) rfl
theorem tw_870 : Cond.code yX5_put cX5_put 4 none ∈ lw_all := lw_mem 903 (by decide +kernel) rfl
theorem tw_871 : Cond.methodLink RX6 121 yX5_toLine ∈ lw_all := lw_mem 904 (by decide +kernel) rfl
theorem tw_872 : Cond.instanceMethod yX5_toLine ∈ lw_all := lw_mem 905 (by decide +kernel) rfl
theorem tw_873 : Cond.selects RX5 yX5_toLine yX5_toLine ∈ lw_all := lw_mem 906 (by decide +kernel) rfl
theorem tw_874 : Cond.code yX5_toLine cX5_toLine 2 none ∈ lw_all := lw_mem 907 (by decide +kernel) rfl
theorem tw_875 : Cond.methodLink RX5 50 yX5_put ∈ lw_all := lw_mem 908 (by decide +kernel) rfl
theorem tw_876 : Cond.methodLink RL 137 yX6_carry ∈ lw_all := lw_mem 909 (by decide +kernel) rfl
theorem tw_877 : Cond.instanceMethod yX6_carry ∈ lw_all := lw_mem 910 (by decide +kernel) rfl
theorem tw_878 : Cond.selects RX6 yX6_carry yX6_carry ∈ lw_all := lw_mem 911 (by decide +kernel) rfl
theorem tw_879 : Cond.code yX6_carry cX6_carry 4 (some FieldType.int) ∈ lw_all := lw_mem 912 (by decide +kernel) rfl
theorem tw_880 : Cond.methodLink RX6 128 yX6_isBag ∈ lw_all := lw_mem 913 (by decide +kernel) rfl
theorem tw_882 : Cond.instanceMethod yX6_isBag ∈ lw_all := lw_mem 915 (by decide +kernel) rfl
theorem tw_883 : Cond.code yX6_isBag cX6_isBag 2 (some FieldType.boolean) ∈ lw_all := lw_mem 916 (by decide +kernel) rfl
theorem tw_884 : Cond.methodLink RX6 131 yX6_isAside ∈ lw_all := lw_mem 917 (by decide +kernel) rfl
theorem tw_886 : Cond.instanceMethod yX6_isAside ∈ lw_all := lw_mem 919 (by decide +kernel) rfl
theorem tw_887 : Cond.code yX6_isAside cX6_isAside 2 (some FieldType.boolean) ∈ lw_all := lw_mem 920 (by decide +kernel) rfl
theorem tw_888 : Cond.methodLink RX6 75 yX5_toChute ∈ lw_all := lw_mem 921 (by decide +kernel) rfl
theorem tw_889 : Cond.instanceMethod yX5_toChute ∈ lw_all := lw_mem 922 (by decide +kernel) rfl
theorem tw_890 : Cond.selects RX5 yX5_toChute yX5_toChute ∈ lw_all := lw_mem 923 (by decide +kernel) rfl
theorem tw_891 : Cond.code yX5_toChute cX5_toChute 3 none ∈ lw_all := lw_mem 924 (by decide +kernel) rfl
theorem tw_892 : Cond.methodLink RL 140 yX6_forward ∈ lw_all := lw_mem 925 (by decide +kernel) rfl
theorem tw_893 : Cond.instanceMethod yX6_forward ∈ lw_all := lw_mem 926 (by decide +kernel) rfl
theorem tw_894 : Cond.selects RX6 yX6_forward yX6_forward ∈ lw_all := lw_mem 927 (by decide +kernel) rfl
theorem tw_895 : Cond.code yX6_forward cX6_forward 3 (some FieldType.int) ∈ lw_all := lw_mem 928 (by decide +kernel) rfl
theorem tw_896 : Cond.methodLink RX6 134 yX6_close ∈ lw_all := lw_mem 929 (by decide +kernel) rfl
theorem tw_898 : Cond.instanceMethod yX6_close ∈ lw_all := lw_mem 931 (by decide +kernel) rfl
theorem tw_899 : Cond.code yX6_close cX6_close 2 none ∈ lw_all := lw_mem 932 (by decide +kernel) rfl
theorem tw_900 : Cond.methodLink RL 143 yX6_sweep ∈ lw_all := lw_mem 933 (by decide +kernel) rfl
theorem tw_901 : Cond.instanceMethod yX6_sweep ∈ lw_all := lw_mem 934 (by decide +kernel) rfl
theorem tw_902 : Cond.selects RX6 yX6_sweep yX6_sweep ∈ lw_all := lw_mem 935 (by decide +kernel) rfl
theorem tw_903 : Cond.code yX6_sweep cX6_sweep 4 (some FieldType.int) ∈ lw_all := lw_mem 936 (by decide +kernel) rfl
theorem tw_904 : Cond.methodLink RX6 137 yX6_misrouted ∈ lw_all := lw_mem 937 (by decide +kernel) rfl
theorem tw_906 : Cond.instanceMethod yX6_misrouted ∈ lw_all := lw_mem 939 (by decide +kernel) rfl
theorem tw_907 : Cond.code yX6_misrouted cX6_misrouted 2 (some FieldType.boolean) ∈ lw_all := lw_mem 940 (by decide +kernel) rfl
theorem tw_908 : Cond.methodLink RL 146 yX6_depart ∈ lw_all := lw_mem 941 (by decide +kernel) rfl
theorem tw_909 : Cond.instanceMethod yX6_depart ∈ lw_all := lw_mem 942 (by decide +kernel) rfl
theorem tw_910 : Cond.selects RX6 yX6_depart yX6_depart ∈ lw_all := lw_mem 943 (by decide +kernel) rfl
theorem tw_911 : Cond.code yX6_depart cX6_depart 4 (some FieldType.int) ∈ lw_all := lw_mem 944 (by decide +kernel) rfl
theorem tw_912 : Cond.methodLink RX6 140 yX6_isInItsChute ∈ lw_all := lw_mem 945 (by decide +kernel) rfl
theorem tw_914 : Cond.instanceMethod yX6_isInItsChute ∈ lw_all := lw_mem 947 (by decide +kernel) rfl
theorem tw_915 : Cond.code yX6_isInItsChute cX6_isInItsChute 2 (some FieldType.boolean) ∈ lw_all := lw_mem 948 (by decide +kernel) rfl
theorem tw_916 : Cond.methodLink RL 149 yX6_pass ∈ lw_all := lw_mem 949 (by decide +kernel) rfl
theorem tw_917 : Cond.instanceMethod yX6_pass ∈ lw_all := lw_mem 950 (by decide +kernel) rfl
theorem tw_918 : Cond.selects RX6 yX6_pass yX6_pass ∈ lw_all := lw_mem 951 (by decide +kernel) rfl
theorem tw_919 : Cond.code yX6_pass cX6_pass 2 (some FieldType.int) ∈ lw_all := lw_mem 952 (by decide +kernel) rfl
theorem tw_920 : Cond.methodLink RX6 143 yX6_minutesOn ∈ lw_all := lw_mem 953 (by decide +kernel) rfl
theorem tw_922 : Cond.instanceMethod yX6_minutesOn ∈ lw_all := lw_mem 955 (by decide +kernel) rfl
theorem tw_923 : Cond.code yX6_minutesOn cX6_minutesOn 5 (some FieldType.int) ∈ lw_all := lw_mem 956 (by decide +kernel) rfl
theorem tw_924 : Cond.methodLink RX6 100 yX6_minuteOn ∈ lw_all := lw_mem 957 (by decide +kernel) rfl
theorem tw_926 : Cond.instanceMethod yX6_minuteOn ∈ lw_all := lw_mem 959 (by decide +kernel) rfl
theorem tw_927 : Cond.code yX6_minuteOn cX6_minuteOn 4 (some FieldType.int) ∈ lw_all := lw_mem 960 (by decide +kernel) rfl
theorem tw_928 : Cond.methodLink RX6 79 yX5_turnRound ∈ lw_all := lw_mem 961 (by decide +kernel) rfl
theorem tw_929 : Cond.instanceMethod yX5_turnRound ∈ lw_all := lw_mem 962 (by decide +kernel) rfl
theorem tw_930 : Cond.selects RX5 yX5_turnRound yX5_turnRound ∈ lw_all := lw_mem 963 (by decide +kernel) rfl
theorem tw_931 : Cond.code yX5_turnRound cX5_turnRound 3 none ∈ lw_all := lw_mem 964 (by decide +kernel) rfl
theorem tw_932 : Cond.methodLink RX5 33 ⟨"java/lang/System", "arraycopy", "(Ljava/lang/Object;ILjava/lang/Object;II)V"⟩ ∈ lw_all := lw_mem 965 (by decide +kernel) rfl
theorem tw_933 : Cond.methodLink RX6 82 yX6_readAt ∈ lw_all := lw_mem 966 (by decide +kernel) rfl
theorem tw_935 : Cond.instanceMethod yX6_readAt ∈ lw_all := lw_mem 968 (by decide +kernel) rfl
theorem tw_936 : Cond.code yX6_readAt cX6_readAt 4 none ∈ lw_all := lw_mem 969 (by decide +kernel) rfl
theorem tw_937 : Cond.methodLink RX6 86 yX6_slide ∈ lw_all := lw_mem 970 (by decide +kernel) rfl
theorem tw_939 : Cond.instanceMethod yX6_slide ∈ lw_all := lw_mem 972 (by decide +kernel) rfl
theorem tw_940 : Cond.code yX6_slide cX6_slide 5 (some FieldType.int) ∈ lw_all := lw_mem 973 (by decide +kernel) rfl
theorem tw_941 : Cond.methodLink RX6 93 yX5_firstInLine ∈ lw_all := lw_mem 974 (by decide +kernel) rfl
theorem tw_942 : Cond.instanceMethod yX5_firstInLine ∈ lw_all := lw_mem 975 (by decide +kernel) rfl
theorem tw_943 : Cond.selects RX5 yX5_firstInLine yX5_firstInLine ∈ lw_all := lw_mem 976 (by decide +kernel) rfl
theorem tw_944 : Cond.code yX5_firstInLine cX5_firstInLine 2 (some FieldType.int) ∈ lw_all := lw_mem 977 (by decide +kernel) rfl
theorem tw_945 : Cond.methodLink RL 152 yX6_flightOf ∈ lw_all := lw_mem 978 (by decide +kernel) rfl
theorem tw_946 : Cond.instanceMethod yX6_flightOf ∈ lw_all := lw_mem 979 (by decide +kernel) rfl
theorem tw_947 : Cond.selects RX6 yX6_flightOf yX6_flightOf ∈ lw_all := lw_mem 980 (by decide +kernel) rfl
theorem tw_948 : Cond.code yX6_flightOf cX6_flightOf 2 (some FieldType.int) ∈ lw_all := lw_mem 981 (by decide +kernel) rfl
theorem tw_949 : Cond.methodLink RL 155 yX6_whereIs ∈ lw_all := lw_mem 982 (by decide +kernel) rfl
theorem tw_950 : Cond.instanceMethod yX6_whereIs ∈ lw_all := lw_mem 983 (by decide +kernel) rfl
theorem tw_951 : Cond.selects RX6 yX6_whereIs yX6_whereIs ∈ lw_all := lw_mem 984 (by decide +kernel) rfl
theorem tw_952 : Cond.code yX6_whereIs cX6_whereIs 2 (some FieldType.int) ∈ lw_all := lw_mem 985 (by decide +kernel) rfl
theorem tw_953 : Cond.methodLink RL 158 yX6_placeOf ∈ lw_all := lw_mem 986 (by decide +kernel) rfl
theorem tw_954 : Cond.instanceMethod yX6_placeOf ∈ lw_all := lw_mem 987 (by decide +kernel) rfl
theorem tw_955 : Cond.selects RX6 yX6_placeOf yX6_placeOf ∈ lw_all := lw_mem 988 (by decide +kernel) rfl
theorem tw_956 : Cond.code yX6_placeOf cX6_placeOf 2 (some FieldType.int) ∈ lw_all := lw_mem 989 (by decide +kernel) rfl
theorem tw_957 : Cond.methodLink RX6 146 yX6_placed ∈ lw_all := lw_mem 990 (by decide +kernel) rfl
theorem tw_959 : Cond.instanceMethod yX6_placed ∈ lw_all := lw_mem 992 (by decide +kernel) rfl
theorem tw_960 : Cond.code yX6_placed cX6_placed 3 (some FieldType.int) ∈ lw_all := lw_mem 993 (by decide +kernel) rfl
theorem tw_961 : Cond.methodLink RL 161 yX6_chuteOf ∈ lw_all := lw_mem 994 (by decide +kernel) rfl
theorem tw_962 : Cond.instanceMethod yX6_chuteOf ∈ lw_all := lw_mem 995 (by decide +kernel) rfl
theorem tw_963 : Cond.selects RX6 yX6_chuteOf yX6_chuteOf ∈ lw_all := lw_mem 996 (by decide +kernel) rfl
theorem tw_964 : Cond.code yX6_chuteOf cX6_chuteOf 2 (some FieldType.int) ∈ lw_all := lw_mem 997 (by decide +kernel) rfl
theorem tw_965 : Cond.methodLink RL 164 yX6_readFor ∈ lw_all := lw_mem 998 (by decide +kernel) rfl
theorem tw_966 : Cond.instanceMethod yX6_readFor ∈ lw_all := lw_mem 999 (by decide +kernel) rfl
theorem tw_967 : Cond.selects RX6 yX6_readFor yX6_readFor ∈ lw_all := lw_mem 1000 (by decide +kernel) rfl
theorem tw_968 : Cond.code yX6_readFor cX6_readFor 2 (some FieldType.int) ∈ lw_all := lw_mem 1001 (by decide +kernel) rfl
theorem tw_969 : Cond.methodLink RL 167 yX6_missesOf ∈ lw_all := lw_mem 1002 (by decide +kernel) rfl
theorem tw_970 : Cond.instanceMethod yX6_missesOf ∈ lw_all := lw_mem 1003 (by decide +kernel) rfl
theorem tw_971 : Cond.selects RX6 yX6_missesOf yX6_missesOf ∈ lw_all := lw_mem 1004 (by decide +kernel) rfl
theorem tw_972 : Cond.code yX6_missesOf cX6_missesOf 2 (some FieldType.int) ∈ lw_all := lw_mem 1005 (by decide +kernel) rfl
theorem tw_973 : Cond.methodLink RL 170 yX6_isMisrouted ∈ lw_all := lw_mem 1006 (by decide +kernel) rfl
theorem tw_974 : Cond.instanceMethod yX6_isMisrouted ∈ lw_all := lw_mem 1007 (by decide +kernel) rfl
theorem tw_975 : Cond.selects RX6 yX6_isMisrouted yX6_isMisrouted ∈ lw_all := lw_mem 1008 (by decide +kernel) rfl
theorem tw_976 : Cond.code yX6_isMisrouted cX6_isMisrouted 2 (some FieldType.boolean) ∈ lw_all := lw_mem 1009 (by decide +kernel) rfl
theorem tw_977 : Cond.methodLink RX6 150 yX6_isNot ∈ lw_all := lw_mem 1010 (by decide +kernel) rfl
theorem tw_979 : Cond.instanceMethod yX6_isNot ∈ lw_all := lw_mem 1012 (by decide +kernel) rfl
theorem tw_980 : Cond.code yX6_isNot cX6_isNot 2 (some FieldType.boolean) ∈ lw_all := lw_mem 1013 (by decide +kernel) rfl
theorem tw_981 : Cond.methodLink RL 173 yX6_hasOpenFile ∈ lw_all := lw_mem 1014 (by decide +kernel) rfl
theorem tw_982 : Cond.instanceMethod yX6_hasOpenFile ∈ lw_all := lw_mem 1015 (by decide +kernel) rfl
theorem tw_983 : Cond.selects RX6 yX6_hasOpenFile yX6_hasOpenFile ∈ lw_all := lw_mem 1016 (by decide +kernel) rfl
theorem tw_984 : Cond.code yX6_hasOpenFile cX6_hasOpenFile 2 (some FieldType.boolean) ∈ lw_all := lw_mem 1017 (by decide +kernel) rfl
theorem tw_985 : Cond.methodLink RL 176 yX6_bagAt ∈ lw_all := lw_mem 1018 (by decide +kernel) rfl
theorem tw_986 : Cond.instanceMethod yX6_bagAt ∈ lw_all := lw_mem 1019 (by decide +kernel) rfl
theorem tw_987 : Cond.selects RX6 yX6_bagAt yX6_bagAt ∈ lw_all := lw_mem 1020 (by decide +kernel) rfl
theorem tw_988 : Cond.code yX6_bagAt cX6_bagAt 2 (some FieldType.int) ∈ lw_all := lw_mem 1021 (by decide +kernel) rfl
theorem tw_989 : Cond.methodLink RL 179 yX6_bagsIn ∈ lw_all := lw_mem 1022 (by decide +kernel) rfl
theorem tw_990 : Cond.instanceMethod yX6_bagsIn ∈ lw_all := lw_mem 1023 (by decide +kernel) rfl
theorem tw_991 : Cond.selects RX6 yX6_bagsIn yX6_bagsIn ∈ lw_all := lw_mem 1024 (by decide +kernel) rfl
theorem tw_992 : Cond.code yX6_bagsIn cX6_bagsIn 2 (some FieldType.int) ∈ lw_all := lw_mem 1025 (by decide +kernel) rfl
theorem tw_993 : Cond.methodLink RL 182 yX6_misroutedIn ∈ lw_all := lw_mem 1026 (by decide +kernel) rfl
theorem tw_994 : Cond.instanceMethod yX6_misroutedIn ∈ lw_all := lw_mem 1027 (by decide +kernel) rfl
theorem tw_995 : Cond.selects RX6 yX6_misroutedIn yX6_misroutedIn ∈ lw_all := lw_mem 1028 (by decide +kernel) rfl
theorem tw_996 : Cond.code yX6_misroutedIn cX6_misroutedIn 2 (some FieldType.int) ∈ lw_all := lw_mem 1029 (by decide +kernel) rfl
theorem tw_997 : Cond.methodLink RX6 153 yX6_badIn ∈ lw_all := lw_mem 1030 (by decide +kernel) rfl
theorem tw_999 : Cond.instanceMethod yX6_badIn ∈ lw_all := lw_mem 1032 (by decide +kernel) rfl
theorem tw_1000 : Cond.code yX6_badIn cX6_badIn 4 (some FieldType.int) ∈ lw_all := lw_mem 1033 (by decide +kernel) rfl
theorem tw_1001 : Cond.methodLink RL 185 yX6_roomOf ∈ lw_all := lw_mem 1034 (by decide +kernel) rfl
theorem tw_1002 : Cond.instanceMethod yX6_roomOf ∈ lw_all := lw_mem 1035 (by decide +kernel) rfl
theorem tw_1003 : Cond.selects RX6 yX6_roomOf yX6_roomOf ∈ lw_all := lw_mem 1036 (by decide +kernel) rfl
theorem tw_1004 : Cond.code yX6_roomOf cX6_roomOf 2 (some FieldType.int) ∈ lw_all := lw_mem 1037 (by decide +kernel) rfl
theorem tw_1005 : Cond.methodLink RL 188 yX6_chuteOfFlight ∈ lw_all := lw_mem 1038 (by decide +kernel) rfl
theorem tw_1006 : Cond.instanceMethod yX6_chuteOfFlight ∈ lw_all := lw_mem 1039 (by decide +kernel) rfl
theorem tw_1007 : Cond.selects RX6 yX6_chuteOfFlight yX6_chuteOfFlight ∈ lw_all := lw_mem 1040 (by decide +kernel) rfl
theorem tw_1008 : Cond.code yX6_chuteOfFlight cX6_chuteOfFlight 2 (some FieldType.int) ∈ lw_all := lw_mem 1041 (by decide +kernel) rfl
theorem tw_1009 : Cond.methodLink RL 191 yX6_isGone ∈ lw_all := lw_mem 1042 (by decide +kernel) rfl
theorem tw_1010 : Cond.instanceMethod yX6_isGone ∈ lw_all := lw_mem 1043 (by decide +kernel) rfl
theorem tw_1011 : Cond.selects RX6 yX6_isGone yX6_isGone ∈ lw_all := lw_mem 1044 (by decide +kernel) rfl
theorem tw_1012 : Cond.code yX6_isGone cX6_isGone 2 (some FieldType.boolean) ∈ lw_all := lw_mem 1045 (by decide +kernel) rfl
theorem tw_1013 : Cond.methodLink RL 194 yX6_readyOf ∈ lw_all := lw_mem 1046 (by decide +kernel) rfl
theorem tw_1014 : Cond.instanceMethod yX6_readyOf ∈ lw_all := lw_mem 1047 (by decide +kernel) rfl
theorem tw_1015 : Cond.selects RX6 yX6_readyOf yX6_readyOf ∈ lw_all := lw_mem 1048 (by decide +kernel) rfl
theorem tw_1016 : Cond.code yX6_readyOf cX6_readyOf 2 (some FieldType.int) ∈ lw_all := lw_mem 1049 (by decide +kernel) rfl
theorem tw_1017 : Cond.methodLink RX6 156 yX6_readyIn ∈ lw_all := lw_mem 1050 (by decide +kernel) rfl
theorem tw_1019 : Cond.instanceMethod yX6_readyIn ∈ lw_all := lw_mem 1052 (by decide +kernel) rfl
theorem tw_1020 : Cond.code yX6_readyIn cX6_readyIn 5 (some FieldType.int) ∈ lw_all := lw_mem 1053 (by decide +kernel) rfl
theorem tw_1021 : Cond.methodLink RL 197 yX6_missingOf ∈ lw_all := lw_mem 1054 (by decide +kernel) rfl
theorem tw_1022 : Cond.instanceMethod yX6_missingOf ∈ lw_all := lw_mem 1055 (by decide +kernel) rfl
theorem tw_1023 : Cond.selects RX6 yX6_missingOf yX6_missingOf ∈ lw_all := lw_mem 1056 (by decide +kernel) rfl
theorem tw_1024 : Cond.code yX6_missingOf cX6_missingOf 2 (some FieldType.int) ∈ lw_all := lw_mem 1057 (by decide +kernel) rfl
theorem tw_1025 : Cond.methodLink RX6 159 yX6_missing ∈ lw_all := lw_mem 1058 (by decide +kernel) rfl
theorem tw_1027 : Cond.instanceMethod yX6_missing ∈ lw_all := lw_mem 1060 (by decide +kernel) rfl
theorem tw_1028 : Cond.code yX6_missing cX6_missing 4 (some FieldType.int) ∈ lw_all := lw_mem 1061 (by decide +kernel) rfl
theorem tw_1029 : Cond.methodLink RL 201 yX6_minute ∈ lw_all := lw_mem 1062 (by decide +kernel) rfl
theorem tw_1030 : Cond.instanceMethod yX6_minute ∈ lw_all := lw_mem 1063 (by decide +kernel) rfl
theorem tw_1031 : Cond.selects RX6 yX6_minute yX6_minute ∈ lw_all := lw_mem 1064 (by decide +kernel) rfl
theorem tw_1032 : Cond.code yX6_minute cX6_minute 1 (some FieldType.int) ∈ lw_all := lw_mem 1065 (by decide +kernel) rfl
theorem tw_1033 : Cond.methodLink RX6 162 yX6_ok ∈ lw_all := lw_mem 1066 (by decide +kernel) rfl
theorem tw_1035 : Cond.instanceMethod yX6_ok ∈ lw_all := lw_mem 1068 (by decide +kernel) rfl
theorem tw_1036 : Cond.code yX6_ok cX6_ok 2 (some FieldType.int) ∈ lw_all := lw_mem 1069 (by decide +kernel) rfl
theorem tw_1037 : Cond.methodLink RL 205 yX6_flights ∈ lw_all := lw_mem 1070 (by decide +kernel) rfl
theorem tw_1038 : Cond.instanceMethod yX6_flights ∈ lw_all := lw_mem 1071 (by decide +kernel) rfl
theorem tw_1039 : Cond.selects RX6 yX6_flights yX6_flights ∈ lw_all := lw_mem 1072 (by decide +kernel) rfl
theorem tw_1040 : Cond.code yX6_flights cX6_flights 1 (some FieldType.int) ∈ lw_all := lw_mem 1073 (by decide +kernel) rfl
theorem tw_1041 : Cond.methodLink RL 209 yX6_bags ∈ lw_all := lw_mem 1074 (by decide +kernel) rfl
theorem tw_1042 : Cond.instanceMethod yX6_bags ∈ lw_all := lw_mem 1075 (by decide +kernel) rfl
theorem tw_1043 : Cond.selects RX6 yX6_bags yX6_bags ∈ lw_all := lw_mem 1076 (by decide +kernel) rfl
theorem tw_1044 : Cond.code yX6_bags cX6_bags 1 (some FieldType.int) ∈ lw_all := lw_mem 1077 (by decide +kernel) rfl
theorem tw_1045 : Cond.methodLink RL 213 yX6_inLine ∈ lw_all := lw_mem 1078 (by decide +kernel) rfl
theorem tw_1046 : Cond.instanceMethod yX6_inLine ∈ lw_all := lw_mem 1079 (by decide +kernel) rfl
theorem tw_1047 : Cond.selects RX6 yX6_inLine yX6_inLine ∈ lw_all := lw_mem 1080 (by decide +kernel) rfl
theorem tw_1048 : Cond.code yX6_inLine cX6_inLine 1 (some FieldType.int) ∈ lw_all := lw_mem 1081 (by decide +kernel) rfl
theorem tw_1049 : Cond.methodLink RL 217 yX6_onBelt ∈ lw_all := lw_mem 1082 (by decide +kernel) rfl
theorem tw_1050 : Cond.instanceMethod yX6_onBelt ∈ lw_all := lw_mem 1083 (by decide +kernel) rfl
theorem tw_1051 : Cond.selects RX6 yX6_onBelt yX6_onBelt ∈ lw_all := lw_mem 1084 (by decide +kernel) rfl
theorem tw_1052 : Cond.code yX6_onBelt cX6_onBelt 1 (some FieldType.int) ∈ lw_all := lw_mem 1085 (by decide +kernel) rfl
theorem tw_1053 : Cond.methodLink RX6 165 yX6_counted ∈ lw_all := lw_mem 1086 (by decide +kernel) rfl
theorem tw_1055 : Cond.instanceMethod yX6_counted ∈ lw_all := lw_mem 1088 (by decide +kernel) rfl
theorem tw_1056 : Cond.code yX6_counted cX6_counted 4 (some FieldType.int) ∈ lw_all := lw_mem 1089 (by decide +kernel) rfl
theorem tw_1057 : Cond.methodLink RL 221 yX6_atDesk ∈ lw_all := lw_mem 1090 (by decide +kernel) rfl
theorem tw_1058 : Cond.instanceMethod yX6_atDesk ∈ lw_all := lw_mem 1091 (by decide +kernel) rfl
theorem tw_1059 : Cond.selects RX6 yX6_atDesk yX6_atDesk ∈ lw_all := lw_mem 1092 (by decide +kernel) rfl
theorem tw_1060 : Cond.code yX6_atDesk cX6_atDesk 1 (some FieldType.int) ∈ lw_all := lw_mem 1093 (by decide +kernel) rfl
theorem tw_1061 : Cond.methodLink RL 225 yX6_openFiles ∈ lw_all := lw_mem 1094 (by decide +kernel) rfl
theorem tw_1062 : Cond.instanceMethod yX6_openFiles ∈ lw_all := lw_mem 1095 (by decide +kernel) rfl
theorem tw_1063 : Cond.selects RX6 yX6_openFiles yX6_openFiles ∈ lw_all := lw_mem 1096 (by decide +kernel) rfl
theorem tw_1064 : Cond.code yX6_openFiles cX6_openFiles 1 (some FieldType.int) ∈ lw_all := lw_mem 1097 (by decide +kernel) rfl
theorem tw_1065 : Cond.methodLink RX6 168 yX6_files ∈ lw_all := lw_mem 1098 (by decide +kernel) rfl
theorem tw_1067 : Cond.instanceMethod yX6_files ∈ lw_all := lw_mem 1100 (by decide +kernel) rfl
theorem tw_1068 : Cond.code yX6_files cX6_files 4 (some FieldType.int) ∈ lw_all := lw_mem 1101 (by decide +kernel) rfl
theorem tw_1069 : Cond.methodLink RL 229 yX6_closedFiles ∈ lw_all := lw_mem 1102 (by decide +kernel) rfl
theorem tw_1070 : Cond.instanceMethod yX6_closedFiles ∈ lw_all := lw_mem 1103 (by decide +kernel) rfl
theorem tw_1071 : Cond.selects RX6 yX6_closedFiles yX6_closedFiles ∈ lw_all := lw_mem 1104 (by decide +kernel) rfl
theorem tw_1072 : Cond.code yX6_closedFiles cX6_closedFiles 1 (some FieldType.int) ∈ lw_all := lw_mem 1105 (by decide +kernel) rfl
theorem tw_1073 : Cond.methodLink RL 233 yX6_reader ∈ lw_all := lw_mem 1106 (by decide +kernel) rfl
theorem tw_1074 : Cond.instanceMethod yX6_reader ∈ lw_all := lw_mem 1107 (by decide +kernel) rfl
theorem tw_1075 : Cond.selects RX6 yX6_reader yX6_reader ∈ lw_all := lw_mem 1108 (by decide +kernel) rfl
theorem tw_1076 : Cond.code yX6_reader cX6_reader 1 (some FieldType.int) ∈ lw_all := lw_mem 1109 (by decide +kernel) rfl
theorem tw_1077 : Cond.methodLink RL 236 yX6_minutesUntilChute ∈ lw_all := lw_mem 1110 (by decide +kernel) rfl
theorem tw_1078 : Cond.instanceMethod yX6_minutesUntilChute ∈ lw_all := lw_mem 1111 (by decide +kernel) rfl
theorem tw_1079 : Cond.selects RX6 yX6_minutesUntilChute yX6_minutesUntilChute ∈ lw_all := lw_mem 1112 (by decide +kernel) rfl
theorem tw_1080 : Cond.code yX6_minutesUntilChute cX6_minutesUntilChute 2 (some FieldType.int) ∈ lw_all := lw_mem 1113 (by decide +kernel) rfl
theorem tw_1081 : Cond.methodLink RX6 174 yX6_untilChute ∈ lw_all := lw_mem 1114 (by decide +kernel) rfl
theorem tw_1083 : Cond.instanceMethod yX6_untilChute ∈ lw_all := lw_mem 1116 (by decide +kernel) rfl
theorem tw_1084 : Cond.code yX6_untilChute cX6_untilChute 3 (some FieldType.int) ∈ lw_all := lw_mem 1117 (by decide +kernel) rfl
theorem tw_1085 : Cond.methodLink RX6 171 yX5_become ∈ lw_all := lw_mem 1118 (by decide +kernel) rfl
theorem tw_1086 : Cond.instanceMethod yX5_become ∈ lw_all := lw_mem 1119 (by decide +kernel) rfl
theorem tw_1087 : Cond.selects RX5 yX5_become yX5_become ∈ lw_all := lw_mem 1120 (by decide +kernel) rfl
theorem tw_1088 : Cond.code yX5_become cX5_become 2 none ∈ lw_all := lw_mem 1121 (by decide +kernel) rfl
theorem tw_1089 : Cond.methodLink RX5 46 yX5_copy ∈ lw_all := lw_mem 1122 (by decide +kernel) rfl
theorem tw_1090 : Cond.static yX5_copy ∈ lw_all := lw_mem 1123 (by decide +kernel) rfl
theorem tw_1091 : Cond.code yX5_copy cX5_copy 2 none ∈ lw_all := lw_mem 1124 (by decide +kernel) rfl
theorem tw_1092 : Cond.methodLink RL 239 yX6_readyAfter ∈ lw_all := lw_mem 1125 (by decide +kernel) rfl
theorem tw_1093 : Cond.instanceMethod yX6_readyAfter ∈ lw_all := lw_mem 1126 (by decide +kernel) rfl
theorem tw_1094 : Cond.selects RX6 yX6_readyAfter yX6_readyAfter ∈ lw_all := lw_mem 1127 (by decide +kernel) rfl
theorem tw_1095 : Cond.code yX6_readyAfter cX6_readyAfter 3 (some FieldType.int) ∈ lw_all := lw_mem 1128 (by decide +kernel) rfl
theorem tw_1096 : Cond.methodLink RX6 177 yX6_readyBehind ∈ lw_all := lw_mem 1129 (by decide +kernel) rfl
theorem tw_1098 : Cond.instanceMethod yX6_readyBehind ∈ lw_all := lw_mem 1131 (by decide +kernel) rfl
theorem tw_1099 : Cond.code yX6_readyBehind cX6_readyBehind 3 (some FieldType.int) ∈ lw_all := lw_mem 1132 (by decide +kernel) rfl
theorem tw_1100 : Cond.methodLink RL 242 yX6_bestChute ∈ lw_all := lw_mem 1133 (by decide +kernel) rfl
theorem tw_1101 : Cond.instanceMethod yX6_bestChute ∈ lw_all := lw_mem 1134 (by decide +kernel) rfl
theorem tw_1102 : Cond.selects RX6 yX6_bestChute yX6_bestChute ∈ lw_all := lw_mem 1135 (by decide +kernel) rfl
theorem tw_1103 : Cond.code yX6_bestChute cX6_bestChute 3 (some FieldType.int) ∈ lw_all := lw_mem 1136 (by decide +kernel) rfl
theorem tw_1104 : Cond.methodLink RX6 180 yX6_best ∈ lw_all := lw_mem 1137 (by decide +kernel) rfl
theorem tw_1106 : Cond.instanceMethod yX6_best ∈ lw_all := lw_mem 1139 (by decide +kernel) rfl
theorem tw_1107 : Cond.code yX6_best cX6_best 8 (some FieldType.int) ∈ lw_all := lw_mem 1140 (by decide +kernel) rfl
theorem tw_1108 : Cond.methodLink RL 247 yX6_meanMisses ∈ lw_all := lw_mem 1141 (by decide +kernel) rfl
theorem tw_1109 : Cond.instanceMethod yX6_meanMisses ∈ lw_all := lw_mem 1142 (by decide +kernel) rfl
theorem tw_1110 : Cond.selects RX6 yX6_meanMisses yX6_meanMisses ∈ lw_all := lw_mem 1143 (by decide +kernel) rfl
theorem tw_1111 : Cond.code yX6_meanMisses cX6_meanMisses 3 (some FieldType.double) ∈ lw_all := lw_mem 1144 (by decide +kernel) rfl
theorem tw_1112 : Cond.methodLink RL 252 yX6_digest ∈ lw_all := lw_mem 1145 (by decide +kernel) rfl
theorem tw_1113 : Cond.instanceMethod yX6_digest ∈ lw_all := lw_mem 1146 (by decide +kernel) rfl
theorem tw_1114 : Cond.selects RX6 yX6_digest yX6_digest ∈ lw_all := lw_mem 1147 (by decide +kernel) rfl
theorem tw_1115 : Cond.code yX6_digest cX6_digest 4 (some FieldType.long) ∈ lw_all := lw_mem 1148 (by decide +kernel) rfl
theorem tw_1116 : Cond.constantLong RX6 185 (1867 : Int64) ∈ lw_all := lw_mem 1149 (by decide +kernel) rfl
theorem tw_1117 : Cond.methodLink RX6 187 yX6_on ∈ lw_all := lw_mem 1150 (by decide +kernel) rfl
theorem tw_1118 : Cond.static yX6_on ∈ lw_all := lw_mem 1151 (by decide +kernel) rfl
theorem tw_1119 : Cond.code yX6_on cX6_on 3 (some FieldType.long) ∈ lw_all := lw_mem 1152 (by decide +kernel) rfl
theorem tw_1120 : Cond.constantLong RX6 183 (31 : Int64) ∈ lw_all := lw_mem 1153 (by decide +kernel) rfl
theorem tw_1121 : Cond.methodLink RX6 191 yX6_one ∈ lw_all := lw_mem 1154 (by decide +kernel) rfl
theorem tw_1122 : Cond.static yX6_one ∈ lw_all := lw_mem 1155 (by decide +kernel) rfl
theorem tw_1123 : Cond.code yX6_one cX6_one 1 (some FieldType.int) ∈ lw_all := lw_mem 1156 (by decide +kernel) rfl
theorem tw_1124 : Cond.arrayClass FieldType.long ∈ lw_all := lw_mem 1157 (by decide +kernel) rfl
theorem tu_0 : ∀ w ∈ u_ws RX0 TX0 9, w ∈ lw_all := lw_sub [131, 133, 135, 137, 139, 141, 143, 145, 147] (by decide +kernel) (by decide +kernel)
theorem tu_1 : ∀ w ∈ u_ws RX1 TX1 3, w ∈ lw_all := lw_sub [91, 93, 95] (by decide +kernel) (by decide +kernel)
theorem tu_2 : ∀ w ∈ u_ws RX2 TX2 8, w ∈ lw_all := lw_sub [167, 169, 171, 173, 175, 177, 179, 181] (by decide +kernel) (by decide +kernel)
theorem tu_3 : ∀ w ∈ u_ws RX3 TX3 1, w ∈ lw_all := lw_sub [80] (by decide +kernel) (by decide +kernel)
theorem tu_4 : ∀ w ∈ u_ws RX4 TX4 2, w ∈ lw_all := lw_sub [186, 188] (by decide +kernel) (by decide +kernel)
theorem tu_5 : ∀ w ∈ u_ws RX5 TX5 9, w ∈ lw_all := lw_sub [798, 800, 802, 804, 806, 808, 810, 812, 814] (by decide +kernel) (by decide +kernel)
theorem tu_6 : ∀ w ∈ u_ws RX6 TX6 13, w ∈ lw_all := lw_sub [831, 833, 835, 837, 839, 841, 843, 845, 847, 849, 851, 853, 855] (by decide +kernel) (by decide +kernel)
theorem gc_RX3_15 : GoodIn lw_all (va_wsS RX3 15 yJ7_fill_53178 (ws_ yJ7_fill_53178 cJ7_fill_53178 4 none)) := lw_S tw_43 tw_44 tw_5 tw_45
theorem gc_RL_198 : GoodIn lw_all (wsV RL 198 RX4 yX4_minute (ws_ yX4_minute cX4_minute 1 (some FieldType.int))) := lw_V tw_158 tw_159 tw_160 tw_1 tw_161
theorem gc_RL_202 : GoodIn lw_all (wsV RL 202 RX4 yX4_flights (ws_ yX4_flights cX4_flights 1 (some FieldType.int))) := lw_V tw_162 tw_163 tw_164 tw_1 tw_165
theorem gc_RL_206 : GoodIn lw_all (wsV RL 206 RX4 yX4_bags (ws_ yX4_bags cX4_bags 1 (some FieldType.int))) := lw_V tw_166 tw_167 tw_168 tw_1 tw_169
theorem gc_RL_210 : GoodIn lw_all (wsV RL 210 RX4 yX4_inLine (ws_ yX4_inLine cX4_inLine 1 (some FieldType.int))) := lw_V tw_170 tw_171 tw_172 tw_1 tw_173
theorem gc_RX4_169 : GoodIn lw_all (wsV RX4 169 RX3 yX3_count (ws_ yX3_count cX3_count 7 (some FieldType.int))) := lw_V tw_174 tw_175 tw_176 tw_4 tw_177
theorem gc_RL_214 : GoodIn lw_all (wsV RL 214 RX4 yX4_onBelt (ws_ yX4_onBelt cX4_onBelt 1 (some FieldType.int))) := lw_V tw_178 tw_179 tw_180 tw_1 tw_181
theorem gc_RL_218 : GoodIn lw_all (wsV RL 218 RX4 yX4_atDesk (ws_ yX4_atDesk cX4_atDesk 1 (some FieldType.int))) := lw_V tw_182 tw_183 tw_184 tw_1 tw_185
theorem gc_RL_222 : GoodIn lw_all (wsV RL 222 RX4 yX4_openFiles (ws_ yX4_openFiles cX4_openFiles 1 (some FieldType.int))) := lw_V tw_186 tw_187 tw_188 tw_1 tw_189
theorem gc_RL_226 : GoodIn lw_all (wsV RL 226 RX4 yX4_closedFiles (ws_ yX4_closedFiles cX4_closedFiles 1 (some FieldType.int))) := lw_V tw_190 tw_191 tw_192 tw_1 tw_193
theorem gc_RL_230 : GoodIn lw_all (wsV RL 230 RX4 yX4_reader (ws_ yX4_reader cX4_reader 1 (some FieldType.int))) := lw_V tw_194 tw_195 tw_196 tw_1 tw_197
theorem gc_RL_243 : GoodIn lw_all (wsV RL 243 RX4 yX4_meanMisses (ws_ yX4_meanMisses cX4_meanMisses 2 (some FieldType.double))) := lw_V tw_198 tw_199 tw_200 tw_1 tw_201
theorem gc_RX4_193 : GoodIn lw_all (wsV RX4 193 RX3 yX3_sum (ws_ yX3_sum cX3_sum 6 (some FieldType.int))) := lw_V tw_202 tw_203 tw_204 tw_4 tw_205
theorem gc_RL_248 : GoodIn lw_all (wsV RL 248 RX4 yX4_digest (ws_ yX4_digest cX4_digest 4 (some FieldType.long))) := lw_V tw_206 tw_207 tw_208 tw_1 tw_209
theorem gc_RX4_198 : GoodIn lw_all (wsV RX4 198 RX4 yX4_addHall (ws_ yX4_addHall cX4_addHall 5 (some FieldType.long))) := lw_V tw_211 tw_213 tp_0 tw_1 tw_214
theorem gc_RX4_212 : GoodIn lw_all (va_wsS RX4 212 yX4_addNumber (ws_ yX4_addNumber cX4_addNumber 4 (some FieldType.long))) := lw_S tw_215 tw_216 tw_1 tw_217
theorem gc_RX4_202 : GoodIn lw_all (wsV RX4 202 RX4 yX4_addBag (ws_ yX4_addBag cX4_addBag 6 (some FieldType.long))) := lw_V tw_219 tw_221 tp_1 tw_1 tw_222
theorem gc_RX4_68 : GoodIn lw_all (wsV RX4 68 RX3 yX3_at (ws_ yX3_at cX3_at 2 (some FieldType.int))) := lw_V tw_223 tw_224 tw_225 tw_4 tw_226
theorem gc_RX4_145 : GoodIn lw_all (wsV RX4 145 RX2 yX2_findOnBelt (ws_ yX2_findOnBelt cX2_findOnBelt 2 (some FieldType.int))) := lw_V tw_227 tw_228 tw_229 tw_2 tw_230
theorem gc_RX2_143 : GoodIn lw_all (wsV RX2 143 RX3 yX3_find (ws_ yX3_find cX3_find 3 (some FieldType.int))) := lw_V tw_231 tw_232 tw_233 tw_4 tw_234
theorem gc_RX4_155 : GoodIn lw_all (wsV RX4 155 RX2 yX2_isAstray (ws_ yX2_isAstray cX2_isAstray 2 (some FieldType.boolean))) := lw_V tw_235 tw_236 tw_237 tw_2 tw_238
theorem gc_RX2_63 : GoodIn lw_all (wsV RX2 63 RX3 yX3_at (ws_ yX3_at cX3_at 2 (some FieldType.int))) := lw_V tw_239 tw_224 tw_225 tw_4 tw_226
theorem gc_RX2_80 : GoodIn lw_all (wsV RX2 80 RX2 yX2_isInOwnChute (ws_ yX2_isInOwnChute cX2_isInOwnChute 2 (some FieldType.boolean))) := lw_V tw_240 tw_241 tw_242 tw_2 tw_243
theorem gc_RX2_146 : GoodIn lw_all (wsV RX2 146 RX1 yX1_hasLeft (ws_ yX1_hasLeft cX1_hasLeft 2 (some FieldType.boolean))) := lw_V tw_244 tw_245 tw_246 tw_3 tw_247
theorem gc_RX1_27 : GoodIn lw_all (wsV RX1 27 RX3 yX3_at (ws_ yX3_at cX3_at 2 (some FieldType.int))) := lw_V tw_248 tw_224 tw_225 tw_4 tw_226
theorem gc_RX4_206 : GoodIn lw_all (wsV RX4 206 RX4 yX4_addChute (ws_ yX4_addChute cX4_addChute 6 (some FieldType.long))) := lw_V tw_249 tw_251 tp_2 tw_1 tw_252
theorem gc_RX4_171 : GoodIn lw_all (wsV RX4 171 RX2 yX2_countMisrouted (ws_ yX2_countMisrouted cX2_countMisrouted 4 (some FieldType.int))) := lw_V tw_253 tw_254 tw_255 tw_2 tw_256
theorem gc_RX2_88 : GoodIn lw_all (wsV RX2 88 RX2 yX2_isAstray (ws_ yX2_isAstray cX2_isAstray 2 (some FieldType.boolean))) := lw_V tw_257 tw_236 tw_237 tw_2 tw_238
theorem gc_RX4_209 : GoodIn lw_all (wsV RX4 209 RX4 yX4_addOfFlight (ws_ yX4_addOfFlight cX4_addOfFlight 6 (some FieldType.long))) := lw_V tw_258 tw_260 tp_3 tw_1 tw_261
theorem gc_RX4_119 : GoodIn lw_all (wsV RX4 119 RX1 yX1_hasLeft (ws_ yX1_hasLeft cX1_hasLeft 2 (some FieldType.boolean))) := lw_V tw_262 tw_245 tw_246 tw_3 tw_247
theorem gc_RX4_174 : GoodIn lw_all (wsV RX4 174 RX2 yX2_countReady (ws_ yX2_countReady cX2_countReady 4 (some FieldType.int))) := lw_V tw_263 tw_264 tw_265 tw_2 tw_266
theorem gc_RX2_149 : GoodIn lw_all (wsV RX2 149 RX2 yX2_isReady (ws_ yX2_isReady cX2_isReady 2 (some FieldType.boolean))) := lw_V tw_267 tw_268 tw_269 tw_2 tw_270
theorem gc_RX4_177 : GoodIn lw_all (wsV RX4 177 RX2 yX2_countMissing (ws_ yX2_countMissing cX2_countMissing 2 (some FieldType.int))) := lw_V tw_271 tw_272 tw_273 tw_2 tw_274
theorem gc_RX2_141 : GoodIn lw_all (wsV RX2 141 RX3 yX3_count (ws_ yX3_count cX3_count 7 (some FieldType.int))) := lw_V tw_275 tw_175 tw_176 tw_4 tw_177
theorem gc_RX2_152 : GoodIn lw_all (wsV RX2 152 RX2 yX2_countReady (ws_ yX2_countReady cX2_countReady 4 (some FieldType.int))) := lw_V tw_276 tw_264 tw_265 tw_2 tw_266
theorem gc_RL_7 : GoodIn lw_all (wsV RL 7 RX4 yX4_addFlight (ws_ yX4_addFlight cX4_addFlight 1 (some FieldType.int))) := lw_V tw_281 tw_282 tw_283 tw_1 tw_284
theorem gc_RX4_36 : GoodIn lw_all (wsV RX4 36 RX1 yX1_addOne (ws_ yX1_addOne cX1_addOne 2 (some FieldType.int))) := lw_V tw_353 tw_354 tw_355 tw_3 tw_356
theorem gc_RL_15 : GoodIn lw_all (wsV RL 15 RX4 yX4_giveChute (ws_ yX4_giveChute cX4_giveChute 3 (some FieldType.int))) := lw_V tw_361 tw_362 tw_363 tw_1 tw_364
theorem gc_RX4_40 : GoodIn lw_all (wsV RX4 40 RX4 yX4_needFlight (ws_ yX4_needFlight cX4_needFlight 2 none)) := lw_V tw_365 tw_367 tp_5 tw_1 tw_368
theorem gc_RX4_44 : GoodIn lw_all (va_wsS RX4 44 yX4_needChute (ws_ yX4_needChute cX4_needChute 1 none)) := lw_S tw_385 tw_386 tw_1 tw_387
theorem gc_RX4_107 : GoodIn lw_all (va_wsS RX4 107 yX4_isChute (ws_ yX4_isChute cX4_isChute 1 (some FieldType.boolean))) := lw_S tw_388 tw_389 tw_1 tw_390
theorem gc_RX4_47 : GoodIn lw_all (wsV RX4 47 RX4 yX4_needNotGone (ws_ yX4_needNotGone cX4_needNotGone 2 none)) := lw_V tw_392 tw_394 tp_6 tw_1 tw_395
theorem gc_RX4_50 : GoodIn lw_all (wsV RX4 50 RX2 yX2_changeChute (ws_ yX2_changeChute cX2_changeChute 5 (some FieldType.int))) := lw_V tw_397 tw_398 tw_399 tw_2 tw_400
theorem gc_RX2_70 : GoodIn lw_all (wsV RX2 70 RX3 yX3_put (ws_ yX3_put cX3_put 3 none)) := lw_V tw_401 tw_402 tw_403 tw_4 tw_404
theorem gc_RL_21 : GoodIn lw_all (wsV RL 21 RX4 yX4_setReader (ws_ yX4_setReader cX4_setReader 3 (some FieldType.int))) := lw_V tw_409 tw_410 tw_411 tw_1 tw_412
theorem gc_RL_27 : GoodIn lw_all (wsV RL 27 RX4 yX4_setRoom (ws_ yX4_setRoom cX4_setRoom 4 (some FieldType.int))) := lw_V tw_432 tw_433 tw_434 tw_1 tw_435
theorem gc_RX4_74 : GoodIn lw_all (wsV RX4 74 RX3 yX3_put (ws_ yX3_put cX3_put 3 none)) := lw_V tw_437 tw_402 tw_403 tw_4 tw_404
theorem gc_RL_30 : GoodIn lw_all (wsV RL 30 RX4 yX4_checkIn (ws_ yX4_checkIn cX4_checkIn 5 (some FieldType.int))) := lw_V tw_441 tw_442 tw_443 tw_1 tw_444
theorem gc_RX4_89 : GoodIn lw_all (wsV RX4 89 RX0 yX0_addOne (ws_ yX0_addOne cX0_addOne 5 (some FieldType.int))) := lw_V tw_447 tw_448 tw_449 tw_6 tw_450
theorem gc_RX0_45 : GoodIn lw_all (wsV RX0 45 RX3 yX3_put (ws_ yX3_put cX3_put 3 none)) := lw_V tw_451 tw_402 tw_403 tw_4 tw_404
theorem gc_RX4_92 : GoodIn lw_all (wsV RX4 92 RX2 yX2_takeIn (ws_ yX2_takeIn cX2_takeIn 2 none)) := lw_V tw_452 tw_453 tw_454 tw_2 tw_455
theorem gc_RL_34 : GoodIn lw_all (wsV RL 34 RX4 yX4_carry (ws_ yX4_carry cX4_carry 4 (some FieldType.int))) := lw_V tw_459 tw_460 tw_461 tw_1 tw_462
theorem gc_RX4_95 : GoodIn lw_all (wsV RX4 95 RX4 yX4_needBag (ws_ yX4_needBag cX4_needBag 2 none)) := lw_V tw_463 tw_465 tp_7 tw_1 tw_466
theorem gc_RX4_98 : GoodIn lw_all (wsV RX4 98 RX4 yX4_needInHand (ws_ yX4_needInHand cX4_needInHand 3 none)) := lw_V tw_468 tw_470 tp_8 tw_1 tw_471
theorem gc_RX4_111 : GoodIn lw_all (wsV RX4 111 RX2 yX2_hasRoom (ws_ yX2_hasRoom cX2_hasRoom 2 (some FieldType.boolean))) := lw_V tw_473 tw_474 tw_475 tw_2 tw_476
theorem gc_RX4_116 : GoodIn lw_all (wsV RX4 116 RX0 yX0_putIntoChute (ws_ yX0_putIntoChute cX0_putIntoChute 3 none)) := lw_V tw_478 tw_479 tw_480 tw_6 tw_481
theorem gc_RL_37 : GoodIn lw_all (wsV RL 37 RX4 yX4_forward (ws_ yX4_forward cX4_forward 3 (some FieldType.int))) := lw_V tw_485 tw_486 tw_487 tw_1 tw_488
theorem gc_RX4_124 : GoodIn lw_all (wsV RX4 124 RX0 yX0_renew (ws_ yX0_renew cX0_renew 3 none)) := lw_V tw_490 tw_491 tw_492 tw_6 tw_493
theorem gc_RX0_49 : GoodIn lw_all (wsV RX0 49 RX0 yX0_closeFile (ws_ yX0_closeFile cX0_closeFile 2 none)) := lw_V tw_494 tw_495 tw_496 tw_6 tw_497
theorem gc_RX0_53 : GoodIn lw_all (wsV RX0 53 RX3 yX3_at (ws_ yX3_at cX3_at 2 (some FieldType.int))) := lw_V tw_498 tw_224 tw_225 tw_4 tw_226
theorem gc_RL_40 : GoodIn lw_all (wsV RL 40 RX4 yX4_sweep (ws_ yX4_sweep cX4_sweep 2 (some FieldType.int))) := lw_V tw_502 tw_503 tw_504 tw_1 tw_505
theorem gc_RX4_130 : GoodIn lw_all (wsV RX4 130 RX2 yX2_clearMisrouted (ws_ yX2_clearMisrouted cX2_clearMisrouted 4 (some FieldType.int))) := lw_V tw_506 tw_507 tw_508 tw_2 tw_509
theorem gc_RX2_91 : GoodIn lw_all (wsV RX2 91 RX0 yX0_takeFromChute (ws_ yX0_takeFromChute cX0_takeFromChute 3 none)) := lw_V tw_510 tw_511 tw_512 tw_6 tw_513
theorem gc_RX2_94 : GoodIn lw_all (wsV RX2 94 RX0 yX0_closeFile (ws_ yX0_closeFile cX0_closeFile 2 none)) := lw_V tw_514 tw_495 tw_496 tw_6 tw_497
theorem gc_RL_43 : GoodIn lw_all (wsV RL 43 RX4 yX4_depart (ws_ yX4_depart cX4_depart 2 (some FieldType.int))) := lw_V tw_518 tw_519 tw_520 tw_1 tw_521
theorem gc_RX4_133 : GoodIn lw_all (wsV RX4 133 RX2 yX2_letLeave (ws_ yX2_letLeave cX2_letLeave 4 (some FieldType.int))) := lw_V tw_522 tw_523 tw_524 tw_2 tw_525
theorem gc_RL_46 : GoodIn lw_all (wsV RL 46 RX4 yX4_pass (ws_ yX4_pass cX4_pass 2 (some FieldType.int))) := lw_V tw_529 tw_530 tw_531 tw_1 tw_532
theorem gc_RX4_136 : GoodIn lw_all (va_wsS RX4 136 yX4_needMinutes (ws_ yX4_needMinutes cX4_needMinutes 1 none)) := lw_S tw_533 tw_534 tw_1 tw_535
theorem gc_RX4_139 : GoodIn lw_all (wsV RX4 139 RX2 yX2_goMinutes (ws_ yX2_goMinutes cX2_goMinutes 4 (some FieldType.int))) := lw_V tw_537 tw_538 tw_539 tw_2 tw_540
theorem gc_RX2_104 : GoodIn lw_all (wsV RX2 104 RX2 yX2_goMinute (ws_ yX2_goMinute cX2_goMinute 2 (some FieldType.int))) := lw_V tw_541 tw_542 tw_543 tw_2 tw_544
theorem gc_RX2_108 : GoodIn lw_all (wsV RX2 108 RX3 yX3_turn (ws_ yX3_turn cX3_turn 3 none)) := lw_V tw_545 tw_546 tw_547 tw_4 tw_548
theorem gc_RX3_33 : GoodIn lw_all (wsV RX3 33 RX3 yX3_at (ws_ yX3_at cX3_at 2 (some FieldType.int))) := lw_V tw_549 tw_224 tw_225 tw_4 tw_226
theorem gc_RX3_37 : GoodIn lw_all (wsV RX3 37 RX3 yX3_put (ws_ yX3_put cX3_put 3 none)) := lw_V tw_550 tw_402 tw_403 tw_4 tw_404
theorem gc_RX2_111 : GoodIn lw_all (wsV RX2 111 RX2 yX2_readTag (ws_ yX2_readTag cX2_readTag 3 none)) := lw_V tw_551 tw_552 tw_553 tw_2 tw_554
theorem gc_RX2_126 : GoodIn lw_all (wsV RX2 126 RX2 yX2_missTag (ws_ yX2_missTag cX2_missTag 3 none)) := lw_V tw_555 tw_556 tw_557 tw_2 tw_558
theorem gc_RX2_114 : GoodIn lw_all (wsV RX2 114 RX2 yX2_fillChutes (ws_ yX2_fillChutes cX2_fillChutes 5 (some FieldType.int))) := lw_V tw_559 tw_560 tw_561 tw_2 tw_562
theorem gc_RX2_132 : GoodIn lw_all (wsV RX2 132 RX2 yX2_hasRoom (ws_ yX2_hasRoom cX2_hasRoom 2 (some FieldType.boolean))) := lw_V tw_563 tw_474 tw_475 tw_2 tw_476
theorem gc_RX2_135 : GoodIn lw_all (wsV RX2 135 RX0 yX0_putIntoChute (ws_ yX0_putIntoChute cX0_putIntoChute 3 none)) := lw_V tw_564 tw_479 tw_480 tw_6 tw_481
theorem gc_RX2_117 : GoodIn lw_all (wsV RX2 117 RX2 yX2_feedBelt (ws_ yX2_feedBelt cX2_feedBelt 2 none)) := lw_V tw_565 tw_566 tw_567 tw_2 tw_568
theorem gc_RX2_138 : GoodIn lw_all (wsV RX2 138 RX3 yX3_takeFront (ws_ yX3_takeFront cX3_takeFront 3 (some FieldType.int))) := lw_V tw_569 tw_570 tw_571 tw_4 tw_572
theorem gc_RL_49 : GoodIn lw_all (wsV RL 49 RX4 yX4_flightOf (ws_ yX4_flightOf cX4_flightOf 2 (some FieldType.int))) := lw_V tw_576 tw_577 tw_578 tw_1 tw_579
theorem gc_RL_52 : GoodIn lw_all (wsV RL 52 RX4 yX4_whereIs (ws_ yX4_whereIs cX4_whereIs 2 (some FieldType.int))) := lw_V tw_583 tw_584 tw_585 tw_1 tw_586
theorem gc_RL_55 : GoodIn lw_all (wsV RL 55 RX4 yX4_placeOf (ws_ yX4_placeOf cX4_placeOf 2 (some FieldType.int))) := lw_V tw_590 tw_591 tw_592 tw_1 tw_593
theorem gc_RL_58 : GoodIn lw_all (wsV RL 58 RX4 yX4_chuteOf (ws_ yX4_chuteOf cX4_chuteOf 2 (some FieldType.int))) := lw_V tw_597 tw_598 tw_599 tw_1 tw_600
theorem gc_RL_61 : GoodIn lw_all (wsV RL 61 RX4 yX4_readFor (ws_ yX4_readFor cX4_readFor 2 (some FieldType.int))) := lw_V tw_604 tw_605 tw_606 tw_1 tw_607
theorem gc_RL_64 : GoodIn lw_all (wsV RL 64 RX4 yX4_missesOf (ws_ yX4_missesOf cX4_missesOf 2 (some FieldType.int))) := lw_V tw_611 tw_612 tw_613 tw_1 tw_614
theorem gc_RL_67 : GoodIn lw_all (wsV RL 67 RX4 yX4_isMisrouted (ws_ yX4_isMisrouted cX4_isMisrouted 2 (some FieldType.boolean))) := lw_V tw_618 tw_619 tw_620 tw_1 tw_621
theorem gc_RL_71 : GoodIn lw_all (wsV RL 71 RX4 yX4_hasOpenFile (ws_ yX4_hasOpenFile cX4_hasOpenFile 2 (some FieldType.boolean))) := lw_V tw_625 tw_626 tw_627 tw_1 tw_628
theorem gc_RL_74 : GoodIn lw_all (wsV RL 74 RX4 yX4_bagAt (ws_ yX4_bagAt cX4_bagAt 2 (some FieldType.int))) := lw_V tw_632 tw_633 tw_634 tw_1 tw_635
theorem gc_RL_77 : GoodIn lw_all (wsV RL 77 RX4 yX4_bagsIn (ws_ yX4_bagsIn cX4_bagsIn 2 (some FieldType.int))) := lw_V tw_640 tw_641 tw_642 tw_1 tw_643
theorem gc_RL_80 : GoodIn lw_all (wsV RL 80 RX4 yX4_misroutedIn (ws_ yX4_misroutedIn cX4_misroutedIn 2 (some FieldType.int))) := lw_V tw_647 tw_648 tw_649 tw_1 tw_650
theorem gc_RL_83 : GoodIn lw_all (wsV RL 83 RX4 yX4_roomOf (ws_ yX4_roomOf cX4_roomOf 2 (some FieldType.int))) := lw_V tw_654 tw_655 tw_656 tw_1 tw_657
theorem gc_RL_86 : GoodIn lw_all (wsV RL 86 RX4 yX4_chuteOfFlight (ws_ yX4_chuteOfFlight cX4_chuteOfFlight 2 (some FieldType.int))) := lw_V tw_661 tw_662 tw_663 tw_1 tw_664
theorem gc_RL_89 : GoodIn lw_all (wsV RL 89 RX4 yX4_isGone (ws_ yX4_isGone cX4_isGone 2 (some FieldType.boolean))) := lw_V tw_668 tw_669 tw_670 tw_1 tw_671
theorem gc_RL_92 : GoodIn lw_all (wsV RL 92 RX4 yX4_readyOf (ws_ yX4_readyOf cX4_readyOf 2 (some FieldType.int))) := lw_V tw_675 tw_676 tw_677 tw_1 tw_678
theorem gc_RL_95 : GoodIn lw_all (wsV RL 95 RX4 yX4_missingOf (ws_ yX4_missingOf cX4_missingOf 2 (some FieldType.int))) := lw_V tw_682 tw_683 tw_684 tw_1 tw_685
theorem gc_RL_98 : GoodIn lw_all (wsV RL 98 RX4 yX4_minutesUntilChute (ws_ yX4_minutesUntilChute cX4_minutesUntilChute 3 (some FieldType.int))) := lw_V tw_689 tw_690 tw_691 tw_1 tw_692
theorem gc_RX4_183 : GoodIn lw_all (wsV RX4 183 RX2 yX2_becomeLike (ws_ yX2_becomeLike cX2_becomeLike 2 none)) := lw_V tw_693 tw_694 tw_695 tw_2 tw_696
theorem gc_RX2_50 : GoodIn lw_all (wsV RX2 50 RX1 yX1_takeAll (ws_ yX1_takeAll cX1_takeAll 2 none)) := lw_V tw_697 tw_698 tw_699 tw_3 tw_700
theorem gc_RX1_31 : GoodIn lw_all (wsV RX1 31 RX3 yX3_takeAll (ws_ yX3_takeAll cX3_takeAll 2 none)) := lw_V tw_701 tw_702 tw_703 tw_4 tw_704
theorem gc_RX3_21 : GoodIn lw_all (va_wsS RX3 21 yJ9_min_7cf53 (ws_ yJ9_min_7cf53 cJ9_min_7cf53 2 (some FieldType.int))) := lw_S tw_705 tw_706 tw_16 tw_707
theorem gc_RX2_54 : GoodIn lw_all (wsV RX2 54 RX0 yX0_takeAll (ws_ yX0_takeAll cX0_takeAll 2 none)) := lw_V tw_711 tw_712 tw_713 tw_6 tw_714
theorem gc_RX0_57 : GoodIn lw_all (wsV RX0 57 RX3 yX3_takeAll (ws_ yX3_takeAll cX3_takeAll 2 none)) := lw_V tw_715 tw_702 tw_703 tw_4 tw_704
theorem gc_RX2_57 : GoodIn lw_all (wsV RX2 57 RX3 yX3_takeAll (ws_ yX3_takeAll cX3_takeAll 2 none)) := lw_V tw_716 tw_702 tw_703 tw_4 tw_704
theorem gc_RX4_187 : GoodIn lw_all (wsV RX4 187 RX2 yX2_goMinute (ws_ yX2_goMinute cX2_goMinute 2 (some FieldType.int))) := lw_V tw_717 tw_542 tw_543 tw_2 tw_544
theorem gc_RL_101 : GoodIn lw_all (wsV RL 101 RX4 yX4_readyAfter (ws_ yX4_readyAfter cX4_readyAfter 3 (some FieldType.int))) := lw_V tw_721 tw_722 tw_723 tw_1 tw_724
theorem gc_RX4_190 : GoodIn lw_all (wsV RX4 190 RX4 yX4_readyWithChute (ws_ yX4_readyWithChute cX4_readyWithChute 4 (some FieldType.int))) := lw_V tw_725 tw_727 tp_9 tw_1 tw_728
theorem gc_RL_104 : GoodIn lw_all (wsV RL 104 RX4 yX4_bestChute (ws_ yX4_bestChute cX4_bestChute 7 (some FieldType.int))) := lw_V tw_732 tw_733 tw_734 tw_1 tw_735
theorem gc_RL_117 : GoodIn lw_all (wsV RL 117 RX6 yX6_thrown (ws_ yX6_thrown cX6_thrown 1 (some FieldType.int))) := lw_V tw_825 tw_826 tw_827 tw_7 tw_828
theorem gc_RL_116 : GoodIn lw_all (wsV RL 116 RX6 yX6_addFlight (ws_ yX6_addFlight cX6_addFlight 1 (some FieldType.int))) := lw_V tw_829 tw_830 tw_831 tw_7 tw_832
theorem gc_RX6_110 : GoodIn lw_all (wsV RX6 110 RX6 yX6_no (ws_ yX6_no cX6_no 2 (some FieldType.int))) := lw_V tw_833 tw_835 tp_10 tw_7 tw_836
theorem gc_RL_123 : GoodIn lw_all (wsV RL 123 RX6 yX6_giveChute (ws_ yX6_giveChute cX6_giveChute 5 (some FieldType.int))) := lw_V tw_837 tw_838 tw_839 tw_7 tw_840
theorem gc_RX6_114 : GoodIn lw_all (wsV RX6 114 RX6 yX6_isFlight (ws_ yX6_isFlight cX6_isFlight 2 (some FieldType.boolean))) := lw_V tw_841 tw_843 tp_11 tw_7 tw_844
theorem gc_RX6_52 : GoodIn lw_all (va_wsS RX6 52 yX6_isIn (ws_ yX6_isIn cX6_isIn 3 (some FieldType.boolean))) := lw_S tw_845 tw_846 tw_7 tw_847
theorem gc_RX6_118 : GoodIn lw_all (va_wsS RX6 118 yX6_isChute (ws_ yX6_isChute cX6_isChute 1 (some FieldType.boolean))) := lw_S tw_848 tw_849 tw_7 tw_850
theorem gc_RL_127 : GoodIn lw_all (wsV RL 127 RX6 yX6_setReader (ws_ yX6_setReader cX6_setReader 3 (some FieldType.int))) := lw_V tw_851 tw_852 tw_853 tw_7 tw_854
theorem gc_RL_130 : GoodIn lw_all (wsV RL 130 RX6 yX6_setRoom (ws_ yX6_setRoom cX6_setRoom 4 (some FieldType.int))) := lw_V tw_855 tw_856 tw_857 tw_7 tw_858
theorem gc_RL_134 : GoodIn lw_all (wsV RL 134 RX6 yX6_checkIn (ws_ yX6_checkIn cX6_checkIn 4 (some FieldType.int))) := lw_V tw_859 tw_860 tw_861 tw_7 tw_862
theorem gc_RX6_125 : GoodIn lw_all (wsV RX6 125 RX6 yX6_begin (ws_ yX6_begin cX6_begin 2 none)) := lw_V tw_863 tw_865 tp_12 tw_7 tw_866
theorem gc_RX6_68 : GoodIn lw_all (wsV RX6 68 RX5 yX5_put (ws_ yX5_put cX5_put 4 none)) := lw_V tw_867 tw_868 tw_869 tw_8 tw_870
theorem gc_RX6_121 : GoodIn lw_all (wsV RX6 121 RX5 yX5_toLine (ws_ yX5_toLine cX5_toLine 2 none)) := lw_V tw_871 tw_872 tw_873 tw_8 tw_874
theorem gc_RX5_50 : GoodIn lw_all (wsV RX5 50 RX5 yX5_put (ws_ yX5_put cX5_put 4 none)) := lw_V tw_875 tw_868 tw_869 tw_8 tw_870
theorem gc_RL_137 : GoodIn lw_all (wsV RL 137 RX6 yX6_carry (ws_ yX6_carry cX6_carry 4 (some FieldType.int))) := lw_V tw_876 tw_877 tw_878 tw_7 tw_879
theorem gc_RX6_128 : GoodIn lw_all (wsV RX6 128 RX6 yX6_isBag (ws_ yX6_isBag cX6_isBag 2 (some FieldType.boolean))) := lw_V tw_880 tw_882 tp_13 tw_7 tw_883
theorem gc_RX6_131 : GoodIn lw_all (wsV RX6 131 RX6 yX6_isAside (ws_ yX6_isAside cX6_isAside 2 (some FieldType.boolean))) := lw_V tw_884 tw_886 tp_14 tw_7 tw_887
theorem gc_RX6_75 : GoodIn lw_all (wsV RX6 75 RX5 yX5_toChute (ws_ yX5_toChute cX5_toChute 3 none)) := lw_V tw_888 tw_889 tw_890 tw_8 tw_891
theorem gc_RL_140 : GoodIn lw_all (wsV RL 140 RX6 yX6_forward (ws_ yX6_forward cX6_forward 3 (some FieldType.int))) := lw_V tw_892 tw_893 tw_894 tw_7 tw_895
theorem gc_RX6_134 : GoodIn lw_all (wsV RX6 134 RX6 yX6_close (ws_ yX6_close cX6_close 2 none)) := lw_V tw_896 tw_898 tp_15 tw_7 tw_899
theorem gc_RL_143 : GoodIn lw_all (wsV RL 143 RX6 yX6_sweep (ws_ yX6_sweep cX6_sweep 4 (some FieldType.int))) := lw_V tw_900 tw_901 tw_902 tw_7 tw_903
theorem gc_RX6_137 : GoodIn lw_all (wsV RX6 137 RX6 yX6_misrouted (ws_ yX6_misrouted cX6_misrouted 2 (some FieldType.boolean))) := lw_V tw_904 tw_906 tp_16 tw_7 tw_907
theorem gc_RL_146 : GoodIn lw_all (wsV RL 146 RX6 yX6_depart (ws_ yX6_depart cX6_depart 4 (some FieldType.int))) := lw_V tw_908 tw_909 tw_910 tw_7 tw_911
theorem gc_RX6_140 : GoodIn lw_all (wsV RX6 140 RX6 yX6_isInItsChute (ws_ yX6_isInItsChute cX6_isInItsChute 2 (some FieldType.boolean))) := lw_V tw_912 tw_914 tp_17 tw_7 tw_915
theorem gc_RL_149 : GoodIn lw_all (wsV RL 149 RX6 yX6_pass (ws_ yX6_pass cX6_pass 2 (some FieldType.int))) := lw_V tw_916 tw_917 tw_918 tw_7 tw_919
theorem gc_RX6_143 : GoodIn lw_all (wsV RX6 143 RX6 yX6_minutesOn (ws_ yX6_minutesOn cX6_minutesOn 5 (some FieldType.int))) := lw_V tw_920 tw_922 tp_18 tw_7 tw_923
theorem gc_RX6_100 : GoodIn lw_all (wsV RX6 100 RX6 yX6_minuteOn (ws_ yX6_minuteOn cX6_minuteOn 4 (some FieldType.int))) := lw_V tw_924 tw_926 tp_19 tw_7 tw_927
theorem gc_RX6_79 : GoodIn lw_all (wsV RX6 79 RX5 yX5_turnRound (ws_ yX5_turnRound cX5_turnRound 3 none)) := lw_V tw_928 tw_929 tw_930 tw_8 tw_931
theorem gc_RX6_82 : GoodIn lw_all (wsV RX6 82 RX6 yX6_readAt (ws_ yX6_readAt cX6_readAt 4 none)) := lw_V tw_933 tw_935 tp_20 tw_7 tw_936
theorem gc_RX6_86 : GoodIn lw_all (wsV RX6 86 RX6 yX6_slide (ws_ yX6_slide cX6_slide 5 (some FieldType.int))) := lw_V tw_937 tw_939 tp_21 tw_7 tw_940
theorem gc_RX6_93 : GoodIn lw_all (wsV RX6 93 RX5 yX5_firstInLine (ws_ yX5_firstInLine cX5_firstInLine 2 (some FieldType.int))) := lw_V tw_941 tw_942 tw_943 tw_8 tw_944
theorem gc_RL_152 : GoodIn lw_all (wsV RL 152 RX6 yX6_flightOf (ws_ yX6_flightOf cX6_flightOf 2 (some FieldType.int))) := lw_V tw_945 tw_946 tw_947 tw_7 tw_948
theorem gc_RL_155 : GoodIn lw_all (wsV RL 155 RX6 yX6_whereIs (ws_ yX6_whereIs cX6_whereIs 2 (some FieldType.int))) := lw_V tw_949 tw_950 tw_951 tw_7 tw_952
theorem gc_RL_158 : GoodIn lw_all (wsV RL 158 RX6 yX6_placeOf (ws_ yX6_placeOf cX6_placeOf 2 (some FieldType.int))) := lw_V tw_953 tw_954 tw_955 tw_7 tw_956
theorem gc_RX6_146 : GoodIn lw_all (wsV RX6 146 RX6 yX6_placed (ws_ yX6_placed cX6_placed 3 (some FieldType.int))) := lw_V tw_957 tw_959 tp_22 tw_7 tw_960
theorem gc_RL_161 : GoodIn lw_all (wsV RL 161 RX6 yX6_chuteOf (ws_ yX6_chuteOf cX6_chuteOf 2 (some FieldType.int))) := lw_V tw_961 tw_962 tw_963 tw_7 tw_964
theorem gc_RL_164 : GoodIn lw_all (wsV RL 164 RX6 yX6_readFor (ws_ yX6_readFor cX6_readFor 2 (some FieldType.int))) := lw_V tw_965 tw_966 tw_967 tw_7 tw_968
theorem gc_RL_167 : GoodIn lw_all (wsV RL 167 RX6 yX6_missesOf (ws_ yX6_missesOf cX6_missesOf 2 (some FieldType.int))) := lw_V tw_969 tw_970 tw_971 tw_7 tw_972
theorem gc_RL_170 : GoodIn lw_all (wsV RL 170 RX6 yX6_isMisrouted (ws_ yX6_isMisrouted cX6_isMisrouted 2 (some FieldType.boolean))) := lw_V tw_973 tw_974 tw_975 tw_7 tw_976
theorem gc_RX6_150 : GoodIn lw_all (wsV RX6 150 RX6 yX6_isNot (ws_ yX6_isNot cX6_isNot 2 (some FieldType.boolean))) := lw_V tw_977 tw_979 tp_23 tw_7 tw_980
theorem gc_RL_173 : GoodIn lw_all (wsV RL 173 RX6 yX6_hasOpenFile (ws_ yX6_hasOpenFile cX6_hasOpenFile 2 (some FieldType.boolean))) := lw_V tw_981 tw_982 tw_983 tw_7 tw_984
theorem gc_RL_176 : GoodIn lw_all (wsV RL 176 RX6 yX6_bagAt (ws_ yX6_bagAt cX6_bagAt 2 (some FieldType.int))) := lw_V tw_985 tw_986 tw_987 tw_7 tw_988
theorem gc_RL_179 : GoodIn lw_all (wsV RL 179 RX6 yX6_bagsIn (ws_ yX6_bagsIn cX6_bagsIn 2 (some FieldType.int))) := lw_V tw_989 tw_990 tw_991 tw_7 tw_992
theorem gc_RL_182 : GoodIn lw_all (wsV RL 182 RX6 yX6_misroutedIn (ws_ yX6_misroutedIn cX6_misroutedIn 2 (some FieldType.int))) := lw_V tw_993 tw_994 tw_995 tw_7 tw_996
theorem gc_RX6_153 : GoodIn lw_all (wsV RX6 153 RX6 yX6_badIn (ws_ yX6_badIn cX6_badIn 4 (some FieldType.int))) := lw_V tw_997 tw_999 tp_24 tw_7 tw_1000
theorem gc_RL_185 : GoodIn lw_all (wsV RL 185 RX6 yX6_roomOf (ws_ yX6_roomOf cX6_roomOf 2 (some FieldType.int))) := lw_V tw_1001 tw_1002 tw_1003 tw_7 tw_1004
theorem gc_RL_188 : GoodIn lw_all (wsV RL 188 RX6 yX6_chuteOfFlight (ws_ yX6_chuteOfFlight cX6_chuteOfFlight 2 (some FieldType.int))) := lw_V tw_1005 tw_1006 tw_1007 tw_7 tw_1008
theorem gc_RL_191 : GoodIn lw_all (wsV RL 191 RX6 yX6_isGone (ws_ yX6_isGone cX6_isGone 2 (some FieldType.boolean))) := lw_V tw_1009 tw_1010 tw_1011 tw_7 tw_1012
theorem gc_RL_194 : GoodIn lw_all (wsV RL 194 RX6 yX6_readyOf (ws_ yX6_readyOf cX6_readyOf 2 (some FieldType.int))) := lw_V tw_1013 tw_1014 tw_1015 tw_7 tw_1016
theorem gc_RX6_156 : GoodIn lw_all (wsV RX6 156 RX6 yX6_readyIn (ws_ yX6_readyIn cX6_readyIn 5 (some FieldType.int))) := lw_V tw_1017 tw_1019 tp_25 tw_7 tw_1020
theorem gc_RL_197 : GoodIn lw_all (wsV RL 197 RX6 yX6_missingOf (ws_ yX6_missingOf cX6_missingOf 2 (some FieldType.int))) := lw_V tw_1021 tw_1022 tw_1023 tw_7 tw_1024
theorem gc_RX6_159 : GoodIn lw_all (wsV RX6 159 RX6 yX6_missing (ws_ yX6_missing cX6_missing 4 (some FieldType.int))) := lw_V tw_1025 tw_1027 tp_26 tw_7 tw_1028
theorem gc_RL_201 : GoodIn lw_all (wsV RL 201 RX6 yX6_minute (ws_ yX6_minute cX6_minute 1 (some FieldType.int))) := lw_V tw_1029 tw_1030 tw_1031 tw_7 tw_1032
theorem gc_RX6_162 : GoodIn lw_all (wsV RX6 162 RX6 yX6_ok (ws_ yX6_ok cX6_ok 2 (some FieldType.int))) := lw_V tw_1033 tw_1035 tp_27 tw_7 tw_1036
theorem gc_RL_205 : GoodIn lw_all (wsV RL 205 RX6 yX6_flights (ws_ yX6_flights cX6_flights 1 (some FieldType.int))) := lw_V tw_1037 tw_1038 tw_1039 tw_7 tw_1040
theorem gc_RL_209 : GoodIn lw_all (wsV RL 209 RX6 yX6_bags (ws_ yX6_bags cX6_bags 1 (some FieldType.int))) := lw_V tw_1041 tw_1042 tw_1043 tw_7 tw_1044
theorem gc_RL_213 : GoodIn lw_all (wsV RL 213 RX6 yX6_inLine (ws_ yX6_inLine cX6_inLine 1 (some FieldType.int))) := lw_V tw_1045 tw_1046 tw_1047 tw_7 tw_1048
theorem gc_RL_217 : GoodIn lw_all (wsV RL 217 RX6 yX6_onBelt (ws_ yX6_onBelt cX6_onBelt 1 (some FieldType.int))) := lw_V tw_1049 tw_1050 tw_1051 tw_7 tw_1052
theorem gc_RX6_165 : GoodIn lw_all (wsV RX6 165 RX6 yX6_counted (ws_ yX6_counted cX6_counted 4 (some FieldType.int))) := lw_V tw_1053 tw_1055 tp_28 tw_7 tw_1056
theorem gc_RL_221 : GoodIn lw_all (wsV RL 221 RX6 yX6_atDesk (ws_ yX6_atDesk cX6_atDesk 1 (some FieldType.int))) := lw_V tw_1057 tw_1058 tw_1059 tw_7 tw_1060
theorem gc_RL_225 : GoodIn lw_all (wsV RL 225 RX6 yX6_openFiles (ws_ yX6_openFiles cX6_openFiles 1 (some FieldType.int))) := lw_V tw_1061 tw_1062 tw_1063 tw_7 tw_1064
theorem gc_RX6_168 : GoodIn lw_all (wsV RX6 168 RX6 yX6_files (ws_ yX6_files cX6_files 4 (some FieldType.int))) := lw_V tw_1065 tw_1067 tp_29 tw_7 tw_1068
theorem gc_RL_229 : GoodIn lw_all (wsV RL 229 RX6 yX6_closedFiles (ws_ yX6_closedFiles cX6_closedFiles 1 (some FieldType.int))) := lw_V tw_1069 tw_1070 tw_1071 tw_7 tw_1072
theorem gc_RL_233 : GoodIn lw_all (wsV RL 233 RX6 yX6_reader (ws_ yX6_reader cX6_reader 1 (some FieldType.int))) := lw_V tw_1073 tw_1074 tw_1075 tw_7 tw_1076
theorem gc_RL_236 : GoodIn lw_all (wsV RL 236 RX6 yX6_minutesUntilChute (ws_ yX6_minutesUntilChute cX6_minutesUntilChute 2 (some FieldType.int))) := lw_V tw_1077 tw_1078 tw_1079 tw_7 tw_1080
theorem gc_RX6_174 : GoodIn lw_all (wsV RX6 174 RX6 yX6_untilChute (ws_ yX6_untilChute cX6_untilChute 3 (some FieldType.int))) := lw_V tw_1081 tw_1083 tp_30 tw_7 tw_1084
theorem gc_RX6_171 : GoodIn lw_all (wsV RX6 171 RX5 yX5_become (ws_ yX5_become cX5_become 2 none)) := lw_V tw_1085 tw_1086 tw_1087 tw_8 tw_1088
theorem gc_RX5_46 : GoodIn lw_all (va_wsS RX5 46 yX5_copy (ws_ yX5_copy cX5_copy 2 none)) := lw_S tw_1089 tw_1090 tw_8 tw_1091
theorem gc_RL_239 : GoodIn lw_all (wsV RL 239 RX6 yX6_readyAfter (ws_ yX6_readyAfter cX6_readyAfter 3 (some FieldType.int))) := lw_V tw_1092 tw_1093 tw_1094 tw_7 tw_1095
theorem gc_RX6_177 : GoodIn lw_all (wsV RX6 177 RX6 yX6_readyBehind (ws_ yX6_readyBehind cX6_readyBehind 3 (some FieldType.int))) := lw_V tw_1096 tw_1098 tp_31 tw_7 tw_1099
theorem gc_RL_242 : GoodIn lw_all (wsV RL 242 RX6 yX6_bestChute (ws_ yX6_bestChute cX6_bestChute 3 (some FieldType.int))) := lw_V tw_1100 tw_1101 tw_1102 tw_7 tw_1103
theorem gc_RX6_180 : GoodIn lw_all (wsV RX6 180 RX6 yX6_best (ws_ yX6_best cX6_best 8 (some FieldType.int))) := lw_V tw_1104 tw_1106 tp_32 tw_7 tw_1107
theorem gc_RL_247 : GoodIn lw_all (wsV RL 247 RX6 yX6_meanMisses (ws_ yX6_meanMisses cX6_meanMisses 3 (some FieldType.double))) := lw_V tw_1108 tw_1109 tw_1110 tw_7 tw_1111
theorem gc_RL_252 : GoodIn lw_all (wsV RL 252 RX6 yX6_digest (ws_ yX6_digest cX6_digest 4 (some FieldType.long))) := lw_V tw_1112 tw_1113 tw_1114 tw_7 tw_1115
theorem gc_RX6_187 : GoodIn lw_all (va_wsS RX6 187 yX6_on (ws_ yX6_on cX6_on 3 (some FieldType.long))) := lw_S tw_1117 tw_1118 tw_7 tw_1119
theorem gc_RX6_191 : GoodIn lw_all (va_wsS RX6 191 yX6_one (ws_ yX6_one cX6_one 1 (some FieldType.int))) := lw_S tw_1121 tw_1122 tw_7 tw_1123
end
section
theorem dX0_init_0 : decode cX0_init 0 = .ok (.aload_n 0, 1) := by decide +kernel
theorem dX0_init_1 : decode cX0_init 1 = .ok (.invokespecial 3, 3) := by decide +kernel
theorem dX0_init_4 : decode cX0_init 4 = .ok (.aload_n 0, 1) := by decide +kernel
theorem dX0_init_5 : decode cX0_init 5 = .ok (.new 9, 3) := by decide +kernel
theorem dX0_init_8 : decode cX0_init 8 = .ok (.dup, 1) := by decide +kernel
theorem dX0_init_9 : decode cX0_init 9 = .ok (.bipush 40, 2) := by decide +kernel
theorem dX0_init_11 : decode cX0_init 11 = .ok (.newarray .int, 2) := by decide +kernel
theorem dX0_init_13 : decode cX0_init 13 = .ok (.iconst (-1), 1) := by decide +kernel
theorem dX0_init_14 : decode cX0_init 14 = .ok (.invokespecial 11, 3) := by decide +kernel
theorem dX0_init_17 : decode cX0_init 17 = .ok (.putfield 14, 3) := by decide +kernel
theorem dX0_init_20 : decode cX0_init 20 = .ok (.aload_n 0, 1) := by decide +kernel
theorem dX0_init_21 : decode cX0_init 21 = .ok (.new 9, 3) := by decide +kernel
theorem dX0_init_24 : decode cX0_init 24 = .ok (.dup, 1) := by decide +kernel
theorem dX0_init_25 : decode cX0_init 25 = .ok (.bipush 40, 2) := by decide +kernel
theorem dX0_init_27 : decode cX0_init 27 = .ok (.newarray .int, 2) := by decide +kernel
theorem dX0_init_29 : decode cX0_init 29 = .ok (.iconst 0, 1) := by decide +kernel
theorem dX0_init_30 : decode cX0_init 30 = .ok (.invokespecial 11, 3) := by decide +kernel
theorem dX0_init_33 : decode cX0_init 33 = .ok (.putfield 20, 3) := by decide +kernel
theorem dX0_init_36 : decode cX0_init 36 = .ok (.aload_n 0, 1) := by decide +kernel
theorem dX0_init_37 : decode cX0_init 37 = .ok (.new 9, 3) := by decide +kernel
theorem dX0_init_40 : decode cX0_init 40 = .ok (.dup, 1) := by decide +kernel
theorem dX0_init_41 : decode cX0_init 41 = .ok (.bipush 40, 2) := by decide +kernel
theorem dX0_init_43 : decode cX0_init 43 = .ok (.newarray .int, 2) := by decide +kernel
theorem dX0_init_45 : decode cX0_init 45 = .ok (.iconst 0, 1) := by decide +kernel
theorem dX0_init_46 : decode cX0_init 46 = .ok (.invokespecial 11, 3) := by decide +kernel
theorem dX0_init_49 : decode cX0_init 49 = .ok (.putfield 23, 3) := by decide +kernel
theorem dX0_init_52 : decode cX0_init 52 = .ok (.aload_n 0, 1) := by decide +kernel
theorem dX0_init_53 : decode cX0_init 53 = .ok (.new 9, 3) := by decide +kernel
theorem dX0_init_56 : decode cX0_init 56 = .ok (.dup, 1) := by decide +kernel
theorem dX0_init_57 : decode cX0_init 57 = .ok (.bipush 40, 2) := by decide +kernel
theorem dX0_init_59 : decode cX0_init 59 = .ok (.newarray .int, 2) := by decide +kernel
theorem dX0_init_61 : decode cX0_init 61 = .ok (.iconst (-1), 1) := by decide +kernel
theorem dX0_init_62 : decode cX0_init 62 = .ok (.invokespecial 11, 3) := by decide +kernel
theorem dX0_init_65 : decode cX0_init 65 = .ok (.putfield 26, 3) := by decide +kernel
theorem dX0_init_68 : decode cX0_init 68 = .ok (.aload_n 0, 1) := by decide +kernel
theorem dX0_init_69 : decode cX0_init 69 = .ok (.new 9, 3) := by decide +kernel
theorem dX0_init_72 : decode cX0_init 72 = .ok (.dup, 1) := by decide +kernel
theorem dX0_init_73 : decode cX0_init 73 = .ok (.bipush 40, 2) := by decide +kernel
theorem dX0_init_75 : decode cX0_init 75 = .ok (.newarray .int, 2) := by decide +kernel
theorem dX0_init_77 : decode cX0_init 77 = .ok (.iconst (-1), 1) := by decide +kernel
theorem dX0_init_78 : decode cX0_init 78 = .ok (.invokespecial 11, 3) := by decide +kernel
theorem dX0_init_81 : decode cX0_init 81 = .ok (.putfield 29, 3) := by decide +kernel
theorem dX0_init_84 : decode cX0_init 84 = .ok (.aload_n 0, 1) := by decide +kernel
theorem dX0_init_85 : decode cX0_init 85 = .ok (.new 9, 3) := by decide +kernel
theorem dX0_init_88 : decode cX0_init 88 = .ok (.dup, 1) := by decide +kernel
theorem dX0_init_89 : decode cX0_init 89 = .ok (.bipush 40, 2) := by decide +kernel
theorem dX0_init_91 : decode cX0_init 91 = .ok (.newarray .int, 2) := by decide +kernel
theorem dX0_init_93 : decode cX0_init 93 = .ok (.iconst (-1), 1) := by decide +kernel
theorem dX0_init_94 : decode cX0_init 94 = .ok (.invokespecial 11, 3) := by decide +kernel
theorem dX0_init_97 : decode cX0_init 97 = .ok (.putfield 32, 3) := by decide +kernel
theorem dX0_init_100 : decode cX0_init 100 = .ok (.aload_n 0, 1) := by decide +kernel
theorem dX0_init_101 : decode cX0_init 101 = .ok (.new 9, 3) := by decide +kernel
theorem dX0_init_104 : decode cX0_init 104 = .ok (.dup, 1) := by decide +kernel
theorem dX0_init_105 : decode cX0_init 105 = .ok (.bipush 40, 2) := by decide +kernel
theorem dX0_init_107 : decode cX0_init 107 = .ok (.newarray .int, 2) := by decide +kernel
theorem dX0_init_109 : decode cX0_init 109 = .ok (.iconst 0, 1) := by decide +kernel
theorem dX0_init_110 : decode cX0_init 110 = .ok (.invokespecial 11, 3) := by decide +kernel
theorem dX0_init_113 : decode cX0_init 113 = .ok (.putfield 35, 3) := by decide +kernel
theorem dX0_init_116 : decode cX0_init 116 = .ok (.aload_n 0, 1) := by decide +kernel
theorem dX0_init_117 : decode cX0_init 117 = .ok (.new 9, 3) := by decide +kernel
theorem dX0_init_120 : decode cX0_init 120 = .ok (.dup, 1) := by decide +kernel
theorem dX0_init_121 : decode cX0_init 121 = .ok (.bipush 40, 2) := by decide +kernel
theorem dX0_init_123 : decode cX0_init 123 = .ok (.newarray .int, 2) := by decide +kernel
theorem dX0_init_125 : decode cX0_init 125 = .ok (.iconst 0, 1) := by decide +kernel
theorem dX0_init_126 : decode cX0_init 126 = .ok (.invokespecial 11, 3) := by decide +kernel
theorem dX0_init_129 : decode cX0_init 129 = .ok (.putfield 38, 3) := by decide +kernel
theorem dX0_init_132 : decode cX0_init 132 = .ok (.return_, 1) := by decide +kernel
theorem dX0_addOne_0 : decode cX0_addOne 0 = .ok (.aload_n 0, 1) := by decide +kernel
theorem dX0_addOne_1 : decode cX0_addOne 1 = .ok (.getfield 41, 3) := by decide +kernel
theorem dX0_addOne_4 : decode cX0_addOne 4 = .ok (.istore 4, 2) := by decide +kernel
theorem dX0_addOne_6 : decode cX0_addOne 6 = .ok (.aload_n 0, 1) := by decide +kernel
theorem dX0_addOne_7 : decode cX0_addOne 7 = .ok (.dup, 1) := by decide +kernel
theorem dX0_addOne_8 : decode cX0_addOne 8 = .ok (.getfield 41, 3) := by decide +kernel
theorem dX0_addOne_11 : decode cX0_addOne 11 = .ok (.iconst 1, 1) := by decide +kernel
theorem dX0_addOne_12 : decode cX0_addOne 12 = .ok (.iadd, 1) := by decide +kernel
theorem dX0_addOne_13 : decode cX0_addOne 13 = .ok (.putfield 41, 3) := by decide +kernel
theorem dX0_addOne_16 : decode cX0_addOne 16 = .ok (.aload_n 0, 1) := by decide +kernel
theorem dX0_addOne_17 : decode cX0_addOne 17 = .ok (.getfield 14, 3) := by decide +kernel
theorem dX0_addOne_20 : decode cX0_addOne 20 = .ok (.iload 4, 2) := by decide +kernel
theorem dX0_addOne_22 : decode cX0_addOne 22 = .ok (.iload_n 1, 1) := by decide +kernel
theorem dX0_addOne_23 : decode cX0_addOne 23 = .ok (.invokevirtual 45, 3) := by decide +kernel
theorem dX0_addOne_26 : decode cX0_addOne 26 = .ok (.aload_n 0, 1) := by decide +kernel
theorem dX0_addOne_27 : decode cX0_addOne 27 = .ok (.getfield 20, 3) := by decide +kernel
theorem dX0_addOne_30 : decode cX0_addOne 30 = .ok (.iload 4, 2) := by decide +kernel
theorem dX0_addOne_32 : decode cX0_addOne 32 = .ok (.iload_n 2, 1) := by decide +kernel
theorem dX0_addOne_33 : decode cX0_addOne 33 = .ok (.invokevirtual 45, 3) := by decide +kernel
theorem dX0_addOne_36 : decode cX0_addOne 36 = .ok (.aload_n 0, 1) := by decide +kernel
theorem dX0_addOne_37 : decode cX0_addOne 37 = .ok (.getfield 23, 3) := by decide +kernel
theorem dX0_addOne_40 : decode cX0_addOne 40 = .ok (.iload 4, 2) := by decide +kernel
theorem dX0_addOne_42 : decode cX0_addOne 42 = .ok (.iload_n 3, 1) := by decide +kernel
theorem dX0_addOne_43 : decode cX0_addOne 43 = .ok (.invokevirtual 45, 3) := by decide +kernel
theorem dX0_addOne_46 : decode cX0_addOne 46 = .ok (.iload 4, 2) := by decide +kernel
theorem dX0_addOne_48 : decode cX0_addOne 48 = .ok (.ireturn, 1) := by decide +kernel
theorem dX0_renew_0 : decode cX0_renew 0 = .ok (.aload_n 0, 1) := by decide +kernel
theorem dX0_renew_1 : decode cX0_renew 1 = .ok (.getfield 14, 3) := by decide +kernel
theorem dX0_renew_4 : decode cX0_renew 4 = .ok (.iload_n 1, 1) := by decide +kernel
theorem dX0_renew_5 : decode cX0_renew 5 = .ok (.iload_n 2, 1) := by decide +kernel
theorem dX0_renew_6 : decode cX0_renew 6 = .ok (.invokevirtual 45, 3) := by decide +kernel
theorem dX0_renew_9 : decode cX0_renew 9 = .ok (.aload_n 0, 1) := by decide +kernel
theorem dX0_renew_10 : decode cX0_renew 10 = .ok (.getfield 32, 3) := by decide +kernel
theorem dX0_renew_13 : decode cX0_renew 13 = .ok (.iload_n 1, 1) := by decide +kernel
theorem dX0_renew_14 : decode cX0_renew 14 = .ok (.iconst (-1), 1) := by decide +kernel
theorem dX0_renew_15 : decode cX0_renew 15 = .ok (.invokevirtual 45, 3) := by decide +kernel
theorem dX0_renew_18 : decode cX0_renew 18 = .ok (.aload_n 0, 1) := by decide +kernel
theorem dX0_renew_19 : decode cX0_renew 19 = .ok (.getfield 35, 3) := by decide +kernel
theorem dX0_renew_22 : decode cX0_renew 22 = .ok (.iload_n 1, 1) := by decide +kernel
theorem dX0_renew_23 : decode cX0_renew 23 = .ok (.iconst 0, 1) := by decide +kernel
theorem dX0_renew_24 : decode cX0_renew 24 = .ok (.invokevirtual 45, 3) := by decide +kernel
theorem dX0_renew_27 : decode cX0_renew 27 = .ok (.aload_n 0, 1) := by decide +kernel
theorem dX0_renew_28 : decode cX0_renew 28 = .ok (.iload_n 1, 1) := by decide +kernel
theorem dX0_renew_29 : decode cX0_renew 29 = .ok (.invokevirtual 49, 3) := by decide +kernel
theorem dX0_renew_32 : decode cX0_renew 32 = .ok (.return_, 1) := by decide +kernel
theorem dX0_putIntoChute_0 : decode cX0_putIntoChute 0 = .ok (.aload_n 0, 1) := by decide +kernel
theorem dX0_putIntoChute_1 : decode cX0_putIntoChute 1 = .ok (.getfield 26, 3) := by decide +kernel
theorem dX0_putIntoChute_4 : decode cX0_putIntoChute 4 = .ok (.iload_n 1, 1) := by decide +kernel
theorem dX0_putIntoChute_5 : decode cX0_putIntoChute 5 = .ok (.iconst 2, 1) := by decide +kernel
theorem dX0_putIntoChute_6 : decode cX0_putIntoChute 6 = .ok (.invokevirtual 45, 3) := by decide +kernel
theorem dX0_putIntoChute_9 : decode cX0_putIntoChute 9 = .ok (.aload_n 0, 1) := by decide +kernel
theorem dX0_putIntoChute_10 : decode cX0_putIntoChute 10 = .ok (.getfield 29, 3) := by decide +kernel
theorem dX0_putIntoChute_13 : decode cX0_putIntoChute 13 = .ok (.iload_n 1, 1) := by decide +kernel
theorem dX0_putIntoChute_14 : decode cX0_putIntoChute 14 = .ok (.iload_n 2, 1) := by decide +kernel
theorem dX0_putIntoChute_15 : decode cX0_putIntoChute 15 = .ok (.invokevirtual 45, 3) := by decide +kernel
theorem dX0_putIntoChute_18 : decode cX0_putIntoChute 18 = .ok (.return_, 1) := by decide +kernel
theorem dX0_takeFromChute_0 : decode cX0_takeFromChute 0 = .ok (.aload_n 0, 1) := by decide +kernel
theorem dX0_takeFromChute_1 : decode cX0_takeFromChute 1 = .ok (.getfield 26, 3) := by decide +kernel
theorem dX0_takeFromChute_4 : decode cX0_takeFromChute 4 = .ok (.iload_n 1, 1) := by decide +kernel
theorem dX0_takeFromChute_5 : decode cX0_takeFromChute 5 = .ok (.iload_n 2, 1) := by decide +kernel
theorem dX0_takeFromChute_6 : decode cX0_takeFromChute 6 = .ok (.invokevirtual 45, 3) := by decide +kernel
theorem dX0_takeFromChute_9 : decode cX0_takeFromChute 9 = .ok (.aload_n 0, 1) := by decide +kernel
theorem dX0_takeFromChute_10 : decode cX0_takeFromChute 10 = .ok (.getfield 29, 3) := by decide +kernel
theorem dX0_takeFromChute_13 : decode cX0_takeFromChute 13 = .ok (.iload_n 1, 1) := by decide +kernel
theorem dX0_takeFromChute_14 : decode cX0_takeFromChute 14 = .ok (.iconst (-1), 1) := by decide +kernel
theorem dX0_takeFromChute_15 : decode cX0_takeFromChute 15 = .ok (.invokevirtual 45, 3) := by decide +kernel
theorem dX0_takeFromChute_18 : decode cX0_takeFromChute 18 = .ok (.return_, 1) := by decide +kernel
theorem dX0_closeFile_0 : decode cX0_closeFile 0 = .ok (.aload_n 0, 1) := by decide +kernel
theorem dX0_closeFile_1 : decode cX0_closeFile 1 = .ok (.getfield 38, 3) := by decide +kernel
theorem dX0_closeFile_4 : decode cX0_closeFile 4 = .ok (.iload_n 1, 1) := by decide +kernel
theorem dX0_closeFile_5 : decode cX0_closeFile 5 = .ok (.invokevirtual 53, 3) := by decide +kernel
theorem dX0_closeFile_8 : decode cX0_closeFile 8 = .ok (.iconst 1, 1) := by decide +kernel
theorem dX0_closeFile_9 : decode cX0_closeFile 9 = .ok (.if_icmp .ne 12, 3) := by decide +kernel
theorem dX0_closeFile_12 : decode cX0_closeFile 12 = .ok (.aload_n 0, 1) := by decide +kernel
theorem dX0_closeFile_13 : decode cX0_closeFile 13 = .ok (.getfield 38, 3) := by decide +kernel
theorem dX0_closeFile_16 : decode cX0_closeFile 16 = .ok (.iload_n 1, 1) := by decide +kernel
theorem dX0_closeFile_17 : decode cX0_closeFile 17 = .ok (.iconst 2, 1) := by decide +kernel
theorem dX0_closeFile_18 : decode cX0_closeFile 18 = .ok (.invokevirtual 45, 3) := by decide +kernel
theorem dX0_closeFile_21 : decode cX0_closeFile 21 = .ok (.return_, 1) := by decide +kernel
theorem dX0_takeAll_0 : decode cX0_takeAll 0 = .ok (.aload_n 0, 1) := by decide +kernel
theorem dX0_takeAll_1 : decode cX0_takeAll 1 = .ok (.aload_n 1, 1) := by decide +kernel
theorem dX0_takeAll_2 : decode cX0_takeAll 2 = .ok (.getfield 41, 3) := by decide +kernel
theorem dX0_takeAll_5 : decode cX0_takeAll 5 = .ok (.putfield 41, 3) := by decide +kernel
theorem dX0_takeAll_8 : decode cX0_takeAll 8 = .ok (.aload_n 0, 1) := by decide +kernel
theorem dX0_takeAll_9 : decode cX0_takeAll 9 = .ok (.getfield 14, 3) := by decide +kernel
theorem dX0_takeAll_12 : decode cX0_takeAll 12 = .ok (.aload_n 1, 1) := by decide +kernel
theorem dX0_takeAll_13 : decode cX0_takeAll 13 = .ok (.getfield 14, 3) := by decide +kernel
theorem dX0_takeAll_16 : decode cX0_takeAll 16 = .ok (.invokevirtual 57, 3) := by decide +kernel
theorem dX0_takeAll_19 : decode cX0_takeAll 19 = .ok (.aload_n 0, 1) := by decide +kernel
theorem dX0_takeAll_20 : decode cX0_takeAll 20 = .ok (.getfield 20, 3) := by decide +kernel
theorem dX0_takeAll_23 : decode cX0_takeAll 23 = .ok (.aload_n 1, 1) := by decide +kernel
theorem dX0_takeAll_24 : decode cX0_takeAll 24 = .ok (.getfield 20, 3) := by decide +kernel
theorem dX0_takeAll_27 : decode cX0_takeAll 27 = .ok (.invokevirtual 57, 3) := by decide +kernel
theorem dX0_takeAll_30 : decode cX0_takeAll 30 = .ok (.aload_n 0, 1) := by decide +kernel
theorem dX0_takeAll_31 : decode cX0_takeAll 31 = .ok (.getfield 23, 3) := by decide +kernel
theorem dX0_takeAll_34 : decode cX0_takeAll 34 = .ok (.aload_n 1, 1) := by decide +kernel
theorem dX0_takeAll_35 : decode cX0_takeAll 35 = .ok (.getfield 23, 3) := by decide +kernel
theorem dX0_takeAll_38 : decode cX0_takeAll 38 = .ok (.invokevirtual 57, 3) := by decide +kernel
theorem dX0_takeAll_41 : decode cX0_takeAll 41 = .ok (.aload_n 0, 1) := by decide +kernel
theorem dX0_takeAll_42 : decode cX0_takeAll 42 = .ok (.getfield 26, 3) := by decide +kernel
theorem dX0_takeAll_45 : decode cX0_takeAll 45 = .ok (.aload_n 1, 1) := by decide +kernel
theorem dX0_takeAll_46 : decode cX0_takeAll 46 = .ok (.getfield 26, 3) := by decide +kernel
theorem dX0_takeAll_49 : decode cX0_takeAll 49 = .ok (.invokevirtual 57, 3) := by decide +kernel
theorem dX0_takeAll_52 : decode cX0_takeAll 52 = .ok (.aload_n 0, 1) := by decide +kernel
theorem dX0_takeAll_53 : decode cX0_takeAll 53 = .ok (.getfield 29, 3) := by decide +kernel
theorem dX0_takeAll_56 : decode cX0_takeAll 56 = .ok (.aload_n 1, 1) := by decide +kernel
theorem dX0_takeAll_57 : decode cX0_takeAll 57 = .ok (.getfield 29, 3) := by decide +kernel
theorem dX0_takeAll_60 : decode cX0_takeAll 60 = .ok (.invokevirtual 57, 3) := by decide +kernel
theorem dX0_takeAll_63 : decode cX0_takeAll 63 = .ok (.aload_n 0, 1) := by decide +kernel
theorem dX0_takeAll_64 : decode cX0_takeAll 64 = .ok (.getfield 32, 3) := by decide +kernel
theorem dX0_takeAll_67 : decode cX0_takeAll 67 = .ok (.aload_n 1, 1) := by decide +kernel
theorem dX0_takeAll_68 : decode cX0_takeAll 68 = .ok (.getfield 32, 3) := by decide +kernel
theorem dX0_takeAll_71 : decode cX0_takeAll 71 = .ok (.invokevirtual 57, 3) := by decide +kernel
theorem dX0_takeAll_74 : decode cX0_takeAll 74 = .ok (.aload_n 0, 1) := by decide +kernel
theorem dX0_takeAll_75 : decode cX0_takeAll 75 = .ok (.getfield 35, 3) := by decide +kernel
theorem dX0_takeAll_78 : decode cX0_takeAll 78 = .ok (.aload_n 1, 1) := by decide +kernel
theorem dX0_takeAll_79 : decode cX0_takeAll 79 = .ok (.getfield 35, 3) := by decide +kernel
theorem dX0_takeAll_82 : decode cX0_takeAll 82 = .ok (.invokevirtual 57, 3) := by decide +kernel
theorem dX0_takeAll_85 : decode cX0_takeAll 85 = .ok (.aload_n 0, 1) := by decide +kernel
theorem dX0_takeAll_86 : decode cX0_takeAll 86 = .ok (.getfield 38, 3) := by decide +kernel
theorem dX0_takeAll_89 : decode cX0_takeAll 89 = .ok (.aload_n 1, 1) := by decide +kernel
theorem dX0_takeAll_90 : decode cX0_takeAll 90 = .ok (.getfield 38, 3) := by decide +kernel
theorem dX0_takeAll_93 : decode cX0_takeAll 93 = .ok (.invokevirtual 57, 3) := by decide +kernel
theorem dX0_takeAll_96 : decode cX0_takeAll 96 = .ok (.return_, 1) := by decide +kernel
theorem dX1_init_0 : decode cX1_init 0 = .ok (.aload_n 0, 1) := by decide +kernel
theorem dX1_init_1 : decode cX1_init 1 = .ok (.invokespecial 3, 3) := by decide +kernel
theorem dX1_init_4 : decode cX1_init 4 = .ok (.aload_n 0, 1) := by decide +kernel
theorem dX1_init_5 : decode cX1_init 5 = .ok (.new 9, 3) := by decide +kernel
theorem dX1_init_8 : decode cX1_init 8 = .ok (.dup, 1) := by decide +kernel
theorem dX1_init_9 : decode cX1_init 9 = .ok (.bipush 6, 2) := by decide +kernel
theorem dX1_init_11 : decode cX1_init 11 = .ok (.newarray .int, 2) := by decide +kernel
theorem dX1_init_13 : decode cX1_init 13 = .ok (.iconst (-1), 1) := by decide +kernel
theorem dX1_init_14 : decode cX1_init 14 = .ok (.invokespecial 11, 3) := by decide +kernel
theorem dX1_init_17 : decode cX1_init 17 = .ok (.putfield 14, 3) := by decide +kernel
theorem dX1_init_20 : decode cX1_init 20 = .ok (.aload_n 0, 1) := by decide +kernel
theorem dX1_init_21 : decode cX1_init 21 = .ok (.new 9, 3) := by decide +kernel
theorem dX1_init_24 : decode cX1_init 24 = .ok (.dup, 1) := by decide +kernel
theorem dX1_init_25 : decode cX1_init 25 = .ok (.bipush 6, 2) := by decide +kernel
theorem dX1_init_27 : decode cX1_init 27 = .ok (.newarray .int, 2) := by decide +kernel
theorem dX1_init_29 : decode cX1_init 29 = .ok (.iconst 0, 1) := by decide +kernel
theorem dX1_init_30 : decode cX1_init 30 = .ok (.invokespecial 11, 3) := by decide +kernel
theorem dX1_init_33 : decode cX1_init 33 = .ok (.putfield 20, 3) := by decide +kernel
theorem dX1_init_36 : decode cX1_init 36 = .ok (.return_, 1) := by decide +kernel
theorem dX1_addOne_0 : decode cX1_addOne 0 = .ok (.aload_n 0, 1) := by decide +kernel
theorem dX1_addOne_1 : decode cX1_addOne 1 = .ok (.getfield 23, 3) := by decide +kernel
theorem dX1_addOne_4 : decode cX1_addOne 4 = .ok (.istore_n 1, 1) := by decide +kernel
theorem dX1_addOne_5 : decode cX1_addOne 5 = .ok (.aload_n 0, 1) := by decide +kernel
theorem dX1_addOne_6 : decode cX1_addOne 6 = .ok (.dup, 1) := by decide +kernel
theorem dX1_addOne_7 : decode cX1_addOne 7 = .ok (.getfield 23, 3) := by decide +kernel
theorem dX1_addOne_10 : decode cX1_addOne 10 = .ok (.iconst 1, 1) := by decide +kernel
theorem dX1_addOne_11 : decode cX1_addOne 11 = .ok (.iadd, 1) := by decide +kernel
theorem dX1_addOne_12 : decode cX1_addOne 12 = .ok (.putfield 23, 3) := by decide +kernel
theorem dX1_addOne_15 : decode cX1_addOne 15 = .ok (.iload_n 1, 1) := by decide +kernel
theorem dX1_addOne_16 : decode cX1_addOne 16 = .ok (.ireturn, 1) := by decide +kernel
theorem dX1_hasLeft_0 : decode cX1_hasLeft 0 = .ok (.aload_n 0, 1) := by decide +kernel
theorem dX1_hasLeft_1 : decode cX1_hasLeft 1 = .ok (.getfield 20, 3) := by decide +kernel
theorem dX1_hasLeft_4 : decode cX1_hasLeft 4 = .ok (.iload_n 1, 1) := by decide +kernel
theorem dX1_hasLeft_5 : decode cX1_hasLeft 5 = .ok (.invokevirtual 27, 3) := by decide +kernel
theorem dX1_hasLeft_8 : decode cX1_hasLeft 8 = .ok (.iconst 1, 1) := by decide +kernel
theorem dX1_hasLeft_9 : decode cX1_hasLeft 9 = .ok (.if_icmp .ne 7, 3) := by decide +kernel
theorem dX1_hasLeft_12 : decode cX1_hasLeft 12 = .ok (.iconst 1, 1) := by decide +kernel
theorem dX1_hasLeft_13 : decode cX1_hasLeft 13 = .ok (.goto 4, 3) := by decide +kernel
theorem dX1_hasLeft_16 : decode cX1_hasLeft 16 = .ok (.iconst 0, 1) := by decide +kernel
theorem dX1_hasLeft_17 : decode cX1_hasLeft 17 = .ok (.ireturn, 1) := by decide +kernel
theorem dX1_takeAll_0 : decode cX1_takeAll 0 = .ok (.aload_n 0, 1) := by decide +kernel
theorem dX1_takeAll_1 : decode cX1_takeAll 1 = .ok (.aload_n 1, 1) := by decide +kernel
theorem dX1_takeAll_2 : decode cX1_takeAll 2 = .ok (.getfield 23, 3) := by decide +kernel
theorem dX1_takeAll_5 : decode cX1_takeAll 5 = .ok (.putfield 23, 3) := by decide +kernel
theorem dX1_takeAll_8 : decode cX1_takeAll 8 = .ok (.aload_n 0, 1) := by decide +kernel
theorem dX1_takeAll_9 : decode cX1_takeAll 9 = .ok (.getfield 14, 3) := by decide +kernel
theorem dX1_takeAll_12 : decode cX1_takeAll 12 = .ok (.aload_n 1, 1) := by decide +kernel
theorem dX1_takeAll_13 : decode cX1_takeAll 13 = .ok (.getfield 14, 3) := by decide +kernel
theorem dX1_takeAll_16 : decode cX1_takeAll 16 = .ok (.invokevirtual 31, 3) := by decide +kernel
theorem dX1_takeAll_19 : decode cX1_takeAll 19 = .ok (.aload_n 0, 1) := by decide +kernel
theorem dX1_takeAll_20 : decode cX1_takeAll 20 = .ok (.getfield 20, 3) := by decide +kernel
theorem dX1_takeAll_23 : decode cX1_takeAll 23 = .ok (.aload_n 1, 1) := by decide +kernel
theorem dX1_takeAll_24 : decode cX1_takeAll 24 = .ok (.getfield 20, 3) := by decide +kernel
theorem dX1_takeAll_27 : decode cX1_takeAll 27 = .ok (.invokevirtual 31, 3) := by decide +kernel
theorem dX1_takeAll_30 : decode cX1_takeAll 30 = .ok (.return_, 1) := by decide +kernel
theorem dX2_init_0 : decode cX2_init 0 = .ok (.aload_n 0, 1) := by decide +kernel
theorem dX2_init_1 : decode cX2_init 1 = .ok (.invokespecial 3, 3) := by decide +kernel
theorem dX2_init_4 : decode cX2_init 4 = .ok (.aload_n 0, 1) := by decide +kernel
theorem dX2_init_5 : decode cX2_init 5 = .ok (.iconst 5, 1) := by decide +kernel
theorem dX2_init_6 : decode cX2_init 6 = .ok (.putfield 9, 3) := by decide +kernel
theorem dX2_init_9 : decode cX2_init 9 = .ok (.aload_n 0, 1) := by decide +kernel
theorem dX2_init_10 : decode cX2_init 10 = .ok (.new 15, 3) := by decide +kernel
theorem dX2_init_13 : decode cX2_init 13 = .ok (.dup, 1) := by decide +kernel
theorem dX2_init_14 : decode cX2_init 14 = .ok (.invokespecial 17, 3) := by decide +kernel
theorem dX2_init_17 : decode cX2_init 17 = .ok (.putfield 18, 3) := by decide +kernel
theorem dX2_init_20 : decode cX2_init 20 = .ok (.aload_n 0, 1) := by decide +kernel
theorem dX2_init_21 : decode cX2_init 21 = .ok (.new 22, 3) := by decide +kernel
theorem dX2_init_24 : decode cX2_init 24 = .ok (.dup, 1) := by decide +kernel
theorem dX2_init_25 : decode cX2_init 25 = .ok (.invokespecial 24, 3) := by decide +kernel
theorem dX2_init_28 : decode cX2_init 28 = .ok (.putfield 25, 3) := by decide +kernel
theorem dX2_init_31 : decode cX2_init 31 = .ok (.aload_n 0, 1) := by decide +kernel
theorem dX2_init_32 : decode cX2_init 32 = .ok (.new 29, 3) := by decide +kernel
theorem dX2_init_35 : decode cX2_init 35 = .ok (.dup, 1) := by decide +kernel
theorem dX2_init_36 : decode cX2_init 36 = .ok (.iconst 4, 1) := by decide +kernel
theorem dX2_init_37 : decode cX2_init 37 = .ok (.newarray .int, 2) := by decide +kernel
theorem dX2_init_39 : decode cX2_init 39 = .ok (.iconst 5, 1) := by decide +kernel
theorem dX2_init_40 : decode cX2_init 40 = .ok (.invokespecial 31, 3) := by decide +kernel
theorem dX2_init_43 : decode cX2_init 43 = .ok (.putfield 34, 3) := by decide +kernel
theorem dX2_init_46 : decode cX2_init 46 = .ok (.aload_n 0, 1) := by decide +kernel
theorem dX2_init_47 : decode cX2_init 47 = .ok (.new 29, 3) := by decide +kernel
theorem dX2_init_50 : decode cX2_init 50 = .ok (.dup, 1) := by decide +kernel
theorem dX2_init_51 : decode cX2_init 51 = .ok (.bipush 12, 2) := by decide +kernel
theorem dX2_init_53 : decode cX2_init 53 = .ok (.newarray .int, 2) := by decide +kernel
theorem dX2_init_55 : decode cX2_init 55 = .ok (.iconst (-1), 1) := by decide +kernel
theorem dX2_init_56 : decode cX2_init 56 = .ok (.invokespecial 31, 3) := by decide +kernel
theorem dX2_init_59 : decode cX2_init 59 = .ok (.putfield 38, 3) := by decide +kernel
theorem dX2_init_62 : decode cX2_init 62 = .ok (.aload_n 0, 1) := by decide +kernel
theorem dX2_init_63 : decode cX2_init 63 = .ok (.new 29, 3) := by decide +kernel
theorem dX2_init_66 : decode cX2_init 66 = .ok (.dup, 1) := by decide +kernel
theorem dX2_init_67 : decode cX2_init 67 = .ok (.bipush 40, 2) := by decide +kernel
theorem dX2_init_69 : decode cX2_init 69 = .ok (.newarray .int, 2) := by decide +kernel
theorem dX2_init_71 : decode cX2_init 71 = .ok (.iconst (-1), 1) := by decide +kernel
theorem dX2_init_72 : decode cX2_init 72 = .ok (.invokespecial 31, 3) := by decide +kernel
theorem dX2_init_75 : decode cX2_init 75 = .ok (.putfield 41, 3) := by decide +kernel
theorem dX2_init_78 : decode cX2_init 78 = .ok (.return_, 1) := by decide +kernel
theorem dX2_becomeLike_0 : decode cX2_becomeLike 0 = .ok (.aload_n 0, 1) := by decide +kernel
theorem dX2_becomeLike_1 : decode cX2_becomeLike 1 = .ok (.aload_n 1, 1) := by decide +kernel
theorem dX2_becomeLike_2 : decode cX2_becomeLike 2 = .ok (.getfield 44, 3) := by decide +kernel
theorem dX2_becomeLike_5 : decode cX2_becomeLike 5 = .ok (.putfield 44, 3) := by decide +kernel
theorem dX2_becomeLike_8 : decode cX2_becomeLike 8 = .ok (.aload_n 0, 1) := by decide +kernel
theorem dX2_becomeLike_9 : decode cX2_becomeLike 9 = .ok (.aload_n 1, 1) := by decide +kernel
theorem dX2_becomeLike_10 : decode cX2_becomeLike 10 = .ok (.getfield 9, 3) := by decide +kernel
theorem dX2_becomeLike_13 : decode cX2_becomeLike 13 = .ok (.putfield 9, 3) := by decide +kernel
theorem dX2_becomeLike_16 : decode cX2_becomeLike 16 = .ok (.aload_n 0, 1) := by decide +kernel
theorem dX2_becomeLike_17 : decode cX2_becomeLike 17 = .ok (.aload_n 1, 1) := by decide +kernel
theorem dX2_becomeLike_18 : decode cX2_becomeLike 18 = .ok (.getfield 47, 3) := by decide +kernel
theorem dX2_becomeLike_21 : decode cX2_becomeLike 21 = .ok (.putfield 47, 3) := by decide +kernel
theorem dX2_becomeLike_24 : decode cX2_becomeLike 24 = .ok (.aload_n 0, 1) := by decide +kernel
theorem dX2_becomeLike_25 : decode cX2_becomeLike 25 = .ok (.getfield 18, 3) := by decide +kernel
theorem dX2_becomeLike_28 : decode cX2_becomeLike 28 = .ok (.aload_n 1, 1) := by decide +kernel
theorem dX2_becomeLike_29 : decode cX2_becomeLike 29 = .ok (.getfield 18, 3) := by decide +kernel
theorem dX2_becomeLike_32 : decode cX2_becomeLike 32 = .ok (.invokevirtual 50, 3) := by decide +kernel
theorem dX2_becomeLike_35 : decode cX2_becomeLike 35 = .ok (.aload_n 0, 1) := by decide +kernel
theorem dX2_becomeLike_36 : decode cX2_becomeLike 36 = .ok (.getfield 25, 3) := by decide +kernel
theorem dX2_becomeLike_39 : decode cX2_becomeLike 39 = .ok (.aload_n 1, 1) := by decide +kernel
theorem dX2_becomeLike_40 : decode cX2_becomeLike 40 = .ok (.getfield 25, 3) := by decide +kernel
theorem dX2_becomeLike_43 : decode cX2_becomeLike 43 = .ok (.invokevirtual 54, 3) := by decide +kernel
theorem dX2_becomeLike_46 : decode cX2_becomeLike 46 = .ok (.aload_n 0, 1) := by decide +kernel
theorem dX2_becomeLike_47 : decode cX2_becomeLike 47 = .ok (.getfield 34, 3) := by decide +kernel
theorem dX2_becomeLike_50 : decode cX2_becomeLike 50 = .ok (.aload_n 1, 1) := by decide +kernel
theorem dX2_becomeLike_51 : decode cX2_becomeLike 51 = .ok (.getfield 34, 3) := by decide +kernel
theorem dX2_becomeLike_54 : decode cX2_becomeLike 54 = .ok (.invokevirtual 57, 3) := by decide +kernel
theorem dX2_becomeLike_57 : decode cX2_becomeLike 57 = .ok (.aload_n 0, 1) := by decide +kernel
theorem dX2_becomeLike_58 : decode cX2_becomeLike 58 = .ok (.getfield 38, 3) := by decide +kernel
theorem dX2_becomeLike_61 : decode cX2_becomeLike 61 = .ok (.aload_n 1, 1) := by decide +kernel
theorem dX2_becomeLike_62 : decode cX2_becomeLike 62 = .ok (.getfield 38, 3) := by decide +kernel
theorem dX2_becomeLike_65 : decode cX2_becomeLike 65 = .ok (.invokevirtual 57, 3) := by decide +kernel
theorem dX2_becomeLike_68 : decode cX2_becomeLike 68 = .ok (.aload_n 0, 1) := by decide +kernel
theorem dX2_becomeLike_69 : decode cX2_becomeLike 69 = .ok (.getfield 41, 3) := by decide +kernel
theorem dX2_becomeLike_72 : decode cX2_becomeLike 72 = .ok (.aload_n 1, 1) := by decide +kernel
theorem dX2_becomeLike_73 : decode cX2_becomeLike 73 = .ok (.getfield 41, 3) := by decide +kernel
theorem dX2_becomeLike_76 : decode cX2_becomeLike 76 = .ok (.invokevirtual 57, 3) := by decide +kernel
theorem dX2_becomeLike_79 : decode cX2_becomeLike 79 = .ok (.return_, 1) := by decide +kernel
theorem dX2_takeIn_0 : decode cX2_takeIn 0 = .ok (.aload_n 0, 1) := by decide +kernel
theorem dX2_takeIn_1 : decode cX2_takeIn 1 = .ok (.getfield 25, 3) := by decide +kernel
theorem dX2_takeIn_4 : decode cX2_takeIn 4 = .ok (.getfield 60, 3) := by decide +kernel
theorem dX2_takeIn_7 : decode cX2_takeIn 7 = .ok (.iload_n 1, 1) := by decide +kernel
theorem dX2_takeIn_8 : decode cX2_takeIn 8 = .ok (.invokevirtual 63, 3) := by decide +kernel
theorem dX2_takeIn_11 : decode cX2_takeIn 11 = .ok (.bipush 7, 2) := by decide +kernel
theorem dX2_takeIn_13 : decode cX2_takeIn 13 = .ok (.if_icmp .le 16, 3) := by decide +kernel
theorem dX2_takeIn_16 : decode cX2_takeIn 16 = .ok (.aload_n 0, 1) := by decide +kernel
theorem dX2_takeIn_17 : decode cX2_takeIn 17 = .ok (.getfield 25, 3) := by decide +kernel
theorem dX2_takeIn_20 : decode cX2_takeIn 20 = .ok (.getfield 67, 3) := by decide +kernel
theorem dX2_takeIn_23 : decode cX2_takeIn 23 = .ok (.iload_n 1, 1) := by decide +kernel
theorem dX2_takeIn_24 : decode cX2_takeIn 24 = .ok (.iconst 4, 1) := by decide +kernel
theorem dX2_takeIn_25 : decode cX2_takeIn 25 = .ok (.invokevirtual 70, 3) := by decide +kernel
theorem dX2_takeIn_28 : decode cX2_takeIn 28 = .ok (.return_, 1) := by decide +kernel
theorem dX2_takeIn_29 : decode cX2_takeIn 29 = .ok (.aload_n 0, 1) := by decide +kernel
theorem dX2_takeIn_30 : decode cX2_takeIn 30 = .ok (.getfield 25, 3) := by decide +kernel
theorem dX2_takeIn_33 : decode cX2_takeIn 33 = .ok (.getfield 67, 3) := by decide +kernel
theorem dX2_takeIn_36 : decode cX2_takeIn 36 = .ok (.iload_n 1, 1) := by decide +kernel
theorem dX2_takeIn_37 : decode cX2_takeIn 37 = .ok (.iconst 0, 1) := by decide +kernel
theorem dX2_takeIn_38 : decode cX2_takeIn 38 = .ok (.invokevirtual 70, 3) := by decide +kernel
theorem dX2_takeIn_41 : decode cX2_takeIn 41 = .ok (.aload_n 0, 1) := by decide +kernel
theorem dX2_takeIn_42 : decode cX2_takeIn 42 = .ok (.getfield 41, 3) := by decide +kernel
theorem dX2_takeIn_45 : decode cX2_takeIn 45 = .ok (.aload_n 0, 1) := by decide +kernel
theorem dX2_takeIn_46 : decode cX2_takeIn 46 = .ok (.getfield 47, 3) := by decide +kernel
theorem dX2_takeIn_49 : decode cX2_takeIn 49 = .ok (.iload_n 1, 1) := by decide +kernel
theorem dX2_takeIn_50 : decode cX2_takeIn 50 = .ok (.invokevirtual 70, 3) := by decide +kernel
theorem dX2_takeIn_53 : decode cX2_takeIn 53 = .ok (.aload_n 0, 1) := by decide +kernel
theorem dX2_takeIn_54 : decode cX2_takeIn 54 = .ok (.dup, 1) := by decide +kernel
theorem dX2_takeIn_55 : decode cX2_takeIn 55 = .ok (.getfield 47, 3) := by decide +kernel
theorem dX2_takeIn_58 : decode cX2_takeIn 58 = .ok (.iconst 1, 1) := by decide +kernel
theorem dX2_takeIn_59 : decode cX2_takeIn 59 = .ok (.iadd, 1) := by decide +kernel
theorem dX2_takeIn_60 : decode cX2_takeIn 60 = .ok (.putfield 47, 3) := by decide +kernel
theorem dX2_takeIn_63 : decode cX2_takeIn 63 = .ok (.return_, 1) := by decide +kernel
theorem dX2_changeChute_0 : decode cX2_changeChute 0 = .ok (.iconst 0, 1) := by decide +kernel
theorem dX2_changeChute_1 : decode cX2_changeChute 1 = .ok (.istore_n 3, 1) := by decide +kernel
theorem dX2_changeChute_2 : decode cX2_changeChute 2 = .ok (.iconst 0, 1) := by decide +kernel
theorem dX2_changeChute_3 : decode cX2_changeChute 3 = .ok (.istore 4, 2) := by decide +kernel
theorem dX2_changeChute_5 : decode cX2_changeChute 5 = .ok (.iload 4, 2) := by decide +kernel
theorem dX2_changeChute_7 : decode cX2_changeChute 7 = .ok (.aload_n 0, 1) := by decide +kernel
theorem dX2_changeChute_8 : decode cX2_changeChute 8 = .ok (.getfield 25, 3) := by decide +kernel
theorem dX2_changeChute_11 : decode cX2_changeChute 11 = .ok (.getfield 74, 3) := by decide +kernel
theorem dX2_changeChute_14 : decode cX2_changeChute 14 = .ok (.if_icmp .ge 53, 3) := by decide +kernel
theorem dX2_changeChute_17 : decode cX2_changeChute 17 = .ok (.aload_n 0, 1) := by decide +kernel
theorem dX2_changeChute_18 : decode cX2_changeChute 18 = .ok (.getfield 25, 3) := by decide +kernel
theorem dX2_changeChute_21 : decode cX2_changeChute 21 = .ok (.getfield 77, 3) := by decide +kernel
theorem dX2_changeChute_24 : decode cX2_changeChute 24 = .ok (.iload 4, 2) := by decide +kernel
theorem dX2_changeChute_26 : decode cX2_changeChute 26 = .ok (.invokevirtual 63, 3) := by decide +kernel
theorem dX2_changeChute_29 : decode cX2_changeChute 29 = .ok (.iload_n 1, 1) := by decide +kernel
theorem dX2_changeChute_30 : decode cX2_changeChute 30 = .ok (.if_icmp .ne 31, 3) := by decide +kernel
theorem dX2_changeChute_33 : decode cX2_changeChute 33 = .ok (.aload_n 0, 1) := by decide +kernel
theorem dX2_changeChute_34 : decode cX2_changeChute 34 = .ok (.iload 4, 2) := by decide +kernel
theorem dX2_changeChute_36 : decode cX2_changeChute 36 = .ok (.invokevirtual 80, 3) := by decide +kernel
theorem dX2_changeChute_39 : decode cX2_changeChute 39 = .ok (.ifCond .eq 22, 3) := by decide +kernel
theorem dX2_changeChute_42 : decode cX2_changeChute 42 = .ok (.aload_n 0, 1) := by decide +kernel
theorem dX2_changeChute_43 : decode cX2_changeChute 43 = .ok (.getfield 25, 3) := by decide +kernel
theorem dX2_changeChute_46 : decode cX2_changeChute 46 = .ok (.getfield 84, 3) := by decide +kernel
theorem dX2_changeChute_49 : decode cX2_changeChute 49 = .ok (.iload 4, 2) := by decide +kernel
theorem dX2_changeChute_51 : decode cX2_changeChute 51 = .ok (.invokevirtual 63, 3) := by decide +kernel
theorem dX2_changeChute_54 : decode cX2_changeChute 54 = .ok (.iload_n 2, 1) := by decide +kernel
theorem dX2_changeChute_55 : decode cX2_changeChute 55 = .ok (.if_icmp .eq 6, 3) := by decide +kernel
theorem dX2_changeChute_58 : decode cX2_changeChute 58 = .ok (.iinc 3 1, 3) := by decide +kernel
theorem dX2_changeChute_61 : decode cX2_changeChute 61 = .ok (.iinc 4 1, 3) := by decide +kernel
theorem dX2_changeChute_64 : decode cX2_changeChute 64 = .ok (.goto (-59), 3) := by decide +kernel
theorem dX2_changeChute_67 : decode cX2_changeChute 67 = .ok (.aload_n 0, 1) := by decide +kernel
theorem dX2_changeChute_68 : decode cX2_changeChute 68 = .ok (.getfield 18, 3) := by decide +kernel
theorem dX2_changeChute_71 : decode cX2_changeChute 71 = .ok (.getfield 87, 3) := by decide +kernel
theorem dX2_changeChute_74 : decode cX2_changeChute 74 = .ok (.iload_n 1, 1) := by decide +kernel
theorem dX2_changeChute_75 : decode cX2_changeChute 75 = .ok (.iload_n 2, 1) := by decide +kernel
theorem dX2_changeChute_76 : decode cX2_changeChute 76 = .ok (.invokevirtual 70, 3) := by decide +kernel
theorem dX2_changeChute_79 : decode cX2_changeChute 79 = .ok (.iload_n 3, 1) := by decide +kernel
theorem dX2_changeChute_80 : decode cX2_changeChute 80 = .ok (.ireturn, 1) := by decide +kernel
theorem dX2_clearMisrouted_0 : decode cX2_clearMisrouted 0 = .ok (.iconst 0, 1) := by decide +kernel
theorem dX2_clearMisrouted_1 : decode cX2_clearMisrouted 1 = .ok (.istore_n 2, 1) := by decide +kernel
theorem dX2_clearMisrouted_2 : decode cX2_clearMisrouted 2 = .ok (.iconst 0, 1) := by decide +kernel
theorem dX2_clearMisrouted_3 : decode cX2_clearMisrouted 3 = .ok (.istore_n 3, 1) := by decide +kernel
theorem dX2_clearMisrouted_4 : decode cX2_clearMisrouted 4 = .ok (.iload_n 3, 1) := by decide +kernel
theorem dX2_clearMisrouted_5 : decode cX2_clearMisrouted 5 = .ok (.aload_n 0, 1) := by decide +kernel
theorem dX2_clearMisrouted_6 : decode cX2_clearMisrouted 6 = .ok (.getfield 25, 3) := by decide +kernel
theorem dX2_clearMisrouted_9 : decode cX2_clearMisrouted 9 = .ok (.getfield 74, 3) := by decide +kernel
theorem dX2_clearMisrouted_12 : decode cX2_clearMisrouted 12 = .ok (.if_icmp .ge 52, 3) := by decide +kernel
theorem dX2_clearMisrouted_15 : decode cX2_clearMisrouted 15 = .ok (.aload_n 0, 1) := by decide +kernel
theorem dX2_clearMisrouted_16 : decode cX2_clearMisrouted 16 = .ok (.getfield 25, 3) := by decide +kernel
theorem dX2_clearMisrouted_19 : decode cX2_clearMisrouted 19 = .ok (.getfield 84, 3) := by decide +kernel
theorem dX2_clearMisrouted_22 : decode cX2_clearMisrouted 22 = .ok (.iload_n 3, 1) := by decide +kernel
theorem dX2_clearMisrouted_23 : decode cX2_clearMisrouted 23 = .ok (.invokevirtual 63, 3) := by decide +kernel
theorem dX2_clearMisrouted_26 : decode cX2_clearMisrouted 26 = .ok (.iload_n 1, 1) := by decide +kernel
theorem dX2_clearMisrouted_27 : decode cX2_clearMisrouted 27 = .ok (.if_icmp .ne 31, 3) := by decide +kernel
theorem dX2_clearMisrouted_30 : decode cX2_clearMisrouted 30 = .ok (.aload_n 0, 1) := by decide +kernel
theorem dX2_clearMisrouted_31 : decode cX2_clearMisrouted 31 = .ok (.iload_n 3, 1) := by decide +kernel
theorem dX2_clearMisrouted_32 : decode cX2_clearMisrouted 32 = .ok (.invokevirtual 88, 3) := by decide +kernel
theorem dX2_clearMisrouted_35 : decode cX2_clearMisrouted 35 = .ok (.ifCond .eq 23, 3) := by decide +kernel
theorem dX2_clearMisrouted_38 : decode cX2_clearMisrouted 38 = .ok (.aload_n 0, 1) := by decide +kernel
theorem dX2_clearMisrouted_39 : decode cX2_clearMisrouted 39 = .ok (.getfield 25, 3) := by decide +kernel
theorem dX2_clearMisrouted_42 : decode cX2_clearMisrouted 42 = .ok (.iload_n 3, 1) := by decide +kernel
theorem dX2_clearMisrouted_43 : decode cX2_clearMisrouted 43 = .ok (.iconst 3, 1) := by decide +kernel
theorem dX2_clearMisrouted_44 : decode cX2_clearMisrouted 44 = .ok (.invokevirtual 91, 3) := by decide +kernel
theorem dX2_clearMisrouted_47 : decode cX2_clearMisrouted 47 = .ok (.aload_n 0, 1) := by decide +kernel
theorem dX2_clearMisrouted_48 : decode cX2_clearMisrouted 48 = .ok (.getfield 25, 3) := by decide +kernel
theorem dX2_clearMisrouted_51 : decode cX2_clearMisrouted 51 = .ok (.iload_n 3, 1) := by decide +kernel
theorem dX2_clearMisrouted_52 : decode cX2_clearMisrouted 52 = .ok (.invokevirtual 94, 3) := by decide +kernel
theorem dX2_clearMisrouted_55 : decode cX2_clearMisrouted 55 = .ok (.iinc 2 1, 3) := by decide +kernel
theorem dX2_clearMisrouted_58 : decode cX2_clearMisrouted 58 = .ok (.iinc 3 1, 3) := by decide +kernel
theorem dX2_clearMisrouted_61 : decode cX2_clearMisrouted 61 = .ok (.goto (-57), 3) := by decide +kernel
theorem dX2_clearMisrouted_64 : decode cX2_clearMisrouted 64 = .ok (.iload_n 2, 1) := by decide +kernel
theorem dX2_clearMisrouted_65 : decode cX2_clearMisrouted 65 = .ok (.ireturn, 1) := by decide +kernel
theorem dX2_letLeave_0 : decode cX2_letLeave 0 = .ok (.iconst 0, 1) := by decide +kernel
theorem dX2_letLeave_1 : decode cX2_letLeave 1 = .ok (.istore_n 2, 1) := by decide +kernel
theorem dX2_letLeave_2 : decode cX2_letLeave 2 = .ok (.iconst 0, 1) := by decide +kernel
theorem dX2_letLeave_3 : decode cX2_letLeave 3 = .ok (.istore_n 3, 1) := by decide +kernel
theorem dX2_letLeave_4 : decode cX2_letLeave 4 = .ok (.iload_n 3, 1) := by decide +kernel
theorem dX2_letLeave_5 : decode cX2_letLeave 5 = .ok (.aload_n 0, 1) := by decide +kernel
theorem dX2_letLeave_6 : decode cX2_letLeave 6 = .ok (.getfield 25, 3) := by decide +kernel
theorem dX2_letLeave_9 : decode cX2_letLeave 9 = .ok (.getfield 74, 3) := by decide +kernel
theorem dX2_letLeave_12 : decode cX2_letLeave 12 = .ok (.if_icmp .ge 62, 3) := by decide +kernel
theorem dX2_letLeave_15 : decode cX2_letLeave 15 = .ok (.aload_n 0, 1) := by decide +kernel
theorem dX2_letLeave_16 : decode cX2_letLeave 16 = .ok (.getfield 25, 3) := by decide +kernel
theorem dX2_letLeave_19 : decode cX2_letLeave 19 = .ok (.getfield 77, 3) := by decide +kernel
theorem dX2_letLeave_22 : decode cX2_letLeave 22 = .ok (.iload_n 3, 1) := by decide +kernel
theorem dX2_letLeave_23 : decode cX2_letLeave 23 = .ok (.invokevirtual 63, 3) := by decide +kernel
theorem dX2_letLeave_26 : decode cX2_letLeave 26 = .ok (.iload_n 1, 1) := by decide +kernel
theorem dX2_letLeave_27 : decode cX2_letLeave 27 = .ok (.if_icmp .eq 6, 3) := by decide +kernel
theorem dX2_letLeave_30 : decode cX2_letLeave 30 = .ok (.goto 38, 3) := by decide +kernel
theorem dX2_letLeave_33 : decode cX2_letLeave 33 = .ok (.aload_n 0, 1) := by decide +kernel
theorem dX2_letLeave_34 : decode cX2_letLeave 34 = .ok (.iload_n 3, 1) := by decide +kernel
theorem dX2_letLeave_35 : decode cX2_letLeave 35 = .ok (.invokevirtual 80, 3) := by decide +kernel
theorem dX2_letLeave_38 : decode cX2_letLeave 38 = .ok (.ifCond .eq 18, 3) := by decide +kernel
theorem dX2_letLeave_41 : decode cX2_letLeave 41 = .ok (.aload_n 0, 1) := by decide +kernel
theorem dX2_letLeave_42 : decode cX2_letLeave 42 = .ok (.getfield 25, 3) := by decide +kernel
theorem dX2_letLeave_45 : decode cX2_letLeave 45 = .ok (.iload_n 3, 1) := by decide +kernel
theorem dX2_letLeave_46 : decode cX2_letLeave 46 = .ok (.iconst 5, 1) := by decide +kernel
theorem dX2_letLeave_47 : decode cX2_letLeave 47 = .ok (.invokevirtual 91, 3) := by decide +kernel
theorem dX2_letLeave_50 : decode cX2_letLeave 50 = .ok (.iinc 2 1, 3) := by decide +kernel
theorem dX2_letLeave_53 : decode cX2_letLeave 53 = .ok (.goto 15, 3) := by decide +kernel
theorem dX2_letLeave_56 : decode cX2_letLeave 56 = .ok (.aload_n 0, 1) := by decide +kernel
theorem dX2_letLeave_57 : decode cX2_letLeave 57 = .ok (.getfield 25, 3) := by decide +kernel
theorem dX2_letLeave_60 : decode cX2_letLeave 60 = .ok (.getfield 98, 3) := by decide +kernel
theorem dX2_letLeave_63 : decode cX2_letLeave 63 = .ok (.iload_n 3, 1) := by decide +kernel
theorem dX2_letLeave_64 : decode cX2_letLeave 64 = .ok (.iconst 1, 1) := by decide +kernel
theorem dX2_letLeave_65 : decode cX2_letLeave 65 = .ok (.invokevirtual 70, 3) := by decide +kernel
theorem dX2_letLeave_68 : decode cX2_letLeave 68 = .ok (.iinc 3 1, 3) := by decide +kernel
theorem dX2_letLeave_71 : decode cX2_letLeave 71 = .ok (.goto (-67), 3) := by decide +kernel
theorem dX2_letLeave_74 : decode cX2_letLeave 74 = .ok (.aload_n 0, 1) := by decide +kernel
theorem dX2_letLeave_75 : decode cX2_letLeave 75 = .ok (.getfield 18, 3) := by decide +kernel
theorem dX2_letLeave_78 : decode cX2_letLeave 78 = .ok (.getfield 101, 3) := by decide +kernel
theorem dX2_letLeave_81 : decode cX2_letLeave 81 = .ok (.iload_n 1, 1) := by decide +kernel
theorem dX2_letLeave_82 : decode cX2_letLeave 82 = .ok (.iconst 1, 1) := by decide +kernel
theorem dX2_letLeave_83 : decode cX2_letLeave 83 = .ok (.invokevirtual 70, 3) := by decide +kernel
theorem dX2_letLeave_86 : decode cX2_letLeave 86 = .ok (.iload_n 2, 1) := by decide +kernel
theorem dX2_letLeave_87 : decode cX2_letLeave 87 = .ok (.ireturn, 1) := by decide +kernel
theorem dX2_goMinutes_0 : decode cX2_goMinutes 0 = .ok (.iconst 0, 1) := by decide +kernel
theorem dX2_goMinutes_1 : decode cX2_goMinutes 1 = .ok (.istore_n 2, 1) := by decide +kernel
theorem dX2_goMinutes_2 : decode cX2_goMinutes 2 = .ok (.iconst 0, 1) := by decide +kernel
theorem dX2_goMinutes_3 : decode cX2_goMinutes 3 = .ok (.istore_n 3, 1) := by decide +kernel
theorem dX2_goMinutes_4 : decode cX2_goMinutes 4 = .ok (.iload_n 3, 1) := by decide +kernel
theorem dX2_goMinutes_5 : decode cX2_goMinutes 5 = .ok (.iload_n 1, 1) := by decide +kernel
theorem dX2_goMinutes_6 : decode cX2_goMinutes 6 = .ok (.if_icmp .ge 16, 3) := by decide +kernel
theorem dX2_goMinutes_9 : decode cX2_goMinutes 9 = .ok (.iload_n 2, 1) := by decide +kernel
theorem dX2_goMinutes_10 : decode cX2_goMinutes 10 = .ok (.aload_n 0, 1) := by decide +kernel
theorem dX2_goMinutes_11 : decode cX2_goMinutes 11 = .ok (.invokevirtual 104, 3) := by decide +kernel
theorem dX2_goMinutes_14 : decode cX2_goMinutes 14 = .ok (.iadd, 1) := by decide +kernel
theorem dX2_goMinutes_15 : decode cX2_goMinutes 15 = .ok (.istore_n 2, 1) := by decide +kernel
theorem dX2_goMinutes_16 : decode cX2_goMinutes 16 = .ok (.iinc 3 1, 3) := by decide +kernel
theorem dX2_goMinutes_19 : decode cX2_goMinutes 19 = .ok (.goto (-15), 3) := by decide +kernel
theorem dX2_goMinutes_22 : decode cX2_goMinutes 22 = .ok (.iload_n 2, 1) := by decide +kernel
theorem dX2_goMinutes_23 : decode cX2_goMinutes 23 = .ok (.ireturn, 1) := by decide +kernel
theorem dX2_goMinute_0 : decode cX2_goMinute 0 = .ok (.aload_n 0, 1) := by decide +kernel
theorem dX2_goMinute_1 : decode cX2_goMinute 1 = .ok (.getfield 38, 3) := by decide +kernel
theorem dX2_goMinute_4 : decode cX2_goMinute 4 = .ok (.invokevirtual 108, 3) := by decide +kernel
theorem dX2_goMinute_7 : decode cX2_goMinute 7 = .ok (.aload_n 0, 1) := by decide +kernel
theorem dX2_goMinute_8 : decode cX2_goMinute 8 = .ok (.invokevirtual 111, 3) := by decide +kernel
theorem dX2_goMinute_11 : decode cX2_goMinute 11 = .ok (.aload_n 0, 1) := by decide +kernel
theorem dX2_goMinute_12 : decode cX2_goMinute 12 = .ok (.invokevirtual 114, 3) := by decide +kernel
theorem dX2_goMinute_15 : decode cX2_goMinute 15 = .ok (.istore_n 1, 1) := by decide +kernel
theorem dX2_goMinute_16 : decode cX2_goMinute 16 = .ok (.aload_n 0, 1) := by decide +kernel
theorem dX2_goMinute_17 : decode cX2_goMinute 17 = .ok (.invokevirtual 117, 3) := by decide +kernel
theorem dX2_goMinute_20 : decode cX2_goMinute 20 = .ok (.aload_n 0, 1) := by decide +kernel
theorem dX2_goMinute_21 : decode cX2_goMinute 21 = .ok (.dup, 1) := by decide +kernel
theorem dX2_goMinute_22 : decode cX2_goMinute 22 = .ok (.getfield 44, 3) := by decide +kernel
theorem dX2_goMinute_25 : decode cX2_goMinute 25 = .ok (.iconst 1, 1) := by decide +kernel
theorem dX2_goMinute_26 : decode cX2_goMinute 26 = .ok (.iadd, 1) := by decide +kernel
theorem dX2_goMinute_27 : decode cX2_goMinute 27 = .ok (.putfield 44, 3) := by decide +kernel
theorem dX2_goMinute_30 : decode cX2_goMinute 30 = .ok (.iload_n 1, 1) := by decide +kernel
theorem dX2_goMinute_31 : decode cX2_goMinute 31 = .ok (.ireturn, 1) := by decide +kernel
theorem dX2_readTag_0 : decode cX2_readTag 0 = .ok (.aload_n 0, 1) := by decide +kernel
theorem dX2_readTag_1 : decode cX2_readTag 1 = .ok (.getfield 38, 3) := by decide +kernel
theorem dX2_readTag_4 : decode cX2_readTag 4 = .ok (.iconst 2, 1) := by decide +kernel
theorem dX2_readTag_5 : decode cX2_readTag 5 = .ok (.invokevirtual 63, 3) := by decide +kernel
theorem dX2_readTag_8 : decode cX2_readTag 8 = .ok (.istore_n 1, 1) := by decide +kernel
theorem dX2_readTag_9 : decode cX2_readTag 9 = .ok (.iload_n 1, 1) := by decide +kernel
theorem dX2_readTag_10 : decode cX2_readTag 10 = .ok (.iconst (-1), 1) := by decide +kernel
theorem dX2_readTag_11 : decode cX2_readTag 11 = .ok (.if_icmp .eq 18, 3) := by decide +kernel
theorem dX2_readTag_14 : decode cX2_readTag 14 = .ok (.aload_n 0, 1) := by decide +kernel
theorem dX2_readTag_15 : decode cX2_readTag 15 = .ok (.getfield 25, 3) := by decide +kernel
theorem dX2_readTag_18 : decode cX2_readTag 18 = .ok (.getfield 120, 3) := by decide +kernel
theorem dX2_readTag_21 : decode cX2_readTag 21 = .ok (.iload_n 1, 1) := by decide +kernel
theorem dX2_readTag_22 : decode cX2_readTag 22 = .ok (.invokevirtual 63, 3) := by decide +kernel
theorem dX2_readTag_25 : decode cX2_readTag 25 = .ok (.iconst (-1), 1) := by decide +kernel
theorem dX2_readTag_26 : decode cX2_readTag 26 = .ok (.if_icmp .eq 4, 3) := by decide +kernel
theorem dX2_readTag_29 : decode cX2_readTag 29 = .ok (.return_, 1) := by decide +kernel
theorem dX2_readTag_30 : decode cX2_readTag 30 = .ok (.aload_n 0, 1) := by decide +kernel
theorem dX2_readTag_31 : decode cX2_readTag 31 = .ok (.getfield 18, 3) := by decide +kernel
theorem dX2_readTag_34 : decode cX2_readTag 34 = .ok (.getfield 87, 3) := by decide +kernel
theorem dX2_readTag_37 : decode cX2_readTag 37 = .ok (.aload_n 0, 1) := by decide +kernel
theorem dX2_readTag_38 : decode cX2_readTag 38 = .ok (.getfield 25, 3) := by decide +kernel
theorem dX2_readTag_41 : decode cX2_readTag 41 = .ok (.getfield 77, 3) := by decide +kernel
theorem dX2_readTag_44 : decode cX2_readTag 44 = .ok (.iload_n 1, 1) := by decide +kernel
theorem dX2_readTag_45 : decode cX2_readTag 45 = .ok (.invokevirtual 63, 3) := by decide +kernel
theorem dX2_readTag_48 : decode cX2_readTag 48 = .ok (.invokevirtual 63, 3) := by decide +kernel
theorem dX2_readTag_51 : decode cX2_readTag 51 = .ok (.istore_n 2, 1) := by decide +kernel
theorem dX2_readTag_52 : decode cX2_readTag 52 = .ok (.aload_n 0, 1) := by decide +kernel
theorem dX2_readTag_53 : decode cX2_readTag 53 = .ok (.getfield 25, 3) := by decide +kernel
theorem dX2_readTag_56 : decode cX2_readTag 56 = .ok (.getfield 123, 3) := by decide +kernel
theorem dX2_readTag_59 : decode cX2_readTag 59 = .ok (.iload_n 1, 1) := by decide +kernel
theorem dX2_readTag_60 : decode cX2_readTag 60 = .ok (.invokevirtual 63, 3) := by decide +kernel
theorem dX2_readTag_63 : decode cX2_readTag 63 = .ok (.aload_n 0, 1) := by decide +kernel
theorem dX2_readTag_64 : decode cX2_readTag 64 = .ok (.getfield 9, 3) := by decide +kernel
theorem dX2_readTag_67 : decode cX2_readTag 67 = .ok (.if_icmp .gt 23, 3) := by decide +kernel
theorem dX2_readTag_70 : decode cX2_readTag 70 = .ok (.iload_n 2, 1) := by decide +kernel
theorem dX2_readTag_71 : decode cX2_readTag 71 = .ok (.iconst (-1), 1) := by decide +kernel
theorem dX2_readTag_72 : decode cX2_readTag 72 = .ok (.if_icmp .eq 18, 3) := by decide +kernel
theorem dX2_readTag_75 : decode cX2_readTag 75 = .ok (.aload_n 0, 1) := by decide +kernel
theorem dX2_readTag_76 : decode cX2_readTag 76 = .ok (.getfield 25, 3) := by decide +kernel
theorem dX2_readTag_79 : decode cX2_readTag 79 = .ok (.getfield 120, 3) := by decide +kernel
theorem dX2_readTag_82 : decode cX2_readTag 82 = .ok (.iload_n 1, 1) := by decide +kernel
theorem dX2_readTag_83 : decode cX2_readTag 83 = .ok (.iload_n 2, 1) := by decide +kernel
theorem dX2_readTag_84 : decode cX2_readTag 84 = .ok (.invokevirtual 70, 3) := by decide +kernel
theorem dX2_readTag_87 : decode cX2_readTag 87 = .ok (.goto 8, 3) := by decide +kernel
theorem dX2_readTag_90 : decode cX2_readTag 90 = .ok (.aload_n 0, 1) := by decide +kernel
theorem dX2_readTag_91 : decode cX2_readTag 91 = .ok (.iload_n 1, 1) := by decide +kernel
theorem dX2_readTag_92 : decode cX2_readTag 92 = .ok (.invokevirtual 126, 3) := by decide +kernel
theorem dX2_readTag_95 : decode cX2_readTag 95 = .ok (.return_, 1) := by decide +kernel
theorem dX2_missTag_0 : decode cX2_missTag 0 = .ok (.aload_n 0, 1) := by decide +kernel
theorem dX2_missTag_1 : decode cX2_missTag 1 = .ok (.getfield 25, 3) := by decide +kernel
theorem dX2_missTag_4 : decode cX2_missTag 4 = .ok (.getfield 129, 3) := by decide +kernel
theorem dX2_missTag_7 : decode cX2_missTag 7 = .ok (.iload_n 1, 1) := by decide +kernel
theorem dX2_missTag_8 : decode cX2_missTag 8 = .ok (.invokevirtual 63, 3) := by decide +kernel
theorem dX2_missTag_11 : decode cX2_missTag 11 = .ok (.iconst 1, 1) := by decide +kernel
theorem dX2_missTag_12 : decode cX2_missTag 12 = .ok (.iadd, 1) := by decide +kernel
theorem dX2_missTag_13 : decode cX2_missTag 13 = .ok (.istore_n 2, 1) := by decide +kernel
theorem dX2_missTag_14 : decode cX2_missTag 14 = .ok (.aload_n 0, 1) := by decide +kernel
theorem dX2_missTag_15 : decode cX2_missTag 15 = .ok (.getfield 25, 3) := by decide +kernel
theorem dX2_missTag_18 : decode cX2_missTag 18 = .ok (.getfield 129, 3) := by decide +kernel
theorem dX2_missTag_21 : decode cX2_missTag 21 = .ok (.iload_n 1, 1) := by decide +kernel
theorem dX2_missTag_22 : decode cX2_missTag 22 = .ok (.iload_n 2, 1) := by decide +kernel
theorem dX2_missTag_23 : decode cX2_missTag 23 = .ok (.invokevirtual 70, 3) := by decide +kernel
theorem dX2_missTag_26 : decode cX2_missTag 26 = .ok (.iload_n 2, 1) := by decide +kernel
theorem dX2_missTag_27 : decode cX2_missTag 27 = .ok (.iconst 3, 1) := by decide +kernel
theorem dX2_missTag_28 : decode cX2_missTag 28 = .ok (.if_icmp .lt 24, 3) := by decide +kernel
theorem dX2_missTag_31 : decode cX2_missTag 31 = .ok (.aload_n 0, 1) := by decide +kernel
theorem dX2_missTag_32 : decode cX2_missTag 32 = .ok (.getfield 38, 3) := by decide +kernel
theorem dX2_missTag_35 : decode cX2_missTag 35 = .ok (.iconst 2, 1) := by decide +kernel
theorem dX2_missTag_36 : decode cX2_missTag 36 = .ok (.iconst (-1), 1) := by decide +kernel
theorem dX2_missTag_37 : decode cX2_missTag 37 = .ok (.invokevirtual 70, 3) := by decide +kernel
theorem dX2_missTag_40 : decode cX2_missTag 40 = .ok (.aload_n 0, 1) := by decide +kernel
theorem dX2_missTag_41 : decode cX2_missTag 41 = .ok (.getfield 25, 3) := by decide +kernel
theorem dX2_missTag_44 : decode cX2_missTag 44 = .ok (.getfield 67, 3) := by decide +kernel
theorem dX2_missTag_47 : decode cX2_missTag 47 = .ok (.iload_n 1, 1) := by decide +kernel
theorem dX2_missTag_48 : decode cX2_missTag 48 = .ok (.iconst 3, 1) := by decide +kernel
theorem dX2_missTag_49 : decode cX2_missTag 49 = .ok (.invokevirtual 70, 3) := by decide +kernel
theorem dX2_missTag_52 : decode cX2_missTag 52 = .ok (.return_, 1) := by decide +kernel
theorem dX2_fillChutes_0 : decode cX2_fillChutes 0 = .ok (.iconst 0, 1) := by decide +kernel
theorem dX2_fillChutes_1 : decode cX2_fillChutes 1 = .ok (.istore_n 1, 1) := by decide +kernel
theorem dX2_fillChutes_2 : decode cX2_fillChutes 2 = .ok (.iconst 0, 1) := by decide +kernel
theorem dX2_fillChutes_3 : decode cX2_fillChutes 3 = .ok (.istore_n 2, 1) := by decide +kernel
theorem dX2_fillChutes_4 : decode cX2_fillChutes 4 = .ok (.iload_n 2, 1) := by decide +kernel
theorem dX2_fillChutes_5 : decode cX2_fillChutes 5 = .ok (.iconst 4, 1) := by decide +kernel
theorem dX2_fillChutes_6 : decode cX2_fillChutes 6 = .ok (.if_icmp .ge 77, 3) := by decide +kernel
theorem dX2_fillChutes_9 : decode cX2_fillChutes 9 = .ok (.iconst 4, 1) := by decide +kernel
theorem dX2_fillChutes_10 : decode cX2_fillChutes 10 = .ok (.iconst 2, 1) := by decide +kernel
theorem dX2_fillChutes_11 : decode cX2_fillChutes 11 = .ok (.iload_n 2, 1) := by decide +kernel
theorem dX2_fillChutes_12 : decode cX2_fillChutes 12 = .ok (.imul, 1) := by decide +kernel
theorem dX2_fillChutes_13 : decode cX2_fillChutes 13 = .ok (.iadd, 1) := by decide +kernel
theorem dX2_fillChutes_14 : decode cX2_fillChutes 14 = .ok (.istore_n 3, 1) := by decide +kernel
theorem dX2_fillChutes_15 : decode cX2_fillChutes 15 = .ok (.aload_n 0, 1) := by decide +kernel
theorem dX2_fillChutes_16 : decode cX2_fillChutes 16 = .ok (.getfield 38, 3) := by decide +kernel
theorem dX2_fillChutes_19 : decode cX2_fillChutes 19 = .ok (.iload_n 3, 1) := by decide +kernel
theorem dX2_fillChutes_20 : decode cX2_fillChutes 20 = .ok (.invokevirtual 63, 3) := by decide +kernel
theorem dX2_fillChutes_23 : decode cX2_fillChutes 23 = .ok (.istore 4, 2) := by decide +kernel
theorem dX2_fillChutes_25 : decode cX2_fillChutes 25 = .ok (.iload 4, 2) := by decide +kernel
theorem dX2_fillChutes_27 : decode cX2_fillChutes 27 = .ok (.iconst (-1), 1) := by decide +kernel
theorem dX2_fillChutes_28 : decode cX2_fillChutes 28 = .ok (.if_icmp .eq 49, 3) := by decide +kernel
theorem dX2_fillChutes_31 : decode cX2_fillChutes 31 = .ok (.aload_n 0, 1) := by decide +kernel
theorem dX2_fillChutes_32 : decode cX2_fillChutes 32 = .ok (.getfield 25, 3) := by decide +kernel
theorem dX2_fillChutes_35 : decode cX2_fillChutes 35 = .ok (.getfield 120, 3) := by decide +kernel
theorem dX2_fillChutes_38 : decode cX2_fillChutes 38 = .ok (.iload 4, 2) := by decide +kernel
theorem dX2_fillChutes_40 : decode cX2_fillChutes 40 = .ok (.invokevirtual 63, 3) := by decide +kernel
theorem dX2_fillChutes_43 : decode cX2_fillChutes 43 = .ok (.iload_n 2, 1) := by decide +kernel
theorem dX2_fillChutes_44 : decode cX2_fillChutes 44 = .ok (.if_icmp .ne 33, 3) := by decide +kernel
theorem dX2_fillChutes_47 : decode cX2_fillChutes 47 = .ok (.aload_n 0, 1) := by decide +kernel
theorem dX2_fillChutes_48 : decode cX2_fillChutes 48 = .ok (.iload_n 2, 1) := by decide +kernel
theorem dX2_fillChutes_49 : decode cX2_fillChutes 49 = .ok (.invokevirtual 132, 3) := by decide +kernel
theorem dX2_fillChutes_52 : decode cX2_fillChutes 52 = .ok (.ifCond .eq 25, 3) := by decide +kernel
theorem dX2_fillChutes_55 : decode cX2_fillChutes 55 = .ok (.aload_n 0, 1) := by decide +kernel
theorem dX2_fillChutes_56 : decode cX2_fillChutes 56 = .ok (.getfield 38, 3) := by decide +kernel
theorem dX2_fillChutes_59 : decode cX2_fillChutes 59 = .ok (.iload_n 3, 1) := by decide +kernel
theorem dX2_fillChutes_60 : decode cX2_fillChutes 60 = .ok (.iconst (-1), 1) := by decide +kernel
theorem dX2_fillChutes_61 : decode cX2_fillChutes 61 = .ok (.invokevirtual 70, 3) := by decide +kernel
theorem dX2_fillChutes_64 : decode cX2_fillChutes 64 = .ok (.aload_n 0, 1) := by decide +kernel
theorem dX2_fillChutes_65 : decode cX2_fillChutes 65 = .ok (.getfield 25, 3) := by decide +kernel
theorem dX2_fillChutes_68 : decode cX2_fillChutes 68 = .ok (.iload 4, 2) := by decide +kernel
theorem dX2_fillChutes_70 : decode cX2_fillChutes 70 = .ok (.iload_n 2, 1) := by decide +kernel
theorem dX2_fillChutes_71 : decode cX2_fillChutes 71 = .ok (.invokevirtual 135, 3) := by decide +kernel
theorem dX2_fillChutes_74 : decode cX2_fillChutes 74 = .ok (.iinc 1 1, 3) := by decide +kernel
theorem dX2_fillChutes_77 : decode cX2_fillChutes 77 = .ok (.iinc 2 1, 3) := by decide +kernel
theorem dX2_fillChutes_80 : decode cX2_fillChutes 80 = .ok (.goto (-76), 3) := by decide +kernel
theorem dX2_fillChutes_83 : decode cX2_fillChutes 83 = .ok (.iload_n 1, 1) := by decide +kernel
theorem dX2_fillChutes_84 : decode cX2_fillChutes 84 = .ok (.ireturn, 1) := by decide +kernel
theorem dX2_feedBelt_0 : decode cX2_feedBelt 0 = .ok (.aload_n 0, 1) := by decide +kernel
theorem dX2_feedBelt_1 : decode cX2_feedBelt 1 = .ok (.getfield 38, 3) := by decide +kernel
theorem dX2_feedBelt_4 : decode cX2_feedBelt 4 = .ok (.iconst 0, 1) := by decide +kernel
theorem dX2_feedBelt_5 : decode cX2_feedBelt 5 = .ok (.invokevirtual 63, 3) := by decide +kernel
theorem dX2_feedBelt_8 : decode cX2_feedBelt 8 = .ok (.iconst (-1), 1) := by decide +kernel
theorem dX2_feedBelt_9 : decode cX2_feedBelt 9 = .ok (.if_icmp .ne 10, 3) := by decide +kernel
theorem dX2_feedBelt_12 : decode cX2_feedBelt 12 = .ok (.aload_n 0, 1) := by decide +kernel
theorem dX2_feedBelt_13 : decode cX2_feedBelt 13 = .ok (.getfield 47, 3) := by decide +kernel
theorem dX2_feedBelt_16 : decode cX2_feedBelt 16 = .ok (.ifCond .gt 4, 3) := by decide +kernel
theorem dX2_feedBelt_19 : decode cX2_feedBelt 19 = .ok (.return_, 1) := by decide +kernel
theorem dX2_feedBelt_20 : decode cX2_feedBelt 20 = .ok (.aload_n 0, 1) := by decide +kernel
theorem dX2_feedBelt_21 : decode cX2_feedBelt 21 = .ok (.getfield 41, 3) := by decide +kernel
theorem dX2_feedBelt_24 : decode cX2_feedBelt 24 = .ok (.invokevirtual 138, 3) := by decide +kernel
theorem dX2_feedBelt_27 : decode cX2_feedBelt 27 = .ok (.istore_n 1, 1) := by decide +kernel
theorem dX2_feedBelt_28 : decode cX2_feedBelt 28 = .ok (.aload_n 0, 1) := by decide +kernel
theorem dX2_feedBelt_29 : decode cX2_feedBelt 29 = .ok (.dup, 1) := by decide +kernel
theorem dX2_feedBelt_30 : decode cX2_feedBelt 30 = .ok (.getfield 47, 3) := by decide +kernel
theorem dX2_feedBelt_33 : decode cX2_feedBelt 33 = .ok (.iconst 1, 1) := by decide +kernel
theorem dX2_feedBelt_34 : decode cX2_feedBelt 34 = .ok (.isub, 1) := by decide +kernel
theorem dX2_feedBelt_35 : decode cX2_feedBelt 35 = .ok (.putfield 47, 3) := by decide +kernel
theorem dX2_feedBelt_38 : decode cX2_feedBelt 38 = .ok (.aload_n 0, 1) := by decide +kernel
theorem dX2_feedBelt_39 : decode cX2_feedBelt 39 = .ok (.getfield 38, 3) := by decide +kernel
theorem dX2_feedBelt_42 : decode cX2_feedBelt 42 = .ok (.iconst 0, 1) := by decide +kernel
theorem dX2_feedBelt_43 : decode cX2_feedBelt 43 = .ok (.iload_n 1, 1) := by decide +kernel
theorem dX2_feedBelt_44 : decode cX2_feedBelt 44 = .ok (.invokevirtual 70, 3) := by decide +kernel
theorem dX2_feedBelt_47 : decode cX2_feedBelt 47 = .ok (.aload_n 0, 1) := by decide +kernel
theorem dX2_feedBelt_48 : decode cX2_feedBelt 48 = .ok (.getfield 25, 3) := by decide +kernel
theorem dX2_feedBelt_51 : decode cX2_feedBelt 51 = .ok (.getfield 67, 3) := by decide +kernel
theorem dX2_feedBelt_54 : decode cX2_feedBelt 54 = .ok (.iload_n 1, 1) := by decide +kernel
theorem dX2_feedBelt_55 : decode cX2_feedBelt 55 = .ok (.iconst 1, 1) := by decide +kernel
theorem dX2_feedBelt_56 : decode cX2_feedBelt 56 = .ok (.invokevirtual 70, 3) := by decide +kernel
theorem dX2_feedBelt_59 : decode cX2_feedBelt 59 = .ok (.return_, 1) := by decide +kernel
theorem dX2_hasRoom_0 : decode cX2_hasRoom 0 = .ok (.aload_n 0, 1) := by decide +kernel
theorem dX2_hasRoom_1 : decode cX2_hasRoom 1 = .ok (.getfield 25, 3) := by decide +kernel
theorem dX2_hasRoom_4 : decode cX2_hasRoom 4 = .ok (.getfield 84, 3) := by decide +kernel
theorem dX2_hasRoom_7 : decode cX2_hasRoom 7 = .ok (.iload_n 1, 1) := by decide +kernel
theorem dX2_hasRoom_8 : decode cX2_hasRoom 8 = .ok (.invokevirtual 141, 3) := by decide +kernel
theorem dX2_hasRoom_11 : decode cX2_hasRoom 11 = .ok (.aload_n 0, 1) := by decide +kernel
theorem dX2_hasRoom_12 : decode cX2_hasRoom 12 = .ok (.getfield 34, 3) := by decide +kernel
theorem dX2_hasRoom_15 : decode cX2_hasRoom 15 = .ok (.iload_n 1, 1) := by decide +kernel
theorem dX2_hasRoom_16 : decode cX2_hasRoom 16 = .ok (.invokevirtual 63, 3) := by decide +kernel
theorem dX2_hasRoom_19 : decode cX2_hasRoom 19 = .ok (.if_icmp .ge 7, 3) := by decide +kernel
theorem dX2_hasRoom_22 : decode cX2_hasRoom 22 = .ok (.iconst 1, 1) := by decide +kernel
theorem dX2_hasRoom_23 : decode cX2_hasRoom 23 = .ok (.goto 4, 3) := by decide +kernel
theorem dX2_hasRoom_26 : decode cX2_hasRoom 26 = .ok (.iconst 0, 1) := by decide +kernel
theorem dX2_hasRoom_27 : decode cX2_hasRoom 27 = .ok (.ireturn, 1) := by decide +kernel
theorem dX2_findOnBelt_0 : decode cX2_findOnBelt 0 = .ok (.aload_n 0, 1) := by decide +kernel
theorem dX2_findOnBelt_1 : decode cX2_findOnBelt 1 = .ok (.getfield 38, 3) := by decide +kernel
theorem dX2_findOnBelt_4 : decode cX2_findOnBelt 4 = .ok (.iload_n 1, 1) := by decide +kernel
theorem dX2_findOnBelt_5 : decode cX2_findOnBelt 5 = .ok (.invokevirtual 143, 3) := by decide +kernel
theorem dX2_findOnBelt_8 : decode cX2_findOnBelt 8 = .ok (.ireturn, 1) := by decide +kernel
theorem dX2_isInOwnChute_0 : decode cX2_isInOwnChute 0 = .ok (.aload_n 0, 1) := by decide +kernel
theorem dX2_isInOwnChute_1 : decode cX2_isInOwnChute 1 = .ok (.getfield 25, 3) := by decide +kernel
theorem dX2_isInOwnChute_4 : decode cX2_isInOwnChute 4 = .ok (.getfield 67, 3) := by decide +kernel
theorem dX2_isInOwnChute_7 : decode cX2_isInOwnChute 7 = .ok (.iload_n 1, 1) := by decide +kernel
theorem dX2_isInOwnChute_8 : decode cX2_isInOwnChute 8 = .ok (.invokevirtual 63, 3) := by decide +kernel
theorem dX2_isInOwnChute_11 : decode cX2_isInOwnChute 11 = .ok (.iconst 2, 1) := by decide +kernel
theorem dX2_isInOwnChute_12 : decode cX2_isInOwnChute 12 = .ok (.if_icmp .ne 42, 3) := by decide +kernel
theorem dX2_isInOwnChute_15 : decode cX2_isInOwnChute 15 = .ok (.aload_n 0, 1) := by decide +kernel
theorem dX2_isInOwnChute_16 : decode cX2_isInOwnChute 16 = .ok (.getfield 25, 3) := by decide +kernel
theorem dX2_isInOwnChute_19 : decode cX2_isInOwnChute 19 = .ok (.getfield 84, 3) := by decide +kernel
theorem dX2_isInOwnChute_22 : decode cX2_isInOwnChute 22 = .ok (.iload_n 1, 1) := by decide +kernel
theorem dX2_isInOwnChute_23 : decode cX2_isInOwnChute 23 = .ok (.invokevirtual 63, 3) := by decide +kernel
theorem dX2_isInOwnChute_26 : decode cX2_isInOwnChute 26 = .ok (.aload_n 0, 1) := by decide +kernel
theorem dX2_isInOwnChute_27 : decode cX2_isInOwnChute 27 = .ok (.getfield 18, 3) := by decide +kernel
theorem dX2_isInOwnChute_30 : decode cX2_isInOwnChute 30 = .ok (.getfield 87, 3) := by decide +kernel
theorem dX2_isInOwnChute_33 : decode cX2_isInOwnChute 33 = .ok (.aload_n 0, 1) := by decide +kernel
theorem dX2_isInOwnChute_34 : decode cX2_isInOwnChute 34 = .ok (.getfield 25, 3) := by decide +kernel
theorem dX2_isInOwnChute_37 : decode cX2_isInOwnChute 37 = .ok (.getfield 77, 3) := by decide +kernel
theorem dX2_isInOwnChute_40 : decode cX2_isInOwnChute 40 = .ok (.iload_n 1, 1) := by decide +kernel
theorem dX2_isInOwnChute_41 : decode cX2_isInOwnChute 41 = .ok (.invokevirtual 63, 3) := by decide +kernel
theorem dX2_isInOwnChute_44 : decode cX2_isInOwnChute 44 = .ok (.invokevirtual 63, 3) := by decide +kernel
theorem dX2_isInOwnChute_47 : decode cX2_isInOwnChute 47 = .ok (.if_icmp .ne 7, 3) := by decide +kernel
theorem dX2_isInOwnChute_50 : decode cX2_isInOwnChute 50 = .ok (.iconst 1, 1) := by decide +kernel
theorem dX2_isInOwnChute_51 : decode cX2_isInOwnChute 51 = .ok (.goto 4, 3) := by decide +kernel
theorem dX2_isInOwnChute_54 : decode cX2_isInOwnChute 54 = .ok (.iconst 0, 1) := by decide +kernel
theorem dX2_isInOwnChute_55 : decode cX2_isInOwnChute 55 = .ok (.ireturn, 1) := by decide +kernel
theorem dX2_isAstray_0 : decode cX2_isAstray 0 = .ok (.aload_n 0, 1) := by decide +kernel
theorem dX2_isAstray_1 : decode cX2_isAstray 1 = .ok (.getfield 25, 3) := by decide +kernel
theorem dX2_isAstray_4 : decode cX2_isAstray 4 = .ok (.getfield 67, 3) := by decide +kernel
theorem dX2_isAstray_7 : decode cX2_isAstray 7 = .ok (.iload_n 1, 1) := by decide +kernel
theorem dX2_isAstray_8 : decode cX2_isAstray 8 = .ok (.invokevirtual 63, 3) := by decide +kernel
theorem dX2_isAstray_11 : decode cX2_isAstray 11 = .ok (.iconst 2, 1) := by decide +kernel
theorem dX2_isAstray_12 : decode cX2_isAstray 12 = .ok (.if_icmp .ne 36, 3) := by decide +kernel
theorem dX2_isAstray_15 : decode cX2_isAstray 15 = .ok (.aload_n 0, 1) := by decide +kernel
theorem dX2_isAstray_16 : decode cX2_isAstray 16 = .ok (.iload_n 1, 1) := by decide +kernel
theorem dX2_isAstray_17 : decode cX2_isAstray 17 = .ok (.invokevirtual 80, 3) := by decide +kernel
theorem dX2_isAstray_20 : decode cX2_isAstray 20 = .ok (.ifCond .eq 24, 3) := by decide +kernel
theorem dX2_isAstray_23 : decode cX2_isAstray 23 = .ok (.aload_n 0, 1) := by decide +kernel
theorem dX2_isAstray_24 : decode cX2_isAstray 24 = .ok (.getfield 18, 3) := by decide +kernel
theorem dX2_isAstray_27 : decode cX2_isAstray 27 = .ok (.aload_n 0, 1) := by decide +kernel
theorem dX2_isAstray_28 : decode cX2_isAstray 28 = .ok (.getfield 25, 3) := by decide +kernel
theorem dX2_isAstray_31 : decode cX2_isAstray 31 = .ok (.getfield 77, 3) := by decide +kernel
theorem dX2_isAstray_34 : decode cX2_isAstray 34 = .ok (.iload_n 1, 1) := by decide +kernel
theorem dX2_isAstray_35 : decode cX2_isAstray 35 = .ok (.invokevirtual 63, 3) := by decide +kernel
theorem dX2_isAstray_38 : decode cX2_isAstray 38 = .ok (.invokevirtual 146, 3) := by decide +kernel
theorem dX2_isAstray_41 : decode cX2_isAstray 41 = .ok (.ifCond .eq 7, 3) := by decide +kernel
theorem dX2_isAstray_44 : decode cX2_isAstray 44 = .ok (.iconst 1, 1) := by decide +kernel
theorem dX2_isAstray_45 : decode cX2_isAstray 45 = .ok (.goto 4, 3) := by decide +kernel
theorem dX2_isAstray_48 : decode cX2_isAstray 48 = .ok (.iconst 0, 1) := by decide +kernel
theorem dX2_isAstray_49 : decode cX2_isAstray 49 = .ok (.ireturn, 1) := by decide +kernel
theorem dX2_isReady_0 : decode cX2_isReady 0 = .ok (.aload_n 0, 1) := by decide +kernel
theorem dX2_isReady_1 : decode cX2_isReady 1 = .ok (.getfield 25, 3) := by decide +kernel
theorem dX2_isReady_4 : decode cX2_isReady 4 = .ok (.getfield 67, 3) := by decide +kernel
theorem dX2_isReady_7 : decode cX2_isReady 7 = .ok (.iload_n 1, 1) := by decide +kernel
theorem dX2_isReady_8 : decode cX2_isReady 8 = .ok (.invokevirtual 63, 3) := by decide +kernel
theorem dX2_isReady_11 : decode cX2_isReady 11 = .ok (.iconst 5, 1) := by decide +kernel
theorem dX2_isReady_12 : decode cX2_isReady 12 = .ok (.if_icmp .ne 5, 3) := by decide +kernel
theorem dX2_isReady_15 : decode cX2_isReady 15 = .ok (.iconst 1, 1) := by decide +kernel
theorem dX2_isReady_16 : decode cX2_isReady 16 = .ok (.ireturn, 1) := by decide +kernel
theorem dX2_isReady_17 : decode cX2_isReady 17 = .ok (.aload_n 0, 1) := by decide +kernel
theorem dX2_isReady_18 : decode cX2_isReady 18 = .ok (.iload_n 1, 1) := by decide +kernel
theorem dX2_isReady_19 : decode cX2_isReady 19 = .ok (.invokevirtual 80, 3) := by decide +kernel
theorem dX2_isReady_22 : decode cX2_isReady 22 = .ok (.ifCond .eq 28, 3) := by decide +kernel
theorem dX2_isReady_25 : decode cX2_isReady 25 = .ok (.aload_n 0, 1) := by decide +kernel
theorem dX2_isReady_26 : decode cX2_isReady 26 = .ok (.getfield 18, 3) := by decide +kernel
theorem dX2_isReady_29 : decode cX2_isReady 29 = .ok (.aload_n 0, 1) := by decide +kernel
theorem dX2_isReady_30 : decode cX2_isReady 30 = .ok (.getfield 25, 3) := by decide +kernel
theorem dX2_isReady_33 : decode cX2_isReady 33 = .ok (.getfield 77, 3) := by decide +kernel
theorem dX2_isReady_36 : decode cX2_isReady 36 = .ok (.iload_n 1, 1) := by decide +kernel
theorem dX2_isReady_37 : decode cX2_isReady 37 = .ok (.invokevirtual 63, 3) := by decide +kernel
theorem dX2_isReady_40 : decode cX2_isReady 40 = .ok (.invokevirtual 146, 3) := by decide +kernel
theorem dX2_isReady_43 : decode cX2_isReady 43 = .ok (.ifCond .ne 7, 3) := by decide +kernel
theorem dX2_isReady_46 : decode cX2_isReady 46 = .ok (.iconst 1, 1) := by decide +kernel
theorem dX2_isReady_47 : decode cX2_isReady 47 = .ok (.goto 4, 3) := by decide +kernel
theorem dX2_isReady_50 : decode cX2_isReady 50 = .ok (.iconst 0, 1) := by decide +kernel
theorem dX2_isReady_51 : decode cX2_isReady 51 = .ok (.ireturn, 1) := by decide +kernel
theorem dX2_countMisrouted_0 : decode cX2_countMisrouted 0 = .ok (.iconst 0, 1) := by decide +kernel
theorem dX2_countMisrouted_1 : decode cX2_countMisrouted 1 = .ok (.istore_n 2, 1) := by decide +kernel
theorem dX2_countMisrouted_2 : decode cX2_countMisrouted 2 = .ok (.iconst 0, 1) := by decide +kernel
theorem dX2_countMisrouted_3 : decode cX2_countMisrouted 3 = .ok (.istore_n 3, 1) := by decide +kernel
theorem dX2_countMisrouted_4 : decode cX2_countMisrouted 4 = .ok (.iload_n 3, 1) := by decide +kernel
theorem dX2_countMisrouted_5 : decode cX2_countMisrouted 5 = .ok (.aload_n 0, 1) := by decide +kernel
theorem dX2_countMisrouted_6 : decode cX2_countMisrouted 6 = .ok (.getfield 25, 3) := by decide +kernel
theorem dX2_countMisrouted_9 : decode cX2_countMisrouted 9 = .ok (.getfield 74, 3) := by decide +kernel
theorem dX2_countMisrouted_12 : decode cX2_countMisrouted 12 = .ok (.if_icmp .ge 35, 3) := by decide +kernel
theorem dX2_countMisrouted_15 : decode cX2_countMisrouted 15 = .ok (.aload_n 0, 1) := by decide +kernel
theorem dX2_countMisrouted_16 : decode cX2_countMisrouted 16 = .ok (.getfield 25, 3) := by decide +kernel
theorem dX2_countMisrouted_19 : decode cX2_countMisrouted 19 = .ok (.getfield 84, 3) := by decide +kernel
theorem dX2_countMisrouted_22 : decode cX2_countMisrouted 22 = .ok (.iload_n 3, 1) := by decide +kernel
theorem dX2_countMisrouted_23 : decode cX2_countMisrouted 23 = .ok (.invokevirtual 63, 3) := by decide +kernel
theorem dX2_countMisrouted_26 : decode cX2_countMisrouted 26 = .ok (.iload_n 1, 1) := by decide +kernel
theorem dX2_countMisrouted_27 : decode cX2_countMisrouted 27 = .ok (.if_icmp .ne 14, 3) := by decide +kernel
theorem dX2_countMisrouted_30 : decode cX2_countMisrouted 30 = .ok (.aload_n 0, 1) := by decide +kernel
theorem dX2_countMisrouted_31 : decode cX2_countMisrouted 31 = .ok (.iload_n 3, 1) := by decide +kernel
theorem dX2_countMisrouted_32 : decode cX2_countMisrouted 32 = .ok (.invokevirtual 88, 3) := by decide +kernel
theorem dX2_countMisrouted_35 : decode cX2_countMisrouted 35 = .ok (.ifCond .eq 6, 3) := by decide +kernel
theorem dX2_countMisrouted_38 : decode cX2_countMisrouted 38 = .ok (.iinc 2 1, 3) := by decide +kernel
theorem dX2_countMisrouted_41 : decode cX2_countMisrouted 41 = .ok (.iinc 3 1, 3) := by decide +kernel
theorem dX2_countMisrouted_44 : decode cX2_countMisrouted 44 = .ok (.goto (-40), 3) := by decide +kernel
theorem dX2_countMisrouted_47 : decode cX2_countMisrouted 47 = .ok (.iload_n 2, 1) := by decide +kernel
theorem dX2_countMisrouted_48 : decode cX2_countMisrouted 48 = .ok (.ireturn, 1) := by decide +kernel
theorem dX2_countReady_0 : decode cX2_countReady 0 = .ok (.iconst 0, 1) := by decide +kernel
theorem dX2_countReady_1 : decode cX2_countReady 1 = .ok (.istore_n 2, 1) := by decide +kernel
theorem dX2_countReady_2 : decode cX2_countReady 2 = .ok (.iconst 0, 1) := by decide +kernel
theorem dX2_countReady_3 : decode cX2_countReady 3 = .ok (.istore_n 3, 1) := by decide +kernel
theorem dX2_countReady_4 : decode cX2_countReady 4 = .ok (.iload_n 3, 1) := by decide +kernel
theorem dX2_countReady_5 : decode cX2_countReady 5 = .ok (.aload_n 0, 1) := by decide +kernel
theorem dX2_countReady_6 : decode cX2_countReady 6 = .ok (.getfield 25, 3) := by decide +kernel
theorem dX2_countReady_9 : decode cX2_countReady 9 = .ok (.getfield 74, 3) := by decide +kernel
theorem dX2_countReady_12 : decode cX2_countReady 12 = .ok (.if_icmp .ge 35, 3) := by decide +kernel
theorem dX2_countReady_15 : decode cX2_countReady 15 = .ok (.aload_n 0, 1) := by decide +kernel
theorem dX2_countReady_16 : decode cX2_countReady 16 = .ok (.getfield 25, 3) := by decide +kernel
theorem dX2_countReady_19 : decode cX2_countReady 19 = .ok (.getfield 77, 3) := by decide +kernel
theorem dX2_countReady_22 : decode cX2_countReady 22 = .ok (.iload_n 3, 1) := by decide +kernel
theorem dX2_countReady_23 : decode cX2_countReady 23 = .ok (.invokevirtual 63, 3) := by decide +kernel
theorem dX2_countReady_26 : decode cX2_countReady 26 = .ok (.iload_n 1, 1) := by decide +kernel
theorem dX2_countReady_27 : decode cX2_countReady 27 = .ok (.if_icmp .ne 14, 3) := by decide +kernel
theorem dX2_countReady_30 : decode cX2_countReady 30 = .ok (.aload_n 0, 1) := by decide +kernel
theorem dX2_countReady_31 : decode cX2_countReady 31 = .ok (.iload_n 3, 1) := by decide +kernel
theorem dX2_countReady_32 : decode cX2_countReady 32 = .ok (.invokevirtual 149, 3) := by decide +kernel
theorem dX2_countReady_35 : decode cX2_countReady 35 = .ok (.ifCond .eq 6, 3) := by decide +kernel
theorem dX2_countReady_38 : decode cX2_countReady 38 = .ok (.iinc 2 1, 3) := by decide +kernel
theorem dX2_countReady_41 : decode cX2_countReady 41 = .ok (.iinc 3 1, 3) := by decide +kernel
theorem dX2_countReady_44 : decode cX2_countReady 44 = .ok (.goto (-40), 3) := by decide +kernel
theorem dX2_countReady_47 : decode cX2_countReady 47 = .ok (.iload_n 2, 1) := by decide +kernel
theorem dX2_countReady_48 : decode cX2_countReady 48 = .ok (.ireturn, 1) := by decide +kernel
theorem dX2_countMissing_0 : decode cX2_countMissing 0 = .ok (.aload_n 0, 1) := by decide +kernel
theorem dX2_countMissing_1 : decode cX2_countMissing 1 = .ok (.getfield 25, 3) := by decide +kernel
theorem dX2_countMissing_4 : decode cX2_countMissing 4 = .ok (.getfield 77, 3) := by decide +kernel
theorem dX2_countMissing_7 : decode cX2_countMissing 7 = .ok (.iload_n 1, 1) := by decide +kernel
theorem dX2_countMissing_8 : decode cX2_countMissing 8 = .ok (.invokevirtual 141, 3) := by decide +kernel
theorem dX2_countMissing_11 : decode cX2_countMissing 11 = .ok (.aload_n 0, 1) := by decide +kernel
theorem dX2_countMissing_12 : decode cX2_countMissing 12 = .ok (.iload_n 1, 1) := by decide +kernel
theorem dX2_countMissing_13 : decode cX2_countMissing 13 = .ok (.invokevirtual 152, 3) := by decide +kernel
theorem dX2_countMissing_16 : decode cX2_countMissing 16 = .ok (.isub, 1) := by decide +kernel
theorem dX2_countMissing_17 : decode cX2_countMissing 17 = .ok (.ireturn, 1) := by decide +kernel
theorem dX3_init_0 : decode cX3_init 0 = .ok (.aload_n 0, 1) := by decide +kernel
theorem dX3_init_1 : decode cX3_init 1 = .ok (.invokespecial 3, 3) := by decide +kernel
theorem dX3_init_4 : decode cX3_init 4 = .ok (.aload_n 0, 1) := by decide +kernel
theorem dX3_init_5 : decode cX3_init 5 = .ok (.aload_n 1, 1) := by decide +kernel
theorem dX3_init_6 : decode cX3_init 6 = .ok (.putfield 9, 3) := by decide +kernel
theorem dX3_init_9 : decode cX3_init 9 = .ok (.aload_n 1, 1) := by decide +kernel
theorem dX3_init_10 : decode cX3_init 10 = .ok (.iload_n 2, 1) := by decide +kernel
theorem dX3_init_11 : decode cX3_init 11 = .ok (.invokestatic 15, 3) := by decide +kernel
theorem dX3_init_14 : decode cX3_init 14 = .ok (.return_, 1) := by decide +kernel
theorem dX3_at_0 : decode cX3_at 0 = .ok (.iload_n 1, 1) := by decide +kernel
theorem dX3_at_1 : decode cX3_at 1 = .ok (.ifCond .lt 21, 3) := by decide +kernel
theorem dX3_at_4 : decode cX3_at 4 = .ok (.iload_n 1, 1) := by decide +kernel
theorem dX3_at_5 : decode cX3_at 5 = .ok (.aload_n 0, 1) := by decide +kernel
theorem dX3_at_6 : decode cX3_at 6 = .ok (.getfield 9, 3) := by decide +kernel
theorem dX3_at_9 : decode cX3_at 9 = .ok (.arraylength, 1) := by decide +kernel
theorem dX3_at_10 : decode cX3_at 10 = .ok (.if_icmp .ge 12, 3) := by decide +kernel
theorem dX3_at_13 : decode cX3_at 13 = .ok (.aload_n 0, 1) := by decide +kernel
theorem dX3_at_14 : decode cX3_at 14 = .ok (.getfield 9, 3) := by decide +kernel
theorem dX3_at_17 : decode cX3_at 17 = .ok (.iload_n 1, 1) := by decide +kernel
theorem dX3_at_18 : decode cX3_at 18 = .ok (.iaload, 1) := by decide +kernel
theorem dX3_at_19 : decode cX3_at 19 = .ok (.goto 4, 3) := by decide +kernel
theorem dX3_at_22 : decode cX3_at 22 = .ok (.iconst (-1), 1) := by decide +kernel
theorem dX3_at_23 : decode cX3_at 23 = .ok (.ireturn, 1) := by decide +kernel
theorem dX3_put_0 : decode cX3_put 0 = .ok (.iload_n 1, 1) := by decide +kernel
theorem dX3_put_1 : decode cX3_put 1 = .ok (.ifCond .lt 19, 3) := by decide +kernel
theorem dX3_put_4 : decode cX3_put 4 = .ok (.iload_n 1, 1) := by decide +kernel
theorem dX3_put_5 : decode cX3_put 5 = .ok (.aload_n 0, 1) := by decide +kernel
theorem dX3_put_6 : decode cX3_put 6 = .ok (.getfield 9, 3) := by decide +kernel
theorem dX3_put_9 : decode cX3_put 9 = .ok (.arraylength, 1) := by decide +kernel
theorem dX3_put_10 : decode cX3_put 10 = .ok (.if_icmp .ge 10, 3) := by decide +kernel
theorem dX3_put_13 : decode cX3_put 13 = .ok (.aload_n 0, 1) := by decide +kernel
theorem dX3_put_14 : decode cX3_put 14 = .ok (.getfield 9, 3) := by decide +kernel
theorem dX3_put_17 : decode cX3_put 17 = .ok (.iload_n 1, 1) := by decide +kernel
theorem dX3_put_18 : decode cX3_put 18 = .ok (.iload_n 2, 1) := by decide +kernel
theorem dX3_put_19 : decode cX3_put 19 = .ok (.iastore, 1) := by decide +kernel
theorem dX3_put_20 : decode cX3_put 20 = .ok (.return_, 1) := by decide +kernel
theorem dX3_takeAll_0 : decode cX3_takeAll 0 = .ok (.aload_n 1, 1) := by decide +kernel
theorem dX3_takeAll_1 : decode cX3_takeAll 1 = .ok (.getfield 9, 3) := by decide +kernel
theorem dX3_takeAll_4 : decode cX3_takeAll 4 = .ok (.iconst 0, 1) := by decide +kernel
theorem dX3_takeAll_5 : decode cX3_takeAll 5 = .ok (.aload_n 0, 1) := by decide +kernel
theorem dX3_takeAll_6 : decode cX3_takeAll 6 = .ok (.getfield 9, 3) := by decide +kernel
theorem dX3_takeAll_9 : decode cX3_takeAll 9 = .ok (.iconst 0, 1) := by decide +kernel
theorem dX3_takeAll_10 : decode cX3_takeAll 10 = .ok (.aload_n 0, 1) := by decide +kernel
theorem dX3_takeAll_11 : decode cX3_takeAll 11 = .ok (.getfield 9, 3) := by decide +kernel
theorem dX3_takeAll_14 : decode cX3_takeAll 14 = .ok (.arraylength, 1) := by decide +kernel
theorem dX3_takeAll_15 : decode cX3_takeAll 15 = .ok (.aload_n 1, 1) := by decide +kernel
theorem dX3_takeAll_16 : decode cX3_takeAll 16 = .ok (.getfield 9, 3) := by decide +kernel
theorem dX3_takeAll_19 : decode cX3_takeAll 19 = .ok (.arraylength, 1) := by decide +kernel
theorem dX3_takeAll_20 : decode cX3_takeAll 20 = .ok (.invokestatic 21, 3) := by decide +kernel
theorem dX3_takeAll_23 : decode cX3_takeAll 23 = .ok (.invokestatic 27, 3) := by decide +kernel
theorem dX3_takeAll_26 : decode cX3_takeAll 26 = .ok (.return_, 1) := by decide +kernel
theorem dX3_turn_0 : decode cX3_turn 0 = .ok (.aload_n 0, 1) := by decide +kernel
theorem dX3_turn_1 : decode cX3_turn 1 = .ok (.aload_n 0, 1) := by decide +kernel
theorem dX3_turn_2 : decode cX3_turn 2 = .ok (.getfield 9, 3) := by decide +kernel
theorem dX3_turn_5 : decode cX3_turn 5 = .ok (.arraylength, 1) := by decide +kernel
theorem dX3_turn_6 : decode cX3_turn 6 = .ok (.iconst 1, 1) := by decide +kernel
theorem dX3_turn_7 : decode cX3_turn 7 = .ok (.isub, 1) := by decide +kernel
theorem dX3_turn_8 : decode cX3_turn 8 = .ok (.invokevirtual 33, 3) := by decide +kernel
theorem dX3_turn_11 : decode cX3_turn 11 = .ok (.istore_n 1, 1) := by decide +kernel
theorem dX3_turn_12 : decode cX3_turn 12 = .ok (.aload_n 0, 1) := by decide +kernel
theorem dX3_turn_13 : decode cX3_turn 13 = .ok (.getfield 9, 3) := by decide +kernel
theorem dX3_turn_16 : decode cX3_turn 16 = .ok (.arraylength, 1) := by decide +kernel
theorem dX3_turn_17 : decode cX3_turn 17 = .ok (.iconst 1, 1) := by decide +kernel
theorem dX3_turn_18 : decode cX3_turn 18 = .ok (.isub, 1) := by decide +kernel
theorem dX3_turn_19 : decode cX3_turn 19 = .ok (.istore_n 2, 1) := by decide +kernel
theorem dX3_turn_20 : decode cX3_turn 20 = .ok (.iload_n 2, 1) := by decide +kernel
theorem dX3_turn_21 : decode cX3_turn 21 = .ok (.ifCond .le 21, 3) := by decide +kernel
theorem dX3_turn_24 : decode cX3_turn 24 = .ok (.aload_n 0, 1) := by decide +kernel
theorem dX3_turn_25 : decode cX3_turn 25 = .ok (.iload_n 2, 1) := by decide +kernel
theorem dX3_turn_26 : decode cX3_turn 26 = .ok (.aload_n 0, 1) := by decide +kernel
theorem dX3_turn_27 : decode cX3_turn 27 = .ok (.iload_n 2, 1) := by decide +kernel
theorem dX3_turn_28 : decode cX3_turn 28 = .ok (.iconst 1, 1) := by decide +kernel
theorem dX3_turn_29 : decode cX3_turn 29 = .ok (.isub, 1) := by decide +kernel
theorem dX3_turn_30 : decode cX3_turn 30 = .ok (.invokevirtual 33, 3) := by decide +kernel
theorem dX3_turn_33 : decode cX3_turn 33 = .ok (.invokevirtual 37, 3) := by decide +kernel
theorem dX3_turn_36 : decode cX3_turn 36 = .ok (.iinc 2 (-1), 3) := by decide +kernel
theorem dX3_turn_39 : decode cX3_turn 39 = .ok (.goto (-19), 3) := by decide +kernel
theorem dX3_turn_42 : decode cX3_turn 42 = .ok (.aload_n 0, 1) := by decide +kernel
theorem dX3_turn_43 : decode cX3_turn 43 = .ok (.iconst 0, 1) := by decide +kernel
theorem dX3_turn_44 : decode cX3_turn 44 = .ok (.iload_n 1, 1) := by decide +kernel
theorem dX3_turn_45 : decode cX3_turn 45 = .ok (.invokevirtual 37, 3) := by decide +kernel
theorem dX3_turn_48 : decode cX3_turn 48 = .ok (.return_, 1) := by decide +kernel
theorem dX3_takeFront_0 : decode cX3_takeFront 0 = .ok (.aload_n 0, 1) := by decide +kernel
theorem dX3_takeFront_1 : decode cX3_takeFront 1 = .ok (.iconst 0, 1) := by decide +kernel
theorem dX3_takeFront_2 : decode cX3_takeFront 2 = .ok (.invokevirtual 33, 3) := by decide +kernel
theorem dX3_takeFront_5 : decode cX3_takeFront 5 = .ok (.istore_n 1, 1) := by decide +kernel
theorem dX3_takeFront_6 : decode cX3_takeFront 6 = .ok (.iconst 1, 1) := by decide +kernel
theorem dX3_takeFront_7 : decode cX3_takeFront 7 = .ok (.istore_n 2, 1) := by decide +kernel
theorem dX3_takeFront_8 : decode cX3_takeFront 8 = .ok (.iload_n 2, 1) := by decide +kernel
theorem dX3_takeFront_9 : decode cX3_takeFront 9 = .ok (.aload_n 0, 1) := by decide +kernel
theorem dX3_takeFront_10 : decode cX3_takeFront 10 = .ok (.getfield 9, 3) := by decide +kernel
theorem dX3_takeFront_13 : decode cX3_takeFront 13 = .ok (.arraylength, 1) := by decide +kernel
theorem dX3_takeFront_14 : decode cX3_takeFront 14 = .ok (.if_icmp .ge 21, 3) := by decide +kernel
theorem dX3_takeFront_17 : decode cX3_takeFront 17 = .ok (.aload_n 0, 1) := by decide +kernel
theorem dX3_takeFront_18 : decode cX3_takeFront 18 = .ok (.iload_n 2, 1) := by decide +kernel
theorem dX3_takeFront_19 : decode cX3_takeFront 19 = .ok (.iconst 1, 1) := by decide +kernel
theorem dX3_takeFront_20 : decode cX3_takeFront 20 = .ok (.isub, 1) := by decide +kernel
theorem dX3_takeFront_21 : decode cX3_takeFront 21 = .ok (.aload_n 0, 1) := by decide +kernel
theorem dX3_takeFront_22 : decode cX3_takeFront 22 = .ok (.iload_n 2, 1) := by decide +kernel
theorem dX3_takeFront_23 : decode cX3_takeFront 23 = .ok (.invokevirtual 33, 3) := by decide +kernel
theorem dX3_takeFront_26 : decode cX3_takeFront 26 = .ok (.invokevirtual 37, 3) := by decide +kernel
theorem dX3_takeFront_29 : decode cX3_takeFront 29 = .ok (.iinc 2 1, 3) := by decide +kernel
theorem dX3_takeFront_32 : decode cX3_takeFront 32 = .ok (.goto (-24), 3) := by decide +kernel
theorem dX3_takeFront_35 : decode cX3_takeFront 35 = .ok (.aload_n 0, 1) := by decide +kernel
theorem dX3_takeFront_36 : decode cX3_takeFront 36 = .ok (.aload_n 0, 1) := by decide +kernel
theorem dX3_takeFront_37 : decode cX3_takeFront 37 = .ok (.getfield 9, 3) := by decide +kernel
theorem dX3_takeFront_40 : decode cX3_takeFront 40 = .ok (.arraylength, 1) := by decide +kernel
theorem dX3_takeFront_41 : decode cX3_takeFront 41 = .ok (.iconst 1, 1) := by decide +kernel
theorem dX3_takeFront_42 : decode cX3_takeFront 42 = .ok (.isub, 1) := by decide +kernel
theorem dX3_takeFront_43 : decode cX3_takeFront 43 = .ok (.iconst (-1), 1) := by decide +kernel
theorem dX3_takeFront_44 : decode cX3_takeFront 44 = .ok (.invokevirtual 37, 3) := by decide +kernel
theorem dX3_takeFront_47 : decode cX3_takeFront 47 = .ok (.iload_n 1, 1) := by decide +kernel
theorem dX3_takeFront_48 : decode cX3_takeFront 48 = .ok (.ireturn, 1) := by decide +kernel
theorem dX3_count_0 : decode cX3_count 0 = .ok (.iconst 0, 1) := by decide +kernel
theorem dX3_count_1 : decode cX3_count 1 = .ok (.istore_n 2, 1) := by decide +kernel
theorem dX3_count_2 : decode cX3_count 2 = .ok (.aload_n 0, 1) := by decide +kernel
theorem dX3_count_3 : decode cX3_count 3 = .ok (.getfield 9, 3) := by decide +kernel
theorem dX3_count_6 : decode cX3_count 6 = .ok (.astore_n 3, 1) := by decide +kernel
theorem dX3_count_7 : decode cX3_count 7 = .ok (.aload_n 3, 1) := by decide +kernel
theorem dX3_count_8 : decode cX3_count 8 = .ok (.arraylength, 1) := by decide +kernel
theorem dX3_count_9 : decode cX3_count 9 = .ok (.istore 4, 2) := by decide +kernel
theorem dX3_count_11 : decode cX3_count 11 = .ok (.iconst 0, 1) := by decide +kernel
theorem dX3_count_12 : decode cX3_count 12 = .ok (.istore 5, 2) := by decide +kernel
theorem dX3_count_14 : decode cX3_count 14 = .ok (.iload 5, 2) := by decide +kernel
theorem dX3_count_16 : decode cX3_count 16 = .ok (.iload 4, 2) := by decide +kernel
theorem dX3_count_18 : decode cX3_count 18 = .ok (.if_icmp .ge 24, 3) := by decide +kernel
theorem dX3_count_21 : decode cX3_count 21 = .ok (.aload_n 3, 1) := by decide +kernel
theorem dX3_count_22 : decode cX3_count 22 = .ok (.iload 5, 2) := by decide +kernel
theorem dX3_count_24 : decode cX3_count 24 = .ok (.iaload, 1) := by decide +kernel
theorem dX3_count_25 : decode cX3_count 25 = .ok (.istore 6, 2) := by decide +kernel
theorem dX3_count_27 : decode cX3_count 27 = .ok (.iload 6, 2) := by decide +kernel
theorem dX3_count_29 : decode cX3_count 29 = .ok (.iload_n 1, 1) := by decide +kernel
theorem dX3_count_30 : decode cX3_count 30 = .ok (.if_icmp .ne 6, 3) := by decide +kernel
theorem dX3_count_33 : decode cX3_count 33 = .ok (.iinc 2 1, 3) := by decide +kernel
theorem dX3_count_36 : decode cX3_count 36 = .ok (.iinc 5 1, 3) := by decide +kernel
theorem dX3_count_39 : decode cX3_count 39 = .ok (.goto (-25), 3) := by decide +kernel
theorem dX3_count_42 : decode cX3_count 42 = .ok (.iload_n 2, 1) := by decide +kernel
theorem dX3_count_43 : decode cX3_count 43 = .ok (.ireturn, 1) := by decide +kernel
theorem dX3_sum_0 : decode cX3_sum 0 = .ok (.iconst 0, 1) := by decide +kernel
theorem dX3_sum_1 : decode cX3_sum 1 = .ok (.istore_n 1, 1) := by decide +kernel
theorem dX3_sum_2 : decode cX3_sum 2 = .ok (.aload_n 0, 1) := by decide +kernel
theorem dX3_sum_3 : decode cX3_sum 3 = .ok (.getfield 9, 3) := by decide +kernel
theorem dX3_sum_6 : decode cX3_sum 6 = .ok (.astore_n 2, 1) := by decide +kernel
theorem dX3_sum_7 : decode cX3_sum 7 = .ok (.aload_n 2, 1) := by decide +kernel
theorem dX3_sum_8 : decode cX3_sum 8 = .ok (.arraylength, 1) := by decide +kernel
theorem dX3_sum_9 : decode cX3_sum 9 = .ok (.istore_n 3, 1) := by decide +kernel
theorem dX3_sum_10 : decode cX3_sum 10 = .ok (.iconst 0, 1) := by decide +kernel
theorem dX3_sum_11 : decode cX3_sum 11 = .ok (.istore 4, 2) := by decide +kernel
theorem dX3_sum_13 : decode cX3_sum 13 = .ok (.iload 4, 2) := by decide +kernel
theorem dX3_sum_15 : decode cX3_sum 15 = .ok (.iload_n 3, 1) := by decide +kernel
theorem dX3_sum_16 : decode cX3_sum 16 = .ok (.if_icmp .ge 20, 3) := by decide +kernel
theorem dX3_sum_19 : decode cX3_sum 19 = .ok (.aload_n 2, 1) := by decide +kernel
theorem dX3_sum_20 : decode cX3_sum 20 = .ok (.iload 4, 2) := by decide +kernel
theorem dX3_sum_22 : decode cX3_sum 22 = .ok (.iaload, 1) := by decide +kernel
theorem dX3_sum_23 : decode cX3_sum 23 = .ok (.istore 5, 2) := by decide +kernel
theorem dX3_sum_25 : decode cX3_sum 25 = .ok (.iload_n 1, 1) := by decide +kernel
theorem dX3_sum_26 : decode cX3_sum 26 = .ok (.iload 5, 2) := by decide +kernel
theorem dX3_sum_28 : decode cX3_sum 28 = .ok (.iadd, 1) := by decide +kernel
theorem dX3_sum_29 : decode cX3_sum 29 = .ok (.istore_n 1, 1) := by decide +kernel
theorem dX3_sum_30 : decode cX3_sum 30 = .ok (.iinc 4 1, 3) := by decide +kernel
theorem dX3_sum_33 : decode cX3_sum 33 = .ok (.goto (-20), 3) := by decide +kernel
theorem dX3_sum_36 : decode cX3_sum 36 = .ok (.iload_n 1, 1) := by decide +kernel
theorem dX3_sum_37 : decode cX3_sum 37 = .ok (.ireturn, 1) := by decide +kernel
theorem dX3_find_0 : decode cX3_find 0 = .ok (.iconst 0, 1) := by decide +kernel
theorem dX3_find_1 : decode cX3_find 1 = .ok (.istore_n 2, 1) := by decide +kernel
theorem dX3_find_2 : decode cX3_find 2 = .ok (.iload_n 2, 1) := by decide +kernel
theorem dX3_find_3 : decode cX3_find 3 = .ok (.aload_n 0, 1) := by decide +kernel
theorem dX3_find_4 : decode cX3_find 4 = .ok (.getfield 9, 3) := by decide +kernel
theorem dX3_find_7 : decode cX3_find 7 = .ok (.arraylength, 1) := by decide +kernel
theorem dX3_find_8 : decode cX3_find 8 = .ok (.if_icmp .ge 21, 3) := by decide +kernel
theorem dX3_find_11 : decode cX3_find 11 = .ok (.aload_n 0, 1) := by decide +kernel
theorem dX3_find_12 : decode cX3_find 12 = .ok (.getfield 9, 3) := by decide +kernel
theorem dX3_find_15 : decode cX3_find 15 = .ok (.iload_n 2, 1) := by decide +kernel
theorem dX3_find_16 : decode cX3_find 16 = .ok (.iaload, 1) := by decide +kernel
theorem dX3_find_17 : decode cX3_find 17 = .ok (.iload_n 1, 1) := by decide +kernel
theorem dX3_find_18 : decode cX3_find 18 = .ok (.if_icmp .ne 5, 3) := by decide +kernel
theorem dX3_find_21 : decode cX3_find 21 = .ok (.iload_n 2, 1) := by decide +kernel
theorem dX3_find_22 : decode cX3_find 22 = .ok (.ireturn, 1) := by decide +kernel
theorem dX3_find_23 : decode cX3_find 23 = .ok (.iinc 2 1, 3) := by decide +kernel
theorem dX3_find_26 : decode cX3_find 26 = .ok (.goto (-24), 3) := by decide +kernel
theorem dX3_find_29 : decode cX3_find 29 = .ok (.iconst (-1), 1) := by decide +kernel
theorem dX3_find_30 : decode cX3_find 30 = .ok (.ireturn, 1) := by decide +kernel
theorem dX4_init_0 : decode cX4_init 0 = .ok (.aload_n 0, 1) := by decide +kernel
theorem dX4_init_1 : decode cX4_init 1 = .ok (.invokespecial 1, 3) := by decide +kernel
theorem dX4_init_4 : decode cX4_init 4 = .ok (.aload_n 0, 1) := by decide +kernel
theorem dX4_init_5 : decode cX4_init 5 = .ok (.new 7, 3) := by decide +kernel
theorem dX4_init_8 : decode cX4_init 8 = .ok (.dup, 1) := by decide +kernel
theorem dX4_init_9 : decode cX4_init 9 = .ok (.invokespecial 9, 3) := by decide +kernel
theorem dX4_init_12 : decode cX4_init 12 = .ok (.putfield 10, 3) := by decide +kernel
theorem dX4_init_15 : decode cX4_init 15 = .ok (.aload_n 0, 1) := by decide +kernel
theorem dX4_init_16 : decode cX4_init 16 = .ok (.new 7, 3) := by decide +kernel
theorem dX4_init_19 : decode cX4_init 19 = .ok (.dup, 1) := by decide +kernel
theorem dX4_init_20 : decode cX4_init 20 = .ok (.invokespecial 9, 3) := by decide +kernel
theorem dX4_init_23 : decode cX4_init 23 = .ok (.putfield 16, 3) := by decide +kernel
theorem dX4_init_26 : decode cX4_init 26 = .ok (.return_, 1) := by decide +kernel
theorem dX4_addFlight_0 : decode cX4_addFlight 0 = .ok (.aload_n 0, 1) := by decide +kernel
theorem dX4_addFlight_1 : decode cX4_addFlight 1 = .ok (.getfield 10, 3) := by decide +kernel
theorem dX4_addFlight_4 : decode cX4_addFlight 4 = .ok (.getfield 19, 3) := by decide +kernel
theorem dX4_addFlight_7 : decode cX4_addFlight 7 = .ok (.getfield 23, 3) := by decide +kernel
theorem dX4_addFlight_10 : decode cX4_addFlight 10 = .ok (.bipush 6, 2) := by decide +kernel
theorem dX4_addFlight_12 : decode cX4_addFlight 12 = .ok (.if_icmp .lt 13, 3) := by decide +kernel
theorem dX4_addFlight_15 : decode cX4_addFlight 15 = .ok (.new 29, 3) := by decide +kernel
theorem dX4_addFlight_18 : decode cX4_addFlight 18 = .ok (.dup, 1) := by decide +kernel
theorem dX4_addFlight_19 : decode cX4_addFlight 19 = .ok (.ldc 31, 2) := by decide +kernel
theorem dX4_addFlight_21 : decode cX4_addFlight 21 = .ok (.invokespecial 33, 3) := by decide +kernel
theorem dX4_addFlight_24 : decode cX4_addFlight 24 = .ok (.athrow, 1) := by decide +kernel
theorem dX4_addFlight_25 : decode cX4_addFlight 25 = .ok (.aload_n 0, 1) := by decide +kernel
theorem dX4_addFlight_26 : decode cX4_addFlight 26 = .ok (.getfield 10, 3) := by decide +kernel
theorem dX4_addFlight_29 : decode cX4_addFlight 29 = .ok (.getfield 19, 3) := by decide +kernel
theorem dX4_addFlight_32 : decode cX4_addFlight 32 = .ok (.invokevirtual 36, 3) := by decide +kernel
theorem dX4_addFlight_35 : decode cX4_addFlight 35 = .ok (.ireturn, 1) := by decide +kernel
theorem dX4_giveChute_0 : decode cX4_giveChute 0 = .ok (.aload_n 0, 1) := by decide +kernel
theorem dX4_giveChute_1 : decode cX4_giveChute 1 = .ok (.iload_n 1, 1) := by decide +kernel
theorem dX4_giveChute_2 : decode cX4_giveChute 2 = .ok (.invokevirtual 40, 3) := by decide +kernel
theorem dX4_giveChute_5 : decode cX4_giveChute 5 = .ok (.iload_n 2, 1) := by decide +kernel
theorem dX4_giveChute_6 : decode cX4_giveChute 6 = .ok (.invokestatic 44, 3) := by decide +kernel
theorem dX4_giveChute_9 : decode cX4_giveChute 9 = .ok (.aload_n 0, 1) := by decide +kernel
theorem dX4_giveChute_10 : decode cX4_giveChute 10 = .ok (.iload_n 1, 1) := by decide +kernel
theorem dX4_giveChute_11 : decode cX4_giveChute 11 = .ok (.invokevirtual 47, 3) := by decide +kernel
theorem dX4_giveChute_14 : decode cX4_giveChute 14 = .ok (.aload_n 0, 1) := by decide +kernel
theorem dX4_giveChute_15 : decode cX4_giveChute 15 = .ok (.getfield 10, 3) := by decide +kernel
theorem dX4_giveChute_18 : decode cX4_giveChute 18 = .ok (.iload_n 1, 1) := by decide +kernel
theorem dX4_giveChute_19 : decode cX4_giveChute 19 = .ok (.iload_n 2, 1) := by decide +kernel
theorem dX4_giveChute_20 : decode cX4_giveChute 20 = .ok (.invokevirtual 50, 3) := by decide +kernel
theorem dX4_giveChute_23 : decode cX4_giveChute 23 = .ok (.ireturn, 1) := by decide +kernel
theorem dX4_setReader_0 : decode cX4_setReader 0 = .ok (.iload_n 1, 1) := by decide +kernel
theorem dX4_setReader_1 : decode cX4_setReader 1 = .ok (.ifCond .lt 9, 3) := by decide +kernel
theorem dX4_setReader_4 : decode cX4_setReader 4 = .ok (.iload_n 1, 1) := by decide +kernel
theorem dX4_setReader_5 : decode cX4_setReader 5 = .ok (.bipush 9, 2) := by decide +kernel
theorem dX4_setReader_7 : decode cX4_setReader 7 = .ok (.if_icmp .le 13, 3) := by decide +kernel
theorem dX4_setReader_10 : decode cX4_setReader 10 = .ok (.new 54, 3) := by decide +kernel
theorem dX4_setReader_13 : decode cX4_setReader 13 = .ok (.dup, 1) := by decide +kernel
theorem dX4_setReader_14 : decode cX4_setReader 14 = .ok (.ldc 56, 2) := by decide +kernel
theorem dX4_setReader_16 : decode cX4_setReader 16 = .ok (.invokespecial 58, 3) := by decide +kernel
theorem dX4_setReader_19 : decode cX4_setReader 19 = .ok (.athrow, 1) := by decide +kernel
theorem dX4_setReader_20 : decode cX4_setReader 20 = .ok (.aload_n 0, 1) := by decide +kernel
theorem dX4_setReader_21 : decode cX4_setReader 21 = .ok (.getfield 10, 3) := by decide +kernel
theorem dX4_setReader_24 : decode cX4_setReader 24 = .ok (.getfield 59, 3) := by decide +kernel
theorem dX4_setReader_27 : decode cX4_setReader 27 = .ok (.istore_n 2, 1) := by decide +kernel
theorem dX4_setReader_28 : decode cX4_setReader 28 = .ok (.aload_n 0, 1) := by decide +kernel
theorem dX4_setReader_29 : decode cX4_setReader 29 = .ok (.getfield 10, 3) := by decide +kernel
theorem dX4_setReader_32 : decode cX4_setReader 32 = .ok (.iload_n 1, 1) := by decide +kernel
theorem dX4_setReader_33 : decode cX4_setReader 33 = .ok (.putfield 59, 3) := by decide +kernel
theorem dX4_setReader_36 : decode cX4_setReader 36 = .ok (.iload_n 2, 1) := by decide +kernel
theorem dX4_setReader_37 : decode cX4_setReader 37 = .ok (.ireturn, 1) := by decide +kernel
theorem dX4_setRoom_0 : decode cX4_setRoom 0 = .ok (.iload_n 1, 1) := by decide +kernel
theorem dX4_setRoom_1 : decode cX4_setRoom 1 = .ok (.invokestatic 44, 3) := by decide +kernel
theorem dX4_setRoom_4 : decode cX4_setRoom 4 = .ok (.iload_n 2, 1) := by decide +kernel
theorem dX4_setRoom_5 : decode cX4_setRoom 5 = .ok (.iconst 1, 1) := by decide +kernel
theorem dX4_setRoom_6 : decode cX4_setRoom 6 = .ok (.if_icmp .lt 9, 3) := by decide +kernel
theorem dX4_setRoom_9 : decode cX4_setRoom 9 = .ok (.iload_n 2, 1) := by decide +kernel
theorem dX4_setRoom_10 : decode cX4_setRoom 10 = .ok (.bipush 20, 2) := by decide +kernel
theorem dX4_setRoom_12 : decode cX4_setRoom 12 = .ok (.if_icmp .le 13, 3) := by decide +kernel
theorem dX4_setRoom_15 : decode cX4_setRoom 15 = .ok (.new 54, 3) := by decide +kernel
theorem dX4_setRoom_18 : decode cX4_setRoom 18 = .ok (.dup, 1) := by decide +kernel
theorem dX4_setRoom_19 : decode cX4_setRoom 19 = .ok (.ldc 62, 2) := by decide +kernel
theorem dX4_setRoom_21 : decode cX4_setRoom 21 = .ok (.invokespecial 58, 3) := by decide +kernel
theorem dX4_setRoom_24 : decode cX4_setRoom 24 = .ok (.athrow, 1) := by decide +kernel
theorem dX4_setRoom_25 : decode cX4_setRoom 25 = .ok (.aload_n 0, 1) := by decide +kernel
theorem dX4_setRoom_26 : decode cX4_setRoom 26 = .ok (.getfield 10, 3) := by decide +kernel
theorem dX4_setRoom_29 : decode cX4_setRoom 29 = .ok (.getfield 64, 3) := by decide +kernel
theorem dX4_setRoom_32 : decode cX4_setRoom 32 = .ok (.iload_n 1, 1) := by decide +kernel
theorem dX4_setRoom_33 : decode cX4_setRoom 33 = .ok (.invokevirtual 68, 3) := by decide +kernel
theorem dX4_setRoom_36 : decode cX4_setRoom 36 = .ok (.istore_n 3, 1) := by decide +kernel
theorem dX4_setRoom_37 : decode cX4_setRoom 37 = .ok (.aload_n 0, 1) := by decide +kernel
theorem dX4_setRoom_38 : decode cX4_setRoom 38 = .ok (.getfield 10, 3) := by decide +kernel
theorem dX4_setRoom_41 : decode cX4_setRoom 41 = .ok (.getfield 64, 3) := by decide +kernel
theorem dX4_setRoom_44 : decode cX4_setRoom 44 = .ok (.iload_n 1, 1) := by decide +kernel
theorem dX4_setRoom_45 : decode cX4_setRoom 45 = .ok (.iload_n 2, 1) := by decide +kernel
theorem dX4_setRoom_46 : decode cX4_setRoom 46 = .ok (.invokevirtual 74, 3) := by decide +kernel
theorem dX4_setRoom_49 : decode cX4_setRoom 49 = .ok (.iload_n 3, 1) := by decide +kernel
theorem dX4_setRoom_50 : decode cX4_setRoom 50 = .ok (.ireturn, 1) := by decide +kernel
theorem dX4_checkIn_0 : decode cX4_checkIn 0 = .ok (.aload_n 0, 1) := by decide +kernel
theorem dX4_checkIn_1 : decode cX4_checkIn 1 = .ok (.iload_n 1, 1) := by decide +kernel
theorem dX4_checkIn_2 : decode cX4_checkIn 2 = .ok (.invokevirtual 40, 3) := by decide +kernel
theorem dX4_checkIn_5 : decode cX4_checkIn 5 = .ok (.iload_n 2, 1) := by decide +kernel
theorem dX4_checkIn_6 : decode cX4_checkIn 6 = .ok (.iconst 1, 1) := by decide +kernel
theorem dX4_checkIn_7 : decode cX4_checkIn 7 = .ok (.if_icmp .lt 19, 3) := by decide +kernel
theorem dX4_checkIn_10 : decode cX4_checkIn 10 = .ok (.iload_n 2, 1) := by decide +kernel
theorem dX4_checkIn_11 : decode cX4_checkIn 11 = .ok (.bipush 9, 2) := by decide +kernel
theorem dX4_checkIn_13 : decode cX4_checkIn 13 = .ok (.if_icmp .gt 13, 3) := by decide +kernel
theorem dX4_checkIn_16 : decode cX4_checkIn 16 = .ok (.iload_n 3, 1) := by decide +kernel
theorem dX4_checkIn_17 : decode cX4_checkIn 17 = .ok (.ifCond .lt 9, 3) := by decide +kernel
theorem dX4_checkIn_20 : decode cX4_checkIn 20 = .ok (.iload_n 3, 1) := by decide +kernel
theorem dX4_checkIn_21 : decode cX4_checkIn 21 = .ok (.bipush 9, 2) := by decide +kernel
theorem dX4_checkIn_23 : decode cX4_checkIn 23 = .ok (.if_icmp .le 13, 3) := by decide +kernel
theorem dX4_checkIn_26 : decode cX4_checkIn 26 = .ok (.new 54, 3) := by decide +kernel
theorem dX4_checkIn_29 : decode cX4_checkIn 29 = .ok (.dup, 1) := by decide +kernel
theorem dX4_checkIn_30 : decode cX4_checkIn 30 = .ok (.ldc 78, 2) := by decide +kernel
theorem dX4_checkIn_32 : decode cX4_checkIn 32 = .ok (.invokespecial 58, 3) := by decide +kernel
theorem dX4_checkIn_35 : decode cX4_checkIn 35 = .ok (.athrow, 1) := by decide +kernel
theorem dX4_checkIn_36 : decode cX4_checkIn 36 = .ok (.aload_n 0, 1) := by decide +kernel
theorem dX4_checkIn_37 : decode cX4_checkIn 37 = .ok (.getfield 10, 3) := by decide +kernel
theorem dX4_checkIn_40 : decode cX4_checkIn 40 = .ok (.getfield 80, 3) := by decide +kernel
theorem dX4_checkIn_43 : decode cX4_checkIn 43 = .ok (.getfield 84, 3) := by decide +kernel
theorem dX4_checkIn_46 : decode cX4_checkIn 46 = .ok (.bipush 40, 2) := by decide +kernel
theorem dX4_checkIn_48 : decode cX4_checkIn 48 = .ok (.if_icmp .lt 13, 3) := by decide +kernel
theorem dX4_checkIn_51 : decode cX4_checkIn 51 = .ok (.new 29, 3) := by decide +kernel
theorem dX4_checkIn_54 : decode cX4_checkIn 54 = .ok (.dup, 1) := by decide +kernel
theorem dX4_checkIn_55 : decode cX4_checkIn 55 = .ok (.ldc 87, 2) := by decide +kernel
theorem dX4_checkIn_57 : decode cX4_checkIn 57 = .ok (.invokespecial 33, 3) := by decide +kernel
theorem dX4_checkIn_60 : decode cX4_checkIn 60 = .ok (.athrow, 1) := by decide +kernel
theorem dX4_checkIn_61 : decode cX4_checkIn 61 = .ok (.aload_n 0, 1) := by decide +kernel
theorem dX4_checkIn_62 : decode cX4_checkIn 62 = .ok (.iload_n 1, 1) := by decide +kernel
theorem dX4_checkIn_63 : decode cX4_checkIn 63 = .ok (.invokevirtual 47, 3) := by decide +kernel
theorem dX4_checkIn_66 : decode cX4_checkIn 66 = .ok (.aload_n 0, 1) := by decide +kernel
theorem dX4_checkIn_67 : decode cX4_checkIn 67 = .ok (.getfield 10, 3) := by decide +kernel
theorem dX4_checkIn_70 : decode cX4_checkIn 70 = .ok (.getfield 80, 3) := by decide +kernel
theorem dX4_checkIn_73 : decode cX4_checkIn 73 = .ok (.iload_n 1, 1) := by decide +kernel
theorem dX4_checkIn_74 : decode cX4_checkIn 74 = .ok (.iload_n 2, 1) := by decide +kernel
theorem dX4_checkIn_75 : decode cX4_checkIn 75 = .ok (.iload_n 3, 1) := by decide +kernel
theorem dX4_checkIn_76 : decode cX4_checkIn 76 = .ok (.invokevirtual 89, 3) := by decide +kernel
theorem dX4_checkIn_79 : decode cX4_checkIn 79 = .ok (.istore 4, 2) := by decide +kernel
theorem dX4_checkIn_81 : decode cX4_checkIn 81 = .ok (.aload_n 0, 1) := by decide +kernel
theorem dX4_checkIn_82 : decode cX4_checkIn 82 = .ok (.getfield 10, 3) := by decide +kernel
theorem dX4_checkIn_85 : decode cX4_checkIn 85 = .ok (.iload 4, 2) := by decide +kernel
theorem dX4_checkIn_87 : decode cX4_checkIn 87 = .ok (.invokevirtual 92, 3) := by decide +kernel
theorem dX4_checkIn_90 : decode cX4_checkIn 90 = .ok (.iload 4, 2) := by decide +kernel
theorem dX4_checkIn_92 : decode cX4_checkIn 92 = .ok (.ireturn, 1) := by decide +kernel
theorem dX4_carry_0 : decode cX4_carry 0 = .ok (.aload_n 0, 1) := by decide +kernel
theorem dX4_carry_1 : decode cX4_carry 1 = .ok (.iload_n 1, 1) := by decide +kernel
theorem dX4_carry_2 : decode cX4_carry 2 = .ok (.invokevirtual 95, 3) := by decide +kernel
theorem dX4_carry_5 : decode cX4_carry 5 = .ok (.aload_n 0, 1) := by decide +kernel
theorem dX4_carry_6 : decode cX4_carry 6 = .ok (.iload_n 1, 1) := by decide +kernel
theorem dX4_carry_7 : decode cX4_carry 7 = .ok (.invokevirtual 98, 3) := by decide +kernel
theorem dX4_carry_10 : decode cX4_carry 10 = .ok (.aload_n 0, 1) := by decide +kernel
theorem dX4_carry_11 : decode cX4_carry 11 = .ok (.getfield 10, 3) := by decide +kernel
theorem dX4_carry_14 : decode cX4_carry 14 = .ok (.getfield 80, 3) := by decide +kernel
theorem dX4_carry_17 : decode cX4_carry 17 = .ok (.getfield 101, 3) := by decide +kernel
theorem dX4_carry_20 : decode cX4_carry 20 = .ok (.iload_n 1, 1) := by decide +kernel
theorem dX4_carry_21 : decode cX4_carry 21 = .ok (.invokevirtual 68, 3) := by decide +kernel
theorem dX4_carry_24 : decode cX4_carry 24 = .ok (.istore_n 2, 1) := by decide +kernel
theorem dX4_carry_25 : decode cX4_carry 25 = .ok (.aload_n 0, 1) := by decide +kernel
theorem dX4_carry_26 : decode cX4_carry 26 = .ok (.iload_n 2, 1) := by decide +kernel
theorem dX4_carry_27 : decode cX4_carry 27 = .ok (.invokevirtual 47, 3) := by decide +kernel
theorem dX4_carry_30 : decode cX4_carry 30 = .ok (.aload_n 0, 1) := by decide +kernel
theorem dX4_carry_31 : decode cX4_carry 31 = .ok (.getfield 10, 3) := by decide +kernel
theorem dX4_carry_34 : decode cX4_carry 34 = .ok (.getfield 19, 3) := by decide +kernel
theorem dX4_carry_37 : decode cX4_carry 37 = .ok (.getfield 104, 3) := by decide +kernel
theorem dX4_carry_40 : decode cX4_carry 40 = .ok (.iload_n 2, 1) := by decide +kernel
theorem dX4_carry_41 : decode cX4_carry 41 = .ok (.invokevirtual 68, 3) := by decide +kernel
theorem dX4_carry_44 : decode cX4_carry 44 = .ok (.istore_n 3, 1) := by decide +kernel
theorem dX4_carry_45 : decode cX4_carry 45 = .ok (.iload_n 3, 1) := by decide +kernel
theorem dX4_carry_46 : decode cX4_carry 46 = .ok (.invokestatic 107, 3) := by decide +kernel
theorem dX4_carry_49 : decode cX4_carry 49 = .ok (.ifCond .eq 14, 3) := by decide +kernel
theorem dX4_carry_52 : decode cX4_carry 52 = .ok (.aload_n 0, 1) := by decide +kernel
theorem dX4_carry_53 : decode cX4_carry 53 = .ok (.getfield 10, 3) := by decide +kernel
theorem dX4_carry_56 : decode cX4_carry 56 = .ok (.iload_n 3, 1) := by decide +kernel
theorem dX4_carry_57 : decode cX4_carry 57 = .ok (.invokevirtual 111, 3) := by decide +kernel
theorem dX4_carry_60 : decode cX4_carry 60 = .ok (.ifCond .ne 13, 3) := by decide +kernel
theorem dX4_carry_63 : decode cX4_carry 63 = .ok (.new 29, 3) := by decide +kernel
theorem dX4_carry_66 : decode cX4_carry 66 = .ok (.dup, 1) := by decide +kernel
theorem dX4_carry_67 : decode cX4_carry 67 = .ok (.ldc 114, 2) := by decide +kernel
theorem dX4_carry_69 : decode cX4_carry 69 = .ok (.invokespecial 33, 3) := by decide +kernel
theorem dX4_carry_72 : decode cX4_carry 72 = .ok (.athrow, 1) := by decide +kernel
theorem dX4_carry_73 : decode cX4_carry 73 = .ok (.aload_n 0, 1) := by decide +kernel
theorem dX4_carry_74 : decode cX4_carry 74 = .ok (.getfield 10, 3) := by decide +kernel
theorem dX4_carry_77 : decode cX4_carry 77 = .ok (.getfield 80, 3) := by decide +kernel
theorem dX4_carry_80 : decode cX4_carry 80 = .ok (.iload_n 1, 1) := by decide +kernel
theorem dX4_carry_81 : decode cX4_carry 81 = .ok (.iload_n 3, 1) := by decide +kernel
theorem dX4_carry_82 : decode cX4_carry 82 = .ok (.invokevirtual 116, 3) := by decide +kernel
theorem dX4_carry_85 : decode cX4_carry 85 = .ok (.iload_n 3, 1) := by decide +kernel
theorem dX4_carry_86 : decode cX4_carry 86 = .ok (.ireturn, 1) := by decide +kernel
theorem dX4_forward_0 : decode cX4_forward 0 = .ok (.aload_n 0, 1) := by decide +kernel
theorem dX4_forward_1 : decode cX4_forward 1 = .ok (.iload_n 1, 1) := by decide +kernel
theorem dX4_forward_2 : decode cX4_forward 2 = .ok (.invokevirtual 95, 3) := by decide +kernel
theorem dX4_forward_5 : decode cX4_forward 5 = .ok (.aload_n 0, 1) := by decide +kernel
theorem dX4_forward_6 : decode cX4_forward 6 = .ok (.iload_n 2, 1) := by decide +kernel
theorem dX4_forward_7 : decode cX4_forward 7 = .ok (.invokevirtual 40, 3) := by decide +kernel
theorem dX4_forward_10 : decode cX4_forward 10 = .ok (.aload_n 0, 1) := by decide +kernel
theorem dX4_forward_11 : decode cX4_forward 11 = .ok (.iload_n 1, 1) := by decide +kernel
theorem dX4_forward_12 : decode cX4_forward 12 = .ok (.invokevirtual 98, 3) := by decide +kernel
theorem dX4_forward_15 : decode cX4_forward 15 = .ok (.aload_n 0, 1) := by decide +kernel
theorem dX4_forward_16 : decode cX4_forward 16 = .ok (.getfield 10, 3) := by decide +kernel
theorem dX4_forward_19 : decode cX4_forward 19 = .ok (.getfield 19, 3) := by decide +kernel
theorem dX4_forward_22 : decode cX4_forward 22 = .ok (.aload_n 0, 1) := by decide +kernel
theorem dX4_forward_23 : decode cX4_forward 23 = .ok (.getfield 10, 3) := by decide +kernel
theorem dX4_forward_26 : decode cX4_forward 26 = .ok (.getfield 80, 3) := by decide +kernel
theorem dX4_forward_29 : decode cX4_forward 29 = .ok (.getfield 101, 3) := by decide +kernel
theorem dX4_forward_32 : decode cX4_forward 32 = .ok (.iload_n 1, 1) := by decide +kernel
theorem dX4_forward_33 : decode cX4_forward 33 = .ok (.invokevirtual 68, 3) := by decide +kernel
theorem dX4_forward_36 : decode cX4_forward 36 = .ok (.invokevirtual 119, 3) := by decide +kernel
theorem dX4_forward_39 : decode cX4_forward 39 = .ok (.ifCond .ne 13, 3) := by decide +kernel
theorem dX4_forward_42 : decode cX4_forward 42 = .ok (.new 29, 3) := by decide +kernel
theorem dX4_forward_45 : decode cX4_forward 45 = .ok (.dup, 1) := by decide +kernel
theorem dX4_forward_46 : decode cX4_forward 46 = .ok (.ldc 122, 2) := by decide +kernel
theorem dX4_forward_48 : decode cX4_forward 48 = .ok (.invokespecial 33, 3) := by decide +kernel
theorem dX4_forward_51 : decode cX4_forward 51 = .ok (.athrow, 1) := by decide +kernel
theorem dX4_forward_52 : decode cX4_forward 52 = .ok (.aload_n 0, 1) := by decide +kernel
theorem dX4_forward_53 : decode cX4_forward 53 = .ok (.iload_n 2, 1) := by decide +kernel
theorem dX4_forward_54 : decode cX4_forward 54 = .ok (.invokevirtual 47, 3) := by decide +kernel
theorem dX4_forward_57 : decode cX4_forward 57 = .ok (.aload_n 0, 1) := by decide +kernel
theorem dX4_forward_58 : decode cX4_forward 58 = .ok (.getfield 10, 3) := by decide +kernel
theorem dX4_forward_61 : decode cX4_forward 61 = .ok (.getfield 80, 3) := by decide +kernel
theorem dX4_forward_64 : decode cX4_forward 64 = .ok (.iload_n 1, 1) := by decide +kernel
theorem dX4_forward_65 : decode cX4_forward 65 = .ok (.iload_n 2, 1) := by decide +kernel
theorem dX4_forward_66 : decode cX4_forward 66 = .ok (.invokevirtual 124, 3) := by decide +kernel
theorem dX4_forward_69 : decode cX4_forward 69 = .ok (.aload_n 0, 1) := by decide +kernel
theorem dX4_forward_70 : decode cX4_forward 70 = .ok (.getfield 10, 3) := by decide +kernel
theorem dX4_forward_73 : decode cX4_forward 73 = .ok (.iload_n 1, 1) := by decide +kernel
theorem dX4_forward_74 : decode cX4_forward 74 = .ok (.invokevirtual 92, 3) := by decide +kernel
theorem dX4_forward_77 : decode cX4_forward 77 = .ok (.aload_n 0, 1) := by decide +kernel
theorem dX4_forward_78 : decode cX4_forward 78 = .ok (.getfield 10, 3) := by decide +kernel
theorem dX4_forward_81 : decode cX4_forward 81 = .ok (.getfield 127, 3) := by decide +kernel
theorem dX4_forward_84 : decode cX4_forward 84 = .ok (.ireturn, 1) := by decide +kernel
theorem dX4_sweep_0 : decode cX4_sweep 0 = .ok (.iload_n 1, 1) := by decide +kernel
theorem dX4_sweep_1 : decode cX4_sweep 1 = .ok (.invokestatic 44, 3) := by decide +kernel
theorem dX4_sweep_4 : decode cX4_sweep 4 = .ok (.aload_n 0, 1) := by decide +kernel
theorem dX4_sweep_5 : decode cX4_sweep 5 = .ok (.getfield 10, 3) := by decide +kernel
theorem dX4_sweep_8 : decode cX4_sweep 8 = .ok (.iload_n 1, 1) := by decide +kernel
theorem dX4_sweep_9 : decode cX4_sweep 9 = .ok (.invokevirtual 130, 3) := by decide +kernel
theorem dX4_sweep_12 : decode cX4_sweep 12 = .ok (.ireturn, 1) := by decide +kernel
theorem dX4_depart_0 : decode cX4_depart 0 = .ok (.aload_n 0, 1) := by decide +kernel
theorem dX4_depart_1 : decode cX4_depart 1 = .ok (.iload_n 1, 1) := by decide +kernel
theorem dX4_depart_2 : decode cX4_depart 2 = .ok (.invokevirtual 40, 3) := by decide +kernel
theorem dX4_depart_5 : decode cX4_depart 5 = .ok (.aload_n 0, 1) := by decide +kernel
theorem dX4_depart_6 : decode cX4_depart 6 = .ok (.iload_n 1, 1) := by decide +kernel
theorem dX4_depart_7 : decode cX4_depart 7 = .ok (.invokevirtual 47, 3) := by decide +kernel
theorem dX4_depart_10 : decode cX4_depart 10 = .ok (.aload_n 0, 1) := by decide +kernel
theorem dX4_depart_11 : decode cX4_depart 11 = .ok (.getfield 10, 3) := by decide +kernel
theorem dX4_depart_14 : decode cX4_depart 14 = .ok (.iload_n 1, 1) := by decide +kernel
theorem dX4_depart_15 : decode cX4_depart 15 = .ok (.invokevirtual 133, 3) := by decide +kernel
theorem dX4_depart_18 : decode cX4_depart 18 = .ok (.ireturn, 1) := by decide +kernel
theorem dX4_pass_0 : decode cX4_pass 0 = .ok (.iload_n 1, 1) := by decide +kernel
theorem dX4_pass_1 : decode cX4_pass 1 = .ok (.invokestatic 136, 3) := by decide +kernel
theorem dX4_pass_4 : decode cX4_pass 4 = .ok (.aload_n 0, 1) := by decide +kernel
theorem dX4_pass_5 : decode cX4_pass 5 = .ok (.getfield 10, 3) := by decide +kernel
theorem dX4_pass_8 : decode cX4_pass 8 = .ok (.iload_n 1, 1) := by decide +kernel
theorem dX4_pass_9 : decode cX4_pass 9 = .ok (.invokevirtual 139, 3) := by decide +kernel
theorem dX4_pass_12 : decode cX4_pass 12 = .ok (.ireturn, 1) := by decide +kernel
theorem dX4_flightOf_0 : decode cX4_flightOf 0 = .ok (.aload_n 0, 1) := by decide +kernel
theorem dX4_flightOf_1 : decode cX4_flightOf 1 = .ok (.iload_n 1, 1) := by decide +kernel
theorem dX4_flightOf_2 : decode cX4_flightOf 2 = .ok (.invokevirtual 95, 3) := by decide +kernel
theorem dX4_flightOf_5 : decode cX4_flightOf 5 = .ok (.aload_n 0, 1) := by decide +kernel
theorem dX4_flightOf_6 : decode cX4_flightOf 6 = .ok (.getfield 10, 3) := by decide +kernel
theorem dX4_flightOf_9 : decode cX4_flightOf 9 = .ok (.getfield 80, 3) := by decide +kernel
theorem dX4_flightOf_12 : decode cX4_flightOf 12 = .ok (.getfield 101, 3) := by decide +kernel
theorem dX4_flightOf_15 : decode cX4_flightOf 15 = .ok (.iload_n 1, 1) := by decide +kernel
theorem dX4_flightOf_16 : decode cX4_flightOf 16 = .ok (.invokevirtual 68, 3) := by decide +kernel
theorem dX4_flightOf_19 : decode cX4_flightOf 19 = .ok (.ireturn, 1) := by decide +kernel
theorem dX4_whereIs_0 : decode cX4_whereIs 0 = .ok (.aload_n 0, 1) := by decide +kernel
theorem dX4_whereIs_1 : decode cX4_whereIs 1 = .ok (.iload_n 1, 1) := by decide +kernel
theorem dX4_whereIs_2 : decode cX4_whereIs 2 = .ok (.invokevirtual 95, 3) := by decide +kernel
theorem dX4_whereIs_5 : decode cX4_whereIs 5 = .ok (.aload_n 0, 1) := by decide +kernel
theorem dX4_whereIs_6 : decode cX4_whereIs 6 = .ok (.getfield 10, 3) := by decide +kernel
theorem dX4_whereIs_9 : decode cX4_whereIs 9 = .ok (.getfield 80, 3) := by decide +kernel
theorem dX4_whereIs_12 : decode cX4_whereIs 12 = .ok (.getfield 142, 3) := by decide +kernel
theorem dX4_whereIs_15 : decode cX4_whereIs 15 = .ok (.iload_n 1, 1) := by decide +kernel
theorem dX4_whereIs_16 : decode cX4_whereIs 16 = .ok (.invokevirtual 68, 3) := by decide +kernel
theorem dX4_whereIs_19 : decode cX4_whereIs 19 = .ok (.ireturn, 1) := by decide +kernel
theorem dX4_placeOf_0 : decode cX4_placeOf 0 = .ok (.aload_n 0, 1) := by decide +kernel
theorem dX4_placeOf_1 : decode cX4_placeOf 1 = .ok (.iload_n 1, 1) := by decide +kernel
theorem dX4_placeOf_2 : decode cX4_placeOf 2 = .ok (.invokevirtual 95, 3) := by decide +kernel
theorem dX4_placeOf_5 : decode cX4_placeOf 5 = .ok (.aload_n 0, 1) := by decide +kernel
theorem dX4_placeOf_6 : decode cX4_placeOf 6 = .ok (.getfield 10, 3) := by decide +kernel
theorem dX4_placeOf_9 : decode cX4_placeOf 9 = .ok (.iload_n 1, 1) := by decide +kernel
theorem dX4_placeOf_10 : decode cX4_placeOf 10 = .ok (.invokevirtual 145, 3) := by decide +kernel
theorem dX4_placeOf_13 : decode cX4_placeOf 13 = .ok (.ireturn, 1) := by decide +kernel
theorem dX4_chuteOf_0 : decode cX4_chuteOf 0 = .ok (.aload_n 0, 1) := by decide +kernel
theorem dX4_chuteOf_1 : decode cX4_chuteOf 1 = .ok (.iload_n 1, 1) := by decide +kernel
theorem dX4_chuteOf_2 : decode cX4_chuteOf 2 = .ok (.invokevirtual 95, 3) := by decide +kernel
theorem dX4_chuteOf_5 : decode cX4_chuteOf 5 = .ok (.aload_n 0, 1) := by decide +kernel
theorem dX4_chuteOf_6 : decode cX4_chuteOf 6 = .ok (.getfield 10, 3) := by decide +kernel
theorem dX4_chuteOf_9 : decode cX4_chuteOf 9 = .ok (.getfield 80, 3) := by decide +kernel
theorem dX4_chuteOf_12 : decode cX4_chuteOf 12 = .ok (.getfield 148, 3) := by decide +kernel
theorem dX4_chuteOf_15 : decode cX4_chuteOf 15 = .ok (.iload_n 1, 1) := by decide +kernel
theorem dX4_chuteOf_16 : decode cX4_chuteOf 16 = .ok (.invokevirtual 68, 3) := by decide +kernel
theorem dX4_chuteOf_19 : decode cX4_chuteOf 19 = .ok (.ireturn, 1) := by decide +kernel
theorem dX4_readFor_0 : decode cX4_readFor 0 = .ok (.aload_n 0, 1) := by decide +kernel
theorem dX4_readFor_1 : decode cX4_readFor 1 = .ok (.iload_n 1, 1) := by decide +kernel
theorem dX4_readFor_2 : decode cX4_readFor 2 = .ok (.invokevirtual 95, 3) := by decide +kernel
theorem dX4_readFor_5 : decode cX4_readFor 5 = .ok (.aload_n 0, 1) := by decide +kernel
theorem dX4_readFor_6 : decode cX4_readFor 6 = .ok (.getfield 10, 3) := by decide +kernel
theorem dX4_readFor_9 : decode cX4_readFor 9 = .ok (.getfield 80, 3) := by decide +kernel
theorem dX4_readFor_12 : decode cX4_readFor 12 = .ok (.getfield 149, 3) := by decide +kernel
theorem dX4_readFor_15 : decode cX4_readFor 15 = .ok (.iload_n 1, 1) := by decide +kernel
theorem dX4_readFor_16 : decode cX4_readFor 16 = .ok (.invokevirtual 68, 3) := by decide +kernel
theorem dX4_readFor_19 : decode cX4_readFor 19 = .ok (.ireturn, 1) := by decide +kernel
theorem dX4_missesOf_0 : decode cX4_missesOf 0 = .ok (.aload_n 0, 1) := by decide +kernel
theorem dX4_missesOf_1 : decode cX4_missesOf 1 = .ok (.iload_n 1, 1) := by decide +kernel
theorem dX4_missesOf_2 : decode cX4_missesOf 2 = .ok (.invokevirtual 95, 3) := by decide +kernel
theorem dX4_missesOf_5 : decode cX4_missesOf 5 = .ok (.aload_n 0, 1) := by decide +kernel
theorem dX4_missesOf_6 : decode cX4_missesOf 6 = .ok (.getfield 10, 3) := by decide +kernel
theorem dX4_missesOf_9 : decode cX4_missesOf 9 = .ok (.getfield 80, 3) := by decide +kernel
theorem dX4_missesOf_12 : decode cX4_missesOf 12 = .ok (.getfield 152, 3) := by decide +kernel
theorem dX4_missesOf_15 : decode cX4_missesOf 15 = .ok (.iload_n 1, 1) := by decide +kernel
theorem dX4_missesOf_16 : decode cX4_missesOf 16 = .ok (.invokevirtual 68, 3) := by decide +kernel
theorem dX4_missesOf_19 : decode cX4_missesOf 19 = .ok (.ireturn, 1) := by decide +kernel
theorem dX4_isMisrouted_0 : decode cX4_isMisrouted 0 = .ok (.aload_n 0, 1) := by decide +kernel
theorem dX4_isMisrouted_1 : decode cX4_isMisrouted 1 = .ok (.iload_n 1, 1) := by decide +kernel
theorem dX4_isMisrouted_2 : decode cX4_isMisrouted 2 = .ok (.invokevirtual 95, 3) := by decide +kernel
theorem dX4_isMisrouted_5 : decode cX4_isMisrouted 5 = .ok (.aload_n 0, 1) := by decide +kernel
theorem dX4_isMisrouted_6 : decode cX4_isMisrouted 6 = .ok (.getfield 10, 3) := by decide +kernel
theorem dX4_isMisrouted_9 : decode cX4_isMisrouted 9 = .ok (.iload_n 1, 1) := by decide +kernel
theorem dX4_isMisrouted_10 : decode cX4_isMisrouted 10 = .ok (.invokevirtual 155, 3) := by decide +kernel
theorem dX4_isMisrouted_13 : decode cX4_isMisrouted 13 = .ok (.ireturn, 1) := by decide +kernel
theorem dX4_hasOpenFile_0 : decode cX4_hasOpenFile 0 = .ok (.aload_n 0, 1) := by decide +kernel
theorem dX4_hasOpenFile_1 : decode cX4_hasOpenFile 1 = .ok (.iload_n 1, 1) := by decide +kernel
theorem dX4_hasOpenFile_2 : decode cX4_hasOpenFile 2 = .ok (.invokevirtual 95, 3) := by decide +kernel
theorem dX4_hasOpenFile_5 : decode cX4_hasOpenFile 5 = .ok (.aload_n 0, 1) := by decide +kernel
theorem dX4_hasOpenFile_6 : decode cX4_hasOpenFile 6 = .ok (.getfield 10, 3) := by decide +kernel
theorem dX4_hasOpenFile_9 : decode cX4_hasOpenFile 9 = .ok (.getfield 80, 3) := by decide +kernel
theorem dX4_hasOpenFile_12 : decode cX4_hasOpenFile 12 = .ok (.getfield 158, 3) := by decide +kernel
theorem dX4_hasOpenFile_15 : decode cX4_hasOpenFile 15 = .ok (.iload_n 1, 1) := by decide +kernel
theorem dX4_hasOpenFile_16 : decode cX4_hasOpenFile 16 = .ok (.invokevirtual 68, 3) := by decide +kernel
theorem dX4_hasOpenFile_19 : decode cX4_hasOpenFile 19 = .ok (.iconst 1, 1) := by decide +kernel
theorem dX4_hasOpenFile_20 : decode cX4_hasOpenFile 20 = .ok (.if_icmp .ne 7, 3) := by decide +kernel
theorem dX4_hasOpenFile_23 : decode cX4_hasOpenFile 23 = .ok (.iconst 1, 1) := by decide +kernel
theorem dX4_hasOpenFile_24 : decode cX4_hasOpenFile 24 = .ok (.goto 4, 3) := by decide +kernel
theorem dX4_hasOpenFile_27 : decode cX4_hasOpenFile 27 = .ok (.iconst 0, 1) := by decide +kernel
theorem dX4_hasOpenFile_28 : decode cX4_hasOpenFile 28 = .ok (.ireturn, 1) := by decide +kernel
theorem dX4_bagAt_0 : decode cX4_bagAt 0 = .ok (.iload_n 1, 1) := by decide +kernel
theorem dX4_bagAt_1 : decode cX4_bagAt 1 = .ok (.ifCond .lt 9, 3) := by decide +kernel
theorem dX4_bagAt_4 : decode cX4_bagAt 4 = .ok (.iload_n 1, 1) := by decide +kernel
theorem dX4_bagAt_5 : decode cX4_bagAt 5 = .ok (.bipush 12, 2) := by decide +kernel
theorem dX4_bagAt_7 : decode cX4_bagAt 7 = .ok (.if_icmp .lt 13, 3) := by decide +kernel
theorem dX4_bagAt_10 : decode cX4_bagAt 10 = .ok (.new 161, 3) := by decide +kernel
theorem dX4_bagAt_13 : decode cX4_bagAt 13 = .ok (.dup, 1) := by decide +kernel
theorem dX4_bagAt_14 : decode cX4_bagAt 14 = .ok (.ldc 163, 2) := by decide +kernel
theorem dX4_bagAt_16 : decode cX4_bagAt 16 = .ok (.invokespecial 165, 3) := by decide +kernel
theorem dX4_bagAt_19 : decode cX4_bagAt 19 = .ok (.athrow, 1) := by decide +kernel
theorem dX4_bagAt_20 : decode cX4_bagAt 20 = .ok (.aload_n 0, 1) := by decide +kernel
theorem dX4_bagAt_21 : decode cX4_bagAt 21 = .ok (.getfield 10, 3) := by decide +kernel
theorem dX4_bagAt_24 : decode cX4_bagAt 24 = .ok (.getfield 166, 3) := by decide +kernel
theorem dX4_bagAt_27 : decode cX4_bagAt 27 = .ok (.iload_n 1, 1) := by decide +kernel
theorem dX4_bagAt_28 : decode cX4_bagAt 28 = .ok (.invokevirtual 68, 3) := by decide +kernel
theorem dX4_bagAt_31 : decode cX4_bagAt 31 = .ok (.ireturn, 1) := by decide +kernel
theorem dX4_bagsIn_0 : decode cX4_bagsIn 0 = .ok (.iload_n 1, 1) := by decide +kernel
theorem dX4_bagsIn_1 : decode cX4_bagsIn 1 = .ok (.invokestatic 44, 3) := by decide +kernel
theorem dX4_bagsIn_4 : decode cX4_bagsIn 4 = .ok (.aload_n 0, 1) := by decide +kernel
theorem dX4_bagsIn_5 : decode cX4_bagsIn 5 = .ok (.getfield 10, 3) := by decide +kernel
theorem dX4_bagsIn_8 : decode cX4_bagsIn 8 = .ok (.getfield 80, 3) := by decide +kernel
theorem dX4_bagsIn_11 : decode cX4_bagsIn 11 = .ok (.getfield 148, 3) := by decide +kernel
theorem dX4_bagsIn_14 : decode cX4_bagsIn 14 = .ok (.iload_n 1, 1) := by decide +kernel
theorem dX4_bagsIn_15 : decode cX4_bagsIn 15 = .ok (.invokevirtual 169, 3) := by decide +kernel
theorem dX4_bagsIn_18 : decode cX4_bagsIn 18 = .ok (.ireturn, 1) := by decide +kernel
theorem dX4_misroutedIn_0 : decode cX4_misroutedIn 0 = .ok (.iload_n 1, 1) := by decide +kernel
theorem dX4_misroutedIn_1 : decode cX4_misroutedIn 1 = .ok (.invokestatic 44, 3) := by decide +kernel
theorem dX4_misroutedIn_4 : decode cX4_misroutedIn 4 = .ok (.aload_n 0, 1) := by decide +kernel
theorem dX4_misroutedIn_5 : decode cX4_misroutedIn 5 = .ok (.getfield 10, 3) := by decide +kernel
theorem dX4_misroutedIn_8 : decode cX4_misroutedIn 8 = .ok (.iload_n 1, 1) := by decide +kernel
theorem dX4_misroutedIn_9 : decode cX4_misroutedIn 9 = .ok (.invokevirtual 171, 3) := by decide +kernel
theorem dX4_misroutedIn_12 : decode cX4_misroutedIn 12 = .ok (.ireturn, 1) := by decide +kernel
theorem dX4_roomOf_0 : decode cX4_roomOf 0 = .ok (.iload_n 1, 1) := by decide +kernel
theorem dX4_roomOf_1 : decode cX4_roomOf 1 = .ok (.invokestatic 44, 3) := by decide +kernel
theorem dX4_roomOf_4 : decode cX4_roomOf 4 = .ok (.aload_n 0, 1) := by decide +kernel
theorem dX4_roomOf_5 : decode cX4_roomOf 5 = .ok (.getfield 10, 3) := by decide +kernel
theorem dX4_roomOf_8 : decode cX4_roomOf 8 = .ok (.getfield 64, 3) := by decide +kernel
theorem dX4_roomOf_11 : decode cX4_roomOf 11 = .ok (.iload_n 1, 1) := by decide +kernel
theorem dX4_roomOf_12 : decode cX4_roomOf 12 = .ok (.invokevirtual 68, 3) := by decide +kernel
theorem dX4_roomOf_15 : decode cX4_roomOf 15 = .ok (.ireturn, 1) := by decide +kernel
theorem dX4_chuteOfFlight_0 : decode cX4_chuteOfFlight 0 = .ok (.aload_n 0, 1) := by decide +kernel
theorem dX4_chuteOfFlight_1 : decode cX4_chuteOfFlight 1 = .ok (.iload_n 1, 1) := by decide +kernel
theorem dX4_chuteOfFlight_2 : decode cX4_chuteOfFlight 2 = .ok (.invokevirtual 40, 3) := by decide +kernel
theorem dX4_chuteOfFlight_5 : decode cX4_chuteOfFlight 5 = .ok (.aload_n 0, 1) := by decide +kernel
theorem dX4_chuteOfFlight_6 : decode cX4_chuteOfFlight 6 = .ok (.getfield 10, 3) := by decide +kernel
theorem dX4_chuteOfFlight_9 : decode cX4_chuteOfFlight 9 = .ok (.getfield 19, 3) := by decide +kernel
theorem dX4_chuteOfFlight_12 : decode cX4_chuteOfFlight 12 = .ok (.getfield 104, 3) := by decide +kernel
theorem dX4_chuteOfFlight_15 : decode cX4_chuteOfFlight 15 = .ok (.iload_n 1, 1) := by decide +kernel
theorem dX4_chuteOfFlight_16 : decode cX4_chuteOfFlight 16 = .ok (.invokevirtual 68, 3) := by decide +kernel
theorem dX4_chuteOfFlight_19 : decode cX4_chuteOfFlight 19 = .ok (.ireturn, 1) := by decide +kernel
theorem dX4_isGone_0 : decode cX4_isGone 0 = .ok (.aload_n 0, 1) := by decide +kernel
theorem dX4_isGone_1 : decode cX4_isGone 1 = .ok (.iload_n 1, 1) := by decide +kernel
theorem dX4_isGone_2 : decode cX4_isGone 2 = .ok (.invokevirtual 40, 3) := by decide +kernel
theorem dX4_isGone_5 : decode cX4_isGone 5 = .ok (.aload_n 0, 1) := by decide +kernel
theorem dX4_isGone_6 : decode cX4_isGone 6 = .ok (.getfield 10, 3) := by decide +kernel
theorem dX4_isGone_9 : decode cX4_isGone 9 = .ok (.getfield 19, 3) := by decide +kernel
theorem dX4_isGone_12 : decode cX4_isGone 12 = .ok (.iload_n 1, 1) := by decide +kernel
theorem dX4_isGone_13 : decode cX4_isGone 13 = .ok (.invokevirtual 119, 3) := by decide +kernel
theorem dX4_isGone_16 : decode cX4_isGone 16 = .ok (.ireturn, 1) := by decide +kernel
theorem dX4_readyOf_0 : decode cX4_readyOf 0 = .ok (.aload_n 0, 1) := by decide +kernel
theorem dX4_readyOf_1 : decode cX4_readyOf 1 = .ok (.iload_n 1, 1) := by decide +kernel
theorem dX4_readyOf_2 : decode cX4_readyOf 2 = .ok (.invokevirtual 40, 3) := by decide +kernel
theorem dX4_readyOf_5 : decode cX4_readyOf 5 = .ok (.aload_n 0, 1) := by decide +kernel
theorem dX4_readyOf_6 : decode cX4_readyOf 6 = .ok (.getfield 10, 3) := by decide +kernel
theorem dX4_readyOf_9 : decode cX4_readyOf 9 = .ok (.iload_n 1, 1) := by decide +kernel
theorem dX4_readyOf_10 : decode cX4_readyOf 10 = .ok (.invokevirtual 174, 3) := by decide +kernel
theorem dX4_readyOf_13 : decode cX4_readyOf 13 = .ok (.ireturn, 1) := by decide +kernel
theorem dX4_missingOf_0 : decode cX4_missingOf 0 = .ok (.aload_n 0, 1) := by decide +kernel
theorem dX4_missingOf_1 : decode cX4_missingOf 1 = .ok (.iload_n 1, 1) := by decide +kernel
theorem dX4_missingOf_2 : decode cX4_missingOf 2 = .ok (.invokevirtual 40, 3) := by decide +kernel
theorem dX4_missingOf_5 : decode cX4_missingOf 5 = .ok (.aload_n 0, 1) := by decide +kernel
theorem dX4_missingOf_6 : decode cX4_missingOf 6 = .ok (.getfield 10, 3) := by decide +kernel
theorem dX4_missingOf_9 : decode cX4_missingOf 9 = .ok (.iload_n 1, 1) := by decide +kernel
theorem dX4_missingOf_10 : decode cX4_missingOf 10 = .ok (.invokevirtual 177, 3) := by decide +kernel
theorem dX4_missingOf_13 : decode cX4_missingOf 13 = .ok (.ireturn, 1) := by decide +kernel
theorem dX4_minute_0 : decode cX4_minute 0 = .ok (.aload_n 0, 1) := by decide +kernel
theorem dX4_minute_1 : decode cX4_minute 1 = .ok (.getfield 10, 3) := by decide +kernel
theorem dX4_minute_4 : decode cX4_minute 4 = .ok (.getfield 180, 3) := by decide +kernel
theorem dX4_minute_7 : decode cX4_minute 7 = .ok (.ireturn, 1) := by decide +kernel
theorem dX4_flights_0 : decode cX4_flights 0 = .ok (.aload_n 0, 1) := by decide +kernel
theorem dX4_flights_1 : decode cX4_flights 1 = .ok (.getfield 10, 3) := by decide +kernel
theorem dX4_flights_4 : decode cX4_flights 4 = .ok (.getfield 19, 3) := by decide +kernel
theorem dX4_flights_7 : decode cX4_flights 7 = .ok (.getfield 23, 3) := by decide +kernel
theorem dX4_flights_10 : decode cX4_flights 10 = .ok (.ireturn, 1) := by decide +kernel
theorem dX4_bags_0 : decode cX4_bags 0 = .ok (.aload_n 0, 1) := by decide +kernel
theorem dX4_bags_1 : decode cX4_bags 1 = .ok (.getfield 10, 3) := by decide +kernel
theorem dX4_bags_4 : decode cX4_bags 4 = .ok (.getfield 80, 3) := by decide +kernel
theorem dX4_bags_7 : decode cX4_bags 7 = .ok (.getfield 84, 3) := by decide +kernel
theorem dX4_bags_10 : decode cX4_bags 10 = .ok (.ireturn, 1) := by decide +kernel
theorem dX4_inLine_0 : decode cX4_inLine 0 = .ok (.aload_n 0, 1) := by decide +kernel
theorem dX4_inLine_1 : decode cX4_inLine 1 = .ok (.getfield 10, 3) := by decide +kernel
theorem dX4_inLine_4 : decode cX4_inLine 4 = .ok (.getfield 80, 3) := by decide +kernel
theorem dX4_inLine_7 : decode cX4_inLine 7 = .ok (.getfield 142, 3) := by decide +kernel
theorem dX4_inLine_10 : decode cX4_inLine 10 = .ok (.iconst 0, 1) := by decide +kernel
theorem dX4_inLine_11 : decode cX4_inLine 11 = .ok (.invokevirtual 169, 3) := by decide +kernel
theorem dX4_inLine_14 : decode cX4_inLine 14 = .ok (.ireturn, 1) := by decide +kernel
theorem dX4_onBelt_0 : decode cX4_onBelt 0 = .ok (.aload_n 0, 1) := by decide +kernel
theorem dX4_onBelt_1 : decode cX4_onBelt 1 = .ok (.getfield 10, 3) := by decide +kernel
theorem dX4_onBelt_4 : decode cX4_onBelt 4 = .ok (.getfield 80, 3) := by decide +kernel
theorem dX4_onBelt_7 : decode cX4_onBelt 7 = .ok (.getfield 142, 3) := by decide +kernel
theorem dX4_onBelt_10 : decode cX4_onBelt 10 = .ok (.iconst 1, 1) := by decide +kernel
theorem dX4_onBelt_11 : decode cX4_onBelt 11 = .ok (.invokevirtual 169, 3) := by decide +kernel
theorem dX4_onBelt_14 : decode cX4_onBelt 14 = .ok (.ireturn, 1) := by decide +kernel
theorem dX4_atDesk_0 : decode cX4_atDesk 0 = .ok (.aload_n 0, 1) := by decide +kernel
theorem dX4_atDesk_1 : decode cX4_atDesk 1 = .ok (.getfield 10, 3) := by decide +kernel
theorem dX4_atDesk_4 : decode cX4_atDesk 4 = .ok (.getfield 80, 3) := by decide +kernel
theorem dX4_atDesk_7 : decode cX4_atDesk 7 = .ok (.getfield 142, 3) := by decide +kernel
theorem dX4_atDesk_10 : decode cX4_atDesk 10 = .ok (.iconst 3, 1) := by decide +kernel
theorem dX4_atDesk_11 : decode cX4_atDesk 11 = .ok (.invokevirtual 169, 3) := by decide +kernel
theorem dX4_atDesk_14 : decode cX4_atDesk 14 = .ok (.ireturn, 1) := by decide +kernel
theorem dX4_openFiles_0 : decode cX4_openFiles 0 = .ok (.aload_n 0, 1) := by decide +kernel
theorem dX4_openFiles_1 : decode cX4_openFiles 1 = .ok (.getfield 10, 3) := by decide +kernel
theorem dX4_openFiles_4 : decode cX4_openFiles 4 = .ok (.getfield 80, 3) := by decide +kernel
theorem dX4_openFiles_7 : decode cX4_openFiles 7 = .ok (.getfield 158, 3) := by decide +kernel
theorem dX4_openFiles_10 : decode cX4_openFiles 10 = .ok (.iconst 1, 1) := by decide +kernel
theorem dX4_openFiles_11 : decode cX4_openFiles 11 = .ok (.invokevirtual 169, 3) := by decide +kernel
theorem dX4_openFiles_14 : decode cX4_openFiles 14 = .ok (.ireturn, 1) := by decide +kernel
theorem dX4_closedFiles_0 : decode cX4_closedFiles 0 = .ok (.aload_n 0, 1) := by decide +kernel
theorem dX4_closedFiles_1 : decode cX4_closedFiles 1 = .ok (.getfield 10, 3) := by decide +kernel
theorem dX4_closedFiles_4 : decode cX4_closedFiles 4 = .ok (.getfield 80, 3) := by decide +kernel
theorem dX4_closedFiles_7 : decode cX4_closedFiles 7 = .ok (.getfield 158, 3) := by decide +kernel
theorem dX4_closedFiles_10 : decode cX4_closedFiles 10 = .ok (.iconst 2, 1) := by decide +kernel
theorem dX4_closedFiles_11 : decode cX4_closedFiles 11 = .ok (.invokevirtual 169, 3) := by decide +kernel
theorem dX4_closedFiles_14 : decode cX4_closedFiles 14 = .ok (.ireturn, 1) := by decide +kernel
theorem dX4_reader_0 : decode cX4_reader 0 = .ok (.aload_n 0, 1) := by decide +kernel
theorem dX4_reader_1 : decode cX4_reader 1 = .ok (.getfield 10, 3) := by decide +kernel
theorem dX4_reader_4 : decode cX4_reader 4 = .ok (.getfield 59, 3) := by decide +kernel
theorem dX4_reader_7 : decode cX4_reader 7 = .ok (.ireturn, 1) := by decide +kernel
theorem dX4_minutesUntilChute_0 : decode cX4_minutesUntilChute 0 = .ok (.aload_n 0, 1) := by decide +kernel
theorem dX4_minutesUntilChute_1 : decode cX4_minutesUntilChute 1 = .ok (.iload_n 1, 1) := by decide +kernel
theorem dX4_minutesUntilChute_2 : decode cX4_minutesUntilChute 2 = .ok (.invokevirtual 95, 3) := by decide +kernel
theorem dX4_minutesUntilChute_5 : decode cX4_minutesUntilChute 5 = .ok (.aload_n 0, 1) := by decide +kernel
theorem dX4_minutesUntilChute_6 : decode cX4_minutesUntilChute 6 = .ok (.getfield 16, 3) := by decide +kernel
theorem dX4_minutesUntilChute_9 : decode cX4_minutesUntilChute 9 = .ok (.aload_n 0, 1) := by decide +kernel
theorem dX4_minutesUntilChute_10 : decode cX4_minutesUntilChute 10 = .ok (.getfield 10, 3) := by decide +kernel
theorem dX4_minutesUntilChute_13 : decode cX4_minutesUntilChute 13 = .ok (.invokevirtual 183, 3) := by decide +kernel
theorem dX4_minutesUntilChute_16 : decode cX4_minutesUntilChute 16 = .ok (.iconst 0, 1) := by decide +kernel
theorem dX4_minutesUntilChute_17 : decode cX4_minutesUntilChute 17 = .ok (.istore_n 2, 1) := by decide +kernel
theorem dX4_minutesUntilChute_18 : decode cX4_minutesUntilChute 18 = .ok (.iload_n 2, 1) := by decide +kernel
theorem dX4_minutesUntilChute_19 : decode cX4_minutesUntilChute 19 = .ok (.bipush 120, 2) := by decide +kernel
theorem dX4_minutesUntilChute_21 : decode cX4_minutesUntilChute 21 = .ok (.if_icmp .gt 37, 3) := by decide +kernel
theorem dX4_minutesUntilChute_24 : decode cX4_minutesUntilChute 24 = .ok (.aload_n 0, 1) := by decide +kernel
theorem dX4_minutesUntilChute_25 : decode cX4_minutesUntilChute 25 = .ok (.getfield 16, 3) := by decide +kernel
theorem dX4_minutesUntilChute_28 : decode cX4_minutesUntilChute 28 = .ok (.getfield 80, 3) := by decide +kernel
theorem dX4_minutesUntilChute_31 : decode cX4_minutesUntilChute 31 = .ok (.getfield 142, 3) := by decide +kernel
theorem dX4_minutesUntilChute_34 : decode cX4_minutesUntilChute 34 = .ok (.iload_n 1, 1) := by decide +kernel
theorem dX4_minutesUntilChute_35 : decode cX4_minutesUntilChute 35 = .ok (.invokevirtual 68, 3) := by decide +kernel
theorem dX4_minutesUntilChute_38 : decode cX4_minutesUntilChute 38 = .ok (.iconst 2, 1) := by decide +kernel
theorem dX4_minutesUntilChute_39 : decode cX4_minutesUntilChute 39 = .ok (.if_icmp .ne 5, 3) := by decide +kernel
theorem dX4_minutesUntilChute_42 : decode cX4_minutesUntilChute 42 = .ok (.iload_n 2, 1) := by decide +kernel
theorem dX4_minutesUntilChute_43 : decode cX4_minutesUntilChute 43 = .ok (.ireturn, 1) := by decide +kernel
theorem dX4_minutesUntilChute_44 : decode cX4_minutesUntilChute 44 = .ok (.aload_n 0, 1) := by decide +kernel
theorem dX4_minutesUntilChute_45 : decode cX4_minutesUntilChute 45 = .ok (.getfield 16, 3) := by decide +kernel
theorem dX4_minutesUntilChute_48 : decode cX4_minutesUntilChute 48 = .ok (.invokevirtual 187, 3) := by decide +kernel
theorem dX4_minutesUntilChute_51 : decode cX4_minutesUntilChute 51 = .ok (.pop, 1) := by decide +kernel
theorem dX4_minutesUntilChute_52 : decode cX4_minutesUntilChute 52 = .ok (.iinc 2 1, 3) := by decide +kernel
theorem dX4_minutesUntilChute_55 : decode cX4_minutesUntilChute 55 = .ok (.goto (-37), 3) := by decide +kernel
theorem dX4_minutesUntilChute_58 : decode cX4_minutesUntilChute 58 = .ok (.iconst (-1), 1) := by decide +kernel
theorem dX4_minutesUntilChute_59 : decode cX4_minutesUntilChute 59 = .ok (.ireturn, 1) := by decide +kernel
theorem dX4_readyAfter_0 : decode cX4_readyAfter 0 = .ok (.aload_n 0, 1) := by decide +kernel
theorem dX4_readyAfter_1 : decode cX4_readyAfter 1 = .ok (.iload_n 1, 1) := by decide +kernel
theorem dX4_readyAfter_2 : decode cX4_readyAfter 2 = .ok (.invokevirtual 40, 3) := by decide +kernel
theorem dX4_readyAfter_5 : decode cX4_readyAfter 5 = .ok (.iload_n 2, 1) := by decide +kernel
theorem dX4_readyAfter_6 : decode cX4_readyAfter 6 = .ok (.invokestatic 136, 3) := by decide +kernel
theorem dX4_readyAfter_9 : decode cX4_readyAfter 9 = .ok (.aload_n 0, 1) := by decide +kernel
theorem dX4_readyAfter_10 : decode cX4_readyAfter 10 = .ok (.iload_n 1, 1) := by decide +kernel
theorem dX4_readyAfter_11 : decode cX4_readyAfter 11 = .ok (.aload_n 0, 1) := by decide +kernel
theorem dX4_readyAfter_12 : decode cX4_readyAfter 12 = .ok (.getfield 10, 3) := by decide +kernel
theorem dX4_readyAfter_15 : decode cX4_readyAfter 15 = .ok (.getfield 19, 3) := by decide +kernel
theorem dX4_readyAfter_18 : decode cX4_readyAfter 18 = .ok (.getfield 104, 3) := by decide +kernel
theorem dX4_readyAfter_21 : decode cX4_readyAfter 21 = .ok (.iload_n 1, 1) := by decide +kernel
theorem dX4_readyAfter_22 : decode cX4_readyAfter 22 = .ok (.invokevirtual 68, 3) := by decide +kernel
theorem dX4_readyAfter_25 : decode cX4_readyAfter 25 = .ok (.iload_n 2, 1) := by decide +kernel
theorem dX4_readyAfter_26 : decode cX4_readyAfter 26 = .ok (.invokevirtual 190, 3) := by decide +kernel
theorem dX4_readyAfter_29 : decode cX4_readyAfter 29 = .ok (.ireturn, 1) := by decide +kernel
theorem dX4_bestChute_0 : decode cX4_bestChute 0 = .ok (.aload_n 0, 1) := by decide +kernel
theorem dX4_bestChute_1 : decode cX4_bestChute 1 = .ok (.iload_n 1, 1) := by decide +kernel
theorem dX4_bestChute_2 : decode cX4_bestChute 2 = .ok (.invokevirtual 40, 3) := by decide +kernel
theorem dX4_bestChute_5 : decode cX4_bestChute 5 = .ok (.iload_n 2, 1) := by decide +kernel
theorem dX4_bestChute_6 : decode cX4_bestChute 6 = .ok (.invokestatic 136, 3) := by decide +kernel
theorem dX4_bestChute_9 : decode cX4_bestChute 9 = .ok (.aload_n 0, 1) := by decide +kernel
theorem dX4_bestChute_10 : decode cX4_bestChute 10 = .ok (.iload_n 1, 1) := by decide +kernel
theorem dX4_bestChute_11 : decode cX4_bestChute 11 = .ok (.invokevirtual 47, 3) := by decide +kernel
theorem dX4_bestChute_14 : decode cX4_bestChute 14 = .ok (.iconst 0, 1) := by decide +kernel
theorem dX4_bestChute_15 : decode cX4_bestChute 15 = .ok (.istore_n 3, 1) := by decide +kernel
theorem dX4_bestChute_16 : decode cX4_bestChute 16 = .ok (.iconst (-1), 1) := by decide +kernel
theorem dX4_bestChute_17 : decode cX4_bestChute 17 = .ok (.istore 4, 2) := by decide +kernel
theorem dX4_bestChute_19 : decode cX4_bestChute 19 = .ok (.iconst 0, 1) := by decide +kernel
theorem dX4_bestChute_20 : decode cX4_bestChute 20 = .ok (.istore 5, 2) := by decide +kernel
theorem dX4_bestChute_22 : decode cX4_bestChute 22 = .ok (.iload 5, 2) := by decide +kernel
theorem dX4_bestChute_24 : decode cX4_bestChute 24 = .ok (.iconst 4, 1) := by decide +kernel
theorem dX4_bestChute_25 : decode cX4_bestChute 25 = .ok (.if_icmp .ge 33, 3) := by decide +kernel
theorem dX4_bestChute_28 : decode cX4_bestChute 28 = .ok (.aload_n 0, 1) := by decide +kernel
theorem dX4_bestChute_29 : decode cX4_bestChute 29 = .ok (.iload_n 1, 1) := by decide +kernel
theorem dX4_bestChute_30 : decode cX4_bestChute 30 = .ok (.iload 5, 2) := by decide +kernel
theorem dX4_bestChute_32 : decode cX4_bestChute 32 = .ok (.iload_n 2, 1) := by decide +kernel
theorem dX4_bestChute_33 : decode cX4_bestChute 33 = .ok (.invokevirtual 190, 3) := by decide +kernel
theorem dX4_bestChute_36 : decode cX4_bestChute 36 = .ok (.istore 6, 2) := by decide +kernel
theorem dX4_bestChute_38 : decode cX4_bestChute 38 = .ok (.iload 6, 2) := by decide +kernel
theorem dX4_bestChute_40 : decode cX4_bestChute 40 = .ok (.iload 4, 2) := by decide +kernel
theorem dX4_bestChute_42 : decode cX4_bestChute 42 = .ok (.if_icmp .le 10, 3) := by decide +kernel
theorem dX4_bestChute_45 : decode cX4_bestChute 45 = .ok (.iload 6, 2) := by decide +kernel
theorem dX4_bestChute_47 : decode cX4_bestChute 47 = .ok (.istore 4, 2) := by decide +kernel
theorem dX4_bestChute_49 : decode cX4_bestChute 49 = .ok (.iload 5, 2) := by decide +kernel
theorem dX4_bestChute_51 : decode cX4_bestChute 51 = .ok (.istore_n 3, 1) := by decide +kernel
theorem dX4_bestChute_52 : decode cX4_bestChute 52 = .ok (.iinc 5 1, 3) := by decide +kernel
theorem dX4_bestChute_55 : decode cX4_bestChute 55 = .ok (.goto (-33), 3) := by decide +kernel
theorem dX4_bestChute_58 : decode cX4_bestChute 58 = .ok (.iload_n 3, 1) := by decide +kernel
theorem dX4_bestChute_59 : decode cX4_bestChute 59 = .ok (.ireturn, 1) := by decide +kernel
theorem dX4_meanMisses_0 : decode cX4_meanMisses 0 = .ok (.aload_n 0, 1) := by decide +kernel
theorem dX4_meanMisses_1 : decode cX4_meanMisses 1 = .ok (.getfield 10, 3) := by decide +kernel
theorem dX4_meanMisses_4 : decode cX4_meanMisses 4 = .ok (.getfield 80, 3) := by decide +kernel
theorem dX4_meanMisses_7 : decode cX4_meanMisses 7 = .ok (.getfield 84, 3) := by decide +kernel
theorem dX4_meanMisses_10 : decode cX4_meanMisses 10 = .ok (.istore_n 1, 1) := by decide +kernel
theorem dX4_meanMisses_11 : decode cX4_meanMisses 11 = .ok (.iload_n 1, 1) := by decide +kernel
theorem dX4_meanMisses_12 : decode cX4_meanMisses 12 = .ok (.ifCond .le 23, 3) := by decide +kernel
theorem dX4_meanMisses_15 : decode cX4_meanMisses 15 = .ok (.aload_n 0, 1) := by decide +kernel
theorem dX4_meanMisses_16 : decode cX4_meanMisses 16 = .ok (.getfield 10, 3) := by decide +kernel
theorem dX4_meanMisses_19 : decode cX4_meanMisses 19 = .ok (.getfield 80, 3) := by decide +kernel
theorem dX4_meanMisses_22 : decode cX4_meanMisses 22 = .ok (.getfield 152, 3) := by decide +kernel
theorem dX4_meanMisses_25 : decode cX4_meanMisses 25 = .ok (.invokevirtual 193, 3) := by decide +kernel
theorem dX4_meanMisses_28 : decode cX4_meanMisses 28 = .ok (.i2d, 1) := by decide +kernel
theorem dX4_meanMisses_29 : decode cX4_meanMisses 29 = .ok (.iload_n 1, 1) := by decide +kernel
theorem dX4_meanMisses_30 : decode cX4_meanMisses 30 = .ok (.i2d, 1) := by decide +kernel
theorem dX4_meanMisses_31 : decode cX4_meanMisses 31 = .ok (.ddiv, 1) := by decide +kernel
theorem dX4_meanMisses_32 : decode cX4_meanMisses 32 = .ok (.goto 4, 3) := by decide +kernel
theorem dX4_meanMisses_35 : decode cX4_meanMisses 35 = .ok (.dconst 0, 1) := by decide +kernel
theorem dX4_meanMisses_36 : decode cX4_meanMisses 36 = .ok (.dreturn, 1) := by decide +kernel
theorem dX4_digest_0 : decode cX4_digest 0 = .ok (.aload_n 0, 1) := by decide +kernel
theorem dX4_digest_1 : decode cX4_digest 1 = .ok (.ldc2_w 196, 3) := by decide +kernel
theorem dX4_digest_4 : decode cX4_digest 4 = .ok (.invokevirtual 198, 3) := by decide +kernel
theorem dX4_digest_7 : decode cX4_digest 7 = .ok (.lstore_n 1, 1) := by decide +kernel
theorem dX4_digest_8 : decode cX4_digest 8 = .ok (.iconst 0, 1) := by decide +kernel
theorem dX4_digest_9 : decode cX4_digest 9 = .ok (.istore_n 3, 1) := by decide +kernel
theorem dX4_digest_10 : decode cX4_digest 10 = .ok (.iload_n 3, 1) := by decide +kernel
theorem dX4_digest_11 : decode cX4_digest 11 = .ok (.aload_n 0, 1) := by decide +kernel
theorem dX4_digest_12 : decode cX4_digest 12 = .ok (.getfield 10, 3) := by decide +kernel
theorem dX4_digest_15 : decode cX4_digest 15 = .ok (.getfield 80, 3) := by decide +kernel
theorem dX4_digest_18 : decode cX4_digest 18 = .ok (.getfield 84, 3) := by decide +kernel
theorem dX4_digest_21 : decode cX4_digest 21 = .ok (.if_icmp .ge 16, 3) := by decide +kernel
theorem dX4_digest_24 : decode cX4_digest 24 = .ok (.aload_n 0, 1) := by decide +kernel
theorem dX4_digest_25 : decode cX4_digest 25 = .ok (.lload_n 1, 1) := by decide +kernel
theorem dX4_digest_26 : decode cX4_digest 26 = .ok (.iload_n 3, 1) := by decide +kernel
theorem dX4_digest_27 : decode cX4_digest 27 = .ok (.invokevirtual 202, 3) := by decide +kernel
theorem dX4_digest_30 : decode cX4_digest 30 = .ok (.lstore_n 1, 1) := by decide +kernel
theorem dX4_digest_31 : decode cX4_digest 31 = .ok (.iinc 3 1, 3) := by decide +kernel
theorem dX4_digest_34 : decode cX4_digest 34 = .ok (.goto (-24), 3) := by decide +kernel
theorem dX4_digest_37 : decode cX4_digest 37 = .ok (.iconst 0, 1) := by decide +kernel
theorem dX4_digest_38 : decode cX4_digest 38 = .ok (.istore_n 3, 1) := by decide +kernel
theorem dX4_digest_39 : decode cX4_digest 39 = .ok (.iload_n 3, 1) := by decide +kernel
theorem dX4_digest_40 : decode cX4_digest 40 = .ok (.iconst 4, 1) := by decide +kernel
theorem dX4_digest_41 : decode cX4_digest 41 = .ok (.if_icmp .ge 16, 3) := by decide +kernel
theorem dX4_digest_44 : decode cX4_digest 44 = .ok (.aload_n 0, 1) := by decide +kernel
theorem dX4_digest_45 : decode cX4_digest 45 = .ok (.lload_n 1, 1) := by decide +kernel
theorem dX4_digest_46 : decode cX4_digest 46 = .ok (.iload_n 3, 1) := by decide +kernel
theorem dX4_digest_47 : decode cX4_digest 47 = .ok (.invokevirtual 206, 3) := by decide +kernel
theorem dX4_digest_50 : decode cX4_digest 50 = .ok (.lstore_n 1, 1) := by decide +kernel
theorem dX4_digest_51 : decode cX4_digest 51 = .ok (.iinc 3 1, 3) := by decide +kernel
theorem dX4_digest_54 : decode cX4_digest 54 = .ok (.goto (-15), 3) := by decide +kernel
theorem dX4_digest_57 : decode cX4_digest 57 = .ok (.iconst 0, 1) := by decide +kernel
theorem dX4_digest_58 : decode cX4_digest 58 = .ok (.istore_n 3, 1) := by decide +kernel
theorem dX4_digest_59 : decode cX4_digest 59 = .ok (.iload_n 3, 1) := by decide +kernel
theorem dX4_digest_60 : decode cX4_digest 60 = .ok (.aload_n 0, 1) := by decide +kernel
theorem dX4_digest_61 : decode cX4_digest 61 = .ok (.getfield 10, 3) := by decide +kernel
theorem dX4_digest_64 : decode cX4_digest 64 = .ok (.getfield 19, 3) := by decide +kernel
theorem dX4_digest_67 : decode cX4_digest 67 = .ok (.getfield 23, 3) := by decide +kernel
theorem dX4_digest_70 : decode cX4_digest 70 = .ok (.if_icmp .ge 16, 3) := by decide +kernel
theorem dX4_digest_73 : decode cX4_digest 73 = .ok (.aload_n 0, 1) := by decide +kernel
theorem dX4_digest_74 : decode cX4_digest 74 = .ok (.lload_n 1, 1) := by decide +kernel
theorem dX4_digest_75 : decode cX4_digest 75 = .ok (.iload_n 3, 1) := by decide +kernel
theorem dX4_digest_76 : decode cX4_digest 76 = .ok (.invokevirtual 209, 3) := by decide +kernel
theorem dX4_digest_79 : decode cX4_digest 79 = .ok (.lstore_n 1, 1) := by decide +kernel
theorem dX4_digest_80 : decode cX4_digest 80 = .ok (.iinc 3 1, 3) := by decide +kernel
theorem dX4_digest_83 : decode cX4_digest 83 = .ok (.goto (-24), 3) := by decide +kernel
theorem dX4_digest_86 : decode cX4_digest 86 = .ok (.lload_n 1, 1) := by decide +kernel
theorem dX4_digest_87 : decode cX4_digest 87 = .ok (.lreturn, 1) := by decide +kernel
theorem dX4_addHall_0 : decode cX4_addHall 0 = .ok (.lload_n 1, 1) := by decide +kernel
theorem dX4_addHall_1 : decode cX4_addHall 1 = .ok (.aload_n 0, 1) := by decide +kernel
theorem dX4_addHall_2 : decode cX4_addHall 2 = .ok (.getfield 10, 3) := by decide +kernel
theorem dX4_addHall_5 : decode cX4_addHall 5 = .ok (.getfield 180, 3) := by decide +kernel
theorem dX4_addHall_8 : decode cX4_addHall 8 = .ok (.i2l, 1) := by decide +kernel
theorem dX4_addHall_9 : decode cX4_addHall 9 = .ok (.invokestatic 212, 3) := by decide +kernel
theorem dX4_addHall_12 : decode cX4_addHall 12 = .ok (.lstore_n 3, 1) := by decide +kernel
theorem dX4_addHall_13 : decode cX4_addHall 13 = .ok (.lload_n 3, 1) := by decide +kernel
theorem dX4_addHall_14 : decode cX4_addHall 14 = .ok (.aload_n 0, 1) := by decide +kernel
theorem dX4_addHall_15 : decode cX4_addHall 15 = .ok (.getfield 10, 3) := by decide +kernel
theorem dX4_addHall_18 : decode cX4_addHall 18 = .ok (.getfield 19, 3) := by decide +kernel
theorem dX4_addHall_21 : decode cX4_addHall 21 = .ok (.getfield 23, 3) := by decide +kernel
theorem dX4_addHall_24 : decode cX4_addHall 24 = .ok (.i2l, 1) := by decide +kernel
theorem dX4_addHall_25 : decode cX4_addHall 25 = .ok (.invokestatic 212, 3) := by decide +kernel
theorem dX4_addHall_28 : decode cX4_addHall 28 = .ok (.lstore_n 3, 1) := by decide +kernel
theorem dX4_addHall_29 : decode cX4_addHall 29 = .ok (.lload_n 3, 1) := by decide +kernel
theorem dX4_addHall_30 : decode cX4_addHall 30 = .ok (.aload_n 0, 1) := by decide +kernel
theorem dX4_addHall_31 : decode cX4_addHall 31 = .ok (.getfield 10, 3) := by decide +kernel
theorem dX4_addHall_34 : decode cX4_addHall 34 = .ok (.getfield 80, 3) := by decide +kernel
theorem dX4_addHall_37 : decode cX4_addHall 37 = .ok (.getfield 84, 3) := by decide +kernel
theorem dX4_addHall_40 : decode cX4_addHall 40 = .ok (.i2l, 1) := by decide +kernel
theorem dX4_addHall_41 : decode cX4_addHall 41 = .ok (.invokestatic 212, 3) := by decide +kernel
theorem dX4_addHall_44 : decode cX4_addHall 44 = .ok (.lstore_n 3, 1) := by decide +kernel
theorem dX4_addHall_45 : decode cX4_addHall 45 = .ok (.lload_n 3, 1) := by decide +kernel
theorem dX4_addHall_46 : decode cX4_addHall 46 = .ok (.aload_n 0, 1) := by decide +kernel
theorem dX4_addHall_47 : decode cX4_addHall 47 = .ok (.getfield 10, 3) := by decide +kernel
theorem dX4_addHall_50 : decode cX4_addHall 50 = .ok (.getfield 80, 3) := by decide +kernel
theorem dX4_addHall_53 : decode cX4_addHall 53 = .ok (.getfield 142, 3) := by decide +kernel
theorem dX4_addHall_56 : decode cX4_addHall 56 = .ok (.iconst 0, 1) := by decide +kernel
theorem dX4_addHall_57 : decode cX4_addHall 57 = .ok (.invokevirtual 169, 3) := by decide +kernel
theorem dX4_addHall_60 : decode cX4_addHall 60 = .ok (.i2l, 1) := by decide +kernel
theorem dX4_addHall_61 : decode cX4_addHall 61 = .ok (.invokestatic 212, 3) := by decide +kernel
theorem dX4_addHall_64 : decode cX4_addHall 64 = .ok (.lstore_n 3, 1) := by decide +kernel
theorem dX4_addHall_65 : decode cX4_addHall 65 = .ok (.lload_n 3, 1) := by decide +kernel
theorem dX4_addHall_66 : decode cX4_addHall 66 = .ok (.aload_n 0, 1) := by decide +kernel
theorem dX4_addHall_67 : decode cX4_addHall 67 = .ok (.getfield 10, 3) := by decide +kernel
theorem dX4_addHall_70 : decode cX4_addHall 70 = .ok (.getfield 80, 3) := by decide +kernel
theorem dX4_addHall_73 : decode cX4_addHall 73 = .ok (.getfield 142, 3) := by decide +kernel
theorem dX4_addHall_76 : decode cX4_addHall 76 = .ok (.iconst 1, 1) := by decide +kernel
theorem dX4_addHall_77 : decode cX4_addHall 77 = .ok (.invokevirtual 169, 3) := by decide +kernel
theorem dX4_addHall_80 : decode cX4_addHall 80 = .ok (.i2l, 1) := by decide +kernel
theorem dX4_addHall_81 : decode cX4_addHall 81 = .ok (.invokestatic 212, 3) := by decide +kernel
theorem dX4_addHall_84 : decode cX4_addHall 84 = .ok (.lstore_n 3, 1) := by decide +kernel
theorem dX4_addHall_85 : decode cX4_addHall 85 = .ok (.lload_n 3, 1) := by decide +kernel
theorem dX4_addHall_86 : decode cX4_addHall 86 = .ok (.aload_n 0, 1) := by decide +kernel
theorem dX4_addHall_87 : decode cX4_addHall 87 = .ok (.getfield 10, 3) := by decide +kernel
theorem dX4_addHall_90 : decode cX4_addHall 90 = .ok (.getfield 80, 3) := by decide +kernel
theorem dX4_addHall_93 : decode cX4_addHall 93 = .ok (.getfield 142, 3) := by decide +kernel
theorem dX4_addHall_96 : decode cX4_addHall 96 = .ok (.iconst 3, 1) := by decide +kernel
theorem dX4_addHall_97 : decode cX4_addHall 97 = .ok (.invokevirtual 169, 3) := by decide +kernel
theorem dX4_addHall_100 : decode cX4_addHall 100 = .ok (.i2l, 1) := by decide +kernel
theorem dX4_addHall_101 : decode cX4_addHall 101 = .ok (.invokestatic 212, 3) := by decide +kernel
theorem dX4_addHall_104 : decode cX4_addHall 104 = .ok (.lstore_n 3, 1) := by decide +kernel
theorem dX4_addHall_105 : decode cX4_addHall 105 = .ok (.lload_n 3, 1) := by decide +kernel
theorem dX4_addHall_106 : decode cX4_addHall 106 = .ok (.aload_n 0, 1) := by decide +kernel
theorem dX4_addHall_107 : decode cX4_addHall 107 = .ok (.getfield 10, 3) := by decide +kernel
theorem dX4_addHall_110 : decode cX4_addHall 110 = .ok (.getfield 80, 3) := by decide +kernel
theorem dX4_addHall_113 : decode cX4_addHall 113 = .ok (.getfield 158, 3) := by decide +kernel
theorem dX4_addHall_116 : decode cX4_addHall 116 = .ok (.iconst 1, 1) := by decide +kernel
theorem dX4_addHall_117 : decode cX4_addHall 117 = .ok (.invokevirtual 169, 3) := by decide +kernel
theorem dX4_addHall_120 : decode cX4_addHall 120 = .ok (.i2l, 1) := by decide +kernel
theorem dX4_addHall_121 : decode cX4_addHall 121 = .ok (.invokestatic 212, 3) := by decide +kernel
theorem dX4_addHall_124 : decode cX4_addHall 124 = .ok (.lstore_n 3, 1) := by decide +kernel
theorem dX4_addHall_125 : decode cX4_addHall 125 = .ok (.lload_n 3, 1) := by decide +kernel
theorem dX4_addHall_126 : decode cX4_addHall 126 = .ok (.aload_n 0, 1) := by decide +kernel
theorem dX4_addHall_127 : decode cX4_addHall 127 = .ok (.getfield 10, 3) := by decide +kernel
theorem dX4_addHall_130 : decode cX4_addHall 130 = .ok (.getfield 80, 3) := by decide +kernel
theorem dX4_addHall_133 : decode cX4_addHall 133 = .ok (.getfield 158, 3) := by decide +kernel
theorem dX4_addHall_136 : decode cX4_addHall 136 = .ok (.iconst 2, 1) := by decide +kernel
theorem dX4_addHall_137 : decode cX4_addHall 137 = .ok (.invokevirtual 169, 3) := by decide +kernel
theorem dX4_addHall_140 : decode cX4_addHall 140 = .ok (.i2l, 1) := by decide +kernel
theorem dX4_addHall_141 : decode cX4_addHall 141 = .ok (.invokestatic 212, 3) := by decide +kernel
theorem dX4_addHall_144 : decode cX4_addHall 144 = .ok (.lstore_n 3, 1) := by decide +kernel
theorem dX4_addHall_145 : decode cX4_addHall 145 = .ok (.lload_n 3, 1) := by decide +kernel
theorem dX4_addHall_146 : decode cX4_addHall 146 = .ok (.aload_n 0, 1) := by decide +kernel
theorem dX4_addHall_147 : decode cX4_addHall 147 = .ok (.getfield 10, 3) := by decide +kernel
theorem dX4_addHall_150 : decode cX4_addHall 150 = .ok (.getfield 59, 3) := by decide +kernel
theorem dX4_addHall_153 : decode cX4_addHall 153 = .ok (.i2l, 1) := by decide +kernel
theorem dX4_addHall_154 : decode cX4_addHall 154 = .ok (.invokestatic 212, 3) := by decide +kernel
theorem dX4_addHall_157 : decode cX4_addHall 157 = .ok (.lreturn, 1) := by decide +kernel
theorem dX4_addBag_0 : decode cX4_addBag 0 = .ok (.lload_n 1, 1) := by decide +kernel
theorem dX4_addBag_1 : decode cX4_addBag 1 = .ok (.aload_n 0, 1) := by decide +kernel
theorem dX4_addBag_2 : decode cX4_addBag 2 = .ok (.getfield 10, 3) := by decide +kernel
theorem dX4_addBag_5 : decode cX4_addBag 5 = .ok (.getfield 80, 3) := by decide +kernel
theorem dX4_addBag_8 : decode cX4_addBag 8 = .ok (.getfield 101, 3) := by decide +kernel
theorem dX4_addBag_11 : decode cX4_addBag 11 = .ok (.iload_n 3, 1) := by decide +kernel
theorem dX4_addBag_12 : decode cX4_addBag 12 = .ok (.invokevirtual 68, 3) := by decide +kernel
theorem dX4_addBag_15 : decode cX4_addBag 15 = .ok (.i2l, 1) := by decide +kernel
theorem dX4_addBag_16 : decode cX4_addBag 16 = .ok (.invokestatic 212, 3) := by decide +kernel
theorem dX4_addBag_19 : decode cX4_addBag 19 = .ok (.lstore 4, 2) := by decide +kernel
theorem dX4_addBag_21 : decode cX4_addBag 21 = .ok (.lload 4, 2) := by decide +kernel
theorem dX4_addBag_23 : decode cX4_addBag 23 = .ok (.aload_n 0, 1) := by decide +kernel
theorem dX4_addBag_24 : decode cX4_addBag 24 = .ok (.getfield 10, 3) := by decide +kernel
theorem dX4_addBag_27 : decode cX4_addBag 27 = .ok (.getfield 80, 3) := by decide +kernel
theorem dX4_addBag_30 : decode cX4_addBag 30 = .ok (.getfield 142, 3) := by decide +kernel
theorem dX4_addBag_33 : decode cX4_addBag 33 = .ok (.iload_n 3, 1) := by decide +kernel
theorem dX4_addBag_34 : decode cX4_addBag 34 = .ok (.invokevirtual 68, 3) := by decide +kernel
theorem dX4_addBag_37 : decode cX4_addBag 37 = .ok (.i2l, 1) := by decide +kernel
theorem dX4_addBag_38 : decode cX4_addBag 38 = .ok (.invokestatic 212, 3) := by decide +kernel
theorem dX4_addBag_41 : decode cX4_addBag 41 = .ok (.lstore 4, 2) := by decide +kernel
theorem dX4_addBag_43 : decode cX4_addBag 43 = .ok (.lload 4, 2) := by decide +kernel
theorem dX4_addBag_45 : decode cX4_addBag 45 = .ok (.aload_n 0, 1) := by decide +kernel
theorem dX4_addBag_46 : decode cX4_addBag 46 = .ok (.getfield 10, 3) := by decide +kernel
theorem dX4_addBag_49 : decode cX4_addBag 49 = .ok (.iload_n 3, 1) := by decide +kernel
theorem dX4_addBag_50 : decode cX4_addBag 50 = .ok (.invokevirtual 145, 3) := by decide +kernel
theorem dX4_addBag_53 : decode cX4_addBag 53 = .ok (.i2l, 1) := by decide +kernel
theorem dX4_addBag_54 : decode cX4_addBag 54 = .ok (.invokestatic 212, 3) := by decide +kernel
theorem dX4_addBag_57 : decode cX4_addBag 57 = .ok (.lstore 4, 2) := by decide +kernel
theorem dX4_addBag_59 : decode cX4_addBag 59 = .ok (.lload 4, 2) := by decide +kernel
theorem dX4_addBag_61 : decode cX4_addBag 61 = .ok (.aload_n 0, 1) := by decide +kernel
theorem dX4_addBag_62 : decode cX4_addBag 62 = .ok (.getfield 10, 3) := by decide +kernel
theorem dX4_addBag_65 : decode cX4_addBag 65 = .ok (.getfield 80, 3) := by decide +kernel
theorem dX4_addBag_68 : decode cX4_addBag 68 = .ok (.getfield 148, 3) := by decide +kernel
theorem dX4_addBag_71 : decode cX4_addBag 71 = .ok (.iload_n 3, 1) := by decide +kernel
theorem dX4_addBag_72 : decode cX4_addBag 72 = .ok (.invokevirtual 68, 3) := by decide +kernel
theorem dX4_addBag_75 : decode cX4_addBag 75 = .ok (.i2l, 1) := by decide +kernel
theorem dX4_addBag_76 : decode cX4_addBag 76 = .ok (.invokestatic 212, 3) := by decide +kernel
theorem dX4_addBag_79 : decode cX4_addBag 79 = .ok (.lstore 4, 2) := by decide +kernel
theorem dX4_addBag_81 : decode cX4_addBag 81 = .ok (.lload 4, 2) := by decide +kernel
theorem dX4_addBag_83 : decode cX4_addBag 83 = .ok (.aload_n 0, 1) := by decide +kernel
theorem dX4_addBag_84 : decode cX4_addBag 84 = .ok (.getfield 10, 3) := by decide +kernel
theorem dX4_addBag_87 : decode cX4_addBag 87 = .ok (.getfield 80, 3) := by decide +kernel
theorem dX4_addBag_90 : decode cX4_addBag 90 = .ok (.getfield 149, 3) := by decide +kernel
theorem dX4_addBag_93 : decode cX4_addBag 93 = .ok (.iload_n 3, 1) := by decide +kernel
theorem dX4_addBag_94 : decode cX4_addBag 94 = .ok (.invokevirtual 68, 3) := by decide +kernel
theorem dX4_addBag_97 : decode cX4_addBag 97 = .ok (.i2l, 1) := by decide +kernel
theorem dX4_addBag_98 : decode cX4_addBag 98 = .ok (.invokestatic 212, 3) := by decide +kernel
theorem dX4_addBag_101 : decode cX4_addBag 101 = .ok (.lstore 4, 2) := by decide +kernel
theorem dX4_addBag_103 : decode cX4_addBag 103 = .ok (.lload 4, 2) := by decide +kernel
theorem dX4_addBag_105 : decode cX4_addBag 105 = .ok (.aload_n 0, 1) := by decide +kernel
theorem dX4_addBag_106 : decode cX4_addBag 106 = .ok (.getfield 10, 3) := by decide +kernel
theorem dX4_addBag_109 : decode cX4_addBag 109 = .ok (.getfield 80, 3) := by decide +kernel
theorem dX4_addBag_112 : decode cX4_addBag 112 = .ok (.getfield 152, 3) := by decide +kernel
theorem dX4_addBag_115 : decode cX4_addBag 115 = .ok (.iload_n 3, 1) := by decide +kernel
theorem dX4_addBag_116 : decode cX4_addBag 116 = .ok (.invokevirtual 68, 3) := by decide +kernel
theorem dX4_addBag_119 : decode cX4_addBag 119 = .ok (.i2l, 1) := by decide +kernel
theorem dX4_addBag_120 : decode cX4_addBag 120 = .ok (.invokestatic 212, 3) := by decide +kernel
theorem dX4_addBag_123 : decode cX4_addBag 123 = .ok (.lstore 4, 2) := by decide +kernel
theorem dX4_addBag_125 : decode cX4_addBag 125 = .ok (.lload 4, 2) := by decide +kernel
theorem dX4_addBag_127 : decode cX4_addBag 127 = .ok (.aload_n 0, 1) := by decide +kernel
theorem dX4_addBag_128 : decode cX4_addBag 128 = .ok (.getfield 10, 3) := by decide +kernel
theorem dX4_addBag_131 : decode cX4_addBag 131 = .ok (.iload_n 3, 1) := by decide +kernel
theorem dX4_addBag_132 : decode cX4_addBag 132 = .ok (.invokevirtual 155, 3) := by decide +kernel
theorem dX4_addBag_135 : decode cX4_addBag 135 = .ok (.ifCond .eq 7, 3) := by decide +kernel
theorem dX4_addBag_138 : decode cX4_addBag 138 = .ok (.lconst 1, 1) := by decide +kernel
theorem dX4_addBag_139 : decode cX4_addBag 139 = .ok (.goto 4, 3) := by decide +kernel
theorem dX4_addBag_142 : decode cX4_addBag 142 = .ok (.lconst 0, 1) := by decide +kernel
theorem dX4_addBag_143 : decode cX4_addBag 143 = .ok (.invokestatic 212, 3) := by decide +kernel
theorem dX4_addBag_146 : decode cX4_addBag 146 = .ok (.lstore 4, 2) := by decide +kernel
theorem dX4_addBag_148 : decode cX4_addBag 148 = .ok (.lload 4, 2) := by decide +kernel
theorem dX4_addBag_150 : decode cX4_addBag 150 = .ok (.aload_n 0, 1) := by decide +kernel
theorem dX4_addBag_151 : decode cX4_addBag 151 = .ok (.getfield 10, 3) := by decide +kernel
theorem dX4_addBag_154 : decode cX4_addBag 154 = .ok (.getfield 80, 3) := by decide +kernel
theorem dX4_addBag_157 : decode cX4_addBag 157 = .ok (.getfield 158, 3) := by decide +kernel
theorem dX4_addBag_160 : decode cX4_addBag 160 = .ok (.iload_n 3, 1) := by decide +kernel
theorem dX4_addBag_161 : decode cX4_addBag 161 = .ok (.invokevirtual 68, 3) := by decide +kernel
theorem dX4_addBag_164 : decode cX4_addBag 164 = .ok (.iconst 1, 1) := by decide +kernel
theorem dX4_addBag_165 : decode cX4_addBag 165 = .ok (.if_icmp .ne 7, 3) := by decide +kernel
theorem dX4_addBag_168 : decode cX4_addBag 168 = .ok (.lconst 1, 1) := by decide +kernel
theorem dX4_addBag_169 : decode cX4_addBag 169 = .ok (.goto 4, 3) := by decide +kernel
theorem dX4_addBag_172 : decode cX4_addBag 172 = .ok (.lconst 0, 1) := by decide +kernel
theorem dX4_addBag_173 : decode cX4_addBag 173 = .ok (.invokestatic 212, 3) := by decide +kernel
theorem dX4_addBag_176 : decode cX4_addBag 176 = .ok (.lreturn, 1) := by decide +kernel
theorem dX4_addChute_0 : decode cX4_addChute 0 = .ok (.lload_n 1, 1) := by decide +kernel
theorem dX4_addChute_1 : decode cX4_addChute 1 = .ok (.aload_n 0, 1) := by decide +kernel
theorem dX4_addChute_2 : decode cX4_addChute 2 = .ok (.getfield 10, 3) := by decide +kernel
theorem dX4_addChute_5 : decode cX4_addChute 5 = .ok (.getfield 80, 3) := by decide +kernel
theorem dX4_addChute_8 : decode cX4_addChute 8 = .ok (.getfield 148, 3) := by decide +kernel
theorem dX4_addChute_11 : decode cX4_addChute 11 = .ok (.iload_n 3, 1) := by decide +kernel
theorem dX4_addChute_12 : decode cX4_addChute 12 = .ok (.invokevirtual 169, 3) := by decide +kernel
theorem dX4_addChute_15 : decode cX4_addChute 15 = .ok (.i2l, 1) := by decide +kernel
theorem dX4_addChute_16 : decode cX4_addChute 16 = .ok (.invokestatic 212, 3) := by decide +kernel
theorem dX4_addChute_19 : decode cX4_addChute 19 = .ok (.lstore 4, 2) := by decide +kernel
theorem dX4_addChute_21 : decode cX4_addChute 21 = .ok (.lload 4, 2) := by decide +kernel
theorem dX4_addChute_23 : decode cX4_addChute 23 = .ok (.aload_n 0, 1) := by decide +kernel
theorem dX4_addChute_24 : decode cX4_addChute 24 = .ok (.getfield 10, 3) := by decide +kernel
theorem dX4_addChute_27 : decode cX4_addChute 27 = .ok (.iload_n 3, 1) := by decide +kernel
theorem dX4_addChute_28 : decode cX4_addChute 28 = .ok (.invokevirtual 171, 3) := by decide +kernel
theorem dX4_addChute_31 : decode cX4_addChute 31 = .ok (.i2l, 1) := by decide +kernel
theorem dX4_addChute_32 : decode cX4_addChute 32 = .ok (.invokestatic 212, 3) := by decide +kernel
theorem dX4_addChute_35 : decode cX4_addChute 35 = .ok (.lstore 4, 2) := by decide +kernel
theorem dX4_addChute_37 : decode cX4_addChute 37 = .ok (.lload 4, 2) := by decide +kernel
theorem dX4_addChute_39 : decode cX4_addChute 39 = .ok (.aload_n 0, 1) := by decide +kernel
theorem dX4_addChute_40 : decode cX4_addChute 40 = .ok (.getfield 10, 3) := by decide +kernel
theorem dX4_addChute_43 : decode cX4_addChute 43 = .ok (.getfield 64, 3) := by decide +kernel
theorem dX4_addChute_46 : decode cX4_addChute 46 = .ok (.iload_n 3, 1) := by decide +kernel
theorem dX4_addChute_47 : decode cX4_addChute 47 = .ok (.invokevirtual 68, 3) := by decide +kernel
theorem dX4_addChute_50 : decode cX4_addChute 50 = .ok (.i2l, 1) := by decide +kernel
theorem dX4_addChute_51 : decode cX4_addChute 51 = .ok (.invokestatic 212, 3) := by decide +kernel
theorem dX4_addChute_54 : decode cX4_addChute 54 = .ok (.lreturn, 1) := by decide +kernel
theorem dX4_addOfFlight_0 : decode cX4_addOfFlight 0 = .ok (.lload_n 1, 1) := by decide +kernel
theorem dX4_addOfFlight_1 : decode cX4_addOfFlight 1 = .ok (.aload_n 0, 1) := by decide +kernel
theorem dX4_addOfFlight_2 : decode cX4_addOfFlight 2 = .ok (.getfield 10, 3) := by decide +kernel
theorem dX4_addOfFlight_5 : decode cX4_addOfFlight 5 = .ok (.getfield 19, 3) := by decide +kernel
theorem dX4_addOfFlight_8 : decode cX4_addOfFlight 8 = .ok (.getfield 104, 3) := by decide +kernel
theorem dX4_addOfFlight_11 : decode cX4_addOfFlight 11 = .ok (.iload_n 3, 1) := by decide +kernel
theorem dX4_addOfFlight_12 : decode cX4_addOfFlight 12 = .ok (.invokevirtual 68, 3) := by decide +kernel
theorem dX4_addOfFlight_15 : decode cX4_addOfFlight 15 = .ok (.i2l, 1) := by decide +kernel
theorem dX4_addOfFlight_16 : decode cX4_addOfFlight 16 = .ok (.invokestatic 212, 3) := by decide +kernel
theorem dX4_addOfFlight_19 : decode cX4_addOfFlight 19 = .ok (.lstore 4, 2) := by decide +kernel
theorem dX4_addOfFlight_21 : decode cX4_addOfFlight 21 = .ok (.lload 4, 2) := by decide +kernel
theorem dX4_addOfFlight_23 : decode cX4_addOfFlight 23 = .ok (.aload_n 0, 1) := by decide +kernel
theorem dX4_addOfFlight_24 : decode cX4_addOfFlight 24 = .ok (.getfield 10, 3) := by decide +kernel
theorem dX4_addOfFlight_27 : decode cX4_addOfFlight 27 = .ok (.getfield 19, 3) := by decide +kernel
theorem dX4_addOfFlight_30 : decode cX4_addOfFlight 30 = .ok (.iload_n 3, 1) := by decide +kernel
theorem dX4_addOfFlight_31 : decode cX4_addOfFlight 31 = .ok (.invokevirtual 119, 3) := by decide +kernel
theorem dX4_addOfFlight_34 : decode cX4_addOfFlight 34 = .ok (.ifCond .eq 7, 3) := by decide +kernel
theorem dX4_addOfFlight_37 : decode cX4_addOfFlight 37 = .ok (.lconst 1, 1) := by decide +kernel
theorem dX4_addOfFlight_38 : decode cX4_addOfFlight 38 = .ok (.goto 4, 3) := by decide +kernel
theorem dX4_addOfFlight_41 : decode cX4_addOfFlight 41 = .ok (.lconst 0, 1) := by decide +kernel
theorem dX4_addOfFlight_42 : decode cX4_addOfFlight 42 = .ok (.invokestatic 212, 3) := by decide +kernel
theorem dX4_addOfFlight_45 : decode cX4_addOfFlight 45 = .ok (.lstore 4, 2) := by decide +kernel
theorem dX4_addOfFlight_47 : decode cX4_addOfFlight 47 = .ok (.lload 4, 2) := by decide +kernel
theorem dX4_addOfFlight_49 : decode cX4_addOfFlight 49 = .ok (.aload_n 0, 1) := by decide +kernel
theorem dX4_addOfFlight_50 : decode cX4_addOfFlight 50 = .ok (.getfield 10, 3) := by decide +kernel
theorem dX4_addOfFlight_53 : decode cX4_addOfFlight 53 = .ok (.iload_n 3, 1) := by decide +kernel
theorem dX4_addOfFlight_54 : decode cX4_addOfFlight 54 = .ok (.invokevirtual 174, 3) := by decide +kernel
theorem dX4_addOfFlight_57 : decode cX4_addOfFlight 57 = .ok (.i2l, 1) := by decide +kernel
theorem dX4_addOfFlight_58 : decode cX4_addOfFlight 58 = .ok (.invokestatic 212, 3) := by decide +kernel
theorem dX4_addOfFlight_61 : decode cX4_addOfFlight 61 = .ok (.lstore 4, 2) := by decide +kernel
theorem dX4_addOfFlight_63 : decode cX4_addOfFlight 63 = .ok (.lload 4, 2) := by decide +kernel
theorem dX4_addOfFlight_65 : decode cX4_addOfFlight 65 = .ok (.aload_n 0, 1) := by decide +kernel
theorem dX4_addOfFlight_66 : decode cX4_addOfFlight 66 = .ok (.getfield 10, 3) := by decide +kernel
theorem dX4_addOfFlight_69 : decode cX4_addOfFlight 69 = .ok (.iload_n 3, 1) := by decide +kernel
theorem dX4_addOfFlight_70 : decode cX4_addOfFlight 70 = .ok (.invokevirtual 177, 3) := by decide +kernel
theorem dX4_addOfFlight_73 : decode cX4_addOfFlight 73 = .ok (.i2l, 1) := by decide +kernel
theorem dX4_addOfFlight_74 : decode cX4_addOfFlight 74 = .ok (.invokestatic 212, 3) := by decide +kernel
theorem dX4_addOfFlight_77 : decode cX4_addOfFlight 77 = .ok (.lreturn, 1) := by decide +kernel
theorem dX4_addNumber_0 : decode cX4_addNumber 0 = .ok (.lload_n 0, 1) := by decide +kernel
theorem dX4_addNumber_1 : decode cX4_addNumber 1 = .ok (.ldc2_w 216, 3) := by decide +kernel
theorem dX4_addNumber_4 : decode cX4_addNumber 4 = .ok (.lmul, 1) := by decide +kernel
theorem dX4_addNumber_5 : decode cX4_addNumber 5 = .ok (.lload_n 2, 1) := by decide +kernel
theorem dX4_addNumber_6 : decode cX4_addNumber 6 = .ok (.ladd, 1) := by decide +kernel
theorem dX4_addNumber_7 : decode cX4_addNumber 7 = .ok (.lreturn, 1) := by decide +kernel
theorem dX4_needBag_0 : decode cX4_needBag 0 = .ok (.iload_n 1, 1) := by decide +kernel
theorem dX4_needBag_1 : decode cX4_needBag 1 = .ok (.ifCond .lt 17, 3) := by decide +kernel
theorem dX4_needBag_4 : decode cX4_needBag 4 = .ok (.iload_n 1, 1) := by decide +kernel
theorem dX4_needBag_5 : decode cX4_needBag 5 = .ok (.aload_n 0, 1) := by decide +kernel
theorem dX4_needBag_6 : decode cX4_needBag 6 = .ok (.getfield 10, 3) := by decide +kernel
theorem dX4_needBag_9 : decode cX4_needBag 9 = .ok (.getfield 80, 3) := by decide +kernel
theorem dX4_needBag_12 : decode cX4_needBag 12 = .ok (.getfield 84, 3) := by decide +kernel
theorem dX4_needBag_15 : decode cX4_needBag 15 = .ok (.if_icmp .lt 13, 3) := by decide +kernel
theorem dX4_needBag_18 : decode cX4_needBag 18 = .ok (.new 161, 3) := by decide +kernel
theorem dX4_needBag_21 : decode cX4_needBag 21 = .ok (.dup, 1) := by decide +kernel
theorem dX4_needBag_22 : decode cX4_needBag 22 = .ok (.ldc 218, 2) := by decide +kernel
theorem dX4_needBag_24 : decode cX4_needBag 24 = .ok (.invokespecial 165, 3) := by decide +kernel
theorem dX4_needBag_27 : decode cX4_needBag 27 = .ok (.athrow, 1) := by decide +kernel
theorem dX4_needBag_28 : decode cX4_needBag 28 = .ok (.return_, 1) := by decide +kernel
theorem dX4_needFlight_0 : decode cX4_needFlight 0 = .ok (.iload_n 1, 1) := by decide +kernel
theorem dX4_needFlight_1 : decode cX4_needFlight 1 = .ok (.ifCond .lt 17, 3) := by decide +kernel
theorem dX4_needFlight_4 : decode cX4_needFlight 4 = .ok (.iload_n 1, 1) := by decide +kernel
theorem dX4_needFlight_5 : decode cX4_needFlight 5 = .ok (.aload_n 0, 1) := by decide +kernel
theorem dX4_needFlight_6 : decode cX4_needFlight 6 = .ok (.getfield 10, 3) := by decide +kernel
theorem dX4_needFlight_9 : decode cX4_needFlight 9 = .ok (.getfield 19, 3) := by decide +kernel
theorem dX4_needFlight_12 : decode cX4_needFlight 12 = .ok (.getfield 23, 3) := by decide +kernel
theorem dX4_needFlight_15 : decode cX4_needFlight 15 = .ok (.if_icmp .lt 13, 3) := by decide +kernel
theorem dX4_needFlight_18 : decode cX4_needFlight 18 = .ok (.new 161, 3) := by decide +kernel
theorem dX4_needFlight_21 : decode cX4_needFlight 21 = .ok (.dup, 1) := by decide +kernel
theorem dX4_needFlight_22 : decode cX4_needFlight 22 = .ok (.ldc 220, 2) := by decide +kernel
theorem dX4_needFlight_24 : decode cX4_needFlight 24 = .ok (.invokespecial 165, 3) := by decide +kernel
theorem dX4_needFlight_27 : decode cX4_needFlight 27 = .ok (.athrow, 1) := by decide +kernel
theorem dX4_needFlight_28 : decode cX4_needFlight 28 = .ok (.return_, 1) := by decide +kernel
theorem dX4_needChute_0 : decode cX4_needChute 0 = .ok (.iload_n 0, 1) := by decide +kernel
theorem dX4_needChute_1 : decode cX4_needChute 1 = .ok (.invokestatic 107, 3) := by decide +kernel
theorem dX4_needChute_4 : decode cX4_needChute 4 = .ok (.ifCond .ne 13, 3) := by decide +kernel
theorem dX4_needChute_7 : decode cX4_needChute 7 = .ok (.new 161, 3) := by decide +kernel
theorem dX4_needChute_10 : decode cX4_needChute 10 = .ok (.dup, 1) := by decide +kernel
theorem dX4_needChute_11 : decode cX4_needChute 11 = .ok (.ldc 222, 2) := by decide +kernel
theorem dX4_needChute_13 : decode cX4_needChute 13 = .ok (.invokespecial 165, 3) := by decide +kernel
theorem dX4_needChute_16 : decode cX4_needChute 16 = .ok (.athrow, 1) := by decide +kernel
theorem dX4_needChute_17 : decode cX4_needChute 17 = .ok (.return_, 1) := by decide +kernel
theorem dX4_needMinutes_0 : decode cX4_needMinutes 0 = .ok (.iload_n 0, 1) := by decide +kernel
theorem dX4_needMinutes_1 : decode cX4_needMinutes 1 = .ok (.iconst 1, 1) := by decide +kernel
theorem dX4_needMinutes_2 : decode cX4_needMinutes 2 = .ok (.if_icmp .lt 9, 3) := by decide +kernel
theorem dX4_needMinutes_5 : decode cX4_needMinutes 5 = .ok (.iload_n 0, 1) := by decide +kernel
theorem dX4_needMinutes_6 : decode cX4_needMinutes 6 = .ok (.bipush 60, 2) := by decide +kernel
theorem dX4_needMinutes_8 : decode cX4_needMinutes 8 = .ok (.if_icmp .le 13, 3) := by decide +kernel
theorem dX4_needMinutes_11 : decode cX4_needMinutes 11 = .ok (.new 54, 3) := by decide +kernel
theorem dX4_needMinutes_14 : decode cX4_needMinutes 14 = .ok (.dup, 1) := by decide +kernel
theorem dX4_needMinutes_15 : decode cX4_needMinutes 15 = .ok (.ldc 224, 2) := by decide +kernel
theorem dX4_needMinutes_17 : decode cX4_needMinutes 17 = .ok (.invokespecial 58, 3) := by decide +kernel
theorem dX4_needMinutes_20 : decode cX4_needMinutes 20 = .ok (.athrow, 1) := by decide +kernel
theorem dX4_needMinutes_21 : decode cX4_needMinutes 21 = .ok (.return_, 1) := by decide +kernel
theorem dX4_needNotGone_0 : decode cX4_needNotGone 0 = .ok (.aload_n 0, 1) := by decide +kernel
theorem dX4_needNotGone_1 : decode cX4_needNotGone 1 = .ok (.getfield 10, 3) := by decide +kernel
theorem dX4_needNotGone_4 : decode cX4_needNotGone 4 = .ok (.getfield 19, 3) := by decide +kernel
theorem dX4_needNotGone_7 : decode cX4_needNotGone 7 = .ok (.iload_n 1, 1) := by decide +kernel
theorem dX4_needNotGone_8 : decode cX4_needNotGone 8 = .ok (.invokevirtual 119, 3) := by decide +kernel
theorem dX4_needNotGone_11 : decode cX4_needNotGone 11 = .ok (.ifCond .eq 13, 3) := by decide +kernel
theorem dX4_needNotGone_14 : decode cX4_needNotGone 14 = .ok (.new 29, 3) := by decide +kernel
theorem dX4_needNotGone_17 : decode cX4_needNotGone 17 = .ok (.dup, 1) := by decide +kernel
theorem dX4_needNotGone_18 : decode cX4_needNotGone 18 = .ok (.ldc 226, 2) := by decide +kernel
theorem dX4_needNotGone_20 : decode cX4_needNotGone 20 = .ok (.invokespecial 33, 3) := by decide +kernel
theorem dX4_needNotGone_23 : decode cX4_needNotGone 23 = .ok (.athrow, 1) := by decide +kernel
theorem dX4_needNotGone_24 : decode cX4_needNotGone 24 = .ok (.return_, 1) := by decide +kernel
theorem dX4_needInHand_0 : decode cX4_needInHand 0 = .ok (.aload_n 0, 1) := by decide +kernel
theorem dX4_needInHand_1 : decode cX4_needInHand 1 = .ok (.getfield 10, 3) := by decide +kernel
theorem dX4_needInHand_4 : decode cX4_needInHand 4 = .ok (.getfield 80, 3) := by decide +kernel
theorem dX4_needInHand_7 : decode cX4_needInHand 7 = .ok (.getfield 142, 3) := by decide +kernel
theorem dX4_needInHand_10 : decode cX4_needInHand 10 = .ok (.iload_n 1, 1) := by decide +kernel
theorem dX4_needInHand_11 : decode cX4_needInHand 11 = .ok (.invokevirtual 68, 3) := by decide +kernel
theorem dX4_needInHand_14 : decode cX4_needInHand 14 = .ok (.istore_n 2, 1) := by decide +kernel
theorem dX4_needInHand_15 : decode cX4_needInHand 15 = .ok (.iload_n 2, 1) := by decide +kernel
theorem dX4_needInHand_16 : decode cX4_needInHand 16 = .ok (.iconst 3, 1) := by decide +kernel
theorem dX4_needInHand_17 : decode cX4_needInHand 17 = .ok (.if_icmp .eq 18, 3) := by decide +kernel
theorem dX4_needInHand_20 : decode cX4_needInHand 20 = .ok (.iload_n 2, 1) := by decide +kernel
theorem dX4_needInHand_21 : decode cX4_needInHand 21 = .ok (.iconst 4, 1) := by decide +kernel
theorem dX4_needInHand_22 : decode cX4_needInHand 22 = .ok (.if_icmp .eq 13, 3) := by decide +kernel
theorem dX4_needInHand_25 : decode cX4_needInHand 25 = .ok (.new 29, 3) := by decide +kernel
theorem dX4_needInHand_28 : decode cX4_needInHand 28 = .ok (.dup, 1) := by decide +kernel
theorem dX4_needInHand_29 : decode cX4_needInHand 29 = .ok (.ldc 228, 2) := by decide +kernel
theorem dX4_needInHand_31 : decode cX4_needInHand 31 = .ok (.invokespecial 33, 3) := by decide +kernel
theorem dX4_needInHand_34 : decode cX4_needInHand 34 = .ok (.athrow, 1) := by decide +kernel
theorem dX4_needInHand_35 : decode cX4_needInHand 35 = .ok (.return_, 1) := by decide +kernel
theorem dX4_isChute_0 : decode cX4_isChute 0 = .ok (.iload_n 0, 1) := by decide +kernel
theorem dX4_isChute_1 : decode cX4_isChute 1 = .ok (.ifCond .lt 12, 3) := by decide +kernel
theorem dX4_isChute_4 : decode cX4_isChute 4 = .ok (.iload_n 0, 1) := by decide +kernel
theorem dX4_isChute_5 : decode cX4_isChute 5 = .ok (.iconst 4, 1) := by decide +kernel
theorem dX4_isChute_6 : decode cX4_isChute 6 = .ok (.if_icmp .ge 7, 3) := by decide +kernel
theorem dX4_isChute_9 : decode cX4_isChute 9 = .ok (.iconst 1, 1) := by decide +kernel
theorem dX4_isChute_10 : decode cX4_isChute 10 = .ok (.goto 4, 3) := by decide +kernel
theorem dX4_isChute_13 : decode cX4_isChute 13 = .ok (.iconst 0, 1) := by decide +kernel
theorem dX4_isChute_14 : decode cX4_isChute 14 = .ok (.ireturn, 1) := by decide +kernel
theorem dX4_readyWithChute_0 : decode cX4_readyWithChute 0 = .ok (.aload_n 0, 1) := by decide +kernel
theorem dX4_readyWithChute_1 : decode cX4_readyWithChute 1 = .ok (.getfield 16, 3) := by decide +kernel
theorem dX4_readyWithChute_4 : decode cX4_readyWithChute 4 = .ok (.aload_n 0, 1) := by decide +kernel
theorem dX4_readyWithChute_5 : decode cX4_readyWithChute 5 = .ok (.getfield 10, 3) := by decide +kernel
theorem dX4_readyWithChute_8 : decode cX4_readyWithChute 8 = .ok (.invokevirtual 183, 3) := by decide +kernel
theorem dX4_readyWithChute_11 : decode cX4_readyWithChute 11 = .ok (.aload_n 0, 1) := by decide +kernel
theorem dX4_readyWithChute_12 : decode cX4_readyWithChute 12 = .ok (.getfield 16, 3) := by decide +kernel
theorem dX4_readyWithChute_15 : decode cX4_readyWithChute 15 = .ok (.getfield 19, 3) := by decide +kernel
theorem dX4_readyWithChute_18 : decode cX4_readyWithChute 18 = .ok (.getfield 104, 3) := by decide +kernel
theorem dX4_readyWithChute_21 : decode cX4_readyWithChute 21 = .ok (.iload_n 1, 1) := by decide +kernel
theorem dX4_readyWithChute_22 : decode cX4_readyWithChute 22 = .ok (.iload_n 2, 1) := by decide +kernel
theorem dX4_readyWithChute_23 : decode cX4_readyWithChute 23 = .ok (.invokevirtual 74, 3) := by decide +kernel
theorem dX4_readyWithChute_26 : decode cX4_readyWithChute 26 = .ok (.aload_n 0, 1) := by decide +kernel
theorem dX4_readyWithChute_27 : decode cX4_readyWithChute 27 = .ok (.getfield 16, 3) := by decide +kernel
theorem dX4_readyWithChute_30 : decode cX4_readyWithChute 30 = .ok (.iload_n 3, 1) := by decide +kernel
theorem dX4_readyWithChute_31 : decode cX4_readyWithChute 31 = .ok (.invokevirtual 139, 3) := by decide +kernel
theorem dX4_readyWithChute_34 : decode cX4_readyWithChute 34 = .ok (.pop, 1) := by decide +kernel
theorem dX4_readyWithChute_35 : decode cX4_readyWithChute 35 = .ok (.aload_n 0, 1) := by decide +kernel
theorem dX4_readyWithChute_36 : decode cX4_readyWithChute 36 = .ok (.getfield 16, 3) := by decide +kernel
theorem dX4_readyWithChute_39 : decode cX4_readyWithChute 39 = .ok (.iload_n 1, 1) := by decide +kernel
theorem dX4_readyWithChute_40 : decode cX4_readyWithChute 40 = .ok (.invokevirtual 174, 3) := by decide +kernel
theorem dX4_readyWithChute_43 : decode cX4_readyWithChute 43 = .ok (.ireturn, 1) := by decide +kernel
theorem dJ9_min_7cf53_0 : decode cJ9_min_7cf53 0 = .ok (.iload_n 0, 1) := by decide +kernel
theorem dJ9_min_7cf53_1 : decode cJ9_min_7cf53 1 = .ok (.iload_n 1, 1) := by decide +kernel
theorem dJ9_min_7cf53_2 : decode cJ9_min_7cf53 2 = .ok (.if_icmp .gt 7, 3) := by decide +kernel
theorem dJ9_min_7cf53_5 : decode cJ9_min_7cf53 5 = .ok (.iload_n 0, 1) := by decide +kernel
theorem dJ9_min_7cf53_6 : decode cJ9_min_7cf53 6 = .ok (.goto 4, 3) := by decide +kernel
theorem dJ9_min_7cf53_9 : decode cJ9_min_7cf53 9 = .ok (.iload_n 1, 1) := by decide +kernel
theorem dJ9_min_7cf53_10 : decode cJ9_min_7cf53 10 = .ok (.ireturn, 1) := by decide +kernel
theorem dJ7_fill_53178_0 : decode cJ7_fill_53178 0 = .ok (.iconst 0, 1) := by decide +kernel
theorem dJ7_fill_53178_1 : decode cJ7_fill_53178 1 = .ok (.istore_n 2, 1) := by decide +kernel
theorem dJ7_fill_53178_2 : decode cJ7_fill_53178 2 = .ok (.aload_n 0, 1) := by decide +kernel
theorem dJ7_fill_53178_3 : decode cJ7_fill_53178 3 = .ok (.arraylength, 1) := by decide +kernel
theorem dJ7_fill_53178_4 : decode cJ7_fill_53178 4 = .ok (.istore_n 3, 1) := by decide +kernel
theorem dJ7_fill_53178_5 : decode cJ7_fill_53178 5 = .ok (.iload_n 2, 1) := by decide +kernel
theorem dJ7_fill_53178_6 : decode cJ7_fill_53178 6 = .ok (.iload_n 3, 1) := by decide +kernel
theorem dJ7_fill_53178_7 : decode cJ7_fill_53178 7 = .ok (.if_icmp .ge 13, 3) := by decide +kernel
theorem dJ7_fill_53178_10 : decode cJ7_fill_53178 10 = .ok (.aload_n 0, 1) := by decide +kernel
theorem dJ7_fill_53178_11 : decode cJ7_fill_53178 11 = .ok (.iload_n 2, 1) := by decide +kernel
theorem dJ7_fill_53178_12 : decode cJ7_fill_53178 12 = .ok (.iload_n 1, 1) := by decide +kernel
theorem dJ7_fill_53178_13 : decode cJ7_fill_53178 13 = .ok (.iastore, 1) := by decide +kernel
theorem dJ7_fill_53178_14 : decode cJ7_fill_53178 14 = .ok (.iinc 2 1, 3) := by decide +kernel
theorem dJ7_fill_53178_17 : decode cJ7_fill_53178 17 = .ok (.goto (-12), 3) := by decide +kernel
theorem dJ7_fill_53178_20 : decode cJ7_fill_53178 20 = .ok (.return_, 1) := by decide +kernel
end
section
theorem dX5_init_0 : decode cX5_init 0 = .ok (.aload_n 0, 1) := by decide +kernel
theorem dX5_init_1 : decode cX5_init 1 = .ok (.invokespecial 3, 3) := by decide +kernel
theorem dX5_init_4 : decode cX5_init 4 = .ok (.aload_n 0, 1) := by decide +kernel
theorem dX5_init_5 : decode cX5_init 5 = .ok (.bipush 40, 2) := by decide +kernel
theorem dX5_init_7 : decode cX5_init 7 = .ok (.newarray .int, 2) := by decide +kernel
theorem dX5_init_9 : decode cX5_init 9 = .ok (.putfield 9, 3) := by decide +kernel
theorem dX5_init_12 : decode cX5_init 12 = .ok (.aload_n 0, 1) := by decide +kernel
theorem dX5_init_13 : decode cX5_init 13 = .ok (.bipush 40, 2) := by decide +kernel
theorem dX5_init_15 : decode cX5_init 15 = .ok (.newarray .int, 2) := by decide +kernel
theorem dX5_init_17 : decode cX5_init 17 = .ok (.putfield 15, 3) := by decide +kernel
theorem dX5_init_20 : decode cX5_init 20 = .ok (.aload_n 0, 1) := by decide +kernel
theorem dX5_init_21 : decode cX5_init 21 = .ok (.bipush 40, 2) := by decide +kernel
theorem dX5_init_23 : decode cX5_init 23 = .ok (.newarray .int, 2) := by decide +kernel
theorem dX5_init_25 : decode cX5_init 25 = .ok (.putfield 18, 3) := by decide +kernel
theorem dX5_init_28 : decode cX5_init 28 = .ok (.aload_n 0, 1) := by decide +kernel
theorem dX5_init_29 : decode cX5_init 29 = .ok (.bipush 40, 2) := by decide +kernel
theorem dX5_init_31 : decode cX5_init 31 = .ok (.newarray .int, 2) := by decide +kernel
theorem dX5_init_33 : decode cX5_init 33 = .ok (.putfield 21, 3) := by decide +kernel
theorem dX5_init_36 : decode cX5_init 36 = .ok (.aload_n 0, 1) := by decide +kernel
theorem dX5_init_37 : decode cX5_init 37 = .ok (.bipush 12, 2) := by decide +kernel
theorem dX5_init_39 : decode cX5_init 39 = .ok (.newarray .int, 2) := by decide +kernel
theorem dX5_init_41 : decode cX5_init 41 = .ok (.putfield 24, 3) := by decide +kernel
theorem dX5_init_44 : decode cX5_init 44 = .ok (.aload_n 0, 1) := by decide +kernel
theorem dX5_init_45 : decode cX5_init 45 = .ok (.bipush 40, 2) := by decide +kernel
theorem dX5_init_47 : decode cX5_init 47 = .ok (.newarray .int, 2) := by decide +kernel
theorem dX5_init_49 : decode cX5_init 49 = .ok (.putfield 27, 3) := by decide +kernel
theorem dX5_init_52 : decode cX5_init 52 = .ok (.aload_n 0, 1) := by decide +kernel
theorem dX5_init_53 : decode cX5_init 53 = .ok (.iconst 4, 1) := by decide +kernel
theorem dX5_init_54 : decode cX5_init 54 = .ok (.newarray .int, 2) := by decide +kernel
theorem dX5_init_56 : decode cX5_init 56 = .ok (.putfield 30, 3) := by decide +kernel
theorem dX5_init_59 : decode cX5_init 59 = .ok (.iconst 0, 1) := by decide +kernel
theorem dX5_init_60 : decode cX5_init 60 = .ok (.istore_n 1, 1) := by decide +kernel
theorem dX5_init_61 : decode cX5_init 61 = .ok (.iload_n 1, 1) := by decide +kernel
theorem dX5_init_62 : decode cX5_init 62 = .ok (.bipush 12, 2) := by decide +kernel
theorem dX5_init_64 : decode cX5_init 64 = .ok (.if_icmp .ge 16, 3) := by decide +kernel
theorem dX5_init_67 : decode cX5_init 67 = .ok (.aload_n 0, 1) := by decide +kernel
theorem dX5_init_68 : decode cX5_init 68 = .ok (.getfield 24, 3) := by decide +kernel
theorem dX5_init_71 : decode cX5_init 71 = .ok (.iload_n 1, 1) := by decide +kernel
theorem dX5_init_72 : decode cX5_init 72 = .ok (.iconst (-1), 1) := by decide +kernel
theorem dX5_init_73 : decode cX5_init 73 = .ok (.iastore, 1) := by decide +kernel
theorem dX5_init_74 : decode cX5_init 74 = .ok (.iinc 1 1, 3) := by decide +kernel
theorem dX5_init_77 : decode cX5_init 77 = .ok (.goto (-16), 3) := by decide +kernel
theorem dX5_init_80 : decode cX5_init 80 = .ok (.return_, 1) := by decide +kernel
theorem dX5_copy_0 : decode cX5_copy 0 = .ok (.aload_n 0, 1) := by decide +kernel
theorem dX5_copy_1 : decode cX5_copy 1 = .ok (.iconst 0, 1) := by decide +kernel
theorem dX5_copy_2 : decode cX5_copy 2 = .ok (.aload_n 1, 1) := by decide +kernel
theorem dX5_copy_3 : decode cX5_copy 3 = .ok (.iconst 0, 1) := by decide +kernel
theorem dX5_copy_4 : decode cX5_copy 4 = .ok (.aload_n 1, 1) := by decide +kernel
theorem dX5_copy_5 : decode cX5_copy 5 = .ok (.arraylength, 1) := by decide +kernel
theorem dX5_copy_6 : decode cX5_copy 6 = .ok (.invokestatic 33, 3) := by decide +kernel
theorem dX5_copy_9 : decode cX5_copy 9 = .ok (.return_, 1) := by decide +kernel
theorem dX5_become_0 : decode cX5_become 0 = .ok (.aload_n 0, 1) := by decide +kernel
theorem dX5_become_1 : decode cX5_become 1 = .ok (.aload_n 1, 1) := by decide +kernel
theorem dX5_become_2 : decode cX5_become 2 = .ok (.getfield 39, 3) := by decide +kernel
theorem dX5_become_5 : decode cX5_become 5 = .ok (.putfield 39, 3) := by decide +kernel
theorem dX5_become_8 : decode cX5_become 8 = .ok (.aload_n 0, 1) := by decide +kernel
theorem dX5_become_9 : decode cX5_become 9 = .ok (.aload_n 1, 1) := by decide +kernel
theorem dX5_become_10 : decode cX5_become 10 = .ok (.getfield 43, 3) := by decide +kernel
theorem dX5_become_13 : decode cX5_become 13 = .ok (.putfield 43, 3) := by decide +kernel
theorem dX5_become_16 : decode cX5_become 16 = .ok (.aload_n 1, 1) := by decide +kernel
theorem dX5_become_17 : decode cX5_become 17 = .ok (.getfield 9, 3) := by decide +kernel
theorem dX5_become_20 : decode cX5_become 20 = .ok (.aload_n 0, 1) := by decide +kernel
theorem dX5_become_21 : decode cX5_become 21 = .ok (.getfield 9, 3) := by decide +kernel
theorem dX5_become_24 : decode cX5_become 24 = .ok (.invokestatic 46, 3) := by decide +kernel
theorem dX5_become_27 : decode cX5_become 27 = .ok (.aload_n 1, 1) := by decide +kernel
theorem dX5_become_28 : decode cX5_become 28 = .ok (.getfield 15, 3) := by decide +kernel
theorem dX5_become_31 : decode cX5_become 31 = .ok (.aload_n 0, 1) := by decide +kernel
theorem dX5_become_32 : decode cX5_become 32 = .ok (.getfield 15, 3) := by decide +kernel
theorem dX5_become_35 : decode cX5_become 35 = .ok (.invokestatic 46, 3) := by decide +kernel
theorem dX5_become_38 : decode cX5_become 38 = .ok (.aload_n 1, 1) := by decide +kernel
theorem dX5_become_39 : decode cX5_become 39 = .ok (.getfield 18, 3) := by decide +kernel
theorem dX5_become_42 : decode cX5_become 42 = .ok (.aload_n 0, 1) := by decide +kernel
theorem dX5_become_43 : decode cX5_become 43 = .ok (.getfield 18, 3) := by decide +kernel
theorem dX5_become_46 : decode cX5_become 46 = .ok (.invokestatic 46, 3) := by decide +kernel
theorem dX5_become_49 : decode cX5_become 49 = .ok (.aload_n 1, 1) := by decide +kernel
theorem dX5_become_50 : decode cX5_become 50 = .ok (.getfield 21, 3) := by decide +kernel
theorem dX5_become_53 : decode cX5_become 53 = .ok (.aload_n 0, 1) := by decide +kernel
theorem dX5_become_54 : decode cX5_become 54 = .ok (.getfield 21, 3) := by decide +kernel
theorem dX5_become_57 : decode cX5_become 57 = .ok (.invokestatic 46, 3) := by decide +kernel
theorem dX5_become_60 : decode cX5_become 60 = .ok (.aload_n 1, 1) := by decide +kernel
theorem dX5_become_61 : decode cX5_become 61 = .ok (.getfield 24, 3) := by decide +kernel
theorem dX5_become_64 : decode cX5_become 64 = .ok (.aload_n 0, 1) := by decide +kernel
theorem dX5_become_65 : decode cX5_become 65 = .ok (.getfield 24, 3) := by decide +kernel
theorem dX5_become_68 : decode cX5_become 68 = .ok (.invokestatic 46, 3) := by decide +kernel
theorem dX5_become_71 : decode cX5_become 71 = .ok (.aload_n 1, 1) := by decide +kernel
theorem dX5_become_72 : decode cX5_become 72 = .ok (.getfield 27, 3) := by decide +kernel
theorem dX5_become_75 : decode cX5_become 75 = .ok (.aload_n 0, 1) := by decide +kernel
theorem dX5_become_76 : decode cX5_become 76 = .ok (.getfield 27, 3) := by decide +kernel
theorem dX5_become_79 : decode cX5_become 79 = .ok (.invokestatic 46, 3) := by decide +kernel
theorem dX5_become_82 : decode cX5_become 82 = .ok (.aload_n 1, 1) := by decide +kernel
theorem dX5_become_83 : decode cX5_become 83 = .ok (.getfield 30, 3) := by decide +kernel
theorem dX5_become_86 : decode cX5_become 86 = .ok (.aload_n 0, 1) := by decide +kernel
theorem dX5_become_87 : decode cX5_become 87 = .ok (.getfield 30, 3) := by decide +kernel
theorem dX5_become_90 : decode cX5_become 90 = .ok (.invokestatic 46, 3) := by decide +kernel
theorem dX5_become_93 : decode cX5_become 93 = .ok (.return_, 1) := by decide +kernel
theorem dX5_put_0 : decode cX5_put 0 = .ok (.aload_n 0, 1) := by decide +kernel
theorem dX5_put_1 : decode cX5_put 1 = .ok (.getfield 9, 3) := by decide +kernel
theorem dX5_put_4 : decode cX5_put 4 = .ok (.iload_n 1, 1) := by decide +kernel
theorem dX5_put_5 : decode cX5_put 5 = .ok (.iload_n 2, 1) := by decide +kernel
theorem dX5_put_6 : decode cX5_put 6 = .ok (.iastore, 1) := by decide +kernel
theorem dX5_put_7 : decode cX5_put 7 = .ok (.aload_n 0, 1) := by decide +kernel
theorem dX5_put_8 : decode cX5_put 8 = .ok (.getfield 15, 3) := by decide +kernel
theorem dX5_put_11 : decode cX5_put 11 = .ok (.iload_n 1, 1) := by decide +kernel
theorem dX5_put_12 : decode cX5_put 12 = .ok (.iload_n 3, 1) := by decide +kernel
theorem dX5_put_13 : decode cX5_put 13 = .ok (.iastore, 1) := by decide +kernel
theorem dX5_put_14 : decode cX5_put 14 = .ok (.return_, 1) := by decide +kernel
theorem dX5_toLine_0 : decode cX5_toLine 0 = .ok (.aload_n 0, 1) := by decide +kernel
theorem dX5_toLine_1 : decode cX5_toLine 1 = .ok (.iload_n 1, 1) := by decide +kernel
theorem dX5_toLine_2 : decode cX5_toLine 2 = .ok (.iconst 0, 1) := by decide +kernel
theorem dX5_toLine_3 : decode cX5_toLine 3 = .ok (.iconst (-1), 1) := by decide +kernel
theorem dX5_toLine_4 : decode cX5_toLine 4 = .ok (.invokevirtual 50, 3) := by decide +kernel
theorem dX5_toLine_7 : decode cX5_toLine 7 = .ok (.aload_n 0, 1) := by decide +kernel
theorem dX5_toLine_8 : decode cX5_toLine 8 = .ok (.getfield 27, 3) := by decide +kernel
theorem dX5_toLine_11 : decode cX5_toLine 11 = .ok (.aload_n 0, 1) := by decide +kernel
theorem dX5_toLine_12 : decode cX5_toLine 12 = .ok (.getfield 43, 3) := by decide +kernel
theorem dX5_toLine_15 : decode cX5_toLine 15 = .ok (.iload_n 1, 1) := by decide +kernel
theorem dX5_toLine_16 : decode cX5_toLine 16 = .ok (.iastore, 1) := by decide +kernel
theorem dX5_toLine_17 : decode cX5_toLine 17 = .ok (.aload_n 0, 1) := by decide +kernel
theorem dX5_toLine_18 : decode cX5_toLine 18 = .ok (.dup, 1) := by decide +kernel
theorem dX5_toLine_19 : decode cX5_toLine 19 = .ok (.getfield 43, 3) := by decide +kernel
theorem dX5_toLine_22 : decode cX5_toLine 22 = .ok (.iconst 1, 1) := by decide +kernel
theorem dX5_toLine_23 : decode cX5_toLine 23 = .ok (.iadd, 1) := by decide +kernel
theorem dX5_toLine_24 : decode cX5_toLine 24 = .ok (.putfield 43, 3) := by decide +kernel
theorem dX5_toLine_27 : decode cX5_toLine 27 = .ok (.return_, 1) := by decide +kernel
theorem dX5_toChute_0 : decode cX5_toChute 0 = .ok (.aload_n 0, 1) := by decide +kernel
theorem dX5_toChute_1 : decode cX5_toChute 1 = .ok (.iload_n 1, 1) := by decide +kernel
theorem dX5_toChute_2 : decode cX5_toChute 2 = .ok (.iconst 2, 1) := by decide +kernel
theorem dX5_toChute_3 : decode cX5_toChute 3 = .ok (.iload_n 2, 1) := by decide +kernel
theorem dX5_toChute_4 : decode cX5_toChute 4 = .ok (.invokevirtual 50, 3) := by decide +kernel
theorem dX5_toChute_7 : decode cX5_toChute 7 = .ok (.aload_n 0, 1) := by decide +kernel
theorem dX5_toChute_8 : decode cX5_toChute 8 = .ok (.getfield 30, 3) := by decide +kernel
theorem dX5_toChute_11 : decode cX5_toChute 11 = .ok (.iload_n 2, 1) := by decide +kernel
theorem dX5_toChute_12 : decode cX5_toChute 12 = .ok (.dup2, 1) := by decide +kernel
theorem dX5_toChute_13 : decode cX5_toChute 13 = .ok (.iaload, 1) := by decide +kernel
theorem dX5_toChute_14 : decode cX5_toChute 14 = .ok (.iconst 1, 1) := by decide +kernel
theorem dX5_toChute_15 : decode cX5_toChute 15 = .ok (.iadd, 1) := by decide +kernel
theorem dX5_toChute_16 : decode cX5_toChute 16 = .ok (.iastore, 1) := by decide +kernel
theorem dX5_toChute_17 : decode cX5_toChute 17 = .ok (.return_, 1) := by decide +kernel
theorem dX5_turnRound_0 : decode cX5_turnRound 0 = .ok (.aload_n 0, 1) := by decide +kernel
theorem dX5_turnRound_1 : decode cX5_turnRound 1 = .ok (.getfield 24, 3) := by decide +kernel
theorem dX5_turnRound_4 : decode cX5_turnRound 4 = .ok (.bipush 11, 2) := by decide +kernel
theorem dX5_turnRound_6 : decode cX5_turnRound 6 = .ok (.iaload, 1) := by decide +kernel
theorem dX5_turnRound_7 : decode cX5_turnRound 7 = .ok (.istore_n 1, 1) := by decide +kernel
theorem dX5_turnRound_8 : decode cX5_turnRound 8 = .ok (.aload_n 0, 1) := by decide +kernel
theorem dX5_turnRound_9 : decode cX5_turnRound 9 = .ok (.getfield 24, 3) := by decide +kernel
theorem dX5_turnRound_12 : decode cX5_turnRound 12 = .ok (.iconst 0, 1) := by decide +kernel
theorem dX5_turnRound_13 : decode cX5_turnRound 13 = .ok (.aload_n 0, 1) := by decide +kernel
theorem dX5_turnRound_14 : decode cX5_turnRound 14 = .ok (.getfield 24, 3) := by decide +kernel
theorem dX5_turnRound_17 : decode cX5_turnRound 17 = .ok (.iconst 1, 1) := by decide +kernel
theorem dX5_turnRound_18 : decode cX5_turnRound 18 = .ok (.bipush 11, 2) := by decide +kernel
theorem dX5_turnRound_20 : decode cX5_turnRound 20 = .ok (.invokestatic 33, 3) := by decide +kernel
theorem dX5_turnRound_23 : decode cX5_turnRound 23 = .ok (.aload_n 0, 1) := by decide +kernel
theorem dX5_turnRound_24 : decode cX5_turnRound 24 = .ok (.getfield 24, 3) := by decide +kernel
theorem dX5_turnRound_27 : decode cX5_turnRound 27 = .ok (.iconst 0, 1) := by decide +kernel
theorem dX5_turnRound_28 : decode cX5_turnRound 28 = .ok (.iload_n 1, 1) := by decide +kernel
theorem dX5_turnRound_29 : decode cX5_turnRound 29 = .ok (.iastore, 1) := by decide +kernel
theorem dX5_turnRound_30 : decode cX5_turnRound 30 = .ok (.iconst 0, 1) := by decide +kernel
theorem dX5_turnRound_31 : decode cX5_turnRound 31 = .ok (.istore_n 2, 1) := by decide +kernel
theorem dX5_turnRound_32 : decode cX5_turnRound 32 = .ok (.iload_n 2, 1) := by decide +kernel
theorem dX5_turnRound_33 : decode cX5_turnRound 33 = .ok (.bipush 12, 2) := by decide +kernel
theorem dX5_turnRound_35 : decode cX5_turnRound 35 = .ok (.if_icmp .ge 31, 3) := by decide +kernel
theorem dX5_turnRound_38 : decode cX5_turnRound 38 = .ok (.aload_n 0, 1) := by decide +kernel
theorem dX5_turnRound_39 : decode cX5_turnRound 39 = .ok (.getfield 24, 3) := by decide +kernel
theorem dX5_turnRound_42 : decode cX5_turnRound 42 = .ok (.iload_n 2, 1) := by decide +kernel
theorem dX5_turnRound_43 : decode cX5_turnRound 43 = .ok (.iaload, 1) := by decide +kernel
theorem dX5_turnRound_44 : decode cX5_turnRound 44 = .ok (.iconst (-1), 1) := by decide +kernel
theorem dX5_turnRound_45 : decode cX5_turnRound 45 = .ok (.if_icmp .eq 15, 3) := by decide +kernel
theorem dX5_turnRound_48 : decode cX5_turnRound 48 = .ok (.aload_n 0, 1) := by decide +kernel
theorem dX5_turnRound_49 : decode cX5_turnRound 49 = .ok (.getfield 15, 3) := by decide +kernel
theorem dX5_turnRound_52 : decode cX5_turnRound 52 = .ok (.aload_n 0, 1) := by decide +kernel
theorem dX5_turnRound_53 : decode cX5_turnRound 53 = .ok (.getfield 24, 3) := by decide +kernel
theorem dX5_turnRound_56 : decode cX5_turnRound 56 = .ok (.iload_n 2, 1) := by decide +kernel
theorem dX5_turnRound_57 : decode cX5_turnRound 57 = .ok (.iaload, 1) := by decide +kernel
theorem dX5_turnRound_58 : decode cX5_turnRound 58 = .ok (.iload_n 2, 1) := by decide +kernel
theorem dX5_turnRound_59 : decode cX5_turnRound 59 = .ok (.iastore, 1) := by decide +kernel
theorem dX5_turnRound_60 : decode cX5_turnRound 60 = .ok (.iinc 2 1, 3) := by decide +kernel
theorem dX5_turnRound_63 : decode cX5_turnRound 63 = .ok (.goto (-31), 3) := by decide +kernel
theorem dX5_turnRound_66 : decode cX5_turnRound 66 = .ok (.return_, 1) := by decide +kernel
theorem dX5_firstInLine_0 : decode cX5_firstInLine 0 = .ok (.aload_n 0, 1) := by decide +kernel
theorem dX5_firstInLine_1 : decode cX5_firstInLine 1 = .ok (.getfield 27, 3) := by decide +kernel
theorem dX5_firstInLine_4 : decode cX5_firstInLine 4 = .ok (.iconst 0, 1) := by decide +kernel
theorem dX5_firstInLine_5 : decode cX5_firstInLine 5 = .ok (.iaload, 1) := by decide +kernel
theorem dX5_firstInLine_6 : decode cX5_firstInLine 6 = .ok (.istore_n 1, 1) := by decide +kernel
theorem dX5_firstInLine_7 : decode cX5_firstInLine 7 = .ok (.aload_n 0, 1) := by decide +kernel
theorem dX5_firstInLine_8 : decode cX5_firstInLine 8 = .ok (.dup, 1) := by decide +kernel
theorem dX5_firstInLine_9 : decode cX5_firstInLine 9 = .ok (.getfield 43, 3) := by decide +kernel
theorem dX5_firstInLine_12 : decode cX5_firstInLine 12 = .ok (.iconst 1, 1) := by decide +kernel
theorem dX5_firstInLine_13 : decode cX5_firstInLine 13 = .ok (.isub, 1) := by decide +kernel
theorem dX5_firstInLine_14 : decode cX5_firstInLine 14 = .ok (.putfield 43, 3) := by decide +kernel
theorem dX5_firstInLine_17 : decode cX5_firstInLine 17 = .ok (.aload_n 0, 1) := by decide +kernel
theorem dX5_firstInLine_18 : decode cX5_firstInLine 18 = .ok (.getfield 27, 3) := by decide +kernel
theorem dX5_firstInLine_21 : decode cX5_firstInLine 21 = .ok (.iconst 1, 1) := by decide +kernel
theorem dX5_firstInLine_22 : decode cX5_firstInLine 22 = .ok (.aload_n 0, 1) := by decide +kernel
theorem dX5_firstInLine_23 : decode cX5_firstInLine 23 = .ok (.getfield 27, 3) := by decide +kernel
theorem dX5_firstInLine_26 : decode cX5_firstInLine 26 = .ok (.iconst 0, 1) := by decide +kernel
theorem dX5_firstInLine_27 : decode cX5_firstInLine 27 = .ok (.aload_n 0, 1) := by decide +kernel
theorem dX5_firstInLine_28 : decode cX5_firstInLine 28 = .ok (.getfield 43, 3) := by decide +kernel
theorem dX5_firstInLine_31 : decode cX5_firstInLine 31 = .ok (.invokestatic 33, 3) := by decide +kernel
theorem dX5_firstInLine_34 : decode cX5_firstInLine 34 = .ok (.iload_n 1, 1) := by decide +kernel
theorem dX5_firstInLine_35 : decode cX5_firstInLine 35 = .ok (.ireturn, 1) := by decide +kernel
theorem dX6_init_0 : decode cX6_init 0 = .ok (.aload_n 0, 1) := by decide +kernel
theorem dX6_init_1 : decode cX6_init 1 = .ok (.invokespecial 1, 3) := by decide +kernel
theorem dX6_init_4 : decode cX6_init 4 = .ok (.aload_n 0, 1) := by decide +kernel
theorem dX6_init_5 : decode cX6_init 5 = .ok (.bipush 6, 2) := by decide +kernel
theorem dX6_init_7 : decode cX6_init 7 = .ok (.newarray .int, 2) := by decide +kernel
theorem dX6_init_9 : decode cX6_init 9 = .ok (.putfield 9, 3) := by decide +kernel
theorem dX6_init_12 : decode cX6_init 12 = .ok (.aload_n 0, 1) := by decide +kernel
theorem dX6_init_13 : decode cX6_init 13 = .ok (.bipush 6, 2) := by decide +kernel
theorem dX6_init_15 : decode cX6_init 15 = .ok (.newarray .boolean, 2) := by decide +kernel
theorem dX6_init_17 : decode cX6_init 17 = .ok (.putfield 13, 3) := by decide +kernel
theorem dX6_init_20 : decode cX6_init 20 = .ok (.aload_n 0, 1) := by decide +kernel
theorem dX6_init_21 : decode cX6_init 21 = .ok (.iconst 4, 1) := by decide +kernel
theorem dX6_init_22 : decode cX6_init 22 = .ok (.newarray .int, 2) := by decide +kernel
theorem dX6_init_24 : decode cX6_init 24 = .ok (.dup, 1) := by decide +kernel
theorem dX6_init_25 : decode cX6_init 25 = .ok (.iconst 0, 1) := by decide +kernel
theorem dX6_init_26 : decode cX6_init 26 = .ok (.iconst 5, 1) := by decide +kernel
theorem dX6_init_27 : decode cX6_init 27 = .ok (.iastore, 1) := by decide +kernel
theorem dX6_init_28 : decode cX6_init 28 = .ok (.dup, 1) := by decide +kernel
theorem dX6_init_29 : decode cX6_init 29 = .ok (.iconst 1, 1) := by decide +kernel
theorem dX6_init_30 : decode cX6_init 30 = .ok (.iconst 5, 1) := by decide +kernel
theorem dX6_init_31 : decode cX6_init 31 = .ok (.iastore, 1) := by decide +kernel
theorem dX6_init_32 : decode cX6_init 32 = .ok (.dup, 1) := by decide +kernel
theorem dX6_init_33 : decode cX6_init 33 = .ok (.iconst 2, 1) := by decide +kernel
theorem dX6_init_34 : decode cX6_init 34 = .ok (.iconst 5, 1) := by decide +kernel
theorem dX6_init_35 : decode cX6_init 35 = .ok (.iastore, 1) := by decide +kernel
theorem dX6_init_36 : decode cX6_init 36 = .ok (.dup, 1) := by decide +kernel
theorem dX6_init_37 : decode cX6_init 37 = .ok (.iconst 3, 1) := by decide +kernel
theorem dX6_init_38 : decode cX6_init 38 = .ok (.iconst 5, 1) := by decide +kernel
theorem dX6_init_39 : decode cX6_init 39 = .ok (.iastore, 1) := by decide +kernel
theorem dX6_init_40 : decode cX6_init 40 = .ok (.putfield 17, 3) := by decide +kernel
theorem dX6_init_43 : decode cX6_init 43 = .ok (.aload_n 0, 1) := by decide +kernel
theorem dX6_init_44 : decode cX6_init 44 = .ok (.iconst 5, 1) := by decide +kernel
theorem dX6_init_45 : decode cX6_init 45 = .ok (.putfield 20, 3) := by decide +kernel
theorem dX6_init_48 : decode cX6_init 48 = .ok (.aload_n 0, 1) := by decide +kernel
theorem dX6_init_49 : decode cX6_init 49 = .ok (.bipush 40, 2) := by decide +kernel
theorem dX6_init_51 : decode cX6_init 51 = .ok (.newarray .int, 2) := by decide +kernel
theorem dX6_init_53 : decode cX6_init 53 = .ok (.putfield 24, 3) := by decide +kernel
theorem dX6_init_56 : decode cX6_init 56 = .ok (.aload_n 0, 1) := by decide +kernel
theorem dX6_init_57 : decode cX6_init 57 = .ok (.bipush 40, 2) := by decide +kernel
theorem dX6_init_59 : decode cX6_init 59 = .ok (.newarray .int, 2) := by decide +kernel
theorem dX6_init_61 : decode cX6_init 61 = .ok (.putfield 27, 3) := by decide +kernel
theorem dX6_init_64 : decode cX6_init 64 = .ok (.aload_n 0, 1) := by decide +kernel
theorem dX6_init_65 : decode cX6_init 65 = .ok (.bipush 40, 2) := by decide +kernel
theorem dX6_init_67 : decode cX6_init 67 = .ok (.newarray .int, 2) := by decide +kernel
theorem dX6_init_69 : decode cX6_init 69 = .ok (.putfield 30, 3) := by decide +kernel
theorem dX6_init_72 : decode cX6_init 72 = .ok (.aload_n 0, 1) := by decide +kernel
theorem dX6_init_73 : decode cX6_init 73 = .ok (.bipush 40, 2) := by decide +kernel
theorem dX6_init_75 : decode cX6_init 75 = .ok (.newarray .int, 2) := by decide +kernel
theorem dX6_init_77 : decode cX6_init 77 = .ok (.putfield 33, 3) := by decide +kernel
theorem dX6_init_80 : decode cX6_init 80 = .ok (.aload_n 0, 1) := by decide +kernel
theorem dX6_init_81 : decode cX6_init 81 = .ok (.new 36, 3) := by decide +kernel
theorem dX6_init_84 : decode cX6_init 84 = .ok (.dup, 1) := by decide +kernel
theorem dX6_init_85 : decode cX6_init 85 = .ok (.invokespecial 38, 3) := by decide +kernel
theorem dX6_init_88 : decode cX6_init 88 = .ok (.putfield 39, 3) := by decide +kernel
theorem dX6_init_91 : decode cX6_init 91 = .ok (.aload_n 0, 1) := by decide +kernel
theorem dX6_init_92 : decode cX6_init 92 = .ok (.new 36, 3) := by decide +kernel
theorem dX6_init_95 : decode cX6_init 95 = .ok (.dup, 1) := by decide +kernel
theorem dX6_init_96 : decode cX6_init 96 = .ok (.invokespecial 38, 3) := by decide +kernel
theorem dX6_init_99 : decode cX6_init 99 = .ok (.putfield 43, 3) := by decide +kernel
theorem dX6_init_102 : decode cX6_init 102 = .ok (.iconst 0, 1) := by decide +kernel
theorem dX6_init_103 : decode cX6_init 103 = .ok (.istore_n 1, 1) := by decide +kernel
theorem dX6_init_104 : decode cX6_init 104 = .ok (.iload_n 1, 1) := by decide +kernel
theorem dX6_init_105 : decode cX6_init 105 = .ok (.bipush 6, 2) := by decide +kernel
theorem dX6_init_107 : decode cX6_init 107 = .ok (.if_icmp .ge 16, 3) := by decide +kernel
theorem dX6_init_110 : decode cX6_init 110 = .ok (.aload_n 0, 1) := by decide +kernel
theorem dX6_init_111 : decode cX6_init 111 = .ok (.getfield 9, 3) := by decide +kernel
theorem dX6_init_114 : decode cX6_init 114 = .ok (.iload_n 1, 1) := by decide +kernel
theorem dX6_init_115 : decode cX6_init 115 = .ok (.iconst (-1), 1) := by decide +kernel
theorem dX6_init_116 : decode cX6_init 116 = .ok (.iastore, 1) := by decide +kernel
theorem dX6_init_117 : decode cX6_init 117 = .ok (.iinc 1 1, 3) := by decide +kernel
theorem dX6_init_120 : decode cX6_init 120 = .ok (.goto (-16), 3) := by decide +kernel
theorem dX6_init_123 : decode cX6_init 123 = .ok (.return_, 1) := by decide +kernel
theorem dX6_thrown_0 : decode cX6_thrown 0 = .ok (.aload_n 0, 1) := by decide +kernel
theorem dX6_thrown_1 : decode cX6_thrown 1 = .ok (.getfield 46, 3) := by decide +kernel
theorem dX6_thrown_4 : decode cX6_thrown 4 = .ok (.ireturn, 1) := by decide +kernel
theorem dX6_no_0 : decode cX6_no 0 = .ok (.aload_n 0, 1) := by decide +kernel
theorem dX6_no_1 : decode cX6_no 1 = .ok (.iload_n 1, 1) := by decide +kernel
theorem dX6_no_2 : decode cX6_no 2 = .ok (.putfield 46, 3) := by decide +kernel
theorem dX6_no_5 : decode cX6_no 5 = .ok (.iconst 0, 1) := by decide +kernel
theorem dX6_no_6 : decode cX6_no 6 = .ok (.ireturn, 1) := by decide +kernel
theorem dX6_isNot_0 : decode cX6_isNot 0 = .ok (.aload_n 0, 1) := by decide +kernel
theorem dX6_isNot_1 : decode cX6_isNot 1 = .ok (.iload_n 1, 1) := by decide +kernel
theorem dX6_isNot_2 : decode cX6_isNot 2 = .ok (.putfield 46, 3) := by decide +kernel
theorem dX6_isNot_5 : decode cX6_isNot 5 = .ok (.iconst 0, 1) := by decide +kernel
theorem dX6_isNot_6 : decode cX6_isNot 6 = .ok (.ireturn, 1) := by decide +kernel
theorem dX6_isIn_0 : decode cX6_isIn 0 = .ok (.iload_n 0, 1) := by decide +kernel
theorem dX6_isIn_1 : decode cX6_isIn 1 = .ok (.iload_n 1, 1) := by decide +kernel
theorem dX6_isIn_2 : decode cX6_isIn 2 = .ok (.if_icmp .lt 12, 3) := by decide +kernel
theorem dX6_isIn_5 : decode cX6_isIn 5 = .ok (.iload_n 0, 1) := by decide +kernel
theorem dX6_isIn_6 : decode cX6_isIn 6 = .ok (.iload_n 2, 1) := by decide +kernel
theorem dX6_isIn_7 : decode cX6_isIn 7 = .ok (.if_icmp .gt 7, 3) := by decide +kernel
theorem dX6_isIn_10 : decode cX6_isIn 10 = .ok (.iconst 1, 1) := by decide +kernel
theorem dX6_isIn_11 : decode cX6_isIn 11 = .ok (.goto 4, 3) := by decide +kernel
theorem dX6_isIn_14 : decode cX6_isIn 14 = .ok (.iconst 0, 1) := by decide +kernel
theorem dX6_isIn_15 : decode cX6_isIn 15 = .ok (.ireturn, 1) := by decide +kernel
theorem dX6_isBag_0 : decode cX6_isBag 0 = .ok (.iload_n 1, 1) := by decide +kernel
theorem dX6_isBag_1 : decode cX6_isBag 1 = .ok (.iconst 0, 1) := by decide +kernel
theorem dX6_isBag_2 : decode cX6_isBag 2 = .ok (.aload_n 0, 1) := by decide +kernel
theorem dX6_isBag_3 : decode cX6_isBag 3 = .ok (.getfield 49, 3) := by decide +kernel
theorem dX6_isBag_6 : decode cX6_isBag 6 = .ok (.iconst 1, 1) := by decide +kernel
theorem dX6_isBag_7 : decode cX6_isBag 7 = .ok (.isub, 1) := by decide +kernel
theorem dX6_isBag_8 : decode cX6_isBag 8 = .ok (.invokestatic 52, 3) := by decide +kernel
theorem dX6_isBag_11 : decode cX6_isBag 11 = .ok (.ireturn, 1) := by decide +kernel
theorem dX6_isFlight_0 : decode cX6_isFlight 0 = .ok (.iload_n 1, 1) := by decide +kernel
theorem dX6_isFlight_1 : decode cX6_isFlight 1 = .ok (.iconst 0, 1) := by decide +kernel
theorem dX6_isFlight_2 : decode cX6_isFlight 2 = .ok (.aload_n 0, 1) := by decide +kernel
theorem dX6_isFlight_3 : decode cX6_isFlight 3 = .ok (.getfield 56, 3) := by decide +kernel
theorem dX6_isFlight_6 : decode cX6_isFlight 6 = .ok (.iconst 1, 1) := by decide +kernel
theorem dX6_isFlight_7 : decode cX6_isFlight 7 = .ok (.isub, 1) := by decide +kernel
theorem dX6_isFlight_8 : decode cX6_isFlight 8 = .ok (.invokestatic 52, 3) := by decide +kernel
theorem dX6_isFlight_11 : decode cX6_isFlight 11 = .ok (.ireturn, 1) := by decide +kernel
theorem dX6_isChute_0 : decode cX6_isChute 0 = .ok (.iload_n 0, 1) := by decide +kernel
theorem dX6_isChute_1 : decode cX6_isChute 1 = .ok (.iconst 0, 1) := by decide +kernel
theorem dX6_isChute_2 : decode cX6_isChute 2 = .ok (.iconst 3, 1) := by decide +kernel
theorem dX6_isChute_3 : decode cX6_isChute 3 = .ok (.invokestatic 52, 3) := by decide +kernel
theorem dX6_isChute_6 : decode cX6_isChute 6 = .ok (.ireturn, 1) := by decide +kernel
theorem dX6_readAt_0 : decode cX6_readAt 0 = .ok (.aload_n 1, 1) := by decide +kernel
theorem dX6_readAt_1 : decode cX6_readAt 1 = .ok (.getfield 59, 3) := by decide +kernel
theorem dX6_readAt_4 : decode cX6_readAt 4 = .ok (.iconst 2, 1) := by decide +kernel
theorem dX6_readAt_5 : decode cX6_readAt 5 = .ok (.iaload, 1) := by decide +kernel
theorem dX6_readAt_6 : decode cX6_readAt 6 = .ok (.istore_n 2, 1) := by decide +kernel
theorem dX6_readAt_7 : decode cX6_readAt 7 = .ok (.iload_n 2, 1) := by decide +kernel
theorem dX6_readAt_8 : decode cX6_readAt 8 = .ok (.iconst (-1), 1) := by decide +kernel
theorem dX6_readAt_9 : decode cX6_readAt 9 = .ok (.if_icmp .eq 13, 3) := by decide +kernel
theorem dX6_readAt_12 : decode cX6_readAt 12 = .ok (.aload_n 1, 1) := by decide +kernel
theorem dX6_readAt_13 : decode cX6_readAt 13 = .ok (.getfield 62, 3) := by decide +kernel
theorem dX6_readAt_16 : decode cX6_readAt 16 = .ok (.iload_n 2, 1) := by decide +kernel
theorem dX6_readAt_17 : decode cX6_readAt 17 = .ok (.iaload, 1) := by decide +kernel
theorem dX6_readAt_18 : decode cX6_readAt 18 = .ok (.iconst (-1), 1) := by decide +kernel
theorem dX6_readAt_19 : decode cX6_readAt 19 = .ok (.if_icmp .eq 4, 3) := by decide +kernel
theorem dX6_readAt_22 : decode cX6_readAt 22 = .ok (.return_, 1) := by decide +kernel
theorem dX6_readAt_23 : decode cX6_readAt 23 = .ok (.aload_n 0, 1) := by decide +kernel
theorem dX6_readAt_24 : decode cX6_readAt 24 = .ok (.getfield 9, 3) := by decide +kernel
theorem dX6_readAt_27 : decode cX6_readAt 27 = .ok (.aload_n 0, 1) := by decide +kernel
theorem dX6_readAt_28 : decode cX6_readAt 28 = .ok (.getfield 24, 3) := by decide +kernel
theorem dX6_readAt_31 : decode cX6_readAt 31 = .ok (.iload_n 2, 1) := by decide +kernel
theorem dX6_readAt_32 : decode cX6_readAt 32 = .ok (.iaload, 1) := by decide +kernel
theorem dX6_readAt_33 : decode cX6_readAt 33 = .ok (.iaload, 1) := by decide +kernel
theorem dX6_readAt_34 : decode cX6_readAt 34 = .ok (.istore_n 3, 1) := by decide +kernel
theorem dX6_readAt_35 : decode cX6_readAt 35 = .ok (.aload_n 0, 1) := by decide +kernel
theorem dX6_readAt_36 : decode cX6_readAt 36 = .ok (.getfield 30, 3) := by decide +kernel
theorem dX6_readAt_39 : decode cX6_readAt 39 = .ok (.iload_n 2, 1) := by decide +kernel
theorem dX6_readAt_40 : decode cX6_readAt 40 = .ok (.iaload, 1) := by decide +kernel
theorem dX6_readAt_41 : decode cX6_readAt 41 = .ok (.aload_n 0, 1) := by decide +kernel
theorem dX6_readAt_42 : decode cX6_readAt 42 = .ok (.getfield 20, 3) := by decide +kernel
theorem dX6_readAt_45 : decode cX6_readAt 45 = .ok (.if_icmp .gt 16, 3) := by decide +kernel
theorem dX6_readAt_48 : decode cX6_readAt 48 = .ok (.iload_n 3, 1) := by decide +kernel
theorem dX6_readAt_49 : decode cX6_readAt 49 = .ok (.iconst (-1), 1) := by decide +kernel
theorem dX6_readAt_50 : decode cX6_readAt 50 = .ok (.if_icmp .eq 11, 3) := by decide +kernel
theorem dX6_readAt_53 : decode cX6_readAt 53 = .ok (.aload_n 1, 1) := by decide +kernel
theorem dX6_readAt_54 : decode cX6_readAt 54 = .ok (.getfield 62, 3) := by decide +kernel
theorem dX6_readAt_57 : decode cX6_readAt 57 = .ok (.iload_n 2, 1) := by decide +kernel
theorem dX6_readAt_58 : decode cX6_readAt 58 = .ok (.iload_n 3, 1) := by decide +kernel
theorem dX6_readAt_59 : decode cX6_readAt 59 = .ok (.iastore, 1) := by decide +kernel
theorem dX6_readAt_60 : decode cX6_readAt 60 = .ok (.return_, 1) := by decide +kernel
theorem dX6_readAt_61 : decode cX6_readAt 61 = .ok (.aload_n 1, 1) := by decide +kernel
theorem dX6_readAt_62 : decode cX6_readAt 62 = .ok (.getfield 65, 3) := by decide +kernel
theorem dX6_readAt_65 : decode cX6_readAt 65 = .ok (.iload_n 2, 1) := by decide +kernel
theorem dX6_readAt_66 : decode cX6_readAt 66 = .ok (.dup2, 1) := by decide +kernel
theorem dX6_readAt_67 : decode cX6_readAt 67 = .ok (.iaload, 1) := by decide +kernel
theorem dX6_readAt_68 : decode cX6_readAt 68 = .ok (.iconst 1, 1) := by decide +kernel
theorem dX6_readAt_69 : decode cX6_readAt 69 = .ok (.iadd, 1) := by decide +kernel
theorem dX6_readAt_70 : decode cX6_readAt 70 = .ok (.iastore, 1) := by decide +kernel
theorem dX6_readAt_71 : decode cX6_readAt 71 = .ok (.aload_n 1, 1) := by decide +kernel
theorem dX6_readAt_72 : decode cX6_readAt 72 = .ok (.getfield 65, 3) := by decide +kernel
theorem dX6_readAt_75 : decode cX6_readAt 75 = .ok (.iload_n 2, 1) := by decide +kernel
theorem dX6_readAt_76 : decode cX6_readAt 76 = .ok (.iaload, 1) := by decide +kernel
theorem dX6_readAt_77 : decode cX6_readAt 77 = .ok (.iconst 3, 1) := by decide +kernel
theorem dX6_readAt_78 : decode cX6_readAt 78 = .ok (.if_icmp .ge 4, 3) := by decide +kernel
theorem dX6_readAt_81 : decode cX6_readAt 81 = .ok (.return_, 1) := by decide +kernel
theorem dX6_readAt_82 : decode cX6_readAt 82 = .ok (.aload_n 1, 1) := by decide +kernel
theorem dX6_readAt_83 : decode cX6_readAt 83 = .ok (.getfield 59, 3) := by decide +kernel
theorem dX6_readAt_86 : decode cX6_readAt 86 = .ok (.iconst 2, 1) := by decide +kernel
theorem dX6_readAt_87 : decode cX6_readAt 87 = .ok (.iconst (-1), 1) := by decide +kernel
theorem dX6_readAt_88 : decode cX6_readAt 88 = .ok (.iastore, 1) := by decide +kernel
theorem dX6_readAt_89 : decode cX6_readAt 89 = .ok (.aload_n 1, 1) := by decide +kernel
theorem dX6_readAt_90 : decode cX6_readAt 90 = .ok (.iload_n 2, 1) := by decide +kernel
theorem dX6_readAt_91 : decode cX6_readAt 91 = .ok (.iconst 3, 1) := by decide +kernel
theorem dX6_readAt_92 : decode cX6_readAt 92 = .ok (.iconst (-1), 1) := by decide +kernel
theorem dX6_readAt_93 : decode cX6_readAt 93 = .ok (.invokevirtual 68, 3) := by decide +kernel
theorem dX6_readAt_96 : decode cX6_readAt 96 = .ok (.return_, 1) := by decide +kernel
theorem dX6_slide_0 : decode cX6_slide 0 = .ok (.iconst 4, 1) := by decide +kernel
theorem dX6_slide_1 : decode cX6_slide 1 = .ok (.iconst 2, 1) := by decide +kernel
theorem dX6_slide_2 : decode cX6_slide 2 = .ok (.iload_n 2, 1) := by decide +kernel
theorem dX6_slide_3 : decode cX6_slide 3 = .ok (.imul, 1) := by decide +kernel
theorem dX6_slide_4 : decode cX6_slide 4 = .ok (.iadd, 1) := by decide +kernel
theorem dX6_slide_5 : decode cX6_slide 5 = .ok (.istore_n 3, 1) := by decide +kernel
theorem dX6_slide_6 : decode cX6_slide 6 = .ok (.aload_n 1, 1) := by decide +kernel
theorem dX6_slide_7 : decode cX6_slide 7 = .ok (.getfield 59, 3) := by decide +kernel
theorem dX6_slide_10 : decode cX6_slide 10 = .ok (.iload_n 3, 1) := by decide +kernel
theorem dX6_slide_11 : decode cX6_slide 11 = .ok (.iaload, 1) := by decide +kernel
theorem dX6_slide_12 : decode cX6_slide 12 = .ok (.istore 4, 2) := by decide +kernel
theorem dX6_slide_14 : decode cX6_slide 14 = .ok (.iload 4, 2) := by decide +kernel
theorem dX6_slide_16 : decode cX6_slide 16 = .ok (.iconst (-1), 1) := by decide +kernel
theorem dX6_slide_17 : decode cX6_slide 17 = .ok (.if_icmp .eq 29, 3) := by decide +kernel
theorem dX6_slide_20 : decode cX6_slide 20 = .ok (.aload_n 1, 1) := by decide +kernel
theorem dX6_slide_21 : decode cX6_slide 21 = .ok (.getfield 62, 3) := by decide +kernel
theorem dX6_slide_24 : decode cX6_slide 24 = .ok (.iload 4, 2) := by decide +kernel
theorem dX6_slide_26 : decode cX6_slide 26 = .ok (.iaload, 1) := by decide +kernel
theorem dX6_slide_27 : decode cX6_slide 27 = .ok (.iload_n 2, 1) := by decide +kernel
theorem dX6_slide_28 : decode cX6_slide 28 = .ok (.if_icmp .ne 18, 3) := by decide +kernel
theorem dX6_slide_31 : decode cX6_slide 31 = .ok (.aload_n 1, 1) := by decide +kernel
theorem dX6_slide_32 : decode cX6_slide 32 = .ok (.getfield 72, 3) := by decide +kernel
theorem dX6_slide_35 : decode cX6_slide 35 = .ok (.iload_n 2, 1) := by decide +kernel
theorem dX6_slide_36 : decode cX6_slide 36 = .ok (.iaload, 1) := by decide +kernel
theorem dX6_slide_37 : decode cX6_slide 37 = .ok (.aload_n 0, 1) := by decide +kernel
theorem dX6_slide_38 : decode cX6_slide 38 = .ok (.getfield 17, 3) := by decide +kernel
theorem dX6_slide_41 : decode cX6_slide 41 = .ok (.iload_n 2, 1) := by decide +kernel
theorem dX6_slide_42 : decode cX6_slide 42 = .ok (.iaload, 1) := by decide +kernel
theorem dX6_slide_43 : decode cX6_slide 43 = .ok (.if_icmp .lt 5, 3) := by decide +kernel
theorem dX6_slide_46 : decode cX6_slide 46 = .ok (.iconst 0, 1) := by decide +kernel
theorem dX6_slide_47 : decode cX6_slide 47 = .ok (.ireturn, 1) := by decide +kernel
theorem dX6_slide_48 : decode cX6_slide 48 = .ok (.aload_n 1, 1) := by decide +kernel
theorem dX6_slide_49 : decode cX6_slide 49 = .ok (.getfield 59, 3) := by decide +kernel
theorem dX6_slide_52 : decode cX6_slide 52 = .ok (.iload_n 3, 1) := by decide +kernel
theorem dX6_slide_53 : decode cX6_slide 53 = .ok (.iconst (-1), 1) := by decide +kernel
theorem dX6_slide_54 : decode cX6_slide 54 = .ok (.iastore, 1) := by decide +kernel
theorem dX6_slide_55 : decode cX6_slide 55 = .ok (.aload_n 1, 1) := by decide +kernel
theorem dX6_slide_56 : decode cX6_slide 56 = .ok (.iload 4, 2) := by decide +kernel
theorem dX6_slide_58 : decode cX6_slide 58 = .ok (.iload_n 2, 1) := by decide +kernel
theorem dX6_slide_59 : decode cX6_slide 59 = .ok (.invokevirtual 75, 3) := by decide +kernel
theorem dX6_slide_62 : decode cX6_slide 62 = .ok (.iconst 1, 1) := by decide +kernel
theorem dX6_slide_63 : decode cX6_slide 63 = .ok (.ireturn, 1) := by decide +kernel
theorem dX6_minuteOn_0 : decode cX6_minuteOn 0 = .ok (.aload_n 1, 1) := by decide +kernel
theorem dX6_minuteOn_1 : decode cX6_minuteOn 1 = .ok (.invokevirtual 79, 3) := by decide +kernel
theorem dX6_minuteOn_4 : decode cX6_minuteOn 4 = .ok (.aload_n 0, 1) := by decide +kernel
theorem dX6_minuteOn_5 : decode cX6_minuteOn 5 = .ok (.aload_n 1, 1) := by decide +kernel
theorem dX6_minuteOn_6 : decode cX6_minuteOn 6 = .ok (.invokevirtual 82, 3) := by decide +kernel
theorem dX6_minuteOn_9 : decode cX6_minuteOn 9 = .ok (.iconst 0, 1) := by decide +kernel
theorem dX6_minuteOn_10 : decode cX6_minuteOn 10 = .ok (.istore_n 2, 1) := by decide +kernel
theorem dX6_minuteOn_11 : decode cX6_minuteOn 11 = .ok (.iconst 0, 1) := by decide +kernel
theorem dX6_minuteOn_12 : decode cX6_minuteOn 12 = .ok (.istore_n 3, 1) := by decide +kernel
theorem dX6_minuteOn_13 : decode cX6_minuteOn 13 = .ok (.iload_n 3, 1) := by decide +kernel
theorem dX6_minuteOn_14 : decode cX6_minuteOn 14 = .ok (.iconst 4, 1) := by decide +kernel
theorem dX6_minuteOn_15 : decode cX6_minuteOn 15 = .ok (.if_icmp .ge 18, 3) := by decide +kernel
theorem dX6_minuteOn_18 : decode cX6_minuteOn 18 = .ok (.iload_n 2, 1) := by decide +kernel
theorem dX6_minuteOn_19 : decode cX6_minuteOn 19 = .ok (.aload_n 0, 1) := by decide +kernel
theorem dX6_minuteOn_20 : decode cX6_minuteOn 20 = .ok (.aload_n 1, 1) := by decide +kernel
theorem dX6_minuteOn_21 : decode cX6_minuteOn 21 = .ok (.iload_n 3, 1) := by decide +kernel
theorem dX6_minuteOn_22 : decode cX6_minuteOn 22 = .ok (.invokevirtual 86, 3) := by decide +kernel
theorem dX6_minuteOn_25 : decode cX6_minuteOn 25 = .ok (.iadd, 1) := by decide +kernel
theorem dX6_minuteOn_26 : decode cX6_minuteOn 26 = .ok (.istore_n 2, 1) := by decide +kernel
theorem dX6_minuteOn_27 : decode cX6_minuteOn 27 = .ok (.iinc 3 1, 3) := by decide +kernel
theorem dX6_minuteOn_30 : decode cX6_minuteOn 30 = .ok (.goto (-17), 3) := by decide +kernel
theorem dX6_minuteOn_33 : decode cX6_minuteOn 33 = .ok (.aload_n 1, 1) := by decide +kernel
theorem dX6_minuteOn_34 : decode cX6_minuteOn 34 = .ok (.getfield 59, 3) := by decide +kernel
theorem dX6_minuteOn_37 : decode cX6_minuteOn 37 = .ok (.iconst 0, 1) := by decide +kernel
theorem dX6_minuteOn_38 : decode cX6_minuteOn 38 = .ok (.iaload, 1) := by decide +kernel
theorem dX6_minuteOn_39 : decode cX6_minuteOn 39 = .ok (.iconst (-1), 1) := by decide +kernel
theorem dX6_minuteOn_40 : decode cX6_minuteOn 40 = .ok (.if_icmp .ne 29, 3) := by decide +kernel
theorem dX6_minuteOn_43 : decode cX6_minuteOn 43 = .ok (.aload_n 1, 1) := by decide +kernel
theorem dX6_minuteOn_44 : decode cX6_minuteOn 44 = .ok (.getfield 90, 3) := by decide +kernel
theorem dX6_minuteOn_47 : decode cX6_minuteOn 47 = .ok (.ifCond .le 22, 3) := by decide +kernel
theorem dX6_minuteOn_50 : decode cX6_minuteOn 50 = .ok (.aload_n 1, 1) := by decide +kernel
theorem dX6_minuteOn_51 : decode cX6_minuteOn 51 = .ok (.invokevirtual 93, 3) := by decide +kernel
theorem dX6_minuteOn_54 : decode cX6_minuteOn 54 = .ok (.istore_n 3, 1) := by decide +kernel
theorem dX6_minuteOn_55 : decode cX6_minuteOn 55 = .ok (.aload_n 1, 1) := by decide +kernel
theorem dX6_minuteOn_56 : decode cX6_minuteOn 56 = .ok (.getfield 59, 3) := by decide +kernel
theorem dX6_minuteOn_59 : decode cX6_minuteOn 59 = .ok (.iconst 0, 1) := by decide +kernel
theorem dX6_minuteOn_60 : decode cX6_minuteOn 60 = .ok (.iload_n 3, 1) := by decide +kernel
theorem dX6_minuteOn_61 : decode cX6_minuteOn 61 = .ok (.iastore, 1) := by decide +kernel
theorem dX6_minuteOn_62 : decode cX6_minuteOn 62 = .ok (.aload_n 1, 1) := by decide +kernel
theorem dX6_minuteOn_63 : decode cX6_minuteOn 63 = .ok (.iload_n 3, 1) := by decide +kernel
theorem dX6_minuteOn_64 : decode cX6_minuteOn 64 = .ok (.iconst 1, 1) := by decide +kernel
theorem dX6_minuteOn_65 : decode cX6_minuteOn 65 = .ok (.iconst 0, 1) := by decide +kernel
theorem dX6_minuteOn_66 : decode cX6_minuteOn 66 = .ok (.invokevirtual 68, 3) := by decide +kernel
theorem dX6_minuteOn_69 : decode cX6_minuteOn 69 = .ok (.aload_n 1, 1) := by decide +kernel
theorem dX6_minuteOn_70 : decode cX6_minuteOn 70 = .ok (.dup, 1) := by decide +kernel
theorem dX6_minuteOn_71 : decode cX6_minuteOn 71 = .ok (.getfield 97, 3) := by decide +kernel
theorem dX6_minuteOn_74 : decode cX6_minuteOn 74 = .ok (.iconst 1, 1) := by decide +kernel
theorem dX6_minuteOn_75 : decode cX6_minuteOn 75 = .ok (.iadd, 1) := by decide +kernel
theorem dX6_minuteOn_76 : decode cX6_minuteOn 76 = .ok (.putfield 97, 3) := by decide +kernel
theorem dX6_minuteOn_79 : decode cX6_minuteOn 79 = .ok (.iload_n 2, 1) := by decide +kernel
theorem dX6_minuteOn_80 : decode cX6_minuteOn 80 = .ok (.ireturn, 1) := by decide +kernel
theorem dX6_minutesOn_0 : decode cX6_minutesOn 0 = .ok (.iconst 0, 1) := by decide +kernel
theorem dX6_minutesOn_1 : decode cX6_minutesOn 1 = .ok (.istore_n 3, 1) := by decide +kernel
theorem dX6_minutesOn_2 : decode cX6_minutesOn 2 = .ok (.iconst 0, 1) := by decide +kernel
theorem dX6_minutesOn_3 : decode cX6_minutesOn 3 = .ok (.istore 4, 2) := by decide +kernel
theorem dX6_minutesOn_5 : decode cX6_minutesOn 5 = .ok (.iload 4, 2) := by decide +kernel
theorem dX6_minutesOn_7 : decode cX6_minutesOn 7 = .ok (.iload_n 2, 1) := by decide +kernel
theorem dX6_minutesOn_8 : decode cX6_minutesOn 8 = .ok (.if_icmp .ge 17, 3) := by decide +kernel
theorem dX6_minutesOn_11 : decode cX6_minutesOn 11 = .ok (.iload_n 3, 1) := by decide +kernel
theorem dX6_minutesOn_12 : decode cX6_minutesOn 12 = .ok (.aload_n 0, 1) := by decide +kernel
theorem dX6_minutesOn_13 : decode cX6_minutesOn 13 = .ok (.aload_n 1, 1) := by decide +kernel
theorem dX6_minutesOn_14 : decode cX6_minutesOn 14 = .ok (.invokevirtual 100, 3) := by decide +kernel
theorem dX6_minutesOn_17 : decode cX6_minutesOn 17 = .ok (.iadd, 1) := by decide +kernel
theorem dX6_minutesOn_18 : decode cX6_minutesOn 18 = .ok (.istore_n 3, 1) := by decide +kernel
theorem dX6_minutesOn_19 : decode cX6_minutesOn 19 = .ok (.iinc 4 1, 3) := by decide +kernel
theorem dX6_minutesOn_22 : decode cX6_minutesOn 22 = .ok (.goto (-17), 3) := by decide +kernel
theorem dX6_minutesOn_25 : decode cX6_minutesOn 25 = .ok (.iload_n 3, 1) := by decide +kernel
theorem dX6_minutesOn_26 : decode cX6_minutesOn 26 = .ok (.ireturn, 1) := by decide +kernel
theorem dX6_misrouted_0 : decode cX6_misrouted 0 = .ok (.aload_n 0, 1) := by decide +kernel
theorem dX6_misrouted_1 : decode cX6_misrouted 1 = .ok (.getfield 39, 3) := by decide +kernel
theorem dX6_misrouted_4 : decode cX6_misrouted 4 = .ok (.getfield 104, 3) := by decide +kernel
theorem dX6_misrouted_7 : decode cX6_misrouted 7 = .ok (.iload_n 1, 1) := by decide +kernel
theorem dX6_misrouted_8 : decode cX6_misrouted 8 = .ok (.iaload, 1) := by decide +kernel
theorem dX6_misrouted_9 : decode cX6_misrouted 9 = .ok (.iconst 2, 1) := by decide +kernel
theorem dX6_misrouted_10 : decode cX6_misrouted 10 = .ok (.if_icmp .ne 44, 3) := by decide +kernel
theorem dX6_misrouted_13 : decode cX6_misrouted 13 = .ok (.aload_n 0, 1) := by decide +kernel
theorem dX6_misrouted_14 : decode cX6_misrouted 14 = .ok (.getfield 13, 3) := by decide +kernel
theorem dX6_misrouted_17 : decode cX6_misrouted 17 = .ok (.aload_n 0, 1) := by decide +kernel
theorem dX6_misrouted_18 : decode cX6_misrouted 18 = .ok (.getfield 24, 3) := by decide +kernel
theorem dX6_misrouted_21 : decode cX6_misrouted 21 = .ok (.iload_n 1, 1) := by decide +kernel
theorem dX6_misrouted_22 : decode cX6_misrouted 22 = .ok (.iaload, 1) := by decide +kernel
theorem dX6_misrouted_23 : decode cX6_misrouted 23 = .ok (.baload, 1) := by decide +kernel
theorem dX6_misrouted_24 : decode cX6_misrouted 24 = .ok (.ifCond .ne 26, 3) := by decide +kernel
theorem dX6_misrouted_27 : decode cX6_misrouted 27 = .ok (.aload_n 0, 1) := by decide +kernel
theorem dX6_misrouted_28 : decode cX6_misrouted 28 = .ok (.getfield 9, 3) := by decide +kernel
theorem dX6_misrouted_31 : decode cX6_misrouted 31 = .ok (.aload_n 0, 1) := by decide +kernel
theorem dX6_misrouted_32 : decode cX6_misrouted 32 = .ok (.getfield 24, 3) := by decide +kernel
theorem dX6_misrouted_35 : decode cX6_misrouted 35 = .ok (.iload_n 1, 1) := by decide +kernel
theorem dX6_misrouted_36 : decode cX6_misrouted 36 = .ok (.iaload, 1) := by decide +kernel
theorem dX6_misrouted_37 : decode cX6_misrouted 37 = .ok (.iaload, 1) := by decide +kernel
theorem dX6_misrouted_38 : decode cX6_misrouted 38 = .ok (.aload_n 0, 1) := by decide +kernel
theorem dX6_misrouted_39 : decode cX6_misrouted 39 = .ok (.getfield 39, 3) := by decide +kernel
theorem dX6_misrouted_42 : decode cX6_misrouted 42 = .ok (.getfield 107, 3) := by decide +kernel
theorem dX6_misrouted_45 : decode cX6_misrouted 45 = .ok (.iload_n 1, 1) := by decide +kernel
theorem dX6_misrouted_46 : decode cX6_misrouted 46 = .ok (.iaload, 1) := by decide +kernel
theorem dX6_misrouted_47 : decode cX6_misrouted 47 = .ok (.if_icmp .eq 7, 3) := by decide +kernel
theorem dX6_misrouted_50 : decode cX6_misrouted 50 = .ok (.iconst 1, 1) := by decide +kernel
theorem dX6_misrouted_51 : decode cX6_misrouted 51 = .ok (.goto 4, 3) := by decide +kernel
theorem dX6_misrouted_54 : decode cX6_misrouted 54 = .ok (.iconst 0, 1) := by decide +kernel
theorem dX6_misrouted_55 : decode cX6_misrouted 55 = .ok (.ireturn, 1) := by decide +kernel
theorem dX6_addFlight_0 : decode cX6_addFlight 0 = .ok (.aload_n 0, 1) := by decide +kernel
theorem dX6_addFlight_1 : decode cX6_addFlight 1 = .ok (.iconst 0, 1) := by decide +kernel
theorem dX6_addFlight_2 : decode cX6_addFlight 2 = .ok (.putfield 46, 3) := by decide +kernel
theorem dX6_addFlight_5 : decode cX6_addFlight 5 = .ok (.aload_n 0, 1) := by decide +kernel
theorem dX6_addFlight_6 : decode cX6_addFlight 6 = .ok (.getfield 56, 3) := by decide +kernel
theorem dX6_addFlight_9 : decode cX6_addFlight 9 = .ok (.bipush 6, 2) := by decide +kernel
theorem dX6_addFlight_11 : decode cX6_addFlight 11 = .ok (.if_icmp .ne 9, 3) := by decide +kernel
theorem dX6_addFlight_14 : decode cX6_addFlight 14 = .ok (.aload_n 0, 1) := by decide +kernel
theorem dX6_addFlight_15 : decode cX6_addFlight 15 = .ok (.iconst 1, 1) := by decide +kernel
theorem dX6_addFlight_16 : decode cX6_addFlight 16 = .ok (.invokevirtual 110, 3) := by decide +kernel
theorem dX6_addFlight_19 : decode cX6_addFlight 19 = .ok (.ireturn, 1) := by decide +kernel
theorem dX6_addFlight_20 : decode cX6_addFlight 20 = .ok (.aload_n 0, 1) := by decide +kernel
theorem dX6_addFlight_21 : decode cX6_addFlight 21 = .ok (.dup, 1) := by decide +kernel
theorem dX6_addFlight_22 : decode cX6_addFlight 22 = .ok (.getfield 56, 3) := by decide +kernel
theorem dX6_addFlight_25 : decode cX6_addFlight 25 = .ok (.iconst 1, 1) := by decide +kernel
theorem dX6_addFlight_26 : decode cX6_addFlight 26 = .ok (.iadd, 1) := by decide +kernel
theorem dX6_addFlight_27 : decode cX6_addFlight 27 = .ok (.putfield 56, 3) := by decide +kernel
theorem dX6_addFlight_30 : decode cX6_addFlight 30 = .ok (.aload_n 0, 1) := by decide +kernel
theorem dX6_addFlight_31 : decode cX6_addFlight 31 = .ok (.getfield 56, 3) := by decide +kernel
theorem dX6_addFlight_34 : decode cX6_addFlight 34 = .ok (.iconst 1, 1) := by decide +kernel
theorem dX6_addFlight_35 : decode cX6_addFlight 35 = .ok (.isub, 1) := by decide +kernel
theorem dX6_addFlight_36 : decode cX6_addFlight 36 = .ok (.ireturn, 1) := by decide +kernel
theorem dX6_giveChute_0 : decode cX6_giveChute 0 = .ok (.aload_n 0, 1) := by decide +kernel
theorem dX6_giveChute_1 : decode cX6_giveChute 1 = .ok (.iconst 0, 1) := by decide +kernel
theorem dX6_giveChute_2 : decode cX6_giveChute 2 = .ok (.putfield 46, 3) := by decide +kernel
theorem dX6_giveChute_5 : decode cX6_giveChute 5 = .ok (.aload_n 0, 1) := by decide +kernel
theorem dX6_giveChute_6 : decode cX6_giveChute 6 = .ok (.iload_n 1, 1) := by decide +kernel
theorem dX6_giveChute_7 : decode cX6_giveChute 7 = .ok (.invokevirtual 114, 3) := by decide +kernel
theorem dX6_giveChute_10 : decode cX6_giveChute 10 = .ok (.ifCond .eq 10, 3) := by decide +kernel
theorem dX6_giveChute_13 : decode cX6_giveChute 13 = .ok (.iload_n 2, 1) := by decide +kernel
theorem dX6_giveChute_14 : decode cX6_giveChute 14 = .ok (.invokestatic 118, 3) := by decide +kernel
theorem dX6_giveChute_17 : decode cX6_giveChute 17 = .ok (.ifCond .ne 9, 3) := by decide +kernel
theorem dX6_giveChute_20 : decode cX6_giveChute 20 = .ok (.aload_n 0, 1) := by decide +kernel
theorem dX6_giveChute_21 : decode cX6_giveChute 21 = .ok (.iconst 1, 1) := by decide +kernel
theorem dX6_giveChute_22 : decode cX6_giveChute 22 = .ok (.invokevirtual 110, 3) := by decide +kernel
theorem dX6_giveChute_25 : decode cX6_giveChute 25 = .ok (.ireturn, 1) := by decide +kernel
theorem dX6_giveChute_26 : decode cX6_giveChute 26 = .ok (.aload_n 0, 1) := by decide +kernel
theorem dX6_giveChute_27 : decode cX6_giveChute 27 = .ok (.getfield 13, 3) := by decide +kernel
theorem dX6_giveChute_30 : decode cX6_giveChute 30 = .ok (.iload_n 1, 1) := by decide +kernel
theorem dX6_giveChute_31 : decode cX6_giveChute 31 = .ok (.baload, 1) := by decide +kernel
theorem dX6_giveChute_32 : decode cX6_giveChute 32 = .ok (.ifCond .eq 9, 3) := by decide +kernel
theorem dX6_giveChute_35 : decode cX6_giveChute 35 = .ok (.aload_n 0, 1) := by decide +kernel
theorem dX6_giveChute_36 : decode cX6_giveChute 36 = .ok (.iconst 2, 1) := by decide +kernel
theorem dX6_giveChute_37 : decode cX6_giveChute 37 = .ok (.invokevirtual 110, 3) := by decide +kernel
theorem dX6_giveChute_40 : decode cX6_giveChute 40 = .ok (.ireturn, 1) := by decide +kernel
theorem dX6_giveChute_41 : decode cX6_giveChute 41 = .ok (.iconst 0, 1) := by decide +kernel
theorem dX6_giveChute_42 : decode cX6_giveChute 42 = .ok (.istore_n 3, 1) := by decide +kernel
theorem dX6_giveChute_43 : decode cX6_giveChute 43 = .ok (.iconst 0, 1) := by decide +kernel
theorem dX6_giveChute_44 : decode cX6_giveChute 44 = .ok (.istore 4, 2) := by decide +kernel
theorem dX6_giveChute_46 : decode cX6_giveChute 46 = .ok (.iload 4, 2) := by decide +kernel
theorem dX6_giveChute_48 : decode cX6_giveChute 48 = .ok (.aload_n 0, 1) := by decide +kernel
theorem dX6_giveChute_49 : decode cX6_giveChute 49 = .ok (.getfield 49, 3) := by decide +kernel
theorem dX6_giveChute_52 : decode cX6_giveChute 52 = .ok (.if_icmp .ge 71, 3) := by decide +kernel
theorem dX6_giveChute_55 : decode cX6_giveChute 55 = .ok (.iload_n 3, 1) := by decide +kernel
theorem dX6_giveChute_56 : decode cX6_giveChute 56 = .ok (.aload_n 0, 1) := by decide +kernel
theorem dX6_giveChute_57 : decode cX6_giveChute 57 = .ok (.getfield 24, 3) := by decide +kernel
theorem dX6_giveChute_60 : decode cX6_giveChute 60 = .ok (.iload 4, 2) := by decide +kernel
theorem dX6_giveChute_62 : decode cX6_giveChute 62 = .ok (.iaload, 1) := by decide +kernel
theorem dX6_giveChute_63 : decode cX6_giveChute 63 = .ok (.iload_n 1, 1) := by decide +kernel
theorem dX6_giveChute_64 : decode cX6_giveChute 64 = .ok (.if_icmp .ne 50, 3) := by decide +kernel
theorem dX6_giveChute_67 : decode cX6_giveChute 67 = .ok (.aload_n 0, 1) := by decide +kernel
theorem dX6_giveChute_68 : decode cX6_giveChute 68 = .ok (.getfield 39, 3) := by decide +kernel
theorem dX6_giveChute_71 : decode cX6_giveChute 71 = .ok (.getfield 104, 3) := by decide +kernel
theorem dX6_giveChute_74 : decode cX6_giveChute 74 = .ok (.iload 4, 2) := by decide +kernel
theorem dX6_giveChute_76 : decode cX6_giveChute 76 = .ok (.iaload, 1) := by decide +kernel
theorem dX6_giveChute_77 : decode cX6_giveChute 77 = .ok (.iconst 2, 1) := by decide +kernel
theorem dX6_giveChute_78 : decode cX6_giveChute 78 = .ok (.if_icmp .ne 36, 3) := by decide +kernel
theorem dX6_giveChute_81 : decode cX6_giveChute 81 = .ok (.aload_n 0, 1) := by decide +kernel
theorem dX6_giveChute_82 : decode cX6_giveChute 82 = .ok (.getfield 39, 3) := by decide +kernel
theorem dX6_giveChute_85 : decode cX6_giveChute 85 = .ok (.getfield 107, 3) := by decide +kernel
theorem dX6_giveChute_88 : decode cX6_giveChute 88 = .ok (.iload 4, 2) := by decide +kernel
theorem dX6_giveChute_90 : decode cX6_giveChute 90 = .ok (.iaload, 1) := by decide +kernel
theorem dX6_giveChute_91 : decode cX6_giveChute 91 = .ok (.aload_n 0, 1) := by decide +kernel
theorem dX6_giveChute_92 : decode cX6_giveChute 92 = .ok (.getfield 9, 3) := by decide +kernel
theorem dX6_giveChute_95 : decode cX6_giveChute 95 = .ok (.iload_n 1, 1) := by decide +kernel
theorem dX6_giveChute_96 : decode cX6_giveChute 96 = .ok (.iaload, 1) := by decide +kernel
theorem dX6_giveChute_97 : decode cX6_giveChute 97 = .ok (.if_icmp .ne 17, 3) := by decide +kernel
theorem dX6_giveChute_100 : decode cX6_giveChute 100 = .ok (.iload_n 2, 1) := by decide +kernel
theorem dX6_giveChute_101 : decode cX6_giveChute 101 = .ok (.aload_n 0, 1) := by decide +kernel
theorem dX6_giveChute_102 : decode cX6_giveChute 102 = .ok (.getfield 9, 3) := by decide +kernel
theorem dX6_giveChute_105 : decode cX6_giveChute 105 = .ok (.iload_n 1, 1) := by decide +kernel
theorem dX6_giveChute_106 : decode cX6_giveChute 106 = .ok (.iaload, 1) := by decide +kernel
theorem dX6_giveChute_107 : decode cX6_giveChute 107 = .ok (.if_icmp .eq 7, 3) := by decide +kernel
theorem dX6_giveChute_110 : decode cX6_giveChute 110 = .ok (.iconst 1, 1) := by decide +kernel
theorem dX6_giveChute_111 : decode cX6_giveChute 111 = .ok (.goto 4, 3) := by decide +kernel
theorem dX6_giveChute_114 : decode cX6_giveChute 114 = .ok (.iconst 0, 1) := by decide +kernel
theorem dX6_giveChute_115 : decode cX6_giveChute 115 = .ok (.iadd, 1) := by decide +kernel
theorem dX6_giveChute_116 : decode cX6_giveChute 116 = .ok (.istore_n 3, 1) := by decide +kernel
theorem dX6_giveChute_117 : decode cX6_giveChute 117 = .ok (.iinc 4 1, 3) := by decide +kernel
theorem dX6_giveChute_120 : decode cX6_giveChute 120 = .ok (.goto (-74), 3) := by decide +kernel
theorem dX6_giveChute_123 : decode cX6_giveChute 123 = .ok (.aload_n 0, 1) := by decide +kernel
theorem dX6_giveChute_124 : decode cX6_giveChute 124 = .ok (.getfield 9, 3) := by decide +kernel
theorem dX6_giveChute_127 : decode cX6_giveChute 127 = .ok (.iload_n 1, 1) := by decide +kernel
theorem dX6_giveChute_128 : decode cX6_giveChute 128 = .ok (.iload_n 2, 1) := by decide +kernel
theorem dX6_giveChute_129 : decode cX6_giveChute 129 = .ok (.iastore, 1) := by decide +kernel
theorem dX6_giveChute_130 : decode cX6_giveChute 130 = .ok (.iload_n 3, 1) := by decide +kernel
theorem dX6_giveChute_131 : decode cX6_giveChute 131 = .ok (.ireturn, 1) := by decide +kernel
theorem dX6_setReader_0 : decode cX6_setReader 0 = .ok (.aload_n 0, 1) := by decide +kernel
theorem dX6_setReader_1 : decode cX6_setReader 1 = .ok (.iconst 0, 1) := by decide +kernel
theorem dX6_setReader_2 : decode cX6_setReader 2 = .ok (.putfield 46, 3) := by decide +kernel
theorem dX6_setReader_5 : decode cX6_setReader 5 = .ok (.iload_n 1, 1) := by decide +kernel
theorem dX6_setReader_6 : decode cX6_setReader 6 = .ok (.iconst 0, 1) := by decide +kernel
theorem dX6_setReader_7 : decode cX6_setReader 7 = .ok (.bipush 9, 2) := by decide +kernel
theorem dX6_setReader_9 : decode cX6_setReader 9 = .ok (.invokestatic 52, 3) := by decide +kernel
theorem dX6_setReader_12 : decode cX6_setReader 12 = .ok (.ifCond .ne 9, 3) := by decide +kernel
theorem dX6_setReader_15 : decode cX6_setReader 15 = .ok (.aload_n 0, 1) := by decide +kernel
theorem dX6_setReader_16 : decode cX6_setReader 16 = .ok (.iconst 1, 1) := by decide +kernel
theorem dX6_setReader_17 : decode cX6_setReader 17 = .ok (.invokevirtual 110, 3) := by decide +kernel
theorem dX6_setReader_20 : decode cX6_setReader 20 = .ok (.ireturn, 1) := by decide +kernel
theorem dX6_setReader_21 : decode cX6_setReader 21 = .ok (.aload_n 0, 1) := by decide +kernel
theorem dX6_setReader_22 : decode cX6_setReader 22 = .ok (.getfield 20, 3) := by decide +kernel
theorem dX6_setReader_25 : decode cX6_setReader 25 = .ok (.istore_n 2, 1) := by decide +kernel
theorem dX6_setReader_26 : decode cX6_setReader 26 = .ok (.aload_n 0, 1) := by decide +kernel
theorem dX6_setReader_27 : decode cX6_setReader 27 = .ok (.iload_n 1, 1) := by decide +kernel
theorem dX6_setReader_28 : decode cX6_setReader 28 = .ok (.putfield 20, 3) := by decide +kernel
theorem dX6_setReader_31 : decode cX6_setReader 31 = .ok (.iload_n 2, 1) := by decide +kernel
theorem dX6_setReader_32 : decode cX6_setReader 32 = .ok (.ireturn, 1) := by decide +kernel
theorem dX6_setRoom_0 : decode cX6_setRoom 0 = .ok (.aload_n 0, 1) := by decide +kernel
theorem dX6_setRoom_1 : decode cX6_setRoom 1 = .ok (.iconst 0, 1) := by decide +kernel
theorem dX6_setRoom_2 : decode cX6_setRoom 2 = .ok (.putfield 46, 3) := by decide +kernel
theorem dX6_setRoom_5 : decode cX6_setRoom 5 = .ok (.iload_n 1, 1) := by decide +kernel
theorem dX6_setRoom_6 : decode cX6_setRoom 6 = .ok (.invokestatic 118, 3) := by decide +kernel
theorem dX6_setRoom_9 : decode cX6_setRoom 9 = .ok (.ifCond .ne 9, 3) := by decide +kernel
theorem dX6_setRoom_12 : decode cX6_setRoom 12 = .ok (.aload_n 0, 1) := by decide +kernel
theorem dX6_setRoom_13 : decode cX6_setRoom 13 = .ok (.iconst 1, 1) := by decide +kernel
theorem dX6_setRoom_14 : decode cX6_setRoom 14 = .ok (.invokevirtual 110, 3) := by decide +kernel
theorem dX6_setRoom_17 : decode cX6_setRoom 17 = .ok (.ireturn, 1) := by decide +kernel
theorem dX6_setRoom_18 : decode cX6_setRoom 18 = .ok (.iload_n 2, 1) := by decide +kernel
theorem dX6_setRoom_19 : decode cX6_setRoom 19 = .ok (.iconst 1, 1) := by decide +kernel
theorem dX6_setRoom_20 : decode cX6_setRoom 20 = .ok (.bipush 20, 2) := by decide +kernel
theorem dX6_setRoom_22 : decode cX6_setRoom 22 = .ok (.invokestatic 52, 3) := by decide +kernel
theorem dX6_setRoom_25 : decode cX6_setRoom 25 = .ok (.ifCond .ne 9, 3) := by decide +kernel
theorem dX6_setRoom_28 : decode cX6_setRoom 28 = .ok (.aload_n 0, 1) := by decide +kernel
theorem dX6_setRoom_29 : decode cX6_setRoom 29 = .ok (.iconst 2, 1) := by decide +kernel
theorem dX6_setRoom_30 : decode cX6_setRoom 30 = .ok (.invokevirtual 110, 3) := by decide +kernel
theorem dX6_setRoom_33 : decode cX6_setRoom 33 = .ok (.ireturn, 1) := by decide +kernel
theorem dX6_setRoom_34 : decode cX6_setRoom 34 = .ok (.aload_n 0, 1) := by decide +kernel
theorem dX6_setRoom_35 : decode cX6_setRoom 35 = .ok (.getfield 17, 3) := by decide +kernel
theorem dX6_setRoom_38 : decode cX6_setRoom 38 = .ok (.iload_n 1, 1) := by decide +kernel
theorem dX6_setRoom_39 : decode cX6_setRoom 39 = .ok (.iaload, 1) := by decide +kernel
theorem dX6_setRoom_40 : decode cX6_setRoom 40 = .ok (.istore_n 3, 1) := by decide +kernel
theorem dX6_setRoom_41 : decode cX6_setRoom 41 = .ok (.aload_n 0, 1) := by decide +kernel
theorem dX6_setRoom_42 : decode cX6_setRoom 42 = .ok (.getfield 17, 3) := by decide +kernel
theorem dX6_setRoom_45 : decode cX6_setRoom 45 = .ok (.iload_n 1, 1) := by decide +kernel
theorem dX6_setRoom_46 : decode cX6_setRoom 46 = .ok (.iload_n 2, 1) := by decide +kernel
theorem dX6_setRoom_47 : decode cX6_setRoom 47 = .ok (.iastore, 1) := by decide +kernel
theorem dX6_setRoom_48 : decode cX6_setRoom 48 = .ok (.iload_n 3, 1) := by decide +kernel
theorem dX6_setRoom_49 : decode cX6_setRoom 49 = .ok (.ireturn, 1) := by decide +kernel
theorem dX6_begin_0 : decode cX6_begin 0 = .ok (.aload_n 0, 1) := by decide +kernel
theorem dX6_begin_1 : decode cX6_begin 1 = .ok (.getfield 39, 3) := by decide +kernel
theorem dX6_begin_4 : decode cX6_begin 4 = .ok (.getfield 62, 3) := by decide +kernel
theorem dX6_begin_7 : decode cX6_begin 7 = .ok (.iload_n 1, 1) := by decide +kernel
theorem dX6_begin_8 : decode cX6_begin 8 = .ok (.iconst (-1), 1) := by decide +kernel
theorem dX6_begin_9 : decode cX6_begin 9 = .ok (.iastore, 1) := by decide +kernel
theorem dX6_begin_10 : decode cX6_begin 10 = .ok (.aload_n 0, 1) := by decide +kernel
theorem dX6_begin_11 : decode cX6_begin 11 = .ok (.getfield 39, 3) := by decide +kernel
theorem dX6_begin_14 : decode cX6_begin 14 = .ok (.getfield 65, 3) := by decide +kernel
theorem dX6_begin_17 : decode cX6_begin 17 = .ok (.iload_n 1, 1) := by decide +kernel
theorem dX6_begin_18 : decode cX6_begin 18 = .ok (.iconst 0, 1) := by decide +kernel
theorem dX6_begin_19 : decode cX6_begin 19 = .ok (.iastore, 1) := by decide +kernel
theorem dX6_begin_20 : decode cX6_begin 20 = .ok (.aload_n 0, 1) := by decide +kernel
theorem dX6_begin_21 : decode cX6_begin 21 = .ok (.getfield 27, 3) := by decide +kernel
theorem dX6_begin_24 : decode cX6_begin 24 = .ok (.iload_n 1, 1) := by decide +kernel
theorem dX6_begin_25 : decode cX6_begin 25 = .ok (.iaload, 1) := by decide +kernel
theorem dX6_begin_26 : decode cX6_begin 26 = .ok (.bipush 7, 2) := by decide +kernel
theorem dX6_begin_28 : decode cX6_begin 28 = .ok (.if_icmp .le 16, 3) := by decide +kernel
theorem dX6_begin_31 : decode cX6_begin 31 = .ok (.aload_n 0, 1) := by decide +kernel
theorem dX6_begin_32 : decode cX6_begin 32 = .ok (.getfield 39, 3) := by decide +kernel
theorem dX6_begin_35 : decode cX6_begin 35 = .ok (.iload_n 1, 1) := by decide +kernel
theorem dX6_begin_36 : decode cX6_begin 36 = .ok (.iconst 4, 1) := by decide +kernel
theorem dX6_begin_37 : decode cX6_begin 37 = .ok (.iconst (-1), 1) := by decide +kernel
theorem dX6_begin_38 : decode cX6_begin 38 = .ok (.invokevirtual 68, 3) := by decide +kernel
theorem dX6_begin_41 : decode cX6_begin 41 = .ok (.goto 11, 3) := by decide +kernel
theorem dX6_begin_44 : decode cX6_begin 44 = .ok (.aload_n 0, 1) := by decide +kernel
theorem dX6_begin_45 : decode cX6_begin 45 = .ok (.getfield 39, 3) := by decide +kernel
theorem dX6_begin_48 : decode cX6_begin 48 = .ok (.iload_n 1, 1) := by decide +kernel
theorem dX6_begin_49 : decode cX6_begin 49 = .ok (.invokevirtual 121, 3) := by decide +kernel
theorem dX6_begin_52 : decode cX6_begin 52 = .ok (.return_, 1) := by decide +kernel
theorem dX6_checkIn_0 : decode cX6_checkIn 0 = .ok (.aload_n 0, 1) := by decide +kernel
theorem dX6_checkIn_1 : decode cX6_checkIn 1 = .ok (.iconst 0, 1) := by decide +kernel
theorem dX6_checkIn_2 : decode cX6_checkIn 2 = .ok (.putfield 46, 3) := by decide +kernel
theorem dX6_checkIn_5 : decode cX6_checkIn 5 = .ok (.aload_n 0, 1) := by decide +kernel
theorem dX6_checkIn_6 : decode cX6_checkIn 6 = .ok (.iload_n 1, 1) := by decide +kernel
theorem dX6_checkIn_7 : decode cX6_checkIn 7 = .ok (.invokevirtual 114, 3) := by decide +kernel
theorem dX6_checkIn_10 : decode cX6_checkIn 10 = .ok (.ifCond .ne 9, 3) := by decide +kernel
theorem dX6_checkIn_13 : decode cX6_checkIn 13 = .ok (.aload_n 0, 1) := by decide +kernel
theorem dX6_checkIn_14 : decode cX6_checkIn 14 = .ok (.iconst 1, 1) := by decide +kernel
theorem dX6_checkIn_15 : decode cX6_checkIn 15 = .ok (.invokevirtual 110, 3) := by decide +kernel
theorem dX6_checkIn_18 : decode cX6_checkIn 18 = .ok (.ireturn, 1) := by decide +kernel
theorem dX6_checkIn_19 : decode cX6_checkIn 19 = .ok (.iload_n 2, 1) := by decide +kernel
theorem dX6_checkIn_20 : decode cX6_checkIn 20 = .ok (.iconst 1, 1) := by decide +kernel
theorem dX6_checkIn_21 : decode cX6_checkIn 21 = .ok (.bipush 9, 2) := by decide +kernel
theorem dX6_checkIn_23 : decode cX6_checkIn 23 = .ok (.invokestatic 52, 3) := by decide +kernel
theorem dX6_checkIn_26 : decode cX6_checkIn 26 = .ok (.ifCond .eq 13, 3) := by decide +kernel
theorem dX6_checkIn_29 : decode cX6_checkIn 29 = .ok (.iload_n 3, 1) := by decide +kernel
theorem dX6_checkIn_30 : decode cX6_checkIn 30 = .ok (.iconst 0, 1) := by decide +kernel
theorem dX6_checkIn_31 : decode cX6_checkIn 31 = .ok (.bipush 9, 2) := by decide +kernel
theorem dX6_checkIn_33 : decode cX6_checkIn 33 = .ok (.invokestatic 52, 3) := by decide +kernel
theorem dX6_checkIn_36 : decode cX6_checkIn 36 = .ok (.ifCond .ne 9, 3) := by decide +kernel
theorem dX6_checkIn_39 : decode cX6_checkIn 39 = .ok (.aload_n 0, 1) := by decide +kernel
theorem dX6_checkIn_40 : decode cX6_checkIn 40 = .ok (.iconst 2, 1) := by decide +kernel
theorem dX6_checkIn_41 : decode cX6_checkIn 41 = .ok (.invokevirtual 110, 3) := by decide +kernel
theorem dX6_checkIn_44 : decode cX6_checkIn 44 = .ok (.ireturn, 1) := by decide +kernel
theorem dX6_checkIn_45 : decode cX6_checkIn 45 = .ok (.aload_n 0, 1) := by decide +kernel
theorem dX6_checkIn_46 : decode cX6_checkIn 46 = .ok (.getfield 49, 3) := by decide +kernel
theorem dX6_checkIn_49 : decode cX6_checkIn 49 = .ok (.bipush 40, 2) := by decide +kernel
theorem dX6_checkIn_51 : decode cX6_checkIn 51 = .ok (.if_icmp .eq 12, 3) := by decide +kernel
theorem dX6_checkIn_54 : decode cX6_checkIn 54 = .ok (.aload_n 0, 1) := by decide +kernel
theorem dX6_checkIn_55 : decode cX6_checkIn 55 = .ok (.getfield 13, 3) := by decide +kernel
theorem dX6_checkIn_58 : decode cX6_checkIn 58 = .ok (.iload_n 1, 1) := by decide +kernel
theorem dX6_checkIn_59 : decode cX6_checkIn 59 = .ok (.baload, 1) := by decide +kernel
theorem dX6_checkIn_60 : decode cX6_checkIn 60 = .ok (.ifCond .eq 9, 3) := by decide +kernel
theorem dX6_checkIn_63 : decode cX6_checkIn 63 = .ok (.aload_n 0, 1) := by decide +kernel
theorem dX6_checkIn_64 : decode cX6_checkIn 64 = .ok (.iconst 3, 1) := by decide +kernel
theorem dX6_checkIn_65 : decode cX6_checkIn 65 = .ok (.invokevirtual 110, 3) := by decide +kernel
theorem dX6_checkIn_68 : decode cX6_checkIn 68 = .ok (.ireturn, 1) := by decide +kernel
theorem dX6_checkIn_69 : decode cX6_checkIn 69 = .ok (.aload_n 0, 1) := by decide +kernel
theorem dX6_checkIn_70 : decode cX6_checkIn 70 = .ok (.getfield 24, 3) := by decide +kernel
theorem dX6_checkIn_73 : decode cX6_checkIn 73 = .ok (.aload_n 0, 1) := by decide +kernel
theorem dX6_checkIn_74 : decode cX6_checkIn 74 = .ok (.getfield 49, 3) := by decide +kernel
theorem dX6_checkIn_77 : decode cX6_checkIn 77 = .ok (.iload_n 1, 1) := by decide +kernel
theorem dX6_checkIn_78 : decode cX6_checkIn 78 = .ok (.iastore, 1) := by decide +kernel
theorem dX6_checkIn_79 : decode cX6_checkIn 79 = .ok (.aload_n 0, 1) := by decide +kernel
theorem dX6_checkIn_80 : decode cX6_checkIn 80 = .ok (.getfield 27, 3) := by decide +kernel
theorem dX6_checkIn_83 : decode cX6_checkIn 83 = .ok (.aload_n 0, 1) := by decide +kernel
theorem dX6_checkIn_84 : decode cX6_checkIn 84 = .ok (.getfield 49, 3) := by decide +kernel
theorem dX6_checkIn_87 : decode cX6_checkIn 87 = .ok (.iload_n 2, 1) := by decide +kernel
theorem dX6_checkIn_88 : decode cX6_checkIn 88 = .ok (.iastore, 1) := by decide +kernel
theorem dX6_checkIn_89 : decode cX6_checkIn 89 = .ok (.aload_n 0, 1) := by decide +kernel
theorem dX6_checkIn_90 : decode cX6_checkIn 90 = .ok (.getfield 30, 3) := by decide +kernel
theorem dX6_checkIn_93 : decode cX6_checkIn 93 = .ok (.aload_n 0, 1) := by decide +kernel
theorem dX6_checkIn_94 : decode cX6_checkIn 94 = .ok (.getfield 49, 3) := by decide +kernel
theorem dX6_checkIn_97 : decode cX6_checkIn 97 = .ok (.iload_n 3, 1) := by decide +kernel
theorem dX6_checkIn_98 : decode cX6_checkIn 98 = .ok (.iastore, 1) := by decide +kernel
theorem dX6_checkIn_99 : decode cX6_checkIn 99 = .ok (.aload_n 0, 1) := by decide +kernel
theorem dX6_checkIn_100 : decode cX6_checkIn 100 = .ok (.getfield 33, 3) := by decide +kernel
theorem dX6_checkIn_103 : decode cX6_checkIn 103 = .ok (.aload_n 0, 1) := by decide +kernel
theorem dX6_checkIn_104 : decode cX6_checkIn 104 = .ok (.getfield 49, 3) := by decide +kernel
theorem dX6_checkIn_107 : decode cX6_checkIn 107 = .ok (.iconst 0, 1) := by decide +kernel
theorem dX6_checkIn_108 : decode cX6_checkIn 108 = .ok (.iastore, 1) := by decide +kernel
theorem dX6_checkIn_109 : decode cX6_checkIn 109 = .ok (.aload_n 0, 1) := by decide +kernel
theorem dX6_checkIn_110 : decode cX6_checkIn 110 = .ok (.aload_n 0, 1) := by decide +kernel
theorem dX6_checkIn_111 : decode cX6_checkIn 111 = .ok (.getfield 49, 3) := by decide +kernel
theorem dX6_checkIn_114 : decode cX6_checkIn 114 = .ok (.invokevirtual 125, 3) := by decide +kernel
theorem dX6_checkIn_117 : decode cX6_checkIn 117 = .ok (.aload_n 0, 1) := by decide +kernel
theorem dX6_checkIn_118 : decode cX6_checkIn 118 = .ok (.dup, 1) := by decide +kernel
theorem dX6_checkIn_119 : decode cX6_checkIn 119 = .ok (.getfield 49, 3) := by decide +kernel
theorem dX6_checkIn_122 : decode cX6_checkIn 122 = .ok (.iconst 1, 1) := by decide +kernel
theorem dX6_checkIn_123 : decode cX6_checkIn 123 = .ok (.iadd, 1) := by decide +kernel
theorem dX6_checkIn_124 : decode cX6_checkIn 124 = .ok (.putfield 49, 3) := by decide +kernel
theorem dX6_checkIn_127 : decode cX6_checkIn 127 = .ok (.aload_n 0, 1) := by decide +kernel
theorem dX6_checkIn_128 : decode cX6_checkIn 128 = .ok (.getfield 49, 3) := by decide +kernel
theorem dX6_checkIn_131 : decode cX6_checkIn 131 = .ok (.iconst 1, 1) := by decide +kernel
theorem dX6_checkIn_132 : decode cX6_checkIn 132 = .ok (.isub, 1) := by decide +kernel
theorem dX6_checkIn_133 : decode cX6_checkIn 133 = .ok (.ireturn, 1) := by decide +kernel
theorem dX6_isAside_0 : decode cX6_isAside 0 = .ok (.aload_n 0, 1) := by decide +kernel
theorem dX6_isAside_1 : decode cX6_isAside 1 = .ok (.getfield 39, 3) := by decide +kernel
theorem dX6_isAside_4 : decode cX6_isAside 4 = .ok (.getfield 104, 3) := by decide +kernel
theorem dX6_isAside_7 : decode cX6_isAside 7 = .ok (.iload_n 1, 1) := by decide +kernel
theorem dX6_isAside_8 : decode cX6_isAside 8 = .ok (.iaload, 1) := by decide +kernel
theorem dX6_isAside_9 : decode cX6_isAside 9 = .ok (.iconst 3, 1) := by decide +kernel
theorem dX6_isAside_10 : decode cX6_isAside 10 = .ok (.if_icmp .eq 16, 3) := by decide +kernel
theorem dX6_isAside_13 : decode cX6_isAside 13 = .ok (.aload_n 0, 1) := by decide +kernel
theorem dX6_isAside_14 : decode cX6_isAside 14 = .ok (.getfield 39, 3) := by decide +kernel
theorem dX6_isAside_17 : decode cX6_isAside 17 = .ok (.getfield 104, 3) := by decide +kernel
theorem dX6_isAside_20 : decode cX6_isAside 20 = .ok (.iload_n 1, 1) := by decide +kernel
theorem dX6_isAside_21 : decode cX6_isAside 21 = .ok (.iaload, 1) := by decide +kernel
theorem dX6_isAside_22 : decode cX6_isAside 22 = .ok (.iconst 4, 1) := by decide +kernel
theorem dX6_isAside_23 : decode cX6_isAside 23 = .ok (.if_icmp .ne 7, 3) := by decide +kernel
theorem dX6_isAside_26 : decode cX6_isAside 26 = .ok (.iconst 1, 1) := by decide +kernel
theorem dX6_isAside_27 : decode cX6_isAside 27 = .ok (.goto 4, 3) := by decide +kernel
theorem dX6_isAside_30 : decode cX6_isAside 30 = .ok (.iconst 0, 1) := by decide +kernel
theorem dX6_isAside_31 : decode cX6_isAside 31 = .ok (.ireturn, 1) := by decide +kernel
theorem dX6_carry_0 : decode cX6_carry 0 = .ok (.aload_n 0, 1) := by decide +kernel
theorem dX6_carry_1 : decode cX6_carry 1 = .ok (.iconst 0, 1) := by decide +kernel
theorem dX6_carry_2 : decode cX6_carry 2 = .ok (.putfield 46, 3) := by decide +kernel
theorem dX6_carry_5 : decode cX6_carry 5 = .ok (.aload_n 0, 1) := by decide +kernel
theorem dX6_carry_6 : decode cX6_carry 6 = .ok (.iload_n 1, 1) := by decide +kernel
theorem dX6_carry_7 : decode cX6_carry 7 = .ok (.invokevirtual 128, 3) := by decide +kernel
theorem dX6_carry_10 : decode cX6_carry 10 = .ok (.ifCond .ne 9, 3) := by decide +kernel
theorem dX6_carry_13 : decode cX6_carry 13 = .ok (.aload_n 0, 1) := by decide +kernel
theorem dX6_carry_14 : decode cX6_carry 14 = .ok (.iconst 1, 1) := by decide +kernel
theorem dX6_carry_15 : decode cX6_carry 15 = .ok (.invokevirtual 110, 3) := by decide +kernel
theorem dX6_carry_18 : decode cX6_carry 18 = .ok (.ireturn, 1) := by decide +kernel
theorem dX6_carry_19 : decode cX6_carry 19 = .ok (.aload_n 0, 1) := by decide +kernel
theorem dX6_carry_20 : decode cX6_carry 20 = .ok (.getfield 24, 3) := by decide +kernel
theorem dX6_carry_23 : decode cX6_carry 23 = .ok (.iload_n 1, 1) := by decide +kernel
theorem dX6_carry_24 : decode cX6_carry 24 = .ok (.iaload, 1) := by decide +kernel
theorem dX6_carry_25 : decode cX6_carry 25 = .ok (.istore_n 2, 1) := by decide +kernel
theorem dX6_carry_26 : decode cX6_carry 26 = .ok (.aload_n 0, 1) := by decide +kernel
theorem dX6_carry_27 : decode cX6_carry 27 = .ok (.getfield 9, 3) := by decide +kernel
theorem dX6_carry_30 : decode cX6_carry 30 = .ok (.iload_n 2, 1) := by decide +kernel
theorem dX6_carry_31 : decode cX6_carry 31 = .ok (.iaload, 1) := by decide +kernel
theorem dX6_carry_32 : decode cX6_carry 32 = .ok (.istore_n 3, 1) := by decide +kernel
theorem dX6_carry_33 : decode cX6_carry 33 = .ok (.aload_n 0, 1) := by decide +kernel
theorem dX6_carry_34 : decode cX6_carry 34 = .ok (.iload_n 1, 1) := by decide +kernel
theorem dX6_carry_35 : decode cX6_carry 35 = .ok (.invokevirtual 131, 3) := by decide +kernel
theorem dX6_carry_38 : decode cX6_carry 38 = .ok (.ifCond .eq 35, 3) := by decide +kernel
theorem dX6_carry_41 : decode cX6_carry 41 = .ok (.aload_n 0, 1) := by decide +kernel
theorem dX6_carry_42 : decode cX6_carry 42 = .ok (.getfield 13, 3) := by decide +kernel
theorem dX6_carry_45 : decode cX6_carry 45 = .ok (.iload_n 2, 1) := by decide +kernel
theorem dX6_carry_46 : decode cX6_carry 46 = .ok (.baload, 1) := by decide +kernel
theorem dX6_carry_47 : decode cX6_carry 47 = .ok (.ifCond .ne 26, 3) := by decide +kernel
theorem dX6_carry_50 : decode cX6_carry 50 = .ok (.iload_n 3, 1) := by decide +kernel
theorem dX6_carry_51 : decode cX6_carry 51 = .ok (.iconst (-1), 1) := by decide +kernel
theorem dX6_carry_52 : decode cX6_carry 52 = .ok (.if_icmp .eq 21, 3) := by decide +kernel
theorem dX6_carry_55 : decode cX6_carry 55 = .ok (.aload_n 0, 1) := by decide +kernel
theorem dX6_carry_56 : decode cX6_carry 56 = .ok (.getfield 39, 3) := by decide +kernel
theorem dX6_carry_59 : decode cX6_carry 59 = .ok (.getfield 72, 3) := by decide +kernel
theorem dX6_carry_62 : decode cX6_carry 62 = .ok (.iload_n 3, 1) := by decide +kernel
theorem dX6_carry_63 : decode cX6_carry 63 = .ok (.iaload, 1) := by decide +kernel
theorem dX6_carry_64 : decode cX6_carry 64 = .ok (.aload_n 0, 1) := by decide +kernel
theorem dX6_carry_65 : decode cX6_carry 65 = .ok (.getfield 17, 3) := by decide +kernel
theorem dX6_carry_68 : decode cX6_carry 68 = .ok (.iload_n 3, 1) := by decide +kernel
theorem dX6_carry_69 : decode cX6_carry 69 = .ok (.iaload, 1) := by decide +kernel
theorem dX6_carry_70 : decode cX6_carry 70 = .ok (.if_icmp .lt 9, 3) := by decide +kernel
theorem dX6_carry_73 : decode cX6_carry 73 = .ok (.aload_n 0, 1) := by decide +kernel
theorem dX6_carry_74 : decode cX6_carry 74 = .ok (.iconst 2, 1) := by decide +kernel
theorem dX6_carry_75 : decode cX6_carry 75 = .ok (.invokevirtual 110, 3) := by decide +kernel
theorem dX6_carry_78 : decode cX6_carry 78 = .ok (.ireturn, 1) := by decide +kernel
theorem dX6_carry_79 : decode cX6_carry 79 = .ok (.aload_n 0, 1) := by decide +kernel
theorem dX6_carry_80 : decode cX6_carry 80 = .ok (.getfield 39, 3) := by decide +kernel
theorem dX6_carry_83 : decode cX6_carry 83 = .ok (.iload_n 1, 1) := by decide +kernel
theorem dX6_carry_84 : decode cX6_carry 84 = .ok (.iload_n 3, 1) := by decide +kernel
theorem dX6_carry_85 : decode cX6_carry 85 = .ok (.invokevirtual 75, 3) := by decide +kernel
theorem dX6_carry_88 : decode cX6_carry 88 = .ok (.iload_n 3, 1) := by decide +kernel
theorem dX6_carry_89 : decode cX6_carry 89 = .ok (.ireturn, 1) := by decide +kernel
theorem dX6_close_0 : decode cX6_close 0 = .ok (.aload_n 0, 1) := by decide +kernel
theorem dX6_close_1 : decode cX6_close 1 = .ok (.getfield 33, 3) := by decide +kernel
theorem dX6_close_4 : decode cX6_close 4 = .ok (.iload_n 1, 1) := by decide +kernel
theorem dX6_close_5 : decode cX6_close 5 = .ok (.iaload, 1) := by decide +kernel
theorem dX6_close_6 : decode cX6_close 6 = .ok (.iconst 1, 1) := by decide +kernel
theorem dX6_close_7 : decode cX6_close 7 = .ok (.if_icmp .ne 10, 3) := by decide +kernel
theorem dX6_close_10 : decode cX6_close 10 = .ok (.aload_n 0, 1) := by decide +kernel
theorem dX6_close_11 : decode cX6_close 11 = .ok (.getfield 33, 3) := by decide +kernel
theorem dX6_close_14 : decode cX6_close 14 = .ok (.iload_n 1, 1) := by decide +kernel
theorem dX6_close_15 : decode cX6_close 15 = .ok (.iconst 2, 1) := by decide +kernel
theorem dX6_close_16 : decode cX6_close 16 = .ok (.iastore, 1) := by decide +kernel
theorem dX6_close_17 : decode cX6_close 17 = .ok (.return_, 1) := by decide +kernel
theorem dX6_forward_0 : decode cX6_forward 0 = .ok (.aload_n 0, 1) := by decide +kernel
theorem dX6_forward_1 : decode cX6_forward 1 = .ok (.iconst 0, 1) := by decide +kernel
theorem dX6_forward_2 : decode cX6_forward 2 = .ok (.putfield 46, 3) := by decide +kernel
theorem dX6_forward_5 : decode cX6_forward 5 = .ok (.aload_n 0, 1) := by decide +kernel
theorem dX6_forward_6 : decode cX6_forward 6 = .ok (.iload_n 1, 1) := by decide +kernel
theorem dX6_forward_7 : decode cX6_forward 7 = .ok (.invokevirtual 128, 3) := by decide +kernel
theorem dX6_forward_10 : decode cX6_forward 10 = .ok (.ifCond .eq 11, 3) := by decide +kernel
theorem dX6_forward_13 : decode cX6_forward 13 = .ok (.aload_n 0, 1) := by decide +kernel
theorem dX6_forward_14 : decode cX6_forward 14 = .ok (.iload_n 2, 1) := by decide +kernel
theorem dX6_forward_15 : decode cX6_forward 15 = .ok (.invokevirtual 114, 3) := by decide +kernel
theorem dX6_forward_18 : decode cX6_forward 18 = .ok (.ifCond .ne 9, 3) := by decide +kernel
theorem dX6_forward_21 : decode cX6_forward 21 = .ok (.aload_n 0, 1) := by decide +kernel
theorem dX6_forward_22 : decode cX6_forward 22 = .ok (.iconst 1, 1) := by decide +kernel
theorem dX6_forward_23 : decode cX6_forward 23 = .ok (.invokevirtual 110, 3) := by decide +kernel
theorem dX6_forward_26 : decode cX6_forward 26 = .ok (.ireturn, 1) := by decide +kernel
theorem dX6_forward_27 : decode cX6_forward 27 = .ok (.aload_n 0, 1) := by decide +kernel
theorem dX6_forward_28 : decode cX6_forward 28 = .ok (.iload_n 1, 1) := by decide +kernel
theorem dX6_forward_29 : decode cX6_forward 29 = .ok (.invokevirtual 131, 3) := by decide +kernel
theorem dX6_forward_32 : decode cX6_forward 32 = .ok (.ifCond .eq 26, 3) := by decide +kernel
theorem dX6_forward_35 : decode cX6_forward 35 = .ok (.aload_n 0, 1) := by decide +kernel
theorem dX6_forward_36 : decode cX6_forward 36 = .ok (.getfield 13, 3) := by decide +kernel
theorem dX6_forward_39 : decode cX6_forward 39 = .ok (.aload_n 0, 1) := by decide +kernel
theorem dX6_forward_40 : decode cX6_forward 40 = .ok (.getfield 24, 3) := by decide +kernel
theorem dX6_forward_43 : decode cX6_forward 43 = .ok (.iload_n 1, 1) := by decide +kernel
theorem dX6_forward_44 : decode cX6_forward 44 = .ok (.iaload, 1) := by decide +kernel
theorem dX6_forward_45 : decode cX6_forward 45 = .ok (.baload, 1) := by decide +kernel
theorem dX6_forward_46 : decode cX6_forward 46 = .ok (.ifCond .eq 12, 3) := by decide +kernel
theorem dX6_forward_49 : decode cX6_forward 49 = .ok (.aload_n 0, 1) := by decide +kernel
theorem dX6_forward_50 : decode cX6_forward 50 = .ok (.getfield 13, 3) := by decide +kernel
theorem dX6_forward_53 : decode cX6_forward 53 = .ok (.iload_n 2, 1) := by decide +kernel
theorem dX6_forward_54 : decode cX6_forward 54 = .ok (.baload, 1) := by decide +kernel
theorem dX6_forward_55 : decode cX6_forward 55 = .ok (.ifCond .eq 9, 3) := by decide +kernel
theorem dX6_forward_58 : decode cX6_forward 58 = .ok (.aload_n 0, 1) := by decide +kernel
theorem dX6_forward_59 : decode cX6_forward 59 = .ok (.iconst 2, 1) := by decide +kernel
theorem dX6_forward_60 : decode cX6_forward 60 = .ok (.invokevirtual 110, 3) := by decide +kernel
theorem dX6_forward_63 : decode cX6_forward 63 = .ok (.ireturn, 1) := by decide +kernel
theorem dX6_forward_64 : decode cX6_forward 64 = .ok (.aload_n 0, 1) := by decide +kernel
theorem dX6_forward_65 : decode cX6_forward 65 = .ok (.getfield 24, 3) := by decide +kernel
theorem dX6_forward_68 : decode cX6_forward 68 = .ok (.iload_n 1, 1) := by decide +kernel
theorem dX6_forward_69 : decode cX6_forward 69 = .ok (.iload_n 2, 1) := by decide +kernel
theorem dX6_forward_70 : decode cX6_forward 70 = .ok (.iastore, 1) := by decide +kernel
theorem dX6_forward_71 : decode cX6_forward 71 = .ok (.aload_n 0, 1) := by decide +kernel
theorem dX6_forward_72 : decode cX6_forward 72 = .ok (.iload_n 1, 1) := by decide +kernel
theorem dX6_forward_73 : decode cX6_forward 73 = .ok (.invokevirtual 125, 3) := by decide +kernel
theorem dX6_forward_76 : decode cX6_forward 76 = .ok (.aload_n 0, 1) := by decide +kernel
theorem dX6_forward_77 : decode cX6_forward 77 = .ok (.iload_n 1, 1) := by decide +kernel
theorem dX6_forward_78 : decode cX6_forward 78 = .ok (.invokevirtual 134, 3) := by decide +kernel
theorem dX6_forward_81 : decode cX6_forward 81 = .ok (.aload_n 0, 1) := by decide +kernel
theorem dX6_forward_82 : decode cX6_forward 82 = .ok (.getfield 39, 3) := by decide +kernel
theorem dX6_forward_85 : decode cX6_forward 85 = .ok (.getfield 90, 3) := by decide +kernel
theorem dX6_forward_88 : decode cX6_forward 88 = .ok (.ireturn, 1) := by decide +kernel
theorem dX6_sweep_0 : decode cX6_sweep 0 = .ok (.aload_n 0, 1) := by decide +kernel
theorem dX6_sweep_1 : decode cX6_sweep 1 = .ok (.iconst 0, 1) := by decide +kernel
theorem dX6_sweep_2 : decode cX6_sweep 2 = .ok (.putfield 46, 3) := by decide +kernel
theorem dX6_sweep_5 : decode cX6_sweep 5 = .ok (.iload_n 1, 1) := by decide +kernel
theorem dX6_sweep_6 : decode cX6_sweep 6 = .ok (.invokestatic 118, 3) := by decide +kernel
theorem dX6_sweep_9 : decode cX6_sweep 9 = .ok (.ifCond .ne 9, 3) := by decide +kernel
theorem dX6_sweep_12 : decode cX6_sweep 12 = .ok (.aload_n 0, 1) := by decide +kernel
theorem dX6_sweep_13 : decode cX6_sweep 13 = .ok (.iconst 1, 1) := by decide +kernel
theorem dX6_sweep_14 : decode cX6_sweep 14 = .ok (.invokevirtual 110, 3) := by decide +kernel
theorem dX6_sweep_17 : decode cX6_sweep 17 = .ok (.ireturn, 1) := by decide +kernel
theorem dX6_sweep_18 : decode cX6_sweep 18 = .ok (.iconst 0, 1) := by decide +kernel
theorem dX6_sweep_19 : decode cX6_sweep 19 = .ok (.istore_n 2, 1) := by decide +kernel
theorem dX6_sweep_20 : decode cX6_sweep 20 = .ok (.iconst 0, 1) := by decide +kernel
theorem dX6_sweep_21 : decode cX6_sweep 21 = .ok (.istore_n 3, 1) := by decide +kernel
theorem dX6_sweep_22 : decode cX6_sweep 22 = .ok (.iload_n 3, 1) := by decide +kernel
theorem dX6_sweep_23 : decode cX6_sweep 23 = .ok (.aload_n 0, 1) := by decide +kernel
theorem dX6_sweep_24 : decode cX6_sweep 24 = .ok (.getfield 49, 3) := by decide +kernel
theorem dX6_sweep_27 : decode cX6_sweep 27 = .ok (.if_icmp .ge 64, 3) := by decide +kernel
theorem dX6_sweep_30 : decode cX6_sweep 30 = .ok (.aload_n 0, 1) := by decide +kernel
theorem dX6_sweep_31 : decode cX6_sweep 31 = .ok (.iload_n 3, 1) := by decide +kernel
theorem dX6_sweep_32 : decode cX6_sweep 32 = .ok (.invokevirtual 137, 3) := by decide +kernel
theorem dX6_sweep_35 : decode cX6_sweep 35 = .ok (.ifCond .eq 50, 3) := by decide +kernel
theorem dX6_sweep_38 : decode cX6_sweep 38 = .ok (.aload_n 0, 1) := by decide +kernel
theorem dX6_sweep_39 : decode cX6_sweep 39 = .ok (.getfield 39, 3) := by decide +kernel
theorem dX6_sweep_42 : decode cX6_sweep 42 = .ok (.getfield 107, 3) := by decide +kernel
theorem dX6_sweep_45 : decode cX6_sweep 45 = .ok (.iload_n 3, 1) := by decide +kernel
theorem dX6_sweep_46 : decode cX6_sweep 46 = .ok (.iaload, 1) := by decide +kernel
theorem dX6_sweep_47 : decode cX6_sweep 47 = .ok (.iload_n 1, 1) := by decide +kernel
theorem dX6_sweep_48 : decode cX6_sweep 48 = .ok (.if_icmp .eq 6, 3) := by decide +kernel
theorem dX6_sweep_51 : decode cX6_sweep 51 = .ok (.goto 34, 3) := by decide +kernel
theorem dX6_sweep_54 : decode cX6_sweep 54 = .ok (.aload_n 0, 1) := by decide +kernel
theorem dX6_sweep_55 : decode cX6_sweep 55 = .ok (.getfield 39, 3) := by decide +kernel
theorem dX6_sweep_58 : decode cX6_sweep 58 = .ok (.iload_n 3, 1) := by decide +kernel
theorem dX6_sweep_59 : decode cX6_sweep 59 = .ok (.iconst 3, 1) := by decide +kernel
theorem dX6_sweep_60 : decode cX6_sweep 60 = .ok (.iconst (-1), 1) := by decide +kernel
theorem dX6_sweep_61 : decode cX6_sweep 61 = .ok (.invokevirtual 68, 3) := by decide +kernel
theorem dX6_sweep_64 : decode cX6_sweep 64 = .ok (.aload_n 0, 1) := by decide +kernel
theorem dX6_sweep_65 : decode cX6_sweep 65 = .ok (.getfield 39, 3) := by decide +kernel
theorem dX6_sweep_68 : decode cX6_sweep 68 = .ok (.getfield 72, 3) := by decide +kernel
theorem dX6_sweep_71 : decode cX6_sweep 71 = .ok (.iload_n 1, 1) := by decide +kernel
theorem dX6_sweep_72 : decode cX6_sweep 72 = .ok (.dup2, 1) := by decide +kernel
theorem dX6_sweep_73 : decode cX6_sweep 73 = .ok (.iaload, 1) := by decide +kernel
theorem dX6_sweep_74 : decode cX6_sweep 74 = .ok (.iconst 1, 1) := by decide +kernel
theorem dX6_sweep_75 : decode cX6_sweep 75 = .ok (.isub, 1) := by decide +kernel
theorem dX6_sweep_76 : decode cX6_sweep 76 = .ok (.iastore, 1) := by decide +kernel
theorem dX6_sweep_77 : decode cX6_sweep 77 = .ok (.aload_n 0, 1) := by decide +kernel
theorem dX6_sweep_78 : decode cX6_sweep 78 = .ok (.iload_n 3, 1) := by decide +kernel
theorem dX6_sweep_79 : decode cX6_sweep 79 = .ok (.invokevirtual 134, 3) := by decide +kernel
theorem dX6_sweep_82 : decode cX6_sweep 82 = .ok (.iinc 2 1, 3) := by decide +kernel
theorem dX6_sweep_85 : decode cX6_sweep 85 = .ok (.iinc 3 1, 3) := by decide +kernel
theorem dX6_sweep_88 : decode cX6_sweep 88 = .ok (.goto (-66), 3) := by decide +kernel
theorem dX6_sweep_91 : decode cX6_sweep 91 = .ok (.iload_n 2, 1) := by decide +kernel
theorem dX6_sweep_92 : decode cX6_sweep 92 = .ok (.ireturn, 1) := by decide +kernel
theorem dX6_isInItsChute_0 : decode cX6_isInItsChute 0 = .ok (.aload_n 0, 1) := by decide +kernel
theorem dX6_isInItsChute_1 : decode cX6_isInItsChute 1 = .ok (.getfield 39, 3) := by decide +kernel
theorem dX6_isInItsChute_4 : decode cX6_isInItsChute 4 = .ok (.getfield 104, 3) := by decide +kernel
theorem dX6_isInItsChute_7 : decode cX6_isInItsChute 7 = .ok (.iload_n 1, 1) := by decide +kernel
theorem dX6_isInItsChute_8 : decode cX6_isInItsChute 8 = .ok (.iaload, 1) := by decide +kernel
theorem dX6_isInItsChute_9 : decode cX6_isInItsChute 9 = .ok (.iconst 2, 1) := by decide +kernel
theorem dX6_isInItsChute_10 : decode cX6_isInItsChute 10 = .ok (.if_icmp .ne 30, 3) := by decide +kernel
theorem dX6_isInItsChute_13 : decode cX6_isInItsChute 13 = .ok (.aload_n 0, 1) := by decide +kernel
theorem dX6_isInItsChute_14 : decode cX6_isInItsChute 14 = .ok (.getfield 39, 3) := by decide +kernel
theorem dX6_isInItsChute_17 : decode cX6_isInItsChute 17 = .ok (.getfield 107, 3) := by decide +kernel
theorem dX6_isInItsChute_20 : decode cX6_isInItsChute 20 = .ok (.iload_n 1, 1) := by decide +kernel
theorem dX6_isInItsChute_21 : decode cX6_isInItsChute 21 = .ok (.iaload, 1) := by decide +kernel
theorem dX6_isInItsChute_22 : decode cX6_isInItsChute 22 = .ok (.aload_n 0, 1) := by decide +kernel
theorem dX6_isInItsChute_23 : decode cX6_isInItsChute 23 = .ok (.getfield 9, 3) := by decide +kernel
theorem dX6_isInItsChute_26 : decode cX6_isInItsChute 26 = .ok (.aload_n 0, 1) := by decide +kernel
theorem dX6_isInItsChute_27 : decode cX6_isInItsChute 27 = .ok (.getfield 24, 3) := by decide +kernel
theorem dX6_isInItsChute_30 : decode cX6_isInItsChute 30 = .ok (.iload_n 1, 1) := by decide +kernel
theorem dX6_isInItsChute_31 : decode cX6_isInItsChute 31 = .ok (.iaload, 1) := by decide +kernel
theorem dX6_isInItsChute_32 : decode cX6_isInItsChute 32 = .ok (.iaload, 1) := by decide +kernel
theorem dX6_isInItsChute_33 : decode cX6_isInItsChute 33 = .ok (.if_icmp .ne 7, 3) := by decide +kernel
theorem dX6_isInItsChute_36 : decode cX6_isInItsChute 36 = .ok (.iconst 1, 1) := by decide +kernel
theorem dX6_isInItsChute_37 : decode cX6_isInItsChute 37 = .ok (.goto 4, 3) := by decide +kernel
theorem dX6_isInItsChute_40 : decode cX6_isInItsChute 40 = .ok (.iconst 0, 1) := by decide +kernel
theorem dX6_isInItsChute_41 : decode cX6_isInItsChute 41 = .ok (.ireturn, 1) := by decide +kernel
theorem dX6_depart_0 : decode cX6_depart 0 = .ok (.aload_n 0, 1) := by decide +kernel
theorem dX6_depart_1 : decode cX6_depart 1 = .ok (.iconst 0, 1) := by decide +kernel
theorem dX6_depart_2 : decode cX6_depart 2 = .ok (.putfield 46, 3) := by decide +kernel
theorem dX6_depart_5 : decode cX6_depart 5 = .ok (.aload_n 0, 1) := by decide +kernel
theorem dX6_depart_6 : decode cX6_depart 6 = .ok (.iload_n 1, 1) := by decide +kernel
theorem dX6_depart_7 : decode cX6_depart 7 = .ok (.invokevirtual 114, 3) := by decide +kernel
theorem dX6_depart_10 : decode cX6_depart 10 = .ok (.ifCond .ne 9, 3) := by decide +kernel
theorem dX6_depart_13 : decode cX6_depart 13 = .ok (.aload_n 0, 1) := by decide +kernel
theorem dX6_depart_14 : decode cX6_depart 14 = .ok (.iconst 1, 1) := by decide +kernel
theorem dX6_depart_15 : decode cX6_depart 15 = .ok (.invokevirtual 110, 3) := by decide +kernel
theorem dX6_depart_18 : decode cX6_depart 18 = .ok (.ireturn, 1) := by decide +kernel
theorem dX6_depart_19 : decode cX6_depart 19 = .ok (.aload_n 0, 1) := by decide +kernel
theorem dX6_depart_20 : decode cX6_depart 20 = .ok (.getfield 13, 3) := by decide +kernel
theorem dX6_depart_23 : decode cX6_depart 23 = .ok (.iload_n 1, 1) := by decide +kernel
theorem dX6_depart_24 : decode cX6_depart 24 = .ok (.baload, 1) := by decide +kernel
theorem dX6_depart_25 : decode cX6_depart 25 = .ok (.ifCond .eq 9, 3) := by decide +kernel
theorem dX6_depart_28 : decode cX6_depart 28 = .ok (.aload_n 0, 1) := by decide +kernel
theorem dX6_depart_29 : decode cX6_depart 29 = .ok (.iconst 2, 1) := by decide +kernel
theorem dX6_depart_30 : decode cX6_depart 30 = .ok (.invokevirtual 110, 3) := by decide +kernel
theorem dX6_depart_33 : decode cX6_depart 33 = .ok (.ireturn, 1) := by decide +kernel
theorem dX6_depart_34 : decode cX6_depart 34 = .ok (.iconst 0, 1) := by decide +kernel
theorem dX6_depart_35 : decode cX6_depart 35 = .ok (.istore_n 2, 1) := by decide +kernel
theorem dX6_depart_36 : decode cX6_depart 36 = .ok (.iconst 0, 1) := by decide +kernel
theorem dX6_depart_37 : decode cX6_depart 37 = .ok (.istore_n 3, 1) := by decide +kernel
theorem dX6_depart_38 : decode cX6_depart 38 = .ok (.iload_n 3, 1) := by decide +kernel
theorem dX6_depart_39 : decode cX6_depart 39 = .ok (.aload_n 0, 1) := by decide +kernel
theorem dX6_depart_40 : decode cX6_depart 40 = .ok (.getfield 49, 3) := by decide +kernel
theorem dX6_depart_43 : decode cX6_depart 43 = .ok (.if_icmp .ge 74, 3) := by decide +kernel
theorem dX6_depart_46 : decode cX6_depart 46 = .ok (.aload_n 0, 1) := by decide +kernel
theorem dX6_depart_47 : decode cX6_depart 47 = .ok (.getfield 24, 3) := by decide +kernel
theorem dX6_depart_50 : decode cX6_depart 50 = .ok (.iload_n 3, 1) := by decide +kernel
theorem dX6_depart_51 : decode cX6_depart 51 = .ok (.iaload, 1) := by decide +kernel
theorem dX6_depart_52 : decode cX6_depart 52 = .ok (.iload_n 1, 1) := by decide +kernel
theorem dX6_depart_53 : decode cX6_depart 53 = .ok (.if_icmp .eq 6, 3) := by decide +kernel
theorem dX6_depart_56 : decode cX6_depart 56 = .ok (.goto 55, 3) := by decide +kernel
theorem dX6_depart_59 : decode cX6_depart 59 = .ok (.aload_n 0, 1) := by decide +kernel
theorem dX6_depart_60 : decode cX6_depart 60 = .ok (.iload_n 3, 1) := by decide +kernel
theorem dX6_depart_61 : decode cX6_depart 61 = .ok (.invokevirtual 140, 3) := by decide +kernel
theorem dX6_depart_64 : decode cX6_depart 64 = .ok (.ifCond .eq 40, 3) := by decide +kernel
theorem dX6_depart_67 : decode cX6_depart 67 = .ok (.aload_n 0, 1) := by decide +kernel
theorem dX6_depart_68 : decode cX6_depart 68 = .ok (.getfield 39, 3) := by decide +kernel
theorem dX6_depart_71 : decode cX6_depart 71 = .ok (.getfield 72, 3) := by decide +kernel
theorem dX6_depart_74 : decode cX6_depart 74 = .ok (.aload_n 0, 1) := by decide +kernel
theorem dX6_depart_75 : decode cX6_depart 75 = .ok (.getfield 39, 3) := by decide +kernel
theorem dX6_depart_78 : decode cX6_depart 78 = .ok (.getfield 107, 3) := by decide +kernel
theorem dX6_depart_81 : decode cX6_depart 81 = .ok (.iload_n 3, 1) := by decide +kernel
theorem dX6_depart_82 : decode cX6_depart 82 = .ok (.iaload, 1) := by decide +kernel
theorem dX6_depart_83 : decode cX6_depart 83 = .ok (.dup2, 1) := by decide +kernel
theorem dX6_depart_84 : decode cX6_depart 84 = .ok (.iaload, 1) := by decide +kernel
theorem dX6_depart_85 : decode cX6_depart 85 = .ok (.iconst 1, 1) := by decide +kernel
theorem dX6_depart_86 : decode cX6_depart 86 = .ok (.isub, 1) := by decide +kernel
theorem dX6_depart_87 : decode cX6_depart 87 = .ok (.iastore, 1) := by decide +kernel
theorem dX6_depart_88 : decode cX6_depart 88 = .ok (.aload_n 0, 1) := by decide +kernel
theorem dX6_depart_89 : decode cX6_depart 89 = .ok (.getfield 39, 3) := by decide +kernel
theorem dX6_depart_92 : decode cX6_depart 92 = .ok (.iload_n 3, 1) := by decide +kernel
theorem dX6_depart_93 : decode cX6_depart 93 = .ok (.iconst 5, 1) := by decide +kernel
theorem dX6_depart_94 : decode cX6_depart 94 = .ok (.iconst (-1), 1) := by decide +kernel
theorem dX6_depart_95 : decode cX6_depart 95 = .ok (.invokevirtual 68, 3) := by decide +kernel
theorem dX6_depart_98 : decode cX6_depart 98 = .ok (.iinc 2 1, 3) := by decide +kernel
theorem dX6_depart_101 : decode cX6_depart 101 = .ok (.goto 10, 3) := by decide +kernel
theorem dX6_depart_104 : decode cX6_depart 104 = .ok (.aload_n 0, 1) := by decide +kernel
theorem dX6_depart_105 : decode cX6_depart 105 = .ok (.getfield 33, 3) := by decide +kernel
theorem dX6_depart_108 : decode cX6_depart 108 = .ok (.iload_n 3, 1) := by decide +kernel
theorem dX6_depart_109 : decode cX6_depart 109 = .ok (.iconst 1, 1) := by decide +kernel
theorem dX6_depart_110 : decode cX6_depart 110 = .ok (.iastore, 1) := by decide +kernel
theorem dX6_depart_111 : decode cX6_depart 111 = .ok (.iinc 3 1, 3) := by decide +kernel
theorem dX6_depart_114 : decode cX6_depart 114 = .ok (.goto (-76), 3) := by decide +kernel
theorem dX6_depart_117 : decode cX6_depart 117 = .ok (.aload_n 0, 1) := by decide +kernel
theorem dX6_depart_118 : decode cX6_depart 118 = .ok (.getfield 13, 3) := by decide +kernel
theorem dX6_depart_121 : decode cX6_depart 121 = .ok (.iload_n 1, 1) := by decide +kernel
theorem dX6_depart_122 : decode cX6_depart 122 = .ok (.iconst 1, 1) := by decide +kernel
theorem dX6_depart_123 : decode cX6_depart 123 = .ok (.bastore, 1) := by decide +kernel
theorem dX6_depart_124 : decode cX6_depart 124 = .ok (.iload_n 2, 1) := by decide +kernel
theorem dX6_depart_125 : decode cX6_depart 125 = .ok (.ireturn, 1) := by decide +kernel
theorem dX6_pass_0 : decode cX6_pass 0 = .ok (.aload_n 0, 1) := by decide +kernel
theorem dX6_pass_1 : decode cX6_pass 1 = .ok (.iconst 0, 1) := by decide +kernel
theorem dX6_pass_2 : decode cX6_pass 2 = .ok (.putfield 46, 3) := by decide +kernel
theorem dX6_pass_5 : decode cX6_pass 5 = .ok (.iload_n 1, 1) := by decide +kernel
theorem dX6_pass_6 : decode cX6_pass 6 = .ok (.iconst 1, 1) := by decide +kernel
theorem dX6_pass_7 : decode cX6_pass 7 = .ok (.bipush 60, 2) := by decide +kernel
theorem dX6_pass_9 : decode cX6_pass 9 = .ok (.invokestatic 52, 3) := by decide +kernel
theorem dX6_pass_12 : decode cX6_pass 12 = .ok (.ifCond .eq 15, 3) := by decide +kernel
theorem dX6_pass_15 : decode cX6_pass 15 = .ok (.aload_n 0, 1) := by decide +kernel
theorem dX6_pass_16 : decode cX6_pass 16 = .ok (.aload_n 0, 1) := by decide +kernel
theorem dX6_pass_17 : decode cX6_pass 17 = .ok (.getfield 39, 3) := by decide +kernel
theorem dX6_pass_20 : decode cX6_pass 20 = .ok (.iload_n 1, 1) := by decide +kernel
theorem dX6_pass_21 : decode cX6_pass 21 = .ok (.invokevirtual 143, 3) := by decide +kernel
theorem dX6_pass_24 : decode cX6_pass 24 = .ok (.goto 8, 3) := by decide +kernel
theorem dX6_pass_27 : decode cX6_pass 27 = .ok (.aload_n 0, 1) := by decide +kernel
theorem dX6_pass_28 : decode cX6_pass 28 = .ok (.iconst 1, 1) := by decide +kernel
theorem dX6_pass_29 : decode cX6_pass 29 = .ok (.invokevirtual 110, 3) := by decide +kernel
theorem dX6_pass_32 : decode cX6_pass 32 = .ok (.ireturn, 1) := by decide +kernel
theorem dX6_placed_0 : decode cX6_placed 0 = .ok (.aload_n 0, 1) := by decide +kernel
theorem dX6_placed_1 : decode cX6_placed 1 = .ok (.getfield 39, 3) := by decide +kernel
theorem dX6_placed_4 : decode cX6_placed 4 = .ok (.getfield 104, 3) := by decide +kernel
theorem dX6_placed_7 : decode cX6_placed 7 = .ok (.iload_n 1, 1) := by decide +kernel
theorem dX6_placed_8 : decode cX6_placed 8 = .ok (.iaload, 1) := by decide +kernel
theorem dX6_placed_9 : decode cX6_placed 9 = .ok (.iload_n 2, 1) := by decide +kernel
theorem dX6_placed_10 : decode cX6_placed 10 = .ok (.if_icmp .ne 15, 3) := by decide +kernel
theorem dX6_placed_13 : decode cX6_placed 13 = .ok (.aload_n 0, 1) := by decide +kernel
theorem dX6_placed_14 : decode cX6_placed 14 = .ok (.getfield 39, 3) := by decide +kernel
theorem dX6_placed_17 : decode cX6_placed 17 = .ok (.getfield 107, 3) := by decide +kernel
theorem dX6_placed_20 : decode cX6_placed 20 = .ok (.iload_n 1, 1) := by decide +kernel
theorem dX6_placed_21 : decode cX6_placed 21 = .ok (.iaload, 1) := by decide +kernel
theorem dX6_placed_22 : decode cX6_placed 22 = .ok (.goto 4, 3) := by decide +kernel
theorem dX6_placed_25 : decode cX6_placed 25 = .ok (.iconst (-1), 1) := by decide +kernel
theorem dX6_placed_26 : decode cX6_placed 26 = .ok (.ireturn, 1) := by decide +kernel
theorem dX6_flightOf_0 : decode cX6_flightOf 0 = .ok (.aload_n 0, 1) := by decide +kernel
theorem dX6_flightOf_1 : decode cX6_flightOf 1 = .ok (.iconst 0, 1) := by decide +kernel
theorem dX6_flightOf_2 : decode cX6_flightOf 2 = .ok (.putfield 46, 3) := by decide +kernel
theorem dX6_flightOf_5 : decode cX6_flightOf 5 = .ok (.aload_n 0, 1) := by decide +kernel
theorem dX6_flightOf_6 : decode cX6_flightOf 6 = .ok (.iload_n 1, 1) := by decide +kernel
theorem dX6_flightOf_7 : decode cX6_flightOf 7 = .ok (.invokevirtual 128, 3) := by decide +kernel
theorem dX6_flightOf_10 : decode cX6_flightOf 10 = .ok (.ifCond .eq 12, 3) := by decide +kernel
theorem dX6_flightOf_13 : decode cX6_flightOf 13 = .ok (.aload_n 0, 1) := by decide +kernel
theorem dX6_flightOf_14 : decode cX6_flightOf 14 = .ok (.getfield 24, 3) := by decide +kernel
theorem dX6_flightOf_17 : decode cX6_flightOf 17 = .ok (.iload_n 1, 1) := by decide +kernel
theorem dX6_flightOf_18 : decode cX6_flightOf 18 = .ok (.iaload, 1) := by decide +kernel
theorem dX6_flightOf_19 : decode cX6_flightOf 19 = .ok (.goto 8, 3) := by decide +kernel
theorem dX6_flightOf_22 : decode cX6_flightOf 22 = .ok (.aload_n 0, 1) := by decide +kernel
theorem dX6_flightOf_23 : decode cX6_flightOf 23 = .ok (.iconst 1, 1) := by decide +kernel
theorem dX6_flightOf_24 : decode cX6_flightOf 24 = .ok (.invokevirtual 110, 3) := by decide +kernel
theorem dX6_flightOf_27 : decode cX6_flightOf 27 = .ok (.ireturn, 1) := by decide +kernel
theorem dX6_whereIs_0 : decode cX6_whereIs 0 = .ok (.aload_n 0, 1) := by decide +kernel
theorem dX6_whereIs_1 : decode cX6_whereIs 1 = .ok (.iconst 0, 1) := by decide +kernel
theorem dX6_whereIs_2 : decode cX6_whereIs 2 = .ok (.putfield 46, 3) := by decide +kernel
theorem dX6_whereIs_5 : decode cX6_whereIs 5 = .ok (.aload_n 0, 1) := by decide +kernel
theorem dX6_whereIs_6 : decode cX6_whereIs 6 = .ok (.iload_n 1, 1) := by decide +kernel
theorem dX6_whereIs_7 : decode cX6_whereIs 7 = .ok (.invokevirtual 128, 3) := by decide +kernel
theorem dX6_whereIs_10 : decode cX6_whereIs 10 = .ok (.ifCond .eq 15, 3) := by decide +kernel
theorem dX6_whereIs_13 : decode cX6_whereIs 13 = .ok (.aload_n 0, 1) := by decide +kernel
theorem dX6_whereIs_14 : decode cX6_whereIs 14 = .ok (.getfield 39, 3) := by decide +kernel
theorem dX6_whereIs_17 : decode cX6_whereIs 17 = .ok (.getfield 104, 3) := by decide +kernel
theorem dX6_whereIs_20 : decode cX6_whereIs 20 = .ok (.iload_n 1, 1) := by decide +kernel
theorem dX6_whereIs_21 : decode cX6_whereIs 21 = .ok (.iaload, 1) := by decide +kernel
theorem dX6_whereIs_22 : decode cX6_whereIs 22 = .ok (.goto 8, 3) := by decide +kernel
theorem dX6_whereIs_25 : decode cX6_whereIs 25 = .ok (.aload_n 0, 1) := by decide +kernel
theorem dX6_whereIs_26 : decode cX6_whereIs 26 = .ok (.iconst 1, 1) := by decide +kernel
theorem dX6_whereIs_27 : decode cX6_whereIs 27 = .ok (.invokevirtual 110, 3) := by decide +kernel
theorem dX6_whereIs_30 : decode cX6_whereIs 30 = .ok (.ireturn, 1) := by decide +kernel
theorem dX6_placeOf_0 : decode cX6_placeOf 0 = .ok (.aload_n 0, 1) := by decide +kernel
theorem dX6_placeOf_1 : decode cX6_placeOf 1 = .ok (.iconst 0, 1) := by decide +kernel
theorem dX6_placeOf_2 : decode cX6_placeOf 2 = .ok (.putfield 46, 3) := by decide +kernel
theorem dX6_placeOf_5 : decode cX6_placeOf 5 = .ok (.aload_n 0, 1) := by decide +kernel
theorem dX6_placeOf_6 : decode cX6_placeOf 6 = .ok (.iload_n 1, 1) := by decide +kernel
theorem dX6_placeOf_7 : decode cX6_placeOf 7 = .ok (.invokevirtual 128, 3) := by decide +kernel
theorem dX6_placeOf_10 : decode cX6_placeOf 10 = .ok (.ifCond .eq 12, 3) := by decide +kernel
theorem dX6_placeOf_13 : decode cX6_placeOf 13 = .ok (.aload_n 0, 1) := by decide +kernel
theorem dX6_placeOf_14 : decode cX6_placeOf 14 = .ok (.iload_n 1, 1) := by decide +kernel
theorem dX6_placeOf_15 : decode cX6_placeOf 15 = .ok (.iconst 1, 1) := by decide +kernel
theorem dX6_placeOf_16 : decode cX6_placeOf 16 = .ok (.invokevirtual 146, 3) := by decide +kernel
theorem dX6_placeOf_19 : decode cX6_placeOf 19 = .ok (.goto 8, 3) := by decide +kernel
theorem dX6_placeOf_22 : decode cX6_placeOf 22 = .ok (.aload_n 0, 1) := by decide +kernel
theorem dX6_placeOf_23 : decode cX6_placeOf 23 = .ok (.iconst 1, 1) := by decide +kernel
theorem dX6_placeOf_24 : decode cX6_placeOf 24 = .ok (.invokevirtual 110, 3) := by decide +kernel
theorem dX6_placeOf_27 : decode cX6_placeOf 27 = .ok (.ireturn, 1) := by decide +kernel
theorem dX6_chuteOf_0 : decode cX6_chuteOf 0 = .ok (.aload_n 0, 1) := by decide +kernel
theorem dX6_chuteOf_1 : decode cX6_chuteOf 1 = .ok (.iconst 0, 1) := by decide +kernel
theorem dX6_chuteOf_2 : decode cX6_chuteOf 2 = .ok (.putfield 46, 3) := by decide +kernel
theorem dX6_chuteOf_5 : decode cX6_chuteOf 5 = .ok (.aload_n 0, 1) := by decide +kernel
theorem dX6_chuteOf_6 : decode cX6_chuteOf 6 = .ok (.iload_n 1, 1) := by decide +kernel
theorem dX6_chuteOf_7 : decode cX6_chuteOf 7 = .ok (.invokevirtual 128, 3) := by decide +kernel
theorem dX6_chuteOf_10 : decode cX6_chuteOf 10 = .ok (.ifCond .eq 12, 3) := by decide +kernel
theorem dX6_chuteOf_13 : decode cX6_chuteOf 13 = .ok (.aload_n 0, 1) := by decide +kernel
theorem dX6_chuteOf_14 : decode cX6_chuteOf 14 = .ok (.iload_n 1, 1) := by decide +kernel
theorem dX6_chuteOf_15 : decode cX6_chuteOf 15 = .ok (.iconst 2, 1) := by decide +kernel
theorem dX6_chuteOf_16 : decode cX6_chuteOf 16 = .ok (.invokevirtual 146, 3) := by decide +kernel
theorem dX6_chuteOf_19 : decode cX6_chuteOf 19 = .ok (.goto 8, 3) := by decide +kernel
theorem dX6_chuteOf_22 : decode cX6_chuteOf 22 = .ok (.aload_n 0, 1) := by decide +kernel
theorem dX6_chuteOf_23 : decode cX6_chuteOf 23 = .ok (.iconst 1, 1) := by decide +kernel
theorem dX6_chuteOf_24 : decode cX6_chuteOf 24 = .ok (.invokevirtual 110, 3) := by decide +kernel
theorem dX6_chuteOf_27 : decode cX6_chuteOf 27 = .ok (.ireturn, 1) := by decide +kernel
theorem dX6_readFor_0 : decode cX6_readFor 0 = .ok (.aload_n 0, 1) := by decide +kernel
theorem dX6_readFor_1 : decode cX6_readFor 1 = .ok (.iconst 0, 1) := by decide +kernel
theorem dX6_readFor_2 : decode cX6_readFor 2 = .ok (.putfield 46, 3) := by decide +kernel
theorem dX6_readFor_5 : decode cX6_readFor 5 = .ok (.aload_n 0, 1) := by decide +kernel
theorem dX6_readFor_6 : decode cX6_readFor 6 = .ok (.iload_n 1, 1) := by decide +kernel
theorem dX6_readFor_7 : decode cX6_readFor 7 = .ok (.invokevirtual 128, 3) := by decide +kernel
theorem dX6_readFor_10 : decode cX6_readFor 10 = .ok (.ifCond .eq 15, 3) := by decide +kernel
theorem dX6_readFor_13 : decode cX6_readFor 13 = .ok (.aload_n 0, 1) := by decide +kernel
theorem dX6_readFor_14 : decode cX6_readFor 14 = .ok (.getfield 39, 3) := by decide +kernel
theorem dX6_readFor_17 : decode cX6_readFor 17 = .ok (.getfield 62, 3) := by decide +kernel
theorem dX6_readFor_20 : decode cX6_readFor 20 = .ok (.iload_n 1, 1) := by decide +kernel
theorem dX6_readFor_21 : decode cX6_readFor 21 = .ok (.iaload, 1) := by decide +kernel
theorem dX6_readFor_22 : decode cX6_readFor 22 = .ok (.goto 8, 3) := by decide +kernel
theorem dX6_readFor_25 : decode cX6_readFor 25 = .ok (.aload_n 0, 1) := by decide +kernel
theorem dX6_readFor_26 : decode cX6_readFor 26 = .ok (.iconst 1, 1) := by decide +kernel
theorem dX6_readFor_27 : decode cX6_readFor 27 = .ok (.invokevirtual 110, 3) := by decide +kernel
theorem dX6_readFor_30 : decode cX6_readFor 30 = .ok (.ireturn, 1) := by decide +kernel
theorem dX6_missesOf_0 : decode cX6_missesOf 0 = .ok (.aload_n 0, 1) := by decide +kernel
theorem dX6_missesOf_1 : decode cX6_missesOf 1 = .ok (.iconst 0, 1) := by decide +kernel
theorem dX6_missesOf_2 : decode cX6_missesOf 2 = .ok (.putfield 46, 3) := by decide +kernel
theorem dX6_missesOf_5 : decode cX6_missesOf 5 = .ok (.aload_n 0, 1) := by decide +kernel
theorem dX6_missesOf_6 : decode cX6_missesOf 6 = .ok (.iload_n 1, 1) := by decide +kernel
theorem dX6_missesOf_7 : decode cX6_missesOf 7 = .ok (.invokevirtual 128, 3) := by decide +kernel
theorem dX6_missesOf_10 : decode cX6_missesOf 10 = .ok (.ifCond .eq 15, 3) := by decide +kernel
theorem dX6_missesOf_13 : decode cX6_missesOf 13 = .ok (.aload_n 0, 1) := by decide +kernel
theorem dX6_missesOf_14 : decode cX6_missesOf 14 = .ok (.getfield 39, 3) := by decide +kernel
theorem dX6_missesOf_17 : decode cX6_missesOf 17 = .ok (.getfield 65, 3) := by decide +kernel
theorem dX6_missesOf_20 : decode cX6_missesOf 20 = .ok (.iload_n 1, 1) := by decide +kernel
theorem dX6_missesOf_21 : decode cX6_missesOf 21 = .ok (.iaload, 1) := by decide +kernel
theorem dX6_missesOf_22 : decode cX6_missesOf 22 = .ok (.goto 8, 3) := by decide +kernel
theorem dX6_missesOf_25 : decode cX6_missesOf 25 = .ok (.aload_n 0, 1) := by decide +kernel
theorem dX6_missesOf_26 : decode cX6_missesOf 26 = .ok (.iconst 1, 1) := by decide +kernel
theorem dX6_missesOf_27 : decode cX6_missesOf 27 = .ok (.invokevirtual 110, 3) := by decide +kernel
theorem dX6_missesOf_30 : decode cX6_missesOf 30 = .ok (.ireturn, 1) := by decide +kernel
theorem dX6_isMisrouted_0 : decode cX6_isMisrouted 0 = .ok (.aload_n 0, 1) := by decide +kernel
theorem dX6_isMisrouted_1 : decode cX6_isMisrouted 1 = .ok (.iconst 0, 1) := by decide +kernel
theorem dX6_isMisrouted_2 : decode cX6_isMisrouted 2 = .ok (.putfield 46, 3) := by decide +kernel
theorem dX6_isMisrouted_5 : decode cX6_isMisrouted 5 = .ok (.aload_n 0, 1) := by decide +kernel
theorem dX6_isMisrouted_6 : decode cX6_isMisrouted 6 = .ok (.iload_n 1, 1) := by decide +kernel
theorem dX6_isMisrouted_7 : decode cX6_isMisrouted 7 = .ok (.invokevirtual 128, 3) := by decide +kernel
theorem dX6_isMisrouted_10 : decode cX6_isMisrouted 10 = .ok (.ifCond .eq 11, 3) := by decide +kernel
theorem dX6_isMisrouted_13 : decode cX6_isMisrouted 13 = .ok (.aload_n 0, 1) := by decide +kernel
theorem dX6_isMisrouted_14 : decode cX6_isMisrouted 14 = .ok (.iload_n 1, 1) := by decide +kernel
theorem dX6_isMisrouted_15 : decode cX6_isMisrouted 15 = .ok (.invokevirtual 137, 3) := by decide +kernel
theorem dX6_isMisrouted_18 : decode cX6_isMisrouted 18 = .ok (.goto 8, 3) := by decide +kernel
theorem dX6_isMisrouted_21 : decode cX6_isMisrouted 21 = .ok (.aload_n 0, 1) := by decide +kernel
theorem dX6_isMisrouted_22 : decode cX6_isMisrouted 22 = .ok (.iconst 1, 1) := by decide +kernel
theorem dX6_isMisrouted_23 : decode cX6_isMisrouted 23 = .ok (.invokevirtual 150, 3) := by decide +kernel
theorem dX6_isMisrouted_26 : decode cX6_isMisrouted 26 = .ok (.ireturn, 1) := by decide +kernel
theorem dX6_hasOpenFile_0 : decode cX6_hasOpenFile 0 = .ok (.aload_n 0, 1) := by decide +kernel
theorem dX6_hasOpenFile_1 : decode cX6_hasOpenFile 1 = .ok (.iconst 0, 1) := by decide +kernel
theorem dX6_hasOpenFile_2 : decode cX6_hasOpenFile 2 = .ok (.putfield 46, 3) := by decide +kernel
theorem dX6_hasOpenFile_5 : decode cX6_hasOpenFile 5 = .ok (.aload_n 0, 1) := by decide +kernel
theorem dX6_hasOpenFile_6 : decode cX6_hasOpenFile 6 = .ok (.iload_n 1, 1) := by decide +kernel
theorem dX6_hasOpenFile_7 : decode cX6_hasOpenFile 7 = .ok (.invokevirtual 128, 3) := by decide +kernel
theorem dX6_hasOpenFile_10 : decode cX6_hasOpenFile 10 = .ok (.ifCond .eq 21, 3) := by decide +kernel
theorem dX6_hasOpenFile_13 : decode cX6_hasOpenFile 13 = .ok (.aload_n 0, 1) := by decide +kernel
theorem dX6_hasOpenFile_14 : decode cX6_hasOpenFile 14 = .ok (.getfield 33, 3) := by decide +kernel
theorem dX6_hasOpenFile_17 : decode cX6_hasOpenFile 17 = .ok (.iload_n 1, 1) := by decide +kernel
theorem dX6_hasOpenFile_18 : decode cX6_hasOpenFile 18 = .ok (.iaload, 1) := by decide +kernel
theorem dX6_hasOpenFile_19 : decode cX6_hasOpenFile 19 = .ok (.iconst 1, 1) := by decide +kernel
theorem dX6_hasOpenFile_20 : decode cX6_hasOpenFile 20 = .ok (.if_icmp .ne 7, 3) := by decide +kernel
theorem dX6_hasOpenFile_23 : decode cX6_hasOpenFile 23 = .ok (.iconst 1, 1) := by decide +kernel
theorem dX6_hasOpenFile_24 : decode cX6_hasOpenFile 24 = .ok (.goto 12, 3) := by decide +kernel
theorem dX6_hasOpenFile_27 : decode cX6_hasOpenFile 27 = .ok (.iconst 0, 1) := by decide +kernel
theorem dX6_hasOpenFile_28 : decode cX6_hasOpenFile 28 = .ok (.goto 8, 3) := by decide +kernel
theorem dX6_hasOpenFile_31 : decode cX6_hasOpenFile 31 = .ok (.aload_n 0, 1) := by decide +kernel
theorem dX6_hasOpenFile_32 : decode cX6_hasOpenFile 32 = .ok (.iconst 1, 1) := by decide +kernel
theorem dX6_hasOpenFile_33 : decode cX6_hasOpenFile 33 = .ok (.invokevirtual 150, 3) := by decide +kernel
theorem dX6_hasOpenFile_36 : decode cX6_hasOpenFile 36 = .ok (.ireturn, 1) := by decide +kernel
theorem dX6_bagAt_0 : decode cX6_bagAt 0 = .ok (.aload_n 0, 1) := by decide +kernel
theorem dX6_bagAt_1 : decode cX6_bagAt 1 = .ok (.iconst 0, 1) := by decide +kernel
theorem dX6_bagAt_2 : decode cX6_bagAt 2 = .ok (.putfield 46, 3) := by decide +kernel
theorem dX6_bagAt_5 : decode cX6_bagAt 5 = .ok (.iload_n 1, 1) := by decide +kernel
theorem dX6_bagAt_6 : decode cX6_bagAt 6 = .ok (.iconst 0, 1) := by decide +kernel
theorem dX6_bagAt_7 : decode cX6_bagAt 7 = .ok (.bipush 11, 2) := by decide +kernel
theorem dX6_bagAt_9 : decode cX6_bagAt 9 = .ok (.invokestatic 52, 3) := by decide +kernel
theorem dX6_bagAt_12 : decode cX6_bagAt 12 = .ok (.ifCond .eq 15, 3) := by decide +kernel
theorem dX6_bagAt_15 : decode cX6_bagAt 15 = .ok (.aload_n 0, 1) := by decide +kernel
theorem dX6_bagAt_16 : decode cX6_bagAt 16 = .ok (.getfield 39, 3) := by decide +kernel
theorem dX6_bagAt_19 : decode cX6_bagAt 19 = .ok (.getfield 59, 3) := by decide +kernel
theorem dX6_bagAt_22 : decode cX6_bagAt 22 = .ok (.iload_n 1, 1) := by decide +kernel
theorem dX6_bagAt_23 : decode cX6_bagAt 23 = .ok (.iaload, 1) := by decide +kernel
theorem dX6_bagAt_24 : decode cX6_bagAt 24 = .ok (.goto 8, 3) := by decide +kernel
theorem dX6_bagAt_27 : decode cX6_bagAt 27 = .ok (.aload_n 0, 1) := by decide +kernel
theorem dX6_bagAt_28 : decode cX6_bagAt 28 = .ok (.iconst 1, 1) := by decide +kernel
theorem dX6_bagAt_29 : decode cX6_bagAt 29 = .ok (.invokevirtual 110, 3) := by decide +kernel
theorem dX6_bagAt_32 : decode cX6_bagAt 32 = .ok (.ireturn, 1) := by decide +kernel
theorem dX6_bagsIn_0 : decode cX6_bagsIn 0 = .ok (.aload_n 0, 1) := by decide +kernel
theorem dX6_bagsIn_1 : decode cX6_bagsIn 1 = .ok (.iconst 0, 1) := by decide +kernel
theorem dX6_bagsIn_2 : decode cX6_bagsIn 2 = .ok (.putfield 46, 3) := by decide +kernel
theorem dX6_bagsIn_5 : decode cX6_bagsIn 5 = .ok (.iload_n 1, 1) := by decide +kernel
theorem dX6_bagsIn_6 : decode cX6_bagsIn 6 = .ok (.invokestatic 118, 3) := by decide +kernel
theorem dX6_bagsIn_9 : decode cX6_bagsIn 9 = .ok (.ifCond .eq 15, 3) := by decide +kernel
theorem dX6_bagsIn_12 : decode cX6_bagsIn 12 = .ok (.aload_n 0, 1) := by decide +kernel
theorem dX6_bagsIn_13 : decode cX6_bagsIn 13 = .ok (.getfield 39, 3) := by decide +kernel
theorem dX6_bagsIn_16 : decode cX6_bagsIn 16 = .ok (.getfield 72, 3) := by decide +kernel
theorem dX6_bagsIn_19 : decode cX6_bagsIn 19 = .ok (.iload_n 1, 1) := by decide +kernel
theorem dX6_bagsIn_20 : decode cX6_bagsIn 20 = .ok (.iaload, 1) := by decide +kernel
theorem dX6_bagsIn_21 : decode cX6_bagsIn 21 = .ok (.goto 8, 3) := by decide +kernel
theorem dX6_bagsIn_24 : decode cX6_bagsIn 24 = .ok (.aload_n 0, 1) := by decide +kernel
theorem dX6_bagsIn_25 : decode cX6_bagsIn 25 = .ok (.iconst 1, 1) := by decide +kernel
theorem dX6_bagsIn_26 : decode cX6_bagsIn 26 = .ok (.invokevirtual 110, 3) := by decide +kernel
theorem dX6_bagsIn_29 : decode cX6_bagsIn 29 = .ok (.ireturn, 1) := by decide +kernel
theorem dX6_badIn_0 : decode cX6_badIn 0 = .ok (.iconst 0, 1) := by decide +kernel
theorem dX6_badIn_1 : decode cX6_badIn 1 = .ok (.istore_n 2, 1) := by decide +kernel
theorem dX6_badIn_2 : decode cX6_badIn 2 = .ok (.iconst 0, 1) := by decide +kernel
theorem dX6_badIn_3 : decode cX6_badIn 3 = .ok (.istore_n 3, 1) := by decide +kernel
theorem dX6_badIn_4 : decode cX6_badIn 4 = .ok (.iload_n 3, 1) := by decide +kernel
theorem dX6_badIn_5 : decode cX6_badIn 5 = .ok (.aload_n 0, 1) := by decide +kernel
theorem dX6_badIn_6 : decode cX6_badIn 6 = .ok (.getfield 49, 3) := by decide +kernel
theorem dX6_badIn_9 : decode cX6_badIn 9 = .ok (.if_icmp .ge 38, 3) := by decide +kernel
theorem dX6_badIn_12 : decode cX6_badIn 12 = .ok (.iload_n 2, 1) := by decide +kernel
theorem dX6_badIn_13 : decode cX6_badIn 13 = .ok (.aload_n 0, 1) := by decide +kernel
theorem dX6_badIn_14 : decode cX6_badIn 14 = .ok (.iload_n 3, 1) := by decide +kernel
theorem dX6_badIn_15 : decode cX6_badIn 15 = .ok (.invokevirtual 137, 3) := by decide +kernel
theorem dX6_badIn_18 : decode cX6_badIn 18 = .ok (.ifCond .eq 20, 3) := by decide +kernel
theorem dX6_badIn_21 : decode cX6_badIn 21 = .ok (.aload_n 0, 1) := by decide +kernel
theorem dX6_badIn_22 : decode cX6_badIn 22 = .ok (.getfield 39, 3) := by decide +kernel
theorem dX6_badIn_25 : decode cX6_badIn 25 = .ok (.getfield 107, 3) := by decide +kernel
theorem dX6_badIn_28 : decode cX6_badIn 28 = .ok (.iload_n 3, 1) := by decide +kernel
theorem dX6_badIn_29 : decode cX6_badIn 29 = .ok (.iaload, 1) := by decide +kernel
theorem dX6_badIn_30 : decode cX6_badIn 30 = .ok (.iload_n 1, 1) := by decide +kernel
theorem dX6_badIn_31 : decode cX6_badIn 31 = .ok (.if_icmp .ne 7, 3) := by decide +kernel
theorem dX6_badIn_34 : decode cX6_badIn 34 = .ok (.iconst 1, 1) := by decide +kernel
theorem dX6_badIn_35 : decode cX6_badIn 35 = .ok (.goto 4, 3) := by decide +kernel
theorem dX6_badIn_38 : decode cX6_badIn 38 = .ok (.iconst 0, 1) := by decide +kernel
theorem dX6_badIn_39 : decode cX6_badIn 39 = .ok (.iadd, 1) := by decide +kernel
theorem dX6_badIn_40 : decode cX6_badIn 40 = .ok (.istore_n 2, 1) := by decide +kernel
theorem dX6_badIn_41 : decode cX6_badIn 41 = .ok (.iinc 3 1, 3) := by decide +kernel
theorem dX6_badIn_44 : decode cX6_badIn 44 = .ok (.goto (-40), 3) := by decide +kernel
theorem dX6_badIn_47 : decode cX6_badIn 47 = .ok (.iload_n 2, 1) := by decide +kernel
theorem dX6_badIn_48 : decode cX6_badIn 48 = .ok (.ireturn, 1) := by decide +kernel
theorem dX6_misroutedIn_0 : decode cX6_misroutedIn 0 = .ok (.aload_n 0, 1) := by decide +kernel
theorem dX6_misroutedIn_1 : decode cX6_misroutedIn 1 = .ok (.iconst 0, 1) := by decide +kernel
theorem dX6_misroutedIn_2 : decode cX6_misroutedIn 2 = .ok (.putfield 46, 3) := by decide +kernel
theorem dX6_misroutedIn_5 : decode cX6_misroutedIn 5 = .ok (.iload_n 1, 1) := by decide +kernel
theorem dX6_misroutedIn_6 : decode cX6_misroutedIn 6 = .ok (.invokestatic 118, 3) := by decide +kernel
theorem dX6_misroutedIn_9 : decode cX6_misroutedIn 9 = .ok (.ifCond .eq 11, 3) := by decide +kernel
theorem dX6_misroutedIn_12 : decode cX6_misroutedIn 12 = .ok (.aload_n 0, 1) := by decide +kernel
theorem dX6_misroutedIn_13 : decode cX6_misroutedIn 13 = .ok (.iload_n 1, 1) := by decide +kernel
theorem dX6_misroutedIn_14 : decode cX6_misroutedIn 14 = .ok (.invokevirtual 153, 3) := by decide +kernel
theorem dX6_misroutedIn_17 : decode cX6_misroutedIn 17 = .ok (.goto 8, 3) := by decide +kernel
theorem dX6_misroutedIn_20 : decode cX6_misroutedIn 20 = .ok (.aload_n 0, 1) := by decide +kernel
theorem dX6_misroutedIn_21 : decode cX6_misroutedIn 21 = .ok (.iconst 1, 1) := by decide +kernel
theorem dX6_misroutedIn_22 : decode cX6_misroutedIn 22 = .ok (.invokevirtual 110, 3) := by decide +kernel
theorem dX6_misroutedIn_25 : decode cX6_misroutedIn 25 = .ok (.ireturn, 1) := by decide +kernel
theorem dX6_roomOf_0 : decode cX6_roomOf 0 = .ok (.aload_n 0, 1) := by decide +kernel
theorem dX6_roomOf_1 : decode cX6_roomOf 1 = .ok (.iconst 0, 1) := by decide +kernel
theorem dX6_roomOf_2 : decode cX6_roomOf 2 = .ok (.putfield 46, 3) := by decide +kernel
theorem dX6_roomOf_5 : decode cX6_roomOf 5 = .ok (.iload_n 1, 1) := by decide +kernel
theorem dX6_roomOf_6 : decode cX6_roomOf 6 = .ok (.invokestatic 118, 3) := by decide +kernel
theorem dX6_roomOf_9 : decode cX6_roomOf 9 = .ok (.ifCond .eq 12, 3) := by decide +kernel
theorem dX6_roomOf_12 : decode cX6_roomOf 12 = .ok (.aload_n 0, 1) := by decide +kernel
theorem dX6_roomOf_13 : decode cX6_roomOf 13 = .ok (.getfield 17, 3) := by decide +kernel
theorem dX6_roomOf_16 : decode cX6_roomOf 16 = .ok (.iload_n 1, 1) := by decide +kernel
theorem dX6_roomOf_17 : decode cX6_roomOf 17 = .ok (.iaload, 1) := by decide +kernel
theorem dX6_roomOf_18 : decode cX6_roomOf 18 = .ok (.goto 8, 3) := by decide +kernel
theorem dX6_roomOf_21 : decode cX6_roomOf 21 = .ok (.aload_n 0, 1) := by decide +kernel
theorem dX6_roomOf_22 : decode cX6_roomOf 22 = .ok (.iconst 1, 1) := by decide +kernel
theorem dX6_roomOf_23 : decode cX6_roomOf 23 = .ok (.invokevirtual 110, 3) := by decide +kernel
theorem dX6_roomOf_26 : decode cX6_roomOf 26 = .ok (.ireturn, 1) := by decide +kernel
theorem dX6_chuteOfFlight_0 : decode cX6_chuteOfFlight 0 = .ok (.aload_n 0, 1) := by decide +kernel
theorem dX6_chuteOfFlight_1 : decode cX6_chuteOfFlight 1 = .ok (.iconst 0, 1) := by decide +kernel
theorem dX6_chuteOfFlight_2 : decode cX6_chuteOfFlight 2 = .ok (.putfield 46, 3) := by decide +kernel
theorem dX6_chuteOfFlight_5 : decode cX6_chuteOfFlight 5 = .ok (.aload_n 0, 1) := by decide +kernel
theorem dX6_chuteOfFlight_6 : decode cX6_chuteOfFlight 6 = .ok (.iload_n 1, 1) := by decide +kernel
theorem dX6_chuteOfFlight_7 : decode cX6_chuteOfFlight 7 = .ok (.invokevirtual 114, 3) := by decide +kernel
theorem dX6_chuteOfFlight_10 : decode cX6_chuteOfFlight 10 = .ok (.ifCond .eq 12, 3) := by decide +kernel
theorem dX6_chuteOfFlight_13 : decode cX6_chuteOfFlight 13 = .ok (.aload_n 0, 1) := by decide +kernel
theorem dX6_chuteOfFlight_14 : decode cX6_chuteOfFlight 14 = .ok (.getfield 9, 3) := by decide +kernel
theorem dX6_chuteOfFlight_17 : decode cX6_chuteOfFlight 17 = .ok (.iload_n 1, 1) := by decide +kernel
theorem dX6_chuteOfFlight_18 : decode cX6_chuteOfFlight 18 = .ok (.iaload, 1) := by decide +kernel
theorem dX6_chuteOfFlight_19 : decode cX6_chuteOfFlight 19 = .ok (.goto 8, 3) := by decide +kernel
theorem dX6_chuteOfFlight_22 : decode cX6_chuteOfFlight 22 = .ok (.aload_n 0, 1) := by decide +kernel
theorem dX6_chuteOfFlight_23 : decode cX6_chuteOfFlight 23 = .ok (.iconst 1, 1) := by decide +kernel
theorem dX6_chuteOfFlight_24 : decode cX6_chuteOfFlight 24 = .ok (.invokevirtual 110, 3) := by decide +kernel
theorem dX6_chuteOfFlight_27 : decode cX6_chuteOfFlight 27 = .ok (.ireturn, 1) := by decide +kernel
theorem dX6_isGone_0 : decode cX6_isGone 0 = .ok (.aload_n 0, 1) := by decide +kernel
theorem dX6_isGone_1 : decode cX6_isGone 1 = .ok (.iconst 0, 1) := by decide +kernel
theorem dX6_isGone_2 : decode cX6_isGone 2 = .ok (.putfield 46, 3) := by decide +kernel
theorem dX6_isGone_5 : decode cX6_isGone 5 = .ok (.aload_n 0, 1) := by decide +kernel
theorem dX6_isGone_6 : decode cX6_isGone 6 = .ok (.iload_n 1, 1) := by decide +kernel
theorem dX6_isGone_7 : decode cX6_isGone 7 = .ok (.invokevirtual 114, 3) := by decide +kernel
theorem dX6_isGone_10 : decode cX6_isGone 10 = .ok (.ifCond .eq 12, 3) := by decide +kernel
theorem dX6_isGone_13 : decode cX6_isGone 13 = .ok (.aload_n 0, 1) := by decide +kernel
theorem dX6_isGone_14 : decode cX6_isGone 14 = .ok (.getfield 13, 3) := by decide +kernel
theorem dX6_isGone_17 : decode cX6_isGone 17 = .ok (.iload_n 1, 1) := by decide +kernel
theorem dX6_isGone_18 : decode cX6_isGone 18 = .ok (.baload, 1) := by decide +kernel
theorem dX6_isGone_19 : decode cX6_isGone 19 = .ok (.goto 8, 3) := by decide +kernel
theorem dX6_isGone_22 : decode cX6_isGone 22 = .ok (.aload_n 0, 1) := by decide +kernel
theorem dX6_isGone_23 : decode cX6_isGone 23 = .ok (.iconst 1, 1) := by decide +kernel
theorem dX6_isGone_24 : decode cX6_isGone 24 = .ok (.invokevirtual 150, 3) := by decide +kernel
theorem dX6_isGone_27 : decode cX6_isGone 27 = .ok (.ireturn, 1) := by decide +kernel
theorem dX6_readyIn_0 : decode cX6_readyIn 0 = .ok (.iconst 0, 1) := by decide +kernel
theorem dX6_readyIn_1 : decode cX6_readyIn 1 = .ok (.istore_n 3, 1) := by decide +kernel
theorem dX6_readyIn_2 : decode cX6_readyIn 2 = .ok (.iconst 0, 1) := by decide +kernel
theorem dX6_readyIn_3 : decode cX6_readyIn 3 = .ok (.istore 4, 2) := by decide +kernel
theorem dX6_readyIn_5 : decode cX6_readyIn 5 = .ok (.iload 4, 2) := by decide +kernel
theorem dX6_readyIn_7 : decode cX6_readyIn 7 = .ok (.aload_n 0, 1) := by decide +kernel
theorem dX6_readyIn_8 : decode cX6_readyIn 8 = .ok (.getfield 49, 3) := by decide +kernel
theorem dX6_readyIn_11 : decode cX6_readyIn 11 = .ok (.if_icmp .ge 78, 3) := by decide +kernel
theorem dX6_readyIn_14 : decode cX6_readyIn 14 = .ok (.aload_n 0, 1) := by decide +kernel
theorem dX6_readyIn_15 : decode cX6_readyIn 15 = .ok (.getfield 24, 3) := by decide +kernel
theorem dX6_readyIn_18 : decode cX6_readyIn 18 = .ok (.iload 4, 2) := by decide +kernel
theorem dX6_readyIn_20 : decode cX6_readyIn 20 = .ok (.iaload, 1) := by decide +kernel
theorem dX6_readyIn_21 : decode cX6_readyIn 21 = .ok (.iload_n 2, 1) := by decide +kernel
theorem dX6_readyIn_22 : decode cX6_readyIn 22 = .ok (.if_icmp .eq 6, 3) := by decide +kernel
theorem dX6_readyIn_25 : decode cX6_readyIn 25 = .ok (.goto 58, 3) := by decide +kernel
theorem dX6_readyIn_28 : decode cX6_readyIn 28 = .ok (.iload_n 3, 1) := by decide +kernel
theorem dX6_readyIn_29 : decode cX6_readyIn 29 = .ok (.aload_n 1, 1) := by decide +kernel
theorem dX6_readyIn_30 : decode cX6_readyIn 30 = .ok (.getfield 104, 3) := by decide +kernel
theorem dX6_readyIn_33 : decode cX6_readyIn 33 = .ok (.iload 4, 2) := by decide +kernel
theorem dX6_readyIn_35 : decode cX6_readyIn 35 = .ok (.iaload, 1) := by decide +kernel
theorem dX6_readyIn_36 : decode cX6_readyIn 36 = .ok (.iconst 5, 1) := by decide +kernel
theorem dX6_readyIn_37 : decode cX6_readyIn 37 = .ok (.if_icmp .eq 39, 3) := by decide +kernel
theorem dX6_readyIn_40 : decode cX6_readyIn 40 = .ok (.aload_n 0, 1) := by decide +kernel
theorem dX6_readyIn_41 : decode cX6_readyIn 41 = .ok (.getfield 13, 3) := by decide +kernel
theorem dX6_readyIn_44 : decode cX6_readyIn 44 = .ok (.iload_n 2, 1) := by decide +kernel
theorem dX6_readyIn_45 : decode cX6_readyIn 45 = .ok (.baload, 1) := by decide +kernel
theorem dX6_readyIn_46 : decode cX6_readyIn 46 = .ok (.ifCond .ne 34, 3) := by decide +kernel
theorem dX6_readyIn_49 : decode cX6_readyIn 49 = .ok (.aload_n 1, 1) := by decide +kernel
theorem dX6_readyIn_50 : decode cX6_readyIn 50 = .ok (.getfield 104, 3) := by decide +kernel
theorem dX6_readyIn_53 : decode cX6_readyIn 53 = .ok (.iload 4, 2) := by decide +kernel
theorem dX6_readyIn_55 : decode cX6_readyIn 55 = .ok (.iaload, 1) := by decide +kernel
theorem dX6_readyIn_56 : decode cX6_readyIn 56 = .ok (.iconst 2, 1) := by decide +kernel
theorem dX6_readyIn_57 : decode cX6_readyIn 57 = .ok (.if_icmp .ne 23, 3) := by decide +kernel
theorem dX6_readyIn_60 : decode cX6_readyIn 60 = .ok (.aload_n 1, 1) := by decide +kernel
theorem dX6_readyIn_61 : decode cX6_readyIn 61 = .ok (.getfield 107, 3) := by decide +kernel
theorem dX6_readyIn_64 : decode cX6_readyIn 64 = .ok (.iload 4, 2) := by decide +kernel
theorem dX6_readyIn_66 : decode cX6_readyIn 66 = .ok (.iaload, 1) := by decide +kernel
theorem dX6_readyIn_67 : decode cX6_readyIn 67 = .ok (.aload_n 0, 1) := by decide +kernel
theorem dX6_readyIn_68 : decode cX6_readyIn 68 = .ok (.getfield 9, 3) := by decide +kernel
theorem dX6_readyIn_71 : decode cX6_readyIn 71 = .ok (.iload_n 2, 1) := by decide +kernel
theorem dX6_readyIn_72 : decode cX6_readyIn 72 = .ok (.iaload, 1) := by decide +kernel
theorem dX6_readyIn_73 : decode cX6_readyIn 73 = .ok (.if_icmp .ne 7, 3) := by decide +kernel
theorem dX6_readyIn_76 : decode cX6_readyIn 76 = .ok (.iconst 1, 1) := by decide +kernel
theorem dX6_readyIn_77 : decode cX6_readyIn 77 = .ok (.goto 4, 3) := by decide +kernel
theorem dX6_readyIn_80 : decode cX6_readyIn 80 = .ok (.iconst 0, 1) := by decide +kernel
theorem dX6_readyIn_81 : decode cX6_readyIn 81 = .ok (.iadd, 1) := by decide +kernel
theorem dX6_readyIn_82 : decode cX6_readyIn 82 = .ok (.istore_n 3, 1) := by decide +kernel
theorem dX6_readyIn_83 : decode cX6_readyIn 83 = .ok (.iinc 4 1, 3) := by decide +kernel
theorem dX6_readyIn_86 : decode cX6_readyIn 86 = .ok (.goto (-81), 3) := by decide +kernel
theorem dX6_readyIn_89 : decode cX6_readyIn 89 = .ok (.iload_n 3, 1) := by decide +kernel
theorem dX6_readyIn_90 : decode cX6_readyIn 90 = .ok (.ireturn, 1) := by decide +kernel
theorem dX6_missing_0 : decode cX6_missing 0 = .ok (.iconst 0, 1) := by decide +kernel
theorem dX6_missing_1 : decode cX6_missing 1 = .ok (.istore_n 2, 1) := by decide +kernel
theorem dX6_missing_2 : decode cX6_missing 2 = .ok (.iconst 0, 1) := by decide +kernel
theorem dX6_missing_3 : decode cX6_missing 3 = .ok (.istore_n 3, 1) := by decide +kernel
theorem dX6_missing_4 : decode cX6_missing 4 = .ok (.iload_n 3, 1) := by decide +kernel
theorem dX6_missing_5 : decode cX6_missing 5 = .ok (.aload_n 0, 1) := by decide +kernel
theorem dX6_missing_6 : decode cX6_missing 6 = .ok (.getfield 49, 3) := by decide +kernel
theorem dX6_missing_9 : decode cX6_missing 9 = .ok (.if_icmp .ge 27, 3) := by decide +kernel
theorem dX6_missing_12 : decode cX6_missing 12 = .ok (.iload_n 2, 1) := by decide +kernel
theorem dX6_missing_13 : decode cX6_missing 13 = .ok (.aload_n 0, 1) := by decide +kernel
theorem dX6_missing_14 : decode cX6_missing 14 = .ok (.getfield 24, 3) := by decide +kernel
theorem dX6_missing_17 : decode cX6_missing 17 = .ok (.iload_n 3, 1) := by decide +kernel
theorem dX6_missing_18 : decode cX6_missing 18 = .ok (.iaload, 1) := by decide +kernel
theorem dX6_missing_19 : decode cX6_missing 19 = .ok (.iload_n 1, 1) := by decide +kernel
theorem dX6_missing_20 : decode cX6_missing 20 = .ok (.if_icmp .ne 7, 3) := by decide +kernel
theorem dX6_missing_23 : decode cX6_missing 23 = .ok (.iconst 1, 1) := by decide +kernel
theorem dX6_missing_24 : decode cX6_missing 24 = .ok (.goto 4, 3) := by decide +kernel
theorem dX6_missing_27 : decode cX6_missing 27 = .ok (.iconst 0, 1) := by decide +kernel
theorem dX6_missing_28 : decode cX6_missing 28 = .ok (.iadd, 1) := by decide +kernel
theorem dX6_missing_29 : decode cX6_missing 29 = .ok (.istore_n 2, 1) := by decide +kernel
theorem dX6_missing_30 : decode cX6_missing 30 = .ok (.iinc 3 1, 3) := by decide +kernel
theorem dX6_missing_33 : decode cX6_missing 33 = .ok (.goto (-29), 3) := by decide +kernel
theorem dX6_missing_36 : decode cX6_missing 36 = .ok (.iload_n 2, 1) := by decide +kernel
theorem dX6_missing_37 : decode cX6_missing 37 = .ok (.aload_n 0, 1) := by decide +kernel
theorem dX6_missing_38 : decode cX6_missing 38 = .ok (.aload_n 0, 1) := by decide +kernel
theorem dX6_missing_39 : decode cX6_missing 39 = .ok (.getfield 39, 3) := by decide +kernel
theorem dX6_missing_42 : decode cX6_missing 42 = .ok (.iload_n 1, 1) := by decide +kernel
theorem dX6_missing_43 : decode cX6_missing 43 = .ok (.invokevirtual 156, 3) := by decide +kernel
theorem dX6_missing_46 : decode cX6_missing 46 = .ok (.isub, 1) := by decide +kernel
theorem dX6_missing_47 : decode cX6_missing 47 = .ok (.ireturn, 1) := by decide +kernel
theorem dX6_readyOf_0 : decode cX6_readyOf 0 = .ok (.aload_n 0, 1) := by decide +kernel
theorem dX6_readyOf_1 : decode cX6_readyOf 1 = .ok (.iconst 0, 1) := by decide +kernel
theorem dX6_readyOf_2 : decode cX6_readyOf 2 = .ok (.putfield 46, 3) := by decide +kernel
theorem dX6_readyOf_5 : decode cX6_readyOf 5 = .ok (.aload_n 0, 1) := by decide +kernel
theorem dX6_readyOf_6 : decode cX6_readyOf 6 = .ok (.iload_n 1, 1) := by decide +kernel
theorem dX6_readyOf_7 : decode cX6_readyOf 7 = .ok (.invokevirtual 114, 3) := by decide +kernel
theorem dX6_readyOf_10 : decode cX6_readyOf 10 = .ok (.ifCond .eq 15, 3) := by decide +kernel
theorem dX6_readyOf_13 : decode cX6_readyOf 13 = .ok (.aload_n 0, 1) := by decide +kernel
theorem dX6_readyOf_14 : decode cX6_readyOf 14 = .ok (.aload_n 0, 1) := by decide +kernel
theorem dX6_readyOf_15 : decode cX6_readyOf 15 = .ok (.getfield 39, 3) := by decide +kernel
theorem dX6_readyOf_18 : decode cX6_readyOf 18 = .ok (.iload_n 1, 1) := by decide +kernel
theorem dX6_readyOf_19 : decode cX6_readyOf 19 = .ok (.invokevirtual 156, 3) := by decide +kernel
theorem dX6_readyOf_22 : decode cX6_readyOf 22 = .ok (.goto 8, 3) := by decide +kernel
theorem dX6_readyOf_25 : decode cX6_readyOf 25 = .ok (.aload_n 0, 1) := by decide +kernel
theorem dX6_readyOf_26 : decode cX6_readyOf 26 = .ok (.iconst 1, 1) := by decide +kernel
theorem dX6_readyOf_27 : decode cX6_readyOf 27 = .ok (.invokevirtual 110, 3) := by decide +kernel
theorem dX6_readyOf_30 : decode cX6_readyOf 30 = .ok (.ireturn, 1) := by decide +kernel
theorem dX6_missingOf_0 : decode cX6_missingOf 0 = .ok (.aload_n 0, 1) := by decide +kernel
theorem dX6_missingOf_1 : decode cX6_missingOf 1 = .ok (.iconst 0, 1) := by decide +kernel
theorem dX6_missingOf_2 : decode cX6_missingOf 2 = .ok (.putfield 46, 3) := by decide +kernel
theorem dX6_missingOf_5 : decode cX6_missingOf 5 = .ok (.aload_n 0, 1) := by decide +kernel
theorem dX6_missingOf_6 : decode cX6_missingOf 6 = .ok (.iload_n 1, 1) := by decide +kernel
theorem dX6_missingOf_7 : decode cX6_missingOf 7 = .ok (.invokevirtual 114, 3) := by decide +kernel
theorem dX6_missingOf_10 : decode cX6_missingOf 10 = .ok (.ifCond .eq 11, 3) := by decide +kernel
theorem dX6_missingOf_13 : decode cX6_missingOf 13 = .ok (.aload_n 0, 1) := by decide +kernel
theorem dX6_missingOf_14 : decode cX6_missingOf 14 = .ok (.iload_n 1, 1) := by decide +kernel
theorem dX6_missingOf_15 : decode cX6_missingOf 15 = .ok (.invokevirtual 159, 3) := by decide +kernel
theorem dX6_missingOf_18 : decode cX6_missingOf 18 = .ok (.goto 8, 3) := by decide +kernel
theorem dX6_missingOf_21 : decode cX6_missingOf 21 = .ok (.aload_n 0, 1) := by decide +kernel
theorem dX6_missingOf_22 : decode cX6_missingOf 22 = .ok (.iconst 1, 1) := by decide +kernel
theorem dX6_missingOf_23 : decode cX6_missingOf 23 = .ok (.invokevirtual 110, 3) := by decide +kernel
theorem dX6_missingOf_26 : decode cX6_missingOf 26 = .ok (.ireturn, 1) := by decide +kernel
theorem dX6_counted_0 : decode cX6_counted 0 = .ok (.iconst 0, 1) := by decide +kernel
theorem dX6_counted_1 : decode cX6_counted 1 = .ok (.istore_n 2, 1) := by decide +kernel
theorem dX6_counted_2 : decode cX6_counted 2 = .ok (.iconst 0, 1) := by decide +kernel
theorem dX6_counted_3 : decode cX6_counted 3 = .ok (.istore_n 3, 1) := by decide +kernel
theorem dX6_counted_4 : decode cX6_counted 4 = .ok (.iload_n 3, 1) := by decide +kernel
theorem dX6_counted_5 : decode cX6_counted 5 = .ok (.aload_n 0, 1) := by decide +kernel
theorem dX6_counted_6 : decode cX6_counted 6 = .ok (.getfield 49, 3) := by decide +kernel
theorem dX6_counted_9 : decode cX6_counted 9 = .ok (.if_icmp .ge 30, 3) := by decide +kernel
theorem dX6_counted_12 : decode cX6_counted 12 = .ok (.iload_n 2, 1) := by decide +kernel
theorem dX6_counted_13 : decode cX6_counted 13 = .ok (.aload_n 0, 1) := by decide +kernel
theorem dX6_counted_14 : decode cX6_counted 14 = .ok (.getfield 39, 3) := by decide +kernel
theorem dX6_counted_17 : decode cX6_counted 17 = .ok (.getfield 104, 3) := by decide +kernel
theorem dX6_counted_20 : decode cX6_counted 20 = .ok (.iload_n 3, 1) := by decide +kernel
theorem dX6_counted_21 : decode cX6_counted 21 = .ok (.iaload, 1) := by decide +kernel
theorem dX6_counted_22 : decode cX6_counted 22 = .ok (.iload_n 1, 1) := by decide +kernel
theorem dX6_counted_23 : decode cX6_counted 23 = .ok (.if_icmp .ne 7, 3) := by decide +kernel
theorem dX6_counted_26 : decode cX6_counted 26 = .ok (.iconst 1, 1) := by decide +kernel
theorem dX6_counted_27 : decode cX6_counted 27 = .ok (.goto 4, 3) := by decide +kernel
theorem dX6_counted_30 : decode cX6_counted 30 = .ok (.iconst 0, 1) := by decide +kernel
theorem dX6_counted_31 : decode cX6_counted 31 = .ok (.iadd, 1) := by decide +kernel
theorem dX6_counted_32 : decode cX6_counted 32 = .ok (.istore_n 2, 1) := by decide +kernel
theorem dX6_counted_33 : decode cX6_counted 33 = .ok (.iinc 3 1, 3) := by decide +kernel
theorem dX6_counted_36 : decode cX6_counted 36 = .ok (.goto (-32), 3) := by decide +kernel
theorem dX6_counted_39 : decode cX6_counted 39 = .ok (.iload_n 2, 1) := by decide +kernel
theorem dX6_counted_40 : decode cX6_counted 40 = .ok (.ireturn, 1) := by decide +kernel
theorem dX6_files_0 : decode cX6_files 0 = .ok (.iconst 0, 1) := by decide +kernel
theorem dX6_files_1 : decode cX6_files 1 = .ok (.istore_n 2, 1) := by decide +kernel
theorem dX6_files_2 : decode cX6_files 2 = .ok (.iconst 0, 1) := by decide +kernel
theorem dX6_files_3 : decode cX6_files 3 = .ok (.istore_n 3, 1) := by decide +kernel
theorem dX6_files_4 : decode cX6_files 4 = .ok (.iload_n 3, 1) := by decide +kernel
theorem dX6_files_5 : decode cX6_files 5 = .ok (.aload_n 0, 1) := by decide +kernel
theorem dX6_files_6 : decode cX6_files 6 = .ok (.getfield 49, 3) := by decide +kernel
theorem dX6_files_9 : decode cX6_files 9 = .ok (.if_icmp .ge 27, 3) := by decide +kernel
theorem dX6_files_12 : decode cX6_files 12 = .ok (.iload_n 2, 1) := by decide +kernel
theorem dX6_files_13 : decode cX6_files 13 = .ok (.aload_n 0, 1) := by decide +kernel
theorem dX6_files_14 : decode cX6_files 14 = .ok (.getfield 33, 3) := by decide +kernel
theorem dX6_files_17 : decode cX6_files 17 = .ok (.iload_n 3, 1) := by decide +kernel
theorem dX6_files_18 : decode cX6_files 18 = .ok (.iaload, 1) := by decide +kernel
theorem dX6_files_19 : decode cX6_files 19 = .ok (.iload_n 1, 1) := by decide +kernel
theorem dX6_files_20 : decode cX6_files 20 = .ok (.if_icmp .ne 7, 3) := by decide +kernel
theorem dX6_files_23 : decode cX6_files 23 = .ok (.iconst 1, 1) := by decide +kernel
theorem dX6_files_24 : decode cX6_files 24 = .ok (.goto 4, 3) := by decide +kernel
theorem dX6_files_27 : decode cX6_files 27 = .ok (.iconst 0, 1) := by decide +kernel
theorem dX6_files_28 : decode cX6_files 28 = .ok (.iadd, 1) := by decide +kernel
theorem dX6_files_29 : decode cX6_files 29 = .ok (.istore_n 2, 1) := by decide +kernel
theorem dX6_files_30 : decode cX6_files 30 = .ok (.iinc 3 1, 3) := by decide +kernel
theorem dX6_files_33 : decode cX6_files 33 = .ok (.goto (-29), 3) := by decide +kernel
theorem dX6_files_36 : decode cX6_files 36 = .ok (.iload_n 2, 1) := by decide +kernel
theorem dX6_files_37 : decode cX6_files 37 = .ok (.ireturn, 1) := by decide +kernel
theorem dX6_ok_0 : decode cX6_ok 0 = .ok (.aload_n 0, 1) := by decide +kernel
theorem dX6_ok_1 : decode cX6_ok 1 = .ok (.iconst 0, 1) := by decide +kernel
theorem dX6_ok_2 : decode cX6_ok 2 = .ok (.putfield 46, 3) := by decide +kernel
theorem dX6_ok_5 : decode cX6_ok 5 = .ok (.iload_n 1, 1) := by decide +kernel
theorem dX6_ok_6 : decode cX6_ok 6 = .ok (.ireturn, 1) := by decide +kernel
theorem dX6_minute_0 : decode cX6_minute 0 = .ok (.aload_n 0, 1) := by decide +kernel
theorem dX6_minute_1 : decode cX6_minute 1 = .ok (.aload_n 0, 1) := by decide +kernel
theorem dX6_minute_2 : decode cX6_minute 2 = .ok (.getfield 39, 3) := by decide +kernel
theorem dX6_minute_5 : decode cX6_minute 5 = .ok (.getfield 97, 3) := by decide +kernel
theorem dX6_minute_8 : decode cX6_minute 8 = .ok (.invokevirtual 162, 3) := by decide +kernel
theorem dX6_minute_11 : decode cX6_minute 11 = .ok (.ireturn, 1) := by decide +kernel
theorem dX6_flights_0 : decode cX6_flights 0 = .ok (.aload_n 0, 1) := by decide +kernel
theorem dX6_flights_1 : decode cX6_flights 1 = .ok (.aload_n 0, 1) := by decide +kernel
theorem dX6_flights_2 : decode cX6_flights 2 = .ok (.getfield 56, 3) := by decide +kernel
theorem dX6_flights_5 : decode cX6_flights 5 = .ok (.invokevirtual 162, 3) := by decide +kernel
theorem dX6_flights_8 : decode cX6_flights 8 = .ok (.ireturn, 1) := by decide +kernel
theorem dX6_bags_0 : decode cX6_bags 0 = .ok (.aload_n 0, 1) := by decide +kernel
theorem dX6_bags_1 : decode cX6_bags 1 = .ok (.aload_n 0, 1) := by decide +kernel
theorem dX6_bags_2 : decode cX6_bags 2 = .ok (.getfield 49, 3) := by decide +kernel
theorem dX6_bags_5 : decode cX6_bags 5 = .ok (.invokevirtual 162, 3) := by decide +kernel
theorem dX6_bags_8 : decode cX6_bags 8 = .ok (.ireturn, 1) := by decide +kernel
theorem dX6_inLine_0 : decode cX6_inLine 0 = .ok (.aload_n 0, 1) := by decide +kernel
theorem dX6_inLine_1 : decode cX6_inLine 1 = .ok (.aload_n 0, 1) := by decide +kernel
theorem dX6_inLine_2 : decode cX6_inLine 2 = .ok (.getfield 39, 3) := by decide +kernel
theorem dX6_inLine_5 : decode cX6_inLine 5 = .ok (.getfield 90, 3) := by decide +kernel
theorem dX6_inLine_8 : decode cX6_inLine 8 = .ok (.invokevirtual 162, 3) := by decide +kernel
theorem dX6_inLine_11 : decode cX6_inLine 11 = .ok (.ireturn, 1) := by decide +kernel
theorem dX6_onBelt_0 : decode cX6_onBelt 0 = .ok (.aload_n 0, 1) := by decide +kernel
theorem dX6_onBelt_1 : decode cX6_onBelt 1 = .ok (.aload_n 0, 1) := by decide +kernel
theorem dX6_onBelt_2 : decode cX6_onBelt 2 = .ok (.iconst 1, 1) := by decide +kernel
theorem dX6_onBelt_3 : decode cX6_onBelt 3 = .ok (.invokevirtual 165, 3) := by decide +kernel
theorem dX6_onBelt_6 : decode cX6_onBelt 6 = .ok (.invokevirtual 162, 3) := by decide +kernel
theorem dX6_onBelt_9 : decode cX6_onBelt 9 = .ok (.ireturn, 1) := by decide +kernel
theorem dX6_atDesk_0 : decode cX6_atDesk 0 = .ok (.aload_n 0, 1) := by decide +kernel
theorem dX6_atDesk_1 : decode cX6_atDesk 1 = .ok (.aload_n 0, 1) := by decide +kernel
theorem dX6_atDesk_2 : decode cX6_atDesk 2 = .ok (.iconst 3, 1) := by decide +kernel
theorem dX6_atDesk_3 : decode cX6_atDesk 3 = .ok (.invokevirtual 165, 3) := by decide +kernel
theorem dX6_atDesk_6 : decode cX6_atDesk 6 = .ok (.invokevirtual 162, 3) := by decide +kernel
theorem dX6_atDesk_9 : decode cX6_atDesk 9 = .ok (.ireturn, 1) := by decide +kernel
theorem dX6_openFiles_0 : decode cX6_openFiles 0 = .ok (.aload_n 0, 1) := by decide +kernel
theorem dX6_openFiles_1 : decode cX6_openFiles 1 = .ok (.aload_n 0, 1) := by decide +kernel
theorem dX6_openFiles_2 : decode cX6_openFiles 2 = .ok (.iconst 1, 1) := by decide +kernel
theorem dX6_openFiles_3 : decode cX6_openFiles 3 = .ok (.invokevirtual 168, 3) := by decide +kernel
theorem dX6_openFiles_6 : decode cX6_openFiles 6 = .ok (.invokevirtual 162, 3) := by decide +kernel
theorem dX6_openFiles_9 : decode cX6_openFiles 9 = .ok (.ireturn, 1) := by decide +kernel
theorem dX6_closedFiles_0 : decode cX6_closedFiles 0 = .ok (.aload_n 0, 1) := by decide +kernel
theorem dX6_closedFiles_1 : decode cX6_closedFiles 1 = .ok (.aload_n 0, 1) := by decide +kernel
theorem dX6_closedFiles_2 : decode cX6_closedFiles 2 = .ok (.iconst 2, 1) := by decide +kernel
theorem dX6_closedFiles_3 : decode cX6_closedFiles 3 = .ok (.invokevirtual 168, 3) := by decide +kernel
theorem dX6_closedFiles_6 : decode cX6_closedFiles 6 = .ok (.invokevirtual 162, 3) := by decide +kernel
theorem dX6_closedFiles_9 : decode cX6_closedFiles 9 = .ok (.ireturn, 1) := by decide +kernel
theorem dX6_reader_0 : decode cX6_reader 0 = .ok (.aload_n 0, 1) := by decide +kernel
theorem dX6_reader_1 : decode cX6_reader 1 = .ok (.aload_n 0, 1) := by decide +kernel
theorem dX6_reader_2 : decode cX6_reader 2 = .ok (.getfield 20, 3) := by decide +kernel
theorem dX6_reader_5 : decode cX6_reader 5 = .ok (.invokevirtual 162, 3) := by decide +kernel
theorem dX6_reader_8 : decode cX6_reader 8 = .ok (.ireturn, 1) := by decide +kernel
theorem dX6_untilChute_0 : decode cX6_untilChute 0 = .ok (.aload_n 0, 1) := by decide +kernel
theorem dX6_untilChute_1 : decode cX6_untilChute 1 = .ok (.getfield 43, 3) := by decide +kernel
theorem dX6_untilChute_4 : decode cX6_untilChute 4 = .ok (.aload_n 0, 1) := by decide +kernel
theorem dX6_untilChute_5 : decode cX6_untilChute 5 = .ok (.getfield 39, 3) := by decide +kernel
theorem dX6_untilChute_8 : decode cX6_untilChute 8 = .ok (.invokevirtual 171, 3) := by decide +kernel
theorem dX6_untilChute_11 : decode cX6_untilChute 11 = .ok (.iconst 0, 1) := by decide +kernel
theorem dX6_untilChute_12 : decode cX6_untilChute 12 = .ok (.istore_n 2, 1) := by decide +kernel
theorem dX6_untilChute_13 : decode cX6_untilChute 13 = .ok (.iload_n 2, 1) := by decide +kernel
theorem dX6_untilChute_14 : decode cX6_untilChute 14 = .ok (.bipush 120, 2) := by decide +kernel
theorem dX6_untilChute_16 : decode cX6_untilChute 16 = .ok (.if_icmp .gt 33, 3) := by decide +kernel
theorem dX6_untilChute_19 : decode cX6_untilChute 19 = .ok (.aload_n 0, 1) := by decide +kernel
theorem dX6_untilChute_20 : decode cX6_untilChute 20 = .ok (.getfield 43, 3) := by decide +kernel
theorem dX6_untilChute_23 : decode cX6_untilChute 23 = .ok (.getfield 104, 3) := by decide +kernel
theorem dX6_untilChute_26 : decode cX6_untilChute 26 = .ok (.iload_n 1, 1) := by decide +kernel
theorem dX6_untilChute_27 : decode cX6_untilChute 27 = .ok (.iaload, 1) := by decide +kernel
theorem dX6_untilChute_28 : decode cX6_untilChute 28 = .ok (.iconst 2, 1) := by decide +kernel
theorem dX6_untilChute_29 : decode cX6_untilChute 29 = .ok (.if_icmp .ne 5, 3) := by decide +kernel
theorem dX6_untilChute_32 : decode cX6_untilChute 32 = .ok (.iload_n 2, 1) := by decide +kernel
theorem dX6_untilChute_33 : decode cX6_untilChute 33 = .ok (.ireturn, 1) := by decide +kernel
theorem dX6_untilChute_34 : decode cX6_untilChute 34 = .ok (.aload_n 0, 1) := by decide +kernel
theorem dX6_untilChute_35 : decode cX6_untilChute 35 = .ok (.aload_n 0, 1) := by decide +kernel
theorem dX6_untilChute_36 : decode cX6_untilChute 36 = .ok (.getfield 43, 3) := by decide +kernel
theorem dX6_untilChute_39 : decode cX6_untilChute 39 = .ok (.invokevirtual 100, 3) := by decide +kernel
theorem dX6_untilChute_42 : decode cX6_untilChute 42 = .ok (.pop, 1) := by decide +kernel
theorem dX6_untilChute_43 : decode cX6_untilChute 43 = .ok (.iinc 2 1, 3) := by decide +kernel
theorem dX6_untilChute_46 : decode cX6_untilChute 46 = .ok (.goto (-33), 3) := by decide +kernel
theorem dX6_untilChute_49 : decode cX6_untilChute 49 = .ok (.iconst (-1), 1) := by decide +kernel
theorem dX6_untilChute_50 : decode cX6_untilChute 50 = .ok (.ireturn, 1) := by decide +kernel
theorem dX6_minutesUntilChute_0 : decode cX6_minutesUntilChute 0 = .ok (.aload_n 0, 1) := by decide +kernel
theorem dX6_minutesUntilChute_1 : decode cX6_minutesUntilChute 1 = .ok (.iconst 0, 1) := by decide +kernel
theorem dX6_minutesUntilChute_2 : decode cX6_minutesUntilChute 2 = .ok (.putfield 46, 3) := by decide +kernel
theorem dX6_minutesUntilChute_5 : decode cX6_minutesUntilChute 5 = .ok (.aload_n 0, 1) := by decide +kernel
theorem dX6_minutesUntilChute_6 : decode cX6_minutesUntilChute 6 = .ok (.iload_n 1, 1) := by decide +kernel
theorem dX6_minutesUntilChute_7 : decode cX6_minutesUntilChute 7 = .ok (.invokevirtual 128, 3) := by decide +kernel
theorem dX6_minutesUntilChute_10 : decode cX6_minutesUntilChute 10 = .ok (.ifCond .eq 11, 3) := by decide +kernel
theorem dX6_minutesUntilChute_13 : decode cX6_minutesUntilChute 13 = .ok (.aload_n 0, 1) := by decide +kernel
theorem dX6_minutesUntilChute_14 : decode cX6_minutesUntilChute 14 = .ok (.iload_n 1, 1) := by decide +kernel
theorem dX6_minutesUntilChute_15 : decode cX6_minutesUntilChute 15 = .ok (.invokevirtual 174, 3) := by decide +kernel
theorem dX6_minutesUntilChute_18 : decode cX6_minutesUntilChute 18 = .ok (.goto 8, 3) := by decide +kernel
theorem dX6_minutesUntilChute_21 : decode cX6_minutesUntilChute 21 = .ok (.aload_n 0, 1) := by decide +kernel
theorem dX6_minutesUntilChute_22 : decode cX6_minutesUntilChute 22 = .ok (.iconst 1, 1) := by decide +kernel
theorem dX6_minutesUntilChute_23 : decode cX6_minutesUntilChute 23 = .ok (.invokevirtual 110, 3) := by decide +kernel
theorem dX6_minutesUntilChute_26 : decode cX6_minutesUntilChute 26 = .ok (.ireturn, 1) := by decide +kernel
theorem dX6_readyBehind_0 : decode cX6_readyBehind 0 = .ok (.aload_n 0, 1) := by decide +kernel
theorem dX6_readyBehind_1 : decode cX6_readyBehind 1 = .ok (.getfield 43, 3) := by decide +kernel
theorem dX6_readyBehind_4 : decode cX6_readyBehind 4 = .ok (.aload_n 0, 1) := by decide +kernel
theorem dX6_readyBehind_5 : decode cX6_readyBehind 5 = .ok (.getfield 39, 3) := by decide +kernel
theorem dX6_readyBehind_8 : decode cX6_readyBehind 8 = .ok (.invokevirtual 171, 3) := by decide +kernel
theorem dX6_readyBehind_11 : decode cX6_readyBehind 11 = .ok (.aload_n 0, 1) := by decide +kernel
theorem dX6_readyBehind_12 : decode cX6_readyBehind 12 = .ok (.aload_n 0, 1) := by decide +kernel
theorem dX6_readyBehind_13 : decode cX6_readyBehind 13 = .ok (.getfield 43, 3) := by decide +kernel
theorem dX6_readyBehind_16 : decode cX6_readyBehind 16 = .ok (.iload_n 2, 1) := by decide +kernel
theorem dX6_readyBehind_17 : decode cX6_readyBehind 17 = .ok (.invokevirtual 143, 3) := by decide +kernel
theorem dX6_readyBehind_20 : decode cX6_readyBehind 20 = .ok (.pop, 1) := by decide +kernel
theorem dX6_readyBehind_21 : decode cX6_readyBehind 21 = .ok (.aload_n 0, 1) := by decide +kernel
theorem dX6_readyBehind_22 : decode cX6_readyBehind 22 = .ok (.aload_n 0, 1) := by decide +kernel
theorem dX6_readyBehind_23 : decode cX6_readyBehind 23 = .ok (.getfield 43, 3) := by decide +kernel
theorem dX6_readyBehind_26 : decode cX6_readyBehind 26 = .ok (.iload_n 1, 1) := by decide +kernel
theorem dX6_readyBehind_27 : decode cX6_readyBehind 27 = .ok (.invokevirtual 156, 3) := by decide +kernel
theorem dX6_readyBehind_30 : decode cX6_readyBehind 30 = .ok (.ireturn, 1) := by decide +kernel
theorem dX6_readyAfter_0 : decode cX6_readyAfter 0 = .ok (.aload_n 0, 1) := by decide +kernel
theorem dX6_readyAfter_1 : decode cX6_readyAfter 1 = .ok (.iconst 0, 1) := by decide +kernel
theorem dX6_readyAfter_2 : decode cX6_readyAfter 2 = .ok (.putfield 46, 3) := by decide +kernel
theorem dX6_readyAfter_5 : decode cX6_readyAfter 5 = .ok (.aload_n 0, 1) := by decide +kernel
theorem dX6_readyAfter_6 : decode cX6_readyAfter 6 = .ok (.iload_n 1, 1) := by decide +kernel
theorem dX6_readyAfter_7 : decode cX6_readyAfter 7 = .ok (.invokevirtual 114, 3) := by decide +kernel
theorem dX6_readyAfter_10 : decode cX6_readyAfter 10 = .ok (.ifCond .ne 9, 3) := by decide +kernel
theorem dX6_readyAfter_13 : decode cX6_readyAfter 13 = .ok (.aload_n 0, 1) := by decide +kernel
theorem dX6_readyAfter_14 : decode cX6_readyAfter 14 = .ok (.iconst 1, 1) := by decide +kernel
theorem dX6_readyAfter_15 : decode cX6_readyAfter 15 = .ok (.invokevirtual 110, 3) := by decide +kernel
theorem dX6_readyAfter_18 : decode cX6_readyAfter 18 = .ok (.ireturn, 1) := by decide +kernel
theorem dX6_readyAfter_19 : decode cX6_readyAfter 19 = .ok (.iload_n 2, 1) := by decide +kernel
theorem dX6_readyAfter_20 : decode cX6_readyAfter 20 = .ok (.iconst 1, 1) := by decide +kernel
theorem dX6_readyAfter_21 : decode cX6_readyAfter 21 = .ok (.bipush 60, 2) := by decide +kernel
theorem dX6_readyAfter_23 : decode cX6_readyAfter 23 = .ok (.invokestatic 52, 3) := by decide +kernel
theorem dX6_readyAfter_26 : decode cX6_readyAfter 26 = .ok (.ifCond .eq 12, 3) := by decide +kernel
theorem dX6_readyAfter_29 : decode cX6_readyAfter 29 = .ok (.aload_n 0, 1) := by decide +kernel
theorem dX6_readyAfter_30 : decode cX6_readyAfter 30 = .ok (.iload_n 1, 1) := by decide +kernel
theorem dX6_readyAfter_31 : decode cX6_readyAfter 31 = .ok (.iload_n 2, 1) := by decide +kernel
theorem dX6_readyAfter_32 : decode cX6_readyAfter 32 = .ok (.invokevirtual 177, 3) := by decide +kernel
theorem dX6_readyAfter_35 : decode cX6_readyAfter 35 = .ok (.goto 8, 3) := by decide +kernel
theorem dX6_readyAfter_38 : decode cX6_readyAfter 38 = .ok (.aload_n 0, 1) := by decide +kernel
theorem dX6_readyAfter_39 : decode cX6_readyAfter 39 = .ok (.iconst 2, 1) := by decide +kernel
theorem dX6_readyAfter_40 : decode cX6_readyAfter 40 = .ok (.invokevirtual 110, 3) := by decide +kernel
theorem dX6_readyAfter_43 : decode cX6_readyAfter 43 = .ok (.ireturn, 1) := by decide +kernel
theorem dX6_best_0 : decode cX6_best 0 = .ok (.aload_n 0, 1) := by decide +kernel
theorem dX6_best_1 : decode cX6_best 1 = .ok (.getfield 9, 3) := by decide +kernel
theorem dX6_best_4 : decode cX6_best 4 = .ok (.iload_n 1, 1) := by decide +kernel
theorem dX6_best_5 : decode cX6_best 5 = .ok (.iaload, 1) := by decide +kernel
theorem dX6_best_6 : decode cX6_best 6 = .ok (.istore_n 3, 1) := by decide +kernel
theorem dX6_best_7 : decode cX6_best 7 = .ok (.iconst (-1), 1) := by decide +kernel
theorem dX6_best_8 : decode cX6_best 8 = .ok (.istore 4, 2) := by decide +kernel
theorem dX6_best_10 : decode cX6_best 10 = .ok (.iconst (-1), 1) := by decide +kernel
theorem dX6_best_11 : decode cX6_best 11 = .ok (.istore 5, 2) := by decide +kernel
theorem dX6_best_13 : decode cX6_best 13 = .ok (.iconst 0, 1) := by decide +kernel
theorem dX6_best_14 : decode cX6_best 14 = .ok (.istore 6, 2) := by decide +kernel
theorem dX6_best_16 : decode cX6_best 16 = .ok (.iload 6, 2) := by decide +kernel
theorem dX6_best_18 : decode cX6_best 18 = .ok (.iconst 4, 1) := by decide +kernel
theorem dX6_best_19 : decode cX6_best 19 = .ok (.if_icmp .ge 43, 3) := by decide +kernel
theorem dX6_best_22 : decode cX6_best 22 = .ok (.aload_n 0, 1) := by decide +kernel
theorem dX6_best_23 : decode cX6_best 23 = .ok (.getfield 9, 3) := by decide +kernel
theorem dX6_best_26 : decode cX6_best 26 = .ok (.iload_n 1, 1) := by decide +kernel
theorem dX6_best_27 : decode cX6_best 27 = .ok (.iload 6, 2) := by decide +kernel
theorem dX6_best_29 : decode cX6_best 29 = .ok (.iastore, 1) := by decide +kernel
theorem dX6_best_30 : decode cX6_best 30 = .ok (.aload_n 0, 1) := by decide +kernel
theorem dX6_best_31 : decode cX6_best 31 = .ok (.iload_n 1, 1) := by decide +kernel
theorem dX6_best_32 : decode cX6_best 32 = .ok (.iload_n 2, 1) := by decide +kernel
theorem dX6_best_33 : decode cX6_best 33 = .ok (.invokevirtual 177, 3) := by decide +kernel
theorem dX6_best_36 : decode cX6_best 36 = .ok (.istore 7, 2) := by decide +kernel
theorem dX6_best_38 : decode cX6_best 38 = .ok (.iload 7, 2) := by decide +kernel
theorem dX6_best_40 : decode cX6_best 40 = .ok (.iload 5, 2) := by decide +kernel
theorem dX6_best_42 : decode cX6_best 42 = .ok (.if_icmp .gt 6, 3) := by decide +kernel
theorem dX6_best_45 : decode cX6_best 45 = .ok (.goto 11, 3) := by decide +kernel
theorem dX6_best_48 : decode cX6_best 48 = .ok (.iload 6, 2) := by decide +kernel
theorem dX6_best_50 : decode cX6_best 50 = .ok (.istore 4, 2) := by decide +kernel
theorem dX6_best_52 : decode cX6_best 52 = .ok (.iload 7, 2) := by decide +kernel
theorem dX6_best_54 : decode cX6_best 54 = .ok (.istore 5, 2) := by decide +kernel
theorem dX6_best_56 : decode cX6_best 56 = .ok (.iinc 6 1, 3) := by decide +kernel
theorem dX6_best_59 : decode cX6_best 59 = .ok (.goto (-43), 3) := by decide +kernel
theorem dX6_best_62 : decode cX6_best 62 = .ok (.aload_n 0, 1) := by decide +kernel
theorem dX6_best_63 : decode cX6_best 63 = .ok (.getfield 9, 3) := by decide +kernel
theorem dX6_best_66 : decode cX6_best 66 = .ok (.iload_n 1, 1) := by decide +kernel
theorem dX6_best_67 : decode cX6_best 67 = .ok (.iload_n 3, 1) := by decide +kernel
theorem dX6_best_68 : decode cX6_best 68 = .ok (.iastore, 1) := by decide +kernel
theorem dX6_best_69 : decode cX6_best 69 = .ok (.iload 4, 2) := by decide +kernel
theorem dX6_best_71 : decode cX6_best 71 = .ok (.ireturn, 1) := by decide +kernel
theorem dX6_bestChute_0 : decode cX6_bestChute 0 = .ok (.aload_n 0, 1) := by decide +kernel
theorem dX6_bestChute_1 : decode cX6_bestChute 1 = .ok (.iconst 0, 1) := by decide +kernel
theorem dX6_bestChute_2 : decode cX6_bestChute 2 = .ok (.putfield 46, 3) := by decide +kernel
theorem dX6_bestChute_5 : decode cX6_bestChute 5 = .ok (.aload_n 0, 1) := by decide +kernel
theorem dX6_bestChute_6 : decode cX6_bestChute 6 = .ok (.iload_n 1, 1) := by decide +kernel
theorem dX6_bestChute_7 : decode cX6_bestChute 7 = .ok (.invokevirtual 114, 3) := by decide +kernel
theorem dX6_bestChute_10 : decode cX6_bestChute 10 = .ok (.ifCond .ne 9, 3) := by decide +kernel
theorem dX6_bestChute_13 : decode cX6_bestChute 13 = .ok (.aload_n 0, 1) := by decide +kernel
theorem dX6_bestChute_14 : decode cX6_bestChute 14 = .ok (.iconst 1, 1) := by decide +kernel
theorem dX6_bestChute_15 : decode cX6_bestChute 15 = .ok (.invokevirtual 110, 3) := by decide +kernel
theorem dX6_bestChute_18 : decode cX6_bestChute 18 = .ok (.ireturn, 1) := by decide +kernel
theorem dX6_bestChute_19 : decode cX6_bestChute 19 = .ok (.iload_n 2, 1) := by decide +kernel
theorem dX6_bestChute_20 : decode cX6_bestChute 20 = .ok (.iconst 1, 1) := by decide +kernel
theorem dX6_bestChute_21 : decode cX6_bestChute 21 = .ok (.bipush 60, 2) := by decide +kernel
theorem dX6_bestChute_23 : decode cX6_bestChute 23 = .ok (.invokestatic 52, 3) := by decide +kernel
theorem dX6_bestChute_26 : decode cX6_bestChute 26 = .ok (.ifCond .ne 9, 3) := by decide +kernel
theorem dX6_bestChute_29 : decode cX6_bestChute 29 = .ok (.aload_n 0, 1) := by decide +kernel
theorem dX6_bestChute_30 : decode cX6_bestChute 30 = .ok (.iconst 2, 1) := by decide +kernel
theorem dX6_bestChute_31 : decode cX6_bestChute 31 = .ok (.invokevirtual 110, 3) := by decide +kernel
theorem dX6_bestChute_34 : decode cX6_bestChute 34 = .ok (.ireturn, 1) := by decide +kernel
theorem dX6_bestChute_35 : decode cX6_bestChute 35 = .ok (.aload_n 0, 1) := by decide +kernel
theorem dX6_bestChute_36 : decode cX6_bestChute 36 = .ok (.getfield 13, 3) := by decide +kernel
theorem dX6_bestChute_39 : decode cX6_bestChute 39 = .ok (.iload_n 1, 1) := by decide +kernel
theorem dX6_bestChute_40 : decode cX6_bestChute 40 = .ok (.baload, 1) := by decide +kernel
theorem dX6_bestChute_41 : decode cX6_bestChute 41 = .ok (.ifCond .eq 11, 3) := by decide +kernel
theorem dX6_bestChute_44 : decode cX6_bestChute 44 = .ok (.aload_n 0, 1) := by decide +kernel
theorem dX6_bestChute_45 : decode cX6_bestChute 45 = .ok (.iconst 3, 1) := by decide +kernel
theorem dX6_bestChute_46 : decode cX6_bestChute 46 = .ok (.invokevirtual 110, 3) := by decide +kernel
theorem dX6_bestChute_49 : decode cX6_bestChute 49 = .ok (.goto 9, 3) := by decide +kernel
theorem dX6_bestChute_52 : decode cX6_bestChute 52 = .ok (.aload_n 0, 1) := by decide +kernel
theorem dX6_bestChute_53 : decode cX6_bestChute 53 = .ok (.iload_n 1, 1) := by decide +kernel
theorem dX6_bestChute_54 : decode cX6_bestChute 54 = .ok (.iload_n 2, 1) := by decide +kernel
theorem dX6_bestChute_55 : decode cX6_bestChute 55 = .ok (.invokevirtual 180, 3) := by decide +kernel
theorem dX6_bestChute_58 : decode cX6_bestChute 58 = .ok (.ireturn, 1) := by decide +kernel
theorem dX6_meanMisses_0 : decode cX6_meanMisses 0 = .ok (.aload_n 0, 1) := by decide +kernel
theorem dX6_meanMisses_1 : decode cX6_meanMisses 1 = .ok (.iconst 0, 1) := by decide +kernel
theorem dX6_meanMisses_2 : decode cX6_meanMisses 2 = .ok (.putfield 46, 3) := by decide +kernel
theorem dX6_meanMisses_5 : decode cX6_meanMisses 5 = .ok (.iconst 0, 1) := by decide +kernel
theorem dX6_meanMisses_6 : decode cX6_meanMisses 6 = .ok (.istore_n 1, 1) := by decide +kernel
theorem dX6_meanMisses_7 : decode cX6_meanMisses 7 = .ok (.iconst 0, 1) := by decide +kernel
theorem dX6_meanMisses_8 : decode cX6_meanMisses 8 = .ok (.istore_n 2, 1) := by decide +kernel
theorem dX6_meanMisses_9 : decode cX6_meanMisses 9 = .ok (.iload_n 2, 1) := by decide +kernel
theorem dX6_meanMisses_10 : decode cX6_meanMisses 10 = .ok (.aload_n 0, 1) := by decide +kernel
theorem dX6_meanMisses_11 : decode cX6_meanMisses 11 = .ok (.getfield 49, 3) := by decide +kernel
theorem dX6_meanMisses_14 : decode cX6_meanMisses 14 = .ok (.if_icmp .ge 21, 3) := by decide +kernel
theorem dX6_meanMisses_17 : decode cX6_meanMisses 17 = .ok (.iload_n 1, 1) := by decide +kernel
theorem dX6_meanMisses_18 : decode cX6_meanMisses 18 = .ok (.aload_n 0, 1) := by decide +kernel
theorem dX6_meanMisses_19 : decode cX6_meanMisses 19 = .ok (.getfield 39, 3) := by decide +kernel
theorem dX6_meanMisses_22 : decode cX6_meanMisses 22 = .ok (.getfield 65, 3) := by decide +kernel
theorem dX6_meanMisses_25 : decode cX6_meanMisses 25 = .ok (.iload_n 2, 1) := by decide +kernel
theorem dX6_meanMisses_26 : decode cX6_meanMisses 26 = .ok (.iaload, 1) := by decide +kernel
theorem dX6_meanMisses_27 : decode cX6_meanMisses 27 = .ok (.iadd, 1) := by decide +kernel
theorem dX6_meanMisses_28 : decode cX6_meanMisses 28 = .ok (.istore_n 1, 1) := by decide +kernel
theorem dX6_meanMisses_29 : decode cX6_meanMisses 29 = .ok (.iinc 2 1, 3) := by decide +kernel
theorem dX6_meanMisses_32 : decode cX6_meanMisses 32 = .ok (.goto (-23), 3) := by decide +kernel
theorem dX6_meanMisses_35 : decode cX6_meanMisses 35 = .ok (.aload_n 0, 1) := by decide +kernel
theorem dX6_meanMisses_36 : decode cX6_meanMisses 36 = .ok (.getfield 49, 3) := by decide +kernel
theorem dX6_meanMisses_39 : decode cX6_meanMisses 39 = .ok (.ifCond .ne 7, 3) := by decide +kernel
theorem dX6_meanMisses_42 : decode cX6_meanMisses 42 = .ok (.dconst 0, 1) := by decide +kernel
theorem dX6_meanMisses_43 : decode cX6_meanMisses 43 = .ok (.goto 11, 3) := by decide +kernel
theorem dX6_meanMisses_46 : decode cX6_meanMisses 46 = .ok (.iload_n 1, 1) := by decide +kernel
theorem dX6_meanMisses_47 : decode cX6_meanMisses 47 = .ok (.i2d, 1) := by decide +kernel
theorem dX6_meanMisses_48 : decode cX6_meanMisses 48 = .ok (.aload_n 0, 1) := by decide +kernel
theorem dX6_meanMisses_49 : decode cX6_meanMisses 49 = .ok (.getfield 49, 3) := by decide +kernel
theorem dX6_meanMisses_52 : decode cX6_meanMisses 52 = .ok (.i2d, 1) := by decide +kernel
theorem dX6_meanMisses_53 : decode cX6_meanMisses 53 = .ok (.ddiv, 1) := by decide +kernel
theorem dX6_meanMisses_54 : decode cX6_meanMisses 54 = .ok (.dreturn, 1) := by decide +kernel
theorem dX6_one_0 : decode cX6_one 0 = .ok (.iload_n 0, 1) := by decide +kernel
theorem dX6_one_1 : decode cX6_one 1 = .ok (.ifCond .eq 7, 3) := by decide +kernel
theorem dX6_one_4 : decode cX6_one 4 = .ok (.iconst 1, 1) := by decide +kernel
theorem dX6_one_5 : decode cX6_one 5 = .ok (.goto 4, 3) := by decide +kernel
theorem dX6_one_8 : decode cX6_one 8 = .ok (.iconst 0, 1) := by decide +kernel
theorem dX6_one_9 : decode cX6_one 9 = .ok (.ireturn, 1) := by decide +kernel
theorem dX6_on_0 : decode cX6_on 0 = .ok (.lload_n 0, 1) := by decide +kernel
theorem dX6_on_1 : decode cX6_on 1 = .ok (.ldc2_w 183, 3) := by decide +kernel
theorem dX6_on_4 : decode cX6_on 4 = .ok (.lmul, 1) := by decide +kernel
theorem dX6_on_5 : decode cX6_on 5 = .ok (.iload_n 2, 1) := by decide +kernel
theorem dX6_on_6 : decode cX6_on 6 = .ok (.i2l, 1) := by decide +kernel
theorem dX6_on_7 : decode cX6_on 7 = .ok (.ladd, 1) := by decide +kernel
theorem dX6_on_8 : decode cX6_on 8 = .ok (.lreturn, 1) := by decide +kernel
theorem dX6_digest_0 : decode cX6_digest 0 = .ok (.aload_n 0, 1) := by decide +kernel
theorem dX6_digest_1 : decode cX6_digest 1 = .ok (.iconst 0, 1) := by decide +kernel
theorem dX6_digest_2 : decode cX6_digest 2 = .ok (.putfield 46, 3) := by decide +kernel
theorem dX6_digest_5 : decode cX6_digest 5 = .ok (.ldc2_w 185, 3) := by decide +kernel
theorem dX6_digest_8 : decode cX6_digest 8 = .ok (.aload_n 0, 1) := by decide +kernel
theorem dX6_digest_9 : decode cX6_digest 9 = .ok (.getfield 39, 3) := by decide +kernel
theorem dX6_digest_12 : decode cX6_digest 12 = .ok (.getfield 97, 3) := by decide +kernel
theorem dX6_digest_15 : decode cX6_digest 15 = .ok (.invokestatic 187, 3) := by decide +kernel
theorem dX6_digest_18 : decode cX6_digest 18 = .ok (.aload_n 0, 1) := by decide +kernel
theorem dX6_digest_19 : decode cX6_digest 19 = .ok (.getfield 56, 3) := by decide +kernel
theorem dX6_digest_22 : decode cX6_digest 22 = .ok (.invokestatic 187, 3) := by decide +kernel
theorem dX6_digest_25 : decode cX6_digest 25 = .ok (.aload_n 0, 1) := by decide +kernel
theorem dX6_digest_26 : decode cX6_digest 26 = .ok (.getfield 49, 3) := by decide +kernel
theorem dX6_digest_29 : decode cX6_digest 29 = .ok (.invokestatic 187, 3) := by decide +kernel
theorem dX6_digest_32 : decode cX6_digest 32 = .ok (.aload_n 0, 1) := by decide +kernel
theorem dX6_digest_33 : decode cX6_digest 33 = .ok (.getfield 39, 3) := by decide +kernel
theorem dX6_digest_36 : decode cX6_digest 36 = .ok (.getfield 90, 3) := by decide +kernel
theorem dX6_digest_39 : decode cX6_digest 39 = .ok (.invokestatic 187, 3) := by decide +kernel
theorem dX6_digest_42 : decode cX6_digest 42 = .ok (.lstore_n 1, 1) := by decide +kernel
theorem dX6_digest_43 : decode cX6_digest 43 = .ok (.lload_n 1, 1) := by decide +kernel
theorem dX6_digest_44 : decode cX6_digest 44 = .ok (.aload_n 0, 1) := by decide +kernel
theorem dX6_digest_45 : decode cX6_digest 45 = .ok (.iconst 1, 1) := by decide +kernel
theorem dX6_digest_46 : decode cX6_digest 46 = .ok (.invokevirtual 165, 3) := by decide +kernel
theorem dX6_digest_49 : decode cX6_digest 49 = .ok (.invokestatic 187, 3) := by decide +kernel
theorem dX6_digest_52 : decode cX6_digest 52 = .ok (.aload_n 0, 1) := by decide +kernel
theorem dX6_digest_53 : decode cX6_digest 53 = .ok (.iconst 3, 1) := by decide +kernel
theorem dX6_digest_54 : decode cX6_digest 54 = .ok (.invokevirtual 165, 3) := by decide +kernel
theorem dX6_digest_57 : decode cX6_digest 57 = .ok (.invokestatic 187, 3) := by decide +kernel
theorem dX6_digest_60 : decode cX6_digest 60 = .ok (.aload_n 0, 1) := by decide +kernel
theorem dX6_digest_61 : decode cX6_digest 61 = .ok (.iconst 1, 1) := by decide +kernel
theorem dX6_digest_62 : decode cX6_digest 62 = .ok (.invokevirtual 168, 3) := by decide +kernel
theorem dX6_digest_65 : decode cX6_digest 65 = .ok (.invokestatic 187, 3) := by decide +kernel
theorem dX6_digest_68 : decode cX6_digest 68 = .ok (.aload_n 0, 1) := by decide +kernel
theorem dX6_digest_69 : decode cX6_digest 69 = .ok (.iconst 2, 1) := by decide +kernel
theorem dX6_digest_70 : decode cX6_digest 70 = .ok (.invokevirtual 168, 3) := by decide +kernel
theorem dX6_digest_73 : decode cX6_digest 73 = .ok (.invokestatic 187, 3) := by decide +kernel
theorem dX6_digest_76 : decode cX6_digest 76 = .ok (.aload_n 0, 1) := by decide +kernel
theorem dX6_digest_77 : decode cX6_digest 77 = .ok (.getfield 20, 3) := by decide +kernel
theorem dX6_digest_80 : decode cX6_digest 80 = .ok (.invokestatic 187, 3) := by decide +kernel
theorem dX6_digest_83 : decode cX6_digest 83 = .ok (.lstore_n 1, 1) := by decide +kernel
theorem dX6_digest_84 : decode cX6_digest 84 = .ok (.iconst 0, 1) := by decide +kernel
theorem dX6_digest_85 : decode cX6_digest 85 = .ok (.istore_n 3, 1) := by decide +kernel
theorem dX6_digest_86 : decode cX6_digest 86 = .ok (.iload_n 3, 1) := by decide +kernel
theorem dX6_digest_87 : decode cX6_digest 87 = .ok (.aload_n 0, 1) := by decide +kernel
theorem dX6_digest_88 : decode cX6_digest 88 = .ok (.getfield 49, 3) := by decide +kernel
theorem dX6_digest_91 : decode cX6_digest 91 = .ok (.if_icmp .ge 108, 3) := by decide +kernel
theorem dX6_digest_94 : decode cX6_digest 94 = .ok (.lload_n 1, 1) := by decide +kernel
theorem dX6_digest_95 : decode cX6_digest 95 = .ok (.aload_n 0, 1) := by decide +kernel
theorem dX6_digest_96 : decode cX6_digest 96 = .ok (.getfield 24, 3) := by decide +kernel
theorem dX6_digest_99 : decode cX6_digest 99 = .ok (.iload_n 3, 1) := by decide +kernel
theorem dX6_digest_100 : decode cX6_digest 100 = .ok (.iaload, 1) := by decide +kernel
theorem dX6_digest_101 : decode cX6_digest 101 = .ok (.invokestatic 187, 3) := by decide +kernel
theorem dX6_digest_104 : decode cX6_digest 104 = .ok (.aload_n 0, 1) := by decide +kernel
theorem dX6_digest_105 : decode cX6_digest 105 = .ok (.getfield 39, 3) := by decide +kernel
theorem dX6_digest_108 : decode cX6_digest 108 = .ok (.getfield 104, 3) := by decide +kernel
theorem dX6_digest_111 : decode cX6_digest 111 = .ok (.iload_n 3, 1) := by decide +kernel
theorem dX6_digest_112 : decode cX6_digest 112 = .ok (.iaload, 1) := by decide +kernel
theorem dX6_digest_113 : decode cX6_digest 113 = .ok (.invokestatic 187, 3) := by decide +kernel
theorem dX6_digest_116 : decode cX6_digest 116 = .ok (.aload_n 0, 1) := by decide +kernel
theorem dX6_digest_117 : decode cX6_digest 117 = .ok (.iload_n 3, 1) := by decide +kernel
theorem dX6_digest_118 : decode cX6_digest 118 = .ok (.iconst 1, 1) := by decide +kernel
theorem dX6_digest_119 : decode cX6_digest 119 = .ok (.invokevirtual 146, 3) := by decide +kernel
theorem dX6_digest_122 : decode cX6_digest 122 = .ok (.invokestatic 187, 3) := by decide +kernel
theorem dX6_digest_125 : decode cX6_digest 125 = .ok (.aload_n 0, 1) := by decide +kernel
theorem dX6_digest_126 : decode cX6_digest 126 = .ok (.iload_n 3, 1) := by decide +kernel
theorem dX6_digest_127 : decode cX6_digest 127 = .ok (.iconst 2, 1) := by decide +kernel
theorem dX6_digest_128 : decode cX6_digest 128 = .ok (.invokevirtual 146, 3) := by decide +kernel
theorem dX6_digest_131 : decode cX6_digest 131 = .ok (.invokestatic 187, 3) := by decide +kernel
theorem dX6_digest_134 : decode cX6_digest 134 = .ok (.lstore_n 1, 1) := by decide +kernel
theorem dX6_digest_135 : decode cX6_digest 135 = .ok (.lload_n 1, 1) := by decide +kernel
theorem dX6_digest_136 : decode cX6_digest 136 = .ok (.aload_n 0, 1) := by decide +kernel
theorem dX6_digest_137 : decode cX6_digest 137 = .ok (.getfield 39, 3) := by decide +kernel
theorem dX6_digest_140 : decode cX6_digest 140 = .ok (.getfield 62, 3) := by decide +kernel
theorem dX6_digest_143 : decode cX6_digest 143 = .ok (.iload_n 3, 1) := by decide +kernel
theorem dX6_digest_144 : decode cX6_digest 144 = .ok (.iaload, 1) := by decide +kernel
theorem dX6_digest_145 : decode cX6_digest 145 = .ok (.invokestatic 187, 3) := by decide +kernel
theorem dX6_digest_148 : decode cX6_digest 148 = .ok (.aload_n 0, 1) := by decide +kernel
theorem dX6_digest_149 : decode cX6_digest 149 = .ok (.getfield 39, 3) := by decide +kernel
theorem dX6_digest_152 : decode cX6_digest 152 = .ok (.getfield 65, 3) := by decide +kernel
theorem dX6_digest_155 : decode cX6_digest 155 = .ok (.iload_n 3, 1) := by decide +kernel
theorem dX6_digest_156 : decode cX6_digest 156 = .ok (.iaload, 1) := by decide +kernel
theorem dX6_digest_157 : decode cX6_digest 157 = .ok (.invokestatic 187, 3) := by decide +kernel
theorem dX6_digest_160 : decode cX6_digest 160 = .ok (.aload_n 0, 1) := by decide +kernel
theorem dX6_digest_161 : decode cX6_digest 161 = .ok (.iload_n 3, 1) := by decide +kernel
theorem dX6_digest_162 : decode cX6_digest 162 = .ok (.invokevirtual 137, 3) := by decide +kernel
theorem dX6_digest_165 : decode cX6_digest 165 = .ok (.invokestatic 191, 3) := by decide +kernel
theorem dX6_digest_168 : decode cX6_digest 168 = .ok (.invokestatic 187, 3) := by decide +kernel
theorem dX6_digest_171 : decode cX6_digest 171 = .ok (.aload_n 0, 1) := by decide +kernel
theorem dX6_digest_172 : decode cX6_digest 172 = .ok (.getfield 33, 3) := by decide +kernel
theorem dX6_digest_175 : decode cX6_digest 175 = .ok (.iload_n 3, 1) := by decide +kernel
theorem dX6_digest_176 : decode cX6_digest 176 = .ok (.iaload, 1) := by decide +kernel
theorem dX6_digest_177 : decode cX6_digest 177 = .ok (.iconst 1, 1) := by decide +kernel
theorem dX6_digest_178 : decode cX6_digest 178 = .ok (.if_icmp .ne 7, 3) := by decide +kernel
theorem dX6_digest_181 : decode cX6_digest 181 = .ok (.iconst 1, 1) := by decide +kernel
theorem dX6_digest_182 : decode cX6_digest 182 = .ok (.goto 4, 3) := by decide +kernel
theorem dX6_digest_185 : decode cX6_digest 185 = .ok (.iconst 0, 1) := by decide +kernel
theorem dX6_digest_186 : decode cX6_digest 186 = .ok (.invokestatic 191, 3) := by decide +kernel
theorem dX6_digest_189 : decode cX6_digest 189 = .ok (.invokestatic 187, 3) := by decide +kernel
theorem dX6_digest_192 : decode cX6_digest 192 = .ok (.lstore_n 1, 1) := by decide +kernel
theorem dX6_digest_193 : decode cX6_digest 193 = .ok (.iinc 3 1, 3) := by decide +kernel
theorem dX6_digest_196 : decode cX6_digest 196 = .ok (.goto (-110), 3) := by decide +kernel
theorem dX6_digest_199 : decode cX6_digest 199 = .ok (.iconst 0, 1) := by decide +kernel
theorem dX6_digest_200 : decode cX6_digest 200 = .ok (.istore_n 3, 1) := by decide +kernel
theorem dX6_digest_201 : decode cX6_digest 201 = .ok (.iload_n 3, 1) := by decide +kernel
theorem dX6_digest_202 : decode cX6_digest 202 = .ok (.iconst 4, 1) := by decide +kernel
theorem dX6_digest_203 : decode cX6_digest 203 = .ok (.if_icmp .ge 40, 3) := by decide +kernel
theorem dX6_digest_206 : decode cX6_digest 206 = .ok (.lload_n 1, 1) := by decide +kernel
theorem dX6_digest_207 : decode cX6_digest 207 = .ok (.aload_n 0, 1) := by decide +kernel
theorem dX6_digest_208 : decode cX6_digest 208 = .ok (.getfield 39, 3) := by decide +kernel
theorem dX6_digest_211 : decode cX6_digest 211 = .ok (.getfield 72, 3) := by decide +kernel
theorem dX6_digest_214 : decode cX6_digest 214 = .ok (.iload_n 3, 1) := by decide +kernel
theorem dX6_digest_215 : decode cX6_digest 215 = .ok (.iaload, 1) := by decide +kernel
theorem dX6_digest_216 : decode cX6_digest 216 = .ok (.invokestatic 187, 3) := by decide +kernel
theorem dX6_digest_219 : decode cX6_digest 219 = .ok (.aload_n 0, 1) := by decide +kernel
theorem dX6_digest_220 : decode cX6_digest 220 = .ok (.iload_n 3, 1) := by decide +kernel
theorem dX6_digest_221 : decode cX6_digest 221 = .ok (.invokevirtual 153, 3) := by decide +kernel
theorem dX6_digest_224 : decode cX6_digest 224 = .ok (.invokestatic 187, 3) := by decide +kernel
theorem dX6_digest_227 : decode cX6_digest 227 = .ok (.aload_n 0, 1) := by decide +kernel
theorem dX6_digest_228 : decode cX6_digest 228 = .ok (.getfield 17, 3) := by decide +kernel
theorem dX6_digest_231 : decode cX6_digest 231 = .ok (.iload_n 3, 1) := by decide +kernel
theorem dX6_digest_232 : decode cX6_digest 232 = .ok (.iaload, 1) := by decide +kernel
theorem dX6_digest_233 : decode cX6_digest 233 = .ok (.invokestatic 187, 3) := by decide +kernel
theorem dX6_digest_236 : decode cX6_digest 236 = .ok (.lstore_n 1, 1) := by decide +kernel
theorem dX6_digest_237 : decode cX6_digest 237 = .ok (.iinc 3 1, 3) := by decide +kernel
theorem dX6_digest_240 : decode cX6_digest 240 = .ok (.goto (-39), 3) := by decide +kernel
theorem dX6_digest_243 : decode cX6_digest 243 = .ok (.iconst 0, 1) := by decide +kernel
theorem dX6_digest_244 : decode cX6_digest 244 = .ok (.istore_n 3, 1) := by decide +kernel
theorem dX6_digest_245 : decode cX6_digest 245 = .ok (.iload_n 3, 1) := by decide +kernel
theorem dX6_digest_246 : decode cX6_digest 246 = .ok (.aload_n 0, 1) := by decide +kernel
theorem dX6_digest_247 : decode cX6_digest 247 = .ok (.getfield 56, 3) := by decide +kernel
theorem dX6_digest_250 : decode cX6_digest 250 = .ok (.if_icmp .ge 52, 3) := by decide +kernel
theorem dX6_digest_253 : decode cX6_digest 253 = .ok (.lload_n 1, 1) := by decide +kernel
theorem dX6_digest_254 : decode cX6_digest 254 = .ok (.aload_n 0, 1) := by decide +kernel
theorem dX6_digest_255 : decode cX6_digest 255 = .ok (.getfield 9, 3) := by decide +kernel
theorem dX6_digest_258 : decode cX6_digest 258 = .ok (.iload_n 3, 1) := by decide +kernel
theorem dX6_digest_259 : decode cX6_digest 259 = .ok (.iaload, 1) := by decide +kernel
theorem dX6_digest_260 : decode cX6_digest 260 = .ok (.invokestatic 187, 3) := by decide +kernel
theorem dX6_digest_263 : decode cX6_digest 263 = .ok (.aload_n 0, 1) := by decide +kernel
theorem dX6_digest_264 : decode cX6_digest 264 = .ok (.getfield 13, 3) := by decide +kernel
theorem dX6_digest_267 : decode cX6_digest 267 = .ok (.iload_n 3, 1) := by decide +kernel
theorem dX6_digest_268 : decode cX6_digest 268 = .ok (.baload, 1) := by decide +kernel
theorem dX6_digest_269 : decode cX6_digest 269 = .ok (.invokestatic 191, 3) := by decide +kernel
theorem dX6_digest_272 : decode cX6_digest 272 = .ok (.invokestatic 187, 3) := by decide +kernel
theorem dX6_digest_275 : decode cX6_digest 275 = .ok (.aload_n 0, 1) := by decide +kernel
theorem dX6_digest_276 : decode cX6_digest 276 = .ok (.aload_n 0, 1) := by decide +kernel
theorem dX6_digest_277 : decode cX6_digest 277 = .ok (.getfield 39, 3) := by decide +kernel
theorem dX6_digest_280 : decode cX6_digest 280 = .ok (.iload_n 3, 1) := by decide +kernel
theorem dX6_digest_281 : decode cX6_digest 281 = .ok (.invokevirtual 156, 3) := by decide +kernel
theorem dX6_digest_284 : decode cX6_digest 284 = .ok (.invokestatic 187, 3) := by decide +kernel
theorem dX6_digest_287 : decode cX6_digest 287 = .ok (.aload_n 0, 1) := by decide +kernel
theorem dX6_digest_288 : decode cX6_digest 288 = .ok (.iload_n 3, 1) := by decide +kernel
theorem dX6_digest_289 : decode cX6_digest 289 = .ok (.invokevirtual 159, 3) := by decide +kernel
theorem dX6_digest_292 : decode cX6_digest 292 = .ok (.invokestatic 187, 3) := by decide +kernel
theorem dX6_digest_295 : decode cX6_digest 295 = .ok (.lstore_n 1, 1) := by decide +kernel
theorem dX6_digest_296 : decode cX6_digest 296 = .ok (.iinc 3 1, 3) := by decide +kernel
theorem dX6_digest_299 : decode cX6_digest 299 = .ok (.goto (-54), 3) := by decide +kernel
theorem dX6_digest_302 : decode cX6_digest 302 = .ok (.lload_n 1, 1) := by decide +kernel
theorem dX6_digest_303 : decode cX6_digest 303 = .ok (.lreturn, 1) := by decide +kernel
end
section
theorem dL_addFlight_0 : decode cL_addFlight 0 = .ok (.aload_n 1, 1) := by decide +kernel
theorem dL_addFlight_1 : decode cL_addFlight 1 = .ok (.iconst 0, 1) := by decide +kernel
theorem dL_addFlight_2 : decode cL_addFlight 2 = .ok (.aload_n 0, 1) := by decide +kernel
theorem dL_addFlight_3 : decode cL_addFlight 3 = .ok (.invokevirtual 7, 3) := by decide +kernel
theorem dL_addFlight_6 : decode cL_addFlight 6 = .ok (.i2l, 1) := by decide +kernel
theorem dL_addFlight_7 : decode cL_addFlight 7 = .ok (.lastore, 1) := by decide +kernel
theorem dL_addFlight_8 : decode cL_addFlight 8 = .ok (.goto 6, 3) := by decide +kernel
theorem dL_addFlight_11 : decode cL_addFlight 11 = .ok (.astore_n 2, 1) := by decide +kernel
theorem dL_addFlight_12 : decode cL_addFlight 12 = .ok (.iconst 1, 1) := by decide +kernel
theorem dL_addFlight_13 : decode cL_addFlight 13 = .ok (.ireturn, 1) := by decide +kernel
theorem dL_addFlight_14 : decode cL_addFlight 14 = .ok (.iconst 0, 1) := by decide +kernel
theorem dL_addFlight_15 : decode cL_addFlight 15 = .ok (.ireturn, 1) := by decide +kernel
theorem dL_giveChute_0 : decode cL_giveChute 0 = .ok (.aload_n 3, 1) := by decide +kernel
theorem dL_giveChute_1 : decode cL_giveChute 1 = .ok (.iconst 0, 1) := by decide +kernel
theorem dL_giveChute_2 : decode cL_giveChute 2 = .ok (.aload_n 0, 1) := by decide +kernel
theorem dL_giveChute_3 : decode cL_giveChute 3 = .ok (.iload_n 1, 1) := by decide +kernel
theorem dL_giveChute_4 : decode cL_giveChute 4 = .ok (.iload_n 2, 1) := by decide +kernel
theorem dL_giveChute_5 : decode cL_giveChute 5 = .ok (.invokevirtual 15, 3) := by decide +kernel
theorem dL_giveChute_8 : decode cL_giveChute 8 = .ok (.i2l, 1) := by decide +kernel
theorem dL_giveChute_9 : decode cL_giveChute 9 = .ok (.lastore, 1) := by decide +kernel
theorem dL_giveChute_10 : decode cL_giveChute 10 = .ok (.goto 11, 3) := by decide +kernel
theorem dL_giveChute_13 : decode cL_giveChute 13 = .ok (.astore 4, 2) := by decide +kernel
theorem dL_giveChute_15 : decode cL_giveChute 15 = .ok (.iconst 1, 1) := by decide +kernel
theorem dL_giveChute_16 : decode cL_giveChute 16 = .ok (.ireturn, 1) := by decide +kernel
theorem dL_giveChute_17 : decode cL_giveChute 17 = .ok (.astore 4, 2) := by decide +kernel
theorem dL_giveChute_19 : decode cL_giveChute 19 = .ok (.iconst 2, 1) := by decide +kernel
theorem dL_giveChute_20 : decode cL_giveChute 20 = .ok (.ireturn, 1) := by decide +kernel
theorem dL_giveChute_21 : decode cL_giveChute 21 = .ok (.iconst 0, 1) := by decide +kernel
theorem dL_giveChute_22 : decode cL_giveChute 22 = .ok (.ireturn, 1) := by decide +kernel
theorem dL_setReader_0 : decode cL_setReader 0 = .ok (.aload_n 2, 1) := by decide +kernel
theorem dL_setReader_1 : decode cL_setReader 1 = .ok (.iconst 0, 1) := by decide +kernel
theorem dL_setReader_2 : decode cL_setReader 2 = .ok (.aload_n 0, 1) := by decide +kernel
theorem dL_setReader_3 : decode cL_setReader 3 = .ok (.iload_n 1, 1) := by decide +kernel
theorem dL_setReader_4 : decode cL_setReader 4 = .ok (.invokevirtual 21, 3) := by decide +kernel
theorem dL_setReader_7 : decode cL_setReader 7 = .ok (.i2l, 1) := by decide +kernel
theorem dL_setReader_8 : decode cL_setReader 8 = .ok (.lastore, 1) := by decide +kernel
theorem dL_setReader_9 : decode cL_setReader 9 = .ok (.goto 6, 3) := by decide +kernel
theorem dL_setReader_12 : decode cL_setReader 12 = .ok (.astore_n 3, 1) := by decide +kernel
theorem dL_setReader_13 : decode cL_setReader 13 = .ok (.iconst 1, 1) := by decide +kernel
theorem dL_setReader_14 : decode cL_setReader 14 = .ok (.ireturn, 1) := by decide +kernel
theorem dL_setReader_15 : decode cL_setReader 15 = .ok (.iconst 0, 1) := by decide +kernel
theorem dL_setReader_16 : decode cL_setReader 16 = .ok (.ireturn, 1) := by decide +kernel
theorem dL_setRoom_0 : decode cL_setRoom 0 = .ok (.aload_n 3, 1) := by decide +kernel
theorem dL_setRoom_1 : decode cL_setRoom 1 = .ok (.iconst 0, 1) := by decide +kernel
theorem dL_setRoom_2 : decode cL_setRoom 2 = .ok (.aload_n 0, 1) := by decide +kernel
theorem dL_setRoom_3 : decode cL_setRoom 3 = .ok (.iload_n 1, 1) := by decide +kernel
theorem dL_setRoom_4 : decode cL_setRoom 4 = .ok (.iload_n 2, 1) := by decide +kernel
theorem dL_setRoom_5 : decode cL_setRoom 5 = .ok (.invokevirtual 27, 3) := by decide +kernel
theorem dL_setRoom_8 : decode cL_setRoom 8 = .ok (.i2l, 1) := by decide +kernel
theorem dL_setRoom_9 : decode cL_setRoom 9 = .ok (.lastore, 1) := by decide +kernel
theorem dL_setRoom_10 : decode cL_setRoom 10 = .ok (.goto 11, 3) := by decide +kernel
theorem dL_setRoom_13 : decode cL_setRoom 13 = .ok (.astore 4, 2) := by decide +kernel
theorem dL_setRoom_15 : decode cL_setRoom 15 = .ok (.iconst 1, 1) := by decide +kernel
theorem dL_setRoom_16 : decode cL_setRoom 16 = .ok (.ireturn, 1) := by decide +kernel
theorem dL_setRoom_17 : decode cL_setRoom 17 = .ok (.astore 4, 2) := by decide +kernel
theorem dL_setRoom_19 : decode cL_setRoom 19 = .ok (.iconst 2, 1) := by decide +kernel
theorem dL_setRoom_20 : decode cL_setRoom 20 = .ok (.ireturn, 1) := by decide +kernel
theorem dL_setRoom_21 : decode cL_setRoom 21 = .ok (.iconst 0, 1) := by decide +kernel
theorem dL_setRoom_22 : decode cL_setRoom 22 = .ok (.ireturn, 1) := by decide +kernel
theorem dL_checkIn_0 : decode cL_checkIn 0 = .ok (.aload 4, 2) := by decide +kernel
theorem dL_checkIn_2 : decode cL_checkIn 2 = .ok (.iconst 0, 1) := by decide +kernel
theorem dL_checkIn_3 : decode cL_checkIn 3 = .ok (.aload_n 0, 1) := by decide +kernel
theorem dL_checkIn_4 : decode cL_checkIn 4 = .ok (.iload_n 1, 1) := by decide +kernel
theorem dL_checkIn_5 : decode cL_checkIn 5 = .ok (.iload_n 2, 1) := by decide +kernel
theorem dL_checkIn_6 : decode cL_checkIn 6 = .ok (.iload_n 3, 1) := by decide +kernel
theorem dL_checkIn_7 : decode cL_checkIn 7 = .ok (.invokevirtual 30, 3) := by decide +kernel
theorem dL_checkIn_10 : decode cL_checkIn 10 = .ok (.i2l, 1) := by decide +kernel
theorem dL_checkIn_11 : decode cL_checkIn 11 = .ok (.lastore, 1) := by decide +kernel
theorem dL_checkIn_12 : decode cL_checkIn 12 = .ok (.goto 15, 3) := by decide +kernel
theorem dL_checkIn_15 : decode cL_checkIn 15 = .ok (.astore 5, 2) := by decide +kernel
theorem dL_checkIn_17 : decode cL_checkIn 17 = .ok (.iconst 1, 1) := by decide +kernel
theorem dL_checkIn_18 : decode cL_checkIn 18 = .ok (.ireturn, 1) := by decide +kernel
theorem dL_checkIn_19 : decode cL_checkIn 19 = .ok (.astore 5, 2) := by decide +kernel
theorem dL_checkIn_21 : decode cL_checkIn 21 = .ok (.iconst 2, 1) := by decide +kernel
theorem dL_checkIn_22 : decode cL_checkIn 22 = .ok (.ireturn, 1) := by decide +kernel
theorem dL_checkIn_23 : decode cL_checkIn 23 = .ok (.astore 5, 2) := by decide +kernel
theorem dL_checkIn_25 : decode cL_checkIn 25 = .ok (.iconst 3, 1) := by decide +kernel
theorem dL_checkIn_26 : decode cL_checkIn 26 = .ok (.ireturn, 1) := by decide +kernel
theorem dL_checkIn_27 : decode cL_checkIn 27 = .ok (.iconst 0, 1) := by decide +kernel
theorem dL_checkIn_28 : decode cL_checkIn 28 = .ok (.ireturn, 1) := by decide +kernel
theorem dL_carry_0 : decode cL_carry 0 = .ok (.aload_n 2, 1) := by decide +kernel
theorem dL_carry_1 : decode cL_carry 1 = .ok (.iconst 0, 1) := by decide +kernel
theorem dL_carry_2 : decode cL_carry 2 = .ok (.aload_n 0, 1) := by decide +kernel
theorem dL_carry_3 : decode cL_carry 3 = .ok (.iload_n 1, 1) := by decide +kernel
theorem dL_carry_4 : decode cL_carry 4 = .ok (.invokevirtual 34, 3) := by decide +kernel
theorem dL_carry_7 : decode cL_carry 7 = .ok (.i2l, 1) := by decide +kernel
theorem dL_carry_8 : decode cL_carry 8 = .ok (.lastore, 1) := by decide +kernel
theorem dL_carry_9 : decode cL_carry 9 = .ok (.goto 9, 3) := by decide +kernel
theorem dL_carry_12 : decode cL_carry 12 = .ok (.astore_n 3, 1) := by decide +kernel
theorem dL_carry_13 : decode cL_carry 13 = .ok (.iconst 1, 1) := by decide +kernel
theorem dL_carry_14 : decode cL_carry 14 = .ok (.ireturn, 1) := by decide +kernel
theorem dL_carry_15 : decode cL_carry 15 = .ok (.astore_n 3, 1) := by decide +kernel
theorem dL_carry_16 : decode cL_carry 16 = .ok (.iconst 2, 1) := by decide +kernel
theorem dL_carry_17 : decode cL_carry 17 = .ok (.ireturn, 1) := by decide +kernel
theorem dL_carry_18 : decode cL_carry 18 = .ok (.iconst 0, 1) := by decide +kernel
theorem dL_carry_19 : decode cL_carry 19 = .ok (.ireturn, 1) := by decide +kernel
theorem dL_forward_0 : decode cL_forward 0 = .ok (.aload_n 3, 1) := by decide +kernel
theorem dL_forward_1 : decode cL_forward 1 = .ok (.iconst 0, 1) := by decide +kernel
theorem dL_forward_2 : decode cL_forward 2 = .ok (.aload_n 0, 1) := by decide +kernel
theorem dL_forward_3 : decode cL_forward 3 = .ok (.iload_n 1, 1) := by decide +kernel
theorem dL_forward_4 : decode cL_forward 4 = .ok (.iload_n 2, 1) := by decide +kernel
theorem dL_forward_5 : decode cL_forward 5 = .ok (.invokevirtual 37, 3) := by decide +kernel
theorem dL_forward_8 : decode cL_forward 8 = .ok (.i2l, 1) := by decide +kernel
theorem dL_forward_9 : decode cL_forward 9 = .ok (.lastore, 1) := by decide +kernel
theorem dL_forward_10 : decode cL_forward 10 = .ok (.goto 11, 3) := by decide +kernel
theorem dL_forward_13 : decode cL_forward 13 = .ok (.astore 4, 2) := by decide +kernel
theorem dL_forward_15 : decode cL_forward 15 = .ok (.iconst 1, 1) := by decide +kernel
theorem dL_forward_16 : decode cL_forward 16 = .ok (.ireturn, 1) := by decide +kernel
theorem dL_forward_17 : decode cL_forward 17 = .ok (.astore 4, 2) := by decide +kernel
theorem dL_forward_19 : decode cL_forward 19 = .ok (.iconst 2, 1) := by decide +kernel
theorem dL_forward_20 : decode cL_forward 20 = .ok (.ireturn, 1) := by decide +kernel
theorem dL_forward_21 : decode cL_forward 21 = .ok (.iconst 0, 1) := by decide +kernel
theorem dL_forward_22 : decode cL_forward 22 = .ok (.ireturn, 1) := by decide +kernel
theorem dL_sweep_0 : decode cL_sweep 0 = .ok (.aload_n 2, 1) := by decide +kernel
theorem dL_sweep_1 : decode cL_sweep 1 = .ok (.iconst 0, 1) := by decide +kernel
theorem dL_sweep_2 : decode cL_sweep 2 = .ok (.aload_n 0, 1) := by decide +kernel
theorem dL_sweep_3 : decode cL_sweep 3 = .ok (.iload_n 1, 1) := by decide +kernel
theorem dL_sweep_4 : decode cL_sweep 4 = .ok (.invokevirtual 40, 3) := by decide +kernel
theorem dL_sweep_7 : decode cL_sweep 7 = .ok (.i2l, 1) := by decide +kernel
theorem dL_sweep_8 : decode cL_sweep 8 = .ok (.lastore, 1) := by decide +kernel
theorem dL_sweep_9 : decode cL_sweep 9 = .ok (.goto 6, 3) := by decide +kernel
theorem dL_sweep_12 : decode cL_sweep 12 = .ok (.astore_n 3, 1) := by decide +kernel
theorem dL_sweep_13 : decode cL_sweep 13 = .ok (.iconst 1, 1) := by decide +kernel
theorem dL_sweep_14 : decode cL_sweep 14 = .ok (.ireturn, 1) := by decide +kernel
theorem dL_sweep_15 : decode cL_sweep 15 = .ok (.iconst 0, 1) := by decide +kernel
theorem dL_sweep_16 : decode cL_sweep 16 = .ok (.ireturn, 1) := by decide +kernel
theorem dL_depart_0 : decode cL_depart 0 = .ok (.aload_n 2, 1) := by decide +kernel
theorem dL_depart_1 : decode cL_depart 1 = .ok (.iconst 0, 1) := by decide +kernel
theorem dL_depart_2 : decode cL_depart 2 = .ok (.aload_n 0, 1) := by decide +kernel
theorem dL_depart_3 : decode cL_depart 3 = .ok (.iload_n 1, 1) := by decide +kernel
theorem dL_depart_4 : decode cL_depart 4 = .ok (.invokevirtual 43, 3) := by decide +kernel
theorem dL_depart_7 : decode cL_depart 7 = .ok (.i2l, 1) := by decide +kernel
theorem dL_depart_8 : decode cL_depart 8 = .ok (.lastore, 1) := by decide +kernel
theorem dL_depart_9 : decode cL_depart 9 = .ok (.goto 9, 3) := by decide +kernel
theorem dL_depart_12 : decode cL_depart 12 = .ok (.astore_n 3, 1) := by decide +kernel
theorem dL_depart_13 : decode cL_depart 13 = .ok (.iconst 1, 1) := by decide +kernel
theorem dL_depart_14 : decode cL_depart 14 = .ok (.ireturn, 1) := by decide +kernel
theorem dL_depart_15 : decode cL_depart 15 = .ok (.astore_n 3, 1) := by decide +kernel
theorem dL_depart_16 : decode cL_depart 16 = .ok (.iconst 2, 1) := by decide +kernel
theorem dL_depart_17 : decode cL_depart 17 = .ok (.ireturn, 1) := by decide +kernel
theorem dL_depart_18 : decode cL_depart 18 = .ok (.iconst 0, 1) := by decide +kernel
theorem dL_depart_19 : decode cL_depart 19 = .ok (.ireturn, 1) := by decide +kernel
theorem dL_pass_0 : decode cL_pass 0 = .ok (.aload_n 2, 1) := by decide +kernel
theorem dL_pass_1 : decode cL_pass 1 = .ok (.iconst 0, 1) := by decide +kernel
theorem dL_pass_2 : decode cL_pass 2 = .ok (.aload_n 0, 1) := by decide +kernel
theorem dL_pass_3 : decode cL_pass 3 = .ok (.iload_n 1, 1) := by decide +kernel
theorem dL_pass_4 : decode cL_pass 4 = .ok (.invokevirtual 46, 3) := by decide +kernel
theorem dL_pass_7 : decode cL_pass 7 = .ok (.i2l, 1) := by decide +kernel
theorem dL_pass_8 : decode cL_pass 8 = .ok (.lastore, 1) := by decide +kernel
theorem dL_pass_9 : decode cL_pass 9 = .ok (.goto 6, 3) := by decide +kernel
theorem dL_pass_12 : decode cL_pass 12 = .ok (.astore_n 3, 1) := by decide +kernel
theorem dL_pass_13 : decode cL_pass 13 = .ok (.iconst 1, 1) := by decide +kernel
theorem dL_pass_14 : decode cL_pass 14 = .ok (.ireturn, 1) := by decide +kernel
theorem dL_pass_15 : decode cL_pass 15 = .ok (.iconst 0, 1) := by decide +kernel
theorem dL_pass_16 : decode cL_pass 16 = .ok (.ireturn, 1) := by decide +kernel
theorem dL_flightOf_0 : decode cL_flightOf 0 = .ok (.aload_n 2, 1) := by decide +kernel
theorem dL_flightOf_1 : decode cL_flightOf 1 = .ok (.iconst 0, 1) := by decide +kernel
theorem dL_flightOf_2 : decode cL_flightOf 2 = .ok (.aload_n 0, 1) := by decide +kernel
theorem dL_flightOf_3 : decode cL_flightOf 3 = .ok (.iload_n 1, 1) := by decide +kernel
theorem dL_flightOf_4 : decode cL_flightOf 4 = .ok (.invokevirtual 49, 3) := by decide +kernel
theorem dL_flightOf_7 : decode cL_flightOf 7 = .ok (.i2l, 1) := by decide +kernel
theorem dL_flightOf_8 : decode cL_flightOf 8 = .ok (.lastore, 1) := by decide +kernel
theorem dL_flightOf_9 : decode cL_flightOf 9 = .ok (.goto 6, 3) := by decide +kernel
theorem dL_flightOf_12 : decode cL_flightOf 12 = .ok (.astore_n 3, 1) := by decide +kernel
theorem dL_flightOf_13 : decode cL_flightOf 13 = .ok (.iconst 1, 1) := by decide +kernel
theorem dL_flightOf_14 : decode cL_flightOf 14 = .ok (.ireturn, 1) := by decide +kernel
theorem dL_flightOf_15 : decode cL_flightOf 15 = .ok (.iconst 0, 1) := by decide +kernel
theorem dL_flightOf_16 : decode cL_flightOf 16 = .ok (.ireturn, 1) := by decide +kernel
theorem dL_whereIs_0 : decode cL_whereIs 0 = .ok (.aload_n 2, 1) := by decide +kernel
theorem dL_whereIs_1 : decode cL_whereIs 1 = .ok (.iconst 0, 1) := by decide +kernel
theorem dL_whereIs_2 : decode cL_whereIs 2 = .ok (.aload_n 0, 1) := by decide +kernel
theorem dL_whereIs_3 : decode cL_whereIs 3 = .ok (.iload_n 1, 1) := by decide +kernel
theorem dL_whereIs_4 : decode cL_whereIs 4 = .ok (.invokevirtual 52, 3) := by decide +kernel
theorem dL_whereIs_7 : decode cL_whereIs 7 = .ok (.i2l, 1) := by decide +kernel
theorem dL_whereIs_8 : decode cL_whereIs 8 = .ok (.lastore, 1) := by decide +kernel
theorem dL_whereIs_9 : decode cL_whereIs 9 = .ok (.goto 6, 3) := by decide +kernel
theorem dL_whereIs_12 : decode cL_whereIs 12 = .ok (.astore_n 3, 1) := by decide +kernel
theorem dL_whereIs_13 : decode cL_whereIs 13 = .ok (.iconst 1, 1) := by decide +kernel
theorem dL_whereIs_14 : decode cL_whereIs 14 = .ok (.ireturn, 1) := by decide +kernel
theorem dL_whereIs_15 : decode cL_whereIs 15 = .ok (.iconst 0, 1) := by decide +kernel
theorem dL_whereIs_16 : decode cL_whereIs 16 = .ok (.ireturn, 1) := by decide +kernel
theorem dL_placeOf_0 : decode cL_placeOf 0 = .ok (.aload_n 2, 1) := by decide +kernel
theorem dL_placeOf_1 : decode cL_placeOf 1 = .ok (.iconst 0, 1) := by decide +kernel
theorem dL_placeOf_2 : decode cL_placeOf 2 = .ok (.aload_n 0, 1) := by decide +kernel
theorem dL_placeOf_3 : decode cL_placeOf 3 = .ok (.iload_n 1, 1) := by decide +kernel
theorem dL_placeOf_4 : decode cL_placeOf 4 = .ok (.invokevirtual 55, 3) := by decide +kernel
theorem dL_placeOf_7 : decode cL_placeOf 7 = .ok (.i2l, 1) := by decide +kernel
theorem dL_placeOf_8 : decode cL_placeOf 8 = .ok (.lastore, 1) := by decide +kernel
theorem dL_placeOf_9 : decode cL_placeOf 9 = .ok (.goto 6, 3) := by decide +kernel
theorem dL_placeOf_12 : decode cL_placeOf 12 = .ok (.astore_n 3, 1) := by decide +kernel
theorem dL_placeOf_13 : decode cL_placeOf 13 = .ok (.iconst 1, 1) := by decide +kernel
theorem dL_placeOf_14 : decode cL_placeOf 14 = .ok (.ireturn, 1) := by decide +kernel
theorem dL_placeOf_15 : decode cL_placeOf 15 = .ok (.iconst 0, 1) := by decide +kernel
theorem dL_placeOf_16 : decode cL_placeOf 16 = .ok (.ireturn, 1) := by decide +kernel
theorem dL_chuteOf_0 : decode cL_chuteOf 0 = .ok (.aload_n 2, 1) := by decide +kernel
theorem dL_chuteOf_1 : decode cL_chuteOf 1 = .ok (.iconst 0, 1) := by decide +kernel
theorem dL_chuteOf_2 : decode cL_chuteOf 2 = .ok (.aload_n 0, 1) := by decide +kernel
theorem dL_chuteOf_3 : decode cL_chuteOf 3 = .ok (.iload_n 1, 1) := by decide +kernel
theorem dL_chuteOf_4 : decode cL_chuteOf 4 = .ok (.invokevirtual 58, 3) := by decide +kernel
theorem dL_chuteOf_7 : decode cL_chuteOf 7 = .ok (.i2l, 1) := by decide +kernel
theorem dL_chuteOf_8 : decode cL_chuteOf 8 = .ok (.lastore, 1) := by decide +kernel
theorem dL_chuteOf_9 : decode cL_chuteOf 9 = .ok (.goto 6, 3) := by decide +kernel
theorem dL_chuteOf_12 : decode cL_chuteOf 12 = .ok (.astore_n 3, 1) := by decide +kernel
theorem dL_chuteOf_13 : decode cL_chuteOf 13 = .ok (.iconst 1, 1) := by decide +kernel
theorem dL_chuteOf_14 : decode cL_chuteOf 14 = .ok (.ireturn, 1) := by decide +kernel
theorem dL_chuteOf_15 : decode cL_chuteOf 15 = .ok (.iconst 0, 1) := by decide +kernel
theorem dL_chuteOf_16 : decode cL_chuteOf 16 = .ok (.ireturn, 1) := by decide +kernel
theorem dL_readFor_0 : decode cL_readFor 0 = .ok (.aload_n 2, 1) := by decide +kernel
theorem dL_readFor_1 : decode cL_readFor 1 = .ok (.iconst 0, 1) := by decide +kernel
theorem dL_readFor_2 : decode cL_readFor 2 = .ok (.aload_n 0, 1) := by decide +kernel
theorem dL_readFor_3 : decode cL_readFor 3 = .ok (.iload_n 1, 1) := by decide +kernel
theorem dL_readFor_4 : decode cL_readFor 4 = .ok (.invokevirtual 61, 3) := by decide +kernel
theorem dL_readFor_7 : decode cL_readFor 7 = .ok (.i2l, 1) := by decide +kernel
theorem dL_readFor_8 : decode cL_readFor 8 = .ok (.lastore, 1) := by decide +kernel
theorem dL_readFor_9 : decode cL_readFor 9 = .ok (.goto 6, 3) := by decide +kernel
theorem dL_readFor_12 : decode cL_readFor 12 = .ok (.astore_n 3, 1) := by decide +kernel
theorem dL_readFor_13 : decode cL_readFor 13 = .ok (.iconst 1, 1) := by decide +kernel
theorem dL_readFor_14 : decode cL_readFor 14 = .ok (.ireturn, 1) := by decide +kernel
theorem dL_readFor_15 : decode cL_readFor 15 = .ok (.iconst 0, 1) := by decide +kernel
theorem dL_readFor_16 : decode cL_readFor 16 = .ok (.ireturn, 1) := by decide +kernel
theorem dL_missesOf_0 : decode cL_missesOf 0 = .ok (.aload_n 2, 1) := by decide +kernel
theorem dL_missesOf_1 : decode cL_missesOf 1 = .ok (.iconst 0, 1) := by decide +kernel
theorem dL_missesOf_2 : decode cL_missesOf 2 = .ok (.aload_n 0, 1) := by decide +kernel
theorem dL_missesOf_3 : decode cL_missesOf 3 = .ok (.iload_n 1, 1) := by decide +kernel
theorem dL_missesOf_4 : decode cL_missesOf 4 = .ok (.invokevirtual 64, 3) := by decide +kernel
theorem dL_missesOf_7 : decode cL_missesOf 7 = .ok (.i2l, 1) := by decide +kernel
theorem dL_missesOf_8 : decode cL_missesOf 8 = .ok (.lastore, 1) := by decide +kernel
theorem dL_missesOf_9 : decode cL_missesOf 9 = .ok (.goto 6, 3) := by decide +kernel
theorem dL_missesOf_12 : decode cL_missesOf 12 = .ok (.astore_n 3, 1) := by decide +kernel
theorem dL_missesOf_13 : decode cL_missesOf 13 = .ok (.iconst 1, 1) := by decide +kernel
theorem dL_missesOf_14 : decode cL_missesOf 14 = .ok (.ireturn, 1) := by decide +kernel
theorem dL_missesOf_15 : decode cL_missesOf 15 = .ok (.iconst 0, 1) := by decide +kernel
theorem dL_missesOf_16 : decode cL_missesOf 16 = .ok (.ireturn, 1) := by decide +kernel
theorem dL_isMisrouted_0 : decode cL_isMisrouted 0 = .ok (.aload_n 2, 1) := by decide +kernel
theorem dL_isMisrouted_1 : decode cL_isMisrouted 1 = .ok (.iconst 0, 1) := by decide +kernel
theorem dL_isMisrouted_2 : decode cL_isMisrouted 2 = .ok (.aload_n 0, 1) := by decide +kernel
theorem dL_isMisrouted_3 : decode cL_isMisrouted 3 = .ok (.iload_n 1, 1) := by decide +kernel
theorem dL_isMisrouted_4 : decode cL_isMisrouted 4 = .ok (.invokevirtual 67, 3) := by decide +kernel
theorem dL_isMisrouted_7 : decode cL_isMisrouted 7 = .ok (.ifCond .eq 7, 3) := by decide +kernel
theorem dL_isMisrouted_10 : decode cL_isMisrouted 10 = .ok (.lconst 1, 1) := by decide +kernel
theorem dL_isMisrouted_11 : decode cL_isMisrouted 11 = .ok (.goto 4, 3) := by decide +kernel
theorem dL_isMisrouted_14 : decode cL_isMisrouted 14 = .ok (.lconst 0, 1) := by decide +kernel
theorem dL_isMisrouted_15 : decode cL_isMisrouted 15 = .ok (.lastore, 1) := by decide +kernel
theorem dL_isMisrouted_16 : decode cL_isMisrouted 16 = .ok (.goto 6, 3) := by decide +kernel
theorem dL_isMisrouted_19 : decode cL_isMisrouted 19 = .ok (.astore_n 3, 1) := by decide +kernel
theorem dL_isMisrouted_20 : decode cL_isMisrouted 20 = .ok (.iconst 1, 1) := by decide +kernel
theorem dL_isMisrouted_21 : decode cL_isMisrouted 21 = .ok (.ireturn, 1) := by decide +kernel
theorem dL_isMisrouted_22 : decode cL_isMisrouted 22 = .ok (.iconst 0, 1) := by decide +kernel
theorem dL_isMisrouted_23 : decode cL_isMisrouted 23 = .ok (.ireturn, 1) := by decide +kernel
theorem dL_hasOpenFile_0 : decode cL_hasOpenFile 0 = .ok (.aload_n 2, 1) := by decide +kernel
theorem dL_hasOpenFile_1 : decode cL_hasOpenFile 1 = .ok (.iconst 0, 1) := by decide +kernel
theorem dL_hasOpenFile_2 : decode cL_hasOpenFile 2 = .ok (.aload_n 0, 1) := by decide +kernel
theorem dL_hasOpenFile_3 : decode cL_hasOpenFile 3 = .ok (.iload_n 1, 1) := by decide +kernel
theorem dL_hasOpenFile_4 : decode cL_hasOpenFile 4 = .ok (.invokevirtual 71, 3) := by decide +kernel
theorem dL_hasOpenFile_7 : decode cL_hasOpenFile 7 = .ok (.ifCond .eq 7, 3) := by decide +kernel
theorem dL_hasOpenFile_10 : decode cL_hasOpenFile 10 = .ok (.lconst 1, 1) := by decide +kernel
theorem dL_hasOpenFile_11 : decode cL_hasOpenFile 11 = .ok (.goto 4, 3) := by decide +kernel
theorem dL_hasOpenFile_14 : decode cL_hasOpenFile 14 = .ok (.lconst 0, 1) := by decide +kernel
theorem dL_hasOpenFile_15 : decode cL_hasOpenFile 15 = .ok (.lastore, 1) := by decide +kernel
theorem dL_hasOpenFile_16 : decode cL_hasOpenFile 16 = .ok (.goto 6, 3) := by decide +kernel
theorem dL_hasOpenFile_19 : decode cL_hasOpenFile 19 = .ok (.astore_n 3, 1) := by decide +kernel
theorem dL_hasOpenFile_20 : decode cL_hasOpenFile 20 = .ok (.iconst 1, 1) := by decide +kernel
theorem dL_hasOpenFile_21 : decode cL_hasOpenFile 21 = .ok (.ireturn, 1) := by decide +kernel
theorem dL_hasOpenFile_22 : decode cL_hasOpenFile 22 = .ok (.iconst 0, 1) := by decide +kernel
theorem dL_hasOpenFile_23 : decode cL_hasOpenFile 23 = .ok (.ireturn, 1) := by decide +kernel
theorem dL_bagAt_0 : decode cL_bagAt 0 = .ok (.aload_n 2, 1) := by decide +kernel
theorem dL_bagAt_1 : decode cL_bagAt 1 = .ok (.iconst 0, 1) := by decide +kernel
theorem dL_bagAt_2 : decode cL_bagAt 2 = .ok (.aload_n 0, 1) := by decide +kernel
theorem dL_bagAt_3 : decode cL_bagAt 3 = .ok (.iload_n 1, 1) := by decide +kernel
theorem dL_bagAt_4 : decode cL_bagAt 4 = .ok (.invokevirtual 74, 3) := by decide +kernel
theorem dL_bagAt_7 : decode cL_bagAt 7 = .ok (.i2l, 1) := by decide +kernel
theorem dL_bagAt_8 : decode cL_bagAt 8 = .ok (.lastore, 1) := by decide +kernel
theorem dL_bagAt_9 : decode cL_bagAt 9 = .ok (.goto 6, 3) := by decide +kernel
theorem dL_bagAt_12 : decode cL_bagAt 12 = .ok (.astore_n 3, 1) := by decide +kernel
theorem dL_bagAt_13 : decode cL_bagAt 13 = .ok (.iconst 1, 1) := by decide +kernel
theorem dL_bagAt_14 : decode cL_bagAt 14 = .ok (.ireturn, 1) := by decide +kernel
theorem dL_bagAt_15 : decode cL_bagAt 15 = .ok (.iconst 0, 1) := by decide +kernel
theorem dL_bagAt_16 : decode cL_bagAt 16 = .ok (.ireturn, 1) := by decide +kernel
theorem dL_bagsIn_0 : decode cL_bagsIn 0 = .ok (.aload_n 2, 1) := by decide +kernel
theorem dL_bagsIn_1 : decode cL_bagsIn 1 = .ok (.iconst 0, 1) := by decide +kernel
theorem dL_bagsIn_2 : decode cL_bagsIn 2 = .ok (.aload_n 0, 1) := by decide +kernel
theorem dL_bagsIn_3 : decode cL_bagsIn 3 = .ok (.iload_n 1, 1) := by decide +kernel
theorem dL_bagsIn_4 : decode cL_bagsIn 4 = .ok (.invokevirtual 77, 3) := by decide +kernel
theorem dL_bagsIn_7 : decode cL_bagsIn 7 = .ok (.i2l, 1) := by decide +kernel
theorem dL_bagsIn_8 : decode cL_bagsIn 8 = .ok (.lastore, 1) := by decide +kernel
theorem dL_bagsIn_9 : decode cL_bagsIn 9 = .ok (.goto 6, 3) := by decide +kernel
theorem dL_bagsIn_12 : decode cL_bagsIn 12 = .ok (.astore_n 3, 1) := by decide +kernel
theorem dL_bagsIn_13 : decode cL_bagsIn 13 = .ok (.iconst 1, 1) := by decide +kernel
theorem dL_bagsIn_14 : decode cL_bagsIn 14 = .ok (.ireturn, 1) := by decide +kernel
theorem dL_bagsIn_15 : decode cL_bagsIn 15 = .ok (.iconst 0, 1) := by decide +kernel
theorem dL_bagsIn_16 : decode cL_bagsIn 16 = .ok (.ireturn, 1) := by decide +kernel
theorem dL_misroutedIn_0 : decode cL_misroutedIn 0 = .ok (.aload_n 2, 1) := by decide +kernel
theorem dL_misroutedIn_1 : decode cL_misroutedIn 1 = .ok (.iconst 0, 1) := by decide +kernel
theorem dL_misroutedIn_2 : decode cL_misroutedIn 2 = .ok (.aload_n 0, 1) := by decide +kernel
theorem dL_misroutedIn_3 : decode cL_misroutedIn 3 = .ok (.iload_n 1, 1) := by decide +kernel
theorem dL_misroutedIn_4 : decode cL_misroutedIn 4 = .ok (.invokevirtual 80, 3) := by decide +kernel
theorem dL_misroutedIn_7 : decode cL_misroutedIn 7 = .ok (.i2l, 1) := by decide +kernel
theorem dL_misroutedIn_8 : decode cL_misroutedIn 8 = .ok (.lastore, 1) := by decide +kernel
theorem dL_misroutedIn_9 : decode cL_misroutedIn 9 = .ok (.goto 6, 3) := by decide +kernel
theorem dL_misroutedIn_12 : decode cL_misroutedIn 12 = .ok (.astore_n 3, 1) := by decide +kernel
theorem dL_misroutedIn_13 : decode cL_misroutedIn 13 = .ok (.iconst 1, 1) := by decide +kernel
theorem dL_misroutedIn_14 : decode cL_misroutedIn 14 = .ok (.ireturn, 1) := by decide +kernel
theorem dL_misroutedIn_15 : decode cL_misroutedIn 15 = .ok (.iconst 0, 1) := by decide +kernel
theorem dL_misroutedIn_16 : decode cL_misroutedIn 16 = .ok (.ireturn, 1) := by decide +kernel
theorem dL_roomOf_0 : decode cL_roomOf 0 = .ok (.aload_n 2, 1) := by decide +kernel
theorem dL_roomOf_1 : decode cL_roomOf 1 = .ok (.iconst 0, 1) := by decide +kernel
theorem dL_roomOf_2 : decode cL_roomOf 2 = .ok (.aload_n 0, 1) := by decide +kernel
theorem dL_roomOf_3 : decode cL_roomOf 3 = .ok (.iload_n 1, 1) := by decide +kernel
theorem dL_roomOf_4 : decode cL_roomOf 4 = .ok (.invokevirtual 83, 3) := by decide +kernel
theorem dL_roomOf_7 : decode cL_roomOf 7 = .ok (.i2l, 1) := by decide +kernel
theorem dL_roomOf_8 : decode cL_roomOf 8 = .ok (.lastore, 1) := by decide +kernel
theorem dL_roomOf_9 : decode cL_roomOf 9 = .ok (.goto 6, 3) := by decide +kernel
theorem dL_roomOf_12 : decode cL_roomOf 12 = .ok (.astore_n 3, 1) := by decide +kernel
theorem dL_roomOf_13 : decode cL_roomOf 13 = .ok (.iconst 1, 1) := by decide +kernel
theorem dL_roomOf_14 : decode cL_roomOf 14 = .ok (.ireturn, 1) := by decide +kernel
theorem dL_roomOf_15 : decode cL_roomOf 15 = .ok (.iconst 0, 1) := by decide +kernel
theorem dL_roomOf_16 : decode cL_roomOf 16 = .ok (.ireturn, 1) := by decide +kernel
theorem dL_chuteOfFlight_0 : decode cL_chuteOfFlight 0 = .ok (.aload_n 2, 1) := by decide +kernel
theorem dL_chuteOfFlight_1 : decode cL_chuteOfFlight 1 = .ok (.iconst 0, 1) := by decide +kernel
theorem dL_chuteOfFlight_2 : decode cL_chuteOfFlight 2 = .ok (.aload_n 0, 1) := by decide +kernel
theorem dL_chuteOfFlight_3 : decode cL_chuteOfFlight 3 = .ok (.iload_n 1, 1) := by decide +kernel
theorem dL_chuteOfFlight_4 : decode cL_chuteOfFlight 4 = .ok (.invokevirtual 86, 3) := by decide +kernel
theorem dL_chuteOfFlight_7 : decode cL_chuteOfFlight 7 = .ok (.i2l, 1) := by decide +kernel
theorem dL_chuteOfFlight_8 : decode cL_chuteOfFlight 8 = .ok (.lastore, 1) := by decide +kernel
theorem dL_chuteOfFlight_9 : decode cL_chuteOfFlight 9 = .ok (.goto 6, 3) := by decide +kernel
theorem dL_chuteOfFlight_12 : decode cL_chuteOfFlight 12 = .ok (.astore_n 3, 1) := by decide +kernel
theorem dL_chuteOfFlight_13 : decode cL_chuteOfFlight 13 = .ok (.iconst 1, 1) := by decide +kernel
theorem dL_chuteOfFlight_14 : decode cL_chuteOfFlight 14 = .ok (.ireturn, 1) := by decide +kernel
theorem dL_chuteOfFlight_15 : decode cL_chuteOfFlight 15 = .ok (.iconst 0, 1) := by decide +kernel
theorem dL_chuteOfFlight_16 : decode cL_chuteOfFlight 16 = .ok (.ireturn, 1) := by decide +kernel
theorem dL_isGone_0 : decode cL_isGone 0 = .ok (.aload_n 2, 1) := by decide +kernel
theorem dL_isGone_1 : decode cL_isGone 1 = .ok (.iconst 0, 1) := by decide +kernel
theorem dL_isGone_2 : decode cL_isGone 2 = .ok (.aload_n 0, 1) := by decide +kernel
theorem dL_isGone_3 : decode cL_isGone 3 = .ok (.iload_n 1, 1) := by decide +kernel
theorem dL_isGone_4 : decode cL_isGone 4 = .ok (.invokevirtual 89, 3) := by decide +kernel
theorem dL_isGone_7 : decode cL_isGone 7 = .ok (.ifCond .eq 7, 3) := by decide +kernel
theorem dL_isGone_10 : decode cL_isGone 10 = .ok (.lconst 1, 1) := by decide +kernel
theorem dL_isGone_11 : decode cL_isGone 11 = .ok (.goto 4, 3) := by decide +kernel
theorem dL_isGone_14 : decode cL_isGone 14 = .ok (.lconst 0, 1) := by decide +kernel
theorem dL_isGone_15 : decode cL_isGone 15 = .ok (.lastore, 1) := by decide +kernel
theorem dL_isGone_16 : decode cL_isGone 16 = .ok (.goto 6, 3) := by decide +kernel
theorem dL_isGone_19 : decode cL_isGone 19 = .ok (.astore_n 3, 1) := by decide +kernel
theorem dL_isGone_20 : decode cL_isGone 20 = .ok (.iconst 1, 1) := by decide +kernel
theorem dL_isGone_21 : decode cL_isGone 21 = .ok (.ireturn, 1) := by decide +kernel
theorem dL_isGone_22 : decode cL_isGone 22 = .ok (.iconst 0, 1) := by decide +kernel
theorem dL_isGone_23 : decode cL_isGone 23 = .ok (.ireturn, 1) := by decide +kernel
theorem dL_readyOf_0 : decode cL_readyOf 0 = .ok (.aload_n 2, 1) := by decide +kernel
theorem dL_readyOf_1 : decode cL_readyOf 1 = .ok (.iconst 0, 1) := by decide +kernel
theorem dL_readyOf_2 : decode cL_readyOf 2 = .ok (.aload_n 0, 1) := by decide +kernel
theorem dL_readyOf_3 : decode cL_readyOf 3 = .ok (.iload_n 1, 1) := by decide +kernel
theorem dL_readyOf_4 : decode cL_readyOf 4 = .ok (.invokevirtual 92, 3) := by decide +kernel
theorem dL_readyOf_7 : decode cL_readyOf 7 = .ok (.i2l, 1) := by decide +kernel
theorem dL_readyOf_8 : decode cL_readyOf 8 = .ok (.lastore, 1) := by decide +kernel
theorem dL_readyOf_9 : decode cL_readyOf 9 = .ok (.goto 6, 3) := by decide +kernel
theorem dL_readyOf_12 : decode cL_readyOf 12 = .ok (.astore_n 3, 1) := by decide +kernel
theorem dL_readyOf_13 : decode cL_readyOf 13 = .ok (.iconst 1, 1) := by decide +kernel
theorem dL_readyOf_14 : decode cL_readyOf 14 = .ok (.ireturn, 1) := by decide +kernel
theorem dL_readyOf_15 : decode cL_readyOf 15 = .ok (.iconst 0, 1) := by decide +kernel
theorem dL_readyOf_16 : decode cL_readyOf 16 = .ok (.ireturn, 1) := by decide +kernel
theorem dL_missingOf_0 : decode cL_missingOf 0 = .ok (.aload_n 2, 1) := by decide +kernel
theorem dL_missingOf_1 : decode cL_missingOf 1 = .ok (.iconst 0, 1) := by decide +kernel
theorem dL_missingOf_2 : decode cL_missingOf 2 = .ok (.aload_n 0, 1) := by decide +kernel
theorem dL_missingOf_3 : decode cL_missingOf 3 = .ok (.iload_n 1, 1) := by decide +kernel
theorem dL_missingOf_4 : decode cL_missingOf 4 = .ok (.invokevirtual 95, 3) := by decide +kernel
theorem dL_missingOf_7 : decode cL_missingOf 7 = .ok (.i2l, 1) := by decide +kernel
theorem dL_missingOf_8 : decode cL_missingOf 8 = .ok (.lastore, 1) := by decide +kernel
theorem dL_missingOf_9 : decode cL_missingOf 9 = .ok (.goto 6, 3) := by decide +kernel
theorem dL_missingOf_12 : decode cL_missingOf 12 = .ok (.astore_n 3, 1) := by decide +kernel
theorem dL_missingOf_13 : decode cL_missingOf 13 = .ok (.iconst 1, 1) := by decide +kernel
theorem dL_missingOf_14 : decode cL_missingOf 14 = .ok (.ireturn, 1) := by decide +kernel
theorem dL_missingOf_15 : decode cL_missingOf 15 = .ok (.iconst 0, 1) := by decide +kernel
theorem dL_missingOf_16 : decode cL_missingOf 16 = .ok (.ireturn, 1) := by decide +kernel
theorem dL_minutesUntilChute_0 : decode cL_minutesUntilChute 0 = .ok (.aload_n 2, 1) := by decide +kernel
theorem dL_minutesUntilChute_1 : decode cL_minutesUntilChute 1 = .ok (.iconst 0, 1) := by decide +kernel
theorem dL_minutesUntilChute_2 : decode cL_minutesUntilChute 2 = .ok (.aload_n 0, 1) := by decide +kernel
theorem dL_minutesUntilChute_3 : decode cL_minutesUntilChute 3 = .ok (.iload_n 1, 1) := by decide +kernel
theorem dL_minutesUntilChute_4 : decode cL_minutesUntilChute 4 = .ok (.invokevirtual 98, 3) := by decide +kernel
theorem dL_minutesUntilChute_7 : decode cL_minutesUntilChute 7 = .ok (.i2l, 1) := by decide +kernel
theorem dL_minutesUntilChute_8 : decode cL_minutesUntilChute 8 = .ok (.lastore, 1) := by decide +kernel
theorem dL_minutesUntilChute_9 : decode cL_minutesUntilChute 9 = .ok (.goto 6, 3) := by decide +kernel
theorem dL_minutesUntilChute_12 : decode cL_minutesUntilChute 12 = .ok (.astore_n 3, 1) := by decide +kernel
theorem dL_minutesUntilChute_13 : decode cL_minutesUntilChute 13 = .ok (.iconst 1, 1) := by decide +kernel
theorem dL_minutesUntilChute_14 : decode cL_minutesUntilChute 14 = .ok (.ireturn, 1) := by decide +kernel
theorem dL_minutesUntilChute_15 : decode cL_minutesUntilChute 15 = .ok (.iconst 0, 1) := by decide +kernel
theorem dL_minutesUntilChute_16 : decode cL_minutesUntilChute 16 = .ok (.ireturn, 1) := by decide +kernel
theorem dL_readyAfter_0 : decode cL_readyAfter 0 = .ok (.aload_n 3, 1) := by decide +kernel
theorem dL_readyAfter_1 : decode cL_readyAfter 1 = .ok (.iconst 0, 1) := by decide +kernel
theorem dL_readyAfter_2 : decode cL_readyAfter 2 = .ok (.aload_n 0, 1) := by decide +kernel
theorem dL_readyAfter_3 : decode cL_readyAfter 3 = .ok (.iload_n 1, 1) := by decide +kernel
theorem dL_readyAfter_4 : decode cL_readyAfter 4 = .ok (.iload_n 2, 1) := by decide +kernel
theorem dL_readyAfter_5 : decode cL_readyAfter 5 = .ok (.invokevirtual 101, 3) := by decide +kernel
theorem dL_readyAfter_8 : decode cL_readyAfter 8 = .ok (.i2l, 1) := by decide +kernel
theorem dL_readyAfter_9 : decode cL_readyAfter 9 = .ok (.lastore, 1) := by decide +kernel
theorem dL_readyAfter_10 : decode cL_readyAfter 10 = .ok (.goto 11, 3) := by decide +kernel
theorem dL_readyAfter_13 : decode cL_readyAfter 13 = .ok (.astore 4, 2) := by decide +kernel
theorem dL_readyAfter_15 : decode cL_readyAfter 15 = .ok (.iconst 1, 1) := by decide +kernel
theorem dL_readyAfter_16 : decode cL_readyAfter 16 = .ok (.ireturn, 1) := by decide +kernel
theorem dL_readyAfter_17 : decode cL_readyAfter 17 = .ok (.astore 4, 2) := by decide +kernel
theorem dL_readyAfter_19 : decode cL_readyAfter 19 = .ok (.iconst 2, 1) := by decide +kernel
theorem dL_readyAfter_20 : decode cL_readyAfter 20 = .ok (.ireturn, 1) := by decide +kernel
theorem dL_readyAfter_21 : decode cL_readyAfter 21 = .ok (.iconst 0, 1) := by decide +kernel
theorem dL_readyAfter_22 : decode cL_readyAfter 22 = .ok (.ireturn, 1) := by decide +kernel
theorem dL_bestChute_0 : decode cL_bestChute 0 = .ok (.aload_n 3, 1) := by decide +kernel
theorem dL_bestChute_1 : decode cL_bestChute 1 = .ok (.iconst 0, 1) := by decide +kernel
theorem dL_bestChute_2 : decode cL_bestChute 2 = .ok (.aload_n 0, 1) := by decide +kernel
theorem dL_bestChute_3 : decode cL_bestChute 3 = .ok (.iload_n 1, 1) := by decide +kernel
theorem dL_bestChute_4 : decode cL_bestChute 4 = .ok (.iload_n 2, 1) := by decide +kernel
theorem dL_bestChute_5 : decode cL_bestChute 5 = .ok (.invokevirtual 104, 3) := by decide +kernel
theorem dL_bestChute_8 : decode cL_bestChute 8 = .ok (.i2l, 1) := by decide +kernel
theorem dL_bestChute_9 : decode cL_bestChute 9 = .ok (.lastore, 1) := by decide +kernel
theorem dL_bestChute_10 : decode cL_bestChute 10 = .ok (.goto 15, 3) := by decide +kernel
theorem dL_bestChute_13 : decode cL_bestChute 13 = .ok (.astore 4, 2) := by decide +kernel
theorem dL_bestChute_15 : decode cL_bestChute 15 = .ok (.iconst 1, 1) := by decide +kernel
theorem dL_bestChute_16 : decode cL_bestChute 16 = .ok (.ireturn, 1) := by decide +kernel
theorem dL_bestChute_17 : decode cL_bestChute 17 = .ok (.astore 4, 2) := by decide +kernel
theorem dL_bestChute_19 : decode cL_bestChute 19 = .ok (.iconst 2, 1) := by decide +kernel
theorem dL_bestChute_20 : decode cL_bestChute 20 = .ok (.ireturn, 1) := by decide +kernel
theorem dL_bestChute_21 : decode cL_bestChute 21 = .ok (.astore 4, 2) := by decide +kernel
theorem dL_bestChute_23 : decode cL_bestChute 23 = .ok (.iconst 3, 1) := by decide +kernel
theorem dL_bestChute_24 : decode cL_bestChute 24 = .ok (.ireturn, 1) := by decide +kernel
theorem dL_bestChute_25 : decode cL_bestChute 25 = .ok (.iconst 0, 1) := by decide +kernel
theorem dL_bestChute_26 : decode cL_bestChute 26 = .ok (.ireturn, 1) := by decide +kernel
theorem dL_law_0 : decode cL_law 0 = .ok (.new 8, 3) := by decide +kernel
theorem dL_law_3 : decode cL_law 3 = .ok (.dup, 1) := by decide +kernel
theorem dL_law_4 : decode cL_law 4 = .ok (.invokespecial 107, 3) := by decide +kernel
theorem dL_law_7 : decode cL_law 7 = .ok (.astore_n 1, 1) := by decide +kernel
theorem dL_law_8 : decode cL_law 8 = .ok (.new 108, 3) := by decide +kernel
theorem dL_law_11 : decode cL_law 11 = .ok (.dup, 1) := by decide +kernel
theorem dL_law_12 : decode cL_law 12 = .ok (.invokespecial 110, 3) := by decide +kernel
theorem dL_law_15 : decode cL_law 15 = .ok (.astore_n 2, 1) := by decide +kernel
theorem dL_law_16 : decode cL_law 16 = .ok (.iconst 1, 1) := by decide +kernel
theorem dL_law_17 : decode cL_law 17 = .ok (.newarray .long, 2) := by decide +kernel
theorem dL_law_19 : decode cL_law 19 = .ok (.astore_n 3, 1) := by decide +kernel
theorem dL_law_20 : decode cL_law 20 = .ok (.iconst 0, 1) := by decide +kernel
theorem dL_law_21 : decode cL_law 21 = .ok (.istore 4, 2) := by decide +kernel
theorem dL_law_23 : decode cL_law 23 = .ok (.iload 4, 2) := by decide +kernel
theorem dL_law_25 : decode cL_law 25 = .ok (.aload_n 0, 1) := by decide +kernel
theorem dL_law_26 : decode cL_law 26 = .ok (.arraylength, 1) := by decide +kernel
theorem dL_law_27 : decode cL_law 27 = .ok (.iconst 4, 1) := by decide +kernel
theorem dL_law_28 : decode cL_law 28 = .ok (.isub, 1) := by decide +kernel
theorem dL_law_29 : decode cL_law 29 = .ok (.if_icmp .gt 2078, 3) := by decide +kernel
theorem dL_law_32 : decode cL_law 32 = .ok (.aload_n 0, 1) := by decide +kernel
theorem dL_law_33 : decode cL_law 33 = .ok (.iload 4, 2) := by decide +kernel
theorem dL_law_35 : decode cL_law 35 = .ok (.iaload, 1) := by decide +kernel
theorem dL_law_36 : decode cL_law 36 = .ok (.bipush 63, 2) := by decide +kernel
theorem dL_law_38 : decode cL_law 38 = .ok (.iand, 1) := by decide +kernel
theorem dL_law_39 : decode cL_law 39 = .ok (.tableswitch 2062 0 39 #[173, 217, 285, 341, 409, 489, 545, 613, 669, 725, 781, 837, 893, 949, 1005, 1061, 1117, 1180, 1243, 1299, 1355, 1411, 1467, 1523, 1586, 1642, 1698, 1711, 1724, 1737, 1750, 1763, 1776, 1789, 1802, 1815, 1871, 1939, 2007, 2048], 173) := by decide +kernel
theorem dL_law_212 : decode cL_law 212 = .ok (.aload_n 1, 1) := by decide +kernel
theorem dL_law_213 : decode cL_law 213 = .ok (.aload_n 3, 1) := by decide +kernel
theorem dL_law_214 : decode cL_law 214 = .ok (.invokestatic 111, 3) := by decide +kernel
theorem dL_law_217 : decode cL_law 217 = .ok (.istore 5, 2) := by decide +kernel
theorem dL_law_219 : decode cL_law 219 = .ok (.aload_n 2, 1) := by decide +kernel
theorem dL_law_220 : decode cL_law 220 = .ok (.invokevirtual 116, 3) := by decide +kernel
theorem dL_law_223 : decode cL_law 223 = .ok (.istore 6, 2) := by decide +kernel
theorem dL_law_225 : decode cL_law 225 = .ok (.aload_n 2, 1) := by decide +kernel
theorem dL_law_226 : decode cL_law 226 = .ok (.invokevirtual 117, 3) := by decide +kernel
theorem dL_law_229 : decode cL_law 229 = .ok (.iload 5, 2) := by decide +kernel
theorem dL_law_231 : decode cL_law 231 = .ok (.if_icmp .eq 5, 3) := by decide +kernel
theorem dL_law_234 : decode cL_law 234 = .ok (.iconst 0, 1) := by decide +kernel
theorem dL_law_235 : decode cL_law 235 = .ok (.ireturn, 1) := by decide +kernel
theorem dL_law_236 : decode cL_law 236 = .ok (.iload 5, 2) := by decide +kernel
theorem dL_law_238 : decode cL_law 238 = .ok (.ifCond .ne 15, 3) := by decide +kernel
theorem dL_law_241 : decode cL_law 241 = .ok (.aload_n 3, 1) := by decide +kernel
theorem dL_law_242 : decode cL_law 242 = .ok (.iconst 0, 1) := by decide +kernel
theorem dL_law_243 : decode cL_law 243 = .ok (.laload, 1) := by decide +kernel
theorem dL_law_244 : decode cL_law 244 = .ok (.iload 6, 2) := by decide +kernel
theorem dL_law_246 : decode cL_law 246 = .ok (.i2l, 1) := by decide +kernel
theorem dL_law_247 : decode cL_law 247 = .ok (.lcmp, 1) := by decide +kernel
theorem dL_law_248 : decode cL_law 248 = .ok (.ifCond .eq 5, 3) := by decide +kernel
theorem dL_law_251 : decode cL_law 251 = .ok (.iconst 0, 1) := by decide +kernel
theorem dL_law_252 : decode cL_law 252 = .ok (.ireturn, 1) := by decide +kernel
theorem dL_law_253 : decode cL_law 253 = .ok (.goto 1848, 3) := by decide +kernel
theorem dL_law_256 : decode cL_law 256 = .ok (.aload_n 1, 1) := by decide +kernel
theorem dL_law_257 : decode cL_law 257 = .ok (.aload_n 0, 1) := by decide +kernel
theorem dL_law_258 : decode cL_law 258 = .ok (.iload 4, 2) := by decide +kernel
theorem dL_law_260 : decode cL_law 260 = .ok (.iconst 1, 1) := by decide +kernel
theorem dL_law_261 : decode cL_law 261 = .ok (.iadd, 1) := by decide +kernel
theorem dL_law_262 : decode cL_law 262 = .ok (.iaload, 1) := by decide +kernel
theorem dL_law_263 : decode cL_law 263 = .ok (.aload_n 0, 1) := by decide +kernel
theorem dL_law_264 : decode cL_law 264 = .ok (.iload 4, 2) := by decide +kernel
theorem dL_law_266 : decode cL_law 266 = .ok (.iconst 2, 1) := by decide +kernel
theorem dL_law_267 : decode cL_law 267 = .ok (.iadd, 1) := by decide +kernel
theorem dL_law_268 : decode cL_law 268 = .ok (.iaload, 1) := by decide +kernel
theorem dL_law_269 : decode cL_law 269 = .ok (.aload_n 3, 1) := by decide +kernel
theorem dL_law_270 : decode cL_law 270 = .ok (.invokestatic 120, 3) := by decide +kernel
theorem dL_law_273 : decode cL_law 273 = .ok (.istore 5, 2) := by decide +kernel
theorem dL_law_275 : decode cL_law 275 = .ok (.aload_n 2, 1) := by decide +kernel
theorem dL_law_276 : decode cL_law 276 = .ok (.aload_n 0, 1) := by decide +kernel
theorem dL_law_277 : decode cL_law 277 = .ok (.iload 4, 2) := by decide +kernel
theorem dL_law_279 : decode cL_law 279 = .ok (.iconst 1, 1) := by decide +kernel
theorem dL_law_280 : decode cL_law 280 = .ok (.iadd, 1) := by decide +kernel
theorem dL_law_281 : decode cL_law 281 = .ok (.iaload, 1) := by decide +kernel
theorem dL_law_282 : decode cL_law 282 = .ok (.aload_n 0, 1) := by decide +kernel
theorem dL_law_283 : decode cL_law 283 = .ok (.iload 4, 2) := by decide +kernel
theorem dL_law_285 : decode cL_law 285 = .ok (.iconst 2, 1) := by decide +kernel
theorem dL_law_286 : decode cL_law 286 = .ok (.iadd, 1) := by decide +kernel
theorem dL_law_287 : decode cL_law 287 = .ok (.iaload, 1) := by decide +kernel
theorem dL_law_288 : decode cL_law 288 = .ok (.invokevirtual 123, 3) := by decide +kernel
theorem dL_law_291 : decode cL_law 291 = .ok (.istore 6, 2) := by decide +kernel
theorem dL_law_293 : decode cL_law 293 = .ok (.aload_n 2, 1) := by decide +kernel
theorem dL_law_294 : decode cL_law 294 = .ok (.invokevirtual 117, 3) := by decide +kernel
theorem dL_law_297 : decode cL_law 297 = .ok (.iload 5, 2) := by decide +kernel
theorem dL_law_299 : decode cL_law 299 = .ok (.if_icmp .eq 5, 3) := by decide +kernel
theorem dL_law_302 : decode cL_law 302 = .ok (.iconst 0, 1) := by decide +kernel
theorem dL_law_303 : decode cL_law 303 = .ok (.ireturn, 1) := by decide +kernel
theorem dL_law_304 : decode cL_law 304 = .ok (.iload 5, 2) := by decide +kernel
theorem dL_law_306 : decode cL_law 306 = .ok (.ifCond .ne 15, 3) := by decide +kernel
theorem dL_law_309 : decode cL_law 309 = .ok (.aload_n 3, 1) := by decide +kernel
theorem dL_law_310 : decode cL_law 310 = .ok (.iconst 0, 1) := by decide +kernel
theorem dL_law_311 : decode cL_law 311 = .ok (.laload, 1) := by decide +kernel
theorem dL_law_312 : decode cL_law 312 = .ok (.iload 6, 2) := by decide +kernel
theorem dL_law_314 : decode cL_law 314 = .ok (.i2l, 1) := by decide +kernel
theorem dL_law_315 : decode cL_law 315 = .ok (.lcmp, 1) := by decide +kernel
theorem dL_law_316 : decode cL_law 316 = .ok (.ifCond .eq 5, 3) := by decide +kernel
theorem dL_law_319 : decode cL_law 319 = .ok (.iconst 0, 1) := by decide +kernel
theorem dL_law_320 : decode cL_law 320 = .ok (.ireturn, 1) := by decide +kernel
theorem dL_law_321 : decode cL_law 321 = .ok (.goto 1780, 3) := by decide +kernel
theorem dL_law_324 : decode cL_law 324 = .ok (.aload_n 1, 1) := by decide +kernel
theorem dL_law_325 : decode cL_law 325 = .ok (.aload_n 0, 1) := by decide +kernel
theorem dL_law_326 : decode cL_law 326 = .ok (.iload 4, 2) := by decide +kernel
theorem dL_law_328 : decode cL_law 328 = .ok (.iconst 1, 1) := by decide +kernel
theorem dL_law_329 : decode cL_law 329 = .ok (.iadd, 1) := by decide +kernel
theorem dL_law_330 : decode cL_law 330 = .ok (.iaload, 1) := by decide +kernel
theorem dL_law_331 : decode cL_law 331 = .ok (.aload_n 3, 1) := by decide +kernel
theorem dL_law_332 : decode cL_law 332 = .ok (.invokestatic 124, 3) := by decide +kernel
theorem dL_law_335 : decode cL_law 335 = .ok (.istore 5, 2) := by decide +kernel
theorem dL_law_337 : decode cL_law 337 = .ok (.aload_n 2, 1) := by decide +kernel
theorem dL_law_338 : decode cL_law 338 = .ok (.aload_n 0, 1) := by decide +kernel
theorem dL_law_339 : decode cL_law 339 = .ok (.iload 4, 2) := by decide +kernel
theorem dL_law_341 : decode cL_law 341 = .ok (.iconst 1, 1) := by decide +kernel
theorem dL_law_342 : decode cL_law 342 = .ok (.iadd, 1) := by decide +kernel
theorem dL_law_343 : decode cL_law 343 = .ok (.iaload, 1) := by decide +kernel
theorem dL_law_344 : decode cL_law 344 = .ok (.invokevirtual 127, 3) := by decide +kernel
theorem dL_law_347 : decode cL_law 347 = .ok (.istore 6, 2) := by decide +kernel
theorem dL_law_349 : decode cL_law 349 = .ok (.aload_n 2, 1) := by decide +kernel
theorem dL_law_350 : decode cL_law 350 = .ok (.invokevirtual 117, 3) := by decide +kernel
theorem dL_law_353 : decode cL_law 353 = .ok (.iload 5, 2) := by decide +kernel
theorem dL_law_355 : decode cL_law 355 = .ok (.if_icmp .eq 5, 3) := by decide +kernel
theorem dL_law_358 : decode cL_law 358 = .ok (.iconst 0, 1) := by decide +kernel
theorem dL_law_359 : decode cL_law 359 = .ok (.ireturn, 1) := by decide +kernel
theorem dL_law_360 : decode cL_law 360 = .ok (.iload 5, 2) := by decide +kernel
theorem dL_law_362 : decode cL_law 362 = .ok (.ifCond .ne 15, 3) := by decide +kernel
theorem dL_law_365 : decode cL_law 365 = .ok (.aload_n 3, 1) := by decide +kernel
theorem dL_law_366 : decode cL_law 366 = .ok (.iconst 0, 1) := by decide +kernel
theorem dL_law_367 : decode cL_law 367 = .ok (.laload, 1) := by decide +kernel
theorem dL_law_368 : decode cL_law 368 = .ok (.iload 6, 2) := by decide +kernel
theorem dL_law_370 : decode cL_law 370 = .ok (.i2l, 1) := by decide +kernel
theorem dL_law_371 : decode cL_law 371 = .ok (.lcmp, 1) := by decide +kernel
theorem dL_law_372 : decode cL_law 372 = .ok (.ifCond .eq 5, 3) := by decide +kernel
theorem dL_law_375 : decode cL_law 375 = .ok (.iconst 0, 1) := by decide +kernel
theorem dL_law_376 : decode cL_law 376 = .ok (.ireturn, 1) := by decide +kernel
theorem dL_law_377 : decode cL_law 377 = .ok (.goto 1724, 3) := by decide +kernel
theorem dL_law_380 : decode cL_law 380 = .ok (.aload_n 1, 1) := by decide +kernel
theorem dL_law_381 : decode cL_law 381 = .ok (.aload_n 0, 1) := by decide +kernel
theorem dL_law_382 : decode cL_law 382 = .ok (.iload 4, 2) := by decide +kernel
theorem dL_law_384 : decode cL_law 384 = .ok (.iconst 1, 1) := by decide +kernel
theorem dL_law_385 : decode cL_law 385 = .ok (.iadd, 1) := by decide +kernel
theorem dL_law_386 : decode cL_law 386 = .ok (.iaload, 1) := by decide +kernel
theorem dL_law_387 : decode cL_law 387 = .ok (.aload_n 0, 1) := by decide +kernel
theorem dL_law_388 : decode cL_law 388 = .ok (.iload 4, 2) := by decide +kernel
theorem dL_law_390 : decode cL_law 390 = .ok (.iconst 2, 1) := by decide +kernel
theorem dL_law_391 : decode cL_law 391 = .ok (.iadd, 1) := by decide +kernel
theorem dL_law_392 : decode cL_law 392 = .ok (.iaload, 1) := by decide +kernel
theorem dL_law_393 : decode cL_law 393 = .ok (.aload_n 3, 1) := by decide +kernel
theorem dL_law_394 : decode cL_law 394 = .ok (.invokestatic 128, 3) := by decide +kernel
theorem dL_law_397 : decode cL_law 397 = .ok (.istore 5, 2) := by decide +kernel
theorem dL_law_399 : decode cL_law 399 = .ok (.aload_n 2, 1) := by decide +kernel
theorem dL_law_400 : decode cL_law 400 = .ok (.aload_n 0, 1) := by decide +kernel
theorem dL_law_401 : decode cL_law 401 = .ok (.iload 4, 2) := by decide +kernel
theorem dL_law_403 : decode cL_law 403 = .ok (.iconst 1, 1) := by decide +kernel
theorem dL_law_404 : decode cL_law 404 = .ok (.iadd, 1) := by decide +kernel
theorem dL_law_405 : decode cL_law 405 = .ok (.iaload, 1) := by decide +kernel
theorem dL_law_406 : decode cL_law 406 = .ok (.aload_n 0, 1) := by decide +kernel
theorem dL_law_407 : decode cL_law 407 = .ok (.iload 4, 2) := by decide +kernel
theorem dL_law_409 : decode cL_law 409 = .ok (.iconst 2, 1) := by decide +kernel
theorem dL_law_410 : decode cL_law 410 = .ok (.iadd, 1) := by decide +kernel
theorem dL_law_411 : decode cL_law 411 = .ok (.iaload, 1) := by decide +kernel
theorem dL_law_412 : decode cL_law 412 = .ok (.invokevirtual 130, 3) := by decide +kernel
theorem dL_law_415 : decode cL_law 415 = .ok (.istore 6, 2) := by decide +kernel
theorem dL_law_417 : decode cL_law 417 = .ok (.aload_n 2, 1) := by decide +kernel
theorem dL_law_418 : decode cL_law 418 = .ok (.invokevirtual 117, 3) := by decide +kernel
theorem dL_law_421 : decode cL_law 421 = .ok (.iload 5, 2) := by decide +kernel
theorem dL_law_423 : decode cL_law 423 = .ok (.if_icmp .eq 5, 3) := by decide +kernel
theorem dL_law_426 : decode cL_law 426 = .ok (.iconst 0, 1) := by decide +kernel
theorem dL_law_427 : decode cL_law 427 = .ok (.ireturn, 1) := by decide +kernel
theorem dL_law_428 : decode cL_law 428 = .ok (.iload 5, 2) := by decide +kernel
theorem dL_law_430 : decode cL_law 430 = .ok (.ifCond .ne 15, 3) := by decide +kernel
theorem dL_law_433 : decode cL_law 433 = .ok (.aload_n 3, 1) := by decide +kernel
theorem dL_law_434 : decode cL_law 434 = .ok (.iconst 0, 1) := by decide +kernel
theorem dL_law_435 : decode cL_law 435 = .ok (.laload, 1) := by decide +kernel
theorem dL_law_436 : decode cL_law 436 = .ok (.iload 6, 2) := by decide +kernel
theorem dL_law_438 : decode cL_law 438 = .ok (.i2l, 1) := by decide +kernel
theorem dL_law_439 : decode cL_law 439 = .ok (.lcmp, 1) := by decide +kernel
theorem dL_law_440 : decode cL_law 440 = .ok (.ifCond .eq 5, 3) := by decide +kernel
theorem dL_law_443 : decode cL_law 443 = .ok (.iconst 0, 1) := by decide +kernel
theorem dL_law_444 : decode cL_law 444 = .ok (.ireturn, 1) := by decide +kernel
theorem dL_law_445 : decode cL_law 445 = .ok (.goto 1656, 3) := by decide +kernel
theorem dL_law_448 : decode cL_law 448 = .ok (.aload_n 1, 1) := by decide +kernel
theorem dL_law_449 : decode cL_law 449 = .ok (.aload_n 0, 1) := by decide +kernel
theorem dL_law_450 : decode cL_law 450 = .ok (.iload 4, 2) := by decide +kernel
theorem dL_law_452 : decode cL_law 452 = .ok (.iconst 1, 1) := by decide +kernel
theorem dL_law_453 : decode cL_law 453 = .ok (.iadd, 1) := by decide +kernel
theorem dL_law_454 : decode cL_law 454 = .ok (.iaload, 1) := by decide +kernel
theorem dL_law_455 : decode cL_law 455 = .ok (.aload_n 0, 1) := by decide +kernel
theorem dL_law_456 : decode cL_law 456 = .ok (.iload 4, 2) := by decide +kernel
theorem dL_law_458 : decode cL_law 458 = .ok (.iconst 2, 1) := by decide +kernel
theorem dL_law_459 : decode cL_law 459 = .ok (.iadd, 1) := by decide +kernel
theorem dL_law_460 : decode cL_law 460 = .ok (.iaload, 1) := by decide +kernel
theorem dL_law_461 : decode cL_law 461 = .ok (.aload_n 0, 1) := by decide +kernel
theorem dL_law_462 : decode cL_law 462 = .ok (.iload 4, 2) := by decide +kernel
theorem dL_law_464 : decode cL_law 464 = .ok (.iconst 3, 1) := by decide +kernel
theorem dL_law_465 : decode cL_law 465 = .ok (.iadd, 1) := by decide +kernel
theorem dL_law_466 : decode cL_law 466 = .ok (.iaload, 1) := by decide +kernel
theorem dL_law_467 : decode cL_law 467 = .ok (.aload_n 3, 1) := by decide +kernel
theorem dL_law_468 : decode cL_law 468 = .ok (.invokestatic 131, 3) := by decide +kernel
theorem dL_law_471 : decode cL_law 471 = .ok (.istore 5, 2) := by decide +kernel
theorem dL_law_473 : decode cL_law 473 = .ok (.aload_n 2, 1) := by decide +kernel
theorem dL_law_474 : decode cL_law 474 = .ok (.aload_n 0, 1) := by decide +kernel
theorem dL_law_475 : decode cL_law 475 = .ok (.iload 4, 2) := by decide +kernel
theorem dL_law_477 : decode cL_law 477 = .ok (.iconst 1, 1) := by decide +kernel
theorem dL_law_478 : decode cL_law 478 = .ok (.iadd, 1) := by decide +kernel
theorem dL_law_479 : decode cL_law 479 = .ok (.iaload, 1) := by decide +kernel
theorem dL_law_480 : decode cL_law 480 = .ok (.aload_n 0, 1) := by decide +kernel
theorem dL_law_481 : decode cL_law 481 = .ok (.iload 4, 2) := by decide +kernel
theorem dL_law_483 : decode cL_law 483 = .ok (.iconst 2, 1) := by decide +kernel
theorem dL_law_484 : decode cL_law 484 = .ok (.iadd, 1) := by decide +kernel
theorem dL_law_485 : decode cL_law 485 = .ok (.iaload, 1) := by decide +kernel
theorem dL_law_486 : decode cL_law 486 = .ok (.aload_n 0, 1) := by decide +kernel
theorem dL_law_487 : decode cL_law 487 = .ok (.iload 4, 2) := by decide +kernel
theorem dL_law_489 : decode cL_law 489 = .ok (.iconst 3, 1) := by decide +kernel
theorem dL_law_490 : decode cL_law 490 = .ok (.iadd, 1) := by decide +kernel
theorem dL_law_491 : decode cL_law 491 = .ok (.iaload, 1) := by decide +kernel
theorem dL_law_492 : decode cL_law 492 = .ok (.invokevirtual 134, 3) := by decide +kernel
theorem dL_law_495 : decode cL_law 495 = .ok (.istore 6, 2) := by decide +kernel
theorem dL_law_497 : decode cL_law 497 = .ok (.aload_n 2, 1) := by decide +kernel
theorem dL_law_498 : decode cL_law 498 = .ok (.invokevirtual 117, 3) := by decide +kernel
theorem dL_law_501 : decode cL_law 501 = .ok (.iload 5, 2) := by decide +kernel
theorem dL_law_503 : decode cL_law 503 = .ok (.if_icmp .eq 5, 3) := by decide +kernel
theorem dL_law_506 : decode cL_law 506 = .ok (.iconst 0, 1) := by decide +kernel
theorem dL_law_507 : decode cL_law 507 = .ok (.ireturn, 1) := by decide +kernel
theorem dL_law_508 : decode cL_law 508 = .ok (.iload 5, 2) := by decide +kernel
theorem dL_law_510 : decode cL_law 510 = .ok (.ifCond .ne 15, 3) := by decide +kernel
theorem dL_law_513 : decode cL_law 513 = .ok (.aload_n 3, 1) := by decide +kernel
theorem dL_law_514 : decode cL_law 514 = .ok (.iconst 0, 1) := by decide +kernel
theorem dL_law_515 : decode cL_law 515 = .ok (.laload, 1) := by decide +kernel
theorem dL_law_516 : decode cL_law 516 = .ok (.iload 6, 2) := by decide +kernel
theorem dL_law_518 : decode cL_law 518 = .ok (.i2l, 1) := by decide +kernel
theorem dL_law_519 : decode cL_law 519 = .ok (.lcmp, 1) := by decide +kernel
theorem dL_law_520 : decode cL_law 520 = .ok (.ifCond .eq 5, 3) := by decide +kernel
theorem dL_law_523 : decode cL_law 523 = .ok (.iconst 0, 1) := by decide +kernel
theorem dL_law_524 : decode cL_law 524 = .ok (.ireturn, 1) := by decide +kernel
theorem dL_law_525 : decode cL_law 525 = .ok (.goto 1576, 3) := by decide +kernel
theorem dL_law_528 : decode cL_law 528 = .ok (.aload_n 1, 1) := by decide +kernel
theorem dL_law_529 : decode cL_law 529 = .ok (.aload_n 0, 1) := by decide +kernel
theorem dL_law_530 : decode cL_law 530 = .ok (.iload 4, 2) := by decide +kernel
theorem dL_law_532 : decode cL_law 532 = .ok (.iconst 1, 1) := by decide +kernel
theorem dL_law_533 : decode cL_law 533 = .ok (.iadd, 1) := by decide +kernel
theorem dL_law_534 : decode cL_law 534 = .ok (.iaload, 1) := by decide +kernel
theorem dL_law_535 : decode cL_law 535 = .ok (.aload_n 3, 1) := by decide +kernel
theorem dL_law_536 : decode cL_law 536 = .ok (.invokestatic 135, 3) := by decide +kernel
theorem dL_law_539 : decode cL_law 539 = .ok (.istore 5, 2) := by decide +kernel
theorem dL_law_541 : decode cL_law 541 = .ok (.aload_n 2, 1) := by decide +kernel
theorem dL_law_542 : decode cL_law 542 = .ok (.aload_n 0, 1) := by decide +kernel
theorem dL_law_543 : decode cL_law 543 = .ok (.iload 4, 2) := by decide +kernel
theorem dL_law_545 : decode cL_law 545 = .ok (.iconst 1, 1) := by decide +kernel
theorem dL_law_546 : decode cL_law 546 = .ok (.iadd, 1) := by decide +kernel
theorem dL_law_547 : decode cL_law 547 = .ok (.iaload, 1) := by decide +kernel
theorem dL_law_548 : decode cL_law 548 = .ok (.invokevirtual 137, 3) := by decide +kernel
theorem dL_law_551 : decode cL_law 551 = .ok (.istore 6, 2) := by decide +kernel
theorem dL_law_553 : decode cL_law 553 = .ok (.aload_n 2, 1) := by decide +kernel
theorem dL_law_554 : decode cL_law 554 = .ok (.invokevirtual 117, 3) := by decide +kernel
theorem dL_law_557 : decode cL_law 557 = .ok (.iload 5, 2) := by decide +kernel
theorem dL_law_559 : decode cL_law 559 = .ok (.if_icmp .eq 5, 3) := by decide +kernel
theorem dL_law_562 : decode cL_law 562 = .ok (.iconst 0, 1) := by decide +kernel
theorem dL_law_563 : decode cL_law 563 = .ok (.ireturn, 1) := by decide +kernel
theorem dL_law_564 : decode cL_law 564 = .ok (.iload 5, 2) := by decide +kernel
theorem dL_law_566 : decode cL_law 566 = .ok (.ifCond .ne 15, 3) := by decide +kernel
theorem dL_law_569 : decode cL_law 569 = .ok (.aload_n 3, 1) := by decide +kernel
theorem dL_law_570 : decode cL_law 570 = .ok (.iconst 0, 1) := by decide +kernel
theorem dL_law_571 : decode cL_law 571 = .ok (.laload, 1) := by decide +kernel
theorem dL_law_572 : decode cL_law 572 = .ok (.iload 6, 2) := by decide +kernel
theorem dL_law_574 : decode cL_law 574 = .ok (.i2l, 1) := by decide +kernel
theorem dL_law_575 : decode cL_law 575 = .ok (.lcmp, 1) := by decide +kernel
theorem dL_law_576 : decode cL_law 576 = .ok (.ifCond .eq 5, 3) := by decide +kernel
theorem dL_law_579 : decode cL_law 579 = .ok (.iconst 0, 1) := by decide +kernel
theorem dL_law_580 : decode cL_law 580 = .ok (.ireturn, 1) := by decide +kernel
theorem dL_law_581 : decode cL_law 581 = .ok (.goto 1520, 3) := by decide +kernel
theorem dL_law_584 : decode cL_law 584 = .ok (.aload_n 1, 1) := by decide +kernel
theorem dL_law_585 : decode cL_law 585 = .ok (.aload_n 0, 1) := by decide +kernel
theorem dL_law_586 : decode cL_law 586 = .ok (.iload 4, 2) := by decide +kernel
theorem dL_law_588 : decode cL_law 588 = .ok (.iconst 1, 1) := by decide +kernel
theorem dL_law_589 : decode cL_law 589 = .ok (.iadd, 1) := by decide +kernel
theorem dL_law_590 : decode cL_law 590 = .ok (.iaload, 1) := by decide +kernel
theorem dL_law_591 : decode cL_law 591 = .ok (.aload_n 0, 1) := by decide +kernel
theorem dL_law_592 : decode cL_law 592 = .ok (.iload 4, 2) := by decide +kernel
theorem dL_law_594 : decode cL_law 594 = .ok (.iconst 2, 1) := by decide +kernel
theorem dL_law_595 : decode cL_law 595 = .ok (.iadd, 1) := by decide +kernel
theorem dL_law_596 : decode cL_law 596 = .ok (.iaload, 1) := by decide +kernel
theorem dL_law_597 : decode cL_law 597 = .ok (.aload_n 3, 1) := by decide +kernel
theorem dL_law_598 : decode cL_law 598 = .ok (.invokestatic 138, 3) := by decide +kernel
theorem dL_law_601 : decode cL_law 601 = .ok (.istore 5, 2) := by decide +kernel
theorem dL_law_603 : decode cL_law 603 = .ok (.aload_n 2, 1) := by decide +kernel
theorem dL_law_604 : decode cL_law 604 = .ok (.aload_n 0, 1) := by decide +kernel
theorem dL_law_605 : decode cL_law 605 = .ok (.iload 4, 2) := by decide +kernel
theorem dL_law_607 : decode cL_law 607 = .ok (.iconst 1, 1) := by decide +kernel
theorem dL_law_608 : decode cL_law 608 = .ok (.iadd, 1) := by decide +kernel
theorem dL_law_609 : decode cL_law 609 = .ok (.iaload, 1) := by decide +kernel
theorem dL_law_610 : decode cL_law 610 = .ok (.aload_n 0, 1) := by decide +kernel
theorem dL_law_611 : decode cL_law 611 = .ok (.iload 4, 2) := by decide +kernel
theorem dL_law_613 : decode cL_law 613 = .ok (.iconst 2, 1) := by decide +kernel
theorem dL_law_614 : decode cL_law 614 = .ok (.iadd, 1) := by decide +kernel
theorem dL_law_615 : decode cL_law 615 = .ok (.iaload, 1) := by decide +kernel
theorem dL_law_616 : decode cL_law 616 = .ok (.invokevirtual 140, 3) := by decide +kernel
theorem dL_law_619 : decode cL_law 619 = .ok (.istore 6, 2) := by decide +kernel
theorem dL_law_621 : decode cL_law 621 = .ok (.aload_n 2, 1) := by decide +kernel
theorem dL_law_622 : decode cL_law 622 = .ok (.invokevirtual 117, 3) := by decide +kernel
theorem dL_law_625 : decode cL_law 625 = .ok (.iload 5, 2) := by decide +kernel
theorem dL_law_627 : decode cL_law 627 = .ok (.if_icmp .eq 5, 3) := by decide +kernel
theorem dL_law_630 : decode cL_law 630 = .ok (.iconst 0, 1) := by decide +kernel
theorem dL_law_631 : decode cL_law 631 = .ok (.ireturn, 1) := by decide +kernel
theorem dL_law_632 : decode cL_law 632 = .ok (.iload 5, 2) := by decide +kernel
theorem dL_law_634 : decode cL_law 634 = .ok (.ifCond .ne 15, 3) := by decide +kernel
theorem dL_law_637 : decode cL_law 637 = .ok (.aload_n 3, 1) := by decide +kernel
theorem dL_law_638 : decode cL_law 638 = .ok (.iconst 0, 1) := by decide +kernel
theorem dL_law_639 : decode cL_law 639 = .ok (.laload, 1) := by decide +kernel
theorem dL_law_640 : decode cL_law 640 = .ok (.iload 6, 2) := by decide +kernel
theorem dL_law_642 : decode cL_law 642 = .ok (.i2l, 1) := by decide +kernel
theorem dL_law_643 : decode cL_law 643 = .ok (.lcmp, 1) := by decide +kernel
theorem dL_law_644 : decode cL_law 644 = .ok (.ifCond .eq 5, 3) := by decide +kernel
theorem dL_law_647 : decode cL_law 647 = .ok (.iconst 0, 1) := by decide +kernel
theorem dL_law_648 : decode cL_law 648 = .ok (.ireturn, 1) := by decide +kernel
theorem dL_law_649 : decode cL_law 649 = .ok (.goto 1452, 3) := by decide +kernel
theorem dL_law_652 : decode cL_law 652 = .ok (.aload_n 1, 1) := by decide +kernel
theorem dL_law_653 : decode cL_law 653 = .ok (.aload_n 0, 1) := by decide +kernel
theorem dL_law_654 : decode cL_law 654 = .ok (.iload 4, 2) := by decide +kernel
theorem dL_law_656 : decode cL_law 656 = .ok (.iconst 1, 1) := by decide +kernel
theorem dL_law_657 : decode cL_law 657 = .ok (.iadd, 1) := by decide +kernel
theorem dL_law_658 : decode cL_law 658 = .ok (.iaload, 1) := by decide +kernel
theorem dL_law_659 : decode cL_law 659 = .ok (.aload_n 3, 1) := by decide +kernel
theorem dL_law_660 : decode cL_law 660 = .ok (.invokestatic 141, 3) := by decide +kernel
theorem dL_law_663 : decode cL_law 663 = .ok (.istore 5, 2) := by decide +kernel
theorem dL_law_665 : decode cL_law 665 = .ok (.aload_n 2, 1) := by decide +kernel
theorem dL_law_666 : decode cL_law 666 = .ok (.aload_n 0, 1) := by decide +kernel
theorem dL_law_667 : decode cL_law 667 = .ok (.iload 4, 2) := by decide +kernel
theorem dL_law_669 : decode cL_law 669 = .ok (.iconst 1, 1) := by decide +kernel
theorem dL_law_670 : decode cL_law 670 = .ok (.iadd, 1) := by decide +kernel
theorem dL_law_671 : decode cL_law 671 = .ok (.iaload, 1) := by decide +kernel
theorem dL_law_672 : decode cL_law 672 = .ok (.invokevirtual 143, 3) := by decide +kernel
theorem dL_law_675 : decode cL_law 675 = .ok (.istore 6, 2) := by decide +kernel
theorem dL_law_677 : decode cL_law 677 = .ok (.aload_n 2, 1) := by decide +kernel
theorem dL_law_678 : decode cL_law 678 = .ok (.invokevirtual 117, 3) := by decide +kernel
theorem dL_law_681 : decode cL_law 681 = .ok (.iload 5, 2) := by decide +kernel
theorem dL_law_683 : decode cL_law 683 = .ok (.if_icmp .eq 5, 3) := by decide +kernel
theorem dL_law_686 : decode cL_law 686 = .ok (.iconst 0, 1) := by decide +kernel
theorem dL_law_687 : decode cL_law 687 = .ok (.ireturn, 1) := by decide +kernel
theorem dL_law_688 : decode cL_law 688 = .ok (.iload 5, 2) := by decide +kernel
theorem dL_law_690 : decode cL_law 690 = .ok (.ifCond .ne 15, 3) := by decide +kernel
theorem dL_law_693 : decode cL_law 693 = .ok (.aload_n 3, 1) := by decide +kernel
theorem dL_law_694 : decode cL_law 694 = .ok (.iconst 0, 1) := by decide +kernel
theorem dL_law_695 : decode cL_law 695 = .ok (.laload, 1) := by decide +kernel
theorem dL_law_696 : decode cL_law 696 = .ok (.iload 6, 2) := by decide +kernel
theorem dL_law_698 : decode cL_law 698 = .ok (.i2l, 1) := by decide +kernel
theorem dL_law_699 : decode cL_law 699 = .ok (.lcmp, 1) := by decide +kernel
theorem dL_law_700 : decode cL_law 700 = .ok (.ifCond .eq 5, 3) := by decide +kernel
theorem dL_law_703 : decode cL_law 703 = .ok (.iconst 0, 1) := by decide +kernel
theorem dL_law_704 : decode cL_law 704 = .ok (.ireturn, 1) := by decide +kernel
theorem dL_law_705 : decode cL_law 705 = .ok (.goto 1396, 3) := by decide +kernel
theorem dL_law_708 : decode cL_law 708 = .ok (.aload_n 1, 1) := by decide +kernel
theorem dL_law_709 : decode cL_law 709 = .ok (.aload_n 0, 1) := by decide +kernel
theorem dL_law_710 : decode cL_law 710 = .ok (.iload 4, 2) := by decide +kernel
theorem dL_law_712 : decode cL_law 712 = .ok (.iconst 1, 1) := by decide +kernel
theorem dL_law_713 : decode cL_law 713 = .ok (.iadd, 1) := by decide +kernel
theorem dL_law_714 : decode cL_law 714 = .ok (.iaload, 1) := by decide +kernel
theorem dL_law_715 : decode cL_law 715 = .ok (.aload_n 3, 1) := by decide +kernel
theorem dL_law_716 : decode cL_law 716 = .ok (.invokestatic 144, 3) := by decide +kernel
theorem dL_law_719 : decode cL_law 719 = .ok (.istore 5, 2) := by decide +kernel
theorem dL_law_721 : decode cL_law 721 = .ok (.aload_n 2, 1) := by decide +kernel
theorem dL_law_722 : decode cL_law 722 = .ok (.aload_n 0, 1) := by decide +kernel
theorem dL_law_723 : decode cL_law 723 = .ok (.iload 4, 2) := by decide +kernel
theorem dL_law_725 : decode cL_law 725 = .ok (.iconst 1, 1) := by decide +kernel
theorem dL_law_726 : decode cL_law 726 = .ok (.iadd, 1) := by decide +kernel
theorem dL_law_727 : decode cL_law 727 = .ok (.iaload, 1) := by decide +kernel
theorem dL_law_728 : decode cL_law 728 = .ok (.invokevirtual 146, 3) := by decide +kernel
theorem dL_law_731 : decode cL_law 731 = .ok (.istore 6, 2) := by decide +kernel
theorem dL_law_733 : decode cL_law 733 = .ok (.aload_n 2, 1) := by decide +kernel
theorem dL_law_734 : decode cL_law 734 = .ok (.invokevirtual 117, 3) := by decide +kernel
theorem dL_law_737 : decode cL_law 737 = .ok (.iload 5, 2) := by decide +kernel
theorem dL_law_739 : decode cL_law 739 = .ok (.if_icmp .eq 5, 3) := by decide +kernel
theorem dL_law_742 : decode cL_law 742 = .ok (.iconst 0, 1) := by decide +kernel
theorem dL_law_743 : decode cL_law 743 = .ok (.ireturn, 1) := by decide +kernel
theorem dL_law_744 : decode cL_law 744 = .ok (.iload 5, 2) := by decide +kernel
theorem dL_law_746 : decode cL_law 746 = .ok (.ifCond .ne 15, 3) := by decide +kernel
theorem dL_law_749 : decode cL_law 749 = .ok (.aload_n 3, 1) := by decide +kernel
theorem dL_law_750 : decode cL_law 750 = .ok (.iconst 0, 1) := by decide +kernel
theorem dL_law_751 : decode cL_law 751 = .ok (.laload, 1) := by decide +kernel
theorem dL_law_752 : decode cL_law 752 = .ok (.iload 6, 2) := by decide +kernel
theorem dL_law_754 : decode cL_law 754 = .ok (.i2l, 1) := by decide +kernel
theorem dL_law_755 : decode cL_law 755 = .ok (.lcmp, 1) := by decide +kernel
theorem dL_law_756 : decode cL_law 756 = .ok (.ifCond .eq 5, 3) := by decide +kernel
theorem dL_law_759 : decode cL_law 759 = .ok (.iconst 0, 1) := by decide +kernel
theorem dL_law_760 : decode cL_law 760 = .ok (.ireturn, 1) := by decide +kernel
theorem dL_law_761 : decode cL_law 761 = .ok (.goto 1340, 3) := by decide +kernel
theorem dL_law_764 : decode cL_law 764 = .ok (.aload_n 1, 1) := by decide +kernel
theorem dL_law_765 : decode cL_law 765 = .ok (.aload_n 0, 1) := by decide +kernel
theorem dL_law_766 : decode cL_law 766 = .ok (.iload 4, 2) := by decide +kernel
theorem dL_law_768 : decode cL_law 768 = .ok (.iconst 1, 1) := by decide +kernel
theorem dL_law_769 : decode cL_law 769 = .ok (.iadd, 1) := by decide +kernel
theorem dL_law_770 : decode cL_law 770 = .ok (.iaload, 1) := by decide +kernel
theorem dL_law_771 : decode cL_law 771 = .ok (.aload_n 3, 1) := by decide +kernel
theorem dL_law_772 : decode cL_law 772 = .ok (.invokestatic 147, 3) := by decide +kernel
theorem dL_law_775 : decode cL_law 775 = .ok (.istore 5, 2) := by decide +kernel
theorem dL_law_777 : decode cL_law 777 = .ok (.aload_n 2, 1) := by decide +kernel
theorem dL_law_778 : decode cL_law 778 = .ok (.aload_n 0, 1) := by decide +kernel
theorem dL_law_779 : decode cL_law 779 = .ok (.iload 4, 2) := by decide +kernel
theorem dL_law_781 : decode cL_law 781 = .ok (.iconst 1, 1) := by decide +kernel
theorem dL_law_782 : decode cL_law 782 = .ok (.iadd, 1) := by decide +kernel
theorem dL_law_783 : decode cL_law 783 = .ok (.iaload, 1) := by decide +kernel
theorem dL_law_784 : decode cL_law 784 = .ok (.invokevirtual 149, 3) := by decide +kernel
theorem dL_law_787 : decode cL_law 787 = .ok (.istore 6, 2) := by decide +kernel
theorem dL_law_789 : decode cL_law 789 = .ok (.aload_n 2, 1) := by decide +kernel
theorem dL_law_790 : decode cL_law 790 = .ok (.invokevirtual 117, 3) := by decide +kernel
theorem dL_law_793 : decode cL_law 793 = .ok (.iload 5, 2) := by decide +kernel
theorem dL_law_795 : decode cL_law 795 = .ok (.if_icmp .eq 5, 3) := by decide +kernel
theorem dL_law_798 : decode cL_law 798 = .ok (.iconst 0, 1) := by decide +kernel
theorem dL_law_799 : decode cL_law 799 = .ok (.ireturn, 1) := by decide +kernel
theorem dL_law_800 : decode cL_law 800 = .ok (.iload 5, 2) := by decide +kernel
theorem dL_law_802 : decode cL_law 802 = .ok (.ifCond .ne 15, 3) := by decide +kernel
theorem dL_law_805 : decode cL_law 805 = .ok (.aload_n 3, 1) := by decide +kernel
theorem dL_law_806 : decode cL_law 806 = .ok (.iconst 0, 1) := by decide +kernel
theorem dL_law_807 : decode cL_law 807 = .ok (.laload, 1) := by decide +kernel
theorem dL_law_808 : decode cL_law 808 = .ok (.iload 6, 2) := by decide +kernel
theorem dL_law_810 : decode cL_law 810 = .ok (.i2l, 1) := by decide +kernel
theorem dL_law_811 : decode cL_law 811 = .ok (.lcmp, 1) := by decide +kernel
theorem dL_law_812 : decode cL_law 812 = .ok (.ifCond .eq 5, 3) := by decide +kernel
theorem dL_law_815 : decode cL_law 815 = .ok (.iconst 0, 1) := by decide +kernel
theorem dL_law_816 : decode cL_law 816 = .ok (.ireturn, 1) := by decide +kernel
theorem dL_law_817 : decode cL_law 817 = .ok (.goto 1284, 3) := by decide +kernel
theorem dL_law_820 : decode cL_law 820 = .ok (.aload_n 1, 1) := by decide +kernel
theorem dL_law_821 : decode cL_law 821 = .ok (.aload_n 0, 1) := by decide +kernel
theorem dL_law_822 : decode cL_law 822 = .ok (.iload 4, 2) := by decide +kernel
theorem dL_law_824 : decode cL_law 824 = .ok (.iconst 1, 1) := by decide +kernel
theorem dL_law_825 : decode cL_law 825 = .ok (.iadd, 1) := by decide +kernel
theorem dL_law_826 : decode cL_law 826 = .ok (.iaload, 1) := by decide +kernel
theorem dL_law_827 : decode cL_law 827 = .ok (.aload_n 3, 1) := by decide +kernel
theorem dL_law_828 : decode cL_law 828 = .ok (.invokestatic 150, 3) := by decide +kernel
theorem dL_law_831 : decode cL_law 831 = .ok (.istore 5, 2) := by decide +kernel
theorem dL_law_833 : decode cL_law 833 = .ok (.aload_n 2, 1) := by decide +kernel
theorem dL_law_834 : decode cL_law 834 = .ok (.aload_n 0, 1) := by decide +kernel
theorem dL_law_835 : decode cL_law 835 = .ok (.iload 4, 2) := by decide +kernel
theorem dL_law_837 : decode cL_law 837 = .ok (.iconst 1, 1) := by decide +kernel
theorem dL_law_838 : decode cL_law 838 = .ok (.iadd, 1) := by decide +kernel
theorem dL_law_839 : decode cL_law 839 = .ok (.iaload, 1) := by decide +kernel
theorem dL_law_840 : decode cL_law 840 = .ok (.invokevirtual 152, 3) := by decide +kernel
theorem dL_law_843 : decode cL_law 843 = .ok (.istore 6, 2) := by decide +kernel
theorem dL_law_845 : decode cL_law 845 = .ok (.aload_n 2, 1) := by decide +kernel
theorem dL_law_846 : decode cL_law 846 = .ok (.invokevirtual 117, 3) := by decide +kernel
theorem dL_law_849 : decode cL_law 849 = .ok (.iload 5, 2) := by decide +kernel
theorem dL_law_851 : decode cL_law 851 = .ok (.if_icmp .eq 5, 3) := by decide +kernel
theorem dL_law_854 : decode cL_law 854 = .ok (.iconst 0, 1) := by decide +kernel
theorem dL_law_855 : decode cL_law 855 = .ok (.ireturn, 1) := by decide +kernel
theorem dL_law_856 : decode cL_law 856 = .ok (.iload 5, 2) := by decide +kernel
theorem dL_law_858 : decode cL_law 858 = .ok (.ifCond .ne 15, 3) := by decide +kernel
theorem dL_law_861 : decode cL_law 861 = .ok (.aload_n 3, 1) := by decide +kernel
theorem dL_law_862 : decode cL_law 862 = .ok (.iconst 0, 1) := by decide +kernel
theorem dL_law_863 : decode cL_law 863 = .ok (.laload, 1) := by decide +kernel
theorem dL_law_864 : decode cL_law 864 = .ok (.iload 6, 2) := by decide +kernel
theorem dL_law_866 : decode cL_law 866 = .ok (.i2l, 1) := by decide +kernel
theorem dL_law_867 : decode cL_law 867 = .ok (.lcmp, 1) := by decide +kernel
theorem dL_law_868 : decode cL_law 868 = .ok (.ifCond .eq 5, 3) := by decide +kernel
theorem dL_law_871 : decode cL_law 871 = .ok (.iconst 0, 1) := by decide +kernel
theorem dL_law_872 : decode cL_law 872 = .ok (.ireturn, 1) := by decide +kernel
theorem dL_law_873 : decode cL_law 873 = .ok (.goto 1228, 3) := by decide +kernel
theorem dL_law_876 : decode cL_law 876 = .ok (.aload_n 1, 1) := by decide +kernel
theorem dL_law_877 : decode cL_law 877 = .ok (.aload_n 0, 1) := by decide +kernel
theorem dL_law_878 : decode cL_law 878 = .ok (.iload 4, 2) := by decide +kernel
theorem dL_law_880 : decode cL_law 880 = .ok (.iconst 1, 1) := by decide +kernel
theorem dL_law_881 : decode cL_law 881 = .ok (.iadd, 1) := by decide +kernel
theorem dL_law_882 : decode cL_law 882 = .ok (.iaload, 1) := by decide +kernel
theorem dL_law_883 : decode cL_law 883 = .ok (.aload_n 3, 1) := by decide +kernel
theorem dL_law_884 : decode cL_law 884 = .ok (.invokestatic 153, 3) := by decide +kernel
theorem dL_law_887 : decode cL_law 887 = .ok (.istore 5, 2) := by decide +kernel
theorem dL_law_889 : decode cL_law 889 = .ok (.aload_n 2, 1) := by decide +kernel
theorem dL_law_890 : decode cL_law 890 = .ok (.aload_n 0, 1) := by decide +kernel
theorem dL_law_891 : decode cL_law 891 = .ok (.iload 4, 2) := by decide +kernel
theorem dL_law_893 : decode cL_law 893 = .ok (.iconst 1, 1) := by decide +kernel
theorem dL_law_894 : decode cL_law 894 = .ok (.iadd, 1) := by decide +kernel
theorem dL_law_895 : decode cL_law 895 = .ok (.iaload, 1) := by decide +kernel
theorem dL_law_896 : decode cL_law 896 = .ok (.invokevirtual 155, 3) := by decide +kernel
theorem dL_law_899 : decode cL_law 899 = .ok (.istore 6, 2) := by decide +kernel
theorem dL_law_901 : decode cL_law 901 = .ok (.aload_n 2, 1) := by decide +kernel
theorem dL_law_902 : decode cL_law 902 = .ok (.invokevirtual 117, 3) := by decide +kernel
theorem dL_law_905 : decode cL_law 905 = .ok (.iload 5, 2) := by decide +kernel
theorem dL_law_907 : decode cL_law 907 = .ok (.if_icmp .eq 5, 3) := by decide +kernel
theorem dL_law_910 : decode cL_law 910 = .ok (.iconst 0, 1) := by decide +kernel
theorem dL_law_911 : decode cL_law 911 = .ok (.ireturn, 1) := by decide +kernel
theorem dL_law_912 : decode cL_law 912 = .ok (.iload 5, 2) := by decide +kernel
theorem dL_law_914 : decode cL_law 914 = .ok (.ifCond .ne 15, 3) := by decide +kernel
theorem dL_law_917 : decode cL_law 917 = .ok (.aload_n 3, 1) := by decide +kernel
theorem dL_law_918 : decode cL_law 918 = .ok (.iconst 0, 1) := by decide +kernel
theorem dL_law_919 : decode cL_law 919 = .ok (.laload, 1) := by decide +kernel
theorem dL_law_920 : decode cL_law 920 = .ok (.iload 6, 2) := by decide +kernel
theorem dL_law_922 : decode cL_law 922 = .ok (.i2l, 1) := by decide +kernel
theorem dL_law_923 : decode cL_law 923 = .ok (.lcmp, 1) := by decide +kernel
theorem dL_law_924 : decode cL_law 924 = .ok (.ifCond .eq 5, 3) := by decide +kernel
theorem dL_law_927 : decode cL_law 927 = .ok (.iconst 0, 1) := by decide +kernel
theorem dL_law_928 : decode cL_law 928 = .ok (.ireturn, 1) := by decide +kernel
theorem dL_law_929 : decode cL_law 929 = .ok (.goto 1172, 3) := by decide +kernel
theorem dL_law_932 : decode cL_law 932 = .ok (.aload_n 1, 1) := by decide +kernel
theorem dL_law_933 : decode cL_law 933 = .ok (.aload_n 0, 1) := by decide +kernel
theorem dL_law_934 : decode cL_law 934 = .ok (.iload 4, 2) := by decide +kernel
theorem dL_law_936 : decode cL_law 936 = .ok (.iconst 1, 1) := by decide +kernel
theorem dL_law_937 : decode cL_law 937 = .ok (.iadd, 1) := by decide +kernel
theorem dL_law_938 : decode cL_law 938 = .ok (.iaload, 1) := by decide +kernel
theorem dL_law_939 : decode cL_law 939 = .ok (.aload_n 3, 1) := by decide +kernel
theorem dL_law_940 : decode cL_law 940 = .ok (.invokestatic 156, 3) := by decide +kernel
theorem dL_law_943 : decode cL_law 943 = .ok (.istore 5, 2) := by decide +kernel
theorem dL_law_945 : decode cL_law 945 = .ok (.aload_n 2, 1) := by decide +kernel
theorem dL_law_946 : decode cL_law 946 = .ok (.aload_n 0, 1) := by decide +kernel
theorem dL_law_947 : decode cL_law 947 = .ok (.iload 4, 2) := by decide +kernel
theorem dL_law_949 : decode cL_law 949 = .ok (.iconst 1, 1) := by decide +kernel
theorem dL_law_950 : decode cL_law 950 = .ok (.iadd, 1) := by decide +kernel
theorem dL_law_951 : decode cL_law 951 = .ok (.iaload, 1) := by decide +kernel
theorem dL_law_952 : decode cL_law 952 = .ok (.invokevirtual 158, 3) := by decide +kernel
theorem dL_law_955 : decode cL_law 955 = .ok (.istore 6, 2) := by decide +kernel
theorem dL_law_957 : decode cL_law 957 = .ok (.aload_n 2, 1) := by decide +kernel
theorem dL_law_958 : decode cL_law 958 = .ok (.invokevirtual 117, 3) := by decide +kernel
theorem dL_law_961 : decode cL_law 961 = .ok (.iload 5, 2) := by decide +kernel
theorem dL_law_963 : decode cL_law 963 = .ok (.if_icmp .eq 5, 3) := by decide +kernel
theorem dL_law_966 : decode cL_law 966 = .ok (.iconst 0, 1) := by decide +kernel
theorem dL_law_967 : decode cL_law 967 = .ok (.ireturn, 1) := by decide +kernel
theorem dL_law_968 : decode cL_law 968 = .ok (.iload 5, 2) := by decide +kernel
theorem dL_law_970 : decode cL_law 970 = .ok (.ifCond .ne 15, 3) := by decide +kernel
theorem dL_law_973 : decode cL_law 973 = .ok (.aload_n 3, 1) := by decide +kernel
theorem dL_law_974 : decode cL_law 974 = .ok (.iconst 0, 1) := by decide +kernel
theorem dL_law_975 : decode cL_law 975 = .ok (.laload, 1) := by decide +kernel
theorem dL_law_976 : decode cL_law 976 = .ok (.iload 6, 2) := by decide +kernel
theorem dL_law_978 : decode cL_law 978 = .ok (.i2l, 1) := by decide +kernel
theorem dL_law_979 : decode cL_law 979 = .ok (.lcmp, 1) := by decide +kernel
theorem dL_law_980 : decode cL_law 980 = .ok (.ifCond .eq 5, 3) := by decide +kernel
theorem dL_law_983 : decode cL_law 983 = .ok (.iconst 0, 1) := by decide +kernel
theorem dL_law_984 : decode cL_law 984 = .ok (.ireturn, 1) := by decide +kernel
theorem dL_law_985 : decode cL_law 985 = .ok (.goto 1116, 3) := by decide +kernel
theorem dL_law_988 : decode cL_law 988 = .ok (.aload_n 1, 1) := by decide +kernel
theorem dL_law_989 : decode cL_law 989 = .ok (.aload_n 0, 1) := by decide +kernel
theorem dL_law_990 : decode cL_law 990 = .ok (.iload 4, 2) := by decide +kernel
theorem dL_law_992 : decode cL_law 992 = .ok (.iconst 1, 1) := by decide +kernel
theorem dL_law_993 : decode cL_law 993 = .ok (.iadd, 1) := by decide +kernel
theorem dL_law_994 : decode cL_law 994 = .ok (.iaload, 1) := by decide +kernel
theorem dL_law_995 : decode cL_law 995 = .ok (.aload_n 3, 1) := by decide +kernel
theorem dL_law_996 : decode cL_law 996 = .ok (.invokestatic 159, 3) := by decide +kernel
theorem dL_law_999 : decode cL_law 999 = .ok (.istore 5, 2) := by decide +kernel
theorem dL_law_1001 : decode cL_law 1001 = .ok (.aload_n 2, 1) := by decide +kernel
theorem dL_law_1002 : decode cL_law 1002 = .ok (.aload_n 0, 1) := by decide +kernel
theorem dL_law_1003 : decode cL_law 1003 = .ok (.iload 4, 2) := by decide +kernel
theorem dL_law_1005 : decode cL_law 1005 = .ok (.iconst 1, 1) := by decide +kernel
theorem dL_law_1006 : decode cL_law 1006 = .ok (.iadd, 1) := by decide +kernel
theorem dL_law_1007 : decode cL_law 1007 = .ok (.iaload, 1) := by decide +kernel
theorem dL_law_1008 : decode cL_law 1008 = .ok (.invokevirtual 161, 3) := by decide +kernel
theorem dL_law_1011 : decode cL_law 1011 = .ok (.istore 6, 2) := by decide +kernel
theorem dL_law_1013 : decode cL_law 1013 = .ok (.aload_n 2, 1) := by decide +kernel
theorem dL_law_1014 : decode cL_law 1014 = .ok (.invokevirtual 117, 3) := by decide +kernel
theorem dL_law_1017 : decode cL_law 1017 = .ok (.iload 5, 2) := by decide +kernel
theorem dL_law_1019 : decode cL_law 1019 = .ok (.if_icmp .eq 5, 3) := by decide +kernel
theorem dL_law_1022 : decode cL_law 1022 = .ok (.iconst 0, 1) := by decide +kernel
theorem dL_law_1023 : decode cL_law 1023 = .ok (.ireturn, 1) := by decide +kernel
theorem dL_law_1024 : decode cL_law 1024 = .ok (.iload 5, 2) := by decide +kernel
theorem dL_law_1026 : decode cL_law 1026 = .ok (.ifCond .ne 15, 3) := by decide +kernel
theorem dL_law_1029 : decode cL_law 1029 = .ok (.aload_n 3, 1) := by decide +kernel
theorem dL_law_1030 : decode cL_law 1030 = .ok (.iconst 0, 1) := by decide +kernel
theorem dL_law_1031 : decode cL_law 1031 = .ok (.laload, 1) := by decide +kernel
theorem dL_law_1032 : decode cL_law 1032 = .ok (.iload 6, 2) := by decide +kernel
theorem dL_law_1034 : decode cL_law 1034 = .ok (.i2l, 1) := by decide +kernel
theorem dL_law_1035 : decode cL_law 1035 = .ok (.lcmp, 1) := by decide +kernel
theorem dL_law_1036 : decode cL_law 1036 = .ok (.ifCond .eq 5, 3) := by decide +kernel
theorem dL_law_1039 : decode cL_law 1039 = .ok (.iconst 0, 1) := by decide +kernel
theorem dL_law_1040 : decode cL_law 1040 = .ok (.ireturn, 1) := by decide +kernel
theorem dL_law_1041 : decode cL_law 1041 = .ok (.goto 1060, 3) := by decide +kernel
theorem dL_law_1044 : decode cL_law 1044 = .ok (.aload_n 1, 1) := by decide +kernel
theorem dL_law_1045 : decode cL_law 1045 = .ok (.aload_n 0, 1) := by decide +kernel
theorem dL_law_1046 : decode cL_law 1046 = .ok (.iload 4, 2) := by decide +kernel
theorem dL_law_1048 : decode cL_law 1048 = .ok (.iconst 1, 1) := by decide +kernel
theorem dL_law_1049 : decode cL_law 1049 = .ok (.iadd, 1) := by decide +kernel
theorem dL_law_1050 : decode cL_law 1050 = .ok (.iaload, 1) := by decide +kernel
theorem dL_law_1051 : decode cL_law 1051 = .ok (.aload_n 3, 1) := by decide +kernel
theorem dL_law_1052 : decode cL_law 1052 = .ok (.invokestatic 162, 3) := by decide +kernel
theorem dL_law_1055 : decode cL_law 1055 = .ok (.istore 5, 2) := by decide +kernel
theorem dL_law_1057 : decode cL_law 1057 = .ok (.aload_n 2, 1) := by decide +kernel
theorem dL_law_1058 : decode cL_law 1058 = .ok (.aload_n 0, 1) := by decide +kernel
theorem dL_law_1059 : decode cL_law 1059 = .ok (.iload 4, 2) := by decide +kernel
theorem dL_law_1061 : decode cL_law 1061 = .ok (.iconst 1, 1) := by decide +kernel
theorem dL_law_1062 : decode cL_law 1062 = .ok (.iadd, 1) := by decide +kernel
theorem dL_law_1063 : decode cL_law 1063 = .ok (.iaload, 1) := by decide +kernel
theorem dL_law_1064 : decode cL_law 1064 = .ok (.invokevirtual 164, 3) := by decide +kernel
theorem dL_law_1067 : decode cL_law 1067 = .ok (.istore 6, 2) := by decide +kernel
theorem dL_law_1069 : decode cL_law 1069 = .ok (.aload_n 2, 1) := by decide +kernel
theorem dL_law_1070 : decode cL_law 1070 = .ok (.invokevirtual 117, 3) := by decide +kernel
theorem dL_law_1073 : decode cL_law 1073 = .ok (.iload 5, 2) := by decide +kernel
theorem dL_law_1075 : decode cL_law 1075 = .ok (.if_icmp .eq 5, 3) := by decide +kernel
theorem dL_law_1078 : decode cL_law 1078 = .ok (.iconst 0, 1) := by decide +kernel
theorem dL_law_1079 : decode cL_law 1079 = .ok (.ireturn, 1) := by decide +kernel
theorem dL_law_1080 : decode cL_law 1080 = .ok (.iload 5, 2) := by decide +kernel
theorem dL_law_1082 : decode cL_law 1082 = .ok (.ifCond .ne 15, 3) := by decide +kernel
theorem dL_law_1085 : decode cL_law 1085 = .ok (.aload_n 3, 1) := by decide +kernel
theorem dL_law_1086 : decode cL_law 1086 = .ok (.iconst 0, 1) := by decide +kernel
theorem dL_law_1087 : decode cL_law 1087 = .ok (.laload, 1) := by decide +kernel
theorem dL_law_1088 : decode cL_law 1088 = .ok (.iload 6, 2) := by decide +kernel
theorem dL_law_1090 : decode cL_law 1090 = .ok (.i2l, 1) := by decide +kernel
theorem dL_law_1091 : decode cL_law 1091 = .ok (.lcmp, 1) := by decide +kernel
theorem dL_law_1092 : decode cL_law 1092 = .ok (.ifCond .eq 5, 3) := by decide +kernel
theorem dL_law_1095 : decode cL_law 1095 = .ok (.iconst 0, 1) := by decide +kernel
theorem dL_law_1096 : decode cL_law 1096 = .ok (.ireturn, 1) := by decide +kernel
theorem dL_law_1097 : decode cL_law 1097 = .ok (.goto 1004, 3) := by decide +kernel
theorem dL_law_1100 : decode cL_law 1100 = .ok (.aload_n 1, 1) := by decide +kernel
theorem dL_law_1101 : decode cL_law 1101 = .ok (.aload_n 0, 1) := by decide +kernel
theorem dL_law_1102 : decode cL_law 1102 = .ok (.iload 4, 2) := by decide +kernel
theorem dL_law_1104 : decode cL_law 1104 = .ok (.iconst 1, 1) := by decide +kernel
theorem dL_law_1105 : decode cL_law 1105 = .ok (.iadd, 1) := by decide +kernel
theorem dL_law_1106 : decode cL_law 1106 = .ok (.iaload, 1) := by decide +kernel
theorem dL_law_1107 : decode cL_law 1107 = .ok (.aload_n 3, 1) := by decide +kernel
theorem dL_law_1108 : decode cL_law 1108 = .ok (.invokestatic 165, 3) := by decide +kernel
theorem dL_law_1111 : decode cL_law 1111 = .ok (.istore 5, 2) := by decide +kernel
theorem dL_law_1113 : decode cL_law 1113 = .ok (.aload_n 2, 1) := by decide +kernel
theorem dL_law_1114 : decode cL_law 1114 = .ok (.aload_n 0, 1) := by decide +kernel
theorem dL_law_1115 : decode cL_law 1115 = .ok (.iload 4, 2) := by decide +kernel
theorem dL_law_1117 : decode cL_law 1117 = .ok (.iconst 1, 1) := by decide +kernel
theorem dL_law_1118 : decode cL_law 1118 = .ok (.iadd, 1) := by decide +kernel
theorem dL_law_1119 : decode cL_law 1119 = .ok (.iaload, 1) := by decide +kernel
theorem dL_law_1120 : decode cL_law 1120 = .ok (.invokevirtual 167, 3) := by decide +kernel
theorem dL_law_1123 : decode cL_law 1123 = .ok (.istore 6, 2) := by decide +kernel
theorem dL_law_1125 : decode cL_law 1125 = .ok (.aload_n 2, 1) := by decide +kernel
theorem dL_law_1126 : decode cL_law 1126 = .ok (.invokevirtual 117, 3) := by decide +kernel
theorem dL_law_1129 : decode cL_law 1129 = .ok (.iload 5, 2) := by decide +kernel
theorem dL_law_1131 : decode cL_law 1131 = .ok (.if_icmp .eq 5, 3) := by decide +kernel
theorem dL_law_1134 : decode cL_law 1134 = .ok (.iconst 0, 1) := by decide +kernel
theorem dL_law_1135 : decode cL_law 1135 = .ok (.ireturn, 1) := by decide +kernel
theorem dL_law_1136 : decode cL_law 1136 = .ok (.iload 5, 2) := by decide +kernel
theorem dL_law_1138 : decode cL_law 1138 = .ok (.ifCond .ne 15, 3) := by decide +kernel
theorem dL_law_1141 : decode cL_law 1141 = .ok (.aload_n 3, 1) := by decide +kernel
theorem dL_law_1142 : decode cL_law 1142 = .ok (.iconst 0, 1) := by decide +kernel
theorem dL_law_1143 : decode cL_law 1143 = .ok (.laload, 1) := by decide +kernel
theorem dL_law_1144 : decode cL_law 1144 = .ok (.iload 6, 2) := by decide +kernel
theorem dL_law_1146 : decode cL_law 1146 = .ok (.i2l, 1) := by decide +kernel
theorem dL_law_1147 : decode cL_law 1147 = .ok (.lcmp, 1) := by decide +kernel
theorem dL_law_1148 : decode cL_law 1148 = .ok (.ifCond .eq 5, 3) := by decide +kernel
theorem dL_law_1151 : decode cL_law 1151 = .ok (.iconst 0, 1) := by decide +kernel
theorem dL_law_1152 : decode cL_law 1152 = .ok (.ireturn, 1) := by decide +kernel
theorem dL_law_1153 : decode cL_law 1153 = .ok (.goto 948, 3) := by decide +kernel
theorem dL_law_1156 : decode cL_law 1156 = .ok (.aload_n 1, 1) := by decide +kernel
theorem dL_law_1157 : decode cL_law 1157 = .ok (.aload_n 0, 1) := by decide +kernel
theorem dL_law_1158 : decode cL_law 1158 = .ok (.iload 4, 2) := by decide +kernel
theorem dL_law_1160 : decode cL_law 1160 = .ok (.iconst 1, 1) := by decide +kernel
theorem dL_law_1161 : decode cL_law 1161 = .ok (.iadd, 1) := by decide +kernel
theorem dL_law_1162 : decode cL_law 1162 = .ok (.iaload, 1) := by decide +kernel
theorem dL_law_1163 : decode cL_law 1163 = .ok (.aload_n 3, 1) := by decide +kernel
theorem dL_law_1164 : decode cL_law 1164 = .ok (.invokestatic 168, 3) := by decide +kernel
theorem dL_law_1167 : decode cL_law 1167 = .ok (.istore 5, 2) := by decide +kernel
theorem dL_law_1169 : decode cL_law 1169 = .ok (.aload_n 2, 1) := by decide +kernel
theorem dL_law_1170 : decode cL_law 1170 = .ok (.aload_n 0, 1) := by decide +kernel
theorem dL_law_1171 : decode cL_law 1171 = .ok (.iload 4, 2) := by decide +kernel
theorem dL_law_1173 : decode cL_law 1173 = .ok (.iconst 1, 1) := by decide +kernel
theorem dL_law_1174 : decode cL_law 1174 = .ok (.iadd, 1) := by decide +kernel
theorem dL_law_1175 : decode cL_law 1175 = .ok (.iaload, 1) := by decide +kernel
theorem dL_law_1176 : decode cL_law 1176 = .ok (.invokevirtual 170, 3) := by decide +kernel
theorem dL_law_1179 : decode cL_law 1179 = .ok (.istore 6, 2) := by decide +kernel
theorem dL_law_1181 : decode cL_law 1181 = .ok (.aload_n 2, 1) := by decide +kernel
theorem dL_law_1182 : decode cL_law 1182 = .ok (.invokevirtual 117, 3) := by decide +kernel
theorem dL_law_1185 : decode cL_law 1185 = .ok (.iload 5, 2) := by decide +kernel
theorem dL_law_1187 : decode cL_law 1187 = .ok (.if_icmp .eq 5, 3) := by decide +kernel
theorem dL_law_1190 : decode cL_law 1190 = .ok (.iconst 0, 1) := by decide +kernel
theorem dL_law_1191 : decode cL_law 1191 = .ok (.ireturn, 1) := by decide +kernel
theorem dL_law_1192 : decode cL_law 1192 = .ok (.iload 5, 2) := by decide +kernel
theorem dL_law_1194 : decode cL_law 1194 = .ok (.ifCond .ne 22, 3) := by decide +kernel
theorem dL_law_1197 : decode cL_law 1197 = .ok (.aload_n 3, 1) := by decide +kernel
theorem dL_law_1198 : decode cL_law 1198 = .ok (.iconst 0, 1) := by decide +kernel
theorem dL_law_1199 : decode cL_law 1199 = .ok (.laload, 1) := by decide +kernel
theorem dL_law_1200 : decode cL_law 1200 = .ok (.iload 6, 2) := by decide +kernel
theorem dL_law_1202 : decode cL_law 1202 = .ok (.ifCond .eq 7, 3) := by decide +kernel
theorem dL_law_1205 : decode cL_law 1205 = .ok (.lconst 1, 1) := by decide +kernel
theorem dL_law_1206 : decode cL_law 1206 = .ok (.goto 4, 3) := by decide +kernel
theorem dL_law_1209 : decode cL_law 1209 = .ok (.lconst 0, 1) := by decide +kernel
theorem dL_law_1210 : decode cL_law 1210 = .ok (.lcmp, 1) := by decide +kernel
theorem dL_law_1211 : decode cL_law 1211 = .ok (.ifCond .eq 5, 3) := by decide +kernel
theorem dL_law_1214 : decode cL_law 1214 = .ok (.iconst 0, 1) := by decide +kernel
theorem dL_law_1215 : decode cL_law 1215 = .ok (.ireturn, 1) := by decide +kernel
theorem dL_law_1216 : decode cL_law 1216 = .ok (.goto 885, 3) := by decide +kernel
theorem dL_law_1219 : decode cL_law 1219 = .ok (.aload_n 1, 1) := by decide +kernel
theorem dL_law_1220 : decode cL_law 1220 = .ok (.aload_n 0, 1) := by decide +kernel
theorem dL_law_1221 : decode cL_law 1221 = .ok (.iload 4, 2) := by decide +kernel
theorem dL_law_1223 : decode cL_law 1223 = .ok (.iconst 1, 1) := by decide +kernel
theorem dL_law_1224 : decode cL_law 1224 = .ok (.iadd, 1) := by decide +kernel
theorem dL_law_1225 : decode cL_law 1225 = .ok (.iaload, 1) := by decide +kernel
theorem dL_law_1226 : decode cL_law 1226 = .ok (.aload_n 3, 1) := by decide +kernel
theorem dL_law_1227 : decode cL_law 1227 = .ok (.invokestatic 171, 3) := by decide +kernel
theorem dL_law_1230 : decode cL_law 1230 = .ok (.istore 5, 2) := by decide +kernel
theorem dL_law_1232 : decode cL_law 1232 = .ok (.aload_n 2, 1) := by decide +kernel
theorem dL_law_1233 : decode cL_law 1233 = .ok (.aload_n 0, 1) := by decide +kernel
theorem dL_law_1234 : decode cL_law 1234 = .ok (.iload 4, 2) := by decide +kernel
theorem dL_law_1236 : decode cL_law 1236 = .ok (.iconst 1, 1) := by decide +kernel
theorem dL_law_1237 : decode cL_law 1237 = .ok (.iadd, 1) := by decide +kernel
theorem dL_law_1238 : decode cL_law 1238 = .ok (.iaload, 1) := by decide +kernel
theorem dL_law_1239 : decode cL_law 1239 = .ok (.invokevirtual 173, 3) := by decide +kernel
theorem dL_law_1242 : decode cL_law 1242 = .ok (.istore 6, 2) := by decide +kernel
theorem dL_law_1244 : decode cL_law 1244 = .ok (.aload_n 2, 1) := by decide +kernel
theorem dL_law_1245 : decode cL_law 1245 = .ok (.invokevirtual 117, 3) := by decide +kernel
theorem dL_law_1248 : decode cL_law 1248 = .ok (.iload 5, 2) := by decide +kernel
theorem dL_law_1250 : decode cL_law 1250 = .ok (.if_icmp .eq 5, 3) := by decide +kernel
theorem dL_law_1253 : decode cL_law 1253 = .ok (.iconst 0, 1) := by decide +kernel
theorem dL_law_1254 : decode cL_law 1254 = .ok (.ireturn, 1) := by decide +kernel
theorem dL_law_1255 : decode cL_law 1255 = .ok (.iload 5, 2) := by decide +kernel
theorem dL_law_1257 : decode cL_law 1257 = .ok (.ifCond .ne 22, 3) := by decide +kernel
theorem dL_law_1260 : decode cL_law 1260 = .ok (.aload_n 3, 1) := by decide +kernel
theorem dL_law_1261 : decode cL_law 1261 = .ok (.iconst 0, 1) := by decide +kernel
theorem dL_law_1262 : decode cL_law 1262 = .ok (.laload, 1) := by decide +kernel
theorem dL_law_1263 : decode cL_law 1263 = .ok (.iload 6, 2) := by decide +kernel
theorem dL_law_1265 : decode cL_law 1265 = .ok (.ifCond .eq 7, 3) := by decide +kernel
theorem dL_law_1268 : decode cL_law 1268 = .ok (.lconst 1, 1) := by decide +kernel
theorem dL_law_1269 : decode cL_law 1269 = .ok (.goto 4, 3) := by decide +kernel
theorem dL_law_1272 : decode cL_law 1272 = .ok (.lconst 0, 1) := by decide +kernel
theorem dL_law_1273 : decode cL_law 1273 = .ok (.lcmp, 1) := by decide +kernel
theorem dL_law_1274 : decode cL_law 1274 = .ok (.ifCond .eq 5, 3) := by decide +kernel
theorem dL_law_1277 : decode cL_law 1277 = .ok (.iconst 0, 1) := by decide +kernel
theorem dL_law_1278 : decode cL_law 1278 = .ok (.ireturn, 1) := by decide +kernel
theorem dL_law_1279 : decode cL_law 1279 = .ok (.goto 822, 3) := by decide +kernel
theorem dL_law_1282 : decode cL_law 1282 = .ok (.aload_n 1, 1) := by decide +kernel
theorem dL_law_1283 : decode cL_law 1283 = .ok (.aload_n 0, 1) := by decide +kernel
theorem dL_law_1284 : decode cL_law 1284 = .ok (.iload 4, 2) := by decide +kernel
theorem dL_law_1286 : decode cL_law 1286 = .ok (.iconst 1, 1) := by decide +kernel
theorem dL_law_1287 : decode cL_law 1287 = .ok (.iadd, 1) := by decide +kernel
theorem dL_law_1288 : decode cL_law 1288 = .ok (.iaload, 1) := by decide +kernel
theorem dL_law_1289 : decode cL_law 1289 = .ok (.aload_n 3, 1) := by decide +kernel
theorem dL_law_1290 : decode cL_law 1290 = .ok (.invokestatic 174, 3) := by decide +kernel
theorem dL_law_1293 : decode cL_law 1293 = .ok (.istore 5, 2) := by decide +kernel
theorem dL_law_1295 : decode cL_law 1295 = .ok (.aload_n 2, 1) := by decide +kernel
theorem dL_law_1296 : decode cL_law 1296 = .ok (.aload_n 0, 1) := by decide +kernel
theorem dL_law_1297 : decode cL_law 1297 = .ok (.iload 4, 2) := by decide +kernel
theorem dL_law_1299 : decode cL_law 1299 = .ok (.iconst 1, 1) := by decide +kernel
theorem dL_law_1300 : decode cL_law 1300 = .ok (.iadd, 1) := by decide +kernel
theorem dL_law_1301 : decode cL_law 1301 = .ok (.iaload, 1) := by decide +kernel
theorem dL_law_1302 : decode cL_law 1302 = .ok (.invokevirtual 176, 3) := by decide +kernel
theorem dL_law_1305 : decode cL_law 1305 = .ok (.istore 6, 2) := by decide +kernel
theorem dL_law_1307 : decode cL_law 1307 = .ok (.aload_n 2, 1) := by decide +kernel
theorem dL_law_1308 : decode cL_law 1308 = .ok (.invokevirtual 117, 3) := by decide +kernel
theorem dL_law_1311 : decode cL_law 1311 = .ok (.iload 5, 2) := by decide +kernel
theorem dL_law_1313 : decode cL_law 1313 = .ok (.if_icmp .eq 5, 3) := by decide +kernel
theorem dL_law_1316 : decode cL_law 1316 = .ok (.iconst 0, 1) := by decide +kernel
theorem dL_law_1317 : decode cL_law 1317 = .ok (.ireturn, 1) := by decide +kernel
theorem dL_law_1318 : decode cL_law 1318 = .ok (.iload 5, 2) := by decide +kernel
theorem dL_law_1320 : decode cL_law 1320 = .ok (.ifCond .ne 15, 3) := by decide +kernel
theorem dL_law_1323 : decode cL_law 1323 = .ok (.aload_n 3, 1) := by decide +kernel
theorem dL_law_1324 : decode cL_law 1324 = .ok (.iconst 0, 1) := by decide +kernel
theorem dL_law_1325 : decode cL_law 1325 = .ok (.laload, 1) := by decide +kernel
theorem dL_law_1326 : decode cL_law 1326 = .ok (.iload 6, 2) := by decide +kernel
theorem dL_law_1328 : decode cL_law 1328 = .ok (.i2l, 1) := by decide +kernel
theorem dL_law_1329 : decode cL_law 1329 = .ok (.lcmp, 1) := by decide +kernel
theorem dL_law_1330 : decode cL_law 1330 = .ok (.ifCond .eq 5, 3) := by decide +kernel
theorem dL_law_1333 : decode cL_law 1333 = .ok (.iconst 0, 1) := by decide +kernel
theorem dL_law_1334 : decode cL_law 1334 = .ok (.ireturn, 1) := by decide +kernel
theorem dL_law_1335 : decode cL_law 1335 = .ok (.goto 766, 3) := by decide +kernel
theorem dL_law_1338 : decode cL_law 1338 = .ok (.aload_n 1, 1) := by decide +kernel
theorem dL_law_1339 : decode cL_law 1339 = .ok (.aload_n 0, 1) := by decide +kernel
theorem dL_law_1340 : decode cL_law 1340 = .ok (.iload 4, 2) := by decide +kernel
theorem dL_law_1342 : decode cL_law 1342 = .ok (.iconst 1, 1) := by decide +kernel
theorem dL_law_1343 : decode cL_law 1343 = .ok (.iadd, 1) := by decide +kernel
theorem dL_law_1344 : decode cL_law 1344 = .ok (.iaload, 1) := by decide +kernel
theorem dL_law_1345 : decode cL_law 1345 = .ok (.aload_n 3, 1) := by decide +kernel
theorem dL_law_1346 : decode cL_law 1346 = .ok (.invokestatic 177, 3) := by decide +kernel
theorem dL_law_1349 : decode cL_law 1349 = .ok (.istore 5, 2) := by decide +kernel
theorem dL_law_1351 : decode cL_law 1351 = .ok (.aload_n 2, 1) := by decide +kernel
theorem dL_law_1352 : decode cL_law 1352 = .ok (.aload_n 0, 1) := by decide +kernel
theorem dL_law_1353 : decode cL_law 1353 = .ok (.iload 4, 2) := by decide +kernel
theorem dL_law_1355 : decode cL_law 1355 = .ok (.iconst 1, 1) := by decide +kernel
theorem dL_law_1356 : decode cL_law 1356 = .ok (.iadd, 1) := by decide +kernel
theorem dL_law_1357 : decode cL_law 1357 = .ok (.iaload, 1) := by decide +kernel
theorem dL_law_1358 : decode cL_law 1358 = .ok (.invokevirtual 179, 3) := by decide +kernel
theorem dL_law_1361 : decode cL_law 1361 = .ok (.istore 6, 2) := by decide +kernel
theorem dL_law_1363 : decode cL_law 1363 = .ok (.aload_n 2, 1) := by decide +kernel
theorem dL_law_1364 : decode cL_law 1364 = .ok (.invokevirtual 117, 3) := by decide +kernel
theorem dL_law_1367 : decode cL_law 1367 = .ok (.iload 5, 2) := by decide +kernel
theorem dL_law_1369 : decode cL_law 1369 = .ok (.if_icmp .eq 5, 3) := by decide +kernel
theorem dL_law_1372 : decode cL_law 1372 = .ok (.iconst 0, 1) := by decide +kernel
theorem dL_law_1373 : decode cL_law 1373 = .ok (.ireturn, 1) := by decide +kernel
theorem dL_law_1374 : decode cL_law 1374 = .ok (.iload 5, 2) := by decide +kernel
theorem dL_law_1376 : decode cL_law 1376 = .ok (.ifCond .ne 15, 3) := by decide +kernel
theorem dL_law_1379 : decode cL_law 1379 = .ok (.aload_n 3, 1) := by decide +kernel
theorem dL_law_1380 : decode cL_law 1380 = .ok (.iconst 0, 1) := by decide +kernel
theorem dL_law_1381 : decode cL_law 1381 = .ok (.laload, 1) := by decide +kernel
theorem dL_law_1382 : decode cL_law 1382 = .ok (.iload 6, 2) := by decide +kernel
theorem dL_law_1384 : decode cL_law 1384 = .ok (.i2l, 1) := by decide +kernel
theorem dL_law_1385 : decode cL_law 1385 = .ok (.lcmp, 1) := by decide +kernel
theorem dL_law_1386 : decode cL_law 1386 = .ok (.ifCond .eq 5, 3) := by decide +kernel
theorem dL_law_1389 : decode cL_law 1389 = .ok (.iconst 0, 1) := by decide +kernel
theorem dL_law_1390 : decode cL_law 1390 = .ok (.ireturn, 1) := by decide +kernel
theorem dL_law_1391 : decode cL_law 1391 = .ok (.goto 710, 3) := by decide +kernel
theorem dL_law_1394 : decode cL_law 1394 = .ok (.aload_n 1, 1) := by decide +kernel
theorem dL_law_1395 : decode cL_law 1395 = .ok (.aload_n 0, 1) := by decide +kernel
theorem dL_law_1396 : decode cL_law 1396 = .ok (.iload 4, 2) := by decide +kernel
theorem dL_law_1398 : decode cL_law 1398 = .ok (.iconst 1, 1) := by decide +kernel
theorem dL_law_1399 : decode cL_law 1399 = .ok (.iadd, 1) := by decide +kernel
theorem dL_law_1400 : decode cL_law 1400 = .ok (.iaload, 1) := by decide +kernel
theorem dL_law_1401 : decode cL_law 1401 = .ok (.aload_n 3, 1) := by decide +kernel
theorem dL_law_1402 : decode cL_law 1402 = .ok (.invokestatic 180, 3) := by decide +kernel
theorem dL_law_1405 : decode cL_law 1405 = .ok (.istore 5, 2) := by decide +kernel
theorem dL_law_1407 : decode cL_law 1407 = .ok (.aload_n 2, 1) := by decide +kernel
theorem dL_law_1408 : decode cL_law 1408 = .ok (.aload_n 0, 1) := by decide +kernel
theorem dL_law_1409 : decode cL_law 1409 = .ok (.iload 4, 2) := by decide +kernel
theorem dL_law_1411 : decode cL_law 1411 = .ok (.iconst 1, 1) := by decide +kernel
theorem dL_law_1412 : decode cL_law 1412 = .ok (.iadd, 1) := by decide +kernel
theorem dL_law_1413 : decode cL_law 1413 = .ok (.iaload, 1) := by decide +kernel
theorem dL_law_1414 : decode cL_law 1414 = .ok (.invokevirtual 182, 3) := by decide +kernel
theorem dL_law_1417 : decode cL_law 1417 = .ok (.istore 6, 2) := by decide +kernel
theorem dL_law_1419 : decode cL_law 1419 = .ok (.aload_n 2, 1) := by decide +kernel
theorem dL_law_1420 : decode cL_law 1420 = .ok (.invokevirtual 117, 3) := by decide +kernel
theorem dL_law_1423 : decode cL_law 1423 = .ok (.iload 5, 2) := by decide +kernel
theorem dL_law_1425 : decode cL_law 1425 = .ok (.if_icmp .eq 5, 3) := by decide +kernel
theorem dL_law_1428 : decode cL_law 1428 = .ok (.iconst 0, 1) := by decide +kernel
theorem dL_law_1429 : decode cL_law 1429 = .ok (.ireturn, 1) := by decide +kernel
theorem dL_law_1430 : decode cL_law 1430 = .ok (.iload 5, 2) := by decide +kernel
theorem dL_law_1432 : decode cL_law 1432 = .ok (.ifCond .ne 15, 3) := by decide +kernel
theorem dL_law_1435 : decode cL_law 1435 = .ok (.aload_n 3, 1) := by decide +kernel
theorem dL_law_1436 : decode cL_law 1436 = .ok (.iconst 0, 1) := by decide +kernel
theorem dL_law_1437 : decode cL_law 1437 = .ok (.laload, 1) := by decide +kernel
theorem dL_law_1438 : decode cL_law 1438 = .ok (.iload 6, 2) := by decide +kernel
theorem dL_law_1440 : decode cL_law 1440 = .ok (.i2l, 1) := by decide +kernel
theorem dL_law_1441 : decode cL_law 1441 = .ok (.lcmp, 1) := by decide +kernel
theorem dL_law_1442 : decode cL_law 1442 = .ok (.ifCond .eq 5, 3) := by decide +kernel
theorem dL_law_1445 : decode cL_law 1445 = .ok (.iconst 0, 1) := by decide +kernel
theorem dL_law_1446 : decode cL_law 1446 = .ok (.ireturn, 1) := by decide +kernel
theorem dL_law_1447 : decode cL_law 1447 = .ok (.goto 654, 3) := by decide +kernel
theorem dL_law_1450 : decode cL_law 1450 = .ok (.aload_n 1, 1) := by decide +kernel
theorem dL_law_1451 : decode cL_law 1451 = .ok (.aload_n 0, 1) := by decide +kernel
theorem dL_law_1452 : decode cL_law 1452 = .ok (.iload 4, 2) := by decide +kernel
theorem dL_law_1454 : decode cL_law 1454 = .ok (.iconst 1, 1) := by decide +kernel
theorem dL_law_1455 : decode cL_law 1455 = .ok (.iadd, 1) := by decide +kernel
theorem dL_law_1456 : decode cL_law 1456 = .ok (.iaload, 1) := by decide +kernel
theorem dL_law_1457 : decode cL_law 1457 = .ok (.aload_n 3, 1) := by decide +kernel
theorem dL_law_1458 : decode cL_law 1458 = .ok (.invokestatic 183, 3) := by decide +kernel
theorem dL_law_1461 : decode cL_law 1461 = .ok (.istore 5, 2) := by decide +kernel
theorem dL_law_1463 : decode cL_law 1463 = .ok (.aload_n 2, 1) := by decide +kernel
theorem dL_law_1464 : decode cL_law 1464 = .ok (.aload_n 0, 1) := by decide +kernel
theorem dL_law_1465 : decode cL_law 1465 = .ok (.iload 4, 2) := by decide +kernel
theorem dL_law_1467 : decode cL_law 1467 = .ok (.iconst 1, 1) := by decide +kernel
theorem dL_law_1468 : decode cL_law 1468 = .ok (.iadd, 1) := by decide +kernel
theorem dL_law_1469 : decode cL_law 1469 = .ok (.iaload, 1) := by decide +kernel
theorem dL_law_1470 : decode cL_law 1470 = .ok (.invokevirtual 185, 3) := by decide +kernel
theorem dL_law_1473 : decode cL_law 1473 = .ok (.istore 6, 2) := by decide +kernel
theorem dL_law_1475 : decode cL_law 1475 = .ok (.aload_n 2, 1) := by decide +kernel
theorem dL_law_1476 : decode cL_law 1476 = .ok (.invokevirtual 117, 3) := by decide +kernel
theorem dL_law_1479 : decode cL_law 1479 = .ok (.iload 5, 2) := by decide +kernel
theorem dL_law_1481 : decode cL_law 1481 = .ok (.if_icmp .eq 5, 3) := by decide +kernel
theorem dL_law_1484 : decode cL_law 1484 = .ok (.iconst 0, 1) := by decide +kernel
theorem dL_law_1485 : decode cL_law 1485 = .ok (.ireturn, 1) := by decide +kernel
theorem dL_law_1486 : decode cL_law 1486 = .ok (.iload 5, 2) := by decide +kernel
theorem dL_law_1488 : decode cL_law 1488 = .ok (.ifCond .ne 15, 3) := by decide +kernel
theorem dL_law_1491 : decode cL_law 1491 = .ok (.aload_n 3, 1) := by decide +kernel
theorem dL_law_1492 : decode cL_law 1492 = .ok (.iconst 0, 1) := by decide +kernel
theorem dL_law_1493 : decode cL_law 1493 = .ok (.laload, 1) := by decide +kernel
theorem dL_law_1494 : decode cL_law 1494 = .ok (.iload 6, 2) := by decide +kernel
theorem dL_law_1496 : decode cL_law 1496 = .ok (.i2l, 1) := by decide +kernel
theorem dL_law_1497 : decode cL_law 1497 = .ok (.lcmp, 1) := by decide +kernel
theorem dL_law_1498 : decode cL_law 1498 = .ok (.ifCond .eq 5, 3) := by decide +kernel
theorem dL_law_1501 : decode cL_law 1501 = .ok (.iconst 0, 1) := by decide +kernel
theorem dL_law_1502 : decode cL_law 1502 = .ok (.ireturn, 1) := by decide +kernel
theorem dL_law_1503 : decode cL_law 1503 = .ok (.goto 598, 3) := by decide +kernel
theorem dL_law_1506 : decode cL_law 1506 = .ok (.aload_n 1, 1) := by decide +kernel
theorem dL_law_1507 : decode cL_law 1507 = .ok (.aload_n 0, 1) := by decide +kernel
theorem dL_law_1508 : decode cL_law 1508 = .ok (.iload 4, 2) := by decide +kernel
theorem dL_law_1510 : decode cL_law 1510 = .ok (.iconst 1, 1) := by decide +kernel
theorem dL_law_1511 : decode cL_law 1511 = .ok (.iadd, 1) := by decide +kernel
theorem dL_law_1512 : decode cL_law 1512 = .ok (.iaload, 1) := by decide +kernel
theorem dL_law_1513 : decode cL_law 1513 = .ok (.aload_n 3, 1) := by decide +kernel
theorem dL_law_1514 : decode cL_law 1514 = .ok (.invokestatic 186, 3) := by decide +kernel
theorem dL_law_1517 : decode cL_law 1517 = .ok (.istore 5, 2) := by decide +kernel
theorem dL_law_1519 : decode cL_law 1519 = .ok (.aload_n 2, 1) := by decide +kernel
theorem dL_law_1520 : decode cL_law 1520 = .ok (.aload_n 0, 1) := by decide +kernel
theorem dL_law_1521 : decode cL_law 1521 = .ok (.iload 4, 2) := by decide +kernel
theorem dL_law_1523 : decode cL_law 1523 = .ok (.iconst 1, 1) := by decide +kernel
theorem dL_law_1524 : decode cL_law 1524 = .ok (.iadd, 1) := by decide +kernel
theorem dL_law_1525 : decode cL_law 1525 = .ok (.iaload, 1) := by decide +kernel
theorem dL_law_1526 : decode cL_law 1526 = .ok (.invokevirtual 188, 3) := by decide +kernel
theorem dL_law_1529 : decode cL_law 1529 = .ok (.istore 6, 2) := by decide +kernel
theorem dL_law_1531 : decode cL_law 1531 = .ok (.aload_n 2, 1) := by decide +kernel
theorem dL_law_1532 : decode cL_law 1532 = .ok (.invokevirtual 117, 3) := by decide +kernel
theorem dL_law_1535 : decode cL_law 1535 = .ok (.iload 5, 2) := by decide +kernel
theorem dL_law_1537 : decode cL_law 1537 = .ok (.if_icmp .eq 5, 3) := by decide +kernel
theorem dL_law_1540 : decode cL_law 1540 = .ok (.iconst 0, 1) := by decide +kernel
theorem dL_law_1541 : decode cL_law 1541 = .ok (.ireturn, 1) := by decide +kernel
theorem dL_law_1542 : decode cL_law 1542 = .ok (.iload 5, 2) := by decide +kernel
theorem dL_law_1544 : decode cL_law 1544 = .ok (.ifCond .ne 15, 3) := by decide +kernel
theorem dL_law_1547 : decode cL_law 1547 = .ok (.aload_n 3, 1) := by decide +kernel
theorem dL_law_1548 : decode cL_law 1548 = .ok (.iconst 0, 1) := by decide +kernel
theorem dL_law_1549 : decode cL_law 1549 = .ok (.laload, 1) := by decide +kernel
theorem dL_law_1550 : decode cL_law 1550 = .ok (.iload 6, 2) := by decide +kernel
theorem dL_law_1552 : decode cL_law 1552 = .ok (.i2l, 1) := by decide +kernel
theorem dL_law_1553 : decode cL_law 1553 = .ok (.lcmp, 1) := by decide +kernel
theorem dL_law_1554 : decode cL_law 1554 = .ok (.ifCond .eq 5, 3) := by decide +kernel
theorem dL_law_1557 : decode cL_law 1557 = .ok (.iconst 0, 1) := by decide +kernel
theorem dL_law_1558 : decode cL_law 1558 = .ok (.ireturn, 1) := by decide +kernel
theorem dL_law_1559 : decode cL_law 1559 = .ok (.goto 542, 3) := by decide +kernel
theorem dL_law_1562 : decode cL_law 1562 = .ok (.aload_n 1, 1) := by decide +kernel
theorem dL_law_1563 : decode cL_law 1563 = .ok (.aload_n 0, 1) := by decide +kernel
theorem dL_law_1564 : decode cL_law 1564 = .ok (.iload 4, 2) := by decide +kernel
theorem dL_law_1566 : decode cL_law 1566 = .ok (.iconst 1, 1) := by decide +kernel
theorem dL_law_1567 : decode cL_law 1567 = .ok (.iadd, 1) := by decide +kernel
theorem dL_law_1568 : decode cL_law 1568 = .ok (.iaload, 1) := by decide +kernel
theorem dL_law_1569 : decode cL_law 1569 = .ok (.aload_n 3, 1) := by decide +kernel
theorem dL_law_1570 : decode cL_law 1570 = .ok (.invokestatic 189, 3) := by decide +kernel
theorem dL_law_1573 : decode cL_law 1573 = .ok (.istore 5, 2) := by decide +kernel
theorem dL_law_1575 : decode cL_law 1575 = .ok (.aload_n 2, 1) := by decide +kernel
theorem dL_law_1576 : decode cL_law 1576 = .ok (.aload_n 0, 1) := by decide +kernel
theorem dL_law_1577 : decode cL_law 1577 = .ok (.iload 4, 2) := by decide +kernel
theorem dL_law_1579 : decode cL_law 1579 = .ok (.iconst 1, 1) := by decide +kernel
theorem dL_law_1580 : decode cL_law 1580 = .ok (.iadd, 1) := by decide +kernel
theorem dL_law_1581 : decode cL_law 1581 = .ok (.iaload, 1) := by decide +kernel
theorem dL_law_1582 : decode cL_law 1582 = .ok (.invokevirtual 191, 3) := by decide +kernel
theorem dL_law_1585 : decode cL_law 1585 = .ok (.istore 6, 2) := by decide +kernel
theorem dL_law_1587 : decode cL_law 1587 = .ok (.aload_n 2, 1) := by decide +kernel
theorem dL_law_1588 : decode cL_law 1588 = .ok (.invokevirtual 117, 3) := by decide +kernel
theorem dL_law_1591 : decode cL_law 1591 = .ok (.iload 5, 2) := by decide +kernel
theorem dL_law_1593 : decode cL_law 1593 = .ok (.if_icmp .eq 5, 3) := by decide +kernel
theorem dL_law_1596 : decode cL_law 1596 = .ok (.iconst 0, 1) := by decide +kernel
theorem dL_law_1597 : decode cL_law 1597 = .ok (.ireturn, 1) := by decide +kernel
theorem dL_law_1598 : decode cL_law 1598 = .ok (.iload 5, 2) := by decide +kernel
theorem dL_law_1600 : decode cL_law 1600 = .ok (.ifCond .ne 22, 3) := by decide +kernel
theorem dL_law_1603 : decode cL_law 1603 = .ok (.aload_n 3, 1) := by decide +kernel
theorem dL_law_1604 : decode cL_law 1604 = .ok (.iconst 0, 1) := by decide +kernel
theorem dL_law_1605 : decode cL_law 1605 = .ok (.laload, 1) := by decide +kernel
theorem dL_law_1606 : decode cL_law 1606 = .ok (.iload 6, 2) := by decide +kernel
theorem dL_law_1608 : decode cL_law 1608 = .ok (.ifCond .eq 7, 3) := by decide +kernel
theorem dL_law_1611 : decode cL_law 1611 = .ok (.lconst 1, 1) := by decide +kernel
theorem dL_law_1612 : decode cL_law 1612 = .ok (.goto 4, 3) := by decide +kernel
theorem dL_law_1615 : decode cL_law 1615 = .ok (.lconst 0, 1) := by decide +kernel
theorem dL_law_1616 : decode cL_law 1616 = .ok (.lcmp, 1) := by decide +kernel
theorem dL_law_1617 : decode cL_law 1617 = .ok (.ifCond .eq 5, 3) := by decide +kernel
theorem dL_law_1620 : decode cL_law 1620 = .ok (.iconst 0, 1) := by decide +kernel
theorem dL_law_1621 : decode cL_law 1621 = .ok (.ireturn, 1) := by decide +kernel
theorem dL_law_1622 : decode cL_law 1622 = .ok (.goto 479, 3) := by decide +kernel
theorem dL_law_1625 : decode cL_law 1625 = .ok (.aload_n 1, 1) := by decide +kernel
theorem dL_law_1626 : decode cL_law 1626 = .ok (.aload_n 0, 1) := by decide +kernel
theorem dL_law_1627 : decode cL_law 1627 = .ok (.iload 4, 2) := by decide +kernel
theorem dL_law_1629 : decode cL_law 1629 = .ok (.iconst 1, 1) := by decide +kernel
theorem dL_law_1630 : decode cL_law 1630 = .ok (.iadd, 1) := by decide +kernel
theorem dL_law_1631 : decode cL_law 1631 = .ok (.iaload, 1) := by decide +kernel
theorem dL_law_1632 : decode cL_law 1632 = .ok (.aload_n 3, 1) := by decide +kernel
theorem dL_law_1633 : decode cL_law 1633 = .ok (.invokestatic 192, 3) := by decide +kernel
theorem dL_law_1636 : decode cL_law 1636 = .ok (.istore 5, 2) := by decide +kernel
theorem dL_law_1638 : decode cL_law 1638 = .ok (.aload_n 2, 1) := by decide +kernel
theorem dL_law_1639 : decode cL_law 1639 = .ok (.aload_n 0, 1) := by decide +kernel
theorem dL_law_1640 : decode cL_law 1640 = .ok (.iload 4, 2) := by decide +kernel
theorem dL_law_1642 : decode cL_law 1642 = .ok (.iconst 1, 1) := by decide +kernel
theorem dL_law_1643 : decode cL_law 1643 = .ok (.iadd, 1) := by decide +kernel
theorem dL_law_1644 : decode cL_law 1644 = .ok (.iaload, 1) := by decide +kernel
theorem dL_law_1645 : decode cL_law 1645 = .ok (.invokevirtual 194, 3) := by decide +kernel
theorem dL_law_1648 : decode cL_law 1648 = .ok (.istore 6, 2) := by decide +kernel
theorem dL_law_1650 : decode cL_law 1650 = .ok (.aload_n 2, 1) := by decide +kernel
theorem dL_law_1651 : decode cL_law 1651 = .ok (.invokevirtual 117, 3) := by decide +kernel
theorem dL_law_1654 : decode cL_law 1654 = .ok (.iload 5, 2) := by decide +kernel
theorem dL_law_1656 : decode cL_law 1656 = .ok (.if_icmp .eq 5, 3) := by decide +kernel
theorem dL_law_1659 : decode cL_law 1659 = .ok (.iconst 0, 1) := by decide +kernel
theorem dL_law_1660 : decode cL_law 1660 = .ok (.ireturn, 1) := by decide +kernel
theorem dL_law_1661 : decode cL_law 1661 = .ok (.iload 5, 2) := by decide +kernel
theorem dL_law_1663 : decode cL_law 1663 = .ok (.ifCond .ne 15, 3) := by decide +kernel
theorem dL_law_1666 : decode cL_law 1666 = .ok (.aload_n 3, 1) := by decide +kernel
theorem dL_law_1667 : decode cL_law 1667 = .ok (.iconst 0, 1) := by decide +kernel
theorem dL_law_1668 : decode cL_law 1668 = .ok (.laload, 1) := by decide +kernel
theorem dL_law_1669 : decode cL_law 1669 = .ok (.iload 6, 2) := by decide +kernel
theorem dL_law_1671 : decode cL_law 1671 = .ok (.i2l, 1) := by decide +kernel
theorem dL_law_1672 : decode cL_law 1672 = .ok (.lcmp, 1) := by decide +kernel
theorem dL_law_1673 : decode cL_law 1673 = .ok (.ifCond .eq 5, 3) := by decide +kernel
theorem dL_law_1676 : decode cL_law 1676 = .ok (.iconst 0, 1) := by decide +kernel
theorem dL_law_1677 : decode cL_law 1677 = .ok (.ireturn, 1) := by decide +kernel
theorem dL_law_1678 : decode cL_law 1678 = .ok (.goto 423, 3) := by decide +kernel
theorem dL_law_1681 : decode cL_law 1681 = .ok (.aload_n 1, 1) := by decide +kernel
theorem dL_law_1682 : decode cL_law 1682 = .ok (.aload_n 0, 1) := by decide +kernel
theorem dL_law_1683 : decode cL_law 1683 = .ok (.iload 4, 2) := by decide +kernel
theorem dL_law_1685 : decode cL_law 1685 = .ok (.iconst 1, 1) := by decide +kernel
theorem dL_law_1686 : decode cL_law 1686 = .ok (.iadd, 1) := by decide +kernel
theorem dL_law_1687 : decode cL_law 1687 = .ok (.iaload, 1) := by decide +kernel
theorem dL_law_1688 : decode cL_law 1688 = .ok (.aload_n 3, 1) := by decide +kernel
theorem dL_law_1689 : decode cL_law 1689 = .ok (.invokestatic 195, 3) := by decide +kernel
theorem dL_law_1692 : decode cL_law 1692 = .ok (.istore 5, 2) := by decide +kernel
theorem dL_law_1694 : decode cL_law 1694 = .ok (.aload_n 2, 1) := by decide +kernel
theorem dL_law_1695 : decode cL_law 1695 = .ok (.aload_n 0, 1) := by decide +kernel
theorem dL_law_1696 : decode cL_law 1696 = .ok (.iload 4, 2) := by decide +kernel
theorem dL_law_1698 : decode cL_law 1698 = .ok (.iconst 1, 1) := by decide +kernel
theorem dL_law_1699 : decode cL_law 1699 = .ok (.iadd, 1) := by decide +kernel
theorem dL_law_1700 : decode cL_law 1700 = .ok (.iaload, 1) := by decide +kernel
theorem dL_law_1701 : decode cL_law 1701 = .ok (.invokevirtual 197, 3) := by decide +kernel
theorem dL_law_1704 : decode cL_law 1704 = .ok (.istore 6, 2) := by decide +kernel
theorem dL_law_1706 : decode cL_law 1706 = .ok (.aload_n 2, 1) := by decide +kernel
theorem dL_law_1707 : decode cL_law 1707 = .ok (.invokevirtual 117, 3) := by decide +kernel
theorem dL_law_1710 : decode cL_law 1710 = .ok (.iload 5, 2) := by decide +kernel
theorem dL_law_1712 : decode cL_law 1712 = .ok (.if_icmp .eq 5, 3) := by decide +kernel
theorem dL_law_1715 : decode cL_law 1715 = .ok (.iconst 0, 1) := by decide +kernel
theorem dL_law_1716 : decode cL_law 1716 = .ok (.ireturn, 1) := by decide +kernel
theorem dL_law_1717 : decode cL_law 1717 = .ok (.iload 5, 2) := by decide +kernel
theorem dL_law_1719 : decode cL_law 1719 = .ok (.ifCond .ne 15, 3) := by decide +kernel
theorem dL_law_1722 : decode cL_law 1722 = .ok (.aload_n 3, 1) := by decide +kernel
theorem dL_law_1723 : decode cL_law 1723 = .ok (.iconst 0, 1) := by decide +kernel
theorem dL_law_1724 : decode cL_law 1724 = .ok (.laload, 1) := by decide +kernel
theorem dL_law_1725 : decode cL_law 1725 = .ok (.iload 6, 2) := by decide +kernel
theorem dL_law_1727 : decode cL_law 1727 = .ok (.i2l, 1) := by decide +kernel
theorem dL_law_1728 : decode cL_law 1728 = .ok (.lcmp, 1) := by decide +kernel
theorem dL_law_1729 : decode cL_law 1729 = .ok (.ifCond .eq 5, 3) := by decide +kernel
theorem dL_law_1732 : decode cL_law 1732 = .ok (.iconst 0, 1) := by decide +kernel
theorem dL_law_1733 : decode cL_law 1733 = .ok (.ireturn, 1) := by decide +kernel
theorem dL_law_1734 : decode cL_law 1734 = .ok (.goto 367, 3) := by decide +kernel
theorem dL_law_1737 : decode cL_law 1737 = .ok (.aload_n 1, 1) := by decide +kernel
theorem dL_law_1738 : decode cL_law 1738 = .ok (.invokevirtual 198, 3) := by decide +kernel
theorem dL_law_1741 : decode cL_law 1741 = .ok (.aload_n 2, 1) := by decide +kernel
theorem dL_law_1742 : decode cL_law 1742 = .ok (.invokevirtual 201, 3) := by decide +kernel
theorem dL_law_1745 : decode cL_law 1745 = .ok (.if_icmp .eq 356, 3) := by decide +kernel
theorem dL_law_1748 : decode cL_law 1748 = .ok (.iconst 0, 1) := by decide +kernel
theorem dL_law_1749 : decode cL_law 1749 = .ok (.ireturn, 1) := by decide +kernel
theorem dL_law_1750 : decode cL_law 1750 = .ok (.aload_n 1, 1) := by decide +kernel
theorem dL_law_1751 : decode cL_law 1751 = .ok (.invokevirtual 202, 3) := by decide +kernel
theorem dL_law_1754 : decode cL_law 1754 = .ok (.aload_n 2, 1) := by decide +kernel
theorem dL_law_1755 : decode cL_law 1755 = .ok (.invokevirtual 205, 3) := by decide +kernel
theorem dL_law_1758 : decode cL_law 1758 = .ok (.if_icmp .eq 343, 3) := by decide +kernel
theorem dL_law_1761 : decode cL_law 1761 = .ok (.iconst 0, 1) := by decide +kernel
theorem dL_law_1762 : decode cL_law 1762 = .ok (.ireturn, 1) := by decide +kernel
theorem dL_law_1763 : decode cL_law 1763 = .ok (.aload_n 1, 1) := by decide +kernel
theorem dL_law_1764 : decode cL_law 1764 = .ok (.invokevirtual 206, 3) := by decide +kernel
theorem dL_law_1767 : decode cL_law 1767 = .ok (.aload_n 2, 1) := by decide +kernel
theorem dL_law_1768 : decode cL_law 1768 = .ok (.invokevirtual 209, 3) := by decide +kernel
theorem dL_law_1771 : decode cL_law 1771 = .ok (.if_icmp .eq 330, 3) := by decide +kernel
theorem dL_law_1774 : decode cL_law 1774 = .ok (.iconst 0, 1) := by decide +kernel
theorem dL_law_1775 : decode cL_law 1775 = .ok (.ireturn, 1) := by decide +kernel
theorem dL_law_1776 : decode cL_law 1776 = .ok (.aload_n 1, 1) := by decide +kernel
theorem dL_law_1777 : decode cL_law 1777 = .ok (.invokevirtual 210, 3) := by decide +kernel
theorem dL_law_1780 : decode cL_law 1780 = .ok (.aload_n 2, 1) := by decide +kernel
theorem dL_law_1781 : decode cL_law 1781 = .ok (.invokevirtual 213, 3) := by decide +kernel
theorem dL_law_1784 : decode cL_law 1784 = .ok (.if_icmp .eq 317, 3) := by decide +kernel
theorem dL_law_1787 : decode cL_law 1787 = .ok (.iconst 0, 1) := by decide +kernel
theorem dL_law_1788 : decode cL_law 1788 = .ok (.ireturn, 1) := by decide +kernel
theorem dL_law_1789 : decode cL_law 1789 = .ok (.aload_n 1, 1) := by decide +kernel
theorem dL_law_1790 : decode cL_law 1790 = .ok (.invokevirtual 214, 3) := by decide +kernel
theorem dL_law_1793 : decode cL_law 1793 = .ok (.aload_n 2, 1) := by decide +kernel
theorem dL_law_1794 : decode cL_law 1794 = .ok (.invokevirtual 217, 3) := by decide +kernel
theorem dL_law_1797 : decode cL_law 1797 = .ok (.if_icmp .eq 304, 3) := by decide +kernel
theorem dL_law_1800 : decode cL_law 1800 = .ok (.iconst 0, 1) := by decide +kernel
theorem dL_law_1801 : decode cL_law 1801 = .ok (.ireturn, 1) := by decide +kernel
theorem dL_law_1802 : decode cL_law 1802 = .ok (.aload_n 1, 1) := by decide +kernel
theorem dL_law_1803 : decode cL_law 1803 = .ok (.invokevirtual 218, 3) := by decide +kernel
theorem dL_law_1806 : decode cL_law 1806 = .ok (.aload_n 2, 1) := by decide +kernel
theorem dL_law_1807 : decode cL_law 1807 = .ok (.invokevirtual 221, 3) := by decide +kernel
theorem dL_law_1810 : decode cL_law 1810 = .ok (.if_icmp .eq 291, 3) := by decide +kernel
theorem dL_law_1813 : decode cL_law 1813 = .ok (.iconst 0, 1) := by decide +kernel
theorem dL_law_1814 : decode cL_law 1814 = .ok (.ireturn, 1) := by decide +kernel
theorem dL_law_1815 : decode cL_law 1815 = .ok (.aload_n 1, 1) := by decide +kernel
theorem dL_law_1816 : decode cL_law 1816 = .ok (.invokevirtual 222, 3) := by decide +kernel
theorem dL_law_1819 : decode cL_law 1819 = .ok (.aload_n 2, 1) := by decide +kernel
theorem dL_law_1820 : decode cL_law 1820 = .ok (.invokevirtual 225, 3) := by decide +kernel
theorem dL_law_1823 : decode cL_law 1823 = .ok (.if_icmp .eq 278, 3) := by decide +kernel
theorem dL_law_1826 : decode cL_law 1826 = .ok (.iconst 0, 1) := by decide +kernel
theorem dL_law_1827 : decode cL_law 1827 = .ok (.ireturn, 1) := by decide +kernel
theorem dL_law_1828 : decode cL_law 1828 = .ok (.aload_n 1, 1) := by decide +kernel
theorem dL_law_1829 : decode cL_law 1829 = .ok (.invokevirtual 226, 3) := by decide +kernel
theorem dL_law_1832 : decode cL_law 1832 = .ok (.aload_n 2, 1) := by decide +kernel
theorem dL_law_1833 : decode cL_law 1833 = .ok (.invokevirtual 229, 3) := by decide +kernel
theorem dL_law_1836 : decode cL_law 1836 = .ok (.if_icmp .eq 265, 3) := by decide +kernel
theorem dL_law_1839 : decode cL_law 1839 = .ok (.iconst 0, 1) := by decide +kernel
theorem dL_law_1840 : decode cL_law 1840 = .ok (.ireturn, 1) := by decide +kernel
theorem dL_law_1841 : decode cL_law 1841 = .ok (.aload_n 1, 1) := by decide +kernel
theorem dL_law_1842 : decode cL_law 1842 = .ok (.invokevirtual 230, 3) := by decide +kernel
theorem dL_law_1845 : decode cL_law 1845 = .ok (.aload_n 2, 1) := by decide +kernel
theorem dL_law_1846 : decode cL_law 1846 = .ok (.invokevirtual 233, 3) := by decide +kernel
theorem dL_law_1849 : decode cL_law 1849 = .ok (.if_icmp .eq 252, 3) := by decide +kernel
theorem dL_law_1852 : decode cL_law 1852 = .ok (.iconst 0, 1) := by decide +kernel
theorem dL_law_1853 : decode cL_law 1853 = .ok (.ireturn, 1) := by decide +kernel
theorem dL_law_1854 : decode cL_law 1854 = .ok (.aload_n 1, 1) := by decide +kernel
theorem dL_law_1855 : decode cL_law 1855 = .ok (.aload_n 0, 1) := by decide +kernel
theorem dL_law_1856 : decode cL_law 1856 = .ok (.iload 4, 2) := by decide +kernel
theorem dL_law_1858 : decode cL_law 1858 = .ok (.iconst 1, 1) := by decide +kernel
theorem dL_law_1859 : decode cL_law 1859 = .ok (.iadd, 1) := by decide +kernel
theorem dL_law_1860 : decode cL_law 1860 = .ok (.iaload, 1) := by decide +kernel
theorem dL_law_1861 : decode cL_law 1861 = .ok (.aload_n 3, 1) := by decide +kernel
theorem dL_law_1862 : decode cL_law 1862 = .ok (.invokestatic 234, 3) := by decide +kernel
theorem dL_law_1865 : decode cL_law 1865 = .ok (.istore 5, 2) := by decide +kernel
theorem dL_law_1867 : decode cL_law 1867 = .ok (.aload_n 2, 1) := by decide +kernel
theorem dL_law_1868 : decode cL_law 1868 = .ok (.aload_n 0, 1) := by decide +kernel
theorem dL_law_1869 : decode cL_law 1869 = .ok (.iload 4, 2) := by decide +kernel
theorem dL_law_1871 : decode cL_law 1871 = .ok (.iconst 1, 1) := by decide +kernel
theorem dL_law_1872 : decode cL_law 1872 = .ok (.iadd, 1) := by decide +kernel
theorem dL_law_1873 : decode cL_law 1873 = .ok (.iaload, 1) := by decide +kernel
theorem dL_law_1874 : decode cL_law 1874 = .ok (.invokevirtual 236, 3) := by decide +kernel
theorem dL_law_1877 : decode cL_law 1877 = .ok (.istore 6, 2) := by decide +kernel
theorem dL_law_1879 : decode cL_law 1879 = .ok (.aload_n 2, 1) := by decide +kernel
theorem dL_law_1880 : decode cL_law 1880 = .ok (.invokevirtual 117, 3) := by decide +kernel
theorem dL_law_1883 : decode cL_law 1883 = .ok (.iload 5, 2) := by decide +kernel
theorem dL_law_1885 : decode cL_law 1885 = .ok (.if_icmp .eq 5, 3) := by decide +kernel
theorem dL_law_1888 : decode cL_law 1888 = .ok (.iconst 0, 1) := by decide +kernel
theorem dL_law_1889 : decode cL_law 1889 = .ok (.ireturn, 1) := by decide +kernel
theorem dL_law_1890 : decode cL_law 1890 = .ok (.iload 5, 2) := by decide +kernel
theorem dL_law_1892 : decode cL_law 1892 = .ok (.ifCond .ne 15, 3) := by decide +kernel
theorem dL_law_1895 : decode cL_law 1895 = .ok (.aload_n 3, 1) := by decide +kernel
theorem dL_law_1896 : decode cL_law 1896 = .ok (.iconst 0, 1) := by decide +kernel
theorem dL_law_1897 : decode cL_law 1897 = .ok (.laload, 1) := by decide +kernel
theorem dL_law_1898 : decode cL_law 1898 = .ok (.iload 6, 2) := by decide +kernel
theorem dL_law_1900 : decode cL_law 1900 = .ok (.i2l, 1) := by decide +kernel
theorem dL_law_1901 : decode cL_law 1901 = .ok (.lcmp, 1) := by decide +kernel
theorem dL_law_1902 : decode cL_law 1902 = .ok (.ifCond .eq 5, 3) := by decide +kernel
theorem dL_law_1905 : decode cL_law 1905 = .ok (.iconst 0, 1) := by decide +kernel
theorem dL_law_1906 : decode cL_law 1906 = .ok (.ireturn, 1) := by decide +kernel
theorem dL_law_1907 : decode cL_law 1907 = .ok (.goto 194, 3) := by decide +kernel
theorem dL_law_1910 : decode cL_law 1910 = .ok (.aload_n 1, 1) := by decide +kernel
theorem dL_law_1911 : decode cL_law 1911 = .ok (.aload_n 0, 1) := by decide +kernel
theorem dL_law_1912 : decode cL_law 1912 = .ok (.iload 4, 2) := by decide +kernel
theorem dL_law_1914 : decode cL_law 1914 = .ok (.iconst 1, 1) := by decide +kernel
theorem dL_law_1915 : decode cL_law 1915 = .ok (.iadd, 1) := by decide +kernel
theorem dL_law_1916 : decode cL_law 1916 = .ok (.iaload, 1) := by decide +kernel
theorem dL_law_1917 : decode cL_law 1917 = .ok (.aload_n 0, 1) := by decide +kernel
theorem dL_law_1918 : decode cL_law 1918 = .ok (.iload 4, 2) := by decide +kernel
theorem dL_law_1920 : decode cL_law 1920 = .ok (.iconst 2, 1) := by decide +kernel
theorem dL_law_1921 : decode cL_law 1921 = .ok (.iadd, 1) := by decide +kernel
theorem dL_law_1922 : decode cL_law 1922 = .ok (.iaload, 1) := by decide +kernel
theorem dL_law_1923 : decode cL_law 1923 = .ok (.aload_n 3, 1) := by decide +kernel
theorem dL_law_1924 : decode cL_law 1924 = .ok (.invokestatic 237, 3) := by decide +kernel
theorem dL_law_1927 : decode cL_law 1927 = .ok (.istore 5, 2) := by decide +kernel
theorem dL_law_1929 : decode cL_law 1929 = .ok (.aload_n 2, 1) := by decide +kernel
theorem dL_law_1930 : decode cL_law 1930 = .ok (.aload_n 0, 1) := by decide +kernel
theorem dL_law_1931 : decode cL_law 1931 = .ok (.iload 4, 2) := by decide +kernel
theorem dL_law_1933 : decode cL_law 1933 = .ok (.iconst 1, 1) := by decide +kernel
theorem dL_law_1934 : decode cL_law 1934 = .ok (.iadd, 1) := by decide +kernel
theorem dL_law_1935 : decode cL_law 1935 = .ok (.iaload, 1) := by decide +kernel
theorem dL_law_1936 : decode cL_law 1936 = .ok (.aload_n 0, 1) := by decide +kernel
theorem dL_law_1937 : decode cL_law 1937 = .ok (.iload 4, 2) := by decide +kernel
theorem dL_law_1939 : decode cL_law 1939 = .ok (.iconst 2, 1) := by decide +kernel
theorem dL_law_1940 : decode cL_law 1940 = .ok (.iadd, 1) := by decide +kernel
theorem dL_law_1941 : decode cL_law 1941 = .ok (.iaload, 1) := by decide +kernel
theorem dL_law_1942 : decode cL_law 1942 = .ok (.invokevirtual 239, 3) := by decide +kernel
theorem dL_law_1945 : decode cL_law 1945 = .ok (.istore 6, 2) := by decide +kernel
theorem dL_law_1947 : decode cL_law 1947 = .ok (.aload_n 2, 1) := by decide +kernel
theorem dL_law_1948 : decode cL_law 1948 = .ok (.invokevirtual 117, 3) := by decide +kernel
theorem dL_law_1951 : decode cL_law 1951 = .ok (.iload 5, 2) := by decide +kernel
theorem dL_law_1953 : decode cL_law 1953 = .ok (.if_icmp .eq 5, 3) := by decide +kernel
theorem dL_law_1956 : decode cL_law 1956 = .ok (.iconst 0, 1) := by decide +kernel
theorem dL_law_1957 : decode cL_law 1957 = .ok (.ireturn, 1) := by decide +kernel
theorem dL_law_1958 : decode cL_law 1958 = .ok (.iload 5, 2) := by decide +kernel
theorem dL_law_1960 : decode cL_law 1960 = .ok (.ifCond .ne 15, 3) := by decide +kernel
theorem dL_law_1963 : decode cL_law 1963 = .ok (.aload_n 3, 1) := by decide +kernel
theorem dL_law_1964 : decode cL_law 1964 = .ok (.iconst 0, 1) := by decide +kernel
theorem dL_law_1965 : decode cL_law 1965 = .ok (.laload, 1) := by decide +kernel
theorem dL_law_1966 : decode cL_law 1966 = .ok (.iload 6, 2) := by decide +kernel
theorem dL_law_1968 : decode cL_law 1968 = .ok (.i2l, 1) := by decide +kernel
theorem dL_law_1969 : decode cL_law 1969 = .ok (.lcmp, 1) := by decide +kernel
theorem dL_law_1970 : decode cL_law 1970 = .ok (.ifCond .eq 5, 3) := by decide +kernel
theorem dL_law_1973 : decode cL_law 1973 = .ok (.iconst 0, 1) := by decide +kernel
theorem dL_law_1974 : decode cL_law 1974 = .ok (.ireturn, 1) := by decide +kernel
theorem dL_law_1975 : decode cL_law 1975 = .ok (.goto 126, 3) := by decide +kernel
theorem dL_law_1978 : decode cL_law 1978 = .ok (.aload_n 1, 1) := by decide +kernel
theorem dL_law_1979 : decode cL_law 1979 = .ok (.aload_n 0, 1) := by decide +kernel
theorem dL_law_1980 : decode cL_law 1980 = .ok (.iload 4, 2) := by decide +kernel
theorem dL_law_1982 : decode cL_law 1982 = .ok (.iconst 1, 1) := by decide +kernel
theorem dL_law_1983 : decode cL_law 1983 = .ok (.iadd, 1) := by decide +kernel
theorem dL_law_1984 : decode cL_law 1984 = .ok (.iaload, 1) := by decide +kernel
theorem dL_law_1985 : decode cL_law 1985 = .ok (.aload_n 0, 1) := by decide +kernel
theorem dL_law_1986 : decode cL_law 1986 = .ok (.iload 4, 2) := by decide +kernel
theorem dL_law_1988 : decode cL_law 1988 = .ok (.iconst 2, 1) := by decide +kernel
theorem dL_law_1989 : decode cL_law 1989 = .ok (.iadd, 1) := by decide +kernel
theorem dL_law_1990 : decode cL_law 1990 = .ok (.iaload, 1) := by decide +kernel
theorem dL_law_1991 : decode cL_law 1991 = .ok (.aload_n 3, 1) := by decide +kernel
theorem dL_law_1992 : decode cL_law 1992 = .ok (.invokestatic 240, 3) := by decide +kernel
theorem dL_law_1995 : decode cL_law 1995 = .ok (.istore 5, 2) := by decide +kernel
theorem dL_law_1997 : decode cL_law 1997 = .ok (.aload_n 2, 1) := by decide +kernel
theorem dL_law_1998 : decode cL_law 1998 = .ok (.aload_n 0, 1) := by decide +kernel
theorem dL_law_1999 : decode cL_law 1999 = .ok (.iload 4, 2) := by decide +kernel
theorem dL_law_2001 : decode cL_law 2001 = .ok (.iconst 1, 1) := by decide +kernel
theorem dL_law_2002 : decode cL_law 2002 = .ok (.iadd, 1) := by decide +kernel
theorem dL_law_2003 : decode cL_law 2003 = .ok (.iaload, 1) := by decide +kernel
theorem dL_law_2004 : decode cL_law 2004 = .ok (.aload_n 0, 1) := by decide +kernel
theorem dL_law_2005 : decode cL_law 2005 = .ok (.iload 4, 2) := by decide +kernel
theorem dL_law_2007 : decode cL_law 2007 = .ok (.iconst 2, 1) := by decide +kernel
theorem dL_law_2008 : decode cL_law 2008 = .ok (.iadd, 1) := by decide +kernel
theorem dL_law_2009 : decode cL_law 2009 = .ok (.iaload, 1) := by decide +kernel
theorem dL_law_2010 : decode cL_law 2010 = .ok (.invokevirtual 242, 3) := by decide +kernel
theorem dL_law_2013 : decode cL_law 2013 = .ok (.istore 6, 2) := by decide +kernel
theorem dL_law_2015 : decode cL_law 2015 = .ok (.aload_n 2, 1) := by decide +kernel
theorem dL_law_2016 : decode cL_law 2016 = .ok (.invokevirtual 117, 3) := by decide +kernel
theorem dL_law_2019 : decode cL_law 2019 = .ok (.iload 5, 2) := by decide +kernel
theorem dL_law_2021 : decode cL_law 2021 = .ok (.if_icmp .eq 5, 3) := by decide +kernel
theorem dL_law_2024 : decode cL_law 2024 = .ok (.iconst 0, 1) := by decide +kernel
theorem dL_law_2025 : decode cL_law 2025 = .ok (.ireturn, 1) := by decide +kernel
theorem dL_law_2026 : decode cL_law 2026 = .ok (.iload 5, 2) := by decide +kernel
theorem dL_law_2028 : decode cL_law 2028 = .ok (.ifCond .ne 15, 3) := by decide +kernel
theorem dL_law_2031 : decode cL_law 2031 = .ok (.aload_n 3, 1) := by decide +kernel
theorem dL_law_2032 : decode cL_law 2032 = .ok (.iconst 0, 1) := by decide +kernel
theorem dL_law_2033 : decode cL_law 2033 = .ok (.laload, 1) := by decide +kernel
theorem dL_law_2034 : decode cL_law 2034 = .ok (.iload 6, 2) := by decide +kernel
theorem dL_law_2036 : decode cL_law 2036 = .ok (.i2l, 1) := by decide +kernel
theorem dL_law_2037 : decode cL_law 2037 = .ok (.lcmp, 1) := by decide +kernel
theorem dL_law_2038 : decode cL_law 2038 = .ok (.ifCond .eq 5, 3) := by decide +kernel
theorem dL_law_2041 : decode cL_law 2041 = .ok (.iconst 0, 1) := by decide +kernel
theorem dL_law_2042 : decode cL_law 2042 = .ok (.ireturn, 1) := by decide +kernel
theorem dL_law_2043 : decode cL_law 2043 = .ok (.goto 58, 3) := by decide +kernel
theorem dL_law_2046 : decode cL_law 2046 = .ok (.aload_n 1, 1) := by decide +kernel
theorem dL_law_2047 : decode cL_law 2047 = .ok (.invokevirtual 243, 3) := by decide +kernel
theorem dL_law_2050 : decode cL_law 2050 = .ok (.dstore 5, 2) := by decide +kernel
theorem dL_law_2052 : decode cL_law 2052 = .ok (.aload_n 2, 1) := by decide +kernel
theorem dL_law_2053 : decode cL_law 2053 = .ok (.invokevirtual 247, 3) := by decide +kernel
theorem dL_law_2056 : decode cL_law 2056 = .ok (.dstore 7, 2) := by decide +kernel
theorem dL_law_2058 : decode cL_law 2058 = .ok (.dload 5, 2) := by decide +kernel
theorem dL_law_2060 : decode cL_law 2060 = .ok (.dload 7, 2) := by decide +kernel
theorem dL_law_2062 : decode cL_law 2062 = .ok (.dcmp .l, 1) := by decide +kernel
theorem dL_law_2063 : decode cL_law 2063 = .ok (.ifCond .eq 21, 3) := by decide +kernel
theorem dL_law_2066 : decode cL_law 2066 = .ok (.dload 5, 2) := by decide +kernel
theorem dL_law_2068 : decode cL_law 2068 = .ok (.dload 5, 2) := by decide +kernel
theorem dL_law_2070 : decode cL_law 2070 = .ok (.dcmp .l, 1) := by decide +kernel
theorem dL_law_2071 : decode cL_law 2071 = .ok (.ifCond .eq 11, 3) := by decide +kernel
theorem dL_law_2074 : decode cL_law 2074 = .ok (.dload 7, 2) := by decide +kernel
theorem dL_law_2076 : decode cL_law 2076 = .ok (.dload 7, 2) := by decide +kernel
theorem dL_law_2078 : decode cL_law 2078 = .ok (.dcmp .l, 1) := by decide +kernel
theorem dL_law_2079 : decode cL_law 2079 = .ok (.ifCond .ne 5, 3) := by decide +kernel
theorem dL_law_2082 : decode cL_law 2082 = .ok (.iconst 0, 1) := by decide +kernel
theorem dL_law_2083 : decode cL_law 2083 = .ok (.ireturn, 1) := by decide +kernel
theorem dL_law_2084 : decode cL_law 2084 = .ok (.goto 17, 3) := by decide +kernel
theorem dL_law_2087 : decode cL_law 2087 = .ok (.aload_n 1, 1) := by decide +kernel
theorem dL_law_2088 : decode cL_law 2088 = .ok (.invokevirtual 248, 3) := by decide +kernel
theorem dL_law_2091 : decode cL_law 2091 = .ok (.aload_n 2, 1) := by decide +kernel
theorem dL_law_2092 : decode cL_law 2092 = .ok (.invokevirtual 252, 3) := by decide +kernel
theorem dL_law_2095 : decode cL_law 2095 = .ok (.lcmp, 1) := by decide +kernel
theorem dL_law_2096 : decode cL_law 2096 = .ok (.ifCond .eq 5, 3) := by decide +kernel
theorem dL_law_2099 : decode cL_law 2099 = .ok (.iconst 0, 1) := by decide +kernel
theorem dL_law_2100 : decode cL_law 2100 = .ok (.ireturn, 1) := by decide +kernel
theorem dL_law_2101 : decode cL_law 2101 = .ok (.iinc 4 4, 3) := by decide +kernel
theorem dL_law_2104 : decode cL_law 2104 = .ok (.goto (-2081), 3) := by decide +kernel
theorem dL_law_2107 : decode cL_law 2107 = .ok (.iconst 1, 1) := by decide +kernel
theorem dL_law_2108 : decode cL_law 2108 = .ok (.ireturn, 1) := by decide +kernel
end
section
/-! how this claim's methods are said: a method that reads (PM), a method that writes in place (MM); both over the caller's whole world -/
def nestK (U : State) : Prop := va_Nw (.fieldLinkNest RX6 97 "BagCarouselModel$State" "minute" "I" "BagCarouselModel") U ∧ va_Nw (.fieldLinkNest RX6 104 "BagCarouselModel$State" "where" "[I" "BagCarouselModel") U ∧ va_Nw (.fieldLinkNest RX6 107 "BagCarouselModel$State" "at" "[I" "BagCarouselModel") U ∧ va_Nw (.fieldLinkNest RX6 62 "BagCarouselModel$State" "read" "[I" "BagCarouselModel") U ∧ va_Nw (.fieldLinkNest RX6 65 "BagCarouselModel$State" "missed" "[I" "BagCarouselModel") U ∧ va_Nw (.fieldLinkNest RX6 59 "BagCarouselModel$State" "belt" "[I" "BagCarouselModel") U ∧ va_Nw (.fieldLinkNest RX6 90 "BagCarouselModel$State" "inLine" "I" "BagCarouselModel") U ∧ va_Nw (.fieldLinkNest RX6 72 "BagCarouselModel$State" "in" "[I" "BagCarouselModel") U
theorem nestK_warm {s U : State} (hW : s.WarmedH U.vm) (h : nestK s) : nestK U := by
  obtain ⟨h0, h1, h2, h3, h4, h5, h6, h7⟩ := h
  exact ⟨h0.warmF hW, h1.warmF hW, h2.warmF hW, h3.warmF hW, h4.warmF hW, h5.warmF hW, h6.warmF hW, h7.warmF hW⟩
theorem nestK_same {u U : State} (hv : u.vm = U.vm) (h : nestK u) : nestK U := by
  obtain ⟨h0, h1, h2, h3, h4, h5, h6, h7⟩ := h
  exact ⟨h0.same rfl hv, h1.same rfl hv, h2.same rfl hv, h3.same rfl hv, h4.same rfl hv, h5.same rfl hv, h6.same rfl hv, h7.same rfl hv⟩
/-- the array kinds: 0 int, 1 boolean, 2 long -/
abbrev tyk (k : Nat → ClassId) : List (ClassId × FieldType) := [(k 0, .int), (k 1, .boolean), (k 2, .long)]
/-- what the tables say to every method -/
def eK (D : va_G) (k : Nat → ClassId) (U : State) : Prop := va_K D vwCl (tyk k) U ∧ nestK U
theorem eK_warm {D : va_G} {k : Nat → ClassId} {s U : State} (hW : s.WarmedH U.vm) (h : eK D k s) : eK D k U := ⟨va_K.moved hW.alike h.1, nestK_warm hW h.2⟩
theorem eK_calling {D : va_G} {k : Nat → ClassId} {U : State} {g : JFrame} {mk : MethodId} {a : Array Value} (h : eK D k U) : eK D k (U.calling g mk a) := ⟨va_K.moved (u := U) (U := U.calling g mk a) (Vm.Alike.refl U.vm) h.1, nestK_same (u := U) (U := U.calling g mk a) rfl h.2⟩
def pP (D : va_G) (k : Nat → ClassId) (w : va_W) (U : State) : Prop := eK D k U ∧ va_P D vwCl w U.heap
def mP (D : va_G) (k : Nat → ClassId) (w : va_W) (U : State) : Prop := eK D k U ∧ va_P D vwCl w U.heap ∧ va_D (fun _ => True) w
theorem pP_blind {D : va_G} {k : Nat → ClassId} {w : va_W} {av : List Value} : FrameBlind (va_Pc av (pP D k w)) := fun _ _ _ _ h => ⟨h.1, eK_calling h.2.1, h.2.2⟩
theorem mP_blind {D : va_G} {k : Nat → ClassId} {w : va_W} {av : List Value} : FrameBlind (va_Pc av (mP D k w)) := fun _ _ _ _ h => ⟨h.1, eK_calling h.2.1, h.2.2⟩
/-- it answers v and writes nothing -/
def rQ (v : Option Value) : Array Value → State → Outcome → State → Prop := fun _ st o t => o = .returned v ∧ t.heap = st.heap
def va_in (w : va_W) : Nat → Prop := fun q => ∃ (i : Nat) (e : va_E), w[i]? = some (q, e)
/-- it answers v; the world is w then; nothing outside A is written -/
def mQ (D : va_G) (v : Option Value) (w : va_W) (A : Nat → Prop) : Array Value → State → Outcome → State → Prop := fun _ st o t => o = .returned v ∧ va_P D vwCl w t.heap ∧ va_F A st t
abbrev PM (l : Launch) (y : MethodName) (cc : ByteArray) (n : Nat) (r : Option FieldType) (rm : Room) (D : va_G) (k : Nat → ClassId) (w : va_W) (av : List Value) (v : Option Value) : Prop := Met l y (ws_ y cc n r) rm (va_Pc av (pP D k w)) (rQ v) 0 0 (fun _ => False)
abbrev MM (l : Launch) (y : MethodName) (cc : ByteArray) (n : Nat) (r : Option FieldType) (rm : Room) (D : va_G) (k : Nat → ClassId) (w : va_W) (av : List Value) (v : Option Value) (w' : va_W) : Prop := Met l y (ws_ y cc n r) rm (va_Pc av (mP D k w)) (mQ D v w' (va_in w)) 0 0 (va_in w)
theorem va_in_D {w : va_W} (h : va_D (fun _ => True) w) : va_D (va_in w) w := ⟨h.1, fun i q hq => ⟨i, q.2, hq⟩⟩
theorem fst_at {ws ws' : va_W} (hs : ws'.map Prod.fst = ws.map Prod.fst) {i : Nat} {q : Nat × va_E} (h : ws'[i]? = some q) : ∃ q0, ws[i]? = some q0 ∧ q0.1 = q.1 := by
  have h1 : (ws.map Prod.fst)[i]? = some q.1 := by rw [← hs, List.getElem?_map, h]; rfl
  rw [List.getElem?_map] at h1
  cases h2 : ws[i]? with
  | none => rw [h2] at h1; cases h1
  | some q0 => rw [h2] at h1; exact ⟨q0, rfl, Option.some.inj h1⟩
theorem vaD_same {A : Nat → Prop} {ws ws' : va_W} (hD : va_D A ws) (hs : ws'.map Prod.fst = ws.map Prod.fst) : va_D A ws' := by
  refine ⟨fun i j x y hi hj hxy => ?_, fun i q hq => ?_⟩
  · obtain ⟨x0, h1, h2⟩ := fst_at hs hi
    obtain ⟨y0, h3, h4⟩ := fst_at hs hj
    exact hD.1 i j x0 y0 h1 h3 (h2.trans (hxy.trans h4.symm))
  · obtain ⟨q0, h1, h2⟩ := fst_at hs hq
    rw [← h2]
    exact hD.2 i q0 h1
theorem set_same {ws : va_W} {i a : Nat} {e e' : va_E} (h : ws[i]? = some (a, e)) : (ws.set i (a, e')).map Prod.fst = ws.map Prod.fst := by
  apply List.ext_getElem?
  intro j
  rw [List.getElem?_map, List.getElem?_map]
  by_cases hj : j = i
  · subst hj
    have hl := (List.getElem?_eq_some_iff.mp h).1
    rw [List.getElem?_set_self hl, h]
    rfl
  · rw [List.getElem?_set_ne (Ne.symm hj)]
/-- the two halves of a world change places -/
theorem vaP_swap {D : va_G} {cl : List vw_C} {w1 w2 : va_W} {H : Heap} (h : va_P D cl (w1 ++ w2) H) : va_P D cl (w2 ++ w1) H := by
  intro i q hq
  rcases List.mem_append.mp (List.mem_of_getElem? hq) with h1 | h1
  · obtain ⟨j, hj⟩ := List.getElem?_of_mem (List.mem_append_right w1 h1)
    exact h j q hj
  · obtain ⟨j, hj⟩ := List.getElem?_of_mem (List.mem_append_left w2 h1)
    exact h j q hj
theorem vaD_swap {A : Nat → Prop} {w1 w2 : va_W} (h : va_D A (w1 ++ w2)) : va_D A (w2 ++ w1) := by
  have key : ∀ (i : Nat) (q : Nat × va_E), (w2 ++ w1)[i]? = some q → ∃ j, (w1 ++ w2)[j]? = some q ∧ ((i < w2.length ∧ j = w1.length + i) ∨ (w2.length ≤ i ∧ j = i - w2.length ∧ j < w1.length)) := by
    intro i q hq
    by_cases hi : i < w2.length
    · rw [List.getElem?_append_left hi] at hq
      exact ⟨w1.length + i, by rw [List.getElem?_append_right (Nat.le_add_right _ _), Nat.add_sub_cancel_left]; exact hq, Or.inl ⟨hi, rfl⟩⟩
    · rw [List.getElem?_append_right (by omega)] at hq
      have hl := (List.getElem?_eq_some_iff.mp hq).1
      exact ⟨i - w2.length, by rw [List.getElem?_append_left hl]; exact hq, Or.inr ⟨by omega, rfl, hl⟩⟩
  refine ⟨fun i j x y hi hj hxy => ?_, fun i q hq => ?_⟩
  · obtain ⟨i1, h1, c1⟩ := key i x hi
    obtain ⟨j1, h2, c2⟩ := key j y hj
    have e := h.1 i1 j1 x y h1 h2 hxy
    omega
  · obtain ⟨j, h1, -⟩ := key i q hq
    exact h.2 j q h1
section KW
variable {p : Program} {l : Launch} {e : Env} {R : Room} {s : State} {m : MethodId} {args : Array Value} {below : List Frame} {meth : Method} {c : Code} {H : Heap} {locs : List Loc} {cells slots : Nat} {Q : State → Prop}
variable {cc bytes : ByteArray} {pc nL maxL index : Nat} {own C : String} {y : MethodName} {ret : Option FieldType} {rm : Room} {D : va_G} {k : Nat → ClassId} {ws ws' : va_W} {A : Nat → Prop} {H0 : Heap} {ls : Array Slot} {st rest As : List Value} {b a : Nat} {g : JFrame}
theorem c_pure {v : Option Value} {ar : Array Value} (hr : CallRun p l e R s m args below meth c H locs cells slots 0 0 g rest (rQ v ar) (fun _ => False)) (kk : W p l e R s m args below meth c H locs cells slots Q { g with pc := g.pc + 3, stack := v.toList ++ rest }) : W p l e R s m args below meth c H locs cells slots Q g := by
  intro T hT X
  obtain ⟨v', st₀, t, T', L, h0, X', hL, e1, ⟨hv, hh⟩, st⟩ := hr T hT X
  cases hv
  obtain ⟨t2, a1, b1⟩ := kk T' (by rw [e1, hh, h0]) (Stand.forget X' (fun q h => (hL q h).elim))
  exact ⟨t2, st t2 a1, b1⟩
theorem c_mut {v : Option Value} {ar : Array Value} (hr : CallRun p l e R s m args below meth c H locs cells slots 0 0 g rest (mQ D v ws' (va_in ws) ar) (va_in ws)) (hD : va_D A ws) (hS : va_S A H0 H locs) (hs : ws'.map Prod.fst = ws.map Prod.fst)
    (kk : ∀ (H1 : Heap) (locs1 : List Loc), va_P D vwCl ws' H1 → va_D A ws' → va_S A H0 H1 locs1 → W p l e R s m args below meth c H1 locs1 cells slots Q { g with pc := g.pc + 3, stack := v.toList ++ rest }) : W p l e R s m args below meth c H locs cells slots Q g := by
  intro T hT X
  obtain ⟨v', st₀, t, T', L, h0, X', hL, e1, ⟨hv, hp, hz, hk⟩, st⟩ := hr T hT X
  cases hv
  rw [h0] at hz hk
  have hin : ∀ q, va_in ws q → A q := fun q h => by
    obtain ⟨i, e9, h9⟩ := h
    exact hD.2 i (q, e9) h9
  obtain ⟨t2, a1, b1⟩ := kk T'.heap (locs ++ L) (by rw [e1]; exact hp) (vaD_same hD hs)
    ⟨Nat.le_trans hS.1 (by rw [e1]; exact hz), fun q h1 h2 => by rw [e1, hk q (Nat.lt_of_lt_of_le h1 hS.1) (fun z => h2 (hin q z))]; exact hS.2.1 q h1 h2, fun q hq => by
      rcases List.mem_append.mp hq with h | h
      · exact hS.2.2 q h
      · exact hin _ (hL q h)⟩ T' rfl X'
  exact ⟨t2, st t2 a1, b1⟩

theorem c_pVi {r : Int32} (hC : CallFix p m c cc nL s args lw_all own) (hE : eK D k s) (hP : va_P D vwCl ws H) (hM : PM l y bytes maxL ret rm D k ws (.ref b :: As) (some (.int r))) (hG : GoodIn lw_all (wsV own index C y (ws_ y bytes maxL ret))) (hd : y.cls = C ∧ y.cls ≠ "java/lang/invoke/MethodHandle" ∧ y.cls ≠ "java/lang/invoke/VarHandle" ∧ (parseMethodDescriptor y.desc).map (fun d => d.parameters.length) = some As.length) (hr0 : rm.cells = 0 ∧ rm.slots = 0) (hR : rm.frames + 1 ≤ R.frames ∧ 8 + (maxL + 11) + rm.locals ≤ R.locals) (q0 : Nat) {ci : Nat} {fs : List Value} {T0 : u_T} {N0 : Nat} (hrc : ws[q0]? = some (b, .inr (ci, fs))) (hcl : vwCl[ci]? = some (C, T0, N0)) (hst : st = As.reverse ++ .ref b :: rest) (hls : ls.size = nL) (hroom : (rest.map fun v => v.category).sum ≤ 8) (hf : cells ≤ R.cells ∧ slots ≤ R.slots) (hdg : decode cc pc = .ok (.invokevirtual index, 3))
    (kk : W p l e R s m args below meth c H locs cells slots Q (F0 m (pc + 3) ls (.int r :: rest))) : W p l e R s m args below meth c H locs cells slots Q (F0 m pc ls st) := by
  subst hst
  exact c_pure (W.runV (As := As) (rest := rest) hC hM (cwV _ hC.2.2.2.2 hG rfl hr0.1 hr0.2 hd hR) ⟨pP_blind, va_recv hE.1 hP hcl hrc, fun U hU hW => ⟨rfl, eK_warm hW hE, by rw [hU]; exact hP⟩⟩ rfl rfl hls rfl (lv_room hroom) hdg hf) kk
theorem c_pVl {r : Int64} (hC : CallFix p m c cc nL s args lw_all own) (hE : eK D k s) (hP : va_P D vwCl ws H) (hM : PM l y bytes maxL ret rm D k ws (.ref b :: As) (some (.long r))) (hG : GoodIn lw_all (wsV own index C y (ws_ y bytes maxL ret))) (hd : y.cls = C ∧ y.cls ≠ "java/lang/invoke/MethodHandle" ∧ y.cls ≠ "java/lang/invoke/VarHandle" ∧ (parseMethodDescriptor y.desc).map (fun d => d.parameters.length) = some As.length) (hr0 : rm.cells = 0 ∧ rm.slots = 0) (hR : rm.frames + 1 ≤ R.frames ∧ 8 + (maxL + 11) + rm.locals ≤ R.locals) (q0 : Nat) {ci : Nat} {fs : List Value} {T0 : u_T} {N0 : Nat} (hrc : ws[q0]? = some (b, .inr (ci, fs))) (hcl : vwCl[ci]? = some (C, T0, N0)) (hst : st = As.reverse ++ .ref b :: rest) (hls : ls.size = nL) (hroom : (rest.map fun v => v.category).sum ≤ 8) (hf : cells ≤ R.cells ∧ slots ≤ R.slots) (hdg : decode cc pc = .ok (.invokevirtual index, 3))
    (kk : W p l e R s m args below meth c H locs cells slots Q (F0 m (pc + 3) ls (.long r :: rest))) : W p l e R s m args below meth c H locs cells slots Q (F0 m pc ls st) := by
  subst hst
  exact c_pure (W.runV (As := As) (rest := rest) hC hM (cwV _ hC.2.2.2.2 hG rfl hr0.1 hr0.2 hd hR) ⟨pP_blind, va_recv hE.1 hP hcl hrc, fun U hU hW => ⟨rfl, eK_warm hW hE, by rw [hU]; exact hP⟩⟩ rfl rfl hls rfl (lv_room hroom) hdg hf) kk
theorem c_pVv (hC : CallFix p m c cc nL s args lw_all own) (hE : eK D k s) (hP : va_P D vwCl ws H) (hM : PM l y bytes maxL ret rm D k ws (.ref b :: As) none) (hG : GoodIn lw_all (wsV own index C y (ws_ y bytes maxL ret))) (hd : y.cls = C ∧ y.cls ≠ "java/lang/invoke/MethodHandle" ∧ y.cls ≠ "java/lang/invoke/VarHandle" ∧ (parseMethodDescriptor y.desc).map (fun d => d.parameters.length) = some As.length) (hr0 : rm.cells = 0 ∧ rm.slots = 0) (hR : rm.frames + 1 ≤ R.frames ∧ 8 + (maxL + 11) + rm.locals ≤ R.locals) (q0 : Nat) {ci : Nat} {fs : List Value} {T0 : u_T} {N0 : Nat} (hrc : ws[q0]? = some (b, .inr (ci, fs))) (hcl : vwCl[ci]? = some (C, T0, N0)) (hst : st = As.reverse ++ .ref b :: rest) (hls : ls.size = nL) (hroom : (rest.map fun v => v.category).sum ≤ 8) (hf : cells ≤ R.cells ∧ slots ≤ R.slots) (hdg : decode cc pc = .ok (.invokevirtual index, 3))
    (kk : W p l e R s m args below meth c H locs cells slots Q (F0 m (pc + 3) ls rest)) : W p l e R s m args below meth c H locs cells slots Q (F0 m pc ls st) := by
  subst hst
  exact c_pure (W.runV (As := As) (rest := rest) hC hM (cwV _ hC.2.2.2.2 hG rfl hr0.1 hr0.2 hd hR) ⟨pP_blind, va_recv hE.1 hP hcl hrc, fun U hU hW => ⟨rfl, eK_warm hW hE, by rw [hU]; exact hP⟩⟩ rfl rfl hls rfl (lv_room hroom) hdg hf) kk
theorem c_pSi {r : Int32} (hC : CallFix p m c cc nL s args lw_all own) (hE : eK D k s) (hP : va_P D vwCl ws H) (hM : PM l y bytes maxL ret rm D k ws As (some (.int r))) (hG : GoodIn lw_all (va_wsS own index y (ws_ y bytes maxL ret))) (hd : y.cls ≠ "java/lang/invoke/MethodHandle" ∧ y.cls ≠ "java/lang/invoke/VarHandle" ∧ (parseMethodDescriptor y.desc).map (fun d => d.parameters.length) = some As.length) (hr0 : rm.cells = 0 ∧ rm.slots = 0) (hR : rm.frames + 1 ≤ R.frames ∧ 8 + (maxL + 11) + rm.locals ≤ R.locals) (hst : st = As.reverse ++ rest) (hls : ls.size = nL) (hroom : (rest.map fun v => v.category).sum ≤ 8) (hf : cells ≤ R.cells ∧ slots ≤ R.slots) (hdg : decode cc pc = .ok (.invokestatic index, 3))
    (kk : W p l e R s m args below meth c H locs cells slots Q (F0 m (pc + 3) ls (.int r :: rest))) : W p l e R s m args below meth c H locs cells slots Q (F0 m pc ls st) := by
  subst hst
  exact c_pure (W.runS (As := As) (rest := rest) hC hM (va_cwS _ hC.2.2.2.2 hG rfl hr0.1 hr0.2 hd hR) ⟨pP_blind, fun U hU hW => ⟨rfl, eK_warm hW hE, by rw [hU]; exact hP⟩⟩ rfl rfl hls rfl (lv_room hroom) hdg hf) kk
theorem c_pSl {r : Int64} (hC : CallFix p m c cc nL s args lw_all own) (hE : eK D k s) (hP : va_P D vwCl ws H) (hM : PM l y bytes maxL ret rm D k ws As (some (.long r))) (hG : GoodIn lw_all (va_wsS own index y (ws_ y bytes maxL ret))) (hd : y.cls ≠ "java/lang/invoke/MethodHandle" ∧ y.cls ≠ "java/lang/invoke/VarHandle" ∧ (parseMethodDescriptor y.desc).map (fun d => d.parameters.length) = some As.length) (hr0 : rm.cells = 0 ∧ rm.slots = 0) (hR : rm.frames + 1 ≤ R.frames ∧ 8 + (maxL + 11) + rm.locals ≤ R.locals) (hst : st = As.reverse ++ rest) (hls : ls.size = nL) (hroom : (rest.map fun v => v.category).sum ≤ 8) (hf : cells ≤ R.cells ∧ slots ≤ R.slots) (hdg : decode cc pc = .ok (.invokestatic index, 3))
    (kk : W p l e R s m args below meth c H locs cells slots Q (F0 m (pc + 3) ls (.long r :: rest))) : W p l e R s m args below meth c H locs cells slots Q (F0 m pc ls st) := by
  subst hst
  exact c_pure (W.runS (As := As) (rest := rest) hC hM (va_cwS _ hC.2.2.2.2 hG rfl hr0.1 hr0.2 hd hR) ⟨pP_blind, fun U hU hW => ⟨rfl, eK_warm hW hE, by rw [hU]; exact hP⟩⟩ rfl rfl hls rfl (lv_room hroom) hdg hf) kk
theorem c_pSv (hC : CallFix p m c cc nL s args lw_all own) (hE : eK D k s) (hP : va_P D vwCl ws H) (hM : PM l y bytes maxL ret rm D k ws As none) (hG : GoodIn lw_all (va_wsS own index y (ws_ y bytes maxL ret))) (hd : y.cls ≠ "java/lang/invoke/MethodHandle" ∧ y.cls ≠ "java/lang/invoke/VarHandle" ∧ (parseMethodDescriptor y.desc).map (fun d => d.parameters.length) = some As.length) (hr0 : rm.cells = 0 ∧ rm.slots = 0) (hR : rm.frames + 1 ≤ R.frames ∧ 8 + (maxL + 11) + rm.locals ≤ R.locals) (hst : st = As.reverse ++ rest) (hls : ls.size = nL) (hroom : (rest.map fun v => v.category).sum ≤ 8) (hf : cells ≤ R.cells ∧ slots ≤ R.slots) (hdg : decode cc pc = .ok (.invokestatic index, 3))
    (kk : W p l e R s m args below meth c H locs cells slots Q (F0 m (pc + 3) ls rest)) : W p l e R s m args below meth c H locs cells slots Q (F0 m pc ls st) := by
  subst hst
  exact c_pure (W.runS (As := As) (rest := rest) hC hM (va_cwS _ hC.2.2.2.2 hG rfl hr0.1 hr0.2 hd hR) ⟨pP_blind, fun U hU hW => ⟨rfl, eK_warm hW hE, by rw [hU]; exact hP⟩⟩ rfl rfl hls rfl (lv_room hroom) hdg hf) kk
theorem c_mVi {r : Int32} (hC : CallFix p m c cc nL s args lw_all own) (hE : eK D k s) (hP : va_P D vwCl ws H) (hD : va_D A ws) (hS : va_S A H0 H locs) (hs : ws'.map Prod.fst = ws.map Prod.fst) (hM : MM l y bytes maxL ret rm D k ws (.ref b :: As) (some (.int r)) ws') (hG : GoodIn lw_all (wsV own index C y (ws_ y bytes maxL ret))) (hd : y.cls = C ∧ y.cls ≠ "java/lang/invoke/MethodHandle" ∧ y.cls ≠ "java/lang/invoke/VarHandle" ∧ (parseMethodDescriptor y.desc).map (fun d => d.parameters.length) = some As.length) (hr0 : rm.cells = 0 ∧ rm.slots = 0) (hR : rm.frames + 1 ≤ R.frames ∧ 8 + (maxL + 11) + rm.locals ≤ R.locals) (q0 : Nat) {ci : Nat} {fs : List Value} {T0 : u_T} {N0 : Nat} (hrc : ws[q0]? = some (b, .inr (ci, fs))) (hcl : vwCl[ci]? = some (C, T0, N0)) (hst : st = As.reverse ++ .ref b :: rest) (hls : ls.size = nL) (hroom : (rest.map fun v => v.category).sum ≤ 8) (hf : cells ≤ R.cells ∧ slots ≤ R.slots) (hdg : decode cc pc = .ok (.invokevirtual index, 3))
    (kk : ∀ (H1 : Heap) (locs1 : List Loc), va_P D vwCl ws' H1 → va_D A ws' → va_S A H0 H1 locs1 → W p l e R s m args below meth c H1 locs1 cells slots Q (F0 m (pc + 3) ls (.int r :: rest))) : W p l e R s m args below meth c H locs cells slots Q (F0 m pc ls st) := by
  subst hst
  exact c_mut (W.runV (As := As) (rest := rest) hC hM (cwV _ hC.2.2.2.2 hG rfl hr0.1 hr0.2 hd hR) ⟨mP_blind, va_recv hE.1 hP hcl hrc, fun U hU hW => ⟨rfl, eK_warm hW hE, by rw [hU]; exact hP, hD.weaken (fun _ _ _ _ => trivial)⟩⟩ rfl rfl hls rfl (lv_room hroom) hdg hf) hD hS hs kk
theorem c_mVl {r : Int64} (hC : CallFix p m c cc nL s args lw_all own) (hE : eK D k s) (hP : va_P D vwCl ws H) (hD : va_D A ws) (hS : va_S A H0 H locs) (hs : ws'.map Prod.fst = ws.map Prod.fst) (hM : MM l y bytes maxL ret rm D k ws (.ref b :: As) (some (.long r)) ws') (hG : GoodIn lw_all (wsV own index C y (ws_ y bytes maxL ret))) (hd : y.cls = C ∧ y.cls ≠ "java/lang/invoke/MethodHandle" ∧ y.cls ≠ "java/lang/invoke/VarHandle" ∧ (parseMethodDescriptor y.desc).map (fun d => d.parameters.length) = some As.length) (hr0 : rm.cells = 0 ∧ rm.slots = 0) (hR : rm.frames + 1 ≤ R.frames ∧ 8 + (maxL + 11) + rm.locals ≤ R.locals) (q0 : Nat) {ci : Nat} {fs : List Value} {T0 : u_T} {N0 : Nat} (hrc : ws[q0]? = some (b, .inr (ci, fs))) (hcl : vwCl[ci]? = some (C, T0, N0)) (hst : st = As.reverse ++ .ref b :: rest) (hls : ls.size = nL) (hroom : (rest.map fun v => v.category).sum ≤ 8) (hf : cells ≤ R.cells ∧ slots ≤ R.slots) (hdg : decode cc pc = .ok (.invokevirtual index, 3))
    (kk : ∀ (H1 : Heap) (locs1 : List Loc), va_P D vwCl ws' H1 → va_D A ws' → va_S A H0 H1 locs1 → W p l e R s m args below meth c H1 locs1 cells slots Q (F0 m (pc + 3) ls (.long r :: rest))) : W p l e R s m args below meth c H locs cells slots Q (F0 m pc ls st) := by
  subst hst
  exact c_mut (W.runV (As := As) (rest := rest) hC hM (cwV _ hC.2.2.2.2 hG rfl hr0.1 hr0.2 hd hR) ⟨mP_blind, va_recv hE.1 hP hcl hrc, fun U hU hW => ⟨rfl, eK_warm hW hE, by rw [hU]; exact hP, hD.weaken (fun _ _ _ _ => trivial)⟩⟩ rfl rfl hls rfl (lv_room hroom) hdg hf) hD hS hs kk
theorem c_mVv (hC : CallFix p m c cc nL s args lw_all own) (hE : eK D k s) (hP : va_P D vwCl ws H) (hD : va_D A ws) (hS : va_S A H0 H locs) (hs : ws'.map Prod.fst = ws.map Prod.fst) (hM : MM l y bytes maxL ret rm D k ws (.ref b :: As) none ws') (hG : GoodIn lw_all (wsV own index C y (ws_ y bytes maxL ret))) (hd : y.cls = C ∧ y.cls ≠ "java/lang/invoke/MethodHandle" ∧ y.cls ≠ "java/lang/invoke/VarHandle" ∧ (parseMethodDescriptor y.desc).map (fun d => d.parameters.length) = some As.length) (hr0 : rm.cells = 0 ∧ rm.slots = 0) (hR : rm.frames + 1 ≤ R.frames ∧ 8 + (maxL + 11) + rm.locals ≤ R.locals) (q0 : Nat) {ci : Nat} {fs : List Value} {T0 : u_T} {N0 : Nat} (hrc : ws[q0]? = some (b, .inr (ci, fs))) (hcl : vwCl[ci]? = some (C, T0, N0)) (hst : st = As.reverse ++ .ref b :: rest) (hls : ls.size = nL) (hroom : (rest.map fun v => v.category).sum ≤ 8) (hf : cells ≤ R.cells ∧ slots ≤ R.slots) (hdg : decode cc pc = .ok (.invokevirtual index, 3))
    (kk : ∀ (H1 : Heap) (locs1 : List Loc), va_P D vwCl ws' H1 → va_D A ws' → va_S A H0 H1 locs1 → W p l e R s m args below meth c H1 locs1 cells slots Q (F0 m (pc + 3) ls rest)) : W p l e R s m args below meth c H locs cells slots Q (F0 m pc ls st) := by
  subst hst
  exact c_mut (W.runV (As := As) (rest := rest) hC hM (cwV _ hC.2.2.2.2 hG rfl hr0.1 hr0.2 hd hR) ⟨mP_blind, va_recv hE.1 hP hcl hrc, fun U hU hW => ⟨rfl, eK_warm hW hE, by rw [hU]; exact hP, hD.weaken (fun _ _ _ _ => trivial)⟩⟩ rfl rfl hls rfl (lv_room hroom) hdg hf) hD hS hs kk
theorem c_mSi {r : Int32} (hC : CallFix p m c cc nL s args lw_all own) (hE : eK D k s) (hP : va_P D vwCl ws H) (hD : va_D A ws) (hS : va_S A H0 H locs) (hs : ws'.map Prod.fst = ws.map Prod.fst) (hM : MM l y bytes maxL ret rm D k ws As (some (.int r)) ws') (hG : GoodIn lw_all (va_wsS own index y (ws_ y bytes maxL ret))) (hd : y.cls ≠ "java/lang/invoke/MethodHandle" ∧ y.cls ≠ "java/lang/invoke/VarHandle" ∧ (parseMethodDescriptor y.desc).map (fun d => d.parameters.length) = some As.length) (hr0 : rm.cells = 0 ∧ rm.slots = 0) (hR : rm.frames + 1 ≤ R.frames ∧ 8 + (maxL + 11) + rm.locals ≤ R.locals) (hst : st = As.reverse ++ rest) (hls : ls.size = nL) (hroom : (rest.map fun v => v.category).sum ≤ 8) (hf : cells ≤ R.cells ∧ slots ≤ R.slots) (hdg : decode cc pc = .ok (.invokestatic index, 3))
    (kk : ∀ (H1 : Heap) (locs1 : List Loc), va_P D vwCl ws' H1 → va_D A ws' → va_S A H0 H1 locs1 → W p l e R s m args below meth c H1 locs1 cells slots Q (F0 m (pc + 3) ls (.int r :: rest))) : W p l e R s m args below meth c H locs cells slots Q (F0 m pc ls st) := by
  subst hst
  exact c_mut (W.runS (As := As) (rest := rest) hC hM (va_cwS _ hC.2.2.2.2 hG rfl hr0.1 hr0.2 hd hR) ⟨mP_blind, fun U hU hW => ⟨rfl, eK_warm hW hE, by rw [hU]; exact hP, hD.weaken (fun _ _ _ _ => trivial)⟩⟩ rfl rfl hls rfl (lv_room hroom) hdg hf) hD hS hs kk
theorem c_mSl {r : Int64} (hC : CallFix p m c cc nL s args lw_all own) (hE : eK D k s) (hP : va_P D vwCl ws H) (hD : va_D A ws) (hS : va_S A H0 H locs) (hs : ws'.map Prod.fst = ws.map Prod.fst) (hM : MM l y bytes maxL ret rm D k ws As (some (.long r)) ws') (hG : GoodIn lw_all (va_wsS own index y (ws_ y bytes maxL ret))) (hd : y.cls ≠ "java/lang/invoke/MethodHandle" ∧ y.cls ≠ "java/lang/invoke/VarHandle" ∧ (parseMethodDescriptor y.desc).map (fun d => d.parameters.length) = some As.length) (hr0 : rm.cells = 0 ∧ rm.slots = 0) (hR : rm.frames + 1 ≤ R.frames ∧ 8 + (maxL + 11) + rm.locals ≤ R.locals) (hst : st = As.reverse ++ rest) (hls : ls.size = nL) (hroom : (rest.map fun v => v.category).sum ≤ 8) (hf : cells ≤ R.cells ∧ slots ≤ R.slots) (hdg : decode cc pc = .ok (.invokestatic index, 3))
    (kk : ∀ (H1 : Heap) (locs1 : List Loc), va_P D vwCl ws' H1 → va_D A ws' → va_S A H0 H1 locs1 → W p l e R s m args below meth c H1 locs1 cells slots Q (F0 m (pc + 3) ls (.long r :: rest))) : W p l e R s m args below meth c H locs cells slots Q (F0 m pc ls st) := by
  subst hst
  exact c_mut (W.runS (As := As) (rest := rest) hC hM (va_cwS _ hC.2.2.2.2 hG rfl hr0.1 hr0.2 hd hR) ⟨mP_blind, fun U hU hW => ⟨rfl, eK_warm hW hE, by rw [hU]; exact hP, hD.weaken (fun _ _ _ _ => trivial)⟩⟩ rfl rfl hls rfl (lv_room hroom) hdg hf) hD hS hs kk
theorem c_mSv (hC : CallFix p m c cc nL s args lw_all own) (hE : eK D k s) (hP : va_P D vwCl ws H) (hD : va_D A ws) (hS : va_S A H0 H locs) (hs : ws'.map Prod.fst = ws.map Prod.fst) (hM : MM l y bytes maxL ret rm D k ws As none ws') (hG : GoodIn lw_all (va_wsS own index y (ws_ y bytes maxL ret))) (hd : y.cls ≠ "java/lang/invoke/MethodHandle" ∧ y.cls ≠ "java/lang/invoke/VarHandle" ∧ (parseMethodDescriptor y.desc).map (fun d => d.parameters.length) = some As.length) (hr0 : rm.cells = 0 ∧ rm.slots = 0) (hR : rm.frames + 1 ≤ R.frames ∧ 8 + (maxL + 11) + rm.locals ≤ R.locals) (hst : st = As.reverse ++ rest) (hls : ls.size = nL) (hroom : (rest.map fun v => v.category).sum ≤ 8) (hf : cells ≤ R.cells ∧ slots ≤ R.slots) (hdg : decode cc pc = .ok (.invokestatic index, 3))
    (kk : ∀ (H1 : Heap) (locs1 : List Loc), va_P D vwCl ws' H1 → va_D A ws' → va_S A H0 H1 locs1 → W p l e R s m args below meth c H1 locs1 cells slots Q (F0 m (pc + 3) ls rest)) : W p l e R s m args below meth c H locs cells slots Q (F0 m pc ls st) := by
  subst hst
  exact c_mut (W.runS (As := As) (rest := rest) hC hM (va_cwS _ hC.2.2.2.2 hG rfl hr0.1 hr0.2 hd hR) ⟨mP_blind, fun U hU hW => ⟨rfl, eK_warm hW hE, by rw [hU]; exact hP, hD.weaken (fun _ _ _ _ => trivial)⟩⟩ rfl rfl hls rfl (lv_room hroom) hdg hf) hD hS hs kk
theorem p_iret {r v : Int32} (hx : p.tables.exec = Jvm.exec) (hb : c.code = cc) (hr : meth.sig.returnType = some .int) (hlk : meth.locks = false) (hdg : decode cc pc = .ok (.ireturn, 1)) (ev : r = v) : W p l e R s m args below meth c s.heap [] 0 0 (MQ below (rQ (some (.int r))) args s 0 0 (fun _ => False)) (F0 m pc ls [.int v]) := by
  subst ev
  exact W.iret hx hb hr (fun t ht hW => ⟨rfl, ht⟩) (fun q h => nomatch h) hdg hlk
theorem p_zret {r v : Int32} (hx : p.tables.exec = Jvm.exec) (hb : c.code = cc) (hr : meth.sig.returnType = some .boolean) (hn : narrow .boolean (.int v) = .int v) (hlk : meth.locks = false) (hdg : decode cc pc = .ok (.ireturn, 1)) (ev : r = v) : W p l e R s m args below meth c s.heap [] 0 0 (MQ below (rQ (some (.int r))) args s 0 0 (fun _ => False)) (F0 m pc ls [.int v]) := by
  subst ev
  exact W.zret hx hb hr hn (fun t ht hW => ⟨rfl, ht⟩) (fun q h => nomatch h) hdg hlk
theorem p_lret {r v : Int64} (hx : p.tables.exec = Jvm.exec) (hb : c.code = cc) (hr : meth.sig.returnType = some .long) (hlk : meth.locks = false) (hdg : decode cc pc = .ok (.lreturn, 1)) (ev : r = v) : W p l e R s m args below meth c s.heap [] 0 0 (MQ below (rQ (some (.long r))) args s 0 0 (fun _ => False)) (F0 m pc ls [.long v]) := by
  subst ev
  exact W.lret hx hb hr (fun t ht hW => ⟨rfl, ht⟩) (fun q h => nomatch h) hdg hlk
theorem p_vret (hx : p.tables.exec = Jvm.exec) (hb : c.code = cc) (hr : meth.sig.returnType = none) (hlk : meth.locks = false) (hdg : decode cc pc = .ok (.return_, 1)) : W p l e R s m args below meth c s.heap [] 0 0 (MQ below (rQ none) args s 0 0 (fun _ => False)) (F0 m pc ls []) := by
  exact W.vret hx hb hr (fun t ht hW => ⟨rfl, ht⟩) (fun q h => nomatch h) hdg hlk
theorem m_iret {r v : Int32} (hx : p.tables.exec = Jvm.exec) (hb : c.code = cc) (hr : meth.sig.returnType = some .int) (hlk : meth.locks = false) (hdg : decode cc pc = .ok (.ireturn, 1)) (hP : va_P D vwCl ws' H) (hS : va_S A s.heap H locs) (ev : r = v) : W p l e R s m args below meth c H locs 0 0 (MQ below (mQ D (some (.int r)) ws' A) args s 0 0 A) (F0 m pc ls [.int v]) := by
  subst ev
  exact W.iret hx hb hr (fun t ht hW => ⟨rfl, by rw [ht]; exact hP, hS.F ht⟩) hS.2.2 hdg hlk
theorem m_zret {r v : Int32} (hx : p.tables.exec = Jvm.exec) (hb : c.code = cc) (hr : meth.sig.returnType = some .boolean) (hn : narrow .boolean (.int v) = .int v) (hlk : meth.locks = false) (hdg : decode cc pc = .ok (.ireturn, 1)) (hP : va_P D vwCl ws' H) (hS : va_S A s.heap H locs) (ev : r = v) : W p l e R s m args below meth c H locs 0 0 (MQ below (mQ D (some (.int r)) ws' A) args s 0 0 A) (F0 m pc ls [.int v]) := by
  subst ev
  exact W.zret hx hb hr hn (fun t ht hW => ⟨rfl, by rw [ht]; exact hP, hS.F ht⟩) hS.2.2 hdg hlk
theorem m_lret {r v : Int64} (hx : p.tables.exec = Jvm.exec) (hb : c.code = cc) (hr : meth.sig.returnType = some .long) (hlk : meth.locks = false) (hdg : decode cc pc = .ok (.lreturn, 1)) (hP : va_P D vwCl ws' H) (hS : va_S A s.heap H locs) (ev : r = v) : W p l e R s m args below meth c H locs 0 0 (MQ below (mQ D (some (.long r)) ws' A) args s 0 0 A) (F0 m pc ls [.long v]) := by
  subst ev
  exact W.lret hx hb hr (fun t ht hW => ⟨rfl, by rw [ht]; exact hP, hS.F ht⟩) hS.2.2 hdg hlk
theorem m_vret (hx : p.tables.exec = Jvm.exec) (hb : c.code = cc) (hr : meth.sig.returnType = none) (hlk : meth.locks = false) (hdg : decode cc pc = .ok (.return_, 1)) (hP : va_P D vwCl ws' H) (hS : va_S A s.heap H locs) : W p l e R s m args below meth c H locs 0 0 (MQ below (mQ D none ws' A) args s 0 0 A) (F0 m pc ls []) := by
  exact W.vret hx hb hr (fun t ht hW => ⟨rfl, by rw [ht]; exact hP, hS.F ht⟩) hS.2.2 hdg hlk
/-- a value on the stack under another name -/
theorem w_top {x y : Int32} (ev : x = y) (kk : W p l e R s m args below meth c H locs cells slots Q (F0 m pc ls (.int y :: rest))) : W p l e R s m args below meth c H locs cells slots Q (F0 m pc ls (.int x :: rest)) := by
  subst ev
  exact kk
theorem w_join {g' : JFrame} (k9 : W p l e R s m args below meth c H locs cells slots Q g') (f : W p l e R s m args below meth c H locs cells slots Q g' → W p l e R s m args below meth c H locs cells slots Q g) : W p l e R s m args below meth c H locs cells slots Q g := f k9
theorem k_iald {n : Nat} {f : Nat → Int32} (hx : p.tables.exec = Jvm.exec) (hb : c.code = cc) (hE : eK D k s) (hP : va_P D vwCl ws H) (q0 : Nat) (ha : ws[q0]? = some (a, .inl (k 0, n, .inl f))) {j : Nat} (hj : j < n) (hn : n < 2 ^ 31) (hdg : decode cc pc = .ok (.iaload, 1))
    (kk : W p l e R s m args below meth c H locs cells slots Q (F0 m (pc + 1) ls (.int (f j) :: rest))) : W p l e R s m args below meth c H locs cells slots Q (F0 m pc ls (.int (nI j) :: .ref a :: rest)) := by
  refine va_iald hx hb hE.1 hP q0 0 ha rfl (vp_in_nI hj hn) hdg ?_
  rw [nI_clamp (Nat.lt_trans hj hn)]
  exact kk
theorem k_iast {n : Nat} {f : Nat → Int32} {x : Int32} (hx : p.tables.exec = Jvm.exec) (hb : c.code = cc) (hE : eK D k s) (hP : va_P D vwCl ws H) (hD : va_D A ws) (hS : va_S A H0 H locs) (q0 : Nat) (ha : ws[q0]? = some (a, .inl (k 0, n, .inl f))) {j : Nat} (hj : j < n) (hn : n < 2 ^ 31) (hdg : decode cc pc = .ok (.iastore, 1))
    (kk : ∀ (H1 : Heap) (locs1 : List Loc), va_P D vwCl (ws.set q0 (a, .inl (k 0, n, .inl (upd f j x)))) H1 → va_D A (ws.set q0 (a, .inl (k 0, n, .inl (upd f j x)))) → va_S A H0 H1 locs1 → W p l e R s m args below meth c H1 locs1 cells slots Q (F0 m (pc + 1) ls rest)) : W p l e R s m args below meth c H locs cells slots Q (F0 m pc ls (.int x :: .int (nI j) :: .ref a :: rest)) := by
  refine va_iast hx hb hE.1 hP hD hS q0 0 ha rfl (vp_in_nI hj hn) hdg ?_
  rw [nI_clamp (Nat.lt_trans hj hn)]
  exact kk
theorem k_zald {n : Nat} {f : Nat → Int32} (hx : p.tables.exec = Jvm.exec) (hb : c.code = cc) (hE : eK D k s) (hP : va_P D vwCl ws H) (q0 : Nat) (ha : ws[q0]? = some (a, .inl (k 1, n, .inl f))) {j : Nat} (hj : j < n) (hn : n < 2 ^ 31) (hdg : decode cc pc = .ok (.baload, 1))
    (kk : W p l e R s m args below meth c H locs cells slots Q (F0 m (pc + 1) ls (.int (f j) :: rest))) : W p l e R s m args below meth c H locs cells slots Q (F0 m pc ls (.int (nI j) :: .ref a :: rest)) := by
  refine va_zald hx hb hE.1 hP q0 1 ha rfl (vp_in_nI hj hn) hdg ?_
  rw [nI_clamp (Nat.lt_trans hj hn)]
  exact kk
theorem k_zast {n : Nat} {f : Nat → Int32} {x : Int32} (hx : p.tables.exec = Jvm.exec) (hb : c.code = cc) (hE : eK D k s) (hP : va_P D vwCl ws H) (hD : va_D A ws) (hS : va_S A H0 H locs) (q0 : Nat) (ha : ws[q0]? = some (a, .inl (k 1, n, .inl f))) {j : Nat} (hj : j < n) (hn : n < 2 ^ 31) (hdg : decode cc pc = .ok (.bastore, 1))
    (kk : ∀ (H1 : Heap) (locs1 : List Loc), va_P D vwCl (ws.set q0 (a, .inl (k 1, n, .inl (upd f j (vp_nar .boolean x))))) H1 → va_D A (ws.set q0 (a, .inl (k 1, n, .inl (upd f j (vp_nar .boolean x))))) → va_S A H0 H1 locs1 → W p l e R s m args below meth c H1 locs1 cells slots Q (F0 m (pc + 1) ls rest)) : W p l e R s m args below meth c H locs cells slots Q (F0 m pc ls (.int x :: .int (nI j) :: .ref a :: rest)) := by
  refine va_zast hx hb hE.1 hP hD hS q0 1 ha rfl (vp_in_nI hj hn) hdg ?_
  rw [nI_clamp (Nat.lt_trans hj hn)]
  exact kk
theorem k_alen {n : Nat} {f : Nat → Int32} (hx : p.tables.exec = Jvm.exec) (hb : c.code = cc) (hE : eK D k s) (hP : va_P D vwCl ws H) (q0 : Nat) (ha : ws[q0]? = some (a, .inl (k 0, n, .inl f))) (hdg : decode cc pc = .ok (.arraylength, 1))
    (kk : W p l e R s m args below meth c H locs cells slots Q (F0 m (pc + 1) ls (.int (nI n) :: rest))) : W p l e R s m args below meth c H locs cells slots Q (F0 m pc ls (.ref a :: rest)) := va_alen hx hb hE.1 hP q0 0 ha rfl rfl hdg kk
/-- a loop that only reads: N turns, the locals as a function of the turn -/
theorem w_for {N : Nat} (I : Nat → Prop) (lv : Nat → List (Nat × Value)) (exit : ∀ ls, I N → lv_has ls nL (lv N) → W p l e R s m args below meth c H locs cells slots Q (F0 m pc ls st))
    (step : ∀ i, i < N → I i → (∀ ls, I (i + 1) → lv_has ls nL (lv (i + 1)) → W p l e R s m args below meth c H locs cells slots Q (F0 m pc ls st)) → ∀ ls, lv_has ls nL (lv i) → W p l e R s m args below meth c H locs cells slots Q (F0 m pc ls st)) (i0 : Nat) (hi0 : i0 ≤ N) (hI : I i0) {ls : Array Slot} (h : lv_has ls nL (lv i0)) : W p l e R s m args below meth c H locs cells slots Q (F0 m pc ls st) := by
  have key : ∀ d i, i + d = N → I i → ∀ ls, lv_has ls nL (lv i) → W p l e R s m args below meth c H locs cells slots Q (F0 m pc ls st) := by
    intro d
    induction d with
    | zero => intro i hi hI ls h; have e : i = N := by omega
              subst e; exact exit ls hI h
    | succ d ih => intro i hi hI ls h; exact step i (by omega) hI (fun ls hI h => ih (i + 1) (by omega) hI ls h) ls h
  exact key (N - i0) i0 (by omega) hI ls h
/-- a loop that writes: the world too is a function of the turn -/
theorem w_forM {N : Nat} (I : Nat → Prop) (lv : Nat → List (Nat × Value)) (w : Nat → va_W) (exit : ∀ ls H locs, I N → lv_has ls nL (lv N) → va_P D vwCl (w N) H → va_D A (w N) → va_S A H0 H locs → W p l e R s m args below meth c H locs cells slots Q (F0 m pc ls st))
    (step : ∀ i, i < N → I i → (∀ ls H locs, I (i + 1) → lv_has ls nL (lv (i + 1)) → va_P D vwCl (w (i + 1)) H → va_D A (w (i + 1)) → va_S A H0 H locs → W p l e R s m args below meth c H locs cells slots Q (F0 m pc ls st)) → ∀ ls H locs, lv_has ls nL (lv i) → va_P D vwCl (w i) H → va_D A (w i) → va_S A H0 H locs → W p l e R s m args below meth c H locs cells slots Q (F0 m pc ls st)) (i0 : Nat) (hi0 : i0 ≤ N) (hI : I i0) {ls : Array Slot} (h : lv_has ls nL (lv i0)) (hP : va_P D vwCl (w i0) H) (hD : va_D A (w i0)) (hS : va_S A H0 H locs) : W p l e R s m args below meth c H locs cells slots Q (F0 m pc ls st) := by
  have key : ∀ d i, i + d = N → I i → ∀ ls H locs, lv_has ls nL (lv i) → va_P D vwCl (w i) H → va_D A (w i) → va_S A H0 H locs → W p l e R s m args below meth c H locs cells slots Q (F0 m pc ls st) := by
    intro d
    induction d with
    | zero => intro i hi hI ls H locs h hP hD hS; have e : i = N := by omega
              subst e; exact exit ls H locs hI h hP hD hS
    | succ d ih => intro i hi hI ls H locs h hP hD hS; exact step i (by omega) hI (fun ls H locs hI h hP hD hS => ih (i + 1) (by omega) hI ls H locs h hP hD hS) ls H locs h hP hD hS
  exact key (N - i0) i0 (by omega) hI ls H locs h hP hD hS
theorem iinc1 (n : Nat) : nI n + Int32.ofInt 1 = nI (n + 1) := nI_1 n
end KW
theorem PM_of {l : Launch} {y : MethodName} {cc : ByteArray} {n : Nat} {r : Option FieldType} {rm : Room} {D : va_G} {k : Nat → ClassId} {w : va_W} {av : List Value} {v : Option Value} (hy : plainName y.cls = true) (hlen : (lg_sl av).length ≤ n)
    (body : ∀ (p : Program) (e : Env) (s : State) (m : MethodId) (below : List Frame) (meth : Method) (c : Code), CallFix p m c cc n s av.toArray lw_all y.cls → meth.sig.returnType = r → meth.locks = false → meth.name = y.name → eK D k s → va_P D vwCl w s.heap → ∀ ls, lv_has ls n (lv_args 0 av) →
      W p l e rm s m av.toArray below meth c s.heap [] 0 0 (MQ below (rQ v) av.toArray s 0 0 (fun _ => False)) (F0 m 0 ls [])) : PM l y cc n r rm D k w av v := by
  refine Met.ofW (cc := cc) (maxL := n) (ret := r) hy rfl ?_
  intro p e s m args below meth c s₁ B hml hv
  obtain ⟨rfl, hE, hP⟩ := hv
  have hts := atoms_spec (ws := ws_ y cc n r) B.pre
  rw [lg_entry_eq]
  exact body p e s m below meth c ⟨B.exec, B.bytes, hml, findClass_of_methodNamed B.named, fun w h => hts w (List.mem_cons_of_mem _ h)⟩ B.returns B.notSynchronized (name_of_methodNamed B.named B.method).1 hE hP _ (lv_entry av hlen)
theorem MM_of {l : Launch} {y : MethodName} {cc : ByteArray} {n : Nat} {r : Option FieldType} {rm : Room} {D : va_G} {k : Nat → ClassId} {w w' : va_W} {av : List Value} {v : Option Value} (hy : plainName y.cls = true) (hlen : (lg_sl av).length ≤ n)
    (body : ∀ (p : Program) (e : Env) (s : State) (m : MethodId) (below : List Frame) (meth : Method) (c : Code), CallFix p m c cc n s av.toArray lw_all y.cls → meth.sig.returnType = r → meth.locks = false → meth.name = y.name → eK D k s → va_P D vwCl w s.heap → va_D (va_in w) w → va_S (va_in w) s.heap s.heap [] → ∀ ls, lv_has ls n (lv_args 0 av) →
      W p l e rm s m av.toArray below meth c s.heap [] 0 0 (MQ below (mQ D v w' (va_in w)) av.toArray s 0 0 (va_in w)) (F0 m 0 ls [])) : MM l y cc n r rm D k w av v w' := by
  refine Met.ofW (cc := cc) (maxL := n) (ret := r) hy rfl ?_
  intro p e s m args below meth c s₁ B hml hv
  obtain ⟨rfl, hE, hP, hD⟩ := hv
  have hts := atoms_spec (ws := ws_ y cc n r) B.pre
  rw [lg_entry_eq]
  exact body p e s m below meth c ⟨B.exec, B.bytes, hml, findClass_of_methodNamed B.named, fun w h => hts w (List.mem_cons_of_mem _ h)⟩ B.returns B.notSynchronized (name_of_methodNamed B.named B.method).1 hE hP (va_in_D hD) va_S.rf _ (lv_entry av hlen)
end
section
/-! the states of both sides, as functions of a row's number and a place; the cells that hold them -/
abbrev HS : Type := Nat → Nat → Int32
def sf (S : HS) (i : Nat) (f : Nat → Int32) : HS := fun j => if j = i then f else S j
theorem sf_eq (S : HS) (i : Nat) (f : Nat → Int32) : sf S i f i = f := if_pos rfl
theorem sf_ne (S : HS) {i j : Nat} (f : Nat → Int32) (h : j ≠ i) : sf S i f j = S j := if_neg h
/-- a choice without an instance -/
noncomputable def sel {α : Type} (P : Prop) (a b : α) : α := @ite α P (Classical.propDecidable P) a b
theorem sel_t {α : Type} {P : Prop} (h : P) (a b : α) : sel P a b = a := if_pos h
theorem sel_f {α : Type} {P : Prop} (h : ¬ P) (a b : α) : sel P a b = b := if_neg h
noncomputable def bI (P : Prop) : Int32 := sel P 1 0
theorem bI_t {P : Prop} (h : P) : bI P = 1 := sel_t h _ _
theorem bI_f {P : Prop} (h : ¬ P) : bI P = 0 := sel_f h _ _
theorem bI_0 {P : Prop} (h : bI P = 0) : ¬ P := fun q => absurd (h.symm.trans (bI_t q)) (by decide)
theorem bI_n {P : Prop} (h : ¬ bI P = 0) : P := Classical.byContradiction (fun q => h (bI_f q))
theorem bI_narrow (P : Prop) : narrow .boolean (.int (bI P)) = .int (bI P) := by
  by_cases h : P
  · rw [bI_t h]; rfl
  · rw [bI_f h]; rfl
theorem bI_cong {P Q : Prop} (h : P ↔ Q) : bI P = bI Q := by rw [propext h]
noncomputable def bN (P : Prop) : Nat := sel P 1 0
/-- how many of the first n -/
noncomputable def ct (p : Nat → Prop) : Nat → Nat
  | 0 => 0
  | n + 1 => ct p n + bN (p n)
theorem ct_t {p : Nat → Prop} {n : Nat} (h : p n) : ct p (n + 1) = ct p n + 1 := by show ct p n + bN (p n) = _; rw [bN, sel_t h]
theorem ct_f {p : Nat → Prop} {n : Nat} (h : ¬ p n) : ct p (n + 1) = ct p n := by show ct p n + bN (p n) = _; rw [bN, sel_f h]; rfl
theorem ct_le (p : Nat → Prop) : ∀ n, ct p n ≤ n
  | 0 => Nat.le_refl _
  | n + 1 => by
    by_cases h : p n
    · rw [ct_t h]; exact Nat.succ_le_succ (ct_le p n)
    · rw [ct_f h]; exact Nat.le_succ_of_le (ct_le p n)
theorem ct_cong {p q : Nat → Prop} : ∀ {n : Nat}, (∀ k, k < n → (p k ↔ q k)) → ct p n = ct q n
  | 0, _ => rfl
  | n + 1, h => by
    show ct p n + bN (p n) = ct q n + bN (q n)
    rw [ct_cong (fun k hk => h k (Nat.lt_succ_of_lt hk)), propext (h n (Nat.lt_succ_self n))]
/-- the sum of the first n -/
def sm (f : Nat → Int32) : Nat → Int32
  | 0 => 0
  | n + 1 => sm f n + f n
/-- the first place at i or behind it that holds v; -1 for none within d -/
noncomputable def fnd (f : Nat → Int32) (v : Int32) : Nat → Nat → Int32
  | _, 0 => -1
  | i, d + 1 => sel (f i = v) (nI i) (fnd f v (i + 1) d)
/-- a row's place, -1 beyond its ends; and the row with one place written -/
noncomputable def rd (n : Nat) (f : Nat → Int32) (i : Int32) : Int32 := sel (i < 0) (-1) (sel (nI n ≤ i) (-1) (f i.toNatClampNeg))
noncomputable def wr (n : Nat) (f : Nat → Int32) (i x : Int32) : Nat → Int32 := sel (i < 0) f (sel (nI n ≤ i) f (upd f i.toNatClampNeg x))
theorem rd_n {n j : Nat} {f : Nat → Int32} (hj : j < n) (hn : n < 2 ^ 31) : rd n f (nI j) = f j := by
  rw [rd, sel_f (nI_pos (Nat.lt_trans hj hn)), sel_f (nI_ge hj hn), nI_clamp (Nat.lt_trans hj hn)]
theorem wr_n {n j : Nat} {f : Nat → Int32} {x : Int32} (hj : j < n) (hn : n < 2 ^ 31) : wr n f (nI j) x = upd f j x := by
  rw [wr, sel_f (nI_pos (Nat.lt_trans hj hn)), sel_f (nI_ge hj hn), nI_clamp (Nat.lt_trans hj hn)]
theorem rd_neg {n : Nat} {f : Nat → Int32} {i : Int32} (h : i < 0) : rd n f i = -1 := by rw [rd, sel_t h]
theorem rd_big {n : Nat} {f : Nat → Int32} {i : Int32} (h : nI n ≤ i) : rd n f i = -1 := by
  rw [rd]
  by_cases q : i < 0
  · rw [sel_t q]
  · rw [sel_f q, sel_t h]
/-- a row of a world under a pointwise equal content -/
theorem row_cong {D : va_G} {cl : List vw_C} {ws : va_W} {H : Heap} {i a n : Nat} {cA : ClassId} {f g : Nat → Int32} (hP : va_P D cl ws H) (h : ws[i]? = some (a, .inl (cA, n, .inl f))) (e : ∀ j, j < n → f j = g j) : va_P D cl (ws.set i (a, .inl (cA, n, .inl g))) H := by
  have hl := (List.getElem?_eq_some_iff.mp h).1
  intro k q hk
  by_cases hki : k = i
  · subst hki
    rw [List.getElem?_set_self hl] at hk
    cases hk
    have h1 := hP k _ h
    show H[a]? = some (vp_cell cA (n, .inl g))
    have h2 : H[a]? = some (vp_cell cA (n, .inl f)) := h1
    rw [h2]
    congr 1
    rw [vp_cell_i, vp_cell_i]
    exact congrArg (fun z : Fin n → Value => ({ cls := cA, slots := Array.ofFn z, vm := .none } : Cell)) (funext fun j => congrArg Value.int (e j.val j.isLt))
  · rw [List.getElem?_set_ne (Ne.symm hki)] at hk
    exact hP k q hk

def hw (k : Nat → ClassId) (a : Nat → Nat) (S : HS) : va_W := [(a 0, .inr (2, [.int (S 0 0), .int (S 0 1), .int (S 0 2), .ref (a 1), .ref (a 2), .ref (a 3), .ref (a 4), .ref (a 5)])), (a 1, .inr (1, [.int (S 0 3), .ref (a 6), .ref (a 7)])), (a 2, .inr (0, [.int (S 0 4), .ref (a 8), .ref (a 9), .ref (a 10), .ref (a 11), .ref (a 12), .ref (a 13), .ref (a 14), .ref (a 15)])), (a 3, .inr (3, [.ref (a 16)])), (a 4, .inr (3, [.ref (a 17)])), (a 5, .inr (3, [.ref (a 18)])), (a 6, .inr (3, [.ref (a 19)])), (a 7, .inr (3, [.ref (a 20)])), (a 8, .inr (3, [.ref (a 21)])), (a 9, .inr (3, [.ref (a 22)])), (a 10, .inr (3, [.ref (a 23)])), (a 11, .inr (3, [.ref (a 24)])), (a 12, .inr (3, [.ref (a 25)])), (a 13, .inr (3, [.ref (a 26)])), (a 14, .inr (3, [.ref (a 27)])), (a 15, .inr (3, [.ref (a 28)])), (a 16, .inl (k 0, 4, .inl (S 11))), (a 17, .inl (k 0, 12, .inl (S 12))), (a 18, .inl (k 0, 40, .inl (S 13))), (a 19, .inl (k 0, 6, .inl (S 1))), (a 20, .inl (k 0, 6, .inl (S 2))), (a 21, .inl (k 0, 40, .inl (S 3))), (a 22, .inl (k 0, 40, .inl (S 4))), (a 23, .inl (k 0, 40, .inl (S 5))), (a 24, .inl (k 0, 40, .inl (S 6))), (a 25, .inl (k 0, 40, .inl (S 7))), (a 26, .inl (k 0, 40, .inl (S 8))), (a 27, .inl (k 0, 40, .inl (S 9))), (a 28, .inl (k 0, 40, .inl (S 10)))]
theorem hw_0 {k : Nat → ClassId} {a : Nat → Nat} {S : HS} {R : va_W} : (hw k a S ++ R)[0]? = some (a 0, .inr (2, [.int (S 0 0), .int (S 0 1), .int (S 0 2), .ref (a 1), .ref (a 2), .ref (a 3), .ref (a 4), .ref (a 5)])) := rfl
theorem hw_1 {k : Nat → ClassId} {a : Nat → Nat} {S : HS} {R : va_W} : (hw k a S ++ R)[1]? = some (a 1, .inr (1, [.int (S 0 3), .ref (a 6), .ref (a 7)])) := rfl
theorem hw_2 {k : Nat → ClassId} {a : Nat → Nat} {S : HS} {R : va_W} : (hw k a S ++ R)[2]? = some (a 2, .inr (0, [.int (S 0 4), .ref (a 8), .ref (a 9), .ref (a 10), .ref (a 11), .ref (a 12), .ref (a 13), .ref (a 14), .ref (a 15)])) := rfl
theorem hw_3 {k : Nat → ClassId} {a : Nat → Nat} {S : HS} {R : va_W} : (hw k a S ++ R)[3]? = some (a 3, .inr (3, [.ref (a 16)])) := rfl
theorem hw_4 {k : Nat → ClassId} {a : Nat → Nat} {S : HS} {R : va_W} : (hw k a S ++ R)[4]? = some (a 4, .inr (3, [.ref (a 17)])) := rfl
theorem hw_5 {k : Nat → ClassId} {a : Nat → Nat} {S : HS} {R : va_W} : (hw k a S ++ R)[5]? = some (a 5, .inr (3, [.ref (a 18)])) := rfl
theorem hw_6 {k : Nat → ClassId} {a : Nat → Nat} {S : HS} {R : va_W} : (hw k a S ++ R)[6]? = some (a 6, .inr (3, [.ref (a 19)])) := rfl
theorem hw_7 {k : Nat → ClassId} {a : Nat → Nat} {S : HS} {R : va_W} : (hw k a S ++ R)[7]? = some (a 7, .inr (3, [.ref (a 20)])) := rfl
theorem hw_8 {k : Nat → ClassId} {a : Nat → Nat} {S : HS} {R : va_W} : (hw k a S ++ R)[8]? = some (a 8, .inr (3, [.ref (a 21)])) := rfl
theorem hw_9 {k : Nat → ClassId} {a : Nat → Nat} {S : HS} {R : va_W} : (hw k a S ++ R)[9]? = some (a 9, .inr (3, [.ref (a 22)])) := rfl
theorem hw_10 {k : Nat → ClassId} {a : Nat → Nat} {S : HS} {R : va_W} : (hw k a S ++ R)[10]? = some (a 10, .inr (3, [.ref (a 23)])) := rfl
theorem hw_11 {k : Nat → ClassId} {a : Nat → Nat} {S : HS} {R : va_W} : (hw k a S ++ R)[11]? = some (a 11, .inr (3, [.ref (a 24)])) := rfl
theorem hw_12 {k : Nat → ClassId} {a : Nat → Nat} {S : HS} {R : va_W} : (hw k a S ++ R)[12]? = some (a 12, .inr (3, [.ref (a 25)])) := rfl
theorem hw_13 {k : Nat → ClassId} {a : Nat → Nat} {S : HS} {R : va_W} : (hw k a S ++ R)[13]? = some (a 13, .inr (3, [.ref (a 26)])) := rfl
theorem hw_14 {k : Nat → ClassId} {a : Nat → Nat} {S : HS} {R : va_W} : (hw k a S ++ R)[14]? = some (a 14, .inr (3, [.ref (a 27)])) := rfl
theorem hw_15 {k : Nat → ClassId} {a : Nat → Nat} {S : HS} {R : va_W} : (hw k a S ++ R)[15]? = some (a 15, .inr (3, [.ref (a 28)])) := rfl
theorem hw_16 {k : Nat → ClassId} {a : Nat → Nat} {S : HS} {R : va_W} : (hw k a S ++ R)[16]? = some (a 16, .inl (k 0, 4, .inl (S 11))) := rfl
theorem hw_17 {k : Nat → ClassId} {a : Nat → Nat} {S : HS} {R : va_W} : (hw k a S ++ R)[17]? = some (a 17, .inl (k 0, 12, .inl (S 12))) := rfl
theorem hw_18 {k : Nat → ClassId} {a : Nat → Nat} {S : HS} {R : va_W} : (hw k a S ++ R)[18]? = some (a 18, .inl (k 0, 40, .inl (S 13))) := rfl
theorem hw_19 {k : Nat → ClassId} {a : Nat → Nat} {S : HS} {R : va_W} : (hw k a S ++ R)[19]? = some (a 19, .inl (k 0, 6, .inl (S 1))) := rfl
theorem hw_20 {k : Nat → ClassId} {a : Nat → Nat} {S : HS} {R : va_W} : (hw k a S ++ R)[20]? = some (a 20, .inl (k 0, 6, .inl (S 2))) := rfl
theorem hw_21 {k : Nat → ClassId} {a : Nat → Nat} {S : HS} {R : va_W} : (hw k a S ++ R)[21]? = some (a 21, .inl (k 0, 40, .inl (S 3))) := rfl
theorem hw_22 {k : Nat → ClassId} {a : Nat → Nat} {S : HS} {R : va_W} : (hw k a S ++ R)[22]? = some (a 22, .inl (k 0, 40, .inl (S 4))) := rfl
theorem hw_23 {k : Nat → ClassId} {a : Nat → Nat} {S : HS} {R : va_W} : (hw k a S ++ R)[23]? = some (a 23, .inl (k 0, 40, .inl (S 5))) := rfl
theorem hw_24 {k : Nat → ClassId} {a : Nat → Nat} {S : HS} {R : va_W} : (hw k a S ++ R)[24]? = some (a 24, .inl (k 0, 40, .inl (S 6))) := rfl
theorem hw_25 {k : Nat → ClassId} {a : Nat → Nat} {S : HS} {R : va_W} : (hw k a S ++ R)[25]? = some (a 25, .inl (k 0, 40, .inl (S 7))) := rfl
theorem hw_26 {k : Nat → ClassId} {a : Nat → Nat} {S : HS} {R : va_W} : (hw k a S ++ R)[26]? = some (a 26, .inl (k 0, 40, .inl (S 8))) := rfl
theorem hw_27 {k : Nat → ClassId} {a : Nat → Nat} {S : HS} {R : va_W} : (hw k a S ++ R)[27]? = some (a 27, .inl (k 0, 40, .inl (S 9))) := rfl
theorem hw_28 {k : Nat → ClassId} {a : Nat → Nat} {S : HS} {R : va_W} : (hw k a S ++ R)[28]? = some (a 28, .inl (k 0, 40, .inl (S 10))) := rfl
theorem hws_1 {k : Nat → ClassId} {a : Nat → Nat} {S : HS} {R : va_W} {f : Nat → Int32} : (hw k a S ++ R).set 19 (a 19, .inl (k 0, 6, .inl f)) = hw k a (sf S 1 f) ++ R := rfl
theorem hws_2 {k : Nat → ClassId} {a : Nat → Nat} {S : HS} {R : va_W} {f : Nat → Int32} : (hw k a S ++ R).set 20 (a 20, .inl (k 0, 6, .inl f)) = hw k a (sf S 2 f) ++ R := rfl
theorem hws_3 {k : Nat → ClassId} {a : Nat → Nat} {S : HS} {R : va_W} {f : Nat → Int32} : (hw k a S ++ R).set 21 (a 21, .inl (k 0, 40, .inl f)) = hw k a (sf S 3 f) ++ R := rfl
theorem hws_4 {k : Nat → ClassId} {a : Nat → Nat} {S : HS} {R : va_W} {f : Nat → Int32} : (hw k a S ++ R).set 22 (a 22, .inl (k 0, 40, .inl f)) = hw k a (sf S 4 f) ++ R := rfl
theorem hws_5 {k : Nat → ClassId} {a : Nat → Nat} {S : HS} {R : va_W} {f : Nat → Int32} : (hw k a S ++ R).set 23 (a 23, .inl (k 0, 40, .inl f)) = hw k a (sf S 5 f) ++ R := rfl
theorem hws_6 {k : Nat → ClassId} {a : Nat → Nat} {S : HS} {R : va_W} {f : Nat → Int32} : (hw k a S ++ R).set 24 (a 24, .inl (k 0, 40, .inl f)) = hw k a (sf S 6 f) ++ R := rfl
theorem hws_7 {k : Nat → ClassId} {a : Nat → Nat} {S : HS} {R : va_W} {f : Nat → Int32} : (hw k a S ++ R).set 25 (a 25, .inl (k 0, 40, .inl f)) = hw k a (sf S 7 f) ++ R := rfl
theorem hws_8 {k : Nat → ClassId} {a : Nat → Nat} {S : HS} {R : va_W} {f : Nat → Int32} : (hw k a S ++ R).set 26 (a 26, .inl (k 0, 40, .inl f)) = hw k a (sf S 8 f) ++ R := rfl
theorem hws_9 {k : Nat → ClassId} {a : Nat → Nat} {S : HS} {R : va_W} {f : Nat → Int32} : (hw k a S ++ R).set 27 (a 27, .inl (k 0, 40, .inl f)) = hw k a (sf S 9 f) ++ R := rfl
theorem hws_10 {k : Nat → ClassId} {a : Nat → Nat} {S : HS} {R : va_W} {f : Nat → Int32} : (hw k a S ++ R).set 28 (a 28, .inl (k 0, 40, .inl f)) = hw k a (sf S 10 f) ++ R := rfl
theorem hws_11 {k : Nat → ClassId} {a : Nat → Nat} {S : HS} {R : va_W} {f : Nat → Int32} : (hw k a S ++ R).set 16 (a 16, .inl (k 0, 4, .inl f)) = hw k a (sf S 11 f) ++ R := rfl
theorem hws_12 {k : Nat → ClassId} {a : Nat → Nat} {S : HS} {R : va_W} {f : Nat → Int32} : (hw k a S ++ R).set 17 (a 17, .inl (k 0, 12, .inl f)) = hw k a (sf S 12 f) ++ R := rfl
theorem hws_13 {k : Nat → ClassId} {a : Nat → Nat} {S : HS} {R : va_W} {f : Nat → Int32} : (hw k a S ++ R).set 18 (a 18, .inl (k 0, 40, .inl f)) = hw k a (sf S 13 f) ++ R := rfl
theorem hws_00 {k : Nat → ClassId} {a : Nat → Nat} {S : HS} {R : va_W} {v : Int32} : (hw k a S ++ R).set 0 (a 0, .inr (2, [.int v, .int (S 0 1), .int (S 0 2), .ref (a 1), .ref (a 2), .ref (a 3), .ref (a 4), .ref (a 5)])) = hw k a (sf S 0 (upd (S 0) 0 v)) ++ R := rfl
theorem hws_01 {k : Nat → ClassId} {a : Nat → Nat} {S : HS} {R : va_W} {v : Int32} : (hw k a S ++ R).set 0 (a 0, .inr (2, [.int (S 0 0), .int v, .int (S 0 2), .ref (a 1), .ref (a 2), .ref (a 3), .ref (a 4), .ref (a 5)])) = hw k a (sf S 0 (upd (S 0) 1 v)) ++ R := rfl
theorem hws_02 {k : Nat → ClassId} {a : Nat → Nat} {S : HS} {R : va_W} {v : Int32} : (hw k a S ++ R).set 0 (a 0, .inr (2, [.int (S 0 0), .int (S 0 1), .int v, .ref (a 1), .ref (a 2), .ref (a 3), .ref (a 4), .ref (a 5)])) = hw k a (sf S 0 (upd (S 0) 2 v)) ++ R := rfl
theorem hws_03 {k : Nat → ClassId} {a : Nat → Nat} {S : HS} {R : va_W} {v : Int32} : (hw k a S ++ R).set 1 (a 1, .inr (1, [.int v, .ref (a 6), .ref (a 7)])) = hw k a (sf S 0 (upd (S 0) 3 v)) ++ R := rfl
theorem hws_04 {k : Nat → ClassId} {a : Nat → Nat} {S : HS} {R : va_W} {v : Int32} : (hw k a S ++ R).set 2 (a 2, .inr (0, [.int v, .ref (a 8), .ref (a 9), .ref (a 10), .ref (a 11), .ref (a 12), .ref (a 13), .ref (a 14), .ref (a 15)])) = hw k a (sf S 0 (upd (S 0) 4 v)) ++ R := rfl
theorem hw_same {k : Nat → ClassId} {a : Nat → Nat} {S S2 : HS} {R : va_W} : (hw k a S2 ++ R).map Prod.fst = (hw k a S ++ R).map Prod.fst := rfl
/-- the class's own object, behind its hall -/
abbrev xo (k : Nat → ClassId) (a b : Nat → Nat) (x : Nat) (S : HS) (R : va_W) : va_W := hw k a S ++ ((x, .inr (4, [.ref (a 0), .ref (b 0)])) :: R)
theorem xo_29 {k : Nat → ClassId} {a b : Nat → Nat} {x : Nat} {S : HS} {R : va_W} : (hw k a S ++ ((x, .inr (4, [.ref (a 0), .ref (b 0)])) :: R))[29]? = some (x, .inr (4, [.ref (a 0), .ref (b 0)])) := rfl

/-- the reference: its own object and rows (g 8, g 9: its two states) -/
def gw (k : Nat → ClassId) (g : Nat → Nat) (G : HS) : va_W := [(g 0, .inr (6, [.int (G 0 0), .int (G 0 1), .ref (g 1), .ref (g 2), .ref (g 3), .int (G 0 2), .int (G 0 3), .ref (g 4), .ref (g 5), .ref (g 6), .ref (g 7), .ref (g 8), .ref (g 9)])), (g 1, .inl (k 0, 6, .inl (G 1))), (g 2, .inl (k 1, 6, .inl (G 2))), (g 3, .inl (k 0, 4, .inl (G 3))), (g 4, .inl (k 0, 40, .inl (G 4))), (g 5, .inl (k 0, 40, .inl (G 5))), (g 6, .inl (k 0, 40, .inl (G 6))), (g 7, .inl (k 0, 40, .inl (G 7)))]
def tw (k : Nat → ClassId) (t : Nat → Nat) (T : HS) : va_W := [(t 0, .inr (5, [.int (T 0 0), .ref (t 1), .ref (t 2), .ref (t 3), .ref (t 4), .ref (t 5), .ref (t 6), .int (T 0 1), .ref (t 7)])), (t 1, .inl (k 0, 40, .inl (T 1))), (t 2, .inl (k 0, 40, .inl (T 2))), (t 3, .inl (k 0, 40, .inl (T 3))), (t 4, .inl (k 0, 40, .inl (T 4))), (t 5, .inl (k 0, 12, .inl (T 5))), (t 6, .inl (k 0, 40, .inl (T 6))), (t 7, .inl (k 0, 4, .inl (T 7)))]
theorem gw_0 {k : Nat → ClassId} {g : Nat → Nat} {G : HS} {R : va_W} : (gw k g G ++ R)[0]? = some (g 0, .inr (6, [.int (G 0 0), .int (G 0 1), .ref (g 1), .ref (g 2), .ref (g 3), .int (G 0 2), .int (G 0 3), .ref (g 4), .ref (g 5), .ref (g 6), .ref (g 7), .ref (g 8), .ref (g 9)])) := rfl
theorem st_0 {k : Nat → ClassId} {t : Nat → Nat} {T : HS} {R : va_W} : (tw k t T ++ R)[0]? = some (t 0, .inr (5, [.int (T 0 0), .ref (t 1), .ref (t 2), .ref (t 3), .ref (t 4), .ref (t 5), .ref (t 6), .int (T 0 1), .ref (t 7)])) := rfl
theorem mt_0 {k : Nat → ClassId} {g t : Nat → Nat} {G T : HS} {R : va_W} : (gw k g G ++ (tw k t T ++ R))[8]? = some (t 0, .inr (5, [.int (T 0 0), .ref (t 1), .ref (t 2), .ref (t 3), .ref (t 4), .ref (t 5), .ref (t 6), .int (T 0 1), .ref (t 7)])) := rfl
theorem gw_1 {k : Nat → ClassId} {g : Nat → Nat} {G : HS} {R : va_W} : (gw k g G ++ R)[1]? = some (g 1, .inl (k 0, 6, .inl (G 1))) := rfl
theorem st_1 {k : Nat → ClassId} {t : Nat → Nat} {T : HS} {R : va_W} : (tw k t T ++ R)[1]? = some (t 1, .inl (k 0, 40, .inl (T 1))) := rfl
theorem mt_1 {k : Nat → ClassId} {g t : Nat → Nat} {G T : HS} {R : va_W} : (gw k g G ++ (tw k t T ++ R))[9]? = some (t 1, .inl (k 0, 40, .inl (T 1))) := rfl
theorem gw_2 {k : Nat → ClassId} {g : Nat → Nat} {G : HS} {R : va_W} : (gw k g G ++ R)[2]? = some (g 2, .inl (k 1, 6, .inl (G 2))) := rfl
theorem st_2 {k : Nat → ClassId} {t : Nat → Nat} {T : HS} {R : va_W} : (tw k t T ++ R)[2]? = some (t 2, .inl (k 0, 40, .inl (T 2))) := rfl
theorem mt_2 {k : Nat → ClassId} {g t : Nat → Nat} {G T : HS} {R : va_W} : (gw k g G ++ (tw k t T ++ R))[10]? = some (t 2, .inl (k 0, 40, .inl (T 2))) := rfl
theorem gw_3 {k : Nat → ClassId} {g : Nat → Nat} {G : HS} {R : va_W} : (gw k g G ++ R)[3]? = some (g 3, .inl (k 0, 4, .inl (G 3))) := rfl
theorem st_3 {k : Nat → ClassId} {t : Nat → Nat} {T : HS} {R : va_W} : (tw k t T ++ R)[3]? = some (t 3, .inl (k 0, 40, .inl (T 3))) := rfl
theorem mt_3 {k : Nat → ClassId} {g t : Nat → Nat} {G T : HS} {R : va_W} : (gw k g G ++ (tw k t T ++ R))[11]? = some (t 3, .inl (k 0, 40, .inl (T 3))) := rfl
theorem gw_4 {k : Nat → ClassId} {g : Nat → Nat} {G : HS} {R : va_W} : (gw k g G ++ R)[4]? = some (g 4, .inl (k 0, 40, .inl (G 4))) := rfl
theorem st_4 {k : Nat → ClassId} {t : Nat → Nat} {T : HS} {R : va_W} : (tw k t T ++ R)[4]? = some (t 4, .inl (k 0, 40, .inl (T 4))) := rfl
theorem mt_4 {k : Nat → ClassId} {g t : Nat → Nat} {G T : HS} {R : va_W} : (gw k g G ++ (tw k t T ++ R))[12]? = some (t 4, .inl (k 0, 40, .inl (T 4))) := rfl
theorem gw_5 {k : Nat → ClassId} {g : Nat → Nat} {G : HS} {R : va_W} : (gw k g G ++ R)[5]? = some (g 5, .inl (k 0, 40, .inl (G 5))) := rfl
theorem st_5 {k : Nat → ClassId} {t : Nat → Nat} {T : HS} {R : va_W} : (tw k t T ++ R)[5]? = some (t 5, .inl (k 0, 12, .inl (T 5))) := rfl
theorem mt_5 {k : Nat → ClassId} {g t : Nat → Nat} {G T : HS} {R : va_W} : (gw k g G ++ (tw k t T ++ R))[13]? = some (t 5, .inl (k 0, 12, .inl (T 5))) := rfl
theorem gw_6 {k : Nat → ClassId} {g : Nat → Nat} {G : HS} {R : va_W} : (gw k g G ++ R)[6]? = some (g 6, .inl (k 0, 40, .inl (G 6))) := rfl
theorem st_6 {k : Nat → ClassId} {t : Nat → Nat} {T : HS} {R : va_W} : (tw k t T ++ R)[6]? = some (t 6, .inl (k 0, 40, .inl (T 6))) := rfl
theorem mt_6 {k : Nat → ClassId} {g t : Nat → Nat} {G T : HS} {R : va_W} : (gw k g G ++ (tw k t T ++ R))[14]? = some (t 6, .inl (k 0, 40, .inl (T 6))) := rfl
theorem gw_7 {k : Nat → ClassId} {g : Nat → Nat} {G : HS} {R : va_W} : (gw k g G ++ R)[7]? = some (g 7, .inl (k 0, 40, .inl (G 7))) := rfl
theorem st_7 {k : Nat → ClassId} {t : Nat → Nat} {T : HS} {R : va_W} : (tw k t T ++ R)[7]? = some (t 7, .inl (k 0, 4, .inl (T 7))) := rfl
theorem mt_7 {k : Nat → ClassId} {g t : Nat → Nat} {G T : HS} {R : va_W} : (gw k g G ++ (tw k t T ++ R))[15]? = some (t 7, .inl (k 0, 4, .inl (T 7))) := rfl
theorem gws_1 {k : Nat → ClassId} {g : Nat → Nat} {G : HS} {R : va_W} {f : Nat → Int32} : (gw k g G ++ R).set 1 (g 1, .inl (k 0, 6, .inl f)) = gw k g (sf G 1 f) ++ R := rfl
theorem sts_1 {k : Nat → ClassId} {t : Nat → Nat} {T : HS} {R : va_W} {f : Nat → Int32} : (tw k t T ++ R).set 1 (t 1, .inl (k 0, 40, .inl f)) = tw k t (sf T 1 f) ++ R := rfl
theorem mts_1 {k : Nat → ClassId} {g t : Nat → Nat} {G T : HS} {R : va_W} {f : Nat → Int32} : (gw k g G ++ (tw k t T ++ R)).set 9 (t 1, .inl (k 0, 40, .inl f)) = gw k g G ++ (tw k t (sf T 1 f) ++ R) := rfl
theorem gws_2 {k : Nat → ClassId} {g : Nat → Nat} {G : HS} {R : va_W} {f : Nat → Int32} : (gw k g G ++ R).set 2 (g 2, .inl (k 1, 6, .inl f)) = gw k g (sf G 2 f) ++ R := rfl
theorem sts_2 {k : Nat → ClassId} {t : Nat → Nat} {T : HS} {R : va_W} {f : Nat → Int32} : (tw k t T ++ R).set 2 (t 2, .inl (k 0, 40, .inl f)) = tw k t (sf T 2 f) ++ R := rfl
theorem mts_2 {k : Nat → ClassId} {g t : Nat → Nat} {G T : HS} {R : va_W} {f : Nat → Int32} : (gw k g G ++ (tw k t T ++ R)).set 10 (t 2, .inl (k 0, 40, .inl f)) = gw k g G ++ (tw k t (sf T 2 f) ++ R) := rfl
theorem gws_3 {k : Nat → ClassId} {g : Nat → Nat} {G : HS} {R : va_W} {f : Nat → Int32} : (gw k g G ++ R).set 3 (g 3, .inl (k 0, 4, .inl f)) = gw k g (sf G 3 f) ++ R := rfl
theorem sts_3 {k : Nat → ClassId} {t : Nat → Nat} {T : HS} {R : va_W} {f : Nat → Int32} : (tw k t T ++ R).set 3 (t 3, .inl (k 0, 40, .inl f)) = tw k t (sf T 3 f) ++ R := rfl
theorem mts_3 {k : Nat → ClassId} {g t : Nat → Nat} {G T : HS} {R : va_W} {f : Nat → Int32} : (gw k g G ++ (tw k t T ++ R)).set 11 (t 3, .inl (k 0, 40, .inl f)) = gw k g G ++ (tw k t (sf T 3 f) ++ R) := rfl
theorem gws_4 {k : Nat → ClassId} {g : Nat → Nat} {G : HS} {R : va_W} {f : Nat → Int32} : (gw k g G ++ R).set 4 (g 4, .inl (k 0, 40, .inl f)) = gw k g (sf G 4 f) ++ R := rfl
theorem sts_4 {k : Nat → ClassId} {t : Nat → Nat} {T : HS} {R : va_W} {f : Nat → Int32} : (tw k t T ++ R).set 4 (t 4, .inl (k 0, 40, .inl f)) = tw k t (sf T 4 f) ++ R := rfl
theorem mts_4 {k : Nat → ClassId} {g t : Nat → Nat} {G T : HS} {R : va_W} {f : Nat → Int32} : (gw k g G ++ (tw k t T ++ R)).set 12 (t 4, .inl (k 0, 40, .inl f)) = gw k g G ++ (tw k t (sf T 4 f) ++ R) := rfl
theorem gws_5 {k : Nat → ClassId} {g : Nat → Nat} {G : HS} {R : va_W} {f : Nat → Int32} : (gw k g G ++ R).set 5 (g 5, .inl (k 0, 40, .inl f)) = gw k g (sf G 5 f) ++ R := rfl
theorem sts_5 {k : Nat → ClassId} {t : Nat → Nat} {T : HS} {R : va_W} {f : Nat → Int32} : (tw k t T ++ R).set 5 (t 5, .inl (k 0, 12, .inl f)) = tw k t (sf T 5 f) ++ R := rfl
theorem mts_5 {k : Nat → ClassId} {g t : Nat → Nat} {G T : HS} {R : va_W} {f : Nat → Int32} : (gw k g G ++ (tw k t T ++ R)).set 13 (t 5, .inl (k 0, 12, .inl f)) = gw k g G ++ (tw k t (sf T 5 f) ++ R) := rfl
theorem gws_6 {k : Nat → ClassId} {g : Nat → Nat} {G : HS} {R : va_W} {f : Nat → Int32} : (gw k g G ++ R).set 6 (g 6, .inl (k 0, 40, .inl f)) = gw k g (sf G 6 f) ++ R := rfl
theorem sts_6 {k : Nat → ClassId} {t : Nat → Nat} {T : HS} {R : va_W} {f : Nat → Int32} : (tw k t T ++ R).set 6 (t 6, .inl (k 0, 40, .inl f)) = tw k t (sf T 6 f) ++ R := rfl
theorem mts_6 {k : Nat → ClassId} {g t : Nat → Nat} {G T : HS} {R : va_W} {f : Nat → Int32} : (gw k g G ++ (tw k t T ++ R)).set 14 (t 6, .inl (k 0, 40, .inl f)) = gw k g G ++ (tw k t (sf T 6 f) ++ R) := rfl
theorem gws_7 {k : Nat → ClassId} {g : Nat → Nat} {G : HS} {R : va_W} {f : Nat → Int32} : (gw k g G ++ R).set 7 (g 7, .inl (k 0, 40, .inl f)) = gw k g (sf G 7 f) ++ R := rfl
theorem sts_7 {k : Nat → ClassId} {t : Nat → Nat} {T : HS} {R : va_W} {f : Nat → Int32} : (tw k t T ++ R).set 7 (t 7, .inl (k 0, 4, .inl f)) = tw k t (sf T 7 f) ++ R := rfl
theorem mts_7 {k : Nat → ClassId} {g t : Nat → Nat} {G T : HS} {R : va_W} {f : Nat → Int32} : (gw k g G ++ (tw k t T ++ R)).set 15 (t 7, .inl (k 0, 4, .inl f)) = gw k g G ++ (tw k t (sf T 7 f) ++ R) := rfl
theorem gws_00 {k : Nat → ClassId} {g : Nat → Nat} {G : HS} {R : va_W} {v : Int32} : (gw k g G ++ R).set 0 (g 0, .inr (6, [.int v, .int (G 0 1), .ref (g 1), .ref (g 2), .ref (g 3), .int (G 0 2), .int (G 0 3), .ref (g 4), .ref (g 5), .ref (g 6), .ref (g 7), .ref (g 8), .ref (g 9)])) = gw k g (sf G 0 (upd (G 0) 0 v)) ++ R := rfl
theorem gws_01 {k : Nat → ClassId} {g : Nat → Nat} {G : HS} {R : va_W} {v : Int32} : (gw k g G ++ R).set 0 (g 0, .inr (6, [.int (G 0 0), .int v, .ref (g 1), .ref (g 2), .ref (g 3), .int (G 0 2), .int (G 0 3), .ref (g 4), .ref (g 5), .ref (g 6), .ref (g 7), .ref (g 8), .ref (g 9)])) = gw k g (sf G 0 (upd (G 0) 1 v)) ++ R := rfl
theorem gws_02 {k : Nat → ClassId} {g : Nat → Nat} {G : HS} {R : va_W} {v : Int32} : (gw k g G ++ R).set 0 (g 0, .inr (6, [.int (G 0 0), .int (G 0 1), .ref (g 1), .ref (g 2), .ref (g 3), .int v, .int (G 0 3), .ref (g 4), .ref (g 5), .ref (g 6), .ref (g 7), .ref (g 8), .ref (g 9)])) = gw k g (sf G 0 (upd (G 0) 2 v)) ++ R := rfl
theorem gws_03 {k : Nat → ClassId} {g : Nat → Nat} {G : HS} {R : va_W} {v : Int32} : (gw k g G ++ R).set 0 (g 0, .inr (6, [.int (G 0 0), .int (G 0 1), .ref (g 1), .ref (g 2), .ref (g 3), .int (G 0 2), .int v, .ref (g 4), .ref (g 5), .ref (g 6), .ref (g 7), .ref (g 8), .ref (g 9)])) = gw k g (sf G 0 (upd (G 0) 3 v)) ++ R := rfl
theorem sts_00 {k : Nat → ClassId} {t : Nat → Nat} {T : HS} {R : va_W} {v : Int32} : (tw k t T ++ R).set 0 (t 0, .inr (5, [.int v, .ref (t 1), .ref (t 2), .ref (t 3), .ref (t 4), .ref (t 5), .ref (t 6), .int (T 0 1), .ref (t 7)])) = tw k t (sf T 0 (upd (T 0) 0 v)) ++ R := rfl
theorem mts_00 {k : Nat → ClassId} {g t : Nat → Nat} {G T : HS} {R : va_W} {v : Int32} : (gw k g G ++ (tw k t T ++ R)).set 8 (t 0, .inr (5, [.int v, .ref (t 1), .ref (t 2), .ref (t 3), .ref (t 4), .ref (t 5), .ref (t 6), .int (T 0 1), .ref (t 7)])) = gw k g G ++ (tw k t (sf T 0 (upd (T 0) 0 v)) ++ R) := rfl
theorem sts_01 {k : Nat → ClassId} {t : Nat → Nat} {T : HS} {R : va_W} {v : Int32} : (tw k t T ++ R).set 0 (t 0, .inr (5, [.int (T 0 0), .ref (t 1), .ref (t 2), .ref (t 3), .ref (t 4), .ref (t 5), .ref (t 6), .int v, .ref (t 7)])) = tw k t (sf T 0 (upd (T 0) 1 v)) ++ R := rfl
theorem mts_01 {k : Nat → ClassId} {g t : Nat → Nat} {G T : HS} {R : va_W} {v : Int32} : (gw k g G ++ (tw k t T ++ R)).set 8 (t 0, .inr (5, [.int (T 0 0), .ref (t 1), .ref (t 2), .ref (t 3), .ref (t 4), .ref (t 5), .ref (t 6), .int v, .ref (t 7)])) = gw k g G ++ (tw k t (sf T 0 (upd (T 0) 1 v)) ++ R) := rfl
theorem gw_same {k : Nat → ClassId} {g : Nat → Nat} {G G2 : HS} {R : va_W} : (gw k g G2 ++ R).map Prod.fst = (gw k g G ++ R).map Prod.fst := rfl
theorem st_same {k : Nat → ClassId} {t : Nat → Nat} {T T2 : HS} {R : va_W} : (tw k t T2 ++ R).map Prod.fst = (tw k t T ++ R).map Prod.fst := rfl
theorem mt_same {k : Nat → ClassId} {g t : Nat → Nat} {G G2 T T2 : HS} {R : va_W} : (gw k g G2 ++ (tw k t T2 ++ R)).map Prod.fst = (gw k g G ++ (tw k t T ++ R)).map Prod.fst := rfl
/-- a row object at q0 and its cells at q1, when the cells are written -/
theorem rs_n {ws : va_W} {q0 q1 r a : Nat} {o : Nat × List Value} {x y : ClassId × vp_A} (he : ws[q0]? = some (r, .inr o)) (ha : ws[q1]? = some (a, .inl x)) : (ws.set q1 (a, .inl y))[q0]? = some (r, .inr o) := by
  by_cases hq : q0 = q1
  · subst hq
    rw [he] at ha
    exact absurd (congrArg (fun z : Option (Nat × va_E) => z.map (fun u => u.2.isLeft)) ha) (by simp)
  · rw [List.getElem?_set_ne (Ne.symm hq)]
    exact he
theorem rs_a {ws : va_W} {q1 a : Nat} {e e2 : va_E} (ha : ws[q1]? = some (a, e)) : (ws.set q1 (a, e2))[q1]? = some (a, e2) := List.getElem?_set_self (List.getElem?_eq_some_iff.mp ha).1
theorem rs_s {ws : va_W} {q1 : Nat} {x y : Nat × va_E} : (ws.set q1 x).set q1 y = ws.set q1 y := List.set_set ..
theorem rs_0 {ws : va_W} {q1 : Nat} {x : Nat × va_E} (h : ws[q1]? = some x) : ws.set q1 x = ws := by
  apply List.ext_getElem?
  intro j
  by_cases hj : j = q1
  · subst hj
    rw [List.getElem?_set_self (List.getElem?_eq_some_iff.mp h).1, h]
  · rw [List.getElem?_set_ne (Ne.symm hj)]
end
section
/-! rooms and names of the methods that are called -/
abbrev rmJ7_fill_53178 : Room := ({ frames := 0, cells := 0, slots := 0, locals := 0 } : Room)
theorem hd_J7_fill_53178 : yJ7_fill_53178.cls ≠ "java/lang/invoke/MethodHandle" ∧ yJ7_fill_53178.cls ≠ "java/lang/invoke/VarHandle" ∧ (parseMethodDescriptor yJ7_fill_53178.desc).map (fun d => d.parameters.length) = some 2 := by decide +kernel
abbrev rmJ9_min_7cf53 : Room := ({ frames := 0, cells := 0, slots := 0, locals := 0 } : Room)
theorem hd_J9_min_7cf53 : yJ9_min_7cf53.cls ≠ "java/lang/invoke/MethodHandle" ∧ yJ9_min_7cf53.cls ≠ "java/lang/invoke/VarHandle" ∧ (parseMethodDescriptor yJ9_min_7cf53.desc).map (fun d => d.parameters.length) = some 2 := by decide +kernel
abbrev rmL_addFlight : Room := ({ frames := 7, cells := 0, slots := 0, locals := 120 } : Room)
theorem hd_L_addFlight : yL_addFlight.cls ≠ "java/lang/invoke/MethodHandle" ∧ yL_addFlight.cls ≠ "java/lang/invoke/VarHandle" ∧ (parseMethodDescriptor yL_addFlight.desc).map (fun d => d.parameters.length) = some 2 := by decide +kernel
abbrev rmL_bagAt : Room := ({ frames := 7, cells := 0, slots := 0, locals := 121 } : Room)
theorem hd_L_bagAt : yL_bagAt.cls ≠ "java/lang/invoke/MethodHandle" ∧ yL_bagAt.cls ≠ "java/lang/invoke/VarHandle" ∧ (parseMethodDescriptor yL_bagAt.desc).map (fun d => d.parameters.length) = some 3 := by decide +kernel
abbrev rmL_bagsIn : Room := ({ frames := 8, cells := 0, slots := 0, locals := 141 } : Room)
theorem hd_L_bagsIn : yL_bagsIn.cls ≠ "java/lang/invoke/MethodHandle" ∧ yL_bagsIn.cls ≠ "java/lang/invoke/VarHandle" ∧ (parseMethodDescriptor yL_bagsIn.desc).map (fun d => d.parameters.length) = some 3 := by decide +kernel
abbrev rmL_bestChute : Room := ({ frames := 8, cells := 0, slots := 0, locals := 172 } : Room)
theorem hd_L_bestChute : yL_bestChute.cls ≠ "java/lang/invoke/MethodHandle" ∧ yL_bestChute.cls ≠ "java/lang/invoke/VarHandle" ∧ (parseMethodDescriptor yL_bestChute.desc).map (fun d => d.parameters.length) = some 4 := by decide +kernel
abbrev rmL_carry : Room := ({ frames := 8, cells := 0, slots := 0, locals := 145 } : Room)
theorem hd_L_carry : yL_carry.cls ≠ "java/lang/invoke/MethodHandle" ∧ yL_carry.cls ≠ "java/lang/invoke/VarHandle" ∧ (parseMethodDescriptor yL_carry.desc).map (fun d => d.parameters.length) = some 3 := by decide +kernel
abbrev rmL_checkIn : Room := ({ frames := 8, cells := 0, slots := 0, locals := 145 } : Room)
theorem hd_L_checkIn : yL_checkIn.cls ≠ "java/lang/invoke/MethodHandle" ∧ yL_checkIn.cls ≠ "java/lang/invoke/VarHandle" ∧ (parseMethodDescriptor yL_checkIn.desc).map (fun d => d.parameters.length) = some 5 := by decide +kernel
abbrev rmL_chuteOf : Room := ({ frames := 8, cells := 0, slots := 0, locals := 142 } : Room)
theorem hd_L_chuteOf : yL_chuteOf.cls ≠ "java/lang/invoke/MethodHandle" ∧ yL_chuteOf.cls ≠ "java/lang/invoke/VarHandle" ∧ (parseMethodDescriptor yL_chuteOf.desc).map (fun d => d.parameters.length) = some 3 := by decide +kernel
abbrev rmL_chuteOfFlight : Room := ({ frames := 8, cells := 0, slots := 0, locals := 142 } : Room)
theorem hd_L_chuteOfFlight : yL_chuteOfFlight.cls ≠ "java/lang/invoke/MethodHandle" ∧ yL_chuteOfFlight.cls ≠ "java/lang/invoke/VarHandle" ∧ (parseMethodDescriptor yL_chuteOfFlight.desc).map (fun d => d.parameters.length) = some 3 := by decide +kernel
abbrev rmL_depart : Room := ({ frames := 8, cells := 0, slots := 0, locals := 142 } : Room)
theorem hd_L_depart : yL_depart.cls ≠ "java/lang/invoke/MethodHandle" ∧ yL_depart.cls ≠ "java/lang/invoke/VarHandle" ∧ (parseMethodDescriptor yL_depart.desc).map (fun d => d.parameters.length) = some 3 := by decide +kernel
abbrev rmL_flightOf : Room := ({ frames := 8, cells := 0, slots := 0, locals := 142 } : Room)
theorem hd_L_flightOf : yL_flightOf.cls ≠ "java/lang/invoke/MethodHandle" ∧ yL_flightOf.cls ≠ "java/lang/invoke/VarHandle" ∧ (parseMethodDescriptor yL_flightOf.desc).map (fun d => d.parameters.length) = some 3 := by decide +kernel
abbrev rmL_forward : Room := ({ frames := 8, cells := 0, slots := 0, locals := 144 } : Room)
theorem hd_L_forward : yL_forward.cls ≠ "java/lang/invoke/MethodHandle" ∧ yL_forward.cls ≠ "java/lang/invoke/VarHandle" ∧ (parseMethodDescriptor yL_forward.desc).map (fun d => d.parameters.length) = some 4 := by decide +kernel
abbrev rmL_giveChute : Room := ({ frames := 8, cells := 0, slots := 0, locals := 143 } : Room)
theorem hd_L_giveChute : yL_giveChute.cls ≠ "java/lang/invoke/MethodHandle" ∧ yL_giveChute.cls ≠ "java/lang/invoke/VarHandle" ∧ (parseMethodDescriptor yL_giveChute.desc).map (fun d => d.parameters.length) = some 4 := by decide +kernel
abbrev rmL_hasOpenFile : Room := ({ frames := 8, cells := 0, slots := 0, locals := 142 } : Room)
theorem hd_L_hasOpenFile : yL_hasOpenFile.cls ≠ "java/lang/invoke/MethodHandle" ∧ yL_hasOpenFile.cls ≠ "java/lang/invoke/VarHandle" ∧ (parseMethodDescriptor yL_hasOpenFile.desc).map (fun d => d.parameters.length) = some 3 := by decide +kernel
abbrev rmL_isGone : Room := ({ frames := 8, cells := 0, slots := 0, locals := 142 } : Room)
theorem hd_L_isGone : yL_isGone.cls ≠ "java/lang/invoke/MethodHandle" ∧ yL_isGone.cls ≠ "java/lang/invoke/VarHandle" ∧ (parseMethodDescriptor yL_isGone.desc).map (fun d => d.parameters.length) = some 3 := by decide +kernel
abbrev rmL_isMisrouted : Room := ({ frames := 8, cells := 0, slots := 0, locals := 142 } : Room)
theorem hd_L_isMisrouted : yL_isMisrouted.cls ≠ "java/lang/invoke/MethodHandle" ∧ yL_isMisrouted.cls ≠ "java/lang/invoke/VarHandle" ∧ (parseMethodDescriptor yL_isMisrouted.desc).map (fun d => d.parameters.length) = some 3 := by decide +kernel
abbrev rmL_minutesUntilChute : Room := ({ frames := 8, cells := 0, slots := 0, locals := 145 } : Room)
theorem hd_L_minutesUntilChute : yL_minutesUntilChute.cls ≠ "java/lang/invoke/MethodHandle" ∧ yL_minutesUntilChute.cls ≠ "java/lang/invoke/VarHandle" ∧ (parseMethodDescriptor yL_minutesUntilChute.desc).map (fun d => d.parameters.length) = some 3 := by decide +kernel
abbrev rmL_misroutedIn : Room := ({ frames := 8, cells := 0, slots := 0, locals := 141 } : Room)
theorem hd_L_misroutedIn : yL_misroutedIn.cls ≠ "java/lang/invoke/MethodHandle" ∧ yL_misroutedIn.cls ≠ "java/lang/invoke/VarHandle" ∧ (parseMethodDescriptor yL_misroutedIn.desc).map (fun d => d.parameters.length) = some 3 := by decide +kernel
abbrev rmL_missesOf : Room := ({ frames := 8, cells := 0, slots := 0, locals := 142 } : Room)
theorem hd_L_missesOf : yL_missesOf.cls ≠ "java/lang/invoke/MethodHandle" ∧ yL_missesOf.cls ≠ "java/lang/invoke/VarHandle" ∧ (parseMethodDescriptor yL_missesOf.desc).map (fun d => d.parameters.length) = some 3 := by decide +kernel
abbrev rmL_missingOf : Room := ({ frames := 8, cells := 0, slots := 0, locals := 142 } : Room)
theorem hd_L_missingOf : yL_missingOf.cls ≠ "java/lang/invoke/MethodHandle" ∧ yL_missingOf.cls ≠ "java/lang/invoke/VarHandle" ∧ (parseMethodDescriptor yL_missingOf.desc).map (fun d => d.parameters.length) = some 3 := by decide +kernel
abbrev rmL_pass : Room := ({ frames := 8, cells := 0, slots := 0, locals := 141 } : Room)
theorem hd_L_pass : yL_pass.cls ≠ "java/lang/invoke/MethodHandle" ∧ yL_pass.cls ≠ "java/lang/invoke/VarHandle" ∧ (parseMethodDescriptor yL_pass.desc).map (fun d => d.parameters.length) = some 3 := by decide +kernel
abbrev rmL_placeOf : Room := ({ frames := 8, cells := 0, slots := 0, locals := 142 } : Room)
theorem hd_L_placeOf : yL_placeOf.cls ≠ "java/lang/invoke/MethodHandle" ∧ yL_placeOf.cls ≠ "java/lang/invoke/VarHandle" ∧ (parseMethodDescriptor yL_placeOf.desc).map (fun d => d.parameters.length) = some 3 := by decide +kernel
abbrev rmL_readFor : Room := ({ frames := 8, cells := 0, slots := 0, locals := 142 } : Room)
theorem hd_L_readFor : yL_readFor.cls ≠ "java/lang/invoke/MethodHandle" ∧ yL_readFor.cls ≠ "java/lang/invoke/VarHandle" ∧ (parseMethodDescriptor yL_readFor.desc).map (fun d => d.parameters.length) = some 3 := by decide +kernel
abbrev rmL_readyAfter : Room := ({ frames := 8, cells := 0, slots := 0, locals := 168 } : Room)
theorem hd_L_readyAfter : yL_readyAfter.cls ≠ "java/lang/invoke/MethodHandle" ∧ yL_readyAfter.cls ≠ "java/lang/invoke/VarHandle" ∧ (parseMethodDescriptor yL_readyAfter.desc).map (fun d => d.parameters.length) = some 4 := by decide +kernel
abbrev rmL_readyOf : Room := ({ frames := 8, cells := 0, slots := 0, locals := 142 } : Room)
theorem hd_L_readyOf : yL_readyOf.cls ≠ "java/lang/invoke/MethodHandle" ∧ yL_readyOf.cls ≠ "java/lang/invoke/VarHandle" ∧ (parseMethodDescriptor yL_readyOf.desc).map (fun d => d.parameters.length) = some 3 := by decide +kernel
abbrev rmL_roomOf : Room := ({ frames := 8, cells := 0, slots := 0, locals := 141 } : Room)
theorem hd_L_roomOf : yL_roomOf.cls ≠ "java/lang/invoke/MethodHandle" ∧ yL_roomOf.cls ≠ "java/lang/invoke/VarHandle" ∧ (parseMethodDescriptor yL_roomOf.desc).map (fun d => d.parameters.length) = some 3 := by decide +kernel
abbrev rmL_setReader : Room := ({ frames := 7, cells := 0, slots := 0, locals := 122 } : Room)
theorem hd_L_setReader : yL_setReader.cls ≠ "java/lang/invoke/MethodHandle" ∧ yL_setReader.cls ≠ "java/lang/invoke/VarHandle" ∧ (parseMethodDescriptor yL_setReader.desc).map (fun d => d.parameters.length) = some 3 := by decide +kernel
abbrev rmL_setRoom : Room := ({ frames := 8, cells := 0, slots := 0, locals := 143 } : Room)
theorem hd_L_setRoom : yL_setRoom.cls ≠ "java/lang/invoke/MethodHandle" ∧ yL_setRoom.cls ≠ "java/lang/invoke/VarHandle" ∧ (parseMethodDescriptor yL_setRoom.desc).map (fun d => d.parameters.length) = some 4 := by decide +kernel
abbrev rmL_sweep : Room := ({ frames := 8, cells := 0, slots := 0, locals := 141 } : Room)
theorem hd_L_sweep : yL_sweep.cls ≠ "java/lang/invoke/MethodHandle" ∧ yL_sweep.cls ≠ "java/lang/invoke/VarHandle" ∧ (parseMethodDescriptor yL_sweep.desc).map (fun d => d.parameters.length) = some 3 := by decide +kernel
abbrev rmL_whereIs : Room := ({ frames := 8, cells := 0, slots := 0, locals := 142 } : Room)
theorem hd_L_whereIs : yL_whereIs.cls ≠ "java/lang/invoke/MethodHandle" ∧ yL_whereIs.cls ≠ "java/lang/invoke/VarHandle" ∧ (parseMethodDescriptor yL_whereIs.desc).map (fun d => d.parameters.length) = some 3 := by decide +kernel
abbrev rmX0_addOne : Room := ({ frames := 1, cells := 0, slots := 0, locals := 22 } : Room)
theorem hd_X0_addOne : yX0_addOne.cls = RX0 ∧ yX0_addOne.cls ≠ "java/lang/invoke/MethodHandle" ∧ yX0_addOne.cls ≠ "java/lang/invoke/VarHandle" ∧ (parseMethodDescriptor yX0_addOne.desc).map (fun d => d.parameters.length) = some 3 := by decide +kernel
abbrev rmX0_closeFile : Room := ({ frames := 1, cells := 0, slots := 0, locals := 22 } : Room)
theorem hd_X0_closeFile : yX0_closeFile.cls = RX0 ∧ yX0_closeFile.cls ≠ "java/lang/invoke/MethodHandle" ∧ yX0_closeFile.cls ≠ "java/lang/invoke/VarHandle" ∧ (parseMethodDescriptor yX0_closeFile.desc).map (fun d => d.parameters.length) = some 1 := by decide +kernel
abbrev rmX0_init : Room := ({ frames := 2, cells := 0, slots := 0, locals := 46 } : Room)
theorem hd_X0_init : yX0_init.cls = RX0 ∧ yX0_init.cls ≠ "java/lang/invoke/MethodHandle" ∧ yX0_init.cls ≠ "java/lang/invoke/VarHandle" ∧ (parseMethodDescriptor yX0_init.desc).map (fun d => d.parameters.length) = some 0 := by decide +kernel
abbrev rmX0_putIntoChute : Room := ({ frames := 1, cells := 0, slots := 0, locals := 22 } : Room)
theorem hd_X0_putIntoChute : yX0_putIntoChute.cls = RX0 ∧ yX0_putIntoChute.cls ≠ "java/lang/invoke/MethodHandle" ∧ yX0_putIntoChute.cls ≠ "java/lang/invoke/VarHandle" ∧ (parseMethodDescriptor yX0_putIntoChute.desc).map (fun d => d.parameters.length) = some 2 := by decide +kernel
abbrev rmX0_renew : Room := ({ frames := 2, cells := 0, slots := 0, locals := 43 } : Room)
theorem hd_X0_renew : yX0_renew.cls = RX0 ∧ yX0_renew.cls ≠ "java/lang/invoke/MethodHandle" ∧ yX0_renew.cls ≠ "java/lang/invoke/VarHandle" ∧ (parseMethodDescriptor yX0_renew.desc).map (fun d => d.parameters.length) = some 2 := by decide +kernel
abbrev rmX0_takeAll : Room := ({ frames := 2, cells := 0, slots := 0, locals := 81 } : Room)
theorem hd_X0_takeAll : yX0_takeAll.cls = RX0 ∧ yX0_takeAll.cls ≠ "java/lang/invoke/MethodHandle" ∧ yX0_takeAll.cls ≠ "java/lang/invoke/VarHandle" ∧ (parseMethodDescriptor yX0_takeAll.desc).map (fun d => d.parameters.length) = some 1 := by decide +kernel
abbrev rmX0_takeFromChute : Room := ({ frames := 1, cells := 0, slots := 0, locals := 22 } : Room)
theorem hd_X0_takeFromChute : yX0_takeFromChute.cls = RX0 ∧ yX0_takeFromChute.cls ≠ "java/lang/invoke/MethodHandle" ∧ yX0_takeFromChute.cls ≠ "java/lang/invoke/VarHandle" ∧ (parseMethodDescriptor yX0_takeFromChute.desc).map (fun d => d.parameters.length) = some 2 := by decide +kernel
abbrev rmX1_addOne : Room := ({ frames := 0, cells := 0, slots := 0, locals := 0 } : Room)
theorem hd_X1_addOne : yX1_addOne.cls = RX1 ∧ yX1_addOne.cls ≠ "java/lang/invoke/MethodHandle" ∧ yX1_addOne.cls ≠ "java/lang/invoke/VarHandle" ∧ (parseMethodDescriptor yX1_addOne.desc).map (fun d => d.parameters.length) = some 0 := by decide +kernel
abbrev rmX1_hasLeft : Room := ({ frames := 1, cells := 0, slots := 0, locals := 21 } : Room)
theorem hd_X1_hasLeft : yX1_hasLeft.cls = RX1 ∧ yX1_hasLeft.cls ≠ "java/lang/invoke/MethodHandle" ∧ yX1_hasLeft.cls ≠ "java/lang/invoke/VarHandle" ∧ (parseMethodDescriptor yX1_hasLeft.desc).map (fun d => d.parameters.length) = some 1 := by decide +kernel
abbrev rmX1_init : Room := ({ frames := 2, cells := 0, slots := 0, locals := 46 } : Room)
theorem hd_X1_init : yX1_init.cls = RX1 ∧ yX1_init.cls ≠ "java/lang/invoke/MethodHandle" ∧ yX1_init.cls ≠ "java/lang/invoke/VarHandle" ∧ (parseMethodDescriptor yX1_init.desc).map (fun d => d.parameters.length) = some 0 := by decide +kernel
abbrev rmX1_takeAll : Room := ({ frames := 2, cells := 0, slots := 0, locals := 81 } : Room)
theorem hd_X1_takeAll : yX1_takeAll.cls = RX1 ∧ yX1_takeAll.cls ≠ "java/lang/invoke/MethodHandle" ∧ yX1_takeAll.cls ≠ "java/lang/invoke/VarHandle" ∧ (parseMethodDescriptor yX1_takeAll.desc).map (fun d => d.parameters.length) = some 1 := by decide +kernel
abbrev rmX2_becomeLike : Room := ({ frames := 3, cells := 0, slots := 0, locals := 102 } : Room)
theorem hd_X2_becomeLike : yX2_becomeLike.cls = RX2 ∧ yX2_becomeLike.cls ≠ "java/lang/invoke/MethodHandle" ∧ yX2_becomeLike.cls ≠ "java/lang/invoke/VarHandle" ∧ (parseMethodDescriptor yX2_becomeLike.desc).map (fun d => d.parameters.length) = some 1 := by decide +kernel
abbrev rmX2_changeChute : Room := ({ frames := 2, cells := 0, slots := 0, locals := 42 } : Room)
theorem hd_X2_changeChute : yX2_changeChute.cls = RX2 ∧ yX2_changeChute.cls ≠ "java/lang/invoke/MethodHandle" ∧ yX2_changeChute.cls ≠ "java/lang/invoke/VarHandle" ∧ (parseMethodDescriptor yX2_changeChute.desc).map (fun d => d.parameters.length) = some 2 := by decide +kernel
abbrev rmX2_clearMisrouted : Room := ({ frames := 3, cells := 0, slots := 0, locals := 63 } : Room)
theorem hd_X2_clearMisrouted : yX2_clearMisrouted.cls = RX2 ∧ yX2_clearMisrouted.cls ≠ "java/lang/invoke/MethodHandle" ∧ yX2_clearMisrouted.cls ≠ "java/lang/invoke/VarHandle" ∧ (parseMethodDescriptor yX2_clearMisrouted.desc).map (fun d => d.parameters.length) = some 1 := by decide +kernel
abbrev rmX2_countMisrouted : Room := ({ frames := 3, cells := 0, slots := 0, locals := 63 } : Room)
theorem hd_X2_countMisrouted : yX2_countMisrouted.cls = RX2 ∧ yX2_countMisrouted.cls ≠ "java/lang/invoke/MethodHandle" ∧ yX2_countMisrouted.cls ≠ "java/lang/invoke/VarHandle" ∧ (parseMethodDescriptor yX2_countMisrouted.desc).map (fun d => d.parameters.length) = some 1 := by decide +kernel
abbrev rmX2_countMissing : Room := ({ frames := 4, cells := 0, slots := 0, locals := 86 } : Room)
theorem hd_X2_countMissing : yX2_countMissing.cls = RX2 ∧ yX2_countMissing.cls ≠ "java/lang/invoke/MethodHandle" ∧ yX2_countMissing.cls ≠ "java/lang/invoke/VarHandle" ∧ (parseMethodDescriptor yX2_countMissing.desc).map (fun d => d.parameters.length) = some 1 := by decide +kernel
abbrev rmX2_countReady : Room := ({ frames := 3, cells := 0, slots := 0, locals := 63 } : Room)
theorem hd_X2_countReady : yX2_countReady.cls = RX2 ∧ yX2_countReady.cls ≠ "java/lang/invoke/MethodHandle" ∧ yX2_countReady.cls ≠ "java/lang/invoke/VarHandle" ∧ (parseMethodDescriptor yX2_countReady.desc).map (fun d => d.parameters.length) = some 1 := by decide +kernel
abbrev rmX2_feedBelt : Room := ({ frames := 2, cells := 0, slots := 0, locals := 44 } : Room)
theorem hd_X2_feedBelt : yX2_feedBelt.cls = RX2 ∧ yX2_feedBelt.cls ≠ "java/lang/invoke/MethodHandle" ∧ yX2_feedBelt.cls ≠ "java/lang/invoke/VarHandle" ∧ (parseMethodDescriptor yX2_feedBelt.desc).map (fun d => d.parameters.length) = some 0 := by decide +kernel
abbrev rmX2_fillChutes : Room := ({ frames := 2, cells := 0, slots := 0, locals := 47 } : Room)
theorem hd_X2_fillChutes : yX2_fillChutes.cls = RX2 ∧ yX2_fillChutes.cls ≠ "java/lang/invoke/MethodHandle" ∧ yX2_fillChutes.cls ≠ "java/lang/invoke/VarHandle" ∧ (parseMethodDescriptor yX2_fillChutes.desc).map (fun d => d.parameters.length) = some 0 := by decide +kernel
abbrev rmX2_findOnBelt : Room := ({ frames := 1, cells := 0, slots := 0, locals := 22 } : Room)
theorem hd_X2_findOnBelt : yX2_findOnBelt.cls = RX2 ∧ yX2_findOnBelt.cls ≠ "java/lang/invoke/MethodHandle" ∧ yX2_findOnBelt.cls ≠ "java/lang/invoke/VarHandle" ∧ (parseMethodDescriptor yX2_findOnBelt.desc).map (fun d => d.parameters.length) = some 1 := by decide +kernel
abbrev rmX2_goMinute : Room := ({ frames := 3, cells := 0, slots := 0, locals := 71 } : Room)
theorem hd_X2_goMinute : yX2_goMinute.cls = RX2 ∧ yX2_goMinute.cls ≠ "java/lang/invoke/MethodHandle" ∧ yX2_goMinute.cls ≠ "java/lang/invoke/VarHandle" ∧ (parseMethodDescriptor yX2_goMinute.desc).map (fun d => d.parameters.length) = some 0 := by decide +kernel
abbrev rmX2_goMinutes : Room := ({ frames := 4, cells := 0, slots := 0, locals := 92 } : Room)
theorem hd_X2_goMinutes : yX2_goMinutes.cls = RX2 ∧ yX2_goMinutes.cls ≠ "java/lang/invoke/MethodHandle" ∧ yX2_goMinutes.cls ≠ "java/lang/invoke/VarHandle" ∧ (parseMethodDescriptor yX2_goMinutes.desc).map (fun d => d.parameters.length) = some 1 := by decide +kernel
abbrev rmX2_hasRoom : Room := ({ frames := 1, cells := 0, slots := 0, locals := 26 } : Room)
theorem hd_X2_hasRoom : yX2_hasRoom.cls = RX2 ∧ yX2_hasRoom.cls ≠ "java/lang/invoke/MethodHandle" ∧ yX2_hasRoom.cls ≠ "java/lang/invoke/VarHandle" ∧ (parseMethodDescriptor yX2_hasRoom.desc).map (fun d => d.parameters.length) = some 1 := by decide +kernel
abbrev rmX2_init : Room := ({ frames := 3, cells := 0, slots := 0, locals := 66 } : Room)
theorem hd_X2_init : yX2_init.cls = RX2 ∧ yX2_init.cls ≠ "java/lang/invoke/MethodHandle" ∧ yX2_init.cls ≠ "java/lang/invoke/VarHandle" ∧ (parseMethodDescriptor yX2_init.desc).map (fun d => d.parameters.length) = some 0 := by decide +kernel
abbrev rmX2_isAstray : Room := ({ frames := 2, cells := 0, slots := 0, locals := 42 } : Room)
theorem hd_X2_isAstray : yX2_isAstray.cls = RX2 ∧ yX2_isAstray.cls ≠ "java/lang/invoke/MethodHandle" ∧ yX2_isAstray.cls ≠ "java/lang/invoke/VarHandle" ∧ (parseMethodDescriptor yX2_isAstray.desc).map (fun d => d.parameters.length) = some 1 := by decide +kernel
abbrev rmX2_isInOwnChute : Room := ({ frames := 1, cells := 0, slots := 0, locals := 21 } : Room)
theorem hd_X2_isInOwnChute : yX2_isInOwnChute.cls = RX2 ∧ yX2_isInOwnChute.cls ≠ "java/lang/invoke/MethodHandle" ∧ yX2_isInOwnChute.cls ≠ "java/lang/invoke/VarHandle" ∧ (parseMethodDescriptor yX2_isInOwnChute.desc).map (fun d => d.parameters.length) = some 1 := by decide +kernel
abbrev rmX2_isReady : Room := ({ frames := 2, cells := 0, slots := 0, locals := 42 } : Room)
theorem hd_X2_isReady : yX2_isReady.cls = RX2 ∧ yX2_isReady.cls ≠ "java/lang/invoke/MethodHandle" ∧ yX2_isReady.cls ≠ "java/lang/invoke/VarHandle" ∧ (parseMethodDescriptor yX2_isReady.desc).map (fun d => d.parameters.length) = some 1 := by decide +kernel
abbrev rmX2_letLeave : Room := ({ frames := 2, cells := 0, slots := 0, locals := 44 } : Room)
theorem hd_X2_letLeave : yX2_letLeave.cls = RX2 ∧ yX2_letLeave.cls ≠ "java/lang/invoke/MethodHandle" ∧ yX2_letLeave.cls ≠ "java/lang/invoke/VarHandle" ∧ (parseMethodDescriptor yX2_letLeave.desc).map (fun d => d.parameters.length) = some 1 := by decide +kernel
abbrev rmX2_missTag : Room := ({ frames := 1, cells := 0, slots := 0, locals := 22 } : Room)
theorem hd_X2_missTag : yX2_missTag.cls = RX2 ∧ yX2_missTag.cls ≠ "java/lang/invoke/MethodHandle" ∧ yX2_missTag.cls ≠ "java/lang/invoke/VarHandle" ∧ (parseMethodDescriptor yX2_missTag.desc).map (fun d => d.parameters.length) = some 1 := by decide +kernel
abbrev rmX2_readTag : Room := ({ frames := 2, cells := 0, slots := 0, locals := 44 } : Room)
theorem hd_X2_readTag : yX2_readTag.cls = RX2 ∧ yX2_readTag.cls ≠ "java/lang/invoke/MethodHandle" ∧ yX2_readTag.cls ≠ "java/lang/invoke/VarHandle" ∧ (parseMethodDescriptor yX2_readTag.desc).map (fun d => d.parameters.length) = some 0 := by decide +kernel
abbrev rmX2_takeIn : Room := ({ frames := 1, cells := 0, slots := 0, locals := 22 } : Room)
theorem hd_X2_takeIn : yX2_takeIn.cls = RX2 ∧ yX2_takeIn.cls ≠ "java/lang/invoke/MethodHandle" ∧ yX2_takeIn.cls ≠ "java/lang/invoke/VarHandle" ∧ (parseMethodDescriptor yX2_takeIn.desc).map (fun d => d.parameters.length) = some 1 := by decide +kernel
abbrev rmX3_at : Room := ({ frames := 0, cells := 0, slots := 0, locals := 0 } : Room)
theorem hd_X3_at : yX3_at.cls = RX3 ∧ yX3_at.cls ≠ "java/lang/invoke/MethodHandle" ∧ yX3_at.cls ≠ "java/lang/invoke/VarHandle" ∧ (parseMethodDescriptor yX3_at.desc).map (fun d => d.parameters.length) = some 1 := by decide +kernel
abbrev rmX3_count : Room := ({ frames := 0, cells := 0, slots := 0, locals := 0 } : Room)
theorem hd_X3_count : yX3_count.cls = RX3 ∧ yX3_count.cls ≠ "java/lang/invoke/MethodHandle" ∧ yX3_count.cls ≠ "java/lang/invoke/VarHandle" ∧ (parseMethodDescriptor yX3_count.desc).map (fun d => d.parameters.length) = some 1 := by decide +kernel
abbrev rmX3_find : Room := ({ frames := 0, cells := 0, slots := 0, locals := 0 } : Room)
theorem hd_X3_find : yX3_find.cls = RX3 ∧ yX3_find.cls ≠ "java/lang/invoke/MethodHandle" ∧ yX3_find.cls ≠ "java/lang/invoke/VarHandle" ∧ (parseMethodDescriptor yX3_find.desc).map (fun d => d.parameters.length) = some 1 := by decide +kernel
abbrev rmX3_init : Room := ({ frames := 1, cells := 0, slots := 0, locals := 24 } : Room)
theorem hd_X3_init : yX3_init.cls = RX3 ∧ yX3_init.cls ≠ "java/lang/invoke/MethodHandle" ∧ yX3_init.cls ≠ "java/lang/invoke/VarHandle" ∧ (parseMethodDescriptor yX3_init.desc).map (fun d => d.parameters.length) = some 2 := by decide +kernel
abbrev rmX3_put : Room := ({ frames := 0, cells := 0, slots := 0, locals := 0 } : Room)
theorem hd_X3_put : yX3_put.cls = RX3 ∧ yX3_put.cls ≠ "java/lang/invoke/MethodHandle" ∧ yX3_put.cls ≠ "java/lang/invoke/VarHandle" ∧ (parseMethodDescriptor yX3_put.desc).map (fun d => d.parameters.length) = some 2 := by decide +kernel
abbrev rmX3_sum : Room := ({ frames := 0, cells := 0, slots := 0, locals := 0 } : Room)
theorem hd_X3_sum : yX3_sum.cls = RX3 ∧ yX3_sum.cls ≠ "java/lang/invoke/MethodHandle" ∧ yX3_sum.cls ≠ "java/lang/invoke/VarHandle" ∧ (parseMethodDescriptor yX3_sum.desc).map (fun d => d.parameters.length) = some 0 := by decide +kernel
abbrev rmX3_takeAll : Room := ({ frames := 1, cells := 0, slots := 0, locals := 60 } : Room)
theorem hd_X3_takeAll : yX3_takeAll.cls = RX3 ∧ yX3_takeAll.cls ≠ "java/lang/invoke/MethodHandle" ∧ yX3_takeAll.cls ≠ "java/lang/invoke/VarHandle" ∧ (parseMethodDescriptor yX3_takeAll.desc).map (fun d => d.parameters.length) = some 1 := by decide +kernel
abbrev rmX3_takeFront : Room := ({ frames := 1, cells := 0, slots := 0, locals := 22 } : Room)
theorem hd_X3_takeFront : yX3_takeFront.cls = RX3 ∧ yX3_takeFront.cls ≠ "java/lang/invoke/MethodHandle" ∧ yX3_takeFront.cls ≠ "java/lang/invoke/VarHandle" ∧ (parseMethodDescriptor yX3_takeFront.desc).map (fun d => d.parameters.length) = some 0 := by decide +kernel
abbrev rmX3_turn : Room := ({ frames := 1, cells := 0, slots := 0, locals := 22 } : Room)
theorem hd_X3_turn : yX3_turn.cls = RX3 ∧ yX3_turn.cls ≠ "java/lang/invoke/MethodHandle" ∧ yX3_turn.cls ≠ "java/lang/invoke/VarHandle" ∧ (parseMethodDescriptor yX3_turn.desc).map (fun d => d.parameters.length) = some 0 := by decide +kernel
abbrev rmX4_addBag : Room := ({ frames := 3, cells := 0, slots := 0, locals := 63 } : Room)
theorem hd_X4_addBag : yX4_addBag.cls = RX4 ∧ yX4_addBag.cls ≠ "java/lang/invoke/MethodHandle" ∧ yX4_addBag.cls ≠ "java/lang/invoke/VarHandle" ∧ (parseMethodDescriptor yX4_addBag.desc).map (fun d => d.parameters.length) = some 2 := by decide +kernel
abbrev rmX4_addChute : Room := ({ frames := 4, cells := 0, slots := 0, locals := 86 } : Room)
theorem hd_X4_addChute : yX4_addChute.cls = RX4 ∧ yX4_addChute.cls ≠ "java/lang/invoke/MethodHandle" ∧ yX4_addChute.cls ≠ "java/lang/invoke/VarHandle" ∧ (parseMethodDescriptor yX4_addChute.desc).map (fun d => d.parameters.length) = some 2 := by decide +kernel
abbrev rmX4_addFlight : Room := ({ frames := 6, cells := 0, slots := 0, locals := 100 } : Room)
theorem hd_X4_addFlight : yX4_addFlight.cls = RX4 ∧ yX4_addFlight.cls ≠ "java/lang/invoke/MethodHandle" ∧ yX4_addFlight.cls ≠ "java/lang/invoke/VarHandle" ∧ (parseMethodDescriptor yX4_addFlight.desc).map (fun d => d.parameters.length) = some 0 := by decide +kernel
abbrev rmX4_addHall : Room := ({ frames := 1, cells := 0, slots := 0, locals := 26 } : Room)
theorem hd_X4_addHall : yX4_addHall.cls = RX4 ∧ yX4_addHall.cls ≠ "java/lang/invoke/MethodHandle" ∧ yX4_addHall.cls ≠ "java/lang/invoke/VarHandle" ∧ (parseMethodDescriptor yX4_addHall.desc).map (fun d => d.parameters.length) = some 1 := by decide +kernel
abbrev rmX4_addNumber : Room := ({ frames := 0, cells := 0, slots := 0, locals := 0 } : Room)
theorem hd_X4_addNumber : yX4_addNumber.cls ≠ "java/lang/invoke/MethodHandle" ∧ yX4_addNumber.cls ≠ "java/lang/invoke/VarHandle" ∧ (parseMethodDescriptor yX4_addNumber.desc).map (fun d => d.parameters.length) = some 2 := by decide +kernel
abbrev rmX4_addOfFlight : Room := ({ frames := 5, cells := 0, slots := 0, locals := 107 } : Room)
theorem hd_X4_addOfFlight : yX4_addOfFlight.cls = RX4 ∧ yX4_addOfFlight.cls ≠ "java/lang/invoke/MethodHandle" ∧ yX4_addOfFlight.cls ≠ "java/lang/invoke/VarHandle" ∧ (parseMethodDescriptor yX4_addOfFlight.desc).map (fun d => d.parameters.length) = some 2 := by decide +kernel
abbrev rmX4_atDesk : Room := ({ frames := 1, cells := 0, slots := 0, locals := 26 } : Room)
theorem hd_X4_atDesk : yX4_atDesk.cls = RX4 ∧ yX4_atDesk.cls ≠ "java/lang/invoke/MethodHandle" ∧ yX4_atDesk.cls ≠ "java/lang/invoke/VarHandle" ∧ (parseMethodDescriptor yX4_atDesk.desc).map (fun d => d.parameters.length) = some 0 := by decide +kernel
abbrev rmX4_bagAt : Room := ({ frames := 6, cells := 0, slots := 0, locals := 100 } : Room)
theorem hd_X4_bagAt : yX4_bagAt.cls = RX4 ∧ yX4_bagAt.cls ≠ "java/lang/invoke/MethodHandle" ∧ yX4_bagAt.cls ≠ "java/lang/invoke/VarHandle" ∧ (parseMethodDescriptor yX4_bagAt.desc).map (fun d => d.parameters.length) = some 1 := by decide +kernel
abbrev rmX4_bags : Room := ({ frames := 0, cells := 0, slots := 0, locals := 0 } : Room)
theorem hd_X4_bags : yX4_bags.cls = RX4 ∧ yX4_bags.cls ≠ "java/lang/invoke/MethodHandle" ∧ yX4_bags.cls ≠ "java/lang/invoke/VarHandle" ∧ (parseMethodDescriptor yX4_bags.desc).map (fun d => d.parameters.length) = some 0 := by decide +kernel
abbrev rmX4_bagsIn : Room := ({ frames := 7, cells := 0, slots := 0, locals := 120 } : Room)
theorem hd_X4_bagsIn : yX4_bagsIn.cls = RX4 ∧ yX4_bagsIn.cls ≠ "java/lang/invoke/MethodHandle" ∧ yX4_bagsIn.cls ≠ "java/lang/invoke/VarHandle" ∧ (parseMethodDescriptor yX4_bagsIn.desc).map (fun d => d.parameters.length) = some 1 := by decide +kernel
abbrev rmX4_bestChute : Room := ({ frames := 7, cells := 0, slots := 0, locals := 146 } : Room)
theorem hd_X4_bestChute : yX4_bestChute.cls = RX4 ∧ yX4_bestChute.cls ≠ "java/lang/invoke/MethodHandle" ∧ yX4_bestChute.cls ≠ "java/lang/invoke/VarHandle" ∧ (parseMethodDescriptor yX4_bestChute.desc).map (fun d => d.parameters.length) = some 2 := by decide +kernel
abbrev rmX4_carry : Room := ({ frames := 7, cells := 0, slots := 0, locals := 122 } : Room)
theorem hd_X4_carry : yX4_carry.cls = RX4 ∧ yX4_carry.cls ≠ "java/lang/invoke/MethodHandle" ∧ yX4_carry.cls ≠ "java/lang/invoke/VarHandle" ∧ (parseMethodDescriptor yX4_carry.desc).map (fun d => d.parameters.length) = some 1 := by decide +kernel
abbrev rmX4_checkIn : Room := ({ frames := 7, cells := 0, slots := 0, locals := 121 } : Room)
theorem hd_X4_checkIn : yX4_checkIn.cls = RX4 ∧ yX4_checkIn.cls ≠ "java/lang/invoke/MethodHandle" ∧ yX4_checkIn.cls ≠ "java/lang/invoke/VarHandle" ∧ (parseMethodDescriptor yX4_checkIn.desc).map (fun d => d.parameters.length) = some 3 := by decide +kernel
abbrev rmX4_chuteOf : Room := ({ frames := 7, cells := 0, slots := 0, locals := 121 } : Room)
theorem hd_X4_chuteOf : yX4_chuteOf.cls = RX4 ∧ yX4_chuteOf.cls ≠ "java/lang/invoke/MethodHandle" ∧ yX4_chuteOf.cls ≠ "java/lang/invoke/VarHandle" ∧ (parseMethodDescriptor yX4_chuteOf.desc).map (fun d => d.parameters.length) = some 1 := by decide +kernel
abbrev rmX4_chuteOfFlight : Room := ({ frames := 7, cells := 0, slots := 0, locals := 121 } : Room)
theorem hd_X4_chuteOfFlight : yX4_chuteOfFlight.cls = RX4 ∧ yX4_chuteOfFlight.cls ≠ "java/lang/invoke/MethodHandle" ∧ yX4_chuteOfFlight.cls ≠ "java/lang/invoke/VarHandle" ∧ (parseMethodDescriptor yX4_chuteOfFlight.desc).map (fun d => d.parameters.length) = some 1 := by decide +kernel
abbrev rmX4_closedFiles : Room := ({ frames := 1, cells := 0, slots := 0, locals := 26 } : Room)
theorem hd_X4_closedFiles : yX4_closedFiles.cls = RX4 ∧ yX4_closedFiles.cls ≠ "java/lang/invoke/MethodHandle" ∧ yX4_closedFiles.cls ≠ "java/lang/invoke/VarHandle" ∧ (parseMethodDescriptor yX4_closedFiles.desc).map (fun d => d.parameters.length) = some 0 := by decide +kernel
abbrev rmX4_depart : Room := ({ frames := 7, cells := 0, slots := 0, locals := 121 } : Room)
theorem hd_X4_depart : yX4_depart.cls = RX4 ∧ yX4_depart.cls ≠ "java/lang/invoke/MethodHandle" ∧ yX4_depart.cls ≠ "java/lang/invoke/VarHandle" ∧ (parseMethodDescriptor yX4_depart.desc).map (fun d => d.parameters.length) = some 1 := by decide +kernel
abbrev rmX4_digest : Room := ({ frames := 6, cells := 0, slots := 0, locals := 132 } : Room)
theorem hd_X4_digest : yX4_digest.cls = RX4 ∧ yX4_digest.cls ≠ "java/lang/invoke/MethodHandle" ∧ yX4_digest.cls ≠ "java/lang/invoke/VarHandle" ∧ (parseMethodDescriptor yX4_digest.desc).map (fun d => d.parameters.length) = some 0 := by decide +kernel
abbrev rmX4_flightOf : Room := ({ frames := 7, cells := 0, slots := 0, locals := 121 } : Room)
theorem hd_X4_flightOf : yX4_flightOf.cls = RX4 ∧ yX4_flightOf.cls ≠ "java/lang/invoke/MethodHandle" ∧ yX4_flightOf.cls ≠ "java/lang/invoke/VarHandle" ∧ (parseMethodDescriptor yX4_flightOf.desc).map (fun d => d.parameters.length) = some 1 := by decide +kernel
abbrev rmX4_flights : Room := ({ frames := 0, cells := 0, slots := 0, locals := 0 } : Room)
theorem hd_X4_flights : yX4_flights.cls = RX4 ∧ yX4_flights.cls ≠ "java/lang/invoke/MethodHandle" ∧ yX4_flights.cls ≠ "java/lang/invoke/VarHandle" ∧ (parseMethodDescriptor yX4_flights.desc).map (fun d => d.parameters.length) = some 0 := by decide +kernel
abbrev rmX4_forward : Room := ({ frames := 7, cells := 0, slots := 0, locals := 122 } : Room)
theorem hd_X4_forward : yX4_forward.cls = RX4 ∧ yX4_forward.cls ≠ "java/lang/invoke/MethodHandle" ∧ yX4_forward.cls ≠ "java/lang/invoke/VarHandle" ∧ (parseMethodDescriptor yX4_forward.desc).map (fun d => d.parameters.length) = some 2 := by decide +kernel
abbrev rmX4_giveChute : Room := ({ frames := 7, cells := 0, slots := 0, locals := 121 } : Room)
theorem hd_X4_giveChute : yX4_giveChute.cls = RX4 ∧ yX4_giveChute.cls ≠ "java/lang/invoke/MethodHandle" ∧ yX4_giveChute.cls ≠ "java/lang/invoke/VarHandle" ∧ (parseMethodDescriptor yX4_giveChute.desc).map (fun d => d.parameters.length) = some 2 := by decide +kernel
abbrev rmX4_hasOpenFile : Room := ({ frames := 7, cells := 0, slots := 0, locals := 121 } : Room)
theorem hd_X4_hasOpenFile : yX4_hasOpenFile.cls = RX4 ∧ yX4_hasOpenFile.cls ≠ "java/lang/invoke/MethodHandle" ∧ yX4_hasOpenFile.cls ≠ "java/lang/invoke/VarHandle" ∧ (parseMethodDescriptor yX4_hasOpenFile.desc).map (fun d => d.parameters.length) = some 1 := by decide +kernel
abbrev rmX4_inLine : Room := ({ frames := 1, cells := 0, slots := 0, locals := 26 } : Room)
theorem hd_X4_inLine : yX4_inLine.cls = RX4 ∧ yX4_inLine.cls ≠ "java/lang/invoke/MethodHandle" ∧ yX4_inLine.cls ≠ "java/lang/invoke/VarHandle" ∧ (parseMethodDescriptor yX4_inLine.desc).map (fun d => d.parameters.length) = some 0 := by decide +kernel
abbrev rmX4_init : Room := ({ frames := 4, cells := 0, slots := 0, locals := 86 } : Room)
theorem hd_X4_init : yX4_init.cls = RX4 ∧ yX4_init.cls ≠ "java/lang/invoke/MethodHandle" ∧ yX4_init.cls ≠ "java/lang/invoke/VarHandle" ∧ (parseMethodDescriptor yX4_init.desc).map (fun d => d.parameters.length) = some 0 := by decide +kernel
abbrev rmX4_isChute : Room := ({ frames := 0, cells := 0, slots := 0, locals := 0 } : Room)
theorem hd_X4_isChute : yX4_isChute.cls ≠ "java/lang/invoke/MethodHandle" ∧ yX4_isChute.cls ≠ "java/lang/invoke/VarHandle" ∧ (parseMethodDescriptor yX4_isChute.desc).map (fun d => d.parameters.length) = some 1 := by decide +kernel
abbrev rmX4_isGone : Room := ({ frames := 7, cells := 0, slots := 0, locals := 121 } : Room)
theorem hd_X4_isGone : yX4_isGone.cls = RX4 ∧ yX4_isGone.cls ≠ "java/lang/invoke/MethodHandle" ∧ yX4_isGone.cls ≠ "java/lang/invoke/VarHandle" ∧ (parseMethodDescriptor yX4_isGone.desc).map (fun d => d.parameters.length) = some 1 := by decide +kernel
abbrev rmX4_isMisrouted : Room := ({ frames := 7, cells := 0, slots := 0, locals := 121 } : Room)
theorem hd_X4_isMisrouted : yX4_isMisrouted.cls = RX4 ∧ yX4_isMisrouted.cls ≠ "java/lang/invoke/MethodHandle" ∧ yX4_isMisrouted.cls ≠ "java/lang/invoke/VarHandle" ∧ (parseMethodDescriptor yX4_isMisrouted.desc).map (fun d => d.parameters.length) = some 1 := by decide +kernel
abbrev rmX4_meanMisses : Room := ({ frames := 1, cells := 0, slots := 0, locals := 25 } : Room)
theorem hd_X4_meanMisses : yX4_meanMisses.cls = RX4 ∧ yX4_meanMisses.cls ≠ "java/lang/invoke/MethodHandle" ∧ yX4_meanMisses.cls ≠ "java/lang/invoke/VarHandle" ∧ (parseMethodDescriptor yX4_meanMisses.desc).map (fun d => d.parameters.length) = some 0 := by decide +kernel
abbrev rmX4_minute : Room := ({ frames := 0, cells := 0, slots := 0, locals := 0 } : Room)
theorem hd_X4_minute : yX4_minute.cls = RX4 ∧ yX4_minute.cls ≠ "java/lang/invoke/MethodHandle" ∧ yX4_minute.cls ≠ "java/lang/invoke/VarHandle" ∧ (parseMethodDescriptor yX4_minute.desc).map (fun d => d.parameters.length) = some 0 := by decide +kernel
abbrev rmX4_minutesUntilChute : Room := ({ frames := 7, cells := 0, slots := 0, locals := 123 } : Room)
theorem hd_X4_minutesUntilChute : yX4_minutesUntilChute.cls = RX4 ∧ yX4_minutesUntilChute.cls ≠ "java/lang/invoke/MethodHandle" ∧ yX4_minutesUntilChute.cls ≠ "java/lang/invoke/VarHandle" ∧ (parseMethodDescriptor yX4_minutesUntilChute.desc).map (fun d => d.parameters.length) = some 1 := by decide +kernel
abbrev rmX4_misroutedIn : Room := ({ frames := 7, cells := 0, slots := 0, locals := 120 } : Room)
theorem hd_X4_misroutedIn : yX4_misroutedIn.cls = RX4 ∧ yX4_misroutedIn.cls ≠ "java/lang/invoke/MethodHandle" ∧ yX4_misroutedIn.cls ≠ "java/lang/invoke/VarHandle" ∧ (parseMethodDescriptor yX4_misroutedIn.desc).map (fun d => d.parameters.length) = some 1 := by decide +kernel
abbrev rmX4_missesOf : Room := ({ frames := 7, cells := 0, slots := 0, locals := 121 } : Room)
theorem hd_X4_missesOf : yX4_missesOf.cls = RX4 ∧ yX4_missesOf.cls ≠ "java/lang/invoke/MethodHandle" ∧ yX4_missesOf.cls ≠ "java/lang/invoke/VarHandle" ∧ (parseMethodDescriptor yX4_missesOf.desc).map (fun d => d.parameters.length) = some 1 := by decide +kernel
abbrev rmX4_missingOf : Room := ({ frames := 7, cells := 0, slots := 0, locals := 121 } : Room)
theorem hd_X4_missingOf : yX4_missingOf.cls = RX4 ∧ yX4_missingOf.cls ≠ "java/lang/invoke/MethodHandle" ∧ yX4_missingOf.cls ≠ "java/lang/invoke/VarHandle" ∧ (parseMethodDescriptor yX4_missingOf.desc).map (fun d => d.parameters.length) = some 1 := by decide +kernel
abbrev rmX4_needBag : Room := ({ frames := 6, cells := 0, slots := 0, locals := 100 } : Room)
theorem hd_X4_needBag : yX4_needBag.cls = RX4 ∧ yX4_needBag.cls ≠ "java/lang/invoke/MethodHandle" ∧ yX4_needBag.cls ≠ "java/lang/invoke/VarHandle" ∧ (parseMethodDescriptor yX4_needBag.desc).map (fun d => d.parameters.length) = some 1 := by decide +kernel
abbrev rmX4_needChute : Room := ({ frames := 6, cells := 0, slots := 0, locals := 100 } : Room)
theorem hd_X4_needChute : yX4_needChute.cls ≠ "java/lang/invoke/MethodHandle" ∧ yX4_needChute.cls ≠ "java/lang/invoke/VarHandle" ∧ (parseMethodDescriptor yX4_needChute.desc).map (fun d => d.parameters.length) = some 1 := by decide +kernel
abbrev rmX4_needFlight : Room := ({ frames := 6, cells := 0, slots := 0, locals := 100 } : Room)
theorem hd_X4_needFlight : yX4_needFlight.cls = RX4 ∧ yX4_needFlight.cls ≠ "java/lang/invoke/MethodHandle" ∧ yX4_needFlight.cls ≠ "java/lang/invoke/VarHandle" ∧ (parseMethodDescriptor yX4_needFlight.desc).map (fun d => d.parameters.length) = some 1 := by decide +kernel
abbrev rmX4_needInHand : Room := ({ frames := 6, cells := 0, slots := 0, locals := 100 } : Room)
theorem hd_X4_needInHand : yX4_needInHand.cls = RX4 ∧ yX4_needInHand.cls ≠ "java/lang/invoke/MethodHandle" ∧ yX4_needInHand.cls ≠ "java/lang/invoke/VarHandle" ∧ (parseMethodDescriptor yX4_needInHand.desc).map (fun d => d.parameters.length) = some 1 := by decide +kernel
abbrev rmX4_needMinutes : Room := ({ frames := 6, cells := 0, slots := 0, locals := 100 } : Room)
theorem hd_X4_needMinutes : yX4_needMinutes.cls ≠ "java/lang/invoke/MethodHandle" ∧ yX4_needMinutes.cls ≠ "java/lang/invoke/VarHandle" ∧ (parseMethodDescriptor yX4_needMinutes.desc).map (fun d => d.parameters.length) = some 1 := by decide +kernel
abbrev rmX4_needNotGone : Room := ({ frames := 6, cells := 0, slots := 0, locals := 100 } : Room)
theorem hd_X4_needNotGone : yX4_needNotGone.cls = RX4 ∧ yX4_needNotGone.cls ≠ "java/lang/invoke/MethodHandle" ∧ yX4_needNotGone.cls ≠ "java/lang/invoke/VarHandle" ∧ (parseMethodDescriptor yX4_needNotGone.desc).map (fun d => d.parameters.length) = some 1 := by decide +kernel
abbrev rmX4_onBelt : Room := ({ frames := 1, cells := 0, slots := 0, locals := 26 } : Room)
theorem hd_X4_onBelt : yX4_onBelt.cls = RX4 ∧ yX4_onBelt.cls ≠ "java/lang/invoke/MethodHandle" ∧ yX4_onBelt.cls ≠ "java/lang/invoke/VarHandle" ∧ (parseMethodDescriptor yX4_onBelt.desc).map (fun d => d.parameters.length) = some 0 := by decide +kernel
abbrev rmX4_openFiles : Room := ({ frames := 1, cells := 0, slots := 0, locals := 26 } : Room)
theorem hd_X4_openFiles : yX4_openFiles.cls = RX4 ∧ yX4_openFiles.cls ≠ "java/lang/invoke/MethodHandle" ∧ yX4_openFiles.cls ≠ "java/lang/invoke/VarHandle" ∧ (parseMethodDescriptor yX4_openFiles.desc).map (fun d => d.parameters.length) = some 0 := by decide +kernel
abbrev rmX4_pass : Room := ({ frames := 7, cells := 0, slots := 0, locals := 120 } : Room)
theorem hd_X4_pass : yX4_pass.cls = RX4 ∧ yX4_pass.cls ≠ "java/lang/invoke/MethodHandle" ∧ yX4_pass.cls ≠ "java/lang/invoke/VarHandle" ∧ (parseMethodDescriptor yX4_pass.desc).map (fun d => d.parameters.length) = some 1 := by decide +kernel
abbrev rmX4_placeOf : Room := ({ frames := 7, cells := 0, slots := 0, locals := 121 } : Room)
theorem hd_X4_placeOf : yX4_placeOf.cls = RX4 ∧ yX4_placeOf.cls ≠ "java/lang/invoke/MethodHandle" ∧ yX4_placeOf.cls ≠ "java/lang/invoke/VarHandle" ∧ (parseMethodDescriptor yX4_placeOf.desc).map (fun d => d.parameters.length) = some 1 := by decide +kernel
abbrev rmX4_readFor : Room := ({ frames := 7, cells := 0, slots := 0, locals := 121 } : Room)
theorem hd_X4_readFor : yX4_readFor.cls = RX4 ∧ yX4_readFor.cls ≠ "java/lang/invoke/MethodHandle" ∧ yX4_readFor.cls ≠ "java/lang/invoke/VarHandle" ∧ (parseMethodDescriptor yX4_readFor.desc).map (fun d => d.parameters.length) = some 1 := by decide +kernel
abbrev rmX4_reader : Room := ({ frames := 0, cells := 0, slots := 0, locals := 0 } : Room)
theorem hd_X4_reader : yX4_reader.cls = RX4 ∧ yX4_reader.cls ≠ "java/lang/invoke/MethodHandle" ∧ yX4_reader.cls ≠ "java/lang/invoke/VarHandle" ∧ (parseMethodDescriptor yX4_reader.desc).map (fun d => d.parameters.length) = some 0 := by decide +kernel
abbrev rmX4_readyAfter : Room := ({ frames := 7, cells := 0, slots := 0, locals := 146 } : Room)
theorem hd_X4_readyAfter : yX4_readyAfter.cls = RX4 ∧ yX4_readyAfter.cls ≠ "java/lang/invoke/MethodHandle" ∧ yX4_readyAfter.cls ≠ "java/lang/invoke/VarHandle" ∧ (parseMethodDescriptor yX4_readyAfter.desc).map (fun d => d.parameters.length) = some 2 := by decide +kernel
abbrev rmX4_readyOf : Room := ({ frames := 7, cells := 0, slots := 0, locals := 121 } : Room)
theorem hd_X4_readyOf : yX4_readyOf.cls = RX4 ∧ yX4_readyOf.cls ≠ "java/lang/invoke/MethodHandle" ∧ yX4_readyOf.cls ≠ "java/lang/invoke/VarHandle" ∧ (parseMethodDescriptor yX4_readyOf.desc).map (fun d => d.parameters.length) = some 1 := by decide +kernel
abbrev rmX4_readyWithChute : Room := ({ frames := 5, cells := 0, slots := 0, locals := 123 } : Room)
theorem hd_X4_readyWithChute : yX4_readyWithChute.cls = RX4 ∧ yX4_readyWithChute.cls ≠ "java/lang/invoke/MethodHandle" ∧ yX4_readyWithChute.cls ≠ "java/lang/invoke/VarHandle" ∧ (parseMethodDescriptor yX4_readyWithChute.desc).map (fun d => d.parameters.length) = some 3 := by decide +kernel
abbrev rmX4_roomOf : Room := ({ frames := 7, cells := 0, slots := 0, locals := 120 } : Room)
theorem hd_X4_roomOf : yX4_roomOf.cls = RX4 ∧ yX4_roomOf.cls ≠ "java/lang/invoke/MethodHandle" ∧ yX4_roomOf.cls ≠ "java/lang/invoke/VarHandle" ∧ (parseMethodDescriptor yX4_roomOf.desc).map (fun d => d.parameters.length) = some 1 := by decide +kernel
abbrev rmX4_setReader : Room := ({ frames := 6, cells := 0, slots := 0, locals := 100 } : Room)
theorem hd_X4_setReader : yX4_setReader.cls = RX4 ∧ yX4_setReader.cls ≠ "java/lang/invoke/MethodHandle" ∧ yX4_setReader.cls ≠ "java/lang/invoke/VarHandle" ∧ (parseMethodDescriptor yX4_setReader.desc).map (fun d => d.parameters.length) = some 1 := by decide +kernel
abbrev rmX4_setRoom : Room := ({ frames := 7, cells := 0, slots := 0, locals := 120 } : Room)
theorem hd_X4_setRoom : yX4_setRoom.cls = RX4 ∧ yX4_setRoom.cls ≠ "java/lang/invoke/MethodHandle" ∧ yX4_setRoom.cls ≠ "java/lang/invoke/VarHandle" ∧ (parseMethodDescriptor yX4_setRoom.desc).map (fun d => d.parameters.length) = some 2 := by decide +kernel
abbrev rmX4_sweep : Room := ({ frames := 7, cells := 0, slots := 0, locals := 120 } : Room)
theorem hd_X4_sweep : yX4_sweep.cls = RX4 ∧ yX4_sweep.cls ≠ "java/lang/invoke/MethodHandle" ∧ yX4_sweep.cls ≠ "java/lang/invoke/VarHandle" ∧ (parseMethodDescriptor yX4_sweep.desc).map (fun d => d.parameters.length) = some 1 := by decide +kernel
abbrev rmX4_whereIs : Room := ({ frames := 7, cells := 0, slots := 0, locals := 121 } : Room)
theorem hd_X4_whereIs : yX4_whereIs.cls = RX4 ∧ yX4_whereIs.cls ≠ "java/lang/invoke/MethodHandle" ∧ yX4_whereIs.cls ≠ "java/lang/invoke/VarHandle" ∧ (parseMethodDescriptor yX4_whereIs.desc).map (fun d => d.parameters.length) = some 1 := by decide +kernel
abbrev rmX5_become : Room := ({ frames := 2, cells := 0, slots := 0, locals := 81 } : Room)
theorem hd_X5_become : yX5_become.cls = RX5 ∧ yX5_become.cls ≠ "java/lang/invoke/MethodHandle" ∧ yX5_become.cls ≠ "java/lang/invoke/VarHandle" ∧ (parseMethodDescriptor yX5_become.desc).map (fun d => d.parameters.length) = some 1 := by decide +kernel
abbrev rmX5_copy : Room := ({ frames := 1, cells := 0, slots := 0, locals := 60 } : Room)
theorem hd_X5_copy : yX5_copy.cls ≠ "java/lang/invoke/MethodHandle" ∧ yX5_copy.cls ≠ "java/lang/invoke/VarHandle" ∧ (parseMethodDescriptor yX5_copy.desc).map (fun d => d.parameters.length) = some 2 := by decide +kernel
abbrev rmX5_firstInLine : Room := ({ frames := 1, cells := 0, slots := 0, locals := 60 } : Room)
theorem hd_X5_firstInLine : yX5_firstInLine.cls = RX5 ∧ yX5_firstInLine.cls ≠ "java/lang/invoke/MethodHandle" ∧ yX5_firstInLine.cls ≠ "java/lang/invoke/VarHandle" ∧ (parseMethodDescriptor yX5_firstInLine.desc).map (fun d => d.parameters.length) = some 0 := by decide +kernel
abbrev rmX5_init : Room := ({ frames := 1, cells := 0, slots := 0, locals := 24 } : Room)
theorem hd_X5_init : yX5_init.cls = RX5 ∧ yX5_init.cls ≠ "java/lang/invoke/MethodHandle" ∧ yX5_init.cls ≠ "java/lang/invoke/VarHandle" ∧ (parseMethodDescriptor yX5_init.desc).map (fun d => d.parameters.length) = some 0 := by decide +kernel
abbrev rmX5_put : Room := ({ frames := 0, cells := 0, slots := 0, locals := 0 } : Room)
theorem hd_X5_put : yX5_put.cls = RX5 ∧ yX5_put.cls ≠ "java/lang/invoke/MethodHandle" ∧ yX5_put.cls ≠ "java/lang/invoke/VarHandle" ∧ (parseMethodDescriptor yX5_put.desc).map (fun d => d.parameters.length) = some 3 := by decide +kernel
abbrev rmX5_toChute : Room := ({ frames := 1, cells := 0, slots := 0, locals := 23 } : Room)
theorem hd_X5_toChute : yX5_toChute.cls = RX5 ∧ yX5_toChute.cls ≠ "java/lang/invoke/MethodHandle" ∧ yX5_toChute.cls ≠ "java/lang/invoke/VarHandle" ∧ (parseMethodDescriptor yX5_toChute.desc).map (fun d => d.parameters.length) = some 2 := by decide +kernel
abbrev rmX5_toLine : Room := ({ frames := 1, cells := 0, slots := 0, locals := 23 } : Room)
theorem hd_X5_toLine : yX5_toLine.cls = RX5 ∧ yX5_toLine.cls ≠ "java/lang/invoke/MethodHandle" ∧ yX5_toLine.cls ≠ "java/lang/invoke/VarHandle" ∧ (parseMethodDescriptor yX5_toLine.desc).map (fun d => d.parameters.length) = some 1 := by decide +kernel
abbrev rmX5_turnRound : Room := ({ frames := 1, cells := 0, slots := 0, locals := 60 } : Room)
theorem hd_X5_turnRound : yX5_turnRound.cls = RX5 ∧ yX5_turnRound.cls ≠ "java/lang/invoke/MethodHandle" ∧ yX5_turnRound.cls ≠ "java/lang/invoke/VarHandle" ∧ (parseMethodDescriptor yX5_turnRound.desc).map (fun d => d.parameters.length) = some 0 := by decide +kernel
abbrev rmX6_addFlight : Room := ({ frames := 1, cells := 0, slots := 0, locals := 21 } : Room)
theorem hd_X6_addFlight : yX6_addFlight.cls = RX6 ∧ yX6_addFlight.cls ≠ "java/lang/invoke/MethodHandle" ∧ yX6_addFlight.cls ≠ "java/lang/invoke/VarHandle" ∧ (parseMethodDescriptor yX6_addFlight.desc).map (fun d => d.parameters.length) = some 0 := by decide +kernel
abbrev rmX6_atDesk : Room := ({ frames := 1, cells := 0, slots := 0, locals := 23 } : Room)
theorem hd_X6_atDesk : yX6_atDesk.cls = RX6 ∧ yX6_atDesk.cls ≠ "java/lang/invoke/MethodHandle" ∧ yX6_atDesk.cls ≠ "java/lang/invoke/VarHandle" ∧ (parseMethodDescriptor yX6_atDesk.desc).map (fun d => d.parameters.length) = some 0 := by decide +kernel
abbrev rmX6_badIn : Room := ({ frames := 1, cells := 0, slots := 0, locals := 21 } : Room)
theorem hd_X6_badIn : yX6_badIn.cls = RX6 ∧ yX6_badIn.cls ≠ "java/lang/invoke/MethodHandle" ∧ yX6_badIn.cls ≠ "java/lang/invoke/VarHandle" ∧ (parseMethodDescriptor yX6_badIn.desc).map (fun d => d.parameters.length) = some 1 := by decide +kernel
abbrev rmX6_bagAt : Room := ({ frames := 1, cells := 0, slots := 0, locals := 22 } : Room)
theorem hd_X6_bagAt : yX6_bagAt.cls = RX6 ∧ yX6_bagAt.cls ≠ "java/lang/invoke/MethodHandle" ∧ yX6_bagAt.cls ≠ "java/lang/invoke/VarHandle" ∧ (parseMethodDescriptor yX6_bagAt.desc).map (fun d => d.parameters.length) = some 1 := by decide +kernel
abbrev rmX6_bags : Room := ({ frames := 1, cells := 0, slots := 0, locals := 21 } : Room)
theorem hd_X6_bags : yX6_bags.cls = RX6 ∧ yX6_bags.cls ≠ "java/lang/invoke/MethodHandle" ∧ yX6_bags.cls ≠ "java/lang/invoke/VarHandle" ∧ (parseMethodDescriptor yX6_bags.desc).map (fun d => d.parameters.length) = some 0 := by decide +kernel
abbrev rmX6_bagsIn : Room := ({ frames := 2, cells := 0, slots := 0, locals := 42 } : Room)
theorem hd_X6_bagsIn : yX6_bagsIn.cls = RX6 ∧ yX6_bagsIn.cls ≠ "java/lang/invoke/MethodHandle" ∧ yX6_bagsIn.cls ≠ "java/lang/invoke/VarHandle" ∧ (parseMethodDescriptor yX6_bagsIn.desc).map (fun d => d.parameters.length) = some 1 := by decide +kernel
abbrev rmX6_begin : Room := ({ frames := 2, cells := 0, slots := 0, locals := 44 } : Room)
theorem hd_X6_begin : yX6_begin.cls = RX6 ∧ yX6_begin.cls ≠ "java/lang/invoke/MethodHandle" ∧ yX6_begin.cls ≠ "java/lang/invoke/VarHandle" ∧ (parseMethodDescriptor yX6_begin.desc).map (fun d => d.parameters.length) = some 1 := by decide +kernel
abbrev rmX6_best : Room := ({ frames := 6, cells := 0, slots := 0, locals := 151 } : Room)
theorem hd_X6_best : yX6_best.cls = RX6 ∧ yX6_best.cls ≠ "java/lang/invoke/MethodHandle" ∧ yX6_best.cls ≠ "java/lang/invoke/VarHandle" ∧ (parseMethodDescriptor yX6_best.desc).map (fun d => d.parameters.length) = some 2 := by decide +kernel
abbrev rmX6_bestChute : Room := ({ frames := 7, cells := 0, slots := 0, locals := 178 } : Room)
theorem hd_X6_bestChute : yX6_bestChute.cls = RX6 ∧ yX6_bestChute.cls ≠ "java/lang/invoke/MethodHandle" ∧ yX6_bestChute.cls ≠ "java/lang/invoke/VarHandle" ∧ (parseMethodDescriptor yX6_bestChute.desc).map (fun d => d.parameters.length) = some 2 := by decide +kernel
abbrev rmX6_carry : Room := ({ frames := 2, cells := 0, slots := 0, locals := 45 } : Room)
theorem hd_X6_carry : yX6_carry.cls = RX6 ∧ yX6_carry.cls ≠ "java/lang/invoke/MethodHandle" ∧ yX6_carry.cls ≠ "java/lang/invoke/VarHandle" ∧ (parseMethodDescriptor yX6_carry.desc).map (fun d => d.parameters.length) = some 1 := by decide +kernel
abbrev rmX6_checkIn : Room := ({ frames := 3, cells := 0, slots := 0, locals := 65 } : Room)
theorem hd_X6_checkIn : yX6_checkIn.cls = RX6 ∧ yX6_checkIn.cls ≠ "java/lang/invoke/MethodHandle" ∧ yX6_checkIn.cls ≠ "java/lang/invoke/VarHandle" ∧ (parseMethodDescriptor yX6_checkIn.desc).map (fun d => d.parameters.length) = some 3 := by decide +kernel
abbrev rmX6_chuteOf : Room := ({ frames := 2, cells := 0, slots := 0, locals := 43 } : Room)
theorem hd_X6_chuteOf : yX6_chuteOf.cls = RX6 ∧ yX6_chuteOf.cls ≠ "java/lang/invoke/MethodHandle" ∧ yX6_chuteOf.cls ≠ "java/lang/invoke/VarHandle" ∧ (parseMethodDescriptor yX6_chuteOf.desc).map (fun d => d.parameters.length) = some 1 := by decide +kernel
abbrev rmX6_chuteOfFlight : Room := ({ frames := 2, cells := 0, slots := 0, locals := 43 } : Room)
theorem hd_X6_chuteOfFlight : yX6_chuteOfFlight.cls = RX6 ∧ yX6_chuteOfFlight.cls ≠ "java/lang/invoke/MethodHandle" ∧ yX6_chuteOfFlight.cls ≠ "java/lang/invoke/VarHandle" ∧ (parseMethodDescriptor yX6_chuteOfFlight.desc).map (fun d => d.parameters.length) = some 1 := by decide +kernel
abbrev rmX6_close : Room := ({ frames := 0, cells := 0, slots := 0, locals := 0 } : Room)
theorem hd_X6_close : yX6_close.cls = RX6 ∧ yX6_close.cls ≠ "java/lang/invoke/MethodHandle" ∧ yX6_close.cls ≠ "java/lang/invoke/VarHandle" ∧ (parseMethodDescriptor yX6_close.desc).map (fun d => d.parameters.length) = some 1 := by decide +kernel
abbrev rmX6_closedFiles : Room := ({ frames := 1, cells := 0, slots := 0, locals := 23 } : Room)
theorem hd_X6_closedFiles : yX6_closedFiles.cls = RX6 ∧ yX6_closedFiles.cls ≠ "java/lang/invoke/MethodHandle" ∧ yX6_closedFiles.cls ≠ "java/lang/invoke/VarHandle" ∧ (parseMethodDescriptor yX6_closedFiles.desc).map (fun d => d.parameters.length) = some 0 := by decide +kernel
abbrev rmX6_counted : Room := ({ frames := 0, cells := 0, slots := 0, locals := 0 } : Room)
theorem hd_X6_counted : yX6_counted.cls = RX6 ∧ yX6_counted.cls ≠ "java/lang/invoke/MethodHandle" ∧ yX6_counted.cls ≠ "java/lang/invoke/VarHandle" ∧ (parseMethodDescriptor yX6_counted.desc).map (fun d => d.parameters.length) = some 1 := by decide +kernel
abbrev rmX6_depart : Room := ({ frames := 2, cells := 0, slots := 0, locals := 43 } : Room)
theorem hd_X6_depart : yX6_depart.cls = RX6 ∧ yX6_depart.cls ≠ "java/lang/invoke/MethodHandle" ∧ yX6_depart.cls ≠ "java/lang/invoke/VarHandle" ∧ (parseMethodDescriptor yX6_depart.desc).map (fun d => d.parameters.length) = some 1 := by decide +kernel
abbrev rmX6_digest : Room := ({ frames := 2, cells := 0, slots := 0, locals := 47 } : Room)
theorem hd_X6_digest : yX6_digest.cls = RX6 ∧ yX6_digest.cls ≠ "java/lang/invoke/MethodHandle" ∧ yX6_digest.cls ≠ "java/lang/invoke/VarHandle" ∧ (parseMethodDescriptor yX6_digest.desc).map (fun d => d.parameters.length) = some 0 := by decide +kernel
abbrev rmX6_files : Room := ({ frames := 0, cells := 0, slots := 0, locals := 0 } : Room)
theorem hd_X6_files : yX6_files.cls = RX6 ∧ yX6_files.cls ≠ "java/lang/invoke/MethodHandle" ∧ yX6_files.cls ≠ "java/lang/invoke/VarHandle" ∧ (parseMethodDescriptor yX6_files.desc).map (fun d => d.parameters.length) = some 1 := by decide +kernel
abbrev rmX6_flightOf : Room := ({ frames := 2, cells := 0, slots := 0, locals := 43 } : Room)
theorem hd_X6_flightOf : yX6_flightOf.cls = RX6 ∧ yX6_flightOf.cls ≠ "java/lang/invoke/MethodHandle" ∧ yX6_flightOf.cls ≠ "java/lang/invoke/VarHandle" ∧ (parseMethodDescriptor yX6_flightOf.desc).map (fun d => d.parameters.length) = some 1 := by decide +kernel
abbrev rmX6_flights : Room := ({ frames := 1, cells := 0, slots := 0, locals := 21 } : Room)
theorem hd_X6_flights : yX6_flights.cls = RX6 ∧ yX6_flights.cls ≠ "java/lang/invoke/MethodHandle" ∧ yX6_flights.cls ≠ "java/lang/invoke/VarHandle" ∧ (parseMethodDescriptor yX6_flights.desc).map (fun d => d.parameters.length) = some 0 := by decide +kernel
abbrev rmX6_forward : Room := ({ frames := 3, cells := 0, slots := 0, locals := 65 } : Room)
theorem hd_X6_forward : yX6_forward.cls = RX6 ∧ yX6_forward.cls ≠ "java/lang/invoke/MethodHandle" ∧ yX6_forward.cls ≠ "java/lang/invoke/VarHandle" ∧ (parseMethodDescriptor yX6_forward.desc).map (fun d => d.parameters.length) = some 2 := by decide +kernel
abbrev rmX6_giveChute : Room := ({ frames := 2, cells := 0, slots := 0, locals := 43 } : Room)
theorem hd_X6_giveChute : yX6_giveChute.cls = RX6 ∧ yX6_giveChute.cls ≠ "java/lang/invoke/MethodHandle" ∧ yX6_giveChute.cls ≠ "java/lang/invoke/VarHandle" ∧ (parseMethodDescriptor yX6_giveChute.desc).map (fun d => d.parameters.length) = some 2 := by decide +kernel
abbrev rmX6_hasOpenFile : Room := ({ frames := 2, cells := 0, slots := 0, locals := 43 } : Room)
theorem hd_X6_hasOpenFile : yX6_hasOpenFile.cls = RX6 ∧ yX6_hasOpenFile.cls ≠ "java/lang/invoke/MethodHandle" ∧ yX6_hasOpenFile.cls ≠ "java/lang/invoke/VarHandle" ∧ (parseMethodDescriptor yX6_hasOpenFile.desc).map (fun d => d.parameters.length) = some 1 := by decide +kernel
abbrev rmX6_inLine : Room := ({ frames := 1, cells := 0, slots := 0, locals := 21 } : Room)
theorem hd_X6_inLine : yX6_inLine.cls = RX6 ∧ yX6_inLine.cls ≠ "java/lang/invoke/MethodHandle" ∧ yX6_inLine.cls ≠ "java/lang/invoke/VarHandle" ∧ (parseMethodDescriptor yX6_inLine.desc).map (fun d => d.parameters.length) = some 0 := by decide +kernel
abbrev rmX6_init : Room := ({ frames := 2, cells := 0, slots := 0, locals := 45 } : Room)
theorem hd_X6_init : yX6_init.cls = RX6 ∧ yX6_init.cls ≠ "java/lang/invoke/MethodHandle" ∧ yX6_init.cls ≠ "java/lang/invoke/VarHandle" ∧ (parseMethodDescriptor yX6_init.desc).map (fun d => d.parameters.length) = some 0 := by decide +kernel
abbrev rmX6_isAside : Room := ({ frames := 0, cells := 0, slots := 0, locals := 0 } : Room)
theorem hd_X6_isAside : yX6_isAside.cls = RX6 ∧ yX6_isAside.cls ≠ "java/lang/invoke/MethodHandle" ∧ yX6_isAside.cls ≠ "java/lang/invoke/VarHandle" ∧ (parseMethodDescriptor yX6_isAside.desc).map (fun d => d.parameters.length) = some 1 := by decide +kernel
abbrev rmX6_isBag : Room := ({ frames := 1, cells := 0, slots := 0, locals := 22 } : Room)
theorem hd_X6_isBag : yX6_isBag.cls = RX6 ∧ yX6_isBag.cls ≠ "java/lang/invoke/MethodHandle" ∧ yX6_isBag.cls ≠ "java/lang/invoke/VarHandle" ∧ (parseMethodDescriptor yX6_isBag.desc).map (fun d => d.parameters.length) = some 1 := by decide +kernel
abbrev rmX6_isChute : Room := ({ frames := 1, cells := 0, slots := 0, locals := 22 } : Room)
theorem hd_X6_isChute : yX6_isChute.cls ≠ "java/lang/invoke/MethodHandle" ∧ yX6_isChute.cls ≠ "java/lang/invoke/VarHandle" ∧ (parseMethodDescriptor yX6_isChute.desc).map (fun d => d.parameters.length) = some 1 := by decide +kernel
abbrev rmX6_isFlight : Room := ({ frames := 1, cells := 0, slots := 0, locals := 22 } : Room)
theorem hd_X6_isFlight : yX6_isFlight.cls = RX6 ∧ yX6_isFlight.cls ≠ "java/lang/invoke/MethodHandle" ∧ yX6_isFlight.cls ≠ "java/lang/invoke/VarHandle" ∧ (parseMethodDescriptor yX6_isFlight.desc).map (fun d => d.parameters.length) = some 1 := by decide +kernel
abbrev rmX6_isGone : Room := ({ frames := 2, cells := 0, slots := 0, locals := 43 } : Room)
theorem hd_X6_isGone : yX6_isGone.cls = RX6 ∧ yX6_isGone.cls ≠ "java/lang/invoke/MethodHandle" ∧ yX6_isGone.cls ≠ "java/lang/invoke/VarHandle" ∧ (parseMethodDescriptor yX6_isGone.desc).map (fun d => d.parameters.length) = some 1 := by decide +kernel
abbrev rmX6_isIn : Room := ({ frames := 0, cells := 0, slots := 0, locals := 0 } : Room)
theorem hd_X6_isIn : yX6_isIn.cls ≠ "java/lang/invoke/MethodHandle" ∧ yX6_isIn.cls ≠ "java/lang/invoke/VarHandle" ∧ (parseMethodDescriptor yX6_isIn.desc).map (fun d => d.parameters.length) = some 3 := by decide +kernel
abbrev rmX6_isInItsChute : Room := ({ frames := 0, cells := 0, slots := 0, locals := 0 } : Room)
theorem hd_X6_isInItsChute : yX6_isInItsChute.cls = RX6 ∧ yX6_isInItsChute.cls ≠ "java/lang/invoke/MethodHandle" ∧ yX6_isInItsChute.cls ≠ "java/lang/invoke/VarHandle" ∧ (parseMethodDescriptor yX6_isInItsChute.desc).map (fun d => d.parameters.length) = some 1 := by decide +kernel
abbrev rmX6_isMisrouted : Room := ({ frames := 2, cells := 0, slots := 0, locals := 43 } : Room)
theorem hd_X6_isMisrouted : yX6_isMisrouted.cls = RX6 ∧ yX6_isMisrouted.cls ≠ "java/lang/invoke/MethodHandle" ∧ yX6_isMisrouted.cls ≠ "java/lang/invoke/VarHandle" ∧ (parseMethodDescriptor yX6_isMisrouted.desc).map (fun d => d.parameters.length) = some 1 := by decide +kernel
abbrev rmX6_isNot : Room := ({ frames := 0, cells := 0, slots := 0, locals := 0 } : Room)
theorem hd_X6_isNot : yX6_isNot.cls = RX6 ∧ yX6_isNot.cls ≠ "java/lang/invoke/MethodHandle" ∧ yX6_isNot.cls ≠ "java/lang/invoke/VarHandle" ∧ (parseMethodDescriptor yX6_isNot.desc).map (fun d => d.parameters.length) = some 1 := by decide +kernel
abbrev rmX6_meanMisses : Room := ({ frames := 0, cells := 0, slots := 0, locals := 0 } : Room)
theorem hd_X6_meanMisses : yX6_meanMisses.cls = RX6 ∧ yX6_meanMisses.cls ≠ "java/lang/invoke/MethodHandle" ∧ yX6_meanMisses.cls ≠ "java/lang/invoke/VarHandle" ∧ (parseMethodDescriptor yX6_meanMisses.desc).map (fun d => d.parameters.length) = some 0 := by decide +kernel
abbrev rmX6_minute : Room := ({ frames := 1, cells := 0, slots := 0, locals := 21 } : Room)
theorem hd_X6_minute : yX6_minute.cls = RX6 ∧ yX6_minute.cls ≠ "java/lang/invoke/MethodHandle" ∧ yX6_minute.cls ≠ "java/lang/invoke/VarHandle" ∧ (parseMethodDescriptor yX6_minute.desc).map (fun d => d.parameters.length) = some 0 := by decide +kernel
abbrev rmX6_minuteOn : Room := ({ frames := 3, cells := 0, slots := 0, locals := 82 } : Room)
theorem hd_X6_minuteOn : yX6_minuteOn.cls = RX6 ∧ yX6_minuteOn.cls ≠ "java/lang/invoke/MethodHandle" ∧ yX6_minuteOn.cls ≠ "java/lang/invoke/VarHandle" ∧ (parseMethodDescriptor yX6_minuteOn.desc).map (fun d => d.parameters.length) = some 1 := by decide +kernel
abbrev rmX6_minutesOn : Room := ({ frames := 4, cells := 0, slots := 0, locals := 105 } : Room)
theorem hd_X6_minutesOn : yX6_minutesOn.cls = RX6 ∧ yX6_minutesOn.cls ≠ "java/lang/invoke/MethodHandle" ∧ yX6_minutesOn.cls ≠ "java/lang/invoke/VarHandle" ∧ (parseMethodDescriptor yX6_minutesOn.desc).map (fun d => d.parameters.length) = some 2 := by decide +kernel
abbrev rmX6_minutesUntilChute : Room := ({ frames := 5, cells := 0, slots := 0, locals := 127 } : Room)
theorem hd_X6_minutesUntilChute : yX6_minutesUntilChute.cls = RX6 ∧ yX6_minutesUntilChute.cls ≠ "java/lang/invoke/MethodHandle" ∧ yX6_minutesUntilChute.cls ≠ "java/lang/invoke/VarHandle" ∧ (parseMethodDescriptor yX6_minutesUntilChute.desc).map (fun d => d.parameters.length) = some 1 := by decide +kernel
abbrev rmX6_misrouted : Room := ({ frames := 0, cells := 0, slots := 0, locals := 0 } : Room)
theorem hd_X6_misrouted : yX6_misrouted.cls = RX6 ∧ yX6_misrouted.cls ≠ "java/lang/invoke/MethodHandle" ∧ yX6_misrouted.cls ≠ "java/lang/invoke/VarHandle" ∧ (parseMethodDescriptor yX6_misrouted.desc).map (fun d => d.parameters.length) = some 1 := by decide +kernel
abbrev rmX6_misroutedIn : Room := ({ frames := 2, cells := 0, slots := 0, locals := 44 } : Room)
theorem hd_X6_misroutedIn : yX6_misroutedIn.cls = RX6 ∧ yX6_misroutedIn.cls ≠ "java/lang/invoke/MethodHandle" ∧ yX6_misroutedIn.cls ≠ "java/lang/invoke/VarHandle" ∧ (parseMethodDescriptor yX6_misroutedIn.desc).map (fun d => d.parameters.length) = some 1 := by decide +kernel
abbrev rmX6_missesOf : Room := ({ frames := 2, cells := 0, slots := 0, locals := 43 } : Room)
theorem hd_X6_missesOf : yX6_missesOf.cls = RX6 ∧ yX6_missesOf.cls ≠ "java/lang/invoke/MethodHandle" ∧ yX6_missesOf.cls ≠ "java/lang/invoke/VarHandle" ∧ (parseMethodDescriptor yX6_missesOf.desc).map (fun d => d.parameters.length) = some 1 := by decide +kernel
abbrev rmX6_missing : Room := ({ frames := 1, cells := 0, slots := 0, locals := 24 } : Room)
theorem hd_X6_missing : yX6_missing.cls = RX6 ∧ yX6_missing.cls ≠ "java/lang/invoke/MethodHandle" ∧ yX6_missing.cls ≠ "java/lang/invoke/VarHandle" ∧ (parseMethodDescriptor yX6_missing.desc).map (fun d => d.parameters.length) = some 1 := by decide +kernel
abbrev rmX6_missingOf : Room := ({ frames := 2, cells := 0, slots := 0, locals := 47 } : Room)
theorem hd_X6_missingOf : yX6_missingOf.cls = RX6 ∧ yX6_missingOf.cls ≠ "java/lang/invoke/MethodHandle" ∧ yX6_missingOf.cls ≠ "java/lang/invoke/VarHandle" ∧ (parseMethodDescriptor yX6_missingOf.desc).map (fun d => d.parameters.length) = some 1 := by decide +kernel
abbrev rmX6_no : Room := ({ frames := 0, cells := 0, slots := 0, locals := 0 } : Room)
theorem hd_X6_no : yX6_no.cls = RX6 ∧ yX6_no.cls ≠ "java/lang/invoke/MethodHandle" ∧ yX6_no.cls ≠ "java/lang/invoke/VarHandle" ∧ (parseMethodDescriptor yX6_no.desc).map (fun d => d.parameters.length) = some 1 := by decide +kernel
abbrev rmX6_ok : Room := ({ frames := 0, cells := 0, slots := 0, locals := 0 } : Room)
theorem hd_X6_ok : yX6_ok.cls = RX6 ∧ yX6_ok.cls ≠ "java/lang/invoke/MethodHandle" ∧ yX6_ok.cls ≠ "java/lang/invoke/VarHandle" ∧ (parseMethodDescriptor yX6_ok.desc).map (fun d => d.parameters.length) = some 1 := by decide +kernel
abbrev rmX6_on : Room := ({ frames := 0, cells := 0, slots := 0, locals := 0 } : Room)
theorem hd_X6_on : yX6_on.cls ≠ "java/lang/invoke/MethodHandle" ∧ yX6_on.cls ≠ "java/lang/invoke/VarHandle" ∧ (parseMethodDescriptor yX6_on.desc).map (fun d => d.parameters.length) = some 2 := by decide +kernel
abbrev rmX6_onBelt : Room := ({ frames := 1, cells := 0, slots := 0, locals := 23 } : Room)
theorem hd_X6_onBelt : yX6_onBelt.cls = RX6 ∧ yX6_onBelt.cls ≠ "java/lang/invoke/MethodHandle" ∧ yX6_onBelt.cls ≠ "java/lang/invoke/VarHandle" ∧ (parseMethodDescriptor yX6_onBelt.desc).map (fun d => d.parameters.length) = some 0 := by decide +kernel
abbrev rmX6_one : Room := ({ frames := 0, cells := 0, slots := 0, locals := 0 } : Room)
theorem hd_X6_one : yX6_one.cls ≠ "java/lang/invoke/MethodHandle" ∧ yX6_one.cls ≠ "java/lang/invoke/VarHandle" ∧ (parseMethodDescriptor yX6_one.desc).map (fun d => d.parameters.length) = some 1 := by decide +kernel
abbrev rmX6_openFiles : Room := ({ frames := 1, cells := 0, slots := 0, locals := 23 } : Room)
theorem hd_X6_openFiles : yX6_openFiles.cls = RX6 ∧ yX6_openFiles.cls ≠ "java/lang/invoke/MethodHandle" ∧ yX6_openFiles.cls ≠ "java/lang/invoke/VarHandle" ∧ (parseMethodDescriptor yX6_openFiles.desc).map (fun d => d.parameters.length) = some 0 := by decide +kernel
abbrev rmX6_pass : Room := ({ frames := 5, cells := 0, slots := 0, locals := 129 } : Room)
theorem hd_X6_pass : yX6_pass.cls = RX6 ∧ yX6_pass.cls ≠ "java/lang/invoke/MethodHandle" ∧ yX6_pass.cls ≠ "java/lang/invoke/VarHandle" ∧ (parseMethodDescriptor yX6_pass.desc).map (fun d => d.parameters.length) = some 1 := by decide +kernel
abbrev rmX6_placeOf : Room := ({ frames := 2, cells := 0, slots := 0, locals := 43 } : Room)
theorem hd_X6_placeOf : yX6_placeOf.cls = RX6 ∧ yX6_placeOf.cls ≠ "java/lang/invoke/MethodHandle" ∧ yX6_placeOf.cls ≠ "java/lang/invoke/VarHandle" ∧ (parseMethodDescriptor yX6_placeOf.desc).map (fun d => d.parameters.length) = some 1 := by decide +kernel
abbrev rmX6_placed : Room := ({ frames := 0, cells := 0, slots := 0, locals := 0 } : Room)
theorem hd_X6_placed : yX6_placed.cls = RX6 ∧ yX6_placed.cls ≠ "java/lang/invoke/MethodHandle" ∧ yX6_placed.cls ≠ "java/lang/invoke/VarHandle" ∧ (parseMethodDescriptor yX6_placed.desc).map (fun d => d.parameters.length) = some 2 := by decide +kernel
abbrev rmX6_readAt : Room := ({ frames := 1, cells := 0, slots := 0, locals := 23 } : Room)
theorem hd_X6_readAt : yX6_readAt.cls = RX6 ∧ yX6_readAt.cls ≠ "java/lang/invoke/MethodHandle" ∧ yX6_readAt.cls ≠ "java/lang/invoke/VarHandle" ∧ (parseMethodDescriptor yX6_readAt.desc).map (fun d => d.parameters.length) = some 1 := by decide +kernel
abbrev rmX6_readFor : Room := ({ frames := 2, cells := 0, slots := 0, locals := 43 } : Room)
theorem hd_X6_readFor : yX6_readFor.cls = RX6 ∧ yX6_readFor.cls ≠ "java/lang/invoke/MethodHandle" ∧ yX6_readFor.cls ≠ "java/lang/invoke/VarHandle" ∧ (parseMethodDescriptor yX6_readFor.desc).map (fun d => d.parameters.length) = some 1 := by decide +kernel
abbrev rmX6_reader : Room := ({ frames := 1, cells := 0, slots := 0, locals := 21 } : Room)
theorem hd_X6_reader : yX6_reader.cls = RX6 ∧ yX6_reader.cls ≠ "java/lang/invoke/MethodHandle" ∧ yX6_reader.cls ≠ "java/lang/invoke/VarHandle" ∧ (parseMethodDescriptor yX6_reader.desc).map (fun d => d.parameters.length) = some 0 := by decide +kernel
abbrev rmX6_readyAfter : Room := ({ frames := 6, cells := 0, slots := 0, locals := 151 } : Room)
theorem hd_X6_readyAfter : yX6_readyAfter.cls = RX6 ∧ yX6_readyAfter.cls ≠ "java/lang/invoke/MethodHandle" ∧ yX6_readyAfter.cls ≠ "java/lang/invoke/VarHandle" ∧ (parseMethodDescriptor yX6_readyAfter.desc).map (fun d => d.parameters.length) = some 2 := by decide +kernel
abbrev rmX6_readyBehind : Room := ({ frames := 5, cells := 0, slots := 0, locals := 129 } : Room)
theorem hd_X6_readyBehind : yX6_readyBehind.cls = RX6 ∧ yX6_readyBehind.cls ≠ "java/lang/invoke/MethodHandle" ∧ yX6_readyBehind.cls ≠ "java/lang/invoke/VarHandle" ∧ (parseMethodDescriptor yX6_readyBehind.desc).map (fun d => d.parameters.length) = some 2 := by decide +kernel
abbrev rmX6_readyIn : Room := ({ frames := 0, cells := 0, slots := 0, locals := 0 } : Room)
theorem hd_X6_readyIn : yX6_readyIn.cls = RX6 ∧ yX6_readyIn.cls ≠ "java/lang/invoke/MethodHandle" ∧ yX6_readyIn.cls ≠ "java/lang/invoke/VarHandle" ∧ (parseMethodDescriptor yX6_readyIn.desc).map (fun d => d.parameters.length) = some 2 := by decide +kernel
abbrev rmX6_readyOf : Room := ({ frames := 2, cells := 0, slots := 0, locals := 43 } : Room)
theorem hd_X6_readyOf : yX6_readyOf.cls = RX6 ∧ yX6_readyOf.cls ≠ "java/lang/invoke/MethodHandle" ∧ yX6_readyOf.cls ≠ "java/lang/invoke/VarHandle" ∧ (parseMethodDescriptor yX6_readyOf.desc).map (fun d => d.parameters.length) = some 1 := by decide +kernel
abbrev rmX6_roomOf : Room := ({ frames := 2, cells := 0, slots := 0, locals := 42 } : Room)
theorem hd_X6_roomOf : yX6_roomOf.cls = RX6 ∧ yX6_roomOf.cls ≠ "java/lang/invoke/MethodHandle" ∧ yX6_roomOf.cls ≠ "java/lang/invoke/VarHandle" ∧ (parseMethodDescriptor yX6_roomOf.desc).map (fun d => d.parameters.length) = some 1 := by decide +kernel
abbrev rmX6_setReader : Room := ({ frames := 1, cells := 0, slots := 0, locals := 22 } : Room)
theorem hd_X6_setReader : yX6_setReader.cls = RX6 ∧ yX6_setReader.cls ≠ "java/lang/invoke/MethodHandle" ∧ yX6_setReader.cls ≠ "java/lang/invoke/VarHandle" ∧ (parseMethodDescriptor yX6_setReader.desc).map (fun d => d.parameters.length) = some 1 := by decide +kernel
abbrev rmX6_setRoom : Room := ({ frames := 2, cells := 0, slots := 0, locals := 42 } : Room)
theorem hd_X6_setRoom : yX6_setRoom.cls = RX6 ∧ yX6_setRoom.cls ≠ "java/lang/invoke/MethodHandle" ∧ yX6_setRoom.cls ≠ "java/lang/invoke/VarHandle" ∧ (parseMethodDescriptor yX6_setRoom.desc).map (fun d => d.parameters.length) = some 2 := by decide +kernel
abbrev rmX6_slide : Room := ({ frames := 2, cells := 0, slots := 0, locals := 45 } : Room)
theorem hd_X6_slide : yX6_slide.cls = RX6 ∧ yX6_slide.cls ≠ "java/lang/invoke/MethodHandle" ∧ yX6_slide.cls ≠ "java/lang/invoke/VarHandle" ∧ (parseMethodDescriptor yX6_slide.desc).map (fun d => d.parameters.length) = some 2 := by decide +kernel
abbrev rmX6_sweep : Room := ({ frames := 2, cells := 0, slots := 0, locals := 42 } : Room)
theorem hd_X6_sweep : yX6_sweep.cls = RX6 ∧ yX6_sweep.cls ≠ "java/lang/invoke/MethodHandle" ∧ yX6_sweep.cls ≠ "java/lang/invoke/VarHandle" ∧ (parseMethodDescriptor yX6_sweep.desc).map (fun d => d.parameters.length) = some 1 := by decide +kernel
abbrev rmX6_thrown : Room := ({ frames := 0, cells := 0, slots := 0, locals := 0 } : Room)
theorem hd_X6_thrown : yX6_thrown.cls = RX6 ∧ yX6_thrown.cls ≠ "java/lang/invoke/MethodHandle" ∧ yX6_thrown.cls ≠ "java/lang/invoke/VarHandle" ∧ (parseMethodDescriptor yX6_thrown.desc).map (fun d => d.parameters.length) = some 0 := by decide +kernel
abbrev rmX6_untilChute : Room := ({ frames := 4, cells := 0, slots := 0, locals := 105 } : Room)
theorem hd_X6_untilChute : yX6_untilChute.cls = RX6 ∧ yX6_untilChute.cls ≠ "java/lang/invoke/MethodHandle" ∧ yX6_untilChute.cls ≠ "java/lang/invoke/VarHandle" ∧ (parseMethodDescriptor yX6_untilChute.desc).map (fun d => d.parameters.length) = some 1 := by decide +kernel
abbrev rmX6_whereIs : Room := ({ frames := 2, cells := 0, slots := 0, locals := 43 } : Room)
theorem hd_X6_whereIs : yX6_whereIs.cls = RX6 ∧ yX6_whereIs.cls ≠ "java/lang/invoke/MethodHandle" ∧ yX6_whereIs.cls ≠ "java/lang/invoke/VarHandle" ∧ (parseMethodDescriptor yX6_whereIs.desc).map (fun d => d.parameters.length) = some 1 := by decide +kernel
end
section
/-! class BagCarousel$Row: a row that looks at each index -/
/-- turned by one place -/
def xturn (n : Nat) (f : Nat → Int32) : Nat → Int32 := fun j => if j < n then (if j = 0 then f (n - 1) else f (j - 1)) else f j
def xtG (n : Nat) (f : Nat → Int32) (i : Nat) : Nat → Int32 := fun j => if n - i ≤ j ∧ j < n then f (j - 1) else f j
/-- the first one taken out -/
def xfront (n : Nat) (f : Nat → Int32) : Nat → Int32 := fun j => if j + 1 < n then f (j + 1) else if j + 1 = n then -1 else f j
def xfG (f : Nat → Int32) (i : Nat) : Nat → Int32 := fun j => if j < i then f (j + 1) else f j
def xflG (f : Nat → Int32) (x : Int32) (i : Nat) : Nat → Int32 := fun j => if j < i then x else f j
theorem row_in {n : Nat} {i : Int32} (h1 : ¬ i < 0) (h2 : ¬ nI n ≤ i) (hn : n < 2 ^ 31) : vp_in i n := by
  rcases pk_ix i hn with h | h | ⟨j, hj, rfl⟩
  · exact absurd h h1
  · exact absurd h h2
  · exact vp_in_nI hj hn
theorem idec {m : Nat} (h : 0 < m) : nI m + Int32.ofInt (-1) = nI (m - 1) := by
  obtain ⟨q, rfl⟩ : ∃ q, m = q + 1 := ⟨m - 1, by omega⟩
  exact pk_m1 q
theorem isub1 {m : Nat} (h : 0 < m) : nI m - 1 = nI (m - 1) := pk_sub (b := 1) h
theorem xtG_0 (n : Nat) (f : Nat → Int32) : xtG n f 0 = f := by
  funext j
  unfold xtG
  rw [if_neg (by omega)]
theorem xtG_s {n i : Nat} {f : Nat → Int32} (h : i < n - 1) : xtG n f (i + 1) = upd (xtG n f i) (n - 1 - i) (xtG n f i (n - 1 - i - 1)) := by
  funext j
  unfold upd xtG
  by_cases h1 : j = n - 1 - i
  · rw [if_pos h1, if_pos (by omega), if_neg (by omega), h1]
  · rw [if_neg h1]
    by_cases h2 : n - i ≤ j ∧ j < n
    · rw [if_pos h2, if_pos (by omega)]
    · rw [if_neg h2, if_neg (by omega)]
theorem xtG_e {n : Nat} {f : Nat → Int32} (h : 0 < n) : upd (xtG n f (n - 1)) 0 (f (n - 1)) = xturn n f := by
  funext j
  unfold upd xtG xturn
  by_cases h1 : j = 0
  · rw [if_pos h1, if_pos (by omega), if_pos h1]
  · rw [if_neg h1]
    by_cases h2 : j < n
    · rw [if_pos (by omega), if_pos h2, if_neg h1]
    · rw [if_neg (by omega), if_neg h2]
theorem xfG_0 (f : Nat → Int32) : xfG f 0 = f := by
  funext j
  unfold xfG
  rw [if_neg (by omega)]
theorem xfG_s {i : Nat} {f : Nat → Int32} : xfG f (i + 1) = upd (xfG f i) i (xfG f i (i + 1)) := by
  funext j
  unfold upd xfG
  by_cases h1 : j = i
  · rw [if_pos h1, if_pos (by omega), if_neg (by omega), h1]
  · rw [if_neg h1]
    by_cases h2 : j < i
    · rw [if_pos h2, if_pos (by omega)]
    · rw [if_neg h2, if_neg (by omega)]
theorem xfG_e {n : Nat} {f : Nat → Int32} (h : 0 < n) : upd (xfG f (n - 1)) (n - 1) (-1) = xfront n f := by
  funext j
  unfold upd xfG xfront
  by_cases h1 : j = n - 1
  · rw [if_pos h1, if_neg (by omega), if_pos (by omega)]
  · rw [if_neg h1]
    by_cases h2 : j < n - 1
    · rw [if_pos h2, if_pos (by omega)]
    · rw [if_neg h2, if_neg (by omega), if_neg (by omega)]
theorem xflG_0 (f : Nat → Int32) (x : Int32) : xflG f x 0 = f := by
  funext j
  unfold xflG
  rw [if_neg (by omega)]
theorem xflG_s {i : Nat} {f : Nat → Int32} {x : Int32} : xflG f x (i + 1) = upd (xflG f x i) i x := by
  funext j
  unfold upd xflG
  by_cases h1 : j = i
  · rw [if_pos h1, if_pos (by omega)]
  · rw [if_neg h1]
    by_cases h2 : j < i
    · rw [if_pos h2, if_pos (by omega)]
    · rw [if_neg h2, if_neg (by omega)]
theorem fnd_hit {f : Nat → Int32} {v : Int32} {i n : Nat} (hi : i < n) (h : f i = v) : fnd f v i (n - i) = nI i := by
  obtain ⟨d, hd⟩ : ∃ d, n - i = d + 1 := ⟨n - i - 1, by omega⟩
  rw [hd]
  exact sel_t h _ _
theorem fnd_miss {f : Nat → Int32} {v : Int32} {i n : Nat} (hi : i < n) (h : ¬ f i = v) : fnd f v i (n - i) = fnd f v (i + 1) (n - (i + 1)) := by
  obtain ⟨d, hd⟩ : ∃ d, n - i = d + 1 := ⟨n - i - 1, by omega⟩
  rw [hd, show n - (i + 1) = d by omega]
  exact sel_f h _ _
theorem fnd_end {f : Nat → Int32} {v : Int32} {n : Nat} : fnd f v n (n - n) = -1 := by
  rw [Nat.sub_self]
  rfl
theorem fap_upd {f : Nat → Int32} {i : Nat} {x : Int32} : upd f i x i = x := if_pos rfl

set_option maxHeartbeats 4000000 in
set_option maxRecDepth 100000 in
/-- what lies at i -/
theorem metX3_at (l : Launch) {D : va_G} {k : Nat → ClassId} {ws : va_W} {q0 q1 r a n : Nat} {f : Nat → Int32} (he : ws[q0]? = some (r, .inr (3, [.ref a]))) (ha : ws[q1]? = some (a, .inl (k 0, n, .inl f))) (hn : n < 2 ^ 31) (i : Int32) : PM l yX3_at cX3_at 2 (some FieldType.int) rmX3_at D k ws [.ref r, .int i] (some (.int (rd n f i))) := by
  refine PM_of rfl (Nat.le_of_ble_eq_true rfl) ?_
  intro p e s m below meth c hC hr hlk hin hE hP ls hl
  have hC : CallFix p m c cX3_at 2 s _ lw_all RX3 := hC
  have hx := hC.1
  have hb := hC.2.1
  have hown : s.vm.findClass RX3 = some m.cls := hC.2.2.2.1
  have hts := hC.2.2.2.2
  have hl : lv_has ls 2 [(0, .ref r), (1, .int i)] := hl
  refine lv_iload_n hx hb dX3_at_0 rfl (lv_at hl 1 rfl) ?_
  refine lv_if_lt (tgt := 22) hx hb dX3_at_1 (by decide) (fun c_1 => ?_) (fun c_1 => ?_)
  · refine lv_iconst (v := (-1)) hx hb dX3_at_22 (by decide) ?_
    exact p_iret hx hb hr hlk dX3_at_23 (by rw [rd, sel_t (show i < 0 from c_1)])
  · refine lv_iload_n hx hb dX3_at_4 rfl (lv_at hl 1 rfl) ?_
    refine lv_aload_n hx hb dX3_at_5 rfl (lv_at hl 0 rfl) ?_
    refine va_get (D := D) (ci := 3) (v := .ref a) (C := RX3) (T := TX3) (N := 1) hx hb hts tu_3 hown hE.1 hP q0 he rfl 0 (by decide) (hts _ tw_46) (fun _ h9 => h9) rfl dX3_at_6 ?_
    refine k_alen hx hb hE hP q1 ha dX3_at_9 ?_
    refine lv_icmp_ge (tgt := 22) hx hb dX3_at_10 (by decide) (fun c_2 => ?_) (fun c_2 => ?_)
    · refine lv_iconst (v := (-1)) hx hb dX3_at_22 (by decide) ?_
      exact p_iret hx hb hr hlk dX3_at_23 (by rw [rd, sel_f (show ¬ (i < 0) from c_1), sel_t (show nI n ≤ i from c_2)])
    · refine lv_aload_n hx hb dX3_at_13 rfl (lv_at hl 0 rfl) ?_
      refine va_get (D := D) (ci := 3) (v := .ref a) (C := RX3) (T := TX3) (N := 1) hx hb hts tu_3 hown hE.1 hP q0 he rfl 0 (by decide) (hts _ tw_46) (fun _ h9 => h9) rfl dX3_at_14 ?_
      refine lv_iload_n hx hb dX3_at_17 rfl (lv_at hl 1 rfl) ?_
      refine va_iald hx hb hE.1 hP q1 0 ha rfl (row_in c_1 c_2 hn) dX3_at_18 ?_
      refine lv_goto (tgt := 23) hx hb dX3_at_19 (by decide) ?_
      exact p_iret hx hb hr hlk dX3_at_23 (by rw [rd, sel_f (show ¬ (i < 0) from c_1), sel_f (show ¬ (nI n ≤ i) from c_2)])

set_option maxHeartbeats 4000000 in
set_option maxRecDepth 100000 in
/-- x is laid at i -/
theorem metX3_put (l : Launch) {D : va_G} {k : Nat → ClassId} {ws ws' : va_W} {q0 q1 r a n : Nat} {f : Nat → Int32} (he : ws[q0]? = some (r, .inr (3, [.ref a]))) (ha : ws[q1]? = some (a, .inl (k 0, n, .inl f))) (hn : n < 2 ^ 31) (i x : Int32) (hset : ws.set q1 (a, .inl (k 0, n, .inl (wr n f i x))) = ws') : MM l yX3_put cX3_put 3 none rmX3_put D k ws [.ref r, .int i, .int x] none ws' := by
  subst hset
  refine MM_of rfl (Nat.le_of_ble_eq_true rfl) ?_
  intro p e s m below meth c hC hr hlk hin hE hP hD hS ls hl
  have hC : CallFix p m c cX3_put 3 s _ lw_all RX3 := hC
  have hx := hC.1
  have hb := hC.2.1
  have hown : s.vm.findClass RX3 = some m.cls := hC.2.2.2.1
  have hts := hC.2.2.2.2
  have hl : lv_has ls 3 [(0, .ref r), (1, .int i), (2, .int x)] := hl
  refine lv_iload_n hx hb dX3_put_0 rfl (lv_at hl 1 rfl) ?_
  refine lv_if_lt (tgt := 20) hx hb dX3_put_1 (by decide) (fun c_1 => ?_) (fun c_1 => ?_)
  · have e9 : wr n f i x = f := by rw [wr, sel_t (show i < 0 from c_1)]
    exact m_vret hx hb hr hlk dX3_put_20 (by rw [e9]; first | exact hP | (rw [rs_0 ha]; exact hP)) hS
  · refine lv_iload_n hx hb dX3_put_4 rfl (lv_at hl 1 rfl) ?_
    refine lv_aload_n hx hb dX3_put_5 rfl (lv_at hl 0 rfl) ?_
    refine va_get (D := D) (ci := 3) (v := .ref a) (C := RX3) (T := TX3) (N := 1) hx hb hts tu_3 hown hE.1 hP q0 he rfl 0 (by decide) (hts _ tw_46) (fun _ h9 => h9) rfl dX3_put_6 ?_
    refine k_alen hx hb hE hP q1 ha dX3_put_9 ?_
    refine lv_icmp_ge (tgt := 20) hx hb dX3_put_10 (by decide) (fun c_2 => ?_) (fun c_2 => ?_)
    · have e9 : wr n f i x = f := by rw [wr, sel_f (show ¬ (i < 0) from c_1), sel_t (show nI n ≤ i from c_2)]
      exact m_vret hx hb hr hlk dX3_put_20 (by rw [e9]; first | exact hP | (rw [rs_0 ha]; exact hP)) hS
    · refine lv_aload_n hx hb dX3_put_13 rfl (lv_at hl 0 rfl) ?_
      refine va_get (D := D) (ci := 3) (v := .ref a) (C := RX3) (T := TX3) (N := 1) hx hb hts tu_3 hown hE.1 hP q0 he rfl 0 (by decide) (hts _ tw_46) (fun _ h9 => h9) rfl dX3_put_14 ?_
      refine lv_iload_n hx hb dX3_put_17 rfl (lv_at hl 1 rfl) ?_
      refine lv_iload_n hx hb dX3_put_18 rfl (lv_at hl 2 rfl) ?_
      refine va_iast hx hb hE.1 hP hD hS q1 0 ha rfl (row_in c_1 c_2 hn) dX3_put_19 (fun H locs hP hD hS => ?_)
      have hP : va_P D vwCl (ws.set q1 (a, .inl (k 0, n, .inl (upd f i.toNatClampNeg x)))) H := hP
      have hD : va_D (va_in ws) (ws.set q1 (a, .inl (k 0, n, .inl (upd f i.toNatClampNeg x)))) := hD
      have e9 : wr n f i x = upd f i.toNatClampNeg x := by rw [wr, sel_f (show ¬ (i < 0) from c_1), sel_f (show ¬ (nI n ≤ i) from c_2)]
      exact m_vret hx hb hr hlk dX3_put_20 (by rw [e9]; first | exact hP | (rw [rs_0 ha]; exact hP)) hS

set_option maxHeartbeats 4000000 in
set_option maxRecDepth 100000 in
/-- turned by one -/
theorem metX3_turn (l : Launch) {D : va_G} {k : Nat → ClassId} {ws ws' : va_W} {q0 q1 r a n : Nat} {f : Nat → Int32} (he : ws[q0]? = some (r, .inr (3, [.ref a]))) (ha : ws[q1]? = some (a, .inl (k 0, n, .inl f))) (hn : n < 2 ^ 31) (hpos : 0 < n) (hset : ws.set q1 (a, .inl (k 0, n, .inl (xturn n f))) = ws') : MM l yX3_turn cX3_turn 3 none rmX3_turn D k ws [.ref r] none ws' := by
  subst hset
  refine MM_of rfl (Nat.le_of_ble_eq_true rfl) ?_
  intro p e s m below meth c hC hr hlk hin hE hP hD hS ls hl
  have hC : CallFix p m c cX3_turn 3 s _ lw_all RX3 := hC
  have hx := hC.1
  have hb := hC.2.1
  have hown : s.vm.findClass RX3 = some m.cls := hC.2.2.2.1
  have hts := hC.2.2.2.2
  have hl : lv_has ls 3 [(0, .ref r)] := hl
  refine lv_aload_n hx hb dX3_turn_0 rfl (lv_at hl 0 rfl) ?_
  refine lv_aload_n hx hb dX3_turn_1 rfl (lv_at hl 0 rfl) ?_
  refine va_get (D := D) (ci := 3) (v := .ref a) (C := RX3) (T := TX3) (N := 1) hx hb hts tu_3 hown hE.1 hP q0 he rfl 0 (by decide) (hts _ tw_46) (fun _ h9 => h9) rfl dX3_turn_2 ?_
  refine k_alen hx hb hE hP q1 ha dX3_turn_5 ?_
  refine lv_iconst (v := 1) hx hb dX3_turn_6 (by decide) ?_
  refine lv_isub hx hb dX3_turn_7 ?_
  refine w_top (isub1 hpos) ?_
  refine c_pVi (rest := []) hC hE hP (metX3_at l he ha hn (nI (n - 1))) gc_RX3_33 hd_X3_at ⟨rfl, rfl⟩ ⟨Nat.le_of_ble_eq_true rfl, Nat.le_of_ble_eq_true rfl⟩ q0 he rfl rfl hl.1 (Nat.le_of_ble_eq_true rfl) ⟨Nat.le_of_ble_eq_true rfl, Nat.le_of_ble_eq_true rfl⟩ dX3_turn_8 ?_
  refine w_top (rd_n (n := n) (j := (n - 1)) (by omega) hn) ?_
  refine lv_istore_n (lv' := [(1, .int (f (n - 1))), (0, .ref r)]) hx hb dX3_turn_11 rfl hl (by decide) rfl (fun ls hl => ?_)
  refine lv_aload_n hx hb dX3_turn_12 rfl (lv_at hl 1 rfl) ?_
  refine va_get (D := D) (ci := 3) (v := .ref a) (C := RX3) (T := TX3) (N := 1) hx hb hts tu_3 hown hE.1 hP q0 he rfl 0 (by decide) (hts _ tw_46) (fun _ h9 => h9) rfl dX3_turn_13 ?_
  refine k_alen hx hb hE hP q1 ha dX3_turn_16 ?_
  refine lv_iconst (v := 1) hx hb dX3_turn_17 (by decide) ?_
  refine lv_isub hx hb dX3_turn_18 ?_
  refine w_top (isub1 hpos) ?_
  refine lv_istore_n (lv' := [(2, .int (nI (n - 1))), (1, .int (f (n - 1))), (0, .ref r)]) hx hb dX3_turn_19 rfl hl (by decide) rfl (fun ls hl => ?_)
  have hP : va_P D vwCl (ws.set q1 (a, .inl (k 0, n, .inl (xtG n f 0)))) s.heap := by rw [xtG_0, rs_0 ha]; exact hP
  have hD : va_D (va_in ws) (ws.set q1 (a, .inl (k 0, n, .inl (xtG n f 0)))) := by rw [xtG_0, rs_0 ha]; exact hD
  refine w_forM (N := n - 1) (fun _ => True) (fun i => [(0, .ref r), (1, .int (f (n - 1))), (2, .int (nI (n - 1 - i)))]) (fun i => (ws.set q1 (a, .inl (k 0, n, .inl (xtG n f i))))) (fun ls H locs hI hl hP hD hS => ?_) (fun i hi hI ih ls H locs hl hP hD hS => ?_) 0 (Nat.zero_le _) trivial (lv_sub hl [2, 1, 0] rfl) hP hD hS
  · have hl : lv_has ls 3 [(0, .ref r), (1, .int (f (n - 1))), (2, .int (nI (n - 1 - (n - 1))))] := hl
    have hP : va_P D vwCl (ws.set q1 (a, .inl (k 0, n, .inl (xtG n f (n - 1))))) H := hP
    have hD : va_D (va_in ws) (ws.set q1 (a, .inl (k 0, n, .inl (xtG n f (n - 1))))) := hD
    refine lv_iload_n hx hb dX3_turn_20 rfl (lv_at hl 2 rfl) ?_
    refine lv_if_le (tgt := 42) hx hb dX3_turn_21 (by decide) (fun c_1 => ?_) (fun c_ => absurd (by rw [Nat.sub_self]; decide) c_)
    refine lv_aload_n hx hb dX3_turn_42 rfl (lv_at hl 0 rfl) ?_
    refine lv_iconst (v := 0) hx hb dX3_turn_43 (by decide) ?_
    refine lv_iload_n hx hb dX3_turn_44 rfl (lv_at hl 1 rfl) ?_
    refine c_mVv (rest := []) hC hE hP hD hS (by rw [set_same ha, set_same ha]) (metX3_put l (ws' := (ws.set q1 (a, .inl (k 0, n, .inl (upd (xtG n f (n - 1)) 0 (f (n - 1))))))) (rs_n he ha) (rs_a ha) hn 0 (f (n - 1)) (by rw [show wr n (xtG n f (n - 1)) 0 (f (n - 1)) = upd (xtG n f (n - 1)) 0 (f (n - 1)) from wr_n (j := 0) hpos hn]; exact rs_s)) gc_RX3_37 hd_X3_put ⟨rfl, rfl⟩ ⟨Nat.le_of_ble_eq_true rfl, Nat.le_of_ble_eq_true rfl⟩ q0 (rs_n he ha) rfl rfl hl.1 (Nat.le_of_ble_eq_true rfl) ⟨Nat.le_of_ble_eq_true rfl, Nat.le_of_ble_eq_true rfl⟩ dX3_turn_45 (fun H locs hP hD hS => ?_)
    rw [xtG_e hpos] at hP
    exact m_vret hx hb hr hlk dX3_turn_48 hP hS
  · have hl : lv_has ls 3 [(0, .ref r), (1, .int (f (n - 1))), (2, .int (nI (n - 1 - i)))] := hl
    have hP : va_P D vwCl (ws.set q1 (a, .inl (k 0, n, .inl (xtG n f i)))) H := hP
    have hD : va_D (va_in ws) (ws.set q1 (a, .inl (k 0, n, .inl (xtG n f i)))) := hD
    refine lv_iload_n hx hb dX3_turn_20 rfl (lv_at hl 2 rfl) ?_
    refine lv_if_le (tgt := 42) hx hb dX3_turn_21 (by decide) (fun c_ => absurd c_ (nI_nle (by omega) (by omega))) (fun c_2 => ?_)
    refine lv_aload_n hx hb dX3_turn_24 rfl (lv_at hl 0 rfl) ?_
    refine lv_iload_n hx hb dX3_turn_25 rfl (lv_at hl 2 rfl) ?_
    refine lv_aload_n hx hb dX3_turn_26 rfl (lv_at hl 0 rfl) ?_
    refine lv_iload_n hx hb dX3_turn_27 rfl (lv_at hl 2 rfl) ?_
    refine lv_iconst (v := 1) hx hb dX3_turn_28 (by decide) ?_
    refine lv_isub hx hb dX3_turn_29 ?_
    refine w_top (isub1 (by omega)) ?_
    refine c_pVi (rest := [.int (nI (n - 1 - i)), .ref r]) hC hE hP (metX3_at l (rs_n he ha) (rs_a ha) hn (nI (n - 1 - i - 1))) gc_RX3_33 hd_X3_at ⟨rfl, rfl⟩ ⟨Nat.le_of_ble_eq_true rfl, Nat.le_of_ble_eq_true rfl⟩ q0 (rs_n he ha) rfl rfl hl.1 (Nat.le_of_ble_eq_true rfl) ⟨Nat.le_of_ble_eq_true rfl, Nat.le_of_ble_eq_true rfl⟩ dX3_turn_30 ?_
    refine w_top (rd_n (n := n) (j := (n - 1 - i - 1)) (by omega) hn) ?_
    refine c_mVv (rest := []) hC hE hP hD hS (by rw [set_same ha, set_same ha]) (metX3_put l (ws' := (ws.set q1 (a, .inl (k 0, n, .inl (upd (xtG n f i) (n - 1 - i) ((xtG n f i) (n - 1 - i - 1))))))) (rs_n he ha) (rs_a ha) hn (nI (n - 1 - i)) ((xtG n f i) (n - 1 - i - 1)) (by rw [show wr n (xtG n f i) (nI (n - 1 - i)) ((xtG n f i) (n - 1 - i - 1)) = upd (xtG n f i) (n - 1 - i) ((xtG n f i) (n - 1 - i - 1)) from wr_n (j := (n - 1 - i)) (by omega) hn]; exact rs_s)) gc_RX3_37 hd_X3_put ⟨rfl, rfl⟩ ⟨Nat.le_of_ble_eq_true rfl, Nat.le_of_ble_eq_true rfl⟩ q0 (rs_n he ha) rfl rfl hl.1 (Nat.le_of_ble_eq_true rfl) ⟨Nat.le_of_ble_eq_true rfl, Nat.le_of_ble_eq_true rfl⟩ dX3_turn_33 (fun H locs hP hD hS => ?_)
    refine lv_iinc (v := nI (n - 1 - (i + 1))) (lv' := [(2, .int (nI (n - 1 - (i + 1)))), (0, .ref r), (1, .int (f (n - 1)))]) hx hb dX3_turn_36 hl (k := 2) rfl (by rw [show n - 1 - (i + 1) = n - 1 - i - 1 from by omega]; exact idec (by omega)) (by decide) rfl (fun ls hl => ?_)
    refine lv_goto (tgt := 20) hx hb dX3_turn_39 (by decide) ?_
    have e9 : xtG n f (i + 1) = (upd (xtG n f i) (n - 1 - i) ((xtG n f i) (n - 1 - i - 1))) := xtG_s hi
    exact ih ls H locs trivial (lv_sub hl [1, 2, 0] rfl) (by show va_P D vwCl (ws.set q1 (a, .inl (k 0, n, .inl (xtG n f (i + 1))))) H; rw [e9]; exact hP) (by show va_D (va_in ws) (ws.set q1 (a, .inl (k 0, n, .inl (xtG n f (i + 1))))); rw [e9]; exact hD) hS

set_option maxHeartbeats 4000000 in
set_option maxRecDepth 100000 in
/-- the front one -/
theorem metX3_takeFront (l : Launch) {D : va_G} {k : Nat → ClassId} {ws ws' : va_W} {q0 q1 r a n : Nat} {f : Nat → Int32} (he : ws[q0]? = some (r, .inr (3, [.ref a]))) (ha : ws[q1]? = some (a, .inl (k 0, n, .inl f))) (hn : n < 2 ^ 31) (hpos : 0 < n) (hset : ws.set q1 (a, .inl (k 0, n, .inl (xfront n f))) = ws') : MM l yX3_takeFront cX3_takeFront 3 (some FieldType.int) rmX3_takeFront D k ws [.ref r] (some (.int (f 0))) ws' := by
  subst hset
  refine MM_of rfl (Nat.le_of_ble_eq_true rfl) ?_
  intro p e s m below meth c hC hr hlk hin hE hP hD hS ls hl
  have hC : CallFix p m c cX3_takeFront 3 s _ lw_all RX3 := hC
  have hx := hC.1
  have hb := hC.2.1
  have hown : s.vm.findClass RX3 = some m.cls := hC.2.2.2.1
  have hts := hC.2.2.2.2
  have hl : lv_has ls 3 [(0, .ref r)] := hl
  refine lv_aload_n hx hb dX3_takeFront_0 rfl (lv_at hl 0 rfl) ?_
  refine lv_iconst (v := 0) hx hb dX3_takeFront_1 (by decide) ?_
  refine c_pVi (rest := []) hC hE hP (metX3_at l he ha hn 0) gc_RX3_33 hd_X3_at ⟨rfl, rfl⟩ ⟨Nat.le_of_ble_eq_true rfl, Nat.le_of_ble_eq_true rfl⟩ q0 he rfl rfl hl.1 (Nat.le_of_ble_eq_true rfl) ⟨Nat.le_of_ble_eq_true rfl, Nat.le_of_ble_eq_true rfl⟩ dX3_takeFront_2 ?_
  refine w_top (rd_n (n := n) (j := 0) hpos hn) ?_
  refine lv_istore_n (lv' := [(1, .int (f 0)), (0, .ref r)]) hx hb dX3_takeFront_5 rfl hl (by decide) rfl (fun ls hl => ?_)
  refine lv_iconst (v := 1) hx hb dX3_takeFront_6 (by decide) ?_
  refine lv_istore_n (lv' := [(2, .int 1), (1, .int (f 0)), (0, .ref r)]) hx hb dX3_takeFront_7 rfl hl (by decide) rfl (fun ls hl => ?_)
  have hP : va_P D vwCl (ws.set q1 (a, .inl (k 0, n, .inl (xfG f 0)))) s.heap := by rw [xfG_0, rs_0 ha]; exact hP
  have hD : va_D (va_in ws) (ws.set q1 (a, .inl (k 0, n, .inl (xfG f 0)))) := by rw [xfG_0, rs_0 ha]; exact hD
  refine w_forM (N := n - 1) (fun _ => True) (fun i => [(0, .ref r), (1, .int (f 0)), (2, .int (nI (i + 1)))]) (fun i => (ws.set q1 (a, .inl (k 0, n, .inl (xfG f i))))) (fun ls H locs hI hl hP hD hS => ?_) (fun i hi hI ih ls H locs hl hP hD hS => ?_) 0 (Nat.zero_le _) trivial (lv_sub hl [2, 1, 0] rfl) hP hD hS
  · have hl : lv_has ls 3 [(0, .ref r), (1, .int (f 0)), (2, .int (nI ((n - 1) + 1)))] := hl
    have hP : va_P D vwCl (ws.set q1 (a, .inl (k 0, n, .inl (xfG f (n - 1))))) H := hP
    have hD : va_D (va_in ws) (ws.set q1 (a, .inl (k 0, n, .inl (xfG f (n - 1))))) := hD
    refine lv_iload_n hx hb dX3_takeFront_8 rfl (lv_at hl 2 rfl) ?_
    refine lv_aload_n hx hb dX3_takeFront_9 rfl (lv_at hl 0 rfl) ?_
    refine va_get (D := D) (ci := 3) (v := .ref a) (C := RX3) (T := TX3) (N := 1) hx hb hts tu_3 hown hE.1 hP q0 (rs_n he ha) rfl 0 (by decide) (hts _ tw_46) (fun _ h9 => h9) rfl dX3_takeFront_10 ?_
    refine k_alen hx hb hE hP q1 (rs_a ha) dX3_takeFront_13 ?_
    refine lv_icmp_ge (tgt := 35) hx hb dX3_takeFront_14 (by decide) (fun c_1 => ?_) (fun c_ => absurd (nI_le (by omega) (by omega)) c_)
    refine lv_aload_n hx hb dX3_takeFront_35 rfl (lv_at hl 0 rfl) ?_
    refine lv_aload_n hx hb dX3_takeFront_36 rfl (lv_at hl 0 rfl) ?_
    refine va_get (D := D) (ci := 3) (v := .ref a) (C := RX3) (T := TX3) (N := 1) hx hb hts tu_3 hown hE.1 hP q0 (rs_n he ha) rfl 0 (by decide) (hts _ tw_46) (fun _ h9 => h9) rfl dX3_takeFront_37 ?_
    refine k_alen hx hb hE hP q1 (rs_a ha) dX3_takeFront_40 ?_
    refine lv_iconst (v := 1) hx hb dX3_takeFront_41 (by decide) ?_
    refine lv_isub hx hb dX3_takeFront_42 ?_
    refine w_top (isub1 hpos) ?_
    refine lv_iconst (v := (-1)) hx hb dX3_takeFront_43 (by decide) ?_
    refine c_mVv (rest := []) hC hE hP hD hS (by rw [set_same ha, set_same ha]) (metX3_put l (ws' := (ws.set q1 (a, .inl (k 0, n, .inl (upd (xfG f (n - 1)) (n - 1) (-1)))))) (rs_n he ha) (rs_a ha) hn (nI (n - 1)) (-1) (by rw [show wr n (xfG f (n - 1)) (nI (n - 1)) (-1) = upd (xfG f (n - 1)) (n - 1) (-1) from wr_n (j := (n - 1)) (by omega) hn]; exact rs_s)) gc_RX3_37 hd_X3_put ⟨rfl, rfl⟩ ⟨Nat.le_of_ble_eq_true rfl, Nat.le_of_ble_eq_true rfl⟩ q0 (rs_n he ha) rfl rfl hl.1 (Nat.le_of_ble_eq_true rfl) ⟨Nat.le_of_ble_eq_true rfl, Nat.le_of_ble_eq_true rfl⟩ dX3_takeFront_44 (fun H locs hP hD hS => ?_)
    refine lv_iload_n hx hb dX3_takeFront_47 rfl (lv_at hl 1 rfl) ?_
    rw [xfG_e hpos] at hP
    exact m_iret hx hb hr hlk dX3_takeFront_48 hP hS (rfl)
  · have hl : lv_has ls 3 [(0, .ref r), (1, .int (f 0)), (2, .int (nI (i + 1)))] := hl
    have hP : va_P D vwCl (ws.set q1 (a, .inl (k 0, n, .inl (xfG f i)))) H := hP
    have hD : va_D (va_in ws) (ws.set q1 (a, .inl (k 0, n, .inl (xfG f i)))) := hD
    refine lv_iload_n hx hb dX3_takeFront_8 rfl (lv_at hl 2 rfl) ?_
    refine lv_aload_n hx hb dX3_takeFront_9 rfl (lv_at hl 0 rfl) ?_
    refine va_get (D := D) (ci := 3) (v := .ref a) (C := RX3) (T := TX3) (N := 1) hx hb hts tu_3 hown hE.1 hP q0 (rs_n he ha) rfl 0 (by decide) (hts _ tw_46) (fun _ h9 => h9) rfl dX3_takeFront_10 ?_
    refine k_alen hx hb hE hP q1 (rs_a ha) dX3_takeFront_13 ?_
    refine lv_icmp_ge (tgt := 35) hx hb dX3_takeFront_14 (by decide) (fun c_ => absurd c_ (nI_ge (by omega) hn)) (fun c_2 => ?_)
    refine lv_aload_n hx hb dX3_takeFront_17 rfl (lv_at hl 0 rfl) ?_
    refine lv_iload_n hx hb dX3_takeFront_18 rfl (lv_at hl 2 rfl) ?_
    refine lv_iconst (v := 1) hx hb dX3_takeFront_19 (by decide) ?_
    refine lv_isub hx hb dX3_takeFront_20 ?_
    refine w_top (isub1 (Nat.succ_pos i)) ?_
    refine lv_aload_n hx hb dX3_takeFront_21 rfl (lv_at hl 0 rfl) ?_
    refine lv_iload_n hx hb dX3_takeFront_22 rfl (lv_at hl 2 rfl) ?_
    refine c_pVi (rest := [.int (nI i), .ref r]) hC hE hP (metX3_at l (rs_n he ha) (rs_a ha) hn (nI (i + 1))) gc_RX3_33 hd_X3_at ⟨rfl, rfl⟩ ⟨Nat.le_of_ble_eq_true rfl, Nat.le_of_ble_eq_true rfl⟩ q0 (rs_n he ha) rfl rfl hl.1 (Nat.le_of_ble_eq_true rfl) ⟨Nat.le_of_ble_eq_true rfl, Nat.le_of_ble_eq_true rfl⟩ dX3_takeFront_23 ?_
    refine w_top (rd_n (n := n) (j := (i + 1)) (by omega) hn) ?_
    refine c_mVv (rest := []) hC hE hP hD hS (by rw [set_same ha, set_same ha]) (metX3_put l (ws' := (ws.set q1 (a, .inl (k 0, n, .inl (upd (xfG f i) i ((xfG f i) (i + 1))))))) (rs_n he ha) (rs_a ha) hn (nI i) ((xfG f i) (i + 1)) (by rw [show wr n (xfG f i) (nI i) ((xfG f i) (i + 1)) = upd (xfG f i) i ((xfG f i) (i + 1)) from wr_n (j := i) (by omega) hn]; exact rs_s)) gc_RX3_37 hd_X3_put ⟨rfl, rfl⟩ ⟨Nat.le_of_ble_eq_true rfl, Nat.le_of_ble_eq_true rfl⟩ q0 (rs_n he ha) rfl rfl hl.1 (Nat.le_of_ble_eq_true rfl) ⟨Nat.le_of_ble_eq_true rfl, Nat.le_of_ble_eq_true rfl⟩ dX3_takeFront_26 (fun H locs hP hD hS => ?_)
    refine lv_iinc (v := nI ((i + 1) + 1)) (lv' := [(2, .int (nI ((i + 1) + 1))), (0, .ref r), (1, .int (f 0))]) hx hb dX3_takeFront_29 hl (k := 2) rfl (iinc1 _) (by decide) rfl (fun ls hl => ?_)
    refine lv_goto (tgt := 8) hx hb dX3_takeFront_32 (by decide) ?_
    have e9 : xfG f (i + 1) = (upd (xfG f i) i ((xfG f i) (i + 1))) := xfG_s
    exact ih ls H locs trivial (lv_sub hl [1, 2, 0] rfl) (by show va_P D vwCl (ws.set q1 (a, .inl (k 0, n, .inl (xfG f (i + 1))))) H; rw [e9]; exact hP) (by show va_D (va_in ws) (ws.set q1 (a, .inl (k 0, n, .inl (xfG f (i + 1))))); rw [e9]; exact hD) hS

set_option maxHeartbeats 4000000 in
set_option maxRecDepth 100000 in
/-- how many places hold v -/
theorem metX3_count (l : Launch) {D : va_G} {k : Nat → ClassId} {ws : va_W} {q0 q1 r a n : Nat} {f : Nat → Int32} (he : ws[q0]? = some (r, .inr (3, [.ref a]))) (ha : ws[q1]? = some (a, .inl (k 0, n, .inl f))) (hn : n < 2 ^ 31) (v : Int32) : PM l yX3_count cX3_count 7 (some FieldType.int) rmX3_count D k ws [.ref r, .int v] (some (.int (nI (ct (fun j_ => f j_ = v) n)))) := by
  refine PM_of rfl (Nat.le_of_ble_eq_true rfl) ?_
  intro p e s m below meth c hC hr hlk hin hE hP ls hl
  have hC : CallFix p m c cX3_count 7 s _ lw_all RX3 := hC
  have hx := hC.1
  have hb := hC.2.1
  have hown : s.vm.findClass RX3 = some m.cls := hC.2.2.2.1
  have hts := hC.2.2.2.2
  have hl : lv_has ls 7 [(0, .ref r), (1, .int v)] := hl
  refine lv_iconst (v := 0) hx hb dX3_count_0 (by decide) ?_
  refine lv_istore_n (lv' := [(2, .int 0), (0, .ref r), (1, .int v)]) hx hb dX3_count_1 rfl hl (by decide) rfl (fun ls hl => ?_)
  refine lv_aload_n hx hb dX3_count_2 rfl (lv_at hl 1 rfl) ?_
  refine va_get (D := D) (ci := 3) (v := .ref a) (C := RX3) (T := TX3) (N := 1) hx hb hts tu_3 hown hE.1 hP q0 he rfl 0 (by decide) (hts _ tw_46) (fun _ h9 => h9) rfl dX3_count_3 ?_
  refine lv_astore_n (lv' := [(3, .ref a), (2, .int 0), (0, .ref r), (1, .int v)]) hx hb dX3_count_6 rfl hl (by decide) rfl (fun ls hl => ?_)
  refine lv_aload_n hx hb dX3_count_7 rfl (lv_at hl 0 rfl) ?_
  refine k_alen hx hb hE hP q1 ha dX3_count_8 ?_
  refine lv_istore (lv' := [(4, .int (nI n)), (3, .ref a), (2, .int 0), (0, .ref r), (1, .int v)]) hx hb dX3_count_9 hl (by decide) rfl (fun ls hl => ?_)
  refine lv_iconst (v := 0) hx hb dX3_count_11 (by decide) ?_
  refine lv_istore (lv' := [(5, .int 0), (4, .int (nI n)), (3, .ref a), (2, .int 0), (0, .ref r), (1, .int v)]) hx hb dX3_count_12 hl (by decide) rfl (fun ls hl => ?_)
  refine w_for (N := n) (fun _ => True) (fun i => [(0, .ref r), (1, .int v), (2, .int (nI (ct (fun j_ => f j_ = v) i))), (3, .ref a), (4, .int (nI n)), (5, .int (nI i))]) (fun ls hI hl => ?_) (fun i hi hI ih ls hl => ?_) 0 (Nat.zero_le _) trivial (lv_sub hl [4, 5, 3, 2, 1, 0] rfl)
  · have hl : lv_has ls 7 [(0, .ref r), (1, .int v), (2, .int (nI (ct (fun j_ => f j_ = v) n))), (3, .ref a), (4, .int (nI n)), (5, .int (nI n))] := hl
    refine lv_iload hx hb dX3_count_14 (lv_at hl 5 rfl) ?_
    refine lv_iload hx hb dX3_count_16 (lv_at hl 4 rfl) ?_
    refine lv_icmp_ge (tgt := 42) hx hb dX3_count_18 (by decide) (fun c_1 => ?_) (fun c_ => absurd (nI_le (Nat.le_refl n) hn) c_)
    refine lv_iload_n hx hb dX3_count_42 rfl (lv_at hl 2 rfl) ?_
    exact p_iret hx hb hr hlk dX3_count_43 (rfl)
  · have hl : lv_has ls 7 [(0, .ref r), (1, .int v), (2, .int (nI (ct (fun j_ => f j_ = v) i))), (3, .ref a), (4, .int (nI n)), (5, .int (nI i))] := hl
    refine lv_iload hx hb dX3_count_14 (lv_at hl 5 rfl) ?_
    refine lv_iload hx hb dX3_count_16 (lv_at hl 4 rfl) ?_
    refine lv_icmp_ge (tgt := 42) hx hb dX3_count_18 (by decide) (fun c_ => absurd c_ (nI_ge hi hn)) (fun c_2 => ?_)
    refine lv_aload_n hx hb dX3_count_21 rfl (lv_at hl 3 rfl) ?_
    refine lv_iload hx hb dX3_count_22 (lv_at hl 5 rfl) ?_
    refine k_iald (j := i) hx hb hE hP q1 ha hi hn dX3_count_24 ?_
    refine lv_istore (lv' := [(6, .int (f i)), (0, .ref r), (1, .int v), (2, .int (nI (ct (fun j_ => f j_ = v) i))), (3, .ref a), (4, .int (nI n)), (5, .int (nI i))]) hx hb dX3_count_25 hl (by decide) rfl (fun ls hl => ?_)
    refine lv_iload hx hb dX3_count_27 (lv_at hl 0 rfl) ?_
    refine lv_iload_n hx hb dX3_count_29 rfl (lv_at hl 2 rfl) ?_
    refine lv_icmp_ne (tgt := 36) hx hb dX3_count_30 (by decide) (fun c_3 => ?_) (fun c_3 => ?_)
    · refine lv_iinc (v := nI (i + 1)) (lv' := [(5, .int (nI (i + 1))), (6, .int (f i)), (0, .ref r), (1, .int v), (2, .int (nI (ct (fun j_ => f j_ = v) i))), (3, .ref a), (4, .int (nI n))]) hx hb dX3_count_36 hl (k := 6) rfl (iinc1 _) (by decide) rfl (fun ls hl => ?_)
      refine lv_goto (tgt := 14) hx hb dX3_count_39 (by decide) ?_
      have e9 : ct (fun j_ => f j_ = v) (i + 1) = ct (fun j_ => f j_ = v) i := ct_f (p := (fun j_ => f j_ = v)) c_3
      exact ih ls trivial (by show lv_has ls 7 [(0, .ref r), (1, .int v), (2, .int (nI (ct (fun j_ => f j_ = v) (i + 1)))), (3, .ref a), (4, .int (nI n)), (5, .int (nI (i + 1)))]; rw [e9]; exact lv_sub hl [2, 3, 4, 5, 6, 0] rfl)
    · refine lv_iinc (v := nI ((ct (fun j_ => f j_ = v) i) + 1)) (lv' := [(2, .int (nI ((ct (fun j_ => f j_ = v) i) + 1))), (6, .int (f i)), (0, .ref r), (1, .int v), (3, .ref a), (4, .int (nI n)), (5, .int (nI i))]) hx hb dX3_count_33 hl (k := 3) rfl (iinc1 _) (by decide) rfl (fun ls hl => ?_)
      refine lv_iinc (v := nI (i + 1)) (lv' := [(5, .int (nI (i + 1))), (2, .int (nI ((ct (fun j_ => f j_ = v) i) + 1))), (6, .int (f i)), (0, .ref r), (1, .int v), (3, .ref a), (4, .int (nI n))]) hx hb dX3_count_36 hl (k := 6) rfl (iinc1 _) (by decide) rfl (fun ls hl => ?_)
      refine lv_goto (tgt := 14) hx hb dX3_count_39 (by decide) ?_
      have e9 : ct (fun j_ => f j_ = v) (i + 1) = ct (fun j_ => f j_ = v) i + 1 := ct_t (p := (fun j_ => f j_ = v)) c_3
      exact ih ls trivial (by show lv_has ls 7 [(0, .ref r), (1, .int v), (2, .int (nI (ct (fun j_ => f j_ = v) (i + 1)))), (3, .ref a), (4, .int (nI n)), (5, .int (nI (i + 1)))]; rw [e9]; exact lv_sub hl [3, 4, 1, 5, 6, 0] rfl)

set_option maxHeartbeats 4000000 in
set_option maxRecDepth 100000 in
/-- the sum -/
theorem metX3_sum (l : Launch) {D : va_G} {k : Nat → ClassId} {ws : va_W} {q0 q1 r a n : Nat} {f : Nat → Int32} (he : ws[q0]? = some (r, .inr (3, [.ref a]))) (ha : ws[q1]? = some (a, .inl (k 0, n, .inl f))) (hn : n < 2 ^ 31) : PM l yX3_sum cX3_sum 6 (some FieldType.int) rmX3_sum D k ws [.ref r] (some (.int (sm f n))) := by
  refine PM_of rfl (Nat.le_of_ble_eq_true rfl) ?_
  intro p e s m below meth c hC hr hlk hin hE hP ls hl
  have hC : CallFix p m c cX3_sum 6 s _ lw_all RX3 := hC
  have hx := hC.1
  have hb := hC.2.1
  have hown : s.vm.findClass RX3 = some m.cls := hC.2.2.2.1
  have hts := hC.2.2.2.2
  have hl : lv_has ls 6 [(0, .ref r)] := hl
  refine lv_iconst (v := 0) hx hb dX3_sum_0 (by decide) ?_
  refine lv_istore_n (lv' := [(1, .int 0), (0, .ref r)]) hx hb dX3_sum_1 rfl hl (by decide) rfl (fun ls hl => ?_)
  refine lv_aload_n hx hb dX3_sum_2 rfl (lv_at hl 1 rfl) ?_
  refine va_get (D := D) (ci := 3) (v := .ref a) (C := RX3) (T := TX3) (N := 1) hx hb hts tu_3 hown hE.1 hP q0 he rfl 0 (by decide) (hts _ tw_46) (fun _ h9 => h9) rfl dX3_sum_3 ?_
  refine lv_astore_n (lv' := [(2, .ref a), (1, .int 0), (0, .ref r)]) hx hb dX3_sum_6 rfl hl (by decide) rfl (fun ls hl => ?_)
  refine lv_aload_n hx hb dX3_sum_7 rfl (lv_at hl 0 rfl) ?_
  refine k_alen hx hb hE hP q1 ha dX3_sum_8 ?_
  refine lv_istore_n (lv' := [(3, .int (nI n)), (2, .ref a), (1, .int 0), (0, .ref r)]) hx hb dX3_sum_9 rfl hl (by decide) rfl (fun ls hl => ?_)
  refine lv_iconst (v := 0) hx hb dX3_sum_10 (by decide) ?_
  refine lv_istore (lv' := [(4, .int 0), (3, .int (nI n)), (2, .ref a), (1, .int 0), (0, .ref r)]) hx hb dX3_sum_11 hl (by decide) rfl (fun ls hl => ?_)
  refine w_for (N := n) (fun _ => True) (fun i => [(0, .ref r), (1, .int (sm f i)), (2, .ref a), (3, .int (nI n)), (4, .int (nI i))]) (fun ls hI hl => ?_) (fun i hi hI ih ls hl => ?_) 0 (Nat.zero_le _) trivial (lv_sub hl [4, 3, 2, 1, 0] rfl)
  · have hl : lv_has ls 6 [(0, .ref r), (1, .int (sm f n)), (2, .ref a), (3, .int (nI n)), (4, .int (nI n))] := hl
    refine lv_iload hx hb dX3_sum_13 (lv_at hl 4 rfl) ?_
    refine lv_iload_n hx hb dX3_sum_15 rfl (lv_at hl 3 rfl) ?_
    refine lv_icmp_ge (tgt := 36) hx hb dX3_sum_16 (by decide) (fun c_1 => ?_) (fun c_ => absurd (nI_le (Nat.le_refl n) hn) c_)
    refine lv_iload_n hx hb dX3_sum_36 rfl (lv_at hl 1 rfl) ?_
    exact p_iret hx hb hr hlk dX3_sum_37 (rfl)
  · have hl : lv_has ls 6 [(0, .ref r), (1, .int (sm f i)), (2, .ref a), (3, .int (nI n)), (4, .int (nI i))] := hl
    refine lv_iload hx hb dX3_sum_13 (lv_at hl 4 rfl) ?_
    refine lv_iload_n hx hb dX3_sum_15 rfl (lv_at hl 3 rfl) ?_
    refine lv_icmp_ge (tgt := 36) hx hb dX3_sum_16 (by decide) (fun c_ => absurd c_ (nI_ge hi hn)) (fun c_2 => ?_)
    refine lv_aload_n hx hb dX3_sum_19 rfl (lv_at hl 2 rfl) ?_
    refine lv_iload hx hb dX3_sum_20 (lv_at hl 4 rfl) ?_
    refine k_iald (j := i) hx hb hE hP q1 ha hi hn dX3_sum_22 ?_
    refine lv_istore (lv' := [(5, .int (f i)), (0, .ref r), (1, .int (sm f i)), (2, .ref a), (3, .int (nI n)), (4, .int (nI i))]) hx hb dX3_sum_23 hl (by decide) rfl (fun ls hl => ?_)
    refine lv_iload_n hx hb dX3_sum_25 rfl (lv_at hl 2 rfl) ?_
    refine lv_iload hx hb dX3_sum_26 (lv_at hl 0 rfl) ?_
    refine lv_iadd hx hb dX3_sum_28 ?_
    refine lv_istore_n (lv' := [(1, .int ((sm f i) + (f i))), (5, .int (f i)), (0, .ref r), (2, .ref a), (3, .int (nI n)), (4, .int (nI i))]) hx hb dX3_sum_29 rfl hl (by decide) rfl (fun ls hl => ?_)
    refine lv_iinc (v := nI (i + 1)) (lv' := [(4, .int (nI (i + 1))), (1, .int ((sm f i) + (f i))), (5, .int (f i)), (0, .ref r), (2, .ref a), (3, .int (nI n))]) hx hb dX3_sum_30 hl (k := 5) rfl (iinc1 _) (by decide) rfl (fun ls hl => ?_)
    refine lv_goto (tgt := 13) hx hb dX3_sum_33 (by decide) ?_
    exact ih ls trivial (lv_sub hl [3, 1, 4, 5, 0] rfl)

set_option maxHeartbeats 4000000 in
set_option maxRecDepth 100000 in
/-- the first place that holds v -/
theorem metX3_find (l : Launch) {D : va_G} {k : Nat → ClassId} {ws : va_W} {q0 q1 r a n : Nat} {f : Nat → Int32} (he : ws[q0]? = some (r, .inr (3, [.ref a]))) (ha : ws[q1]? = some (a, .inl (k 0, n, .inl f))) (hn : n < 2 ^ 31) (v : Int32) : PM l yX3_find cX3_find 3 (some FieldType.int) rmX3_find D k ws [.ref r, .int v] (some (.int (fnd f v 0 n))) := by
  refine PM_of rfl (Nat.le_of_ble_eq_true rfl) ?_
  intro p e s m below meth c hC hr hlk hin hE hP ls hl
  have hC : CallFix p m c cX3_find 3 s _ lw_all RX3 := hC
  have hx := hC.1
  have hb := hC.2.1
  have hown : s.vm.findClass RX3 = some m.cls := hC.2.2.2.1
  have hts := hC.2.2.2.2
  have hl : lv_has ls 3 [(0, .ref r), (1, .int v)] := hl
  refine lv_iconst (v := 0) hx hb dX3_find_0 (by decide) ?_
  refine lv_istore_n (lv' := [(2, .int 0), (0, .ref r), (1, .int v)]) hx hb dX3_find_1 rfl hl (by decide) rfl (fun ls hl => ?_)
  refine w_for (N := n) (fun i => fnd f v 0 n = fnd f v i (n - i)) (fun i => [(0, .ref r), (1, .int v), (2, .int (nI i))]) (fun ls hI hl => ?_) (fun i hi hI ih ls hl => ?_) 0 (Nat.zero_le _) rfl (lv_sub hl [1, 2, 0] rfl)
  · have hl : lv_has ls 3 [(0, .ref r), (1, .int v), (2, .int (nI n))] := hl
    have hI : fnd f v 0 n = fnd f v n (n - n) := hI
    refine lv_iload_n hx hb dX3_find_2 rfl (lv_at hl 2 rfl) ?_
    refine lv_aload_n hx hb dX3_find_3 rfl (lv_at hl 0 rfl) ?_
    refine va_get (D := D) (ci := 3) (v := .ref a) (C := RX3) (T := TX3) (N := 1) hx hb hts tu_3 hown hE.1 hP q0 he rfl 0 (by decide) (hts _ tw_46) (fun _ h9 => h9) rfl dX3_find_4 ?_
    refine k_alen hx hb hE hP q1 ha dX3_find_7 ?_
    refine lv_icmp_ge (tgt := 29) hx hb dX3_find_8 (by decide) (fun c_1 => ?_) (fun c_ => absurd (nI_le (Nat.le_refl n) hn) c_)
    refine lv_iconst (v := (-1)) hx hb dX3_find_29 (by decide) ?_
    exact p_iret hx hb hr hlk dX3_find_30 (hI.trans fnd_end)
  · have hl : lv_has ls 3 [(0, .ref r), (1, .int v), (2, .int (nI i))] := hl
    have hI : fnd f v 0 n = fnd f v i (n - i) := hI
    refine lv_iload_n hx hb dX3_find_2 rfl (lv_at hl 2 rfl) ?_
    refine lv_aload_n hx hb dX3_find_3 rfl (lv_at hl 0 rfl) ?_
    refine va_get (D := D) (ci := 3) (v := .ref a) (C := RX3) (T := TX3) (N := 1) hx hb hts tu_3 hown hE.1 hP q0 he rfl 0 (by decide) (hts _ tw_46) (fun _ h9 => h9) rfl dX3_find_4 ?_
    refine k_alen hx hb hE hP q1 ha dX3_find_7 ?_
    refine lv_icmp_ge (tgt := 29) hx hb dX3_find_8 (by decide) (fun c_ => absurd c_ (nI_ge hi hn)) (fun c_2 => ?_)
    refine lv_aload_n hx hb dX3_find_11 rfl (lv_at hl 0 rfl) ?_
    refine va_get (D := D) (ci := 3) (v := .ref a) (C := RX3) (T := TX3) (N := 1) hx hb hts tu_3 hown hE.1 hP q0 he rfl 0 (by decide) (hts _ tw_46) (fun _ h9 => h9) rfl dX3_find_12 ?_
    refine lv_iload_n hx hb dX3_find_15 rfl (lv_at hl 2 rfl) ?_
    refine k_iald (j := i) hx hb hE hP q1 ha hi hn dX3_find_16 ?_
    refine lv_iload_n hx hb dX3_find_17 rfl (lv_at hl 1 rfl) ?_
    refine lv_icmp_ne (tgt := 23) hx hb dX3_find_18 (by decide) (fun c_3 => ?_) (fun c_3 => ?_)
    · refine lv_iinc (v := nI (i + 1)) (lv' := [(2, .int (nI (i + 1))), (0, .ref r), (1, .int v)]) hx hb dX3_find_23 hl (k := 2) rfl (iinc1 _) (by decide) rfl (fun ls hl => ?_)
      refine lv_goto (tgt := 2) hx hb dX3_find_26 (by decide) ?_
      exact ih ls (hI.trans (fnd_miss hi c_3)) (lv_sub hl [1, 2, 0] rfl)
    · refine lv_iload_n hx hb dX3_find_21 rfl (lv_at hl 2 rfl) ?_
      exact p_iret hx hb hr hlk dX3_find_22 (hI.trans (fnd_hit hi c_3))

set_option maxHeartbeats 4000000 in
set_option maxRecDepth 100000 in
/-- all places x -/
theorem metJ7_fill_53178 (l : Launch) {D : va_G} {k : Nat → ClassId} {ws ws' : va_W} {q1 a n : Nat} {f : Nat → Int32} (ha : ws[q1]? = some (a, .inl (k 0, n, .inl f))) (hn : n < 2 ^ 31) (x : Int32) (hset : ws.set q1 (a, .inl (k 0, n, .inl (fun _ => x))) = ws') : MM l yJ7_fill_53178 cJ7_fill_53178 4 none rmJ7_fill_53178 D k ws [.ref a, .int x] none ws' := by
  subst hset
  refine MM_of rfl (Nat.le_of_ble_eq_true rfl) ?_
  intro p e s m below meth c hC hr hlk hin hE hP hD hS ls hl
  have hC : CallFix p m c cJ7_fill_53178 4 s _ lw_all RJ7 := hC
  have hx := hC.1
  have hb := hC.2.1
  have hown : s.vm.findClass RJ7 = some m.cls := hC.2.2.2.1
  have hts := hC.2.2.2.2
  have hl : lv_has ls 4 [(0, .ref a), (1, .int x)] := hl
  refine lv_iconst (v := 0) hx hb dJ7_fill_53178_0 (by decide) ?_
  refine lv_istore_n (lv' := [(2, .int 0), (0, .ref a), (1, .int x)]) hx hb dJ7_fill_53178_1 rfl hl (by decide) rfl (fun ls hl => ?_)
  refine lv_aload_n hx hb dJ7_fill_53178_2 rfl (lv_at hl 1 rfl) ?_
  refine k_alen hx hb hE hP q1 ha dJ7_fill_53178_3 ?_
  refine lv_istore_n (lv' := [(3, .int (nI n)), (2, .int 0), (0, .ref a), (1, .int x)]) hx hb dJ7_fill_53178_4 rfl hl (by decide) rfl (fun ls hl => ?_)
  have hP : va_P D vwCl (ws.set q1 (a, .inl (k 0, n, .inl (xflG f x 0)))) s.heap := by rw [xflG_0, rs_0 ha]; exact hP
  have hD : va_D (va_in ws) (ws.set q1 (a, .inl (k 0, n, .inl (xflG f x 0)))) := by rw [xflG_0, rs_0 ha]; exact hD
  refine w_forM (N := n) (fun _ => True) (fun i => [(0, .ref a), (1, .int x), (2, .int (nI i)), (3, .int (nI n))]) (fun i => (ws.set q1 (a, .inl (k 0, n, .inl (xflG f x i))))) (fun ls H locs hI hl hP hD hS => ?_) (fun i hi hI ih ls H locs hl hP hD hS => ?_) 0 (Nat.zero_le _) trivial (lv_sub hl [2, 3, 1, 0] rfl) hP hD hS
  · have hl : lv_has ls 4 [(0, .ref a), (1, .int x), (2, .int (nI n)), (3, .int (nI n))] := hl
    have hP : va_P D vwCl (ws.set q1 (a, .inl (k 0, n, .inl (xflG f x n)))) H := hP
    have hD : va_D (va_in ws) (ws.set q1 (a, .inl (k 0, n, .inl (xflG f x n)))) := hD
    refine lv_iload_n hx hb dJ7_fill_53178_5 rfl (lv_at hl 2 rfl) ?_
    refine lv_iload_n hx hb dJ7_fill_53178_6 rfl (lv_at hl 3 rfl) ?_
    refine lv_icmp_ge (tgt := 20) hx hb dJ7_fill_53178_7 (by decide) (fun c_1 => ?_) (fun c_ => absurd (nI_le (Nat.le_refl n) hn) c_)
    have hP := row_cong (g := fun _ => x) hP (rs_a ha) (fun j hj => if_pos hj)
    rw [rs_s] at hP
    exact m_vret hx hb hr hlk dJ7_fill_53178_20 hP hS
  · have hl : lv_has ls 4 [(0, .ref a), (1, .int x), (2, .int (nI i)), (3, .int (nI n))] := hl
    have hP : va_P D vwCl (ws.set q1 (a, .inl (k 0, n, .inl (xflG f x i)))) H := hP
    have hD : va_D (va_in ws) (ws.set q1 (a, .inl (k 0, n, .inl (xflG f x i)))) := hD
    refine lv_iload_n hx hb dJ7_fill_53178_5 rfl (lv_at hl 2 rfl) ?_
    refine lv_iload_n hx hb dJ7_fill_53178_6 rfl (lv_at hl 3 rfl) ?_
    refine lv_icmp_ge (tgt := 20) hx hb dJ7_fill_53178_7 (by decide) (fun c_ => absurd c_ (nI_ge hi hn)) (fun c_2 => ?_)
    refine lv_aload_n hx hb dJ7_fill_53178_10 rfl (lv_at hl 0 rfl) ?_
    refine lv_iload_n hx hb dJ7_fill_53178_11 rfl (lv_at hl 2 rfl) ?_
    refine lv_iload_n hx hb dJ7_fill_53178_12 rfl (lv_at hl 1 rfl) ?_
    refine k_iast (j := i) hx hb hE hP hD hS q1 (rs_a ha) hi hn dJ7_fill_53178_13 (fun H locs hP hD hS => ?_)
    rw [rs_s] at hP hD
    have hP : va_P D vwCl (ws.set q1 (a, .inl (k 0, n, .inl (upd (xflG f x i) i x)))) H := hP
    have hD : va_D (va_in ws) (ws.set q1 (a, .inl (k 0, n, .inl (upd (xflG f x i) i x)))) := hD
    refine lv_iinc (v := nI (i + 1)) (lv' := [(2, .int (nI (i + 1))), (0, .ref a), (1, .int x), (3, .int (nI n))]) hx hb dJ7_fill_53178_14 hl (k := 2) rfl (iinc1 _) (by decide) rfl (fun ls hl => ?_)
    refine lv_goto (tgt := 5) hx hb dJ7_fill_53178_17 (by decide) ?_
    have e9 : xflG f x (i + 1) = (upd (xflG f x i) i x) := xflG_s
    exact ih ls H locs trivial (lv_sub hl [1, 2, 0, 3] rfl) (by show va_P D vwCl (ws.set q1 (a, .inl (k 0, n, .inl (xflG f x (i + 1))))) H; rw [e9]; exact hP) (by show va_D (va_in ws) (ws.set q1 (a, .inl (k 0, n, .inl (xflG f x (i + 1))))); rw [e9]; exact hD) hS

set_option maxHeartbeats 4000000 in
set_option maxRecDepth 100000 in
/-- all places as the other row has them -/
theorem metX3_takeAll (l : Launch) {D : va_G} {k : Nat → ClassId} {ws ws' : va_W} {q0 q1 q2 q3 r a r2 a2 n : Nat} {f g : Nat → Int32} (he : ws[q0]? = some (r, .inr (3, [.ref a]))) (ha : ws[q1]? = some (a, .inl (k 0, n, .inl f))) (hn : n < 2 ^ 31) (he2 : ws[q2]? = some (r2, .inr (3, [.ref a2]))) (hb2 : ws[q3]? = some (a2, .inl (k 0, n, .inl g))) (hset : ws.set q1 (a, .inl (k 0, n, .inl g)) = ws') : MM l yX3_takeAll cX3_takeAll 2 none rmX3_takeAll D k ws [.ref r, .ref r2] none ws' := by
  subst hset
  refine MM_of rfl (Nat.le_of_ble_eq_true rfl) ?_
  intro p e s m below meth c hC hr hlk hin hE hP hD hS ls hl
  have hC : CallFix p m c cX3_takeAll 2 s _ lw_all RX3 := hC
  have hx := hC.1
  have hb := hC.2.1
  have hown : s.vm.findClass RX3 = some m.cls := hC.2.2.2.1
  have hts := hC.2.2.2.2
  have hl : lv_has ls 2 [(0, .ref r), (1, .ref r2)] := hl
  refine lv_aload_n hx hb dX3_takeAll_0 rfl (lv_at hl 1 rfl) ?_
  refine va_get (D := D) (ci := 3) (v := .ref a2) (C := RX3) (T := TX3) (N := 1) hx hb hts tu_3 hown hE.1 hP q2 he2 rfl 0 (by decide) (hts _ tw_46) (fun _ h9 => h9) rfl dX3_takeAll_1 ?_
  refine lv_iconst (v := 0) hx hb dX3_takeAll_4 (by decide) ?_
  refine lv_aload_n hx hb dX3_takeAll_5 rfl (lv_at hl 0 rfl) ?_
  refine va_get (D := D) (ci := 3) (v := .ref a) (C := RX3) (T := TX3) (N := 1) hx hb hts tu_3 hown hE.1 hP q0 he rfl 0 (by decide) (hts _ tw_46) (fun _ h9 => h9) rfl dX3_takeAll_6 ?_
  refine lv_iconst (v := 0) hx hb dX3_takeAll_9 (by decide) ?_
  refine lv_aload_n hx hb dX3_takeAll_10 rfl (lv_at hl 0 rfl) ?_
  refine va_get (D := D) (ci := 3) (v := .ref a) (C := RX3) (T := TX3) (N := 1) hx hb hts tu_3 hown hE.1 hP q0 he rfl 0 (by decide) (hts _ tw_46) (fun _ h9 => h9) rfl dX3_takeAll_11 ?_
  refine k_alen hx hb hE hP q1 ha dX3_takeAll_14 ?_
  refine lv_aload_n hx hb dX3_takeAll_15 rfl (lv_at hl 1 rfl) ?_
  refine va_get (D := D) (ci := 3) (v := .ref a2) (C := RX3) (T := TX3) (N := 1) hx hb hts tu_3 hown hE.1 hP q2 he2 rfl 0 (by decide) (hts _ tw_46) (fun _ h9 => h9) rfl dX3_takeAll_16 ?_
  refine k_alen hx hb hE hP q3 hb2 dX3_takeAll_19 ?_
  refine va_mmin hx hb (hC.2.2.1.trans hl.1.symm) hown (hts _ tw_705) (hts _ tw_706) (hts _ tw_16) (hts _ tw_707) (Nat.le_of_ble_eq_true rfl) (Nat.le_of_ble_eq_true rfl) (Nat.le_of_ble_eq_true rfl) (Nat.le_of_ble_eq_true rfl) dX3_takeAll_20 ?_
  refine w_top (if_neg Int32.lt_irrefl) ?_
  refine va_copyi hx hb (hC.2.2.1.trans hl.1.symm) hown (hts _ tw_708) (hts _ tw_710) (hts _ tw_709) (hts _ tw_15) hE.1 hP hD hS q3 q1 0 0 hb2 ha rfl rfl rfl (by decide) (by decide) (nI_pos hn) (by rw [nI_clamp hn]; show 0 + n ≤ n; omega) (by rw [nI_clamp hn]; show 0 + n ≤ n; omega) (fun _ _ => rfl) (Nat.le_of_ble_eq_true rfl) (Nat.le_of_ble_eq_true rfl) dX3_takeAll_23 (fun H locs hP hD hS => ?_)
  rw [nI_clamp hn] at hP
  have hP := row_cong (g := g) hP (rs_a ha) (fun j hj => sb_cpy0 hj)
  rw [rs_s] at hP
  exact m_vret hx hb hr hlk dX3_takeAll_26 hP hS
end
