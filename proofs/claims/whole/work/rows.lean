section
-- ===== PART A: goes FIRST, ahead of the names: the tables' words, and 'selects' of the private methods out of them =====
/-- a private method of a class that the tables say can be made, by its rows of tables_1 -/
def lw_okq (q : MethodName × Nat) : Prop := (q.1.cls ≠ "java/lang/invoke/MethodHandle" ∧ q.1.cls ≠ "java/lang/invoke/VarHandle") ∧ Cond.instantiable q.1.cls q.2 ∈ tables_1 ∧ Cond.privateMethod q.1 ∈ tables_1 ∧ Cond.instanceMethod q.1 ∈ tables_1
theorem lw_p0 : lw_okq (⟨"BagCarousel", "addHall", "(J)J"⟩, 2) := ⟨⟨by decide +kernel, by decide +kernel⟩, List.mem_of_getElem? (i := 18) (by decide +kernel), List.mem_of_getElem? (i := 212) (by decide +kernel), List.mem_of_getElem? (i := 213) (by decide +kernel)⟩
theorem lw_p1 : lw_okq (⟨"BagCarousel", "addBag", "(JI)J"⟩, 2) := ⟨⟨by decide +kernel, by decide +kernel⟩, List.mem_of_getElem? (i := 18) (by decide +kernel), List.mem_of_getElem? (i := 220) (by decide +kernel), List.mem_of_getElem? (i := 221) (by decide +kernel)⟩
theorem lw_p2 : lw_okq (⟨"BagCarousel", "addChute", "(JI)J"⟩, 2) := ⟨⟨by decide +kernel, by decide +kernel⟩, List.mem_of_getElem? (i := 18) (by decide +kernel), List.mem_of_getElem? (i := 250) (by decide +kernel), List.mem_of_getElem? (i := 251) (by decide +kernel)⟩
theorem lw_p3 : lw_okq (⟨"BagCarousel", "addOfFlight", "(JI)J"⟩, 2) := ⟨⟨by decide +kernel, by decide +kernel⟩, List.mem_of_getElem? (i := 18) (by decide +kernel), List.mem_of_getElem? (i := 259) (by decide +kernel), List.mem_of_getElem? (i := 260) (by decide +kernel)⟩
theorem lw_p4 : lw_okq (⟨"java/lang/Throwable", "fillInStackTrace", "(I)Ljava/lang/Throwable;"⟩, 6) := ⟨⟨by decide +kernel, by decide +kernel⟩, List.mem_of_getElem? (i := 324) (by decide +kernel), List.mem_of_getElem? (i := 322) (by decide +kernel), List.mem_of_getElem? (i := 323) (by decide +kernel)⟩
theorem lw_p5 : lw_okq (⟨"BagCarousel", "needFlight", "(I)V"⟩, 2) := ⟨⟨by decide +kernel, by decide +kernel⟩, List.mem_of_getElem? (i := 18) (by decide +kernel), List.mem_of_getElem? (i := 366) (by decide +kernel), List.mem_of_getElem? (i := 367) (by decide +kernel)⟩
theorem lw_p6 : lw_okq (⟨"BagCarousel", "needNotGone", "(I)V"⟩, 2) := ⟨⟨by decide +kernel, by decide +kernel⟩, List.mem_of_getElem? (i := 18) (by decide +kernel), List.mem_of_getElem? (i := 393) (by decide +kernel), List.mem_of_getElem? (i := 394) (by decide +kernel)⟩
theorem lw_p7 : lw_okq (⟨"BagCarousel", "needBag", "(I)V"⟩, 2) := ⟨⟨by decide +kernel, by decide +kernel⟩, List.mem_of_getElem? (i := 18) (by decide +kernel), List.mem_of_getElem? (i := 464) (by decide +kernel), List.mem_of_getElem? (i := 465) (by decide +kernel)⟩
theorem lw_p8 : lw_okq (⟨"BagCarousel", "needInHand", "(I)V"⟩, 2) := ⟨⟨by decide +kernel, by decide +kernel⟩, List.mem_of_getElem? (i := 18) (by decide +kernel), List.mem_of_getElem? (i := 469) (by decide +kernel), List.mem_of_getElem? (i := 470) (by decide +kernel)⟩
theorem lw_p9 : lw_okq (⟨"BagCarousel", "readyWithChute", "(III)I"⟩, 2) := ⟨⟨by decide +kernel, by decide +kernel⟩, List.mem_of_getElem? (i := 18) (by decide +kernel), List.mem_of_getElem? (i := 726) (by decide +kernel), List.mem_of_getElem? (i := 727) (by decide +kernel)⟩
theorem lw_p10 : lw_okq (⟨"BagCarouselModel", "no", "(I)I"⟩, 13) := ⟨⟨by decide +kernel, by decide +kernel⟩, List.mem_of_getElem? (i := 737) (by decide +kernel), List.mem_of_getElem? (i := 834) (by decide +kernel), List.mem_of_getElem? (i := 835) (by decide +kernel)⟩
theorem lw_p11 : lw_okq (⟨"BagCarouselModel", "isFlight", "(I)Z"⟩, 13) := ⟨⟨by decide +kernel, by decide +kernel⟩, List.mem_of_getElem? (i := 737) (by decide +kernel), List.mem_of_getElem? (i := 842) (by decide +kernel), List.mem_of_getElem? (i := 843) (by decide +kernel)⟩
theorem lw_p12 : lw_okq (⟨"BagCarouselModel", "begin", "(I)V"⟩, 13) := ⟨⟨by decide +kernel, by decide +kernel⟩, List.mem_of_getElem? (i := 737) (by decide +kernel), List.mem_of_getElem? (i := 864) (by decide +kernel), List.mem_of_getElem? (i := 865) (by decide +kernel)⟩
theorem lw_p13 : lw_okq (⟨"BagCarouselModel", "isBag", "(I)Z"⟩, 13) := ⟨⟨by decide +kernel, by decide +kernel⟩, List.mem_of_getElem? (i := 737) (by decide +kernel), List.mem_of_getElem? (i := 881) (by decide +kernel), List.mem_of_getElem? (i := 882) (by decide +kernel)⟩
theorem lw_p14 : lw_okq (⟨"BagCarouselModel", "isAside", "(I)Z"⟩, 13) := ⟨⟨by decide +kernel, by decide +kernel⟩, List.mem_of_getElem? (i := 737) (by decide +kernel), List.mem_of_getElem? (i := 885) (by decide +kernel), List.mem_of_getElem? (i := 886) (by decide +kernel)⟩
theorem lw_p15 : lw_okq (⟨"BagCarouselModel", "close", "(I)V"⟩, 13) := ⟨⟨by decide +kernel, by decide +kernel⟩, List.mem_of_getElem? (i := 737) (by decide +kernel), List.mem_of_getElem? (i := 897) (by decide +kernel), List.mem_of_getElem? (i := 898) (by decide +kernel)⟩
def lw_privs_1 : List (MethodName × Nat) := [(⟨"BagCarousel", "addHall", "(J)J"⟩, 2), (⟨"BagCarousel", "addBag", "(JI)J"⟩, 2), (⟨"BagCarousel", "addChute", "(JI)J"⟩, 2), (⟨"BagCarousel", "addOfFlight", "(JI)J"⟩, 2), (⟨"java/lang/Throwable", "fillInStackTrace", "(I)Ljava/lang/Throwable;"⟩, 6), (⟨"BagCarousel", "needFlight", "(I)V"⟩, 2), (⟨"BagCarousel", "needNotGone", "(I)V"⟩, 2), (⟨"BagCarousel", "needBag", "(I)V"⟩, 2), (⟨"BagCarousel", "needInHand", "(I)V"⟩, 2), (⟨"BagCarousel", "readyWithChute", "(III)I"⟩, 2), (⟨"BagCarouselModel", "no", "(I)I"⟩, 13), (⟨"BagCarouselModel", "isFlight", "(I)Z"⟩, 13), (⟨"BagCarouselModel", "begin", "(I)V"⟩, 13), (⟨"BagCarouselModel", "isBag", "(I)Z"⟩, 13), (⟨"BagCarouselModel", "isAside", "(I)Z"⟩, 13), (⟨"BagCarouselModel", "close", "(I)V"⟩, 13)]
theorem lw_r1 : ∀ q ∈ lw_privs_1, lw_okq q := List.forall_mem_cons.mpr ⟨lw_p0, List.forall_mem_cons.mpr ⟨lw_p1, List.forall_mem_cons.mpr ⟨lw_p2, List.forall_mem_cons.mpr ⟨lw_p3, List.forall_mem_cons.mpr ⟨lw_p4, List.forall_mem_cons.mpr ⟨lw_p5, List.forall_mem_cons.mpr ⟨lw_p6, List.forall_mem_cons.mpr ⟨lw_p7, List.forall_mem_cons.mpr ⟨lw_p8, List.forall_mem_cons.mpr ⟨lw_p9, List.forall_mem_cons.mpr ⟨lw_p10, List.forall_mem_cons.mpr ⟨lw_p11, List.forall_mem_cons.mpr ⟨lw_p12, List.forall_mem_cons.mpr ⟨lw_p13, List.forall_mem_cons.mpr ⟨lw_p14, List.forall_mem_cons.mpr ⟨lw_p15, fun _ h => absurd h List.not_mem_nil⟩⟩⟩⟩⟩⟩⟩⟩⟩⟩⟩⟩⟩⟩⟩⟩
theorem lw_p16 : lw_okq (⟨"BagCarouselModel", "misrouted", "(I)Z"⟩, 13) := ⟨⟨by decide +kernel, by decide +kernel⟩, List.mem_of_getElem? (i := 737) (by decide +kernel), List.mem_of_getElem? (i := 905) (by decide +kernel), List.mem_of_getElem? (i := 906) (by decide +kernel)⟩
theorem lw_p17 : lw_okq (⟨"BagCarouselModel", "isInItsChute", "(I)Z"⟩, 13) := ⟨⟨by decide +kernel, by decide +kernel⟩, List.mem_of_getElem? (i := 737) (by decide +kernel), List.mem_of_getElem? (i := 913) (by decide +kernel), List.mem_of_getElem? (i := 914) (by decide +kernel)⟩
theorem lw_p18 : lw_okq (⟨"BagCarouselModel", "minutesOn", "(LBagCarouselModel$State;I)I"⟩, 13) := ⟨⟨by decide +kernel, by decide +kernel⟩, List.mem_of_getElem? (i := 737) (by decide +kernel), List.mem_of_getElem? (i := 921) (by decide +kernel), List.mem_of_getElem? (i := 922) (by decide +kernel)⟩
theorem lw_p19 : lw_okq (⟨"BagCarouselModel", "minuteOn", "(LBagCarouselModel$State;)I"⟩, 13) := ⟨⟨by decide +kernel, by decide +kernel⟩, List.mem_of_getElem? (i := 737) (by decide +kernel), List.mem_of_getElem? (i := 925) (by decide +kernel), List.mem_of_getElem? (i := 926) (by decide +kernel)⟩
theorem lw_p20 : lw_okq (⟨"BagCarouselModel", "readAt", "(LBagCarouselModel$State;)V"⟩, 13) := ⟨⟨by decide +kernel, by decide +kernel⟩, List.mem_of_getElem? (i := 737) (by decide +kernel), List.mem_of_getElem? (i := 934) (by decide +kernel), List.mem_of_getElem? (i := 935) (by decide +kernel)⟩
theorem lw_p21 : lw_okq (⟨"BagCarouselModel", "slide", "(LBagCarouselModel$State;I)I"⟩, 13) := ⟨⟨by decide +kernel, by decide +kernel⟩, List.mem_of_getElem? (i := 737) (by decide +kernel), List.mem_of_getElem? (i := 938) (by decide +kernel), List.mem_of_getElem? (i := 939) (by decide +kernel)⟩
theorem lw_p22 : lw_okq (⟨"BagCarouselModel", "placed", "(II)I"⟩, 13) := ⟨⟨by decide +kernel, by decide +kernel⟩, List.mem_of_getElem? (i := 737) (by decide +kernel), List.mem_of_getElem? (i := 958) (by decide +kernel), List.mem_of_getElem? (i := 959) (by decide +kernel)⟩
theorem lw_p23 : lw_okq (⟨"BagCarouselModel", "isNot", "(I)Z"⟩, 13) := ⟨⟨by decide +kernel, by decide +kernel⟩, List.mem_of_getElem? (i := 737) (by decide +kernel), List.mem_of_getElem? (i := 978) (by decide +kernel), List.mem_of_getElem? (i := 979) (by decide +kernel)⟩
theorem lw_p24 : lw_okq (⟨"BagCarouselModel", "badIn", "(I)I"⟩, 13) := ⟨⟨by decide +kernel, by decide +kernel⟩, List.mem_of_getElem? (i := 737) (by decide +kernel), List.mem_of_getElem? (i := 998) (by decide +kernel), List.mem_of_getElem? (i := 999) (by decide +kernel)⟩
theorem lw_p25 : lw_okq (⟨"BagCarouselModel", "readyIn", "(LBagCarouselModel$State;I)I"⟩, 13) := ⟨⟨by decide +kernel, by decide +kernel⟩, List.mem_of_getElem? (i := 737) (by decide +kernel), List.mem_of_getElem? (i := 1018) (by decide +kernel), List.mem_of_getElem? (i := 1019) (by decide +kernel)⟩
theorem lw_p26 : lw_okq (⟨"BagCarouselModel", "missing", "(I)I"⟩, 13) := ⟨⟨by decide +kernel, by decide +kernel⟩, List.mem_of_getElem? (i := 737) (by decide +kernel), List.mem_of_getElem? (i := 1026) (by decide +kernel), List.mem_of_getElem? (i := 1027) (by decide +kernel)⟩
theorem lw_p27 : lw_okq (⟨"BagCarouselModel", "ok", "(I)I"⟩, 13) := ⟨⟨by decide +kernel, by decide +kernel⟩, List.mem_of_getElem? (i := 737) (by decide +kernel), List.mem_of_getElem? (i := 1034) (by decide +kernel), List.mem_of_getElem? (i := 1035) (by decide +kernel)⟩
theorem lw_p28 : lw_okq (⟨"BagCarouselModel", "counted", "(I)I"⟩, 13) := ⟨⟨by decide +kernel, by decide +kernel⟩, List.mem_of_getElem? (i := 737) (by decide +kernel), List.mem_of_getElem? (i := 1054) (by decide +kernel), List.mem_of_getElem? (i := 1055) (by decide +kernel)⟩
theorem lw_p29 : lw_okq (⟨"BagCarouselModel", "files", "(I)I"⟩, 13) := ⟨⟨by decide +kernel, by decide +kernel⟩, List.mem_of_getElem? (i := 737) (by decide +kernel), List.mem_of_getElem? (i := 1066) (by decide +kernel), List.mem_of_getElem? (i := 1067) (by decide +kernel)⟩
theorem lw_p30 : lw_okq (⟨"BagCarouselModel", "untilChute", "(I)I"⟩, 13) := ⟨⟨by decide +kernel, by decide +kernel⟩, List.mem_of_getElem? (i := 737) (by decide +kernel), List.mem_of_getElem? (i := 1082) (by decide +kernel), List.mem_of_getElem? (i := 1083) (by decide +kernel)⟩
theorem lw_p31 : lw_okq (⟨"BagCarouselModel", "readyBehind", "(II)I"⟩, 13) := ⟨⟨by decide +kernel, by decide +kernel⟩, List.mem_of_getElem? (i := 737) (by decide +kernel), List.mem_of_getElem? (i := 1097) (by decide +kernel), List.mem_of_getElem? (i := 1098) (by decide +kernel)⟩
def lw_privs_2 : List (MethodName × Nat) := [(⟨"BagCarouselModel", "misrouted", "(I)Z"⟩, 13), (⟨"BagCarouselModel", "isInItsChute", "(I)Z"⟩, 13), (⟨"BagCarouselModel", "minutesOn", "(LBagCarouselModel$State;I)I"⟩, 13), (⟨"BagCarouselModel", "minuteOn", "(LBagCarouselModel$State;)I"⟩, 13), (⟨"BagCarouselModel", "readAt", "(LBagCarouselModel$State;)V"⟩, 13), (⟨"BagCarouselModel", "slide", "(LBagCarouselModel$State;I)I"⟩, 13), (⟨"BagCarouselModel", "placed", "(II)I"⟩, 13), (⟨"BagCarouselModel", "isNot", "(I)Z"⟩, 13), (⟨"BagCarouselModel", "badIn", "(I)I"⟩, 13), (⟨"BagCarouselModel", "readyIn", "(LBagCarouselModel$State;I)I"⟩, 13), (⟨"BagCarouselModel", "missing", "(I)I"⟩, 13), (⟨"BagCarouselModel", "ok", "(I)I"⟩, 13), (⟨"BagCarouselModel", "counted", "(I)I"⟩, 13), (⟨"BagCarouselModel", "files", "(I)I"⟩, 13), (⟨"BagCarouselModel", "untilChute", "(I)I"⟩, 13), (⟨"BagCarouselModel", "readyBehind", "(II)I"⟩, 13)]
theorem lw_r2 : ∀ q ∈ lw_privs_2, lw_okq q := List.forall_mem_cons.mpr ⟨lw_p16, List.forall_mem_cons.mpr ⟨lw_p17, List.forall_mem_cons.mpr ⟨lw_p18, List.forall_mem_cons.mpr ⟨lw_p19, List.forall_mem_cons.mpr ⟨lw_p20, List.forall_mem_cons.mpr ⟨lw_p21, List.forall_mem_cons.mpr ⟨lw_p22, List.forall_mem_cons.mpr ⟨lw_p23, List.forall_mem_cons.mpr ⟨lw_p24, List.forall_mem_cons.mpr ⟨lw_p25, List.forall_mem_cons.mpr ⟨lw_p26, List.forall_mem_cons.mpr ⟨lw_p27, List.forall_mem_cons.mpr ⟨lw_p28, List.forall_mem_cons.mpr ⟨lw_p29, List.forall_mem_cons.mpr ⟨lw_p30, List.forall_mem_cons.mpr ⟨lw_p31, fun _ h => absurd h List.not_mem_nil⟩⟩⟩⟩⟩⟩⟩⟩⟩⟩⟩⟩⟩⟩⟩⟩
theorem lw_p32 : lw_okq (⟨"BagCarouselModel", "best", "(II)I"⟩, 13) := ⟨⟨by decide +kernel, by decide +kernel⟩, List.mem_of_getElem? (i := 737) (by decide +kernel), List.mem_of_getElem? (i := 1105) (by decide +kernel), List.mem_of_getElem? (i := 1106) (by decide +kernel)⟩
def lw_privs_3 : List (MethodName × Nat) := [(⟨"BagCarouselModel", "best", "(II)I"⟩, 13)]
theorem lw_r3 : ∀ q ∈ lw_privs_3, lw_okq q := List.forall_mem_cons.mpr ⟨lw_p32, fun _ h => absurd h List.not_mem_nil⟩
def lw_privs : List (MethodName × Nat) := lw_privs_1 ++ (lw_privs_2 ++ (lw_privs_3))
def lw_tbl : List Cond := k2_sels lw_privs ++ tables_1
theorem lw_privs_ok : ∀ q ∈ lw_privs, lw_okq q := by
  show ∀ q ∈ lw_privs_1 ++ (lw_privs_2 ++ (lw_privs_3)), lw_okq q
  exact List.forall_mem_append.mpr ⟨lw_r1, List.forall_mem_append.mpr ⟨lw_r2, lw_r3⟩⟩
/-- the streams that the claim lets the run draw from -/
abbrev lw_cs : List Choice := [Jvm.Choice.named "NaN.bits"]
theorem lw_bits : nanBits ∈ lw_cs := by first | decide | exact List.mem_cons_self | simp [lw_cs, nanBits]
-- ===== end of PART A; then your names; then what follows =====
end
section
/-! ===== BEGIN words of one list among another's, by their places ===== -/
theorem goodIn_r {big : List Cond} (ws : List Cond) (ps : List Nat) (hp : ws = ps.filterMap (fun i => big[i]?)) (h : ws.all goodWord = true) : GoodIn big ws := by
  intro w hw
  have h1 := List.all_eq_true.mp h w hw
  rw [hp] at hw
  obtain ⟨i, -, hi⟩ := List.mem_filterMap.mp hw
  have hm : w ∈ big := by first | exact List.mem_of_getElem? hi | exact List.getElem?_mem hi
  exact ⟨hm, good_of_word h1⟩
theorem goodIn_app {big a b : List Cond} (ha : GoodIn big a) (hb : GoodIn big b) : GoodIn big (a ++ b) := fun w h => (List.mem_append.mp h).elim (ha w) (hb w)
theorem goodIn_ca {big a b : List Cond} {c : Cond} (ha : GoodIn big (c :: a)) (hb : GoodIn big b) : GoodIn big (c :: (a ++ b)) := fun w h => (List.mem_cons.mp h).elim (fun e => ha w (List.mem_cons.mpr (Or.inl e))) (fun h => (List.mem_append.mp h).elim (fun h => ha w (List.mem_cons.mpr (Or.inr h))) (hb w))
theorem goodIn_sub {big ws : List Cond} (hm : ∀ w ∈ ws, w ∈ big) (h : ws.all goodWord = true) : GoodIn big ws := fun w hw => ⟨hm w hw, good_of_word (List.all_eq_true.mp h w hw)⟩
/-! ===== END ===== -/

/-! ===== BEGIN exceptions that leave a method, and their catching by the caller (launches without stack traces) ===== -/
section VXA
/-! The laws vx_back, vx_callV, vx_callS, vx_callSW, vx_throw0, vx_throwS follow proofs of the library, with one case more: JvmDerived/Free/Laws.lean (Back.of_free), Shelf42/LK1.lean (callV, callS), Shelf/KitTraced.lean (throwNew0V, throwNewS). -/
/-- where a method has thrown q: the class by its name, the cell, what was written, the world -/
def vx_T (XC : String → State → State → Prop) (st : State) (q : Addr) (t : State) (mc ms : Nat) (free : Addr → Prop) : Prop :=
  ∃ (E : String) (ce : Cell) (L : List Loc), XC E st t ∧ t.heap[q]? = some ce ∧ ce.vm = .none ∧ st.vm.findClass E = some ce.cls ∧ st.WarmedH t.vm ∧ st.sameButNew ({ t with vm := st.vm } : State) L mc ms ∧ ∀ z ∈ L, free z.base
def vx_Q (Qc : Array Value → State → Outcome → State → Prop) (XC : String → State → State → Prop) (mc ms : Nat) (free : Addr → Prop) : Array Value → State → Outcome → State → Prop := fun a st o t =>
  (Qc a st o t ∧ ∃ L, FrameEnd st o t L mc ms ∧ ∀ q ∈ L, free q.base) ∨ ∃ q, o = .threw q ∧ vx_T XC st q t mc ms free
/-- a callee that returns or throws -/
def vx_Met (l : Launch) (y : MethodName) (ws : List Cond) (rm : Room) (Pc : Array Value → State → Prop) (Qc : Array Value → State → Outcome → State → Prop) (XC : String → State → State → Prop) (mc ms : Nat) (free : Addr → Prop) : Prop :=
  MetFree l y (headSpec ws rm) Pc (fun _ _ _ _ _ => True) (vx_Q Qc XC mc ms free)
def vx_Post (XC : String → State → State → Prop) (mc ms : Nat) (free : Addr → Prop) : Pt → Array Value → Addr → Pt → Prop := fun A a q B =>
  ∃ (g : JFrame) (mk : MethodId) (t : State) (L : List Loc) (E : String) (ce : Cell), B.U.heap = t.heap ∧ B.U.vm = t.vm ∧ XC E (A.U.calling g mk a) t ∧ t.heap[q]? = some ce ∧ ce.vm = .none ∧ A.U.vm.findClass E = some ce.cls ∧ B.locs = A.locs ++ L ∧ (∀ z ∈ L, free z.base) ∧ B.cells = A.cells + mc ∧ B.slots = A.slots + ms
def vx_Back (l : Launch) (R : Room) (p : Program) (e : Env) (below : List Frame) (s : State) (sargs : Array Value) (y : MethodName) (len W9 : Nat)
    (Pre : Pt → Array Value → Prop) (Post : Pt → Array Value → Option Value → Pt → Prop) (PostX : Pt → Array Value → Addr → Pt → Prop) : Prop :=
  ∀ (m : MethodId) (meth : Method) (c : Code) (A : Pt) (g : JFrame) (ig : Instr) (mk : MethodId) (a : Array Value),
    Stand p l e R s m sargs below meth c A.U A.locs A.cells A.slots → g.method = m → g.locals.size = c.maxLocals → decode c.code g.pc = .ok (ig, len) →
    2 * g.monitorRoom + (g.stack.map fun v => v.category).sum ≤ W9 → A.U.methodNamed? y = some mk → Pre A a →
    (∃ (v : Option Value) (B : Pt), Stand p l e R s m sargs below meth c B.U B.locs B.cells B.slots ∧ Post A a v B ∧
      Steps p.tables e below (doInvoke e (A.U.setTop g) [] mk a).1 (B.U.setTop { g with pc := g.pc + len, stack := v.toList ++ g.stack })) ∨
    (∃ (q : Addr) (B : Pt), Stand p l e R s m sargs below meth c B.U B.locs B.cells B.slots ∧ PostX A a q B ∧
      Steps p.tables e below (doInvoke e (A.U.setTop g) [] mk a).1 ((B.U.setTop g).pushFrame (.throwing q)))
section Payer
variable {l : Launch} {R : Room} {p : Program} {e : Env} {below : List Frame} {s : State} {sargs : Array Value} {y : MethodName} {len W9 : Nat}
theorem vx_back {ws : List Cond} {rm : Room} {Pc : Array Value → State → Prop} {Qc : Array Value → State → Outcome → State → Prop} {XC : String → State → State → Prop} {mc ms : Nat} {free : Addr → Prop} {bytes : ByteArray} {maxL : Nat} {ret : Option FieldType}
    (hM : vx_Met l y ws rm Pc Qc XC mc ms free) (hblind : FrameBlind Pc) (hrc : rm.cells = mc) (hrs : rm.slots = ms)
    (hframes : rm.frames + 1 ≤ R.frames) (hlocals : W9 + (maxL + 11) + rm.locals ≤ R.locals)
    (hws : ∀ w ∈ ws, ∀ a' U, s.WarmedH U.vm → w.before a' U = true) (hcode : Cond.code y bytes maxL ret ∈ ws) (hinit : ∀ a' U, s.WarmedH U.vm → (Cond.initialized y.cls).before a' U = true) :
    vx_Back l R p e below s sargs y len W9 (PreOf R mc ms Pc) (PostOf Qc mc ms free) (vx_Post XC mc ms free) := by
  intro m meth c A g ig mk a X hg hsize hdg hW hn hp
  have h1 : (headSpec ws rm).pre.before a A.U = true := atoms_intro fun w hw => hws w hw _ _ X.warmed
  have h2 : (Cond.code y bytes maxL ret).before a A.U = true := hws _ hcode _ _ X.warmed
  have h3 : (Cond.initialized y.cls).before a A.U = true := hinit _ _ X.warmed
  have h4 : A.cells + (headSpec ws rm).room.cells ≤ R.cells := by rw [show (headSpec ws rm).room.cells = mc from hrc]; exact hp.1
  have h5 : A.slots + (headSpec ws rm).room.slots ≤ R.slots := by rw [show (headSpec ws rm).room.slots = ms from hrs]; exact hp.2.1
  have hPc : Pc a (A.U.calling g mk a) := hblind _ _ _ _ hp.2.2
  obtain ⟨U, Ls, c0, s0⟩ := A
  dsimp only [Pt.U, Pt.locs, Pt.cells, Pt.slots] at h1 h2 h3 h4 h5 X hn hPc ⊢
  obtain ⟨methY, cY, hmY, hcY, -, hlY, -, -, -, -⟩ := Cond.code_spec hn h2
  obtain ⟨kY, hkY, -⟩ := className_of_methodNamed hn
  have hinitY : kY.init = .initialized := Cond.initialized_spec (findClass_of_methodNamed hn) hkY h3
  have h : At U g.method c below := by rw [hg]; exact X.here
  have hlocals9 : W9 + (maxL + 11) + (headSpec ws rm).room.locals ≤ R.locals := hlocals
  have happ : (headSpec ws rm).appliesLoose y e.platform (U.calling g mk a) = true :=
    Spec.appliesLoose_calling (g := g) h hdg hn hkY hinitY
      (X.room_calling (g := g) (R' := (headSpec ws rm).room) hsize hmY hcY hframes (by rw [hlY]; omega) h4 h5) h1
  obtain ⟨mid, hmid⟩ := h.above
  have hfr : (U.setTop g).frames = (.java g :: mid) ++ below := by rw [State.frames_setTop' g h.top, hmid]; rfl
  obtain ⟨o, s₂, hsteps, -, hend, hq⟩ := Steps.callFree hM p X.admits X.cas X.clock (acts := []) hfr happ hPc trivial
  have hq' : vx_Q Qc XC mc ms free a (U.calling g mk a) o s₂ := hq
  rw [State.frames_setTop' g h.top] at hend
  obtain ⟨g₀, hg0⟩ := Option.isSome_iff_exists.mp h.top
  obtain ⟨r, hr⟩ := State.topJava?_eq_some.mp hg0
  have hr' : (({ U with heap := s₂.heap, slotsUsed := s₂.slotsUsed } : State).setVm s₂.vm).frames = .java g₀ :: r := hr
  rcases hq' with ⟨hqc, L, hfe, hL⟩ | ⟨q, rfl, E, ce, L, hx, hce, hcv, hcl, hW₂, hsm, hL⟩
  · obtain ⟨⟨v, rfl⟩, hW₂, e2, q2, q3, q4, q5, q6⟩ := id hfe
    have e3 : s₂ = ({ (U.calling g mk a).setFrames s₂.frames with heap := s₂.heap, slotsUsed := s₂.slotsUsed } : State).setVm s₂.vm := by
      have : s₂ = ({ s₂ with vm := (U.calling g mk a).vm } : State).setVm s₂.vm := rfl
      rw [e2] at this
      exact this
    obtain ⟨c₂, i₂, len₂, hc₂, hd₂, hf₂⟩ := hend
    have hW' : U.WarmedH s₂.vm := hW₂
    have hcc : c₂ = c := by
      have h1 : s₂.code? g.method = U.code? g.method := by
        rw [State.code?_eq, State.code?_eq, hW'.alike.method?]
      exact Option.some.inj (hc₂.symm.trans (h1.trans h.code))
    subst hcc
    have hlen : len₂ = len := by rw [hdg] at hd₂; cases hd₂; rfl
    subst hlen
    have hs₂ : s₂ = (({ U with heap := s₂.heap, slotsUsed := s₂.slotsUsed } : State).setVm s₂.vm).setTop { g with pc := g.pc + len₂, stack := v.toList ++ g.stack } := by
      refine e3.trans ?_
      rw [hf₂, State.calling_eq h.top, State.setFrames_setFrames, State.setTop_of_frames _ hr', hr]
      rfl
    have hsame : U.sameButNew ({ U with heap := s₂.heap, slotsUsed := s₂.slotsUsed } : State) L mc ms := by
      refine ⟨?_, q2, q3, q4, q5, q6⟩
      obtain ⟨t, ht, -⟩ := State.frames_cons hr
      show ({ U with heap := s₂.heap, slotsUsed := s₂.slotsUsed } : State) = { U.setFrames U.frames with heap := s₂.heap, slotsUsed := s₂.slotsUsed }
      rw [State.setFrames_self ht]
    subst hg
    refine Or.inl ⟨v, ⟨(({ U with heap := s₂.heap, slotsUsed := s₂.slotsUsed } : State).setVm s₂.vm), Ls ++ L, c0 + mc, s0 + ms⟩,
      ⟨X.admits, X.cas, X.clock, X.frames, X.room, X.hears, X.method, X.code, (X.here.setHeapUsed s₂.heap s₂.slotsUsed).setVm hW'.alike, X.tail, State.WarmedH.trans X.warmed hW', X.limits, X.bytes, X.same.trans (hsame.setVm s.vm)⟩,
      ⟨g, mk, s₂, L, rfl, rfl, hqc, rfl, hL, rfl, rfl⟩, ?_⟩
    show Steps p.tables e below _ ((({ U with heap := s₂.heap, slotsUsed := s₂.slotsUsed } : State).setVm s₂.vm).setTop { g with pc := g.pc + len₂, stack := v.toList ++ g.stack })
    rw [← hs₂]
    exact hsteps
  · obtain ⟨e2, q2, q3, q4, q5, q6⟩ := id hsm
    have e3 : s₂ = ({ (U.calling g mk a).setFrames s₂.frames with heap := s₂.heap, slotsUsed := s₂.slotsUsed } : State).setVm s₂.vm := by
      have : s₂ = ({ s₂ with vm := (U.calling g mk a).vm } : State).setVm s₂.vm := rfl
      rw [e2] at this
      exact this
    have hf₂ : s₂.frames = .throwing q :: .java g :: U.frames.tail := hend
    have hW' : U.WarmedH s₂.vm := hW₂
    have hs₂ : s₂ = ((({ U with heap := s₂.heap, slotsUsed := s₂.slotsUsed } : State).setVm s₂.vm).setTop g).pushFrame (.throwing q) := by
      refine e3.trans ?_
      rw [hf₂, State.calling_eq h.top, State.setFrames_setFrames, State.pushFrame, State.frames_setTop _ hr', State.setTop_of_frames _ hr', State.setFrames_setFrames, hr]
      rfl
    have hsame : U.sameButNew ({ U with heap := s₂.heap, slotsUsed := s₂.slotsUsed } : State) L mc ms := by
      refine ⟨?_, q2, q3, q4, q5, q6⟩
      obtain ⟨t, ht, -⟩ := State.frames_cons hr
      show ({ U with heap := s₂.heap, slotsUsed := s₂.slotsUsed } : State) = { U.setFrames U.frames with heap := s₂.heap, slotsUsed := s₂.slotsUsed }
      rw [State.setFrames_self ht]
    subst hg
    refine Or.inr ⟨q, ⟨(({ U with heap := s₂.heap, slotsUsed := s₂.slotsUsed } : State).setVm s₂.vm), Ls ++ L, c0 + mc, s0 + ms⟩,
      ⟨X.admits, X.cas, X.clock, X.frames, X.room, X.hears, X.method, X.code, (X.here.setHeapUsed s₂.heap s₂.slotsUsed).setVm hW'.alike, X.tail, State.WarmedH.trans X.warmed hW', X.limits, X.bytes, X.same.trans (hsame.setVm s.vm)⟩,
      ⟨g, mk, s₂, L, E, ce, rfl, rfl, hx, hce, hcv, hcl, rfl, hL, rfl, rfl⟩, ?_⟩
    show Steps p.tables e below _ (((({ U with heap := s₂.heap, slotsUsed := s₂.slotsUsed } : State).setVm s₂.vm).setTop g).pushFrame (.throwing q))
    rw [← hs₂]
    exact hsteps
end Payer
section Calls
variable {p : Program} {l : Launch} {e : Env} {R : Room} {s : State} {m : MethodId} {args : Array Value} {below : List Frame} {meth : Method} {c : Code} {T : State} {locs : List Loc} {cells slots : Nat}
theorem vx_callV (X : Stand p l e R s m args below meth c T locs cells slots) (hexec : p.tables.exec = Jvm.exec) {own C : String} {index : Nat} {y : MethodName} {bytes : ByteArray} {maxL : Nat} {ret : Option FieldType}
    (hown : s.vm.findClass own = some m.cls) (hlink : (Cond.methodLink own index y).before args s = true) (hinst : (Cond.instanceMethod y).before args s = true) (hsel : (Cond.selects C y y).before args s = true)
    (hcode : (Cond.code y bytes maxL ret).before args s = true) (hy : y.cls ≠ "java/lang/invoke/MethodHandle" ∧ y.cls ≠ "java/lang/invoke/VarHandle")
    {W9 : Nat} {Pre : Pt → Array Value → Prop} {Post : Pt → Array Value → Option Value → Pt → Prop} {PostX : Pt → Array Value → Addr → Pt → Prop} (hK : vx_Back l R p e below s args y 3 W9 Pre Post PostX)
    {b : Addr} {cellB : Cell} (hcell : T.heap[b]? = some cellB) (hobj : cellB.vm.isStatics = false) (hcls : s.vm.findClass C = some cellB.cls)
    {g : JFrame} (hg : g.method = m) (hsize : g.locals.size = c.maxLocals) {argsL rest : List Value} (hlen : ∀ sig, parseMethodDescriptor y.desc = some sig → argsL.length = sig.parameters.length)
    (hstack : g.stack = argsL.reverse ++ .ref b :: rest) (hW : 2 * g.monitorRoom + (rest.map fun v => v.category).sum ≤ W9) (hdg : decode c.code g.pc = .ok (.invokevirtual index, 3))
    (hpre : ∀ vm₁, s.WarmedH vm₁ → Pre ⟨T.setVm vm₁, locs, cells, slots⟩ (Value.ref b :: argsL).toArray) :
    (∃ (v : Option Value) (vm₁ : Vm) (B : Pt), s.WarmedH vm₁ ∧ Stand p l e R s m args below meth c B.U B.locs B.cells B.slots ∧ Post ⟨T.setVm vm₁, locs, cells, slots⟩ (Value.ref b :: argsL).toArray v B ∧
      ∀ target, Steps p.tables e below (B.U.setTop { g with pc := g.pc + 3, stack := v.toList ++ rest }) target → Steps p.tables e below (T.setTop g) target) ∨
    (∃ (q : Addr) (vm₁ : Vm) (B : Pt), s.WarmedH vm₁ ∧ Stand p l e R s m args below meth c B.U B.locs B.cells B.slots ∧ PostX ⟨T.setVm vm₁, locs, cells, slots⟩ (Value.ref b :: argsL).toArray q B ∧
      Steps p.tables e below (T.setTop g) ((B.U.setTop { g with stack := rest }).pushFrame (.throwing q))) := by
  obtain ⟨mk, methM, hnamed, hmethM, hstM, habM⟩ := Cond.instanceMethod_spec hinst
  obtain ⟨methM', cM, hmethM', -, -, -, -, -, -, hsigM⟩ := Cond.code_spec hnamed hcode
  cases hmethM.symm.trans hmethM'
  obtain ⟨c2, r2, m2, q1, q2, q3, q4, kP, hkP, hkPi⟩ := Cond.selects_spec hsel
  cases hcls.symm.trans q1
  cases (State.methodFound?_of_named hnamed hy).symm.trans q2
  cases hnamed.symm.trans q3
  have hselP : selectMethod e.platform s.vm cellB.cls mk = .method mk := by rw [Launch.admits_selectMethod X.admits]; exact q4
  obtain ⟨vm₁, X₁, hstep₁⟩ := X.invokevirtual hexec hown hlink hnamed hmethM hstM hkP hkPi hy (a := b) (cell := cellB) hcell
    (fun z h => by rw [h] at hobj; cases hobj) hselP hmethM habM hkP hkPi (g := g) hg (argsL := argsL) (rest := rest) (hlen _ hsigM) hstack hdg
  rcases hK m meth c ⟨T.setVm vm₁, locs, cells, slots⟩ { g with stack := rest } (.invokevirtual index) mk (Value.ref b :: argsL).toArray X₁ hg hsize hdg hW (X₁.named hnamed) (hpre vm₁ X₁.warmed) with ⟨v, B, X', hpost, hsteps⟩ | ⟨q, B, X', hpost, hsteps⟩
  · exact Or.inl ⟨v, vm₁, B, X₁.warmed, X', hpost, fun target h => hstep₁ _ fun acts => by rw [doInvoke_state]; exact hsteps.trans h⟩
  · exact Or.inr ⟨q, vm₁, B, X₁.warmed, X', hpost, hstep₁ _ fun acts => by rw [doInvoke_state]; exact hsteps⟩
theorem vx_callS (X : Stand p l e R s m args below meth c T locs cells slots) (hexec : p.tables.exec = Jvm.exec) {own : String} {index : Nat} {y : MethodName} {bytes : ByteArray} {maxL : Nat} {ret : Option FieldType}
    (hown : s.vm.findClass own = some m.cls) (hlink : (Cond.methodLink own index y).before args s = true) (hstat : (Cond.static y).before args s = true) (hinit : (Cond.initialized y.cls).before args s = true)
    (hcode : (Cond.code y bytes maxL ret).before args s = true) (hy : y.cls ≠ "java/lang/invoke/MethodHandle" ∧ y.cls ≠ "java/lang/invoke/VarHandle")
    {W9 : Nat} {Pre : Pt → Array Value → Prop} {Post : Pt → Array Value → Option Value → Pt → Prop} {PostX : Pt → Array Value → Addr → Pt → Prop} (hK : vx_Back l R p e below s args y 3 W9 Pre Post PostX)
    {g : JFrame} (hg : g.method = m) (hsize : g.locals.size = c.maxLocals) {argsL rest : List Value} (hlen : ∀ sig, parseMethodDescriptor y.desc = some sig → argsL.length = sig.parameters.length)
    (hstack : g.stack = argsL.reverse ++ rest) (hW : 2 * g.monitorRoom + (rest.map fun v => v.category).sum ≤ W9) (hdg : decode c.code g.pc = .ok (.invokestatic index, 3))
    (hpre : ∀ vm₁, s.WarmedH vm₁ → Pre ⟨T.setVm vm₁, locs, cells, slots⟩ argsL.toArray) :
    (∃ (v : Option Value) (vm₁ : Vm) (B : Pt), s.WarmedH vm₁ ∧ Stand p l e R s m args below meth c B.U B.locs B.cells B.slots ∧ Post ⟨T.setVm vm₁, locs, cells, slots⟩ argsL.toArray v B ∧
      ∀ target, Steps p.tables e below (B.U.setTop { g with pc := g.pc + 3, stack := v.toList ++ rest }) target → Steps p.tables e below (T.setTop g) target) ∨
    (∃ (q : Addr) (vm₁ : Vm) (B : Pt), s.WarmedH vm₁ ∧ Stand p l e R s m args below meth c B.U B.locs B.cells B.slots ∧ PostX ⟨T.setVm vm₁, locs, cells, slots⟩ argsL.toArray q B ∧
      Steps p.tables e below (T.setTop g) ((B.U.setTop { g with stack := rest }).pushFrame (.throwing q))) := by
  obtain ⟨mk, hnamed⟩ := Cond.code_named hcode
  obtain ⟨methM, cM, hmethM, -, -, -, -, -, -, hsigM⟩ := Cond.code_spec hnamed hcode
  have hstatic : methM.isStatic = true := Cond.static_spec hnamed hmethM hstat
  obtain ⟨kP, hkP, -⟩ := className_of_methodNamed hnamed
  have hinitP : kP.init = .initialized := Cond.initialized_spec (findClass_of_methodNamed hnamed) hkP hinit
  obtain ⟨vm₁, X₁, hstep₁⟩ := X.invokestatic hexec hown hlink hnamed hmethM hstatic hkP hinitP hy (g := g) hg (argsL := argsL) (rest := rest) (hlen _ hsigM) hstack hdg
  rcases hK m meth c ⟨T.setVm vm₁, locs, cells, slots⟩ { g with stack := rest } (.invokestatic index) mk argsL.toArray X₁ hg hsize hdg hW (X₁.named hnamed) (hpre vm₁ X₁.warmed) with ⟨v, B, X', hpost, hsteps⟩ | ⟨q, B, X', hpost, hsteps⟩
  · exact Or.inl ⟨v, vm₁, B, X₁.warmed, X', hpost, fun target h => hstep₁ _ fun acts => by rw [doInvoke_state]; exact hsteps.trans h⟩
  · exact Or.inr ⟨q, vm₁, B, X₁.warmed, X', hpost, hstep₁ _ fun acts => by rw [doInvoke_state]; exact hsteps⟩
end Calls
theorem vx_cls {s : State} {T : State} {vm₁ : Vm} {E : String} {k : ClassId} (hW : s.WarmedH vm₁) (h : (T.setVm vm₁).vm.findClass E = some k) : s.vm.findClass E = some k := by
  have h1 : vm₁.findClass E = some k := h
  rw [hW.alike.findClass] at h1
  exact h1
/-- the method's frame g, with q thrown over it -/
def vx_W (p : Program) (l : Launch) (e : Env) (R : Room) (s : State) (m : MethodId) (args : Array Value) (below : List Frame) (meth : Method) (c : Code) (H : Heap) (locs : List Loc) (cells slots : Nat) (Q : State → Prop) (g : JFrame) (q : Addr) : Prop :=
  ∀ T : State, T.heap = H → Stand p l e R s m args below meth c T locs cells slots → ∃ t, Steps p.tables e below ((T.setTop g).pushFrame (.throwing q)) t ∧ Q t
def vx_Run (p : Program) (l : Launch) (e : Env) (R : Room) (s : State) (m : MethodId) (args : Array Value) (below : List Frame) (meth : Method) (c : Code) (H : Heap) (locs : List Loc) (cells slots mc ms : Nat) (g : JFrame) (rest : List Value) (Qa : State → Outcome → State → Prop) (XC : String → State → State → Prop) (free : Addr → Prop) : Prop :=
  ∀ T : State, T.heap = H → Stand p l e R s m args below meth c T locs cells slots →
    (∃ (v : Option Value) (st₀ t T' : State) (L : List Loc), st₀.heap = H ∧ Stand p l e R s m args below meth c T' (locs ++ L) (cells + mc) (slots + ms) ∧ (∀ q ∈ L, free q.base) ∧ T'.heap = t.heap ∧ T'.vm = t.vm ∧ Qa st₀ (.returned v) t ∧
      Goes p e below T g T' { g with pc := g.pc + 3, stack := v.toList ++ rest }) ∨
    (∃ (q : Addr) (st₀ t T' : State) (L : List Loc) (E : String) (ce : Cell), st₀.heap = H ∧ Stand p l e R s m args below meth c T' (locs ++ L) (cells + mc) (slots + ms) ∧ (∀ z ∈ L, free z.base) ∧ T'.heap = t.heap ∧ T'.vm = t.vm ∧ XC E st₀ t ∧ t.heap[q]? = some ce ∧ ce.vm = .none ∧ s.vm.findClass E = some ce.cls ∧
      Steps p.tables e below (T.setTop g) ((T'.setTop { g with stack := rest }).pushFrame (.throwing q)))
def vx_X {S : Type} (px : S → Prop) (B : String → S → State → Prop) (A : Nat → Prop) : String → State → State → Prop := fun E st t => ∃ u : S, px u ∧ B E u t ∧ va_F A st t
section Runs
variable {p : Program} {l : Launch} {e : Env} {R : Room} {s : State} {m : MethodId} {args : Array Value} {below : List Frame} {meth : Method} {c : Code} {H : Heap} {locs : List Loc} {cells slots : Nat}
variable {y : MethodName} {bytes cc : ByteArray} {maxL nL mc ms n index : Nat} {ret : Option FieldType} {ws : List Cond} {rm : Room} {Pc : Array Value → State → Prop} {Qc : Array Value → State → Outcome → State → Prop} {XC : String → State → State → Prop} {free : Addr → Prop} {Ts : List Cond} {own C : String} {b : Addr} {As rest : List Value} {g : JFrame}
theorem vx_callBack (cb : CallB R s args own index y bytes maxL ret ws rm mc ms n) (hM : vx_Met l y ws rm Pc Qc XC mc ms free) (hbl : FrameBlind Pc) : vx_Back l R p e below s args y 3 8 (PreOf R mc ms Pc) (PostOf Qc mc ms free) (vx_Post XC mc ms free) := by
  obtain ⟨hrc, hrs, hfr, hlo, hws, hcw, -, hini, -⟩ := cb
  exact vx_back (bytes := bytes) (maxL := maxL) (ret := ret) hM hbl hrc hrs hfr hlo hws hcw (fun a' U hW => word_at hW (Or.inl (by first | rfl | simp [Cond.onTables, Cond.keeps, Cond.steady])) hini)
theorem vx_runV (S : CallFix p m c cc nL s args Ts own) (hM : vx_Met l y ws rm Pc Qc XC mc ms free) (cw : CallW R s args own C index y bytes maxL ret ws rm mc ms n) (hp : PreV s H C b Pc As)
    (hg : g.method = m) (hn : As.length = n) (hsize : g.locals.size = nL) (hstack : g.stack = As.reverse ++ .ref b :: rest) (hW : 2 * g.monitorRoom + (rest.map fun v => v.category).sum ≤ 8) (hdg : decode cc g.pc = .ok (.invokevirtual index, 3)) (hf : cells + mc ≤ R.cells ∧ slots + ms ≤ R.slots) :
    vx_Run p l e R s m args below meth c H locs cells slots mc ms g rest (Qc (Value.ref b :: As).toArray) XC free := by
  have hK : vx_Back l R p e below s args y 3 8 (PreOf R mc ms Pc) (PostOf Qc mc ms free) (vx_Post XC mc ms free) := vx_callBack cw.1 hM hp.1
  obtain ⟨⟨-, -, -, -, -, -, hcode, -, hy, hlen, hl⟩, hin, hse⟩ := cw
  obtain ⟨hx, hb, hml, ho, -⟩ := S
  obtain ⟨-, ⟨cellB, hcB, hoB, hclB⟩, hPc⟩ := hp
  intro T hT X
  rcases vx_callV X hx (C := C) (bytes := bytes) (maxL := maxL) (ret := ret) ho hl hin hse hcode hy hK (by rw [hT]; exact hcB) hoB hclB hg (hsize.trans hml.symm) (argsL := As) (rest := rest) (fun sig h => hn.trans (hlen sig h)) hstack hW (by rw [hb]; exact hdg)
    (fun vm₁ hW₁ => ⟨hf.1, hf.2, hPc (T.setVm vm₁) hT hW₁⟩) with ⟨v, vm₁, ⟨U', l2, c2, s2⟩, hW₁, X', ⟨g', mk, t, L, e1, e2, hq, h1, hL, h2, h3⟩, st⟩ | ⟨q, vm₁, ⟨U', l2, c2, s2⟩, hW₁, X', ⟨g', mk, t, L, E, ce, e1, e2, hq, hce, hcv, hcl, h1, hL, h2, h3⟩, st⟩
  · dsimp only [Pt.U, Pt.locs, Pt.cells, Pt.slots] at X' e1 e2 h1 h2 h3 st
    subst h1; subst h2; subst h3
    exact Or.inl ⟨v, (T.setVm vm₁).calling g' mk (Value.ref b :: As).toArray, t, U', L, hT, X', hL, e1, e2, hq, st⟩
  · dsimp only [Pt.U, Pt.locs, Pt.cells, Pt.slots] at X' e1 e2 h1 h2 h3 st hcl
    subst h1; subst h2; subst h3
    exact Or.inr ⟨q, (T.setVm vm₁).calling g' mk (Value.ref b :: As).toArray, t, U', L, E, ce, hT, X', hL, e1, e2, hq, hce, hcv, vx_cls hW₁ hcl, st⟩
theorem vx_runS (S : CallFix p m c cc nL s args Ts own) (hM : vx_Met l y ws rm Pc Qc XC mc ms free) (cw : CallB R s args own index y bytes maxL ret ws rm mc ms n ∧ (Cond.static y).before args s = true) (hp : PreS s H Pc As)
    (hg : g.method = m) (hn : As.length = n) (hsize : g.locals.size = nL) (hstack : g.stack = As.reverse ++ rest) (hW : 2 * g.monitorRoom + (rest.map fun v => v.category).sum ≤ 8) (hdg : decode cc g.pc = .ok (.invokestatic index, 3)) (hf : cells + mc ≤ R.cells ∧ slots + ms ≤ R.slots) :
    vx_Run p l e R s m args below meth c H locs cells slots mc ms g rest (Qc As.toArray) XC free := by
  have hK : vx_Back l R p e below s args y 3 8 (PreOf R mc ms Pc) (PostOf Qc mc ms free) (vx_Post XC mc ms free) := vx_callBack cw.1 hM hp.1
  obtain ⟨⟨-, -, -, -, -, -, hcode, hini, hy, hlen, hl⟩, hstt⟩ := cw
  obtain ⟨hx, hb, hml, ho, -⟩ := S
  intro T hT X
  rcases vx_callS X hx (bytes := bytes) (maxL := maxL) (ret := ret) ho hl hstt hini hcode hy hK hg (hsize.trans hml.symm) (argsL := As) (rest := rest) (fun sig h => hn.trans (hlen sig h)) hstack hW (by rw [hb]; exact hdg)
    (fun vm₁ hW₁ => ⟨hf.1, hf.2, hp.2 (T.setVm vm₁) hT hW₁⟩) with ⟨v, vm₁, ⟨U', l2, c2, s2⟩, hW₁, X', ⟨g', mk, t, L, e1, e2, hq, h1, hL, h2, h3⟩, st⟩ | ⟨q, vm₁, ⟨U', l2, c2, s2⟩, hW₁, X', ⟨g', mk, t, L, E, ce, e1, e2, hq, hce, hcv, hcl, h1, hL, h2, h3⟩, st⟩
  · dsimp only [Pt.U, Pt.locs, Pt.cells, Pt.slots] at X' e1 e2 h1 h2 h3 st
    subst h1; subst h2; subst h3
    exact Or.inl ⟨v, (T.setVm vm₁).calling g' mk As.toArray, t, U', L, hT, X', hL, e1, e2, hq, st⟩
  · dsimp only [Pt.U, Pt.locs, Pt.cells, Pt.slots] at X' e1 e2 h1 h2 h3 st hcl
    subst h1; subst h2; subst h3
    exact Or.inr ⟨q, (T.setVm vm₁).calling g' mk As.toArray, t, U', L, E, ce, hT, X', hL, e1, e2, hq, hce, hcv, vx_cls hW₁ hcl, st⟩
end Runs
section Rows
variable {p : Program} {l : Launch} {e : Env} {R : Room} {s : State} {m : MethodId} {args : Array Value} {below : List Frame} {meth : Method} {c : Code} {H : Heap} {locs : List Loc} {cells slots : Nat} {Q : State → Prop}
variable {mc ms : Nat} {free : Addr → Prop} {A0 A1 : Nat → Prop} {H0 : Heap} {a : Array Value} {pc : Nat} {ls : Array Slot} {st0 rest : List Value}
theorem vx_keep {st₀ t T' : State} {L : List Loc} (h0 : st₀.heap = H) (e1 : T'.heap = t.heap) (hS : va_S A0 H0 H locs) (hA : ∀ q, q < H.size → A1 q → A0 q) (hf : ∀ q, free q → A0 q) (hL : ∀ q ∈ L, free q.base) (hF : va_F A1 st₀ t) :
    H.size ≤ T'.heap.size ∧ (∀ q : Nat, q < H.size → ¬ A1 q → T'.heap[q]? = H[q]?) ∧ va_S A0 H0 T'.heap (locs ++ L) := by
  obtain ⟨hz, hk⟩ := hF
  rw [h0] at hz hk
  exact ⟨by rw [e1]; exact hz, fun q h1 h2 => by rw [e1]; exact hk q h1 h2,
    ⟨Nat.le_trans hS.1 (by rw [e1]; exact hz), fun q h1 h2 => by rw [e1, hk q (Nat.lt_of_lt_of_le h1 hS.1) (fun z => h2 (hA q (Nat.lt_of_lt_of_le h1 hS.1) z))]; exact hS.2.1 q h1 h2, fun q hq => by
      rcases List.mem_append.mp hq with h | h
      · exact hS.2.2 q h
      · exact hf _ (hL q h)⟩⟩
theorem vx_calli {S SX : Type} {post : Int32 → S → Prop} {px : SX → Prop} {B : S → State → Prop} {BX : String → SX → State → Prop} {AX : Nat → Prop} (hr : vx_Run p l e R s m args below meth c H locs cells slots mc ms (F0 m pc ls st0) rest (va_Qi post B A1 a) (vx_X px BX AX) free) (hS : va_S A0 H0 H locs) (hA : ∀ q, q < H.size → A1 q → A0 q) (hf : ∀ q, free q → A0 q) (hAX : ∀ q, q < H.size → AX q → A0 q)
    (kx : ∀ (E : String) (ce : Cell) (q9 : Addr) (u : SX) (t : State) (H1 : Heap) (locs1 : List Loc), t.heap = H1 → s.vm.Alike t.vm → px u → BX E u t → H.size ≤ H1.size → (∀ q : Nat, q < H.size → ¬ AX q → H1[q]? = H[q]?) → va_S A0 H0 H1 locs1 → H1[q9]? = some ce → ce.vm = .none → s.vm.findClass E = some ce.cls → vx_W p l e R s m args below meth c H1 locs1 (cells + mc) (slots + ms) Q (F0 m pc ls rest) q9)
    (kk : ∀ (r : Int32) (u : S) (t : State) (H1 : Heap) (locs1 : List Loc), t.heap = H1 → s.vm.Alike t.vm → post r u → B u t → H.size ≤ H1.size → (∀ q : Nat, q < H.size → ¬ A1 q → H1[q]? = H[q]?) → va_S A0 H0 H1 locs1 → W p l e R s m args below meth c H1 locs1 (cells + mc) (slots + ms) Q (F0 m (pc + 3) ls (.int r :: rest))) : W p l e R s m args below meth c H locs cells slots Q (F0 m pc ls st0) := by
  intro T hT X
  rcases hr T hT X with ⟨v, st₀, t, T', L, h0, X', hL, e1, e2, ⟨⟨r, u, hv, hp, hb⟩, hF⟩, st⟩ | ⟨q, st₀, t, T', L, E, ce, h0, X', hL, e1, e2, ⟨u, hp, hb, hF⟩, hce, hcv, hcl, st⟩
  · cases hv
    obtain ⟨k1, k2, k3⟩ := vx_keep h0 e1 hS hA hf hL hF
    obtain ⟨t2, a1, b1⟩ := kk r u t T'.heap (locs ++ L) e1.symm (by rw [← e2]; exact X'.warmed.alike) hp hb k1 k2 k3 T' rfl X'
    exact ⟨t2, st t2 a1, b1⟩
  · obtain ⟨k1, k2, k3⟩ := vx_keep h0 e1 hS hAX hf hL hF
    obtain ⟨t2, a1, b1⟩ := kx E ce q u t T'.heap (locs ++ L) e1.symm (by rw [← e2]; exact X'.warmed.alike) hp hb k1 k2 k3 (by rw [e1]; exact hce) hcv hcl T' rfl X'
    exact ⟨t2, st.trans a1, b1⟩
theorem vx_calll {S SX : Type} {post : Int64 → S → Prop} {px : SX → Prop} {B : S → State → Prop} {BX : String → SX → State → Prop} {AX : Nat → Prop} (hr : vx_Run p l e R s m args below meth c H locs cells slots mc ms (F0 m pc ls st0) rest (va_Ql post B A1 a) (vx_X px BX AX) free) (hS : va_S A0 H0 H locs) (hA : ∀ q, q < H.size → A1 q → A0 q) (hf : ∀ q, free q → A0 q) (hAX : ∀ q, q < H.size → AX q → A0 q)
    (kx : ∀ (E : String) (ce : Cell) (q9 : Addr) (u : SX) (t : State) (H1 : Heap) (locs1 : List Loc), t.heap = H1 → s.vm.Alike t.vm → px u → BX E u t → H.size ≤ H1.size → (∀ q : Nat, q < H.size → ¬ AX q → H1[q]? = H[q]?) → va_S A0 H0 H1 locs1 → H1[q9]? = some ce → ce.vm = .none → s.vm.findClass E = some ce.cls → vx_W p l e R s m args below meth c H1 locs1 (cells + mc) (slots + ms) Q (F0 m pc ls rest) q9)
    (kk : ∀ (r : Int64) (u : S) (t : State) (H1 : Heap) (locs1 : List Loc), t.heap = H1 → s.vm.Alike t.vm → post r u → B u t → H.size ≤ H1.size → (∀ q : Nat, q < H.size → ¬ A1 q → H1[q]? = H[q]?) → va_S A0 H0 H1 locs1 → W p l e R s m args below meth c H1 locs1 (cells + mc) (slots + ms) Q (F0 m (pc + 3) ls (.long r :: rest))) : W p l e R s m args below meth c H locs cells slots Q (F0 m pc ls st0) := by
  intro T hT X
  rcases hr T hT X with ⟨v, st₀, t, T', L, h0, X', hL, e1, e2, ⟨⟨r, u, hv, hp, hb⟩, hF⟩, st⟩ | ⟨q, st₀, t, T', L, E, ce, h0, X', hL, e1, e2, ⟨u, hp, hb, hF⟩, hce, hcv, hcl, st⟩
  · cases hv
    obtain ⟨k1, k2, k3⟩ := vx_keep h0 e1 hS hA hf hL hF
    obtain ⟨t2, a1, b1⟩ := kk r u t T'.heap (locs ++ L) e1.symm (by rw [← e2]; exact X'.warmed.alike) hp hb k1 k2 k3 T' rfl X'
    exact ⟨t2, st t2 a1, b1⟩
  · obtain ⟨k1, k2, k3⟩ := vx_keep h0 e1 hS hAX hf hL hF
    obtain ⟨t2, a1, b1⟩ := kx E ce q u t T'.heap (locs ++ L) e1.symm (by rw [← e2]; exact X'.warmed.alike) hp hb k1 k2 k3 (by rw [e1]; exact hce) hcv hcl T' rfl X'
    exact ⟨t2, st.trans a1, b1⟩
theorem vx_callf {S SX : Type} {post : UInt32 → S → Prop} {px : SX → Prop} {B : S → State → Prop} {BX : String → SX → State → Prop} {AX : Nat → Prop} (hr : vx_Run p l e R s m args below meth c H locs cells slots mc ms (F0 m pc ls st0) rest (va_Qf post B A1 a) (vx_X px BX AX) free) (hS : va_S A0 H0 H locs) (hA : ∀ q, q < H.size → A1 q → A0 q) (hf : ∀ q, free q → A0 q) (hAX : ∀ q, q < H.size → AX q → A0 q)
    (kx : ∀ (E : String) (ce : Cell) (q9 : Addr) (u : SX) (t : State) (H1 : Heap) (locs1 : List Loc), t.heap = H1 → s.vm.Alike t.vm → px u → BX E u t → H.size ≤ H1.size → (∀ q : Nat, q < H.size → ¬ AX q → H1[q]? = H[q]?) → va_S A0 H0 H1 locs1 → H1[q9]? = some ce → ce.vm = .none → s.vm.findClass E = some ce.cls → vx_W p l e R s m args below meth c H1 locs1 (cells + mc) (slots + ms) Q (F0 m pc ls rest) q9)
    (kk : ∀ (r : UInt32) (u : S) (t : State) (H1 : Heap) (locs1 : List Loc), t.heap = H1 → s.vm.Alike t.vm → post r u → B u t → H.size ≤ H1.size → (∀ q : Nat, q < H.size → ¬ A1 q → H1[q]? = H[q]?) → va_S A0 H0 H1 locs1 → W p l e R s m args below meth c H1 locs1 (cells + mc) (slots + ms) Q (F0 m (pc + 3) ls (.float r :: rest))) : W p l e R s m args below meth c H locs cells slots Q (F0 m pc ls st0) := by
  intro T hT X
  rcases hr T hT X with ⟨v, st₀, t, T', L, h0, X', hL, e1, e2, ⟨⟨r, u, hv, hp, hb⟩, hF⟩, st⟩ | ⟨q, st₀, t, T', L, E, ce, h0, X', hL, e1, e2, ⟨u, hp, hb, hF⟩, hce, hcv, hcl, st⟩
  · cases hv
    obtain ⟨k1, k2, k3⟩ := vx_keep h0 e1 hS hA hf hL hF
    obtain ⟨t2, a1, b1⟩ := kk r u t T'.heap (locs ++ L) e1.symm (by rw [← e2]; exact X'.warmed.alike) hp hb k1 k2 k3 T' rfl X'
    exact ⟨t2, st t2 a1, b1⟩
  · obtain ⟨k1, k2, k3⟩ := vx_keep h0 e1 hS hAX hf hL hF
    obtain ⟨t2, a1, b1⟩ := kx E ce q u t T'.heap (locs ++ L) e1.symm (by rw [← e2]; exact X'.warmed.alike) hp hb k1 k2 k3 (by rw [e1]; exact hce) hcv hcl T' rfl X'
    exact ⟨t2, st.trans a1, b1⟩
theorem vx_calld {S SX : Type} {post : UInt64 → S → Prop} {px : SX → Prop} {B : S → State → Prop} {BX : String → SX → State → Prop} {AX : Nat → Prop} (hr : vx_Run p l e R s m args below meth c H locs cells slots mc ms (F0 m pc ls st0) rest (va_Qd post B A1 a) (vx_X px BX AX) free) (hS : va_S A0 H0 H locs) (hA : ∀ q, q < H.size → A1 q → A0 q) (hf : ∀ q, free q → A0 q) (hAX : ∀ q, q < H.size → AX q → A0 q)
    (kx : ∀ (E : String) (ce : Cell) (q9 : Addr) (u : SX) (t : State) (H1 : Heap) (locs1 : List Loc), t.heap = H1 → s.vm.Alike t.vm → px u → BX E u t → H.size ≤ H1.size → (∀ q : Nat, q < H.size → ¬ AX q → H1[q]? = H[q]?) → va_S A0 H0 H1 locs1 → H1[q9]? = some ce → ce.vm = .none → s.vm.findClass E = some ce.cls → vx_W p l e R s m args below meth c H1 locs1 (cells + mc) (slots + ms) Q (F0 m pc ls rest) q9)
    (kk : ∀ (r : UInt64) (u : S) (t : State) (H1 : Heap) (locs1 : List Loc), t.heap = H1 → s.vm.Alike t.vm → post r u → B u t → H.size ≤ H1.size → (∀ q : Nat, q < H.size → ¬ A1 q → H1[q]? = H[q]?) → va_S A0 H0 H1 locs1 → W p l e R s m args below meth c H1 locs1 (cells + mc) (slots + ms) Q (F0 m (pc + 3) ls (.double r :: rest))) : W p l e R s m args below meth c H locs cells slots Q (F0 m pc ls st0) := by
  intro T hT X
  rcases hr T hT X with ⟨v, st₀, t, T', L, h0, X', hL, e1, e2, ⟨⟨r, u, hv, hp, hb⟩, hF⟩, st⟩ | ⟨q, st₀, t, T', L, E, ce, h0, X', hL, e1, e2, ⟨u, hp, hb, hF⟩, hce, hcv, hcl, st⟩
  · cases hv
    obtain ⟨k1, k2, k3⟩ := vx_keep h0 e1 hS hA hf hL hF
    obtain ⟨t2, a1, b1⟩ := kk r u t T'.heap (locs ++ L) e1.symm (by rw [← e2]; exact X'.warmed.alike) hp hb k1 k2 k3 T' rfl X'
    exact ⟨t2, st t2 a1, b1⟩
  · obtain ⟨k1, k2, k3⟩ := vx_keep h0 e1 hS hAX hf hL hF
    obtain ⟨t2, a1, b1⟩ := kx E ce q u t T'.heap (locs ++ L) e1.symm (by rw [← e2]; exact X'.warmed.alike) hp hb k1 k2 k3 (by rw [e1]; exact hce) hcv hcl T' rfl X'
    exact ⟨t2, st.trans a1, b1⟩
theorem vx_callv {S SX : Type} {post : S → Prop} {px : SX → Prop} {B : S → State → Prop} {BX : String → SX → State → Prop} {AX : Nat → Prop} (hr : vx_Run p l e R s m args below meth c H locs cells slots mc ms (F0 m pc ls st0) rest (va_Qv post B A1 a) (vx_X px BX AX) free) (hS : va_S A0 H0 H locs) (hA : ∀ q, q < H.size → A1 q → A0 q) (hf : ∀ q, free q → A0 q) (hAX : ∀ q, q < H.size → AX q → A0 q)
    (kx : ∀ (E : String) (ce : Cell) (q9 : Addr) (u : SX) (t : State) (H1 : Heap) (locs1 : List Loc), t.heap = H1 → s.vm.Alike t.vm → px u → BX E u t → H.size ≤ H1.size → (∀ q : Nat, q < H.size → ¬ AX q → H1[q]? = H[q]?) → va_S A0 H0 H1 locs1 → H1[q9]? = some ce → ce.vm = .none → s.vm.findClass E = some ce.cls → vx_W p l e R s m args below meth c H1 locs1 (cells + mc) (slots + ms) Q (F0 m pc ls rest) q9)
    (kk : ∀ (u : S) (t : State) (H1 : Heap) (locs1 : List Loc), t.heap = H1 → s.vm.Alike t.vm → post u → B u t → H.size ≤ H1.size → (∀ q : Nat, q < H.size → ¬ A1 q → H1[q]? = H[q]?) → va_S A0 H0 H1 locs1 → W p l e R s m args below meth c H1 locs1 (cells + mc) (slots + ms) Q (F0 m (pc + 3) ls (rest))) : W p l e R s m args below meth c H locs cells slots Q (F0 m pc ls st0) := by
  intro T hT X
  rcases hr T hT X with ⟨v, st₀, t, T', L, h0, X', hL, e1, e2, ⟨⟨u, hv, hp, hb⟩, hF⟩, st⟩ | ⟨q, st₀, t, T', L, E, ce, h0, X', hL, e1, e2, ⟨u, hp, hb, hF⟩, hce, hcv, hcl, st⟩
  · cases hv
    obtain ⟨k1, k2, k3⟩ := vx_keep h0 e1 hS hA hf hL hF
    obtain ⟨t2, a1, b1⟩ := kk u t T'.heap (locs ++ L) e1.symm (by rw [← e2]; exact X'.warmed.alike) hp hb k1 k2 k3 T' rfl X'
    exact ⟨t2, st t2 a1, b1⟩
  · obtain ⟨k1, k2, k3⟩ := vx_keep h0 e1 hS hAX hf hL hF
    obtain ⟨t2, a1, b1⟩ := kx E ce q u t T'.heap (locs ++ L) e1.symm (by rw [← e2]; exact X'.warmed.alike) hp hb k1 k2 k3 (by rw [e1]; exact hce) hcv hcl T' rfl X'
    exact ⟨t2, st.trans a1, b1⟩
/-- caught by the row x of this method's table; the rows ahead don't take it -/
theorem vx_catch {own name : String} {E : String} {ce : Cell} {q : Addr} (hown : s.vm.findClass own = some m.cls) (pre : List ExceptionTableEntry) (x : ExceptionTableEntry) (suf : List ExceptionTableEntry) (hsplit : c.exceptionTable.toList = pre ++ x :: suf)
    (hpass : ∀ z ∈ pre, covers z pc = false ∨ (z.catchType ≠ 0 ∧ ∃ nm : String, (Cond.classLink own z.catchType nm).before args s = true ∧ va_Nc E nm s)) (hx : covers x pc = true) (h0 : x.catchType ≠ 0)
    (hlink : (Cond.classLink own x.catchType name).before args s = true) (hcast : (Cond.castable E name).before args s = true) (hcell : H[q]? = some ce) (hv : ce.vm = .none) (hcl : s.vm.findClass E = some ce.cls)
    (kk : W p l e R s m args below meth c H locs cells slots Q (F0 m x.handlerPc ls [.ref q])) : vx_W p l e R s m args below meth c H locs cells slots Q (F0 m pc ls rest) q := by
  intro T hT X
  have hpl : e.platform.magicAccessors = ({} : Platform).magicAccessors := by rw [X.admits.platform]
  obtain ⟨c3, c4, hc3, hc4, hasg⟩ := Cond.castable_spec hcast
  cases Option.some.inj (hc3.symm.trans hcl)
  obtain ⟨c5, hc5, hcl5⟩ := Cond.classLink_spec hown hlink e.platform hpl
  cases Option.some.inj (hc4.symm.trans hc5)
  obtain ⟨vm', X', st⟩ := X.thenCaughtThrough q (g := F0 m pc ls rest) rfl (Steps.refl _) (by rw [hT]; exact hcell) (by rw [hv]; rfl) (by obtain ⟨k9, h9, -⟩ := Vm.findClass_spec hcl; exact ⟨k9, h9⟩) pre x suf hsplit
    (fun z hz => by
      rcases hpass z hz with h | ⟨hz0, nm, hl1, hn1⟩
      · exact Or.inl h
      · obtain ⟨c6, hc6, hcl6⟩ := Cond.classLink_spec hown hl1 e.platform hpl
        obtain ⟨a8, b8, h1, h2, h3⟩ := hn1
        cases Option.some.inj (h1.symm.trans hcl)
        cases Option.some.inj (h2.symm.trans hc6)
        exact Or.inr ⟨hz0, _, hcl6, h3⟩) hx (Or.inr ⟨h0, c4, hcl5, hasg⟩)
  obtain ⟨t, a1, b1⟩ := kk (T.setVm vm') hT X'
  exact ⟨t, st.trans a1, b1⟩
end Rows
section Ends
variable {p : Program} {l : Launch} {e : Env} {R : Room} {s : State} {m : MethodId} {args : Array Value} {below : List Frame} {meth : Method} {c : Code} {H : Heap} {locs : List Loc} {cells slots : Nat} {Q : State → Prop}
variable {mc ms : Nat} {free : Addr → Prop} {A0 A1 : Nat → Prop} {H0 : Heap} {a : Array Value} {ls : Array Slot} {st0 rest : List Value}
variable {Qc : Array Value → State → Outcome → State → Prop} {XC : String → State → State → Prop}
/-- what a body that may throw owes at its end -/
def vx_MQ (below : List Frame) (Qc : Array Value → State → Outcome → State → Prop) (XC : String → State → State → Prop) (a : Array Value) (s : State) (mc ms : Nat) (free : Addr → Prop) : State → Prop := fun t =>
  ∃ o, t.status = .running ∧ Ended t below o ∧ vx_Q Qc XC mc ms free a s o t
theorem vx_ret {g : JFrame} {mc ms : Nat} (k : W p l e R s m args below meth c H locs cells slots (MQ below Qc args s mc ms free) g) : W p l e R s m args below meth c H locs cells slots (vx_MQ below Qc XC args s mc ms free) g := by
  intro T hT X
  obtain ⟨t, a1, o, b1, b2, b3, b4⟩ := k T hT X
  exact ⟨t, a1, o, b1, b2, Or.inl ⟨b3, b4⟩⟩
/-- not caught here: it goes on to the caller -/
theorem vx_widen {g : JFrame} {q : Addr} {k n : Nat} (h1 : cells ≤ k) (h2 : slots ≤ n) (kk : vx_W p l e R s m args below meth c H locs k n Q g q) : vx_W p l e R s m args below meth c H locs cells slots Q g q := fun T hT X => kk T hT (stand_widen X h1 h2)
theorem vx_out {pc : Nat} {E : String} {ce : Cell} {q : Addr} {mc ms : Nat} (hout : ∀ x ∈ c.exceptionTable.toList, covers x pc = false) (hlocks : meth.locks = false) (hcell : H[q]? = some ce) (hv : ce.vm = .none) (hcl : s.vm.findClass E = some ce.cls)
    (hx : ∀ t : State, t.heap = H → s.vm.Alike t.vm → XC E s t) (hf : ∀ z ∈ locs, free z.base) (hc : cells ≤ mc) (hs : slots ≤ ms) :
    vx_W p l e R s m args below meth c H locs cells slots (vx_MQ below Qc XC args s mc ms free) (F0 m pc ls rest) q := by
  intro T hT X
  obtain ⟨st1, hrun, hend, hW, hsm⟩ := X.leaveThrown q (g := F0 m pc ls rest) rfl rfl rfl hout hlocks
  have hcell9 : (T.setFrames (.throwing q :: below)).heap[q]? = some ce := by
    show T.heap[q]? = some ce
    rw [hT]; exact hcell
  exact ⟨_, st1, .threw q, hrun, hend, Or.inr ⟨q, rfl, E, ce, locs, hx _ hT hW.alike, hcell9, hv, hcl, hW, hsm.mono hc hs, hf⟩⟩
theorem vx_frame {U : State} {k n : Nat} (h : s.sameButNew ({ U with vm := s.vm } : State) locs k n) : s.heap.size ≤ U.heap.size ∧ ∀ q : Nat, q < s.heap.size → (∀ z ∈ locs, z.base ≠ q) → U.heap[q]? = s.heap[q]? := by
  obtain ⟨-, h2, -, -, -, h6⟩ := h
  refine ⟨h2, fun q hq hz => ?_⟩
  obtain ⟨c9, e1, e2, e3, e4⟩ := h6 q _ (Array.getElem?_eq_getElem hq)
  have hs : c9.slots = (s.heap[q]).slots := Array.ext_getElem? fun i => e4 i fun hm => hz _ hm rfl
  have h9 : c9 = s.heap[q] := by
    rw [hs] at e2
    exact e2
  have e5 : U.heap[q]? = some c9 := e1
  rw [e5, h9, Array.getElem?_eq_getElem hq]
/-- the words of a throw but the four that speak of the heap -/
def vx_no (w : Cond) : Bool := decide (w ≠ .isRef (.static Bundle.tN "UNASSIGNED_STACK" Bundle.steD)) && decide (w ≠ .isRef (.static Bundle.tN "SUPPRESSED_SENTINEL" Bundle.listD)) && decide (w ≠ .laysStatic Bundle.tN "UNASSIGNED_STACK" Bundle.steD) && decide (w ≠ .laysStatic Bundle.tN "SUPPRESSED_SENTINEL" Bundle.listD)
def vx_at0 (own : String) (ic : Nat) (X : String) (names : List String) : List Cond := (Bundle.ownAtoms0 own ic X names).filter vx_no
def vx_atS (own : String) (ic : Nat) (X : String) (names : List String) : List Cond := (Bundle.ownAtoms own ic X names).filter vx_no
/-- a word that the tables alone decide, or a good one -/
def vx_ot (w : Cond) : Bool := w.onTables || goodWord w
theorem vx_ot_at {args a' : Array Value} {s U : State} {w : Cond} (hW : s.WarmedH U.vm) (hvm : s.vm = U.vm) (hg : vx_ot w = true) (h : w.before args s = true) : w.before a' U = true := by
  simp only [vx_ot, Bool.or_eq_true] at hg
  rcases hg with hg | hg
  · exact va_tabs hg hvm h
  · exact word_at hW (good_of_word hg) h
/-- a list's words: the good ones out of the method's own list, the others by premises of their own -/
theorem vx_hat {args : Array Value} {s : State} {L B : List Cond} (h1 : ∀ w ∈ L.filter goodWord, w.before args s = true) (h2 : ∀ w ∈ L.filter (fun w => !goodWord w), w ∈ B) (h3 : ∀ w ∈ B, w.before args s = true) : ∀ w ∈ L, w.before args s = true := by
  intro w hw
  by_cases g : goodWord w = true
  · exact h1 w (List.mem_filter.mpr ⟨hw, g⟩)
  · refine h3 w (h2 w (List.mem_filter.mpr ⟨hw, ?_⟩))
    show (!goodWord w) = true
    cases hgw : goodWord w
    · rfl
    · exact absurd hgw g
theorem vx_c {args : Array Value} {s : State} {w : Cond} {B : List Cond} (h : w.before args s = true) (t : ∀ w ∈ B, w.before args s = true) : ∀ w' ∈ w :: B, w'.before args s = true := fun w' h' => (List.mem_cons.mp h').elim (fun e => by rw [e]; exact h) (t w')
theorem vx_n {args : Array Value} {s : State} : ∀ w ∈ ([] : List Cond), w.before args s = true := fun _ h => nomatch h
theorem vx_own {args : Array Value} {s : State} {L : List Cond} (h1 : ∀ w ∈ L.filter vx_no, w.before args s = true)
    (hU : (Cond.isRef (.static Bundle.tN "UNASSIGNED_STACK" Bundle.steD)).before args s = true) (hN : (Cond.isRef (.static Bundle.tN "SUPPRESSED_SENTINEL" Bundle.listD)).before args s = true)
    (lU : (Cond.laysStatic Bundle.tN "UNASSIGNED_STACK" Bundle.steD).before args s = true) (lN : (Cond.laysStatic Bundle.tN "SUPPRESSED_SENTINEL" Bundle.listD).before args s = true) : ∀ w ∈ L, w.before args s = true := by
  intro w hw
  by_cases e1 : w = .isRef (.static Bundle.tN "UNASSIGNED_STACK" Bundle.steD)
  · rw [e1]; exact hU
  · by_cases e2 : w = .isRef (.static Bundle.tN "SUPPRESSED_SENTINEL" Bundle.listD)
    · rw [e2]; exact hN
    · by_cases e3 : w = .laysStatic Bundle.tN "UNASSIGNED_STACK" Bundle.steD
      · rw [e3]; exact lU
      · by_cases e4 : w = .laysStatic Bundle.tN "SUPPRESSED_SENTINEL" Bundle.listD
        · rw [e4]; exact lN
        · exact h1 w (List.mem_filter.mpr ⟨hw, by unfold vx_no; rw [decide_eq_true e1, decide_eq_true e2, decide_eq_true e3, decide_eq_true e4]; rfl⟩)
/-- where a static field lies, its class's statics cell in H -/
def vx_L (C n d : String) (A : Nat → Prop) (U : State) (H : Heap) : Prop := ∃ (c : ClassId) (k : Class) (i : Nat) (f : Field) (a : Nat) (cell : Cell), U.vm.findClass C = some c ∧ U.fieldFound? C n d = some (c, k, i, f) ∧ f.isStatic = true ∧ k.statics = some a ∧ H[a]? = some cell ∧ cell.vm.isStatics = true ∧ cell.cls = c ∧ f.slot < cell.slots.size ∧ k.staticTypes[f.slot]? = some f.type ∧ ¬ A a
theorem vx_L.moved {C n d : String} {A : Nat → Prop} {u U : State} {H : Heap} (hvm : u.vm.Alike U.vm) (h : vx_L C n d A u H) : vx_L C n d A U H := by
  obtain ⟨c, k, i, f, a, cell, h1, h2, h3, h4, h5, h6, h7, h8, h9, h10⟩ := h
  obtain ⟨k', hi', he⟩ := State.fieldFound?_setVm hvm h2
  exact ⟨c, k', i, f, a, cell, by rw [hvm.findClass]; exact h1, hi', h3, by rw [he]; exact h4, h5, h6, h7, h8, by rw [he]; exact h9, h10⟩
theorem vx_L.kept {C n d : String} {A : Nat → Prop} {U : State} {H H1 : Heap} (h : vx_L C n d A U H) (hq : ∀ a : Nat, a < H.size → ¬ A a → H1[a]? = H[a]?) : vx_L C n d A U H1 := by
  obtain ⟨c, k, i, f, a, cell, h1, h2, h3, h4, h5, h6, h7, h8, h9, h10⟩ := h
  exact ⟨c, k, i, f, a, cell, h1, h2, h3, h4, by rw [hq a (Array.getElem?_eq_some_iff.mp h5).1 h10]; exact h5, h6, h7, h8, h9, h10⟩
theorem vx_L.narrow {C n d : String} {A B : Nat → Prop} {U : State} {H : Heap} (h : vx_L C n d A U H) (hAB : ∀ q, B q → A q) : vx_L C n d B U H := by
  obtain ⟨c, k, i, f, a, cell, h1, h2, h3, h4, h5, h6, h7, h8, h9, h10⟩ := h
  exact ⟨c, k, i, f, a, cell, h1, h2, h3, h4, h5, h6, h7, h8, h9, fun z => h10 (hAB _ z)⟩
theorem vx_L.word {C n d : String} {A : Nat → Prop} {s : State} {args : Array Value} (h : vx_L C n d A s s.heap) : (Cond.laysStatic C n d).before args s = true := by
  obtain ⟨c, k, i, f, a, cell, h1, h2, h3, h4, h5, h6, h7, h8, h9, -⟩ := h
  show (Cond.laysStatic C n d).holds args s none s [] = true
  exact Cond.laysStatic_of h1 h2 h3 h4 h5 h6 h7 h8 h9
/-- .. and what it holds: null or some reference -/
def vx_Zq (C n d : String) (A : Nat → Prop) (U : State) (H : Heap) : Prop := va_Zq C n d A U H ∧ vx_L C n d A U H
theorem vx_Zq.moved {C n d : String} {A : Nat → Prop} {u U : State} {H : Heap} (hvm : u.vm.Alike U.vm) (h : vx_Zq C n d A u H) : vx_Zq C n d A U H := ⟨va_Zq.moved hvm h.1, vx_L.moved hvm h.2⟩
theorem vx_Zq.kept {C n d : String} {A : Nat → Prop} {U : State} {H H1 : Heap} (h : vx_Zq C n d A U H) (hq : ∀ a : Nat, a < H.size → ¬ A a → H1[a]? = H[a]?) : vx_Zq C n d A U H1 := ⟨va_Zq.kept h.1 hq, vx_L.kept h.2 hq⟩
theorem vx_Zq.narrow {C n d : String} {A B : Nat → Prop} {U : State} {H : Heap} (h : vx_Zq C n d A U H) (hAB : ∀ q, B q → A q) : vx_Zq C n d B U H := ⟨va_Zq.narrow h.1 hAB, vx_L.narrow h.2 hAB⟩
theorem vx_Zqof {args : Array Value} {s : State} {C n d : String} {A : Nat → Prop} (hl : (Cond.laysStatic C n d).before args s = true) (hini : (Cond.initialized C).before args s = true) (h : (Cond.isRef (.static C n d)).before args s = true) (hA : ∀ a : Nat, a < s.heap.size → ¬ A a) : vx_Zq C n d A s s.heap := by
  refine ⟨va_Zqof hl hini h hA, ?_⟩
  obtain ⟨c, k, i, f, a, cell, h1, h2, h3, h4, h5, h6, h7, h8, h9⟩ := Cond.laysStatic_spec hl
  exact ⟨c, k, i, f, a, cell, h1, h2, h3, h4, h5, h6, h7, h8, h9, hA a (Array.getElem?_eq_some_iff.mp h5).1⟩
theorem vx_isRef {C n d : String} {v : Value} {A : Nat → Prop} {s : State} {args : Array Value} (h : va_Z C n d v A s s.heap) (hv : v.isRef = true) : (Cond.isRef (.static C n d)).before args s = true := by
  obtain ⟨cf, kf, fi, f, a, cell, h1, h2, h3, h4, h5, h6, h7, -⟩ := h
  have he : (Term.static C n d).eval args s none [] s = some v := by
    simp [Term.eval, State.fieldNamed?, h1, h2, h4, h5, h6, h7]
  simp only [Cond.before, Cond.holds, Cond.value, he]
  cases v <;> simp_all [Value.isRef]
theorem vx_isRefq {C n d : String} {A : Nat → Prop} {s : State} {args : Array Value} (h : va_Zq C n d A s s.heap) : (Cond.isRef (.static C n d)).before args s = true := by
  rcases h with h | ⟨t, h⟩
  · exact vx_isRef h rfl
  · exact vx_isRef h rfl
/-- the same frame, seen from here: as if the method were called anew in this heap -/
theorem vx_rebase {T : State} (X : Stand p l e R s m args below meth c T locs cells slots) {R' : Room} (hf : R'.frames ≤ R.frames) (hl : R'.locals ≤ R.locals) (hc : cells + R'.cells ≤ R.cells) (hs : slots + R'.slots ≤ R.slots) :
    Stand p l e R' ((T.setVm s.vm).setFrames (.invoking m args :: below)) m args below meth c T [] 0 0 := by
  have htop : (T.setVm s.vm).topJava?.isSome := X.here.top
  have hF : ((T.setVm s.vm).setFrames (.invoking m args :: below)).frames = .invoking m args :: below := State.frames_setFrames _ (State.cur_lt_of_top htop)
  obtain ⟨g₀, hg0⟩ := Option.isSome_iff_exists.mp htop
  obtain ⟨r, hr⟩ := State.topJava?_eq_some.mp hg0
  have hl9 : e.platform.stackLimits (T.setVm s.vm).me = e.platform.stackLimits s.me := X.limits
  have hb9 : (T.setVm s.vm).me.stackBytes = s.me.stackBytes := X.bytes
  refine ⟨X.admits, X.cas, X.clock, hF, ?_, X.hears, X.method, X.code, X.here, X.tail, X.warmed, ?_, ?_, ?_⟩
  · have h := X.room
    have hU : ((T.setVm s.vm).setFrames (.invoking m args :: below)).localsInUse = s.localsInUse := by
      rw [State.localsInUse_invoking hF (meth := meth) (c := c) X.method X.code, State.localsInUse_invoking X.frames X.method X.code]
    simp only [State.hasRoom, Bool.and_eq_true, decide_eq_true_eq] at h ⊢
    obtain ⟨⟨⟨⟨h1, h2, h3, h4, h5, h6⟩, h7⟩, h8⟩, h9⟩ := h
    rw [X.frames, List.length_cons] at h2 h3
    have q1 := X.heapSize
    have q2 := X.used
    simp only [hF, hU, List.length_cons, State.stackLimits_setFrames, State.stackBytes_setFrames, hl9, hb9]
    refine ⟨⟨⟨⟨by omega, by omega, by omega, by omega, by omega, h6⟩, ?_⟩, ?_⟩, X.book⟩
    · show T.heap.size + R'.cells ≤ e.platform.maxCells
      omega
    · show T.slotsUsed + R'.slots ≤ e.platform.maxSlots
      omega
  · rw [State.stackLimits_setFrames]; rfl
  · rw [State.stackBytes_setFrames]; rfl
  · refine ⟨?_, Nat.le_refl _, Nat.le_refl _, ?_, ?_, fun a c9 h9 => ⟨c9, h9, rfl, rfl, fun _ _ => rfl⟩⟩
    · obtain ⟨t, ht, -⟩ := State.frames_cons hr
      show T.setVm s.vm = { ((T.setVm s.vm).setFrames (.invoking m args :: below)).setFrames (T.setVm s.vm).frames with heap := T.heap, slotsUsed := T.slotsUsed }
      rw [State.setFrames_setFrames, State.setFrames_self ht]
      rfl
    · show T.slotsUsed = T.slotsUsed + ((T.heap.toList.drop T.heap.size).map (·.slots.size)).sum
      rw [List.drop_eq_nil_of_le (Nat.le_of_eq Array.length_toList)]
      rfl
    · show ((T.heap.toList.drop T.heap.size).map (·.slots.size)).sum ≤ 0
      rw [List.drop_eq_nil_of_le (Nat.le_of_eq Array.length_toList)]
      exact Nat.le_refl _
/-- 'throw new E()': new; dup; invokespecial; athrow -/
theorem vx_throw0 {cc : ByteArray} {pc : Nat} (hexec : p.tables.exec = Jvm.exec) (hb : c.code = cc) (hl : l.stackTraces = false) {own cls : String} {names : List String} {ik ic mc ms : Nat} {A : Nat → Prop}
    (hown : s.vm.findClass own = some m.cls) (hcls : Bundle.fit cls = true) (hnames : ∀ n ∈ names, Bundle.fit n = true)
    (hk : (Cond.classLink own ik cls).before args s = true) (hini : (Cond.initialized cls).before args s = true) (hat : ∀ w ∈ vx_at0 own ic cls names, w.before args s = true)
    (hgood : ∀ w ∈ Cond.classLink own ik cls :: Cond.initialized cls :: vx_at0 own ic cls names, vx_ot w = true)
    (hU : vx_Zq Bundle.tN "UNASSIGNED_STACK" Bundle.steD A s s.heap) (hN : vx_Zq Bundle.tN "SUPPRESSED_SENTINEL" Bundle.listD A s s.heap) (hS : va_S A s.heap H locs) (hsize : ls.size = c.maxLocals)
    (d0 : decode cc pc = .ok (.new ik, 3)) (d3 : decode cc (pc + 3) = .ok (.dup, 1)) (d4 : decode cc (pc + 4) = .ok (.invokespecial ic, 3)) (d7 : decode cc (pc + 7) = .ok (.athrow, 1))
    (hout : ∀ x ∈ c.exceptionTable.toList, covers x (pc + 7) = false)
    (hRframes : names.length + 3 < R.frames) (hRlocals : (rest.map fun v => v.category).sum + (13 * (names.length + 1) + 42) ≤ R.locals) (hRcells : cells + 1 ≤ R.cells) (hRslots : slots + 6 ≤ R.slots) (hlocks : meth.locks = false)
    (hx : ∀ t : State, s.vm.Alike t.vm → H.size ≤ t.heap.size → (∀ q : Nat, q < H.size → t.heap[q]? = H[q]?) → XC cls s t)
    (hf : ∀ z ∈ locs, free z.base) (hc : cells + 1 ≤ mc) (hs : slots + 6 ≤ ms) :
    W p l e R s m args below meth c H locs cells slots (vx_MQ below Qc XC args s mc ms free) (F0 m pc ls rest) := by
  intro T hT X
  have htr : e.platform.stackTraces = false := (show e.platform.stackTraces = l.stackTraces by rw [X.admits.platform]).trans hl
  have Y := vx_rebase X (R' := { frames := R.frames, locals := R.locals, cells := 1, slots := 6 }) (Nat.le_refl _) (Nat.le_refl _) hRcells hRslots
  obtain ⟨s', hA⟩ : ∃ z, z = (T.setVm s.vm).setFrames (.invoking m args :: below) := ⟨_, rfl⟩
  rw [← hA] at Y
  have hvm : s'.vm = s.vm := by rw [hA]; rfl
  have hhp : s'.heap = H := by rw [hA]; exact hT
  have hW0 : s.WarmedH s'.vm := by rw [hvm]; exact State.WarmedH.refl s
  have hat' : ∀ w ∈ vx_at0 own ic cls names, w.before args s' = true := fun w hw => vx_ot_at hW0 hvm.symm (hgood w (List.mem_cons_of_mem _ (List.mem_cons_of_mem _ hw))) (hat w hw)
  have hk' : (Cond.classLink own ik cls).before args s' = true := vx_ot_at hW0 hvm.symm (hgood _ List.mem_cons_self) hk
  have hini' : (Cond.initialized cls).before args s' = true := vx_ot_at hW0 hvm.symm (hgood _ (List.mem_cons_of_mem _ List.mem_cons_self)) hini
  have hU' : vx_Zq Bundle.tN "UNASSIGNED_STACK" Bundle.steD A s' s'.heap := by rw [hhp]; exact vx_Zq.moved hW0.alike (hU.kept hS.2.1)
  have hN' : vx_Zq Bundle.tN "SUPPRESSED_SENTINEL" Bundle.listD A s' s'.heap := by rw [hhp]; exact vx_Zq.moved hW0.alike (hN.kept hS.2.1)
  have h : ∀ w ∈ Bundle.ownAtoms0 own ic cls names, w.before args s' = true := vx_own hat' (vx_isRefq hU'.1) (vx_isRefq hN'.1) hU'.2.word hN'.2.word
  have hown' : s'.vm.findClass own = some m.cls := by rw [hvm]; exact hown
  have hins : (Cond.instantiable cls 6).before args s' = true := h _ (by simp [Bundle.ownAtoms0])
  obtain ⟨vm₁, cX, kX, hfX, hkX, -, -, X₁, st1⟩ := Y.newCold hexec (own := own) (C := cls) (index := ik) (n := 6) hown' hk' hins hini'
    (g := F0 m pc ls rest) rfl (by rw [hb]; exact d0) (Nat.le_refl _) (Nat.le_refl _)
  generalize hT1 : (T.setVm vm₁).pushCell { cls := cX, slots := kX.instanceTypes.map defaultValue, vm := .none } = T1 at X₁ st1
  have hcat : (Value.ref T.heap.size).category = 1 := rfl
  have hcellA : T1.heap[T.heap.size]? = some (freshCell cX kX) := by rw [← hT1]; exact State.heap_pushCell_size _ _
  have d3' : decode c.code (pc + 3) = .ok (.dup, 1) := by rw [hb]; exact d3
  obtain ⟨U, hsteps, hrun, hend, hW, hsame, ce, hce, hO⟩ := X₁.ctorThrow0 hexec htr (own := own) (cls := cls) (names := names) (ic := ic) hown' hcls hnames h (fun x hx => nomatch hx) hfX hkX hcellA (by rw [hhp, hT]; exact Nat.le_refl _)
    (g := { method := m, pc := pc + 4, locals := ls, stack := .ref T.heap.size :: .ref T.heap.size :: rest, locked := none }) rfl hsize rfl rfl (rest := rest) rfl
    (by rw [hb]; exact d4) (by rw [hb]; exact d7) hout hRframes (by simp only [List.map_cons, List.sum_cons, hcat]; omega) hlocks
  obtain ⟨f1, f2⟩ := vx_frame hsame
  rw [hhp] at f1 f2
  have hWs : s.WarmedH U.vm := State.WarmedH.trans hW0 hW
  have hcl : s.vm.findClass cls = some ce.cls := by
    have h9 := hO.cls
    rw [hvm] at h9
    exact h9
  have hall : s.sameButNew ({ U with vm := s.vm } : State) locs mc ms := by
    subst hA
    obtain ⟨e1, e2⟩ := hsame
    rw [State.setFrames_setFrames] at e1
    have h2 : (T.setVm s.vm).sameButNew ({ U with vm := s.vm } : State) [] (0 + 1) (0 + 6) := ⟨e1, e2⟩
    have h3 := X.same.trans h2
    rw [List.append_nil] at h3
    exact h3.mono hc hs
  refine ⟨U, ?_, .threw T.heap.size, hrun, hend, Or.inr ⟨T.heap.size, rfl, cls, ce, locs, hx U hWs.alike f1 (fun q hq => f2 q hq (fun z hz => nomatch hz)), hce, hO.vm, hcl, hWs, hall, hf⟩⟩
  refine st1 _ ?_
  show Steps p.tables e below (T1.setTop { method := m, pc := pc + 3, locals := ls, stack := .ref T.heap.size :: rest, locked := none }) _
  jvm_step X₁.here [X₁.here.top, hexec, d3', Value.category]
  exact hsteps
/-- 'throw new E("text")': new; dup; ldc; invokespecial; athrow -/
theorem vx_throwS {cc : ByteArray} {pc : Nat} (hexec : p.tables.exec = Jvm.exec) (hb : c.code = cc) (hl : l.stackTraces = false) {own cls text : String} {names : List String} {ik is ic mc ms sa : Nat} {A : Nat → Prop}
    (hown : s.vm.findClass own = some m.cls) (hcls : Bundle.fit cls = true) (hnames : ∀ n ∈ names, Bundle.fit n = true)
    (hk : (Cond.classLink own ik cls).before args s = true) (hini : (Cond.initialized cls).before args s = true) (hstr : vk_R own is text sa s) (hat : ∀ w ∈ vx_atS own ic cls names, w.before args s = true)
    (hgood : ∀ w ∈ Cond.classLink own ik cls :: Cond.initialized cls :: vx_atS own ic cls names, vx_ot w = true)
    (hU : vx_Zq Bundle.tN "UNASSIGNED_STACK" Bundle.steD A s s.heap) (hN : vx_Zq Bundle.tN "SUPPRESSED_SENTINEL" Bundle.listD A s s.heap) (hS : va_S A s.heap H locs) (hsize : ls.size = c.maxLocals)
    (d0 : decode cc pc = .ok (.new ik, 3)) (d3 : decode cc (pc + 3) = .ok (.dup, 1)) (d4 : decode cc (pc + 4) = .ok (.ldc is, 2)) (d6 : decode cc (pc + 6) = .ok (.invokespecial ic, 3)) (d9 : decode cc (pc + 9) = .ok (.athrow, 1))
    (hout : ∀ x ∈ c.exceptionTable.toList, covers x (pc + 9) = false)
    (hRframes : names.length + 3 < R.frames) (hRlocals : (rest.map fun v => v.category).sum + (13 * (names.length + 1) + 43) ≤ R.locals) (hRcells : cells + 1 ≤ R.cells) (hRslots : slots + 6 ≤ R.slots) (hlocks : meth.locks = false)
    (hx : ∀ t : State, s.vm.Alike t.vm → H.size ≤ t.heap.size → (∀ q : Nat, q < H.size → t.heap[q]? = H[q]?) → XC cls s t)
    (hf : ∀ z ∈ locs, free z.base) (hc : cells + 1 ≤ mc) (hs : slots + 6 ≤ ms) :
    W p l e R s m args below meth c H locs cells slots (vx_MQ below Qc XC args s mc ms free) (F0 m pc ls rest) := by
  intro T hT X
  have htr : e.platform.stackTraces = false := (show e.platform.stackTraces = l.stackTraces by rw [X.admits.platform]).trans hl
  have Y := vx_rebase X (R' := { frames := R.frames, locals := R.locals, cells := 1, slots := 6 }) (Nat.le_refl _) (Nat.le_refl _) hRcells hRslots
  obtain ⟨s', hA⟩ : ∃ z, z = (T.setVm s.vm).setFrames (.invoking m args :: below) := ⟨_, rfl⟩
  rw [← hA] at Y
  have hvm : s'.vm = s.vm := by rw [hA]; rfl
  have hhp : s'.heap = H := by rw [hA]; exact hT
  have hW0 : s.WarmedH s'.vm := by rw [hvm]; exact State.WarmedH.refl s
  have hat' : ∀ w ∈ vx_atS own ic cls names, w.before args s' = true := fun w hw => vx_ot_at hW0 hvm.symm (hgood w (List.mem_cons_of_mem _ (List.mem_cons_of_mem _ hw))) (hat w hw)
  have hk' : (Cond.classLink own ik cls).before args s' = true := vx_ot_at hW0 hvm.symm (hgood _ List.mem_cons_self) hk
  have hini' : (Cond.initialized cls).before args s' = true := vx_ot_at hW0 hvm.symm (hgood _ (List.mem_cons_of_mem _ List.mem_cons_self)) hini
  have hU' : vx_Zq Bundle.tN "UNASSIGNED_STACK" Bundle.steD A s' s'.heap := by rw [hhp]; exact vx_Zq.moved hW0.alike (hU.kept hS.2.1)
  have hN' : vx_Zq Bundle.tN "SUPPRESSED_SENTINEL" Bundle.listD A s' s'.heap := by rw [hhp]; exact vx_Zq.moved hW0.alike (hN.kept hS.2.1)
  have h : ∀ w ∈ Bundle.ownAtoms own ic cls names, w.before args s' = true := vx_own hat' (vx_isRefq hU'.1) (vx_isRefq hN'.1) hU'.2.word hN'.2.word
  have hown' : s'.vm.findClass own = some m.cls := by rw [hvm]; exact hown
  have hins : (Cond.instantiable cls 6).before args s' = true := h _ (by simp [Bundle.ownAtoms])
  obtain ⟨vm₁, cX, kX, hfX, hkX, -, -, X₁, st1⟩ := Y.newCold hexec (own := own) (C := cls) (index := ik) (n := 6) hown' hk' hins hini'
    (g := F0 m pc ls rest) rfl (by rw [hb]; exact d0) (Nat.le_refl _) (Nat.le_refl _)
  generalize hT1 : (T.setVm vm₁).pushCell { cls := cX, slots := kX.instanceTypes.map defaultValue, vm := .none } = T1 at X₁ st1
  have hcat : (Value.ref T.heap.size).category = 1 := rfl
  have hcellA : T1.heap[T.heap.size]? = some (freshCell cX kX) := by rw [← hT1]; exact State.heap_pushCell_size _ _
  have d3' : decode c.code (pc + 3) = .ok (.dup, 1) := by rw [hb]; exact d3
  have d4' : decode c.code (pc + 4) = .ok (.ldc is, 2) := by rw [hb]; exact d4
  have hstr' : vk_R own is text sa s' := vk_R.warm hW0 hstr
  obtain ⟨U, hsteps, hrun, hend, hW, hsame, ce, hce, hO⟩ := X₁.ctorThrowS hexec htr (own := own) (cls := cls) (names := names) (ic := ic) hown' hcls hnames h (fun x hx => nomatch hx) hfX hkX hcellA (by rw [hhp, hT]; exact Nat.le_refl _) (msg := .ref sa) rfl
    (g := { method := m, pc := pc + 6, locals := ls, stack := .ref sa :: .ref T.heap.size :: .ref T.heap.size :: rest, locked := none }) rfl hsize rfl rfl (rest := rest) rfl
    (by rw [hb]; exact d6) (by rw [hb]; exact d9) hout hRframes (by simp only [List.map_cons, List.sum_cons, hcat]; omega) hlocks
  obtain ⟨f1, f2⟩ := vx_frame hsame
  rw [hhp] at f1 f2
  have hWs : s.WarmedH U.vm := State.WarmedH.trans hW0 hW
  have hcl : s.vm.findClass cls = some ce.cls := by
    have h9 := hO.cls
    rw [hvm] at h9
    exact h9
  have hall : s.sameButNew ({ U with vm := s.vm } : State) locs mc ms := by
    subst hA
    obtain ⟨e1, e2⟩ := hsame
    rw [State.setFrames_setFrames] at e1
    have h2 : (T.setVm s.vm).sameButNew ({ U with vm := s.vm } : State) [] (0 + 1) (0 + 6) := ⟨e1, e2⟩
    have h3 := X.same.trans h2
    rw [List.append_nil] at h3
    exact h3.mono hc hs
  refine ⟨U, ?_, .threw T.heap.size, hrun, hend, Or.inr ⟨T.heap.size, rfl, cls, ce, locs, hx U hWs.alike f1 (fun q hq => f2 q hq (fun z hz => nomatch hz)), hce, hO.vm, hcl, hWs, hall, hf⟩⟩
  refine st1 _ ?_
  show Steps p.tables e below (T1.setTop { method := m, pc := pc + 3, locals := ls, stack := .ref T.heap.size :: rest, locked := none }) _
  jvm_step X₁.here [X₁.here.top, hexec, d3', Value.category]
  exact X₁.ldcString hexec (own := own) (text := text) (index := is) (a := sa) hown' hstr'.1 hstr'.2
    (g := { method := m, pc := pc + 4, locals := ls, stack := .ref T.heap.size :: .ref T.heap.size :: rest, locked := none }) rfl d4' _ hsteps
/-- 'throw new E("text")', the text by a wide index -/
theorem vx_throwSW {cc : ByteArray} {pc : Nat} (hexec : p.tables.exec = Jvm.exec) (hb : c.code = cc) (hl : l.stackTraces = false) {own cls text : String} {names : List String} {ik is ic mc ms sa : Nat} {A : Nat → Prop}
    (hown : s.vm.findClass own = some m.cls) (hcls : Bundle.fit cls = true) (hnames : ∀ n ∈ names, Bundle.fit n = true)
    (hk : (Cond.classLink own ik cls).before args s = true) (hini : (Cond.initialized cls).before args s = true) (hstr : vk_R own is text sa s) (hat : ∀ w ∈ vx_atS own ic cls names, w.before args s = true)
    (hgood : ∀ w ∈ Cond.classLink own ik cls :: Cond.initialized cls :: vx_atS own ic cls names, vx_ot w = true)
    (hU : vx_Zq Bundle.tN "UNASSIGNED_STACK" Bundle.steD A s s.heap) (hN : vx_Zq Bundle.tN "SUPPRESSED_SENTINEL" Bundle.listD A s s.heap) (hS : va_S A s.heap H locs) (hsize : ls.size = c.maxLocals)
    (d0 : decode cc pc = .ok (.new ik, 3)) (d3 : decode cc (pc + 3) = .ok (.dup, 1)) (d4 : decode cc (pc + 4) = .ok (.ldc_w is, 3)) (d7 : decode cc (pc + 7) = .ok (.invokespecial ic, 3)) (d10 : decode cc (pc + 10) = .ok (.athrow, 1))
    (hout : ∀ x ∈ c.exceptionTable.toList, covers x (pc + 10) = false)
    (hRframes : names.length + 3 < R.frames) (hRlocals : (rest.map fun v => v.category).sum + (13 * (names.length + 1) + 43) ≤ R.locals) (hRcells : cells + 1 ≤ R.cells) (hRslots : slots + 6 ≤ R.slots) (hlocks : meth.locks = false)
    (hx : ∀ t : State, s.vm.Alike t.vm → H.size ≤ t.heap.size → (∀ q : Nat, q < H.size → t.heap[q]? = H[q]?) → XC cls s t)
    (hf : ∀ z ∈ locs, free z.base) (hc : cells + 1 ≤ mc) (hs : slots + 6 ≤ ms) :
    W p l e R s m args below meth c H locs cells slots (vx_MQ below Qc XC args s mc ms free) (F0 m pc ls rest) := by
  intro T hT X
  have htr : e.platform.stackTraces = false := (show e.platform.stackTraces = l.stackTraces by rw [X.admits.platform]).trans hl
  have Y := vx_rebase X (R' := { frames := R.frames, locals := R.locals, cells := 1, slots := 6 }) (Nat.le_refl _) (Nat.le_refl _) hRcells hRslots
  obtain ⟨s', hA⟩ : ∃ z, z = (T.setVm s.vm).setFrames (.invoking m args :: below) := ⟨_, rfl⟩
  rw [← hA] at Y
  have hvm : s'.vm = s.vm := by rw [hA]; rfl
  have hhp : s'.heap = H := by rw [hA]; exact hT
  have hW0 : s.WarmedH s'.vm := by rw [hvm]; exact State.WarmedH.refl s
  have hat' : ∀ w ∈ vx_atS own ic cls names, w.before args s' = true := fun w hw => vx_ot_at hW0 hvm.symm (hgood w (List.mem_cons_of_mem _ (List.mem_cons_of_mem _ hw))) (hat w hw)
  have hk' : (Cond.classLink own ik cls).before args s' = true := vx_ot_at hW0 hvm.symm (hgood _ List.mem_cons_self) hk
  have hini' : (Cond.initialized cls).before args s' = true := vx_ot_at hW0 hvm.symm (hgood _ (List.mem_cons_of_mem _ List.mem_cons_self)) hini
  have hU' : vx_Zq Bundle.tN "UNASSIGNED_STACK" Bundle.steD A s' s'.heap := by rw [hhp]; exact vx_Zq.moved hW0.alike (hU.kept hS.2.1)
  have hN' : vx_Zq Bundle.tN "SUPPRESSED_SENTINEL" Bundle.listD A s' s'.heap := by rw [hhp]; exact vx_Zq.moved hW0.alike (hN.kept hS.2.1)
  have h : ∀ w ∈ Bundle.ownAtoms own ic cls names, w.before args s' = true := vx_own hat' (vx_isRefq hU'.1) (vx_isRefq hN'.1) hU'.2.word hN'.2.word
  have hown' : s'.vm.findClass own = some m.cls := by rw [hvm]; exact hown
  have hins : (Cond.instantiable cls 6).before args s' = true := h _ (by simp [Bundle.ownAtoms])
  obtain ⟨vm₁, cX, kX, hfX, hkX, -, -, X₁, st1⟩ := Y.newCold hexec (own := own) (C := cls) (index := ik) (n := 6) hown' hk' hins hini'
    (g := F0 m pc ls rest) rfl (by rw [hb]; exact d0) (Nat.le_refl _) (Nat.le_refl _)
  generalize hT1 : (T.setVm vm₁).pushCell { cls := cX, slots := kX.instanceTypes.map defaultValue, vm := .none } = T1 at X₁ st1
  have hcat : (Value.ref T.heap.size).category = 1 := rfl
  have hcellA : T1.heap[T.heap.size]? = some (freshCell cX kX) := by rw [← hT1]; exact State.heap_pushCell_size _ _
  have d3' : decode c.code (pc + 3) = .ok (.dup, 1) := by rw [hb]; exact d3
  have d4' : decode c.code (pc + 4) = .ok (.ldc_w is, 3) := by rw [hb]; exact d4
  have hstr' : vk_R own is text sa s' := vk_R.warm hW0 hstr
  obtain ⟨U, hsteps, hrun, hend, hW, hsame, ce, hce, hO⟩ := X₁.ctorThrowS hexec htr (own := own) (cls := cls) (names := names) (ic := ic) hown' hcls hnames h (fun x hx => nomatch hx) hfX hkX hcellA (by rw [hhp, hT]; exact Nat.le_refl _) (msg := .ref sa) rfl
    (g := { method := m, pc := pc + 7, locals := ls, stack := .ref sa :: .ref T.heap.size :: .ref T.heap.size :: rest, locked := none }) rfl hsize rfl rfl (rest := rest) rfl
    (by rw [hb]; exact d7) (by rw [hb]; exact d10) hout hRframes (by simp only [List.map_cons, List.sum_cons, hcat]; omega) hlocks
  obtain ⟨f1, f2⟩ := vx_frame hsame
  rw [hhp] at f1 f2
  have hWs : s.WarmedH U.vm := State.WarmedH.trans hW0 hW
  have hcl : s.vm.findClass cls = some ce.cls := by
    have h9 := hO.cls
    rw [hvm] at h9
    exact h9
  have hall : s.sameButNew ({ U with vm := s.vm } : State) locs mc ms := by
    subst hA
    obtain ⟨e1, e2⟩ := hsame
    rw [State.setFrames_setFrames] at e1
    have h2 : (T.setVm s.vm).sameButNew ({ U with vm := s.vm } : State) [] (0 + 1) (0 + 6) := ⟨e1, e2⟩
    have h3 := X.same.trans h2
    rw [List.append_nil] at h3
    exact h3.mono hc hs
  refine ⟨U, ?_, .threw T.heap.size, hrun, hend, Or.inr ⟨T.heap.size, rfl, cls, ce, locs, hx U hWs.alike f1 (fun q hq => f2 q hq (fun z hz => nomatch hz)), hce, hO.vm, hcl, hWs, hall, hf⟩⟩
  refine st1 _ ?_
  show Steps p.tables e below (T1.setTop { method := m, pc := pc + 3, locals := ls, stack := .ref T.heap.size :: rest, locked := none }) _
  jvm_step X₁.here [X₁.here.top, hexec, d3', Value.category]
  exact X₁.ldcStringW hexec (own := own) (text := text) (index := is) (a := sa) hown' hstr'.1 hstr'.2
    (g := { method := m, pc := pc + 4, locals := ls, stack := .ref T.heap.size :: .ref T.heap.size :: rest, locked := none }) rfl d4' _ hsteps
end Ends
section Bodies
variable {l : Launch}
theorem vx_ofW {y : MethodName} {ws ws' : List Cond} {rm : Room} {Pc : Array Value → State → Prop} {Qc : Array Value → State → Outcome → State → Prop} {XC : String → State → State → Prop} {mc ms : Nat} {free : Addr → Prop} {cc : ByteArray} {maxL : Nat} {ret : Option FieldType}
    (hy : plainName y.cls = true) (hw : ws = Cond.code y cc maxL ret :: ws')
    (body : ∀ p e s m args below meth c s₁, BodyLoose p l y (headSpec ws rm) cc maxL ret e s m args below meth c s₁ → c.maxLocals = maxL → (∀ x ∈ c.exceptionTable.toList, False) → Pc args s →
      W p l e (headSpec ws rm).room s m args below meth c s.heap [] 0 0 (vx_MQ below Qc XC args s mc ms free) (entryFrame m args maxL)) : vx_Met l y ws rm Pc Qc XC mc ms free := by
  refine MetFree.of_bodyS (code := cc) (maxLocals := maxL) (ret := ret) hy ?_ ?_
  · intro args s m h hn
    obtain ⟨meth, c, h1, h2, h3, h4, h5, h6, -, -⟩ := Cond.code_spec hn (atoms_spec (ws := ws) h _ (by rw [hw]; exact List.mem_cons_self))
    exact ⟨meth, c, h1, h2, h3, h4, h5, h6⟩
  · intro p e s m args below meth c s₁ B hml hP _
    have hh0 : s₁.heap = s.heap := by rw [B.state]; rfl
    have ht : ∀ x ∈ c.exceptionTable.toList, False := by
      obtain ⟨meth9, c9, h1, h2, -, -, -, -, h7, -⟩ := Cond.code_spec B.named (atoms_spec (ws := ws) B.pre _ (by rw [hw]; exact List.mem_cons_self))
      cases Option.some.inj (h1.symm.trans B.method)
      cases Option.some.inj (h2.symm.trans (Stand.of_body B).code)
      intro x hx
      rw [Array.isEmpty_iff.mp h7] at hx
      cases hx
    obtain ⟨t, a1, o, b1, b2, b3⟩ := body p e s m args below meth c s₁ B hml ht hP s₁ hh0 (Stand.of_body B)
    exact ⟨t, o, a1, b1, b2, b3⟩
/-- the table of a body with handlers -/
theorem vx_table {p : Program} {x y : MethodName} {S : Spec} {cc bytes : ByteArray} {maxL maxL' : Nat} {ret ret' : Option FieldType} {e : Env} {s s₁ : State} {m : MethodId} {args : Array Value} {below : List Frame} {meth : Method} {c : Code} {hh : List (Nat × Nat × Nat × Nat)}
    (B : BodyLoose p l y S cc maxL ret e s m args below meth c s₁) (h : (Cond.codeWith y bytes maxL' ret' hh).before args s = true) : c.exceptionTable.toList = tableOf hh := by
  obtain ⟨m9, meth9, c9, hn9, h1, h2, -, -, h6, -⟩ := Cond.codeWith_spec h
  cases Option.some.inj (hn9.symm.trans B.named)
  cases Option.some.inj (h1.symm.trans B.method)
  cases Option.some.inj (h2.symm.trans (Stand.of_body B).code)
  rw [← h6, table_eq]
end Bodies
end VXA
/-! ===== END ===== -/
/-! ===== BEGIN a static call of a method with an exception table ===== -/
section VXS
variable {p : Program} {l : Launch} {e : Env} {R : Room} {s : State} {m : MethodId} {args : Array Value} {below : List Frame} {meth : Method} {c : Code} {T : State} {H : Heap} {locs : List Loc} {cells slots : Nat}
abbrev vx_CSW (R : Room) (s : State) (args : Array Value) (own : String) (index : Nat) (y : MethodName) (bytes : ByteArray) (maxL : Nat) (ret : Option FieldType) (hh : List (Nat × Nat × Nat × Nat)) (ws : List Cond) (rm : Room) (mc ms n : Nat) : Prop :=
  (rm.cells = mc ∧ rm.slots = ms ∧ rm.frames + 1 ≤ R.frames ∧ 8 + (maxL + 11) + rm.locals ≤ R.locals ∧ (∀ w ∈ ws, ∀ (a' : Array Value) (U : State), s.WarmedH U.vm → w.before a' U = true) ∧ Cond.codeWith y bytes maxL ret hh ∈ ws) ∧
  (Cond.codeWith y bytes maxL ret hh).before args s = true ∧ (Cond.initialized y.cls).before args s = true ∧ (y.cls ≠ "java/lang/invoke/MethodHandle" ∧ y.cls ≠ "java/lang/invoke/VarHandle") ∧
  (∀ sig, parseMethodDescriptor y.desc = some sig → n = sig.parameters.length) ∧ (Cond.methodLink own index y).before args s = true ∧ (Cond.static y).before args s = true
theorem vx_cwSW {own : String} {index maxL mc ms : Nat} {y : MethodName} {bytes : ByteArray} {ret : Option FieldType} {hh : List (Nat × Nat × Nat × Nat)} {Ts ws ws' : List Cond} {rm : Room} (n : Nat) (ht : ∀ w ∈ Ts, w.before args s = true) (hT : GoodIn Ts (va_wsS own index y ws)) (hw : ws = Cond.codeWith y bytes maxL ret hh :: ws') (hrc : rm.cells = mc) (hrs : rm.slots = ms)
    (hd : y.cls ≠ "java/lang/invoke/MethodHandle" ∧ y.cls ≠ "java/lang/invoke/VarHandle" ∧ (parseMethodDescriptor y.desc).map (fun d => d.parameters.length) = some n) (hR : rm.frames + 1 ≤ R.frames ∧ 8 + (maxL + 11) + rm.locals ≤ R.locals) :
    vx_CSW R s args own index y bytes maxL ret hh ws rm mc ms n := by
  have ok : ∀ w ∈ va_wsS own index y ws, w.before args s = true := fun w h => ht w (hT w h).1
  have hG : GoodIn Ts ws := fun w h => hT w (by unfold va_wsS; exact List.mem_append_right _ h)
  have hc : Cond.codeWith y bytes maxL ret hh ∈ ws := by rw [hw]; exact List.mem_cons_self
  refine ⟨⟨hrc, hrs, hR.1, hR.2, pay_in ht hG, hc⟩, ht _ (hG _ hc).1, ok _ (by simp [va_wsS]), ⟨hd.1, hd.2.1⟩, fun sig h => ?_, ok _ (by simp [va_wsS]), ok _ (by simp [va_wsS])⟩
  have h2 := hd.2.2
  rw [h] at h2
  exact (Option.some.inj h2).symm
theorem vx_callSW (X : Stand p l e R s m args below meth c T locs cells slots) (hexec : p.tables.exec = Jvm.exec) {own : String} {index : Nat} {y : MethodName} {bytes : ByteArray} {maxL : Nat} {ret : Option FieldType} {hh : List (Nat × Nat × Nat × Nat)}
    (hown : s.vm.findClass own = some m.cls) (hlink : (Cond.methodLink own index y).before args s = true) (hstat : (Cond.static y).before args s = true) (hinit : (Cond.initialized y.cls).before args s = true)
    (hcode : (Cond.codeWith y bytes maxL ret hh).before args s = true) (hy : y.cls ≠ "java/lang/invoke/MethodHandle" ∧ y.cls ≠ "java/lang/invoke/VarHandle")
    {W9 : Nat} {Pre : Pt → Array Value → Prop} {Post : Pt → Array Value → Option Value → Pt → Prop} (hK : Back l R p e below s args y 3 W9 Pre Post)
    {g : JFrame} (hg : g.method = m) (hsize : g.locals.size = c.maxLocals) {argsL rest : List Value} (hlen : ∀ sig, parseMethodDescriptor y.desc = some sig → argsL.length = sig.parameters.length)
    (hstack : g.stack = argsL.reverse ++ rest) (hW : 2 * g.monitorRoom + (rest.map fun v => v.category).sum ≤ W9) (hdg : decode c.code g.pc = .ok (.invokestatic index, 3))
    (hpre : ∀ vm₁, s.WarmedH vm₁ → Pre ⟨T.setVm vm₁, locs, cells, slots⟩ argsL.toArray) :
    ∃ (v : Option Value) (vm₁ : Vm) (B : Pt), s.WarmedH vm₁ ∧ Stand p l e R s m args below meth c B.U B.locs B.cells B.slots ∧ Post ⟨T.setVm vm₁, locs, cells, slots⟩ argsL.toArray v B ∧
      ∀ target, Steps p.tables e below (B.U.setTop { g with pc := g.pc + 3, stack := v.toList ++ rest }) target → Steps p.tables e below (T.setTop g) target := by
  obtain ⟨mk, methM, cM, hnamed, hmethM, -, -, -, -, -, -, hsigM⟩ := Cond.codeWith_spec hcode
  have hstatic : methM.isStatic = true := Cond.static_spec hnamed hmethM hstat
  obtain ⟨kP, hkP, -⟩ := className_of_methodNamed hnamed
  have hinitP : kP.init = .initialized := Cond.initialized_spec (findClass_of_methodNamed hnamed) hkP hinit
  obtain ⟨vm₁, X₁, hstep₁⟩ := X.invokestatic hexec hown hlink hnamed hmethM hstatic hkP hinitP hy (g := g) hg (argsL := argsL) (rest := rest) (hlen _ hsigM) hstack hdg
  obtain ⟨v, B, X', hpost, hsteps⟩ := hK m meth c ⟨T.setVm vm₁, locs, cells, slots⟩ { g with stack := rest } (.invokestatic index) mk argsL.toArray X₁ hg hsize hdg hW (X₁.named hnamed) (hpre vm₁ X₁.warmed)
  exact ⟨v, vm₁, B, X₁.warmed, X', hpost, fun target h => hstep₁ _ fun acts => by rw [doInvoke_state]; exact hsteps.trans h⟩
theorem vx_runSW {y : MethodName} {bytes cc : ByteArray} {maxL nL mc ms n index : Nat} {ret : Option FieldType} {hh : List (Nat × Nat × Nat × Nat)} {ws : List Cond} {rm : Room} {Pc : Array Value → State → Prop} {Qc : Array Value → State → Outcome → State → Prop} {free : Addr → Prop} {Ts : List Cond} {own : String} {As rest : List Value} {g : JFrame}
    (S : CallFix p m c cc nL s args Ts own) (hM : Met l y ws rm Pc Qc mc ms free) (cw : vx_CSW R s args own index y bytes maxL ret hh ws rm mc ms n) (hp : PreS s H Pc As)
    (hg : g.method = m) (hn : As.length = n) (hsize : g.locals.size = nL) (hstack : g.stack = As.reverse ++ rest) (hW : 2 * g.monitorRoom + (rest.map fun v => v.category).sum ≤ 8) (hdg : decode cc g.pc = .ok (.invokestatic index, 3)) (hf : cells + mc ≤ R.cells ∧ slots + ms ≤ R.slots) :
    va_Run p l e R s m args below meth c H locs cells slots mc ms g rest (Qc As.toArray) (free) := by
  obtain ⟨⟨hrc, hrs, hfr, hlo, hws, hcw⟩, hcode, hini, hy, hlen, hl, hstt⟩ := cw
  have hK : Back l R p e below s args y 3 8 (PreOf R mc ms Pc) (PostOf Qc mc ms free) := va_backW (hh := hh) (bytes := bytes) (maxL := maxL) (ret := ret) hM hp.1 hrc hrs hfr hlo hws hcw (fun a' U hW => word_at hW (Or.inl (by first | rfl | simp [Cond.onTables, Cond.keeps, Cond.steady])) hini)
  obtain ⟨hx, hb, hml, ho, -⟩ := S
  intro T hT X
  obtain ⟨v, vm₁, ⟨U', l2, c2, s2⟩, hW₁, X', ⟨g', mk, t, L, e1, e2, hq, h1, hL, h2, h3⟩, st⟩ := vx_callSW X hx (hh := hh) (bytes := bytes) (maxL := maxL) (ret := ret) ho hl hstt hini hcode hy hK hg (hsize.trans hml.symm) (argsL := As) (rest := rest) (fun sig h => hn.trans (hlen sig h)) hstack hW (by rw [hb]; exact hdg)
    (fun vm₁ hW₁ => ⟨hf.1, hf.2, hp.2 (T.setVm vm₁) hT hW₁⟩)
  dsimp only [Pt.U, Pt.locs, Pt.cells, Pt.slots] at X' e1 e2 h1 h2 h3 st
  subst h1; subst h2; subst h3
  exact ⟨v, (T.setVm vm₁).calling g' mk As.toArray, t, U', L, hT, X', hL, e1, e2, hq, st⟩
/-- not caught here, past rows that name other classes: it goes on to the caller -/
theorem vx_outP {p : Program} {l : Launch} {e : Env} {R : Room} {s : State} {m : MethodId} {args : Array Value} {below : List Frame} {meth : Method} {c : Code} {H : Heap} {locs : List Loc} {cells slots : Nat} {free : Addr → Prop} {ls : Array Slot} {rest : List Value} {Qc : Array Value → State → Outcome → State → Prop} {XC : String → State → State → Prop}
    {pc : Nat} {own E : String} {ce : Cell} {q : Addr} {mc ms : Nat} (hown : s.vm.findClass own = some m.cls) (hlocks : meth.locks = false)
    (hpass : ∀ z ∈ c.exceptionTable.toList, covers z pc = false ∨ (z.catchType ≠ 0 ∧ ∃ nm : String, (Cond.classLink own z.catchType nm).before args s = true ∧ va_Nc E nm s)) (hcell : H[q]? = some ce) (hv : ce.vm = .none) (hcl : s.vm.findClass E = some ce.cls)
    (hx : ∀ t : State, t.heap = H → s.vm.Alike t.vm → XC E s t) (hf : ∀ z ∈ locs, free z.base) (hc : cells ≤ mc) (hs : slots ≤ ms) :
    vx_W p l e R s m args below meth c H locs cells slots (vx_MQ below Qc XC args s mc ms free) (F0 m pc ls rest) q := by
  intro T hT X
  have hpl : e.platform.magicAccessors = ({} : Platform).magicAccessors := by rw [X.admits.platform]
  obtain ⟨vm', hW', X', st⟩ := X.outThrough hlocks q (g := F0 m pc ls rest) rfl rfl rfl (cell := ce) (by rw [hT]; exact hcell) (by rw [hv]; rfl)
    (by obtain ⟨k9, h9, -⟩ := Vm.findClass_spec hcl; exact ⟨k9, h9⟩) (fun z hz => by
      rcases hpass z hz with h | ⟨hz0, nm, hl1, hn1⟩
      · exact Or.inl h
      · obtain ⟨c6, hc6, hcl6⟩ := Cond.classLink_spec hown hl1 e.platform hpl
        obtain ⟨a8, b8, h1, h2, h3⟩ := hn1
        cases Option.some.inj (h1.symm.trans hcl)
        cases Option.some.inj (h2.symm.trans hc6)
        exact Or.inr ⟨hz0, _, hcl6, h3⟩)
  obtain ⟨g₀, hfr⟩ := X'.frames_eq
  have hcell9 : ((T.setVm vm').setFrames (.throwing q :: below)).heap[q]? = some ce := by
    show T.heap[q]? = some ce
    rw [hT]; exact hcell
  have hend : Ended ((T.setVm vm').setFrames (.throwing q :: below)) below (.threw q) := State.frames_setFrames _ (State.cur_lt_of_frames hfr)
  refine ⟨(T.setVm vm').setFrames (.throwing q :: below), ?_, .threw q, X'.here.running, hend, Or.inr ⟨q, rfl, E, ce, locs, hx _ hT (X'.ends _).1.alike, hcell9, hv, hcl, (X'.ends _).1, (X'.ends _).2.mono hc hs, hf⟩⟩
  rw [X.pushThrowing_eq]
  exact st
/-- a thing of a world lies in the heap -/
theorem vx_lt {D : va_G} {cl : List vw_C} {ws : va_W} {H1 : Heap} (h : va_P D cl ws H1) {k : Nat} {q : Nat × va_E} (hk : ws[k]? = some q) : q.1 < H1.size := (h k q hk).lt
end VXS
/-! ===== END ===== -/
/-! ===== BEGIN methods with a table of their own: called by a name, returning or throwing ===== -/
section VXH
/-! vx_backW, vx_callVX, vx_callSX, vx_callVW, vx_runVW, vx_runVX, vx_runSX, vx_ofWH follow the same proofs as their sisters above (Free/Laws.lean, Shelf42/LK1.lean); vx_outP calls Shelf42/NT130.lean (outThrough). -/
section
variable {l : Launch} {R : Room} {p : Program} {e : Env} {below : List Frame} {s : State} {sargs : Array Value} {y : MethodName} {len W9 : Nat}
theorem vx_backW {ws : List Cond} {rm : Room} {Pc : Array Value → State → Prop} {Qc : Array Value → State → Outcome → State → Prop} {XC : String → State → State → Prop} {mc ms : Nat} {free : Addr → Prop} {bytes : ByteArray} {maxL : Nat} {ret : Option FieldType} {hh : List (Nat × Nat × Nat × Nat)}
    (hM : vx_Met l y ws rm Pc Qc XC mc ms free) (hblind : FrameBlind Pc) (hrc : rm.cells = mc) (hrs : rm.slots = ms)
    (hframes : rm.frames + 1 ≤ R.frames) (hlocals : W9 + (maxL + 11) + rm.locals ≤ R.locals)
    (hws : ∀ w ∈ ws, ∀ a' U, s.WarmedH U.vm → w.before a' U = true) (hcode : Cond.codeWith y bytes maxL ret hh ∈ ws) (hinit : ∀ a' U, s.WarmedH U.vm → (Cond.initialized y.cls).before a' U = true) :
    vx_Back l R p e below s sargs y len W9 (PreOf R mc ms Pc) (PostOf Qc mc ms free) (vx_Post XC mc ms free) := by
  intro m meth c A g ig mk a X hg hsize hdg hW hn hp
  have h1 : (headSpec ws rm).pre.before a A.U = true := atoms_intro fun w hw => hws w hw _ _ X.warmed
  have h2 : (Cond.codeWith y bytes maxL ret hh).before a A.U = true := hws _ hcode _ _ X.warmed
  have h3 : (Cond.initialized y.cls).before a A.U = true := hinit _ _ X.warmed
  have h4 : A.cells + (headSpec ws rm).room.cells ≤ R.cells := by rw [show (headSpec ws rm).room.cells = mc from hrc]; exact hp.1
  have h5 : A.slots + (headSpec ws rm).room.slots ≤ R.slots := by rw [show (headSpec ws rm).room.slots = ms from hrs]; exact hp.2.1
  have hPc : Pc a (A.U.calling g mk a) := hblind _ _ _ _ hp.2.2
  obtain ⟨U, Ls, c0, s0⟩ := A
  dsimp only [Pt.U, Pt.locs, Pt.cells, Pt.slots] at h1 h2 h3 h4 h5 X hn hPc ⊢
  obtain ⟨m9, methY, cY, hn9, hmY, hcY, -, hlY, -⟩ := Cond.codeWith_spec h2
  cases Option.some.inj (hn9.symm.trans hn)
  obtain ⟨kY, hkY, -⟩ := className_of_methodNamed hn
  have hinitY : kY.init = .initialized := Cond.initialized_spec (findClass_of_methodNamed hn) hkY h3
  have h : At U g.method c below := by rw [hg]; exact X.here
  have hlocals9 : W9 + (maxL + 11) + (headSpec ws rm).room.locals ≤ R.locals := hlocals
  have happ : (headSpec ws rm).appliesLoose y e.platform (U.calling g mk a) = true :=
    Spec.appliesLoose_calling (g := g) h hdg hn hkY hinitY
      (X.room_calling (g := g) (R' := (headSpec ws rm).room) hsize hmY hcY hframes (by rw [hlY]; omega) h4 h5) h1
  obtain ⟨mid, hmid⟩ := h.above
  have hfr : (U.setTop g).frames = (.java g :: mid) ++ below := by rw [State.frames_setTop' g h.top, hmid]; rfl
  obtain ⟨o, s₂, hsteps, -, hend, hq⟩ := Steps.callFree hM p X.admits X.cas X.clock (acts := []) hfr happ hPc trivial
  have hq' : vx_Q Qc XC mc ms free a (U.calling g mk a) o s₂ := hq
  rw [State.frames_setTop' g h.top] at hend
  obtain ⟨g₀, hg0⟩ := Option.isSome_iff_exists.mp h.top
  obtain ⟨r, hr⟩ := State.topJava?_eq_some.mp hg0
  have hr' : (({ U with heap := s₂.heap, slotsUsed := s₂.slotsUsed } : State).setVm s₂.vm).frames = .java g₀ :: r := hr
  rcases hq' with ⟨hqc, L, hfe, hL⟩ | ⟨q, rfl, E, ce, L, hx, hce, hcv, hcl, hW₂, hsm, hL⟩
  · obtain ⟨⟨v, rfl⟩, hW₂, e2, q2, q3, q4, q5, q6⟩ := id hfe
    have e3 : s₂ = ({ (U.calling g mk a).setFrames s₂.frames with heap := s₂.heap, slotsUsed := s₂.slotsUsed } : State).setVm s₂.vm := by
      have : s₂ = ({ s₂ with vm := (U.calling g mk a).vm } : State).setVm s₂.vm := rfl
      rw [e2] at this
      exact this
    obtain ⟨c₂, i₂, len₂, hc₂, hd₂, hf₂⟩ := hend
    have hW' : U.WarmedH s₂.vm := hW₂
    have hcc : c₂ = c := by
      have h1 : s₂.code? g.method = U.code? g.method := by
        rw [State.code?_eq, State.code?_eq, hW'.alike.method?]
      exact Option.some.inj (hc₂.symm.trans (h1.trans h.code))
    subst hcc
    have hlen : len₂ = len := by rw [hdg] at hd₂; cases hd₂; rfl
    subst hlen
    have hs₂ : s₂ = (({ U with heap := s₂.heap, slotsUsed := s₂.slotsUsed } : State).setVm s₂.vm).setTop { g with pc := g.pc + len₂, stack := v.toList ++ g.stack } := by
      refine e3.trans ?_
      rw [hf₂, State.calling_eq h.top, State.setFrames_setFrames, State.setTop_of_frames _ hr', hr]
      rfl
    have hsame : U.sameButNew ({ U with heap := s₂.heap, slotsUsed := s₂.slotsUsed } : State) L mc ms := by
      refine ⟨?_, q2, q3, q4, q5, q6⟩
      obtain ⟨t, ht, -⟩ := State.frames_cons hr
      show ({ U with heap := s₂.heap, slotsUsed := s₂.slotsUsed } : State) = { U.setFrames U.frames with heap := s₂.heap, slotsUsed := s₂.slotsUsed }
      rw [State.setFrames_self ht]
    subst hg
    refine Or.inl ⟨v, ⟨(({ U with heap := s₂.heap, slotsUsed := s₂.slotsUsed } : State).setVm s₂.vm), Ls ++ L, c0 + mc, s0 + ms⟩,
      ⟨X.admits, X.cas, X.clock, X.frames, X.room, X.hears, X.method, X.code, (X.here.setHeapUsed s₂.heap s₂.slotsUsed).setVm hW'.alike, X.tail, State.WarmedH.trans X.warmed hW', X.limits, X.bytes, X.same.trans (hsame.setVm s.vm)⟩,
      ⟨g, mk, s₂, L, rfl, rfl, hqc, rfl, hL, rfl, rfl⟩, ?_⟩
    show Steps p.tables e below _ ((({ U with heap := s₂.heap, slotsUsed := s₂.slotsUsed } : State).setVm s₂.vm).setTop { g with pc := g.pc + len₂, stack := v.toList ++ g.stack })
    rw [← hs₂]
    exact hsteps
  · obtain ⟨e2, q2, q3, q4, q5, q6⟩ := id hsm
    have e3 : s₂ = ({ (U.calling g mk a).setFrames s₂.frames with heap := s₂.heap, slotsUsed := s₂.slotsUsed } : State).setVm s₂.vm := by
      have : s₂ = ({ s₂ with vm := (U.calling g mk a).vm } : State).setVm s₂.vm := rfl
      rw [e2] at this
      exact this
    have hf₂ : s₂.frames = .throwing q :: .java g :: U.frames.tail := hend
    have hW' : U.WarmedH s₂.vm := hW₂
    have hs₂ : s₂ = ((({ U with heap := s₂.heap, slotsUsed := s₂.slotsUsed } : State).setVm s₂.vm).setTop g).pushFrame (.throwing q) := by
      refine e3.trans ?_
      rw [hf₂, State.calling_eq h.top, State.setFrames_setFrames, State.pushFrame, State.frames_setTop _ hr', State.setTop_of_frames _ hr', State.setFrames_setFrames, hr]
      rfl
    have hsame : U.sameButNew ({ U with heap := s₂.heap, slotsUsed := s₂.slotsUsed } : State) L mc ms := by
      refine ⟨?_, q2, q3, q4, q5, q6⟩
      obtain ⟨t, ht, -⟩ := State.frames_cons hr
      show ({ U with heap := s₂.heap, slotsUsed := s₂.slotsUsed } : State) = { U.setFrames U.frames with heap := s₂.heap, slotsUsed := s₂.slotsUsed }
      rw [State.setFrames_self ht]
    subst hg
    refine Or.inr ⟨q, ⟨(({ U with heap := s₂.heap, slotsUsed := s₂.slotsUsed } : State).setVm s₂.vm), Ls ++ L, c0 + mc, s0 + ms⟩,
      ⟨X.admits, X.cas, X.clock, X.frames, X.room, X.hears, X.method, X.code, (X.here.setHeapUsed s₂.heap s₂.slotsUsed).setVm hW'.alike, X.tail, State.WarmedH.trans X.warmed hW', X.limits, X.bytes, X.same.trans (hsame.setVm s.vm)⟩,
      ⟨g, mk, s₂, L, E, ce, rfl, rfl, hx, hce, hcv, hcl, rfl, hL, rfl, rfl⟩, ?_⟩
    show Steps p.tables e below _ (((({ U with heap := s₂.heap, slotsUsed := s₂.slotsUsed } : State).setVm s₂.vm).setTop g).pushFrame (.throwing q))
    rw [← hs₂]
    exact hsteps
end
variable {p : Program} {l : Launch} {e : Env} {R : Room} {s : State} {m : MethodId} {args : Array Value} {below : List Frame} {meth : Method} {c : Code} {T : State} {H : Heap} {locs : List Loc} {cells slots : Nat}
theorem vx_callVX (X : Stand p l e R s m args below meth c T locs cells slots) (hexec : p.tables.exec = Jvm.exec) {own C : String} {index : Nat} {y : MethodName} {bytes : ByteArray} {maxL : Nat} {ret : Option FieldType} {hh : List (Nat × Nat × Nat × Nat)}
    (hown : s.vm.findClass own = some m.cls) (hlink : (Cond.methodLink own index y).before args s = true) (hinst : (Cond.instanceMethod y).before args s = true) (hsel : (Cond.selects C y y).before args s = true)
    (hcode : (Cond.codeWith y bytes maxL ret hh).before args s = true) (hy : y.cls ≠ "java/lang/invoke/MethodHandle" ∧ y.cls ≠ "java/lang/invoke/VarHandle")
    {W9 : Nat} {Pre : Pt → Array Value → Prop} {Post : Pt → Array Value → Option Value → Pt → Prop} {PostX : Pt → Array Value → Addr → Pt → Prop} (hK : vx_Back l R p e below s args y 3 W9 Pre Post PostX)
    {b : Addr} {cellB : Cell} (hcell : T.heap[b]? = some cellB) (hobj : cellB.vm.isStatics = false) (hcls : s.vm.findClass C = some cellB.cls)
    {g : JFrame} (hg : g.method = m) (hsize : g.locals.size = c.maxLocals) {argsL rest : List Value} (hlen : ∀ sig, parseMethodDescriptor y.desc = some sig → argsL.length = sig.parameters.length)
    (hstack : g.stack = argsL.reverse ++ .ref b :: rest) (hW : 2 * g.monitorRoom + (rest.map fun v => v.category).sum ≤ W9) (hdg : decode c.code g.pc = .ok (.invokevirtual index, 3))
    (hpre : ∀ vm₁, s.WarmedH vm₁ → Pre ⟨T.setVm vm₁, locs, cells, slots⟩ (Value.ref b :: argsL).toArray) :
    (∃ (v : Option Value) (vm₁ : Vm) (B : Pt), s.WarmedH vm₁ ∧ Stand p l e R s m args below meth c B.U B.locs B.cells B.slots ∧ Post ⟨T.setVm vm₁, locs, cells, slots⟩ (Value.ref b :: argsL).toArray v B ∧
      ∀ target, Steps p.tables e below (B.U.setTop { g with pc := g.pc + 3, stack := v.toList ++ rest }) target → Steps p.tables e below (T.setTop g) target) ∨
    (∃ (q : Addr) (vm₁ : Vm) (B : Pt), s.WarmedH vm₁ ∧ Stand p l e R s m args below meth c B.U B.locs B.cells B.slots ∧ PostX ⟨T.setVm vm₁, locs, cells, slots⟩ (Value.ref b :: argsL).toArray q B ∧
      Steps p.tables e below (T.setTop g) ((B.U.setTop { g with stack := rest }).pushFrame (.throwing q))) := by
  obtain ⟨mk, methM, hnamed, hmethM, hstM, habM⟩ := Cond.instanceMethod_spec hinst
  obtain ⟨m8, methM', cM, hn8, hmethM', -, -, -, -, -, -, hsigM⟩ := Cond.codeWith_spec hcode
  cases Option.some.inj (hn8.symm.trans hnamed)
  cases hmethM.symm.trans hmethM'
  obtain ⟨c2, r2, m2, q1, q2, q3, q4, kP, hkP, hkPi⟩ := Cond.selects_spec hsel
  cases hcls.symm.trans q1
  cases (State.methodFound?_of_named hnamed hy).symm.trans q2
  cases hnamed.symm.trans q3
  have hselP : selectMethod e.platform s.vm cellB.cls mk = .method mk := by rw [Launch.admits_selectMethod X.admits]; exact q4
  obtain ⟨vm₁, X₁, hstep₁⟩ := X.invokevirtual hexec hown hlink hnamed hmethM hstM hkP hkPi hy (a := b) (cell := cellB) hcell
    (fun z h => by rw [h] at hobj; cases hobj) hselP hmethM habM hkP hkPi (g := g) hg (argsL := argsL) (rest := rest) (hlen _ hsigM) hstack hdg
  rcases hK m meth c ⟨T.setVm vm₁, locs, cells, slots⟩ { g with stack := rest } (.invokevirtual index) mk (Value.ref b :: argsL).toArray X₁ hg hsize hdg hW (X₁.named hnamed) (hpre vm₁ X₁.warmed) with ⟨v, B, X', hpost, hsteps⟩ | ⟨q, B, X', hpost, hsteps⟩
  · exact Or.inl ⟨v, vm₁, B, X₁.warmed, X', hpost, fun target h => hstep₁ _ fun acts => by rw [doInvoke_state]; exact hsteps.trans h⟩
  · exact Or.inr ⟨q, vm₁, B, X₁.warmed, X', hpost, hstep₁ _ fun acts => by rw [doInvoke_state]; exact hsteps⟩
theorem vx_callSX (X : Stand p l e R s m args below meth c T locs cells slots) (hexec : p.tables.exec = Jvm.exec) {own : String} {index : Nat} {y : MethodName} {bytes : ByteArray} {maxL : Nat} {ret : Option FieldType} {hh : List (Nat × Nat × Nat × Nat)}
    (hown : s.vm.findClass own = some m.cls) (hlink : (Cond.methodLink own index y).before args s = true) (hstat : (Cond.static y).before args s = true) (hinit : (Cond.initialized y.cls).before args s = true)
    (hcode : (Cond.codeWith y bytes maxL ret hh).before args s = true) (hy : y.cls ≠ "java/lang/invoke/MethodHandle" ∧ y.cls ≠ "java/lang/invoke/VarHandle")
    {W9 : Nat} {Pre : Pt → Array Value → Prop} {Post : Pt → Array Value → Option Value → Pt → Prop} {PostX : Pt → Array Value → Addr → Pt → Prop} (hK : vx_Back l R p e below s args y 3 W9 Pre Post PostX)
    {g : JFrame} (hg : g.method = m) (hsize : g.locals.size = c.maxLocals) {argsL rest : List Value} (hlen : ∀ sig, parseMethodDescriptor y.desc = some sig → argsL.length = sig.parameters.length)
    (hstack : g.stack = argsL.reverse ++ rest) (hW : 2 * g.monitorRoom + (rest.map fun v => v.category).sum ≤ W9) (hdg : decode c.code g.pc = .ok (.invokestatic index, 3))
    (hpre : ∀ vm₁, s.WarmedH vm₁ → Pre ⟨T.setVm vm₁, locs, cells, slots⟩ argsL.toArray) :
    (∃ (v : Option Value) (vm₁ : Vm) (B : Pt), s.WarmedH vm₁ ∧ Stand p l e R s m args below meth c B.U B.locs B.cells B.slots ∧ Post ⟨T.setVm vm₁, locs, cells, slots⟩ argsL.toArray v B ∧
      ∀ target, Steps p.tables e below (B.U.setTop { g with pc := g.pc + 3, stack := v.toList ++ rest }) target → Steps p.tables e below (T.setTop g) target) ∨
    (∃ (q : Addr) (vm₁ : Vm) (B : Pt), s.WarmedH vm₁ ∧ Stand p l e R s m args below meth c B.U B.locs B.cells B.slots ∧ PostX ⟨T.setVm vm₁, locs, cells, slots⟩ argsL.toArray q B ∧
      Steps p.tables e below (T.setTop g) ((B.U.setTop { g with stack := rest }).pushFrame (.throwing q))) := by
  obtain ⟨mk, methM, cM, hnamed, hmethM, -, -, -, -, -, -, hsigM⟩ := Cond.codeWith_spec hcode
  have hstatic : methM.isStatic = true := Cond.static_spec hnamed hmethM hstat
  obtain ⟨kP, hkP, -⟩ := className_of_methodNamed hnamed
  have hinitP : kP.init = .initialized := Cond.initialized_spec (findClass_of_methodNamed hnamed) hkP hinit
  obtain ⟨vm₁, X₁, hstep₁⟩ := X.invokestatic hexec hown hlink hnamed hmethM hstatic hkP hinitP hy (g := g) hg (argsL := argsL) (rest := rest) (hlen _ hsigM) hstack hdg
  rcases hK m meth c ⟨T.setVm vm₁, locs, cells, slots⟩ { g with stack := rest } (.invokestatic index) mk argsL.toArray X₁ hg hsize hdg hW (X₁.named hnamed) (hpre vm₁ X₁.warmed) with ⟨v, B, X', hpost, hsteps⟩ | ⟨q, B, X', hpost, hsteps⟩
  · exact Or.inl ⟨v, vm₁, B, X₁.warmed, X', hpost, fun target h => hstep₁ _ fun acts => by rw [doInvoke_state]; exact hsteps.trans h⟩
  · exact Or.inr ⟨q, vm₁, B, X₁.warmed, X', hpost, hstep₁ _ fun acts => by rw [doInvoke_state]; exact hsteps⟩
theorem vx_callVW (X : Stand p l e R s m args below meth c T locs cells slots) (hexec : p.tables.exec = Jvm.exec) {own C : String} {index : Nat} {y : MethodName} {bytes : ByteArray} {maxL : Nat} {ret : Option FieldType} {hh : List (Nat × Nat × Nat × Nat)}
    (hown : s.vm.findClass own = some m.cls) (hlink : (Cond.methodLink own index y).before args s = true) (hinst : (Cond.instanceMethod y).before args s = true) (hsel : (Cond.selects C y y).before args s = true)
    (hcode : (Cond.codeWith y bytes maxL ret hh).before args s = true) (hy : y.cls ≠ "java/lang/invoke/MethodHandle" ∧ y.cls ≠ "java/lang/invoke/VarHandle")
    {W9 : Nat} {Pre : Pt → Array Value → Prop} {Post : Pt → Array Value → Option Value → Pt → Prop} (hK : Back l R p e below s args y 3 W9 Pre Post)
    {b : Addr} {cellB : Cell} (hcell : T.heap[b]? = some cellB) (hobj : cellB.vm.isStatics = false) (hcls : s.vm.findClass C = some cellB.cls)
    {g : JFrame} (hg : g.method = m) (hsize : g.locals.size = c.maxLocals) {argsL rest : List Value} (hlen : ∀ sig, parseMethodDescriptor y.desc = some sig → argsL.length = sig.parameters.length)
    (hstack : g.stack = argsL.reverse ++ .ref b :: rest) (hW : 2 * g.monitorRoom + (rest.map fun v => v.category).sum ≤ W9) (hdg : decode c.code g.pc = .ok (.invokevirtual index, 3))
    (hpre : ∀ vm₁, s.WarmedH vm₁ → Pre ⟨T.setVm vm₁, locs, cells, slots⟩ (Value.ref b :: argsL).toArray) :
    ∃ (v : Option Value) (vm₁ : Vm) (B : Pt), s.WarmedH vm₁ ∧ Stand p l e R s m args below meth c B.U B.locs B.cells B.slots ∧ Post ⟨T.setVm vm₁, locs, cells, slots⟩ (Value.ref b :: argsL).toArray v B ∧
      ∀ target, Steps p.tables e below (B.U.setTop { g with pc := g.pc + 3, stack := v.toList ++ rest }) target → Steps p.tables e below (T.setTop g) target := by
  obtain ⟨mk, methM, hnamed, hmethM, hstM, habM⟩ := Cond.instanceMethod_spec hinst
  obtain ⟨m8, methM', cM, hn8, hmethM', -, -, -, -, -, -, hsigM⟩ := Cond.codeWith_spec hcode
  cases Option.some.inj (hn8.symm.trans hnamed)
  cases hmethM.symm.trans hmethM'
  obtain ⟨c2, r2, m2, q1, q2, q3, q4, kP, hkP, hkPi⟩ := Cond.selects_spec hsel
  cases hcls.symm.trans q1
  cases (State.methodFound?_of_named hnamed hy).symm.trans q2
  cases hnamed.symm.trans q3
  have hselP : selectMethod e.platform s.vm cellB.cls mk = .method mk := by rw [Launch.admits_selectMethod X.admits]; exact q4
  obtain ⟨vm₁, X₁, hstep₁⟩ := X.invokevirtual hexec hown hlink hnamed hmethM hstM hkP hkPi hy (a := b) (cell := cellB) hcell
    (fun z h => by rw [h] at hobj; cases hobj) hselP hmethM habM hkP hkPi (g := g) hg (argsL := argsL) (rest := rest) (hlen _ hsigM) hstack hdg
  obtain ⟨v, B, X', hpost, hsteps⟩ := hK m meth c ⟨T.setVm vm₁, locs, cells, slots⟩ { g with stack := rest } (.invokevirtual index) mk (Value.ref b :: argsL).toArray X₁ hg hsize hdg hW (X₁.named hnamed) (hpre vm₁ X₁.warmed)
  exact ⟨v, vm₁, B, X₁.warmed, X', hpost, fun target h => hstep₁ _ fun acts => by rw [doInvoke_state]; exact hsteps.trans h⟩
abbrev vx_CVW (R : Room) (s : State) (args : Array Value) (own C : String) (index : Nat) (y : MethodName) (bytes : ByteArray) (maxL : Nat) (ret : Option FieldType) (hh : List (Nat × Nat × Nat × Nat)) (ws : List Cond) (rm : Room) (mc ms n : Nat) : Prop :=
  (rm.cells = mc ∧ rm.slots = ms ∧ rm.frames + 1 ≤ R.frames ∧ 8 + (maxL + 11) + rm.locals ≤ R.locals ∧ (∀ w ∈ ws, ∀ (a' : Array Value) (U : State), s.WarmedH U.vm → w.before a' U = true) ∧ Cond.codeWith y bytes maxL ret hh ∈ ws) ∧
  (Cond.codeWith y bytes maxL ret hh).before args s = true ∧ (Cond.initialized y.cls).before args s = true ∧ (y.cls ≠ "java/lang/invoke/MethodHandle" ∧ y.cls ≠ "java/lang/invoke/VarHandle") ∧
  (∀ sig, parseMethodDescriptor y.desc = some sig → n = sig.parameters.length) ∧ (Cond.methodLink own index y).before args s = true ∧ (Cond.instanceMethod y).before args s = true ∧ (Cond.selects C y y).before args s = true
theorem vx_cwVW {own C : String} {index maxL mc ms : Nat} {y : MethodName} {bytes : ByteArray} {ret : Option FieldType} {hh : List (Nat × Nat × Nat × Nat)} {Ts ws ws' : List Cond} {rm : Room} (n : Nat) (ht : ∀ w ∈ Ts, w.before args s = true) (hT : GoodIn Ts (wsV own index C y ws)) (hw : ws = Cond.codeWith y bytes maxL ret hh :: ws') (hrc : rm.cells = mc) (hrs : rm.slots = ms)
    (hd : y.cls = C ∧ y.cls ≠ "java/lang/invoke/MethodHandle" ∧ y.cls ≠ "java/lang/invoke/VarHandle" ∧ (parseMethodDescriptor y.desc).map (fun d => d.parameters.length) = some n) (hR : rm.frames + 1 ≤ R.frames ∧ 8 + (maxL + 11) + rm.locals ≤ R.locals) :
    vx_CVW R s args own C index y bytes maxL ret hh ws rm mc ms n := by
  obtain ⟨hC, hd⟩ := hd
  subst hC
  have ok : ∀ w ∈ wsV own index y.cls y ws, w.before args s = true := fun w h => ht w (hT w h).1
  have hG : GoodIn Ts ws := fun w h => hT w (by unfold wsV; exact List.mem_append_right _ h)
  have hc : Cond.codeWith y bytes maxL ret hh ∈ ws := by rw [hw]; exact List.mem_cons_self
  refine ⟨⟨hrc, hrs, hR.1, hR.2, pay_in ht hG, hc⟩, ht _ (hG _ hc).1, ok _ (by simp [wsV]), ⟨hd.1, hd.2.1⟩, fun sig h => ?_, ok _ (by simp [wsV]), ok _ (by simp [wsV]), ok _ (by simp [wsV])⟩
  have h2 := hd.2.2
  rw [h] at h2
  exact (Option.some.inj h2).symm
theorem vx_runVW {y : MethodName} {bytes cc : ByteArray} {maxL nL mc ms n index : Nat} {ret : Option FieldType} {hh : List (Nat × Nat × Nat × Nat)} {ws : List Cond} {rm : Room} {Pc : Array Value → State → Prop} {Qc : Array Value → State → Outcome → State → Prop} {free : Addr → Prop} {Ts : List Cond} {own C : String} {b : Addr} {As rest : List Value} {g : JFrame}
    (S : CallFix p m c cc nL s args Ts own) (hM : Met l y ws rm Pc Qc mc ms free) (cw : vx_CVW R s args own C index y bytes maxL ret hh ws rm mc ms n) (hp : PreV s H C b Pc As)
    (hg : g.method = m) (hn : As.length = n) (hsize : g.locals.size = nL) (hstack : g.stack = As.reverse ++ .ref b :: rest) (hW : 2 * g.monitorRoom + (rest.map fun v => v.category).sum ≤ 8) (hdg : decode cc g.pc = .ok (.invokevirtual index, 3)) (hf : cells + mc ≤ R.cells ∧ slots + ms ≤ R.slots) :
    va_Run p l e R s m args below meth c H locs cells slots mc ms g rest (Qc (Value.ref b :: As).toArray) free := by
  obtain ⟨⟨hrc, hrs, hfr, hlo, hws, hcw⟩, hcode, hini, hy, hlen, hl, hin, hse⟩ := cw
  have hK : Back l R p e below s args y 3 8 (PreOf R mc ms Pc) (PostOf Qc mc ms free) := va_backW (hh := hh) (bytes := bytes) (maxL := maxL) (ret := ret) hM hp.1 hrc hrs hfr hlo hws hcw (fun a' U hW => word_at hW (Or.inl (by first | rfl | simp [Cond.onTables, Cond.keeps, Cond.steady])) hini)
  obtain ⟨hx, hb, hml, ho, -⟩ := S
  obtain ⟨-, ⟨cellB, hcB, hoB, hclB⟩, hPc⟩ := hp
  intro T hT X
  obtain ⟨v, vm₁, ⟨U', l2, c2, s2⟩, hW₁, X', ⟨g', mk, t, L, e1, e2, hq, h1, hL, h2, h3⟩, st⟩ := vx_callVW X hx (C := C) (hh := hh) (bytes := bytes) (maxL := maxL) (ret := ret) ho hl hin hse hcode hy hK (by rw [hT]; exact hcB) hoB hclB hg (hsize.trans hml.symm) (argsL := As) (rest := rest) (fun sig h => hn.trans (hlen sig h)) hstack hW (by rw [hb]; exact hdg)
    (fun vm₁ hW₁ => ⟨hf.1, hf.2, hPc (T.setVm vm₁) hT hW₁⟩)
  dsimp only [Pt.U, Pt.locs, Pt.cells, Pt.slots] at X' e1 e2 h1 h2 h3 st
  subst h1; subst h2; subst h3
  exact ⟨v, (T.setVm vm₁).calling g' mk (Value.ref b :: As).toArray, t, U', L, hT, X', hL, e1, e2, hq, st⟩
section
variable {y : MethodName} {bytes cc : ByteArray} {maxL nL mc ms n index : Nat} {ret : Option FieldType} {ws : List Cond} {rm : Room} {Pc : Array Value → State → Prop} {Qc : Array Value → State → Outcome → State → Prop} {XC : String → State → State → Prop} {free : Addr → Prop} {Ts : List Cond} {own C : String} {b : Addr} {As rest : List Value} {g : JFrame}
theorem vx_runVX {hh : List (Nat × Nat × Nat × Nat)} (S : CallFix p m c cc nL s args Ts own) (hM : vx_Met l y ws rm Pc Qc XC mc ms free) (cw : vx_CVW R s args own C index y bytes maxL ret hh ws rm mc ms n) (hp : PreV s H C b Pc As)
    (hg : g.method = m) (hn : As.length = n) (hsize : g.locals.size = nL) (hstack : g.stack = As.reverse ++ .ref b :: rest) (hW : 2 * g.monitorRoom + (rest.map fun v => v.category).sum ≤ 8) (hdg : decode cc g.pc = .ok (.invokevirtual index, 3)) (hf : cells + mc ≤ R.cells ∧ slots + ms ≤ R.slots) :
    vx_Run p l e R s m args below meth c H locs cells slots mc ms g rest (Qc (Value.ref b :: As).toArray) XC free := by
  obtain ⟨⟨hrc, hrs, hfr, hlo, hws, hcw⟩, hcode, hini, hy, hlen, hl, hin, hse⟩ := cw
  have hK : vx_Back l R p e below s args y 3 8 (PreOf R mc ms Pc) (PostOf Qc mc ms free) (vx_Post XC mc ms free) := vx_backW (hh := hh) (bytes := bytes) (maxL := maxL) (ret := ret) hM hp.1 hrc hrs hfr hlo hws hcw (fun a' U hW => word_at hW (Or.inl (by first | rfl | simp [Cond.onTables, Cond.keeps, Cond.steady])) hini)
  obtain ⟨hx, hb, hml, ho, -⟩ := S
  obtain ⟨-, ⟨cellB, hcB, hoB, hclB⟩, hPc⟩ := hp
  intro T hT X
  rcases vx_callVX X hx (C := C) (hh := hh) (bytes := bytes) (maxL := maxL) (ret := ret) ho hl hin hse hcode hy hK (by rw [hT]; exact hcB) hoB hclB hg (hsize.trans hml.symm) (argsL := As) (rest := rest) (fun sig h => hn.trans (hlen sig h)) hstack hW (by rw [hb]; exact hdg)
    (fun vm₁ hW₁ => ⟨hf.1, hf.2, hPc (T.setVm vm₁) hT hW₁⟩) with ⟨v, vm₁, ⟨U', l2, c2, s2⟩, hW₁, X', ⟨g', mk, t, L, e1, e2, hq, h1, hL, h2, h3⟩, st⟩ | ⟨q, vm₁, ⟨U', l2, c2, s2⟩, hW₁, X', ⟨g', mk, t, L, E, ce, e1, e2, hq, hce, hcv, hcl, h1, hL, h2, h3⟩, st⟩
  · dsimp only [Pt.U, Pt.locs, Pt.cells, Pt.slots] at X' e1 e2 h1 h2 h3 st
    subst h1; subst h2; subst h3
    exact Or.inl ⟨v, (T.setVm vm₁).calling g' mk (Value.ref b :: As).toArray, t, U', L, hT, X', hL, e1, e2, hq, st⟩
  · dsimp only [Pt.U, Pt.locs, Pt.cells, Pt.slots] at X' e1 e2 h1 h2 h3 st hcl
    subst h1; subst h2; subst h3
    exact Or.inr ⟨q, (T.setVm vm₁).calling g' mk (Value.ref b :: As).toArray, t, U', L, E, ce, hT, X', hL, e1, e2, hq, hce, hcv, vx_cls hW₁ hcl, st⟩
theorem vx_runSX {hh : List (Nat × Nat × Nat × Nat)} (S : CallFix p m c cc nL s args Ts own) (hM : vx_Met l y ws rm Pc Qc XC mc ms free) (cw : vx_CSW R s args own index y bytes maxL ret hh ws rm mc ms n) (hp : PreS s H Pc As)
    (hg : g.method = m) (hn : As.length = n) (hsize : g.locals.size = nL) (hstack : g.stack = As.reverse ++ rest) (hW : 2 * g.monitorRoom + (rest.map fun v => v.category).sum ≤ 8) (hdg : decode cc g.pc = .ok (.invokestatic index, 3)) (hf : cells + mc ≤ R.cells ∧ slots + ms ≤ R.slots) :
    vx_Run p l e R s m args below meth c H locs cells slots mc ms g rest (Qc As.toArray) XC free := by
  obtain ⟨⟨hrc, hrs, hfr, hlo, hws, hcw⟩, hcode, hini, hy, hlen, hl, hstt⟩ := cw
  have hK : vx_Back l R p e below s args y 3 8 (PreOf R mc ms Pc) (PostOf Qc mc ms free) (vx_Post XC mc ms free) := vx_backW (hh := hh) (bytes := bytes) (maxL := maxL) (ret := ret) hM hp.1 hrc hrs hfr hlo hws hcw (fun a' U hW => word_at hW (Or.inl (by first | rfl | simp [Cond.onTables, Cond.keeps, Cond.steady])) hini)
  obtain ⟨hx, hb, hml, ho, -⟩ := S
  intro T hT X
  rcases vx_callSX X hx (hh := hh) (bytes := bytes) (maxL := maxL) (ret := ret) ho hl hstt hini hcode hy hK hg (hsize.trans hml.symm) (argsL := As) (rest := rest) (fun sig h => hn.trans (hlen sig h)) hstack hW (by rw [hb]; exact hdg)
    (fun vm₁ hW₁ => ⟨hf.1, hf.2, hp.2 (T.setVm vm₁) hT hW₁⟩) with ⟨v, vm₁, ⟨U', l2, c2, s2⟩, hW₁, X', ⟨g', mk, t, L, e1, e2, hq, h1, hL, h2, h3⟩, st⟩ | ⟨q, vm₁, ⟨U', l2, c2, s2⟩, hW₁, X', ⟨g', mk, t, L, E, ce, e1, e2, hq, hce, hcv, hcl, h1, hL, h2, h3⟩, st⟩
  · dsimp only [Pt.U, Pt.locs, Pt.cells, Pt.slots] at X' e1 e2 h1 h2 h3 st
    subst h1; subst h2; subst h3
    exact Or.inl ⟨v, (T.setVm vm₁).calling g' mk As.toArray, t, U', L, hT, X', hL, e1, e2, hq, st⟩
  · dsimp only [Pt.U, Pt.locs, Pt.cells, Pt.slots] at X' e1 e2 h1 h2 h3 st hcl
    subst h1; subst h2; subst h3
    exact Or.inr ⟨q, (T.setVm vm₁).calling g' mk As.toArray, t, U', L, E, ce, hT, X', hL, e1, e2, hq, hce, hcv, vx_cls hW₁ hcl, st⟩
end
end VXH
theorem vx_ofWH {l : Launch} {y : MethodName} {ws ws' : List Cond} {rm : Room} {Pc : Array Value → State → Prop} {Qc : Array Value → State → Outcome → State → Prop} {XC : String → State → State → Prop} {mc ms : Nat} {free : Addr → Prop} {cc : ByteArray} {maxL : Nat} {ret : Option FieldType} {hh : List (Nat × Nat × Nat × Nat)}
    (hy : plainName y.cls = true) (hw : ws = Cond.codeWith y cc maxL ret hh :: ws')
    (body : ∀ p e s m args below meth c s₁, BodyLoose p l y (headSpec ws rm) cc maxL ret e s m args below meth c s₁ → c.maxLocals = maxL → Pc args s →
      W p l e (headSpec ws rm).room s m args below meth c s.heap [] 0 0 (vx_MQ below Qc XC args s mc ms free) (entryFrame m args maxL)) : vx_Met l y ws rm Pc Qc XC mc ms free := by
  refine MetFree.of_bodyS (code := cc) (maxLocals := maxL) (ret := ret) hy ?_ ?_
  · intro args s m h hn
    obtain ⟨m9, meth, c, hn9, h1, h2, h3, h4, -, h5, h6, -⟩ := Cond.codeWith_spec (atoms_spec (ws := ws) h _ (by rw [hw]; exact List.mem_cons_self))
    cases hn.symm.trans hn9
    exact ⟨meth, c, h1, h2, h3, h4, h5, h6⟩
  · intro p e s m args below meth c s₁ B hml hP _
    have hh0 : s₁.heap = s.heap := by rw [B.state]; rfl
    obtain ⟨t, a1, o, b1, b2, b3⟩ := body p e s m args below meth c s₁ B hml hP s₁ hh0 (Stand.of_body B)
    exact ⟨t, o, a1, b1, b2, b3⟩
/-! ===== END ===== -/

/-! ===== BEGIN printed: names, fields, word lists, decode rows ===== -/
def RX0 : String := "BagCarousel$Bags"
def TX0 : u_T := fun k => match k with
  | 0 => ("BagCarousel$Bags", "count", "I", false)
  | 1 => ("BagCarousel$Bags", "flight", "LBagCarousel$Row;", true)
  | 2 => ("BagCarousel$Bags", "size", "LBagCarousel$Row;", true)
  | 3 => ("BagCarousel$Bags", "smudge", "LBagCarousel$Row;", true)
  | 4 => ("BagCarousel$Bags", "where", "LBagCarousel$Row;", true)
  | 5 => ("BagCarousel$Bags", "chute", "LBagCarousel$Row;", true)
  | 6 => ("BagCarousel$Bags", "read", "LBagCarousel$Row;", true)
  | 7 => ("BagCarousel$Bags", "misses", "LBagCarousel$Row;", true)
  | _ => ("BagCarousel$Bags", "file", "LBagCarousel$Row;", true)
def tyX0 : Nat → FieldType := fun k => match k with
  | 0 => .int
  | 1 => .object "BagCarousel$Row"
  | 2 => .object "BagCarousel$Row"
  | 3 => .object "BagCarousel$Row"
  | 4 => .object "BagCarousel$Row"
  | 5 => .object "BagCarousel$Row"
  | 6 => .object "BagCarousel$Row"
  | 7 => .object "BagCarousel$Row"
  | _ => .object "BagCarousel$Row"
abbrev wsX00 : List Cond := u_ws RX0 TX0 9
theorem nmX0 : ∀ a, a < 9 → ∀ b, b < 9 → a ≠ b → (TX0 a).2.1 ≠ (TX0 b).2.1 := by decide +kernel
theorem tyX0_ok : ∀ k, k < 9 → parseFieldDescriptor (TX0 k).2.2.1 = some (tyX0 k) := by decide +kernel
abbrev cX0_init : ByteArray := prog_2_method_1_code
def yX0_init : MethodName := ⟨RX0, "<init>", "()V"⟩
abbrev cX0_addOne : ByteArray := prog_2_method_2_code
def yX0_addOne : MethodName := ⟨RX0, "addOne", "(III)I"⟩
abbrev cX0_renew : ByteArray := prog_2_method_3_code
def yX0_renew : MethodName := ⟨RX0, "renew", "(II)V"⟩
abbrev cX0_putIntoChute : ByteArray := prog_2_method_4_code
def yX0_putIntoChute : MethodName := ⟨RX0, "putIntoChute", "(II)V"⟩
abbrev cX0_takeFromChute : ByteArray := prog_2_method_5_code
def yX0_takeFromChute : MethodName := ⟨RX0, "takeFromChute", "(II)V"⟩
abbrev cX0_closeFile : ByteArray := prog_2_method_6_code
def yX0_closeFile : MethodName := ⟨RX0, "closeFile", "(I)V"⟩
abbrev cX0_takeAll : ByteArray := prog_2_method_7_code
def yX0_takeAll : MethodName := ⟨RX0, "takeAll", "(LBagCarousel$Bags;)V"⟩
def RX1 : String := "BagCarousel$Flights"
def TX1 : u_T := fun k => match k with
  | 0 => ("BagCarousel$Flights", "count", "I", false)
  | 1 => ("BagCarousel$Flights", "chute", "LBagCarousel$Row;", true)
  | _ => ("BagCarousel$Flights", "gone", "LBagCarousel$Row;", true)
def tyX1 : Nat → FieldType := fun k => match k with
  | 0 => .int
  | 1 => .object "BagCarousel$Row"
  | _ => .object "BagCarousel$Row"
abbrev wsX10 : List Cond := u_ws RX1 TX1 3
theorem nmX1 : ∀ a, a < 3 → ∀ b, b < 3 → a ≠ b → (TX1 a).2.1 ≠ (TX1 b).2.1 := by decide +kernel
theorem tyX1_ok : ∀ k, k < 3 → parseFieldDescriptor (TX1 k).2.2.1 = some (tyX1 k) := by decide +kernel
abbrev cX1_init : ByteArray := prog_3_method_1_code
def yX1_init : MethodName := ⟨RX1, "<init>", "()V"⟩
abbrev cX1_addOne : ByteArray := prog_3_method_2_code
def yX1_addOne : MethodName := ⟨RX1, "addOne", "()I"⟩
abbrev cX1_hasLeft : ByteArray := prog_3_method_3_code
def yX1_hasLeft : MethodName := ⟨RX1, "hasLeft", "(I)Z"⟩
abbrev cX1_takeAll : ByteArray := prog_3_method_4_code
def yX1_takeAll : MethodName := ⟨RX1, "takeAll", "(LBagCarousel$Flights;)V"⟩
def RX2 : String := "BagCarousel$Hall"
def TX2 : u_T := fun k => match k with
  | 0 => ("BagCarousel$Hall", "minutesGone", "I", false)
  | 1 => ("BagCarousel$Hall", "strength", "I", false)
  | 2 => ("BagCarousel$Hall", "lineCount", "I", false)
  | 3 => ("BagCarousel$Hall", "flights", "LBagCarousel$Flights;", true)
  | 4 => ("BagCarousel$Hall", "bags", "LBagCarousel$Bags;", true)
  | 5 => ("BagCarousel$Hall", "rooms", "LBagCarousel$Row;", true)
  | 6 => ("BagCarousel$Hall", "belt", "LBagCarousel$Row;", true)
  | _ => ("BagCarousel$Hall", "line", "LBagCarousel$Row;", true)
def tyX2 : Nat → FieldType := fun k => match k with
  | 0 => .int
  | 1 => .int
  | 2 => .int
  | 3 => .object "BagCarousel$Flights"
  | 4 => .object "BagCarousel$Bags"
  | 5 => .object "BagCarousel$Row"
  | 6 => .object "BagCarousel$Row"
  | _ => .object "BagCarousel$Row"
abbrev wsX20 : List Cond := u_ws RX2 TX2 8
theorem nmX2 : ∀ a, a < 8 → ∀ b, b < 8 → a ≠ b → (TX2 a).2.1 ≠ (TX2 b).2.1 := by decide +kernel
theorem tyX2_ok : ∀ k, k < 8 → parseFieldDescriptor (TX2 k).2.2.1 = some (tyX2 k) := by decide +kernel
abbrev cX2_init : ByteArray := prog_4_method_1_code
def yX2_init : MethodName := ⟨RX2, "<init>", "()V"⟩
abbrev cX2_becomeLike : ByteArray := prog_4_method_2_code
def yX2_becomeLike : MethodName := ⟨RX2, "becomeLike", "(LBagCarousel$Hall;)V"⟩
abbrev cX2_takeIn : ByteArray := prog_4_method_3_code
def yX2_takeIn : MethodName := ⟨RX2, "takeIn", "(I)V"⟩
abbrev cX2_changeChute : ByteArray := prog_4_method_4_code
def yX2_changeChute : MethodName := ⟨RX2, "changeChute", "(II)I"⟩
abbrev cX2_clearMisrouted : ByteArray := prog_4_method_5_code
def yX2_clearMisrouted : MethodName := ⟨RX2, "clearMisrouted", "(I)I"⟩
abbrev cX2_letLeave : ByteArray := prog_4_method_6_code
def yX2_letLeave : MethodName := ⟨RX2, "letLeave", "(I)I"⟩
abbrev cX2_goMinutes : ByteArray := prog_4_method_7_code
def yX2_goMinutes : MethodName := ⟨RX2, "goMinutes", "(I)I"⟩
abbrev cX2_goMinute : ByteArray := prog_4_method_8_code
def yX2_goMinute : MethodName := ⟨RX2, "goMinute", "()I"⟩
abbrev cX2_readTag : ByteArray := prog_4_method_9_code
def yX2_readTag : MethodName := ⟨RX2, "readTag", "()V"⟩
abbrev cX2_missTag : ByteArray := prog_4_method_10_code
def yX2_missTag : MethodName := ⟨RX2, "missTag", "(I)V"⟩
abbrev cX2_fillChutes : ByteArray := prog_4_method_11_code
def yX2_fillChutes : MethodName := ⟨RX2, "fillChutes", "()I"⟩
abbrev cX2_feedBelt : ByteArray := prog_4_method_12_code
def yX2_feedBelt : MethodName := ⟨RX2, "feedBelt", "()V"⟩
abbrev cX2_hasRoom : ByteArray := prog_4_method_13_code
def yX2_hasRoom : MethodName := ⟨RX2, "hasRoom", "(I)Z"⟩
abbrev cX2_findOnBelt : ByteArray := prog_4_method_14_code
def yX2_findOnBelt : MethodName := ⟨RX2, "findOnBelt", "(I)I"⟩
abbrev cX2_isInOwnChute : ByteArray := prog_4_method_15_code
def yX2_isInOwnChute : MethodName := ⟨RX2, "isInOwnChute", "(I)Z"⟩
abbrev cX2_isAstray : ByteArray := prog_4_method_16_code
def yX2_isAstray : MethodName := ⟨RX2, "isAstray", "(I)Z"⟩
abbrev cX2_isReady : ByteArray := prog_4_method_17_code
def yX2_isReady : MethodName := ⟨RX2, "isReady", "(I)Z"⟩
abbrev cX2_countMisrouted : ByteArray := prog_4_method_18_code
def yX2_countMisrouted : MethodName := ⟨RX2, "countMisrouted", "(I)I"⟩
abbrev cX2_countReady : ByteArray := prog_4_method_19_code
def yX2_countReady : MethodName := ⟨RX2, "countReady", "(I)I"⟩
abbrev cX2_countMissing : ByteArray := prog_4_method_20_code
def yX2_countMissing : MethodName := ⟨RX2, "countMissing", "(I)I"⟩
def RX3 : String := "BagCarousel$Row"
def TX3 : u_T := fun k => match k with
  | _ => ("BagCarousel$Row", "cells", "[I", true)
def tyX3 : Nat → FieldType := fun k => match k with
  | _ => .array .int
abbrev wsX30 : List Cond := u_ws RX3 TX3 1
theorem nmX3 : ∀ a, a < 1 → ∀ b, b < 1 → a ≠ b → (TX3 a).2.1 ≠ (TX3 b).2.1 := by decide +kernel
theorem tyX3_ok : ∀ k, k < 1 → parseFieldDescriptor (TX3 k).2.2.1 = some (tyX3 k) := by decide +kernel
abbrev cX3_init : ByteArray := prog_5_method_1_code
def yX3_init : MethodName := ⟨RX3, "<init>", "([II)V"⟩
abbrev cX3_at : ByteArray := prog_5_method_2_code
def yX3_at : MethodName := ⟨RX3, "at", "(I)I"⟩
abbrev cX3_put : ByteArray := prog_5_method_3_code
def yX3_put : MethodName := ⟨RX3, "put", "(II)V"⟩
abbrev cX3_takeAll : ByteArray := prog_5_method_4_code
def yX3_takeAll : MethodName := ⟨RX3, "takeAll", "(LBagCarousel$Row;)V"⟩
abbrev cX3_turn : ByteArray := prog_5_method_5_code
def yX3_turn : MethodName := ⟨RX3, "turn", "()V"⟩
abbrev cX3_takeFront : ByteArray := prog_5_method_6_code
def yX3_takeFront : MethodName := ⟨RX3, "takeFront", "()I"⟩
abbrev cX3_count : ByteArray := prog_5_method_7_code
def yX3_count : MethodName := ⟨RX3, "count", "(I)I"⟩
abbrev cX3_sum : ByteArray := prog_5_method_8_code
def yX3_sum : MethodName := ⟨RX3, "sum", "()I"⟩
abbrev cX3_find : ByteArray := prog_5_method_9_code
def yX3_find : MethodName := ⟨RX3, "find", "(I)I"⟩
def RX4 : String := "BagCarousel"
def TX4 : u_T := fun k => match k with
  | 0 => ("BagCarousel", "hall", "LBagCarousel$Hall;", true)
  | _ => ("BagCarousel", "trial", "LBagCarousel$Hall;", true)
def tyX4 : Nat → FieldType := fun k => match k with
  | 0 => .object "BagCarousel$Hall"
  | _ => .object "BagCarousel$Hall"
abbrev wsX40 : List Cond := u_ws RX4 TX4 2
theorem nmX4 : ∀ a, a < 2 → ∀ b, b < 2 → a ≠ b → (TX4 a).2.1 ≠ (TX4 b).2.1 := by decide +kernel
theorem tyX4_ok : ∀ k, k < 2 → parseFieldDescriptor (TX4 k).2.2.1 = some (tyX4 k) := by decide +kernel
abbrev cX4_init : ByteArray := prog_1_method_1_code
def yX4_init : MethodName := ⟨RX4, "<init>", "()V"⟩
abbrev cX4_addFlight : ByteArray := prog_1_method_2_code
def yX4_addFlight : MethodName := ⟨RX4, "addFlight", "()I"⟩
abbrev cX4_giveChute : ByteArray := prog_1_method_3_code
def yX4_giveChute : MethodName := ⟨RX4, "giveChute", "(II)I"⟩
abbrev cX4_setReader : ByteArray := prog_1_method_4_code
def yX4_setReader : MethodName := ⟨RX4, "setReader", "(I)I"⟩
abbrev cX4_setRoom : ByteArray := prog_1_method_5_code
def yX4_setRoom : MethodName := ⟨RX4, "setRoom", "(II)I"⟩
abbrev cX4_checkIn : ByteArray := prog_1_method_6_code
def yX4_checkIn : MethodName := ⟨RX4, "checkIn", "(III)I"⟩
abbrev cX4_carry : ByteArray := prog_1_method_7_code
def yX4_carry : MethodName := ⟨RX4, "carry", "(I)I"⟩
abbrev cX4_forward : ByteArray := prog_1_method_8_code
def yX4_forward : MethodName := ⟨RX4, "forward", "(II)I"⟩
abbrev cX4_sweep : ByteArray := prog_1_method_9_code
def yX4_sweep : MethodName := ⟨RX4, "sweep", "(I)I"⟩
abbrev cX4_depart : ByteArray := prog_1_method_10_code
def yX4_depart : MethodName := ⟨RX4, "depart", "(I)I"⟩
abbrev cX4_pass : ByteArray := prog_1_method_11_code
def yX4_pass : MethodName := ⟨RX4, "pass", "(I)I"⟩
abbrev cX4_flightOf : ByteArray := prog_1_method_12_code
def yX4_flightOf : MethodName := ⟨RX4, "flightOf", "(I)I"⟩
abbrev cX4_whereIs : ByteArray := prog_1_method_13_code
def yX4_whereIs : MethodName := ⟨RX4, "whereIs", "(I)I"⟩
abbrev cX4_placeOf : ByteArray := prog_1_method_14_code
def yX4_placeOf : MethodName := ⟨RX4, "placeOf", "(I)I"⟩
abbrev cX4_chuteOf : ByteArray := prog_1_method_15_code
def yX4_chuteOf : MethodName := ⟨RX4, "chuteOf", "(I)I"⟩
abbrev cX4_readFor : ByteArray := prog_1_method_16_code
def yX4_readFor : MethodName := ⟨RX4, "readFor", "(I)I"⟩
abbrev cX4_missesOf : ByteArray := prog_1_method_17_code
def yX4_missesOf : MethodName := ⟨RX4, "missesOf", "(I)I"⟩
abbrev cX4_isMisrouted : ByteArray := prog_1_method_18_code
def yX4_isMisrouted : MethodName := ⟨RX4, "isMisrouted", "(I)Z"⟩
abbrev cX4_hasOpenFile : ByteArray := prog_1_method_19_code
def yX4_hasOpenFile : MethodName := ⟨RX4, "hasOpenFile", "(I)Z"⟩
abbrev cX4_bagAt : ByteArray := prog_1_method_20_code
def yX4_bagAt : MethodName := ⟨RX4, "bagAt", "(I)I"⟩
abbrev cX4_bagsIn : ByteArray := prog_1_method_21_code
def yX4_bagsIn : MethodName := ⟨RX4, "bagsIn", "(I)I"⟩
abbrev cX4_misroutedIn : ByteArray := prog_1_method_22_code
def yX4_misroutedIn : MethodName := ⟨RX4, "misroutedIn", "(I)I"⟩
abbrev cX4_roomOf : ByteArray := prog_1_method_23_code
def yX4_roomOf : MethodName := ⟨RX4, "roomOf", "(I)I"⟩
abbrev cX4_chuteOfFlight : ByteArray := prog_1_method_24_code
def yX4_chuteOfFlight : MethodName := ⟨RX4, "chuteOfFlight", "(I)I"⟩
abbrev cX4_isGone : ByteArray := prog_1_method_25_code
def yX4_isGone : MethodName := ⟨RX4, "isGone", "(I)Z"⟩
abbrev cX4_readyOf : ByteArray := prog_1_method_26_code
def yX4_readyOf : MethodName := ⟨RX4, "readyOf", "(I)I"⟩
abbrev cX4_missingOf : ByteArray := prog_1_method_27_code
def yX4_missingOf : MethodName := ⟨RX4, "missingOf", "(I)I"⟩
abbrev cX4_minute : ByteArray := prog_1_method_28_code
def yX4_minute : MethodName := ⟨RX4, "minute", "()I"⟩
abbrev cX4_flights : ByteArray := prog_1_method_29_code
def yX4_flights : MethodName := ⟨RX4, "flights", "()I"⟩
abbrev cX4_bags : ByteArray := prog_1_method_30_code
def yX4_bags : MethodName := ⟨RX4, "bags", "()I"⟩
abbrev cX4_inLine : ByteArray := prog_1_method_31_code
def yX4_inLine : MethodName := ⟨RX4, "inLine", "()I"⟩
abbrev cX4_onBelt : ByteArray := prog_1_method_32_code
def yX4_onBelt : MethodName := ⟨RX4, "onBelt", "()I"⟩
abbrev cX4_atDesk : ByteArray := prog_1_method_33_code
def yX4_atDesk : MethodName := ⟨RX4, "atDesk", "()I"⟩
abbrev cX4_openFiles : ByteArray := prog_1_method_34_code
def yX4_openFiles : MethodName := ⟨RX4, "openFiles", "()I"⟩
abbrev cX4_closedFiles : ByteArray := prog_1_method_35_code
def yX4_closedFiles : MethodName := ⟨RX4, "closedFiles", "()I"⟩
abbrev cX4_reader : ByteArray := prog_1_method_36_code
def yX4_reader : MethodName := ⟨RX4, "reader", "()I"⟩
abbrev cX4_minutesUntilChute : ByteArray := prog_1_method_37_code
def yX4_minutesUntilChute : MethodName := ⟨RX4, "minutesUntilChute", "(I)I"⟩
abbrev cX4_readyAfter : ByteArray := prog_1_method_38_code
def yX4_readyAfter : MethodName := ⟨RX4, "readyAfter", "(II)I"⟩
abbrev cX4_bestChute : ByteArray := prog_1_method_39_code
def yX4_bestChute : MethodName := ⟨RX4, "bestChute", "(II)I"⟩
abbrev cX4_meanMisses : ByteArray := prog_1_method_40_code
def yX4_meanMisses : MethodName := ⟨RX4, "meanMisses", "()D"⟩
abbrev cX4_digest : ByteArray := prog_1_method_41_code
def yX4_digest : MethodName := ⟨RX4, "digest", "()J"⟩
abbrev cX4_addHall : ByteArray := prog_1_method_42_code
def yX4_addHall : MethodName := ⟨RX4, "addHall", "(J)J"⟩
abbrev cX4_addBag : ByteArray := prog_1_method_43_code
def yX4_addBag : MethodName := ⟨RX4, "addBag", "(JI)J"⟩
abbrev cX4_addChute : ByteArray := prog_1_method_44_code
def yX4_addChute : MethodName := ⟨RX4, "addChute", "(JI)J"⟩
abbrev cX4_addOfFlight : ByteArray := prog_1_method_45_code
def yX4_addOfFlight : MethodName := ⟨RX4, "addOfFlight", "(JI)J"⟩
abbrev cX4_addNumber : ByteArray := prog_1_method_46_code
def yX4_addNumber : MethodName := ⟨RX4, "addNumber", "(JJ)J"⟩
abbrev cX4_needBag : ByteArray := prog_1_method_47_code
def yX4_needBag : MethodName := ⟨RX4, "needBag", "(I)V"⟩
abbrev cX4_needFlight : ByteArray := prog_1_method_48_code
def yX4_needFlight : MethodName := ⟨RX4, "needFlight", "(I)V"⟩
abbrev cX4_needChute : ByteArray := prog_1_method_49_code
def yX4_needChute : MethodName := ⟨RX4, "needChute", "(I)V"⟩
abbrev cX4_needMinutes : ByteArray := prog_1_method_50_code
def yX4_needMinutes : MethodName := ⟨RX4, "needMinutes", "(I)V"⟩
abbrev cX4_needNotGone : ByteArray := prog_1_method_51_code
def yX4_needNotGone : MethodName := ⟨RX4, "needNotGone", "(I)V"⟩
abbrev cX4_needInHand : ByteArray := prog_1_method_52_code
def yX4_needInHand : MethodName := ⟨RX4, "needInHand", "(I)V"⟩
abbrev cX4_isChute : ByteArray := prog_1_method_53_code
def yX4_isChute : MethodName := ⟨RX4, "isChute", "(I)Z"⟩
abbrev cX4_readyWithChute : ByteArray := prog_1_method_54_code
def yX4_readyWithChute : MethodName := ⟨RX4, "readyWithChute", "(III)I"⟩
def RX5 : String := "BagCarouselModel$State"
def TX5 : u_T := fun k => match k with
  | 0 => ("BagCarouselModel$State", "minute", "I", false)
  | 1 => ("BagCarouselModel$State", "where", "[I", true)
  | 2 => ("BagCarouselModel$State", "at", "[I", true)
  | 3 => ("BagCarouselModel$State", "read", "[I", true)
  | 4 => ("BagCarouselModel$State", "missed", "[I", true)
  | 5 => ("BagCarouselModel$State", "belt", "[I", true)
  | 6 => ("BagCarouselModel$State", "line", "[I", true)
  | 7 => ("BagCarouselModel$State", "inLine", "I", false)
  | _ => ("BagCarouselModel$State", "in", "[I", true)
def tyX5 : Nat → FieldType := fun k => match k with
  | 0 => .int
  | 1 => .array .int
  | 2 => .array .int
  | 3 => .array .int
  | 4 => .array .int
  | 5 => .array .int
  | 6 => .array .int
  | 7 => .int
  | _ => .array .int
abbrev wsX50 : List Cond := u_ws RX5 TX5 9
theorem nmX5 : ∀ a, a < 9 → ∀ b, b < 9 → a ≠ b → (TX5 a).2.1 ≠ (TX5 b).2.1 := by decide +kernel
theorem tyX5_ok : ∀ k, k < 9 → parseFieldDescriptor (TX5 k).2.2.1 = some (tyX5 k) := by decide +kernel
abbrev cX5_init : ByteArray := prog_8_method_1_code
def yX5_init : MethodName := ⟨RX5, "<init>", "()V"⟩
abbrev cX5_copy : ByteArray := prog_8_method_2_code
def yX5_copy : MethodName := ⟨RX5, "copy", "([I[I)V"⟩
abbrev cX5_become : ByteArray := prog_8_method_3_code
def yX5_become : MethodName := ⟨RX5, "become", "(LBagCarouselModel$State;)V"⟩
abbrev cX5_put : ByteArray := prog_8_method_4_code
def yX5_put : MethodName := ⟨RX5, "put", "(III)V"⟩
abbrev cX5_toLine : ByteArray := prog_8_method_5_code
def yX5_toLine : MethodName := ⟨RX5, "toLine", "(I)V"⟩
abbrev cX5_toChute : ByteArray := prog_8_method_6_code
def yX5_toChute : MethodName := ⟨RX5, "toChute", "(II)V"⟩
abbrev cX5_turnRound : ByteArray := prog_8_method_7_code
def yX5_turnRound : MethodName := ⟨RX5, "turnRound", "()V"⟩
abbrev cX5_firstInLine : ByteArray := prog_8_method_8_code
def yX5_firstInLine : MethodName := ⟨RX5, "firstInLine", "()I"⟩
def RX6 : String := "BagCarouselModel"
def TX6 : u_T := fun k => match k with
  | 0 => ("BagCarouselModel", "thrown", "I", false)
  | 1 => ("BagCarouselModel", "flights", "I", false)
  | 2 => ("BagCarouselModel", "chuteOf", "[I", true)
  | 3 => ("BagCarouselModel", "isGone", "[Z", true)
  | 4 => ("BagCarouselModel", "room", "[I", true)
  | 5 => ("BagCarouselModel", "strength", "I", false)
  | 6 => ("BagCarouselModel", "bags", "I", false)
  | 7 => ("BagCarouselModel", "flight", "[I", true)
  | 8 => ("BagCarouselModel", "size", "[I", true)
  | 9 => ("BagCarouselModel", "smudge", "[I", true)
  | 10 => ("BagCarouselModel", "file", "[I", true)
  | 11 => ("BagCarouselModel", "s", "LBagCarouselModel$State;", true)
  | _ => ("BagCarouselModel", "ahead", "LBagCarouselModel$State;", true)
def tyX6 : Nat → FieldType := fun k => match k with
  | 0 => .int
  | 1 => .int
  | 2 => .array .int
  | 3 => .array .boolean
  | 4 => .array .int
  | 5 => .int
  | 6 => .int
  | 7 => .array .int
  | 8 => .array .int
  | 9 => .array .int
  | 10 => .array .int
  | 11 => .object "BagCarouselModel$State"
  | _ => .object "BagCarouselModel$State"
abbrev wsX60 : List Cond := u_ws RX6 TX6 13
theorem nmX6 : ∀ a, a < 13 → ∀ b, b < 13 → a ≠ b → (TX6 a).2.1 ≠ (TX6 b).2.1 := by decide +kernel
theorem tyX6_ok : ∀ k, k < 13 → parseFieldDescriptor (TX6 k).2.2.1 = some (tyX6 k) := by decide +kernel
abbrev cX6_init : ByteArray := prog_7_method_1_code
def yX6_init : MethodName := ⟨RX6, "<init>", "()V"⟩
abbrev cX6_thrown : ByteArray := prog_7_method_2_code
def yX6_thrown : MethodName := ⟨RX6, "thrown", "()I"⟩
abbrev cX6_no : ByteArray := prog_7_method_3_code
def yX6_no : MethodName := ⟨RX6, "no", "(I)I"⟩
abbrev cX6_isNot : ByteArray := prog_7_method_4_code
def yX6_isNot : MethodName := ⟨RX6, "isNot", "(I)Z"⟩
abbrev cX6_isIn : ByteArray := prog_7_method_5_code
def yX6_isIn : MethodName := ⟨RX6, "isIn", "(III)Z"⟩
abbrev cX6_isBag : ByteArray := prog_7_method_6_code
def yX6_isBag : MethodName := ⟨RX6, "isBag", "(I)Z"⟩
abbrev cX6_isFlight : ByteArray := prog_7_method_7_code
def yX6_isFlight : MethodName := ⟨RX6, "isFlight", "(I)Z"⟩
abbrev cX6_isChute : ByteArray := prog_7_method_8_code
def yX6_isChute : MethodName := ⟨RX6, "isChute", "(I)Z"⟩
abbrev cX6_readAt : ByteArray := prog_7_method_9_code
def yX6_readAt : MethodName := ⟨RX6, "readAt", "(LBagCarouselModel$State;)V"⟩
abbrev cX6_slide : ByteArray := prog_7_method_10_code
def yX6_slide : MethodName := ⟨RX6, "slide", "(LBagCarouselModel$State;I)I"⟩
abbrev cX6_minuteOn : ByteArray := prog_7_method_11_code
def yX6_minuteOn : MethodName := ⟨RX6, "minuteOn", "(LBagCarouselModel$State;)I"⟩
abbrev cX6_minutesOn : ByteArray := prog_7_method_12_code
def yX6_minutesOn : MethodName := ⟨RX6, "minutesOn", "(LBagCarouselModel$State;I)I"⟩
abbrev cX6_misrouted : ByteArray := prog_7_method_13_code
def yX6_misrouted : MethodName := ⟨RX6, "misrouted", "(I)Z"⟩
abbrev cX6_addFlight : ByteArray := prog_7_method_14_code
def yX6_addFlight : MethodName := ⟨RX6, "addFlight", "()I"⟩
abbrev cX6_giveChute : ByteArray := prog_7_method_15_code
def yX6_giveChute : MethodName := ⟨RX6, "giveChute", "(II)I"⟩
abbrev cX6_setReader : ByteArray := prog_7_method_16_code
def yX6_setReader : MethodName := ⟨RX6, "setReader", "(I)I"⟩
abbrev cX6_setRoom : ByteArray := prog_7_method_17_code
def yX6_setRoom : MethodName := ⟨RX6, "setRoom", "(II)I"⟩
abbrev cX6_begin : ByteArray := prog_7_method_18_code
def yX6_begin : MethodName := ⟨RX6, "begin", "(I)V"⟩
abbrev cX6_checkIn : ByteArray := prog_7_method_19_code
def yX6_checkIn : MethodName := ⟨RX6, "checkIn", "(III)I"⟩
abbrev cX6_isAside : ByteArray := prog_7_method_20_code
def yX6_isAside : MethodName := ⟨RX6, "isAside", "(I)Z"⟩
abbrev cX6_carry : ByteArray := prog_7_method_21_code
def yX6_carry : MethodName := ⟨RX6, "carry", "(I)I"⟩
abbrev cX6_close : ByteArray := prog_7_method_22_code
def yX6_close : MethodName := ⟨RX6, "close", "(I)V"⟩
abbrev cX6_forward : ByteArray := prog_7_method_23_code
def yX6_forward : MethodName := ⟨RX6, "forward", "(II)I"⟩
abbrev cX6_sweep : ByteArray := prog_7_method_24_code
def yX6_sweep : MethodName := ⟨RX6, "sweep", "(I)I"⟩
abbrev cX6_isInItsChute : ByteArray := prog_7_method_25_code
def yX6_isInItsChute : MethodName := ⟨RX6, "isInItsChute", "(I)Z"⟩
abbrev cX6_depart : ByteArray := prog_7_method_26_code
def yX6_depart : MethodName := ⟨RX6, "depart", "(I)I"⟩
abbrev cX6_pass : ByteArray := prog_7_method_27_code
def yX6_pass : MethodName := ⟨RX6, "pass", "(I)I"⟩
abbrev cX6_placed : ByteArray := prog_7_method_28_code
def yX6_placed : MethodName := ⟨RX6, "placed", "(II)I"⟩
abbrev cX6_flightOf : ByteArray := prog_7_method_29_code
def yX6_flightOf : MethodName := ⟨RX6, "flightOf", "(I)I"⟩
abbrev cX6_whereIs : ByteArray := prog_7_method_30_code
def yX6_whereIs : MethodName := ⟨RX6, "whereIs", "(I)I"⟩
abbrev cX6_placeOf : ByteArray := prog_7_method_31_code
def yX6_placeOf : MethodName := ⟨RX6, "placeOf", "(I)I"⟩
abbrev cX6_chuteOf : ByteArray := prog_7_method_32_code
def yX6_chuteOf : MethodName := ⟨RX6, "chuteOf", "(I)I"⟩
abbrev cX6_readFor : ByteArray := prog_7_method_33_code
def yX6_readFor : MethodName := ⟨RX6, "readFor", "(I)I"⟩
abbrev cX6_missesOf : ByteArray := prog_7_method_34_code
def yX6_missesOf : MethodName := ⟨RX6, "missesOf", "(I)I"⟩
abbrev cX6_isMisrouted : ByteArray := prog_7_method_35_code
def yX6_isMisrouted : MethodName := ⟨RX6, "isMisrouted", "(I)Z"⟩
abbrev cX6_hasOpenFile : ByteArray := prog_7_method_36_code
def yX6_hasOpenFile : MethodName := ⟨RX6, "hasOpenFile", "(I)Z"⟩
abbrev cX6_bagAt : ByteArray := prog_7_method_37_code
def yX6_bagAt : MethodName := ⟨RX6, "bagAt", "(I)I"⟩
abbrev cX6_bagsIn : ByteArray := prog_7_method_38_code
def yX6_bagsIn : MethodName := ⟨RX6, "bagsIn", "(I)I"⟩
abbrev cX6_badIn : ByteArray := prog_7_method_39_code
def yX6_badIn : MethodName := ⟨RX6, "badIn", "(I)I"⟩
abbrev cX6_misroutedIn : ByteArray := prog_7_method_40_code
def yX6_misroutedIn : MethodName := ⟨RX6, "misroutedIn", "(I)I"⟩
abbrev cX6_roomOf : ByteArray := prog_7_method_41_code
def yX6_roomOf : MethodName := ⟨RX6, "roomOf", "(I)I"⟩
abbrev cX6_chuteOfFlight : ByteArray := prog_7_method_42_code
def yX6_chuteOfFlight : MethodName := ⟨RX6, "chuteOfFlight", "(I)I"⟩
abbrev cX6_isGone : ByteArray := prog_7_method_43_code
def yX6_isGone : MethodName := ⟨RX6, "isGone", "(I)Z"⟩
abbrev cX6_readyIn : ByteArray := prog_7_method_44_code
def yX6_readyIn : MethodName := ⟨RX6, "readyIn", "(LBagCarouselModel$State;I)I"⟩
abbrev cX6_missing : ByteArray := prog_7_method_45_code
def yX6_missing : MethodName := ⟨RX6, "missing", "(I)I"⟩
abbrev cX6_readyOf : ByteArray := prog_7_method_46_code
def yX6_readyOf : MethodName := ⟨RX6, "readyOf", "(I)I"⟩
abbrev cX6_missingOf : ByteArray := prog_7_method_47_code
def yX6_missingOf : MethodName := ⟨RX6, "missingOf", "(I)I"⟩
abbrev cX6_counted : ByteArray := prog_7_method_48_code
def yX6_counted : MethodName := ⟨RX6, "counted", "(I)I"⟩
abbrev cX6_files : ByteArray := prog_7_method_49_code
def yX6_files : MethodName := ⟨RX6, "files", "(I)I"⟩
abbrev cX6_ok : ByteArray := prog_7_method_50_code
def yX6_ok : MethodName := ⟨RX6, "ok", "(I)I"⟩
abbrev cX6_minute : ByteArray := prog_7_method_51_code
def yX6_minute : MethodName := ⟨RX6, "minute", "()I"⟩
abbrev cX6_flights : ByteArray := prog_7_method_52_code
def yX6_flights : MethodName := ⟨RX6, "flights", "()I"⟩
abbrev cX6_bags : ByteArray := prog_7_method_53_code
def yX6_bags : MethodName := ⟨RX6, "bags", "()I"⟩
abbrev cX6_inLine : ByteArray := prog_7_method_54_code
def yX6_inLine : MethodName := ⟨RX6, "inLine", "()I"⟩
abbrev cX6_onBelt : ByteArray := prog_7_method_55_code
def yX6_onBelt : MethodName := ⟨RX6, "onBelt", "()I"⟩
abbrev cX6_atDesk : ByteArray := prog_7_method_56_code
def yX6_atDesk : MethodName := ⟨RX6, "atDesk", "()I"⟩
abbrev cX6_openFiles : ByteArray := prog_7_method_57_code
def yX6_openFiles : MethodName := ⟨RX6, "openFiles", "()I"⟩
abbrev cX6_closedFiles : ByteArray := prog_7_method_58_code
def yX6_closedFiles : MethodName := ⟨RX6, "closedFiles", "()I"⟩
abbrev cX6_reader : ByteArray := prog_7_method_59_code
def yX6_reader : MethodName := ⟨RX6, "reader", "()I"⟩
abbrev cX6_untilChute : ByteArray := prog_7_method_60_code
def yX6_untilChute : MethodName := ⟨RX6, "untilChute", "(I)I"⟩
abbrev cX6_minutesUntilChute : ByteArray := prog_7_method_61_code
def yX6_minutesUntilChute : MethodName := ⟨RX6, "minutesUntilChute", "(I)I"⟩
abbrev cX6_readyBehind : ByteArray := prog_7_method_62_code
def yX6_readyBehind : MethodName := ⟨RX6, "readyBehind", "(II)I"⟩
abbrev cX6_readyAfter : ByteArray := prog_7_method_63_code
def yX6_readyAfter : MethodName := ⟨RX6, "readyAfter", "(II)I"⟩
abbrev cX6_best : ByteArray := prog_7_method_64_code
def yX6_best : MethodName := ⟨RX6, "best", "(II)I"⟩
abbrev cX6_bestChute : ByteArray := prog_7_method_65_code
def yX6_bestChute : MethodName := ⟨RX6, "bestChute", "(II)I"⟩
abbrev cX6_meanMisses : ByteArray := prog_7_method_66_code
def yX6_meanMisses : MethodName := ⟨RX6, "meanMisses", "()D"⟩
abbrev cX6_one : ByteArray := prog_7_method_67_code
def yX6_one : MethodName := ⟨RX6, "one", "(Z)I"⟩
abbrev cX6_on : ByteArray := prog_7_method_68_code
def yX6_on : MethodName := ⟨RX6, "on", "(JI)J"⟩
abbrev cX6_digest : ByteArray := prog_7_method_69_code
def yX6_digest : MethodName := ⟨RX6, "digest", "()J"⟩
def RJx145de : String := "java/io/Serializable"
def TJx145de : u_T := fun k => match k with
  | _ => ("", "", "", false)
def tyJx145de : Nat → FieldType := fun k => match k with
  | _ => .int
abbrev wsJx145de0 : List Cond := u_ws RJx145de TJx145de 0
theorem nmJx145de : ∀ a, a < 0 → ∀ b, b < 0 → a ≠ b → (TJx145de a).2.1 ≠ (TJx145de b).2.1 := by decide +kernel
theorem tyJx145de_ok : ∀ k, k < 0 → parseFieldDescriptor (TJx145de k).2.2.1 = some (tyJx145de k) := by decide +kernel
def RJ9 : String := "java/lang/Math"
def TJ9 : u_T := fun k => match k with
  | _ => ("", "", "", false)
def tyJ9 : Nat → FieldType := fun k => match k with
  | _ => .int
abbrev wsJ90 : List Cond := u_ws RJ9 TJ9 0
theorem nmJ9 : ∀ a, a < 0 → ∀ b, b < 0 → a ≠ b → (TJ9 a).2.1 ≠ (TJ9 b).2.1 := by decide +kernel
theorem tyJ9_ok : ∀ k, k < 0 → parseFieldDescriptor (TJ9 k).2.2.1 = some (tyJ9 k) := by decide +kernel
abbrev cJ9_min_7cf53 : ByteArray := prog_13_method_69_code
def yJ9_min_7cf53 : MethodName := ⟨RJ9, "min", "(II)I"⟩
def RJ0 : String := "java/lang/String"
def TJ0 : u_T := fun k => match k with
  | _ => ("", "", "", false)
def tyJ0 : Nat → FieldType := fun k => match k with
  | _ => .int
abbrev wsJ00 : List Cond := u_ws RJ0 TJ0 0
theorem nmJ0 : ∀ a, a < 0 → ∀ b, b < 0 → a ≠ b → (TJ0 a).2.1 ≠ (TJ0 b).2.1 := by decide +kernel
theorem tyJ0_ok : ∀ k, k < 0 → parseFieldDescriptor (TJ0 k).2.2.1 = some (tyJ0 k) := by decide +kernel
def RJ10 : String := "java/lang/System"
def TJ10 : u_T := fun k => match k with
  | _ => ("", "", "", false)
def tyJ10 : Nat → FieldType := fun k => match k with
  | _ => .int
abbrev wsJ100 : List Cond := u_ws RJ10 TJ10 0
theorem nmJ10 : ∀ a, a < 0 → ∀ b, b < 0 → a ≠ b → (TJ10 a).2.1 ≠ (TJ10 b).2.1 := by decide +kernel
theorem tyJ10_ok : ∀ k, k < 0 → parseFieldDescriptor (TJ10 k).2.2.1 = some (tyJ10 k) := by decide +kernel
def RJ7 : String := "java/util/Arrays"
def TJ7 : u_T := fun k => match k with
  | _ => ("", "", "", false)
def tyJ7 : Nat → FieldType := fun k => match k with
  | _ => .int
abbrev wsJ70 : List Cond := u_ws RJ7 TJ7 0
theorem nmJ7 : ∀ a, a < 0 → ∀ b, b < 0 → a ≠ b → (TJ7 a).2.1 ≠ (TJ7 b).2.1 := by decide +kernel
theorem tyJ7_ok : ∀ k, k < 0 → parseFieldDescriptor (TJ7 k).2.2.1 = some (tyJ7 k) := by decide +kernel
abbrev cJ7_fill_53178 : ByteArray := prog_18_method_103_code
def yJ7_fill_53178 : MethodName := ⟨RJ7, "fill", "([II)V"⟩
def RL : String := "BagCarouselLaw"
abbrev cL_addFlight : ByteArray := method_3_code
def yL_addFlight : MethodName := ⟨RL, "addFlight", "(LBagCarousel;[J)I"⟩
abbrev cL_giveChute : ByteArray := method_4_code
def yL_giveChute : MethodName := ⟨RL, "giveChute", "(LBagCarousel;II[J)I"⟩
abbrev cL_setReader : ByteArray := method_5_code
def yL_setReader : MethodName := ⟨RL, "setReader", "(LBagCarousel;I[J)I"⟩
abbrev cL_setRoom : ByteArray := method_6_code
def yL_setRoom : MethodName := ⟨RL, "setRoom", "(LBagCarousel;II[J)I"⟩
abbrev cL_checkIn : ByteArray := method_7_code
def yL_checkIn : MethodName := ⟨RL, "checkIn", "(LBagCarousel;III[J)I"⟩
abbrev cL_carry : ByteArray := method_8_code
def yL_carry : MethodName := ⟨RL, "carry", "(LBagCarousel;I[J)I"⟩
abbrev cL_forward : ByteArray := method_9_code
def yL_forward : MethodName := ⟨RL, "forward", "(LBagCarousel;II[J)I"⟩
abbrev cL_sweep : ByteArray := method_10_code
def yL_sweep : MethodName := ⟨RL, "sweep", "(LBagCarousel;I[J)I"⟩
abbrev cL_depart : ByteArray := method_11_code
def yL_depart : MethodName := ⟨RL, "depart", "(LBagCarousel;I[J)I"⟩
abbrev cL_pass : ByteArray := method_12_code
def yL_pass : MethodName := ⟨RL, "pass", "(LBagCarousel;I[J)I"⟩
abbrev cL_flightOf : ByteArray := method_13_code
def yL_flightOf : MethodName := ⟨RL, "flightOf", "(LBagCarousel;I[J)I"⟩
abbrev cL_whereIs : ByteArray := method_14_code
def yL_whereIs : MethodName := ⟨RL, "whereIs", "(LBagCarousel;I[J)I"⟩
abbrev cL_placeOf : ByteArray := method_15_code
def yL_placeOf : MethodName := ⟨RL, "placeOf", "(LBagCarousel;I[J)I"⟩
abbrev cL_chuteOf : ByteArray := method_16_code
def yL_chuteOf : MethodName := ⟨RL, "chuteOf", "(LBagCarousel;I[J)I"⟩
abbrev cL_readFor : ByteArray := method_17_code
def yL_readFor : MethodName := ⟨RL, "readFor", "(LBagCarousel;I[J)I"⟩
abbrev cL_missesOf : ByteArray := method_18_code
def yL_missesOf : MethodName := ⟨RL, "missesOf", "(LBagCarousel;I[J)I"⟩
abbrev cL_isMisrouted : ByteArray := method_19_code
def yL_isMisrouted : MethodName := ⟨RL, "isMisrouted", "(LBagCarousel;I[J)I"⟩
abbrev cL_hasOpenFile : ByteArray := method_20_code
def yL_hasOpenFile : MethodName := ⟨RL, "hasOpenFile", "(LBagCarousel;I[J)I"⟩
abbrev cL_bagAt : ByteArray := method_21_code
def yL_bagAt : MethodName := ⟨RL, "bagAt", "(LBagCarousel;I[J)I"⟩
abbrev cL_bagsIn : ByteArray := method_22_code
def yL_bagsIn : MethodName := ⟨RL, "bagsIn", "(LBagCarousel;I[J)I"⟩
abbrev cL_misroutedIn : ByteArray := method_23_code
def yL_misroutedIn : MethodName := ⟨RL, "misroutedIn", "(LBagCarousel;I[J)I"⟩
abbrev cL_roomOf : ByteArray := method_24_code
def yL_roomOf : MethodName := ⟨RL, "roomOf", "(LBagCarousel;I[J)I"⟩
abbrev cL_chuteOfFlight : ByteArray := method_25_code
def yL_chuteOfFlight : MethodName := ⟨RL, "chuteOfFlight", "(LBagCarousel;I[J)I"⟩
abbrev cL_isGone : ByteArray := method_26_code
def yL_isGone : MethodName := ⟨RL, "isGone", "(LBagCarousel;I[J)I"⟩
abbrev cL_readyOf : ByteArray := method_27_code
def yL_readyOf : MethodName := ⟨RL, "readyOf", "(LBagCarousel;I[J)I"⟩
abbrev cL_missingOf : ByteArray := method_28_code
def yL_missingOf : MethodName := ⟨RL, "missingOf", "(LBagCarousel;I[J)I"⟩
abbrev cL_minutesUntilChute : ByteArray := method_29_code
def yL_minutesUntilChute : MethodName := ⟨RL, "minutesUntilChute", "(LBagCarousel;I[J)I"⟩
abbrev cL_readyAfter : ByteArray := method_30_code
def yL_readyAfter : MethodName := ⟨RL, "readyAfter", "(LBagCarousel;II[J)I"⟩
abbrev cL_bestChute : ByteArray := method_31_code
def yL_bestChute : MethodName := ⟨RL, "bestChute", "(LBagCarousel;II[J)I"⟩
abbrev cL_law : ByteArray := code
def yL_law : MethodName := ⟨RL, "law", "([I)Z"⟩
abbrev vwCl : List vw_C := [(RX0, TX0, 9), (RX1, TX1, 3), (RX2, TX2, 8), (RX3, TX3, 1), (RX4, TX4, 2), (RX5, TX5, 9), (RX6, TX6, 13)]
end
section
/-! the words of the tables that ride through calls, in one list; each by its place -/
def lw_all : List Cond := lw_tbl.filter goodWord
theorem lw_all_tbl {w : Cond} (h : w ∈ lw_all) : w ∈ lw_tbl := (List.mem_filter.mp h).1
theorem lw_mem {w : Cond} (i : Nat) (h : lw_tbl[i]? = some w) (g : goodWord w = true) : w ∈ lw_all := List.mem_filter.mpr ⟨List.mem_of_getElem? h, g⟩
theorem lw_good {w : Cond} (h : w ∈ lw_all) : w ∈ lw_all ∧ ((w.onTables && w.keeps) = true ∨ ∃ ty, w = .arrayClass ty) := ⟨h, good_of_word (List.mem_filter.mp h).2⟩
theorem lw_self : GoodIn lw_all lw_all := fun _ h => lw_good h
theorem lw_cons {w : Cond} {ws : List Cond} (h : w ∈ lw_all) (k : GoodIn lw_all ws) : GoodIn lw_all (w :: ws) := fun v hv => (List.mem_cons.mp hv).elim (fun e => by rw [e]; exact lw_good h) (k v)
theorem lw_sub {ws : List Cond} (ps : List Nat) (hp : ws = ps.filterMap (fun i => lw_tbl[i]?)) (hg : ws.all goodWord = true) : ∀ w ∈ ws, w ∈ lw_all := by
  intro w hw
  have h1 := List.all_eq_true.mp hg w hw
  rw [hp] at hw
  obtain ⟨i, -, hi⟩ := List.mem_filterMap.mp hw
  exact lw_mem i hi h1
abbrev ws_ (y : MethodName) (cc : ByteArray) (n : Nat) (r : Option FieldType) : List Cond := Cond.code y cc n r :: lw_all
theorem lw_C {y : MethodName} {cc : ByteArray} {n : Nat} {r : Option FieldType} (h : Cond.code y cc n r ∈ lw_all) : GoodIn lw_all (ws_ y cc n r) := lw_cons h lw_self
theorem lw_V {own C : String} {idx : Nat} {y : MethodName} {cc : ByteArray} {n : Nat} {r : Option FieldType} (h1 : Cond.methodLink own idx y ∈ lw_all) (h2 : Cond.instanceMethod y ∈ lw_all) (h3 : Cond.selects C y y ∈ lw_all) (h4 : Cond.initialized C ∈ lw_all) (h5 : Cond.code y cc n r ∈ lw_all) : GoodIn lw_all (wsV own idx C y (ws_ y cc n r)) := lw_cons h1 (lw_cons h2 (lw_cons h3 (lw_cons h4 (lw_C h5))))
theorem lw_S {own : String} {idx : Nat} {y : MethodName} {cc : ByteArray} {n : Nat} {r : Option FieldType} (h1 : Cond.methodLink own idx y ∈ lw_all) (h2 : Cond.static y ∈ lw_all) (h4 : Cond.initialized y.cls ∈ lw_all) (h5 : Cond.code y cc n r ∈ lw_all) : GoodIn lw_all (va_wsS own idx y (ws_ y cc n r)) := lw_cons h1 (lw_cons h2 (lw_cons h4 (lw_C h5)))

theorem tp_0 : Cond.selects RX4 yX4_addHall yX4_addHall ∈ lw_all := lw_mem 0 (by decide +kernel) rfl
theorem tp_1 : Cond.selects RX4 yX4_addBag yX4_addBag ∈ lw_all := lw_mem 1 (by decide +kernel) rfl
theorem tp_2 : Cond.selects RX4 yX4_addChute yX4_addChute ∈ lw_all := lw_mem 2 (by decide +kernel) rfl
theorem tp_3 : Cond.selects RX4 yX4_addOfFlight yX4_addOfFlight ∈ lw_all := lw_mem 3 (by decide +kernel) rfl
theorem tp_4 : Cond.selects "java/lang/Throwable" ⟨"java/lang/Throwable", "fillInStackTrace", "(I)Ljava/lang/Throwable;"⟩ ⟨"java/lang/Throwable", "fillInStackTrace", "(I)Ljava/lang/Throwable;"⟩ ∈ lw_all := lw_mem 4 (by decide +kernel) rfl
theorem tp_5 : Cond.selects RX4 yX4_needFlight yX4_needFlight ∈ lw_all := lw_mem 5 (by decide +kernel) rfl
theorem tp_6 : Cond.selects RX4 yX4_needNotGone yX4_needNotGone ∈ lw_all := lw_mem 6 (by decide +kernel) rfl
theorem tp_7 : Cond.selects RX4 yX4_needBag yX4_needBag ∈ lw_all := lw_mem 7 (by decide +kernel) rfl
theorem tp_8 : Cond.selects RX4 yX4_needInHand yX4_needInHand ∈ lw_all := lw_mem 8 (by decide +kernel) rfl
theorem tp_9 : Cond.selects RX4 yX4_readyWithChute yX4_readyWithChute ∈ lw_all := lw_mem 9 (by decide +kernel) rfl
theorem tp_10 : Cond.selects RX6 yX6_no yX6_no ∈ lw_all := lw_mem 10 (by decide +kernel) rfl
theorem tp_11 : Cond.selects RX6 yX6_isFlight yX6_isFlight ∈ lw_all := lw_mem 11 (by decide +kernel) rfl
theorem tp_12 : Cond.selects RX6 yX6_begin yX6_begin ∈ lw_all := lw_mem 12 (by decide +kernel) rfl
theorem tp_13 : Cond.selects RX6 yX6_isBag yX6_isBag ∈ lw_all := lw_mem 13 (by decide +kernel) rfl
theorem tp_14 : Cond.selects RX6 yX6_isAside yX6_isAside ∈ lw_all := lw_mem 14 (by decide +kernel) rfl
theorem tp_15 : Cond.selects RX6 yX6_close yX6_close ∈ lw_all := lw_mem 15 (by decide +kernel) rfl
theorem tp_16 : Cond.selects RX6 yX6_misrouted yX6_misrouted ∈ lw_all := lw_mem 16 (by decide +kernel) rfl
theorem tp_17 : Cond.selects RX6 yX6_isInItsChute yX6_isInItsChute ∈ lw_all := lw_mem 17 (by decide +kernel) rfl
theorem tp_18 : Cond.selects RX6 yX6_minutesOn yX6_minutesOn ∈ lw_all := lw_mem 18 (by decide +kernel) rfl
theorem tp_19 : Cond.selects RX6 yX6_minuteOn yX6_minuteOn ∈ lw_all := lw_mem 19 (by decide +kernel) rfl
theorem tp_20 : Cond.selects RX6 yX6_readAt yX6_readAt ∈ lw_all := lw_mem 20 (by decide +kernel) rfl
theorem tp_21 : Cond.selects RX6 yX6_slide yX6_slide ∈ lw_all := lw_mem 21 (by decide +kernel) rfl
theorem tp_22 : Cond.selects RX6 yX6_placed yX6_placed ∈ lw_all := lw_mem 22 (by decide +kernel) rfl
theorem tp_23 : Cond.selects RX6 yX6_isNot yX6_isNot ∈ lw_all := lw_mem 23 (by decide +kernel) rfl
theorem tp_24 : Cond.selects RX6 yX6_badIn yX6_badIn ∈ lw_all := lw_mem 24 (by decide +kernel) rfl
theorem tp_25 : Cond.selects RX6 yX6_readyIn yX6_readyIn ∈ lw_all := lw_mem 25 (by decide +kernel) rfl
theorem tp_26 : Cond.selects RX6 yX6_missing yX6_missing ∈ lw_all := lw_mem 26 (by decide +kernel) rfl
theorem tp_27 : Cond.selects RX6 yX6_ok yX6_ok ∈ lw_all := lw_mem 27 (by decide +kernel) rfl
theorem tp_28 : Cond.selects RX6 yX6_counted yX6_counted ∈ lw_all := lw_mem 28 (by decide +kernel) rfl
theorem tp_29 : Cond.selects RX6 yX6_files yX6_files ∈ lw_all := lw_mem 29 (by decide +kernel) rfl
theorem tp_30 : Cond.selects RX6 yX6_untilChute yX6_untilChute ∈ lw_all := lw_mem 30 (by decide +kernel) rfl
theorem tp_31 : Cond.selects RX6 yX6_readyBehind yX6_readyBehind ∈ lw_all := lw_mem 31 (by decide +kernel) rfl
theorem tp_32 : Cond.selects RX6 yX6_best yX6_best ∈ lw_all := lw_mem 32 (by decide +kernel) rfl
theorem tw_0 : Cond.initialized RL ∈ lw_all := lw_mem 33 (by decide +kernel) rfl
theorem tw_1 : Cond.initialized RX4 ∈ lw_all := lw_mem 34 (by decide +kernel) rfl
theorem tw_2 : Cond.initialized RX2 ∈ lw_all := lw_mem 35 (by decide +kernel) rfl
theorem tw_3 : Cond.initialized RX1 ∈ lw_all := lw_mem 36 (by decide +kernel) rfl
theorem tw_4 : Cond.initialized RX3 ∈ lw_all := lw_mem 37 (by decide +kernel) rfl
theorem tw_5 : Cond.initialized RJ7 ∈ lw_all := lw_mem 38 (by decide +kernel) rfl
theorem tw_6 : Cond.initialized RX0 ∈ lw_all := lw_mem 39 (by decide +kernel) rfl
theorem tw_7 : Cond.initialized RX6 ∈ lw_all := lw_mem 40 (by decide +kernel) rfl
theorem tw_8 : Cond.initialized RX5 ∈ lw_all := lw_mem 41 (by decide +kernel) rfl
theorem tw_9 : Cond.initialized "java/lang/Throwable" ∈ lw_all := lw_mem 42 (by decide +kernel) rfl
theorem tw_10 : Cond.initialized "java/lang/Exception" ∈ lw_all := lw_mem 43 (by decide +kernel) rfl
theorem tw_11 : Cond.initialized "java/lang/RuntimeException" ∈ lw_all := lw_mem 44 (by decide +kernel) rfl
theorem tw_12 : Cond.initialized "java/lang/IllegalStateException" ∈ lw_all := lw_mem 45 (by decide +kernel) rfl
theorem tw_13 : Cond.initialized "java/lang/IndexOutOfBoundsException" ∈ lw_all := lw_mem 46 (by decide +kernel) rfl
theorem tw_14 : Cond.initialized "java/lang/IllegalArgumentException" ∈ lw_all := lw_mem 47 (by decide +kernel) rfl
theorem tw_15 : Cond.initialized RJ10 ∈ lw_all := lw_mem 48 (by decide +kernel) rfl
theorem tw_16 : Cond.initialized RJ9 ∈ lw_all := lw_mem 49 (by decide +kernel) rfl
theorem tw_17 : Cond.classLink RL 8 RX4 ∈ lw_all := lw_mem 50 (by decide +kernel) rfl
theorem tw_18 : Cond.instantiable RX4 2 ∈ lw_all := lw_mem 51 (by decide +kernel) rfl
theorem tw_19 : Cond.methodLink RL 107 yX4_init ∈ lw_all := lw_mem 52 (by decide +kernel) rfl
theorem tw_20 : Cond.instanceMethod yX4_init ∈ lw_all := lw_mem 53 (by decide +kernel) rfl
theorem tw_21 : Cond.code yX4_init cX4_init 1 none ∈ lw_all := lw_mem 54 (by decide +kernel) rfl
theorem tw_22 : Cond.methodLink RX4 1 objectInit ∈ lw_all := lw_mem 55 (by decide +kernel) rfl
theorem tw_23 : Cond.instanceMethod objectInit ∈ lw_all := lw_mem 56 (by decide +kernel) rfl
theorem tw_24 : Cond.code objectInit object_method_1_code 1 none ∈ lw_all := lw_mem 57 (by decide +kernel) rfl
theorem tw_25 : Cond.classLink RX4 7 RX2 ∈ lw_all := lw_mem 58 (by decide +kernel) rfl
theorem tw_26 : Cond.instantiable RX2 8 ∈ lw_all := lw_mem 59 (by decide +kernel) rfl
theorem tw_28 : Cond.instanceMethod yX2_init ∈ lw_all := lw_mem 61 (by decide +kernel) rfl
theorem tw_29 : Cond.code yX2_init cX2_init 1 none ∈ lw_all := lw_mem 62 (by decide +kernel) rfl
theorem tw_30 : Cond.methodLink RX2 3 objectInit ∈ lw_all := lw_mem 63 (by decide +kernel) rfl
theorem tw_31 : Cond.classLink RX2 15 RX1 ∈ lw_all := lw_mem 64 (by decide +kernel) rfl
theorem tw_32 : Cond.instantiable RX1 3 ∈ lw_all := lw_mem 65 (by decide +kernel) rfl
theorem tw_34 : Cond.instanceMethod yX1_init ∈ lw_all := lw_mem 67 (by decide +kernel) rfl
theorem tw_35 : Cond.code yX1_init cX1_init 1 none ∈ lw_all := lw_mem 68 (by decide +kernel) rfl
theorem tw_36 : Cond.methodLink RX1 3 objectInit ∈ lw_all := lw_mem 69 (by decide +kernel) rfl
theorem tw_37 : Cond.classLink RX1 9 RX3 ∈ lw_all := lw_mem 70 (by decide +kernel) rfl
theorem tw_38 : Cond.instantiable RX3 1 ∈ lw_all := lw_mem 71 (by decide +kernel) rfl
theorem tw_39 : Cond.methodLink RX1 11 yX3_init ∈ lw_all := lw_mem 72 (by decide +kernel) rfl
theorem tw_40 : Cond.instanceMethod yX3_init ∈ lw_all := lw_mem 73 (by decide +kernel) rfl
theorem tw_41 : Cond.code yX3_init cX3_init 3 none ∈ lw_all := lw_mem 74 (by decide +kernel) rfl
theorem tw_42 : Cond.methodLink RX3 3 objectInit ∈ lw_all := lw_mem 75 (by decide +kernel) rfl
theorem tw_43 : Cond.methodLink RX3 15 yJ7_fill_53178 ∈ lw_all := lw_mem 76 (by decide +kernel) rfl
theorem tw_44 : Cond.static yJ7_fill_53178 ∈ lw_all := lw_mem 77 (by decide +kernel) rfl
theorem tw_45 : Cond.code yJ7_fill_53178 cJ7_fill_53178 4 none ∈ lw_all := lw_mem 78 (by decide +kernel) rfl
theorem tw_46 : Cond.fieldLink RX3 9 "BagCarousel$Row" "cells" "[I" ∈ lw_all := lw_mem 79 (by decide +kernel) rfl
theorem tw_47 : Cond.laysFinal "BagCarousel$Row" "BagCarousel$Row" "cells" "[I" ∈ lw_all := lw_mem 80 (by decide +kernel) rfl
theorem tw_48 : Cond.soleField "BagCarousel$Row" "cells" ∈ lw_all := lw_mem 81 (by decide +kernel) rfl
theorem tw_49 : Cond.superclass "BagCarousel$Row" "java/lang/Object" ∈ lw_all := lw_mem 82 (by decide +kernel) rfl
theorem tw_50 : Cond.arrayClass FieldType.int ∈ lw_all := lw_mem 83 (by decide +kernel) rfl
theorem tw_51 : Cond.fieldLink RX1 23 "BagCarousel$Flights" "count" "I" ∈ lw_all := lw_mem 84 (by decide +kernel) rfl
theorem tw_52 : Cond.fieldLink RX4 23 "BagCarousel$Flights" "count" "I" ∈ lw_all := lw_mem 85 (by decide +kernel) rfl
theorem tw_53 : Cond.fieldLink RX1 14 "BagCarousel$Flights" "chute" "LBagCarousel$Row;" ∈ lw_all := lw_mem 86 (by decide +kernel) rfl
theorem tw_54 : Cond.fieldLink RX2 87 "BagCarousel$Flights" "chute" "LBagCarousel$Row;" ∈ lw_all := lw_mem 87 (by decide +kernel) rfl
theorem tw_55 : Cond.fieldLink RX4 104 "BagCarousel$Flights" "chute" "LBagCarousel$Row;" ∈ lw_all := lw_mem 88 (by decide +kernel) rfl
theorem tw_56 : Cond.fieldLink RX1 20 "BagCarousel$Flights" "gone" "LBagCarousel$Row;" ∈ lw_all := lw_mem 89 (by decide +kernel) rfl
theorem tw_57 : Cond.fieldLink RX2 101 "BagCarousel$Flights" "gone" "LBagCarousel$Row;" ∈ lw_all := lw_mem 90 (by decide +kernel) rfl
theorem tw_58 : Cond.lays "BagCarousel$Flights" "BagCarousel$Flights" "count" "I" ∈ lw_all := lw_mem 91 (by decide +kernel) rfl
theorem tw_59 : Cond.soleField "BagCarousel$Flights" "count" ∈ lw_all := lw_mem 92 (by decide +kernel) rfl
theorem tw_60 : Cond.laysFinal "BagCarousel$Flights" "BagCarousel$Flights" "chute" "LBagCarousel$Row;" ∈ lw_all := lw_mem 93 (by decide +kernel) rfl
theorem tw_61 : Cond.soleField "BagCarousel$Flights" "chute" ∈ lw_all := lw_mem 94 (by decide +kernel) rfl
theorem tw_62 : Cond.laysFinal "BagCarousel$Flights" "BagCarousel$Flights" "gone" "LBagCarousel$Row;" ∈ lw_all := lw_mem 95 (by decide +kernel) rfl
theorem tw_63 : Cond.soleField "BagCarousel$Flights" "gone" ∈ lw_all := lw_mem 96 (by decide +kernel) rfl
theorem tw_64 : Cond.superclass "BagCarousel$Flights" "java/lang/Object" ∈ lw_all := lw_mem 97 (by decide +kernel) rfl
theorem tw_65 : Cond.classLink RX2 22 RX0 ∈ lw_all := lw_mem 98 (by decide +kernel) rfl
theorem tw_66 : Cond.instantiable RX0 9 ∈ lw_all := lw_mem 99 (by decide +kernel) rfl
theorem tw_68 : Cond.instanceMethod yX0_init ∈ lw_all := lw_mem 101 (by decide +kernel) rfl
theorem tw_69 : Cond.code yX0_init cX0_init 1 none ∈ lw_all := lw_mem 102 (by decide +kernel) rfl
theorem tw_70 : Cond.methodLink RX0 3 objectInit ∈ lw_all := lw_mem 103 (by decide +kernel) rfl
theorem tw_71 : Cond.classLink RX0 9 RX3 ∈ lw_all := lw_mem 104 (by decide +kernel) rfl
theorem tw_72 : Cond.methodLink RX0 11 yX3_init ∈ lw_all := lw_mem 105 (by decide +kernel) rfl
theorem tw_73 : Cond.fieldLink RX0 41 "BagCarousel$Bags" "count" "I" ∈ lw_all := lw_mem 106 (by decide +kernel) rfl
theorem tw_74 : Cond.fieldLink RX2 74 "BagCarousel$Bags" "count" "I" ∈ lw_all := lw_mem 107 (by decide +kernel) rfl
theorem tw_75 : Cond.fieldLink RX4 84 "BagCarousel$Bags" "count" "I" ∈ lw_all := lw_mem 108 (by decide +kernel) rfl
theorem tw_76 : Cond.fieldLink RX0 14 "BagCarousel$Bags" "flight" "LBagCarousel$Row;" ∈ lw_all := lw_mem 109 (by decide +kernel) rfl
theorem tw_77 : Cond.fieldLink RX2 77 "BagCarousel$Bags" "flight" "LBagCarousel$Row;" ∈ lw_all := lw_mem 110 (by decide +kernel) rfl
theorem tw_78 : Cond.fieldLink RX4 101 "BagCarousel$Bags" "flight" "LBagCarousel$Row;" ∈ lw_all := lw_mem 111 (by decide +kernel) rfl
theorem tw_79 : Cond.fieldLink RX0 20 "BagCarousel$Bags" "size" "LBagCarousel$Row;" ∈ lw_all := lw_mem 112 (by decide +kernel) rfl
theorem tw_80 : Cond.fieldLink RX2 60 "BagCarousel$Bags" "size" "LBagCarousel$Row;" ∈ lw_all := lw_mem 113 (by decide +kernel) rfl
theorem tw_81 : Cond.fieldLink RX0 23 "BagCarousel$Bags" "smudge" "LBagCarousel$Row;" ∈ lw_all := lw_mem 114 (by decide +kernel) rfl
theorem tw_82 : Cond.fieldLink RX2 123 "BagCarousel$Bags" "smudge" "LBagCarousel$Row;" ∈ lw_all := lw_mem 115 (by decide +kernel) rfl
theorem tw_83 : Cond.fieldLink RX0 26 "BagCarousel$Bags" "where" "LBagCarousel$Row;" ∈ lw_all := lw_mem 116 (by decide +kernel) rfl
theorem tw_84 : Cond.fieldLink RX2 67 "BagCarousel$Bags" "where" "LBagCarousel$Row;" ∈ lw_all := lw_mem 117 (by decide +kernel) rfl
theorem tw_85 : Cond.fieldLink RX4 142 "BagCarousel$Bags" "where" "LBagCarousel$Row;" ∈ lw_all := lw_mem 118 (by decide +kernel) rfl
theorem tw_86 : Cond.fieldLink RX0 29 "BagCarousel$Bags" "chute" "LBagCarousel$Row;" ∈ lw_all := lw_mem 119 (by decide +kernel) rfl
theorem tw_87 : Cond.fieldLink RX2 84 "BagCarousel$Bags" "chute" "LBagCarousel$Row;" ∈ lw_all := lw_mem 120 (by decide +kernel) rfl
theorem tw_88 : Cond.fieldLink RX4 148 "BagCarousel$Bags" "chute" "LBagCarousel$Row;" ∈ lw_all := lw_mem 121 (by decide +kernel) rfl
theorem tw_89 : Cond.fieldLink RX0 32 "BagCarousel$Bags" "read" "LBagCarousel$Row;" ∈ lw_all := lw_mem 122 (by decide +kernel) rfl
theorem tw_90 : Cond.fieldLink RX2 120 "BagCarousel$Bags" "read" "LBagCarousel$Row;" ∈ lw_all := lw_mem 123 (by decide +kernel) rfl
theorem tw_91 : Cond.fieldLink RX4 149 "BagCarousel$Bags" "read" "LBagCarousel$Row;" ∈ lw_all := lw_mem 124 (by decide +kernel) rfl
theorem tw_92 : Cond.fieldLink RX0 35 "BagCarousel$Bags" "misses" "LBagCarousel$Row;" ∈ lw_all := lw_mem 125 (by decide +kernel) rfl
theorem tw_93 : Cond.fieldLink RX2 129 "BagCarousel$Bags" "misses" "LBagCarousel$Row;" ∈ lw_all := lw_mem 126 (by decide +kernel) rfl
theorem tw_94 : Cond.fieldLink RX4 152 "BagCarousel$Bags" "misses" "LBagCarousel$Row;" ∈ lw_all := lw_mem 127 (by decide +kernel) rfl
theorem tw_95 : Cond.fieldLink RX0 38 "BagCarousel$Bags" "file" "LBagCarousel$Row;" ∈ lw_all := lw_mem 128 (by decide +kernel) rfl
theorem tw_96 : Cond.fieldLink RX2 98 "BagCarousel$Bags" "file" "LBagCarousel$Row;" ∈ lw_all := lw_mem 129 (by decide +kernel) rfl
theorem tw_97 : Cond.fieldLink RX4 158 "BagCarousel$Bags" "file" "LBagCarousel$Row;" ∈ lw_all := lw_mem 130 (by decide +kernel) rfl
theorem tw_98 : Cond.lays "BagCarousel$Bags" "BagCarousel$Bags" "count" "I" ∈ lw_all := lw_mem 131 (by decide +kernel) rfl
theorem tw_99 : Cond.soleField "BagCarousel$Bags" "count" ∈ lw_all := lw_mem 132 (by decide +kernel) rfl
theorem tw_100 : Cond.laysFinal "BagCarousel$Bags" "BagCarousel$Bags" "flight" "LBagCarousel$Row;" ∈ lw_all := lw_mem 133 (by decide +kernel) rfl
theorem tw_101 : Cond.soleField "BagCarousel$Bags" "flight" ∈ lw_all := lw_mem 134 (by decide +kernel) rfl
theorem tw_102 : Cond.laysFinal "BagCarousel$Bags" "BagCarousel$Bags" "size" "LBagCarousel$Row;" ∈ lw_all := lw_mem 135 (by decide +kernel) rfl
theorem tw_103 : Cond.soleField "BagCarousel$Bags" "size" ∈ lw_all := lw_mem 136 (by decide +kernel) rfl
theorem tw_104 : Cond.laysFinal "BagCarousel$Bags" "BagCarousel$Bags" "smudge" "LBagCarousel$Row;" ∈ lw_all := lw_mem 137 (by decide +kernel) rfl
theorem tw_105 : Cond.soleField "BagCarousel$Bags" "smudge" ∈ lw_all := lw_mem 138 (by decide +kernel) rfl
theorem tw_106 : Cond.laysFinal "BagCarousel$Bags" "BagCarousel$Bags" "where" "LBagCarousel$Row;" ∈ lw_all := lw_mem 139 (by decide +kernel) rfl
theorem tw_107 : Cond.soleField "BagCarousel$Bags" "where" ∈ lw_all := lw_mem 140 (by decide +kernel) rfl
theorem tw_108 : Cond.laysFinal "BagCarousel$Bags" "BagCarousel$Bags" "chute" "LBagCarousel$Row;" ∈ lw_all := lw_mem 141 (by decide +kernel) rfl
theorem tw_109 : Cond.soleField "BagCarousel$Bags" "chute" ∈ lw_all := lw_mem 142 (by decide +kernel) rfl
theorem tw_110 : Cond.laysFinal "BagCarousel$Bags" "BagCarousel$Bags" "read" "LBagCarousel$Row;" ∈ lw_all := lw_mem 143 (by decide +kernel) rfl
theorem tw_111 : Cond.soleField "BagCarousel$Bags" "read" ∈ lw_all := lw_mem 144 (by decide +kernel) rfl
theorem tw_112 : Cond.laysFinal "BagCarousel$Bags" "BagCarousel$Bags" "misses" "LBagCarousel$Row;" ∈ lw_all := lw_mem 145 (by decide +kernel) rfl
theorem tw_113 : Cond.soleField "BagCarousel$Bags" "misses" ∈ lw_all := lw_mem 146 (by decide +kernel) rfl
theorem tw_114 : Cond.laysFinal "BagCarousel$Bags" "BagCarousel$Bags" "file" "LBagCarousel$Row;" ∈ lw_all := lw_mem 147 (by decide +kernel) rfl
theorem tw_115 : Cond.soleField "BagCarousel$Bags" "file" ∈ lw_all := lw_mem 148 (by decide +kernel) rfl
theorem tw_116 : Cond.superclass "BagCarousel$Bags" "java/lang/Object" ∈ lw_all := lw_mem 149 (by decide +kernel) rfl
theorem tw_117 : Cond.classLink RX2 29 RX3 ∈ lw_all := lw_mem 150 (by decide +kernel) rfl
theorem tw_118 : Cond.methodLink RX2 31 yX3_init ∈ lw_all := lw_mem 151 (by decide +kernel) rfl
theorem tw_119 : Cond.fieldLink RX2 44 "BagCarousel$Hall" "minutesGone" "I" ∈ lw_all := lw_mem 152 (by decide +kernel) rfl
theorem tw_120 : Cond.fieldLink RX4 180 "BagCarousel$Hall" "minutesGone" "I" ∈ lw_all := lw_mem 153 (by decide +kernel) rfl
theorem tw_121 : Cond.fieldLink RX2 9 "BagCarousel$Hall" "strength" "I" ∈ lw_all := lw_mem 154 (by decide +kernel) rfl
theorem tw_122 : Cond.fieldLink RX4 59 "BagCarousel$Hall" "strength" "I" ∈ lw_all := lw_mem 155 (by decide +kernel) rfl
theorem tw_123 : Cond.fieldLink RX2 47 "BagCarousel$Hall" "lineCount" "I" ∈ lw_all := lw_mem 156 (by decide +kernel) rfl
theorem tw_124 : Cond.fieldLink RX4 127 "BagCarousel$Hall" "lineCount" "I" ∈ lw_all := lw_mem 157 (by decide +kernel) rfl
theorem tw_125 : Cond.fieldLink RX2 18 "BagCarousel$Hall" "flights" "LBagCarousel$Flights;" ∈ lw_all := lw_mem 158 (by decide +kernel) rfl
theorem tw_126 : Cond.fieldLink RX4 19 "BagCarousel$Hall" "flights" "LBagCarousel$Flights;" ∈ lw_all := lw_mem 159 (by decide +kernel) rfl
theorem tw_127 : Cond.fieldLink RX2 25 "BagCarousel$Hall" "bags" "LBagCarousel$Bags;" ∈ lw_all := lw_mem 160 (by decide +kernel) rfl
theorem tw_128 : Cond.fieldLink RX4 80 "BagCarousel$Hall" "bags" "LBagCarousel$Bags;" ∈ lw_all := lw_mem 161 (by decide +kernel) rfl
theorem tw_129 : Cond.fieldLink RX2 34 "BagCarousel$Hall" "rooms" "LBagCarousel$Row;" ∈ lw_all := lw_mem 162 (by decide +kernel) rfl
theorem tw_130 : Cond.fieldLink RX4 64 "BagCarousel$Hall" "rooms" "LBagCarousel$Row;" ∈ lw_all := lw_mem 163 (by decide +kernel) rfl
theorem tw_131 : Cond.fieldLink RX2 38 "BagCarousel$Hall" "belt" "LBagCarousel$Row;" ∈ lw_all := lw_mem 164 (by decide +kernel) rfl
theorem tw_132 : Cond.fieldLink RX4 166 "BagCarousel$Hall" "belt" "LBagCarousel$Row;" ∈ lw_all := lw_mem 165 (by decide +kernel) rfl
theorem tw_133 : Cond.fieldLink RX2 41 "BagCarousel$Hall" "line" "LBagCarousel$Row;" ∈ lw_all := lw_mem 166 (by decide +kernel) rfl
theorem tw_134 : Cond.lays "BagCarousel$Hall" "BagCarousel$Hall" "minutesGone" "I" ∈ lw_all := lw_mem 167 (by decide +kernel) rfl
theorem tw_135 : Cond.soleField "BagCarousel$Hall" "minutesGone" ∈ lw_all := lw_mem 168 (by decide +kernel) rfl
theorem tw_136 : Cond.lays "BagCarousel$Hall" "BagCarousel$Hall" "strength" "I" ∈ lw_all := lw_mem 169 (by decide +kernel) rfl
theorem tw_137 : Cond.soleField "BagCarousel$Hall" "strength" ∈ lw_all := lw_mem 170 (by decide +kernel) rfl
theorem tw_138 : Cond.lays "BagCarousel$Hall" "BagCarousel$Hall" "lineCount" "I" ∈ lw_all := lw_mem 171 (by decide +kernel) rfl
theorem tw_139 : Cond.soleField "BagCarousel$Hall" "lineCount" ∈ lw_all := lw_mem 172 (by decide +kernel) rfl
theorem tw_140 : Cond.laysFinal "BagCarousel$Hall" "BagCarousel$Hall" "flights" "LBagCarousel$Flights;" ∈ lw_all := lw_mem 173 (by decide +kernel) rfl
theorem tw_141 : Cond.soleField "BagCarousel$Hall" "flights" ∈ lw_all := lw_mem 174 (by decide +kernel) rfl
theorem tw_142 : Cond.laysFinal "BagCarousel$Hall" "BagCarousel$Hall" "bags" "LBagCarousel$Bags;" ∈ lw_all := lw_mem 175 (by decide +kernel) rfl
theorem tw_143 : Cond.soleField "BagCarousel$Hall" "bags" ∈ lw_all := lw_mem 176 (by decide +kernel) rfl
theorem tw_144 : Cond.laysFinal "BagCarousel$Hall" "BagCarousel$Hall" "rooms" "LBagCarousel$Row;" ∈ lw_all := lw_mem 177 (by decide +kernel) rfl
theorem tw_145 : Cond.soleField "BagCarousel$Hall" "rooms" ∈ lw_all := lw_mem 178 (by decide +kernel) rfl
theorem tw_146 : Cond.laysFinal "BagCarousel$Hall" "BagCarousel$Hall" "belt" "LBagCarousel$Row;" ∈ lw_all := lw_mem 179 (by decide +kernel) rfl
theorem tw_147 : Cond.soleField "BagCarousel$Hall" "belt" ∈ lw_all := lw_mem 180 (by decide +kernel) rfl
theorem tw_148 : Cond.laysFinal "BagCarousel$Hall" "BagCarousel$Hall" "line" "LBagCarousel$Row;" ∈ lw_all := lw_mem 181 (by decide +kernel) rfl
theorem tw_149 : Cond.soleField "BagCarousel$Hall" "line" ∈ lw_all := lw_mem 182 (by decide +kernel) rfl
theorem tw_150 : Cond.superclass "BagCarousel$Hall" "java/lang/Object" ∈ lw_all := lw_mem 183 (by decide +kernel) rfl
theorem tw_151 : Cond.fieldLink RX4 10 "BagCarousel" "hall" "LBagCarousel$Hall;" ∈ lw_all := lw_mem 184 (by decide +kernel) rfl
theorem tw_152 : Cond.fieldLink RX4 16 "BagCarousel" "trial" "LBagCarousel$Hall;" ∈ lw_all := lw_mem 185 (by decide +kernel) rfl
theorem tw_153 : Cond.laysFinal "BagCarousel" "BagCarousel" "hall" "LBagCarousel$Hall;" ∈ lw_all := lw_mem 186 (by decide +kernel) rfl
theorem tw_154 : Cond.soleField "BagCarousel" "hall" ∈ lw_all := lw_mem 187 (by decide +kernel) rfl
theorem tw_155 : Cond.laysFinal "BagCarousel" "BagCarousel" "trial" "LBagCarousel$Hall;" ∈ lw_all := lw_mem 188 (by decide +kernel) rfl
theorem tw_156 : Cond.soleField "BagCarousel" "trial" ∈ lw_all := lw_mem 189 (by decide +kernel) rfl
theorem tw_157 : Cond.superclass "BagCarousel" "java/lang/Object" ∈ lw_all := lw_mem 190 (by decide +kernel) rfl
theorem tw_158 : Cond.methodLink RL 198 yX4_minute ∈ lw_all := lw_mem 191 (by decide +kernel) rfl
theorem tw_159 : Cond.instanceMethod yX4_minute ∈ lw_all := lw_mem 192 (by decide +kernel) rfl
theorem tw_160 : Cond.selects RX4 yX4_minute yX4_minute ∈ lw_all := lw_mem 193 (by decide +kernel) rfl
theorem tw_161 : Cond.code yX4_minute cX4_minute 1 (some FieldType.int) ∈ lw_all := lw_mem 194 (by decide +kernel) rfl
theorem tw_162 : Cond.methodLink RL 202 yX4_flights ∈ lw_all := lw_mem 195 (by decide +kernel) rfl
theorem tw_163 : Cond.instanceMethod yX4_flights ∈ lw_all := lw_mem 196 (by decide +kernel) rfl
theorem tw_164 : Cond.selects RX4 yX4_flights yX4_flights ∈ lw_all := lw_mem 197 (by decide +kernel) rfl
theorem tw_165 : Cond.code yX4_flights cX4_flights 1 (some FieldType.int) ∈ lw_all := lw_mem 198 (by decide +kernel) rfl
theorem tw_166 : Cond.methodLink RL 206 yX4_bags ∈ lw_all := lw_mem 199 (by decide +kernel) rfl
theorem tw_167 : Cond.instanceMethod yX4_bags ∈ lw_all := lw_mem 200 (by decide +kernel) rfl
theorem tw_168 : Cond.selects RX4 yX4_bags yX4_bags ∈ lw_all := lw_mem 201 (by decide +kernel) rfl
theorem tw_169 : Cond.code yX4_bags cX4_bags 1 (some FieldType.int) ∈ lw_all := lw_mem 202 (by decide +kernel) rfl
theorem tw_170 : Cond.methodLink RL 210 yX4_inLine ∈ lw_all := lw_mem 203 (by decide +kernel) rfl
theorem tw_171 : Cond.instanceMethod yX4_inLine ∈ lw_all := lw_mem 204 (by decide +kernel) rfl
theorem tw_172 : Cond.selects RX4 yX4_inLine yX4_inLine ∈ lw_all := lw_mem 205 (by decide +kernel) rfl
theorem tw_173 : Cond.code yX4_inLine cX4_inLine 1 (some FieldType.int) ∈ lw_all := lw_mem 206 (by decide +kernel) rfl
theorem tw_174 : Cond.methodLink RX4 169 yX3_count ∈ lw_all := lw_mem 207 (by decide +kernel) rfl
theorem tw_175 : Cond.instanceMethod yX3_count ∈ lw_all := lw_mem 208 (by decide +kernel) rfl
theorem tw_176 : Cond.selects RX3 yX3_count yX3_count ∈ lw_all := lw_mem 209 (by decide +kernel) rfl
theorem tw_177 : Cond.code yX3_count cX3_count 7 (some FieldType.int) ∈ lw_all := lw_mem 210 (by decide +kernel) rfl
theorem tw_178 : Cond.methodLink RL 214 yX4_onBelt ∈ lw_all := lw_mem 211 (by decide +kernel) rfl
theorem tw_179 : Cond.instanceMethod yX4_onBelt ∈ lw_all := lw_mem 212 (by decide +kernel) rfl
theorem tw_180 : Cond.selects RX4 yX4_onBelt yX4_onBelt ∈ lw_all := lw_mem 213 (by decide +kernel) rfl
theorem tw_181 : Cond.code yX4_onBelt cX4_onBelt 1 (some FieldType.int) ∈ lw_all := lw_mem 214 (by decide +kernel) rfl
theorem tw_182 : Cond.methodLink RL 218 yX4_atDesk ∈ lw_all := lw_mem 215 (by decide +kernel) rfl
theorem tw_183 : Cond.instanceMethod yX4_atDesk ∈ lw_all := lw_mem 216 (by decide +kernel) rfl
theorem tw_184 : Cond.selects RX4 yX4_atDesk yX4_atDesk ∈ lw_all := lw_mem 217 (by decide +kernel) rfl
theorem tw_185 : Cond.code yX4_atDesk cX4_atDesk 1 (some FieldType.int) ∈ lw_all := lw_mem 218 (by decide +kernel) rfl
theorem tw_186 : Cond.methodLink RL 222 yX4_openFiles ∈ lw_all := lw_mem 219 (by decide +kernel) rfl
theorem tw_187 : Cond.instanceMethod yX4_openFiles ∈ lw_all := lw_mem 220 (by decide +kernel) rfl
theorem tw_188 : Cond.selects RX4 yX4_openFiles yX4_openFiles ∈ lw_all := lw_mem 221 (by decide +kernel) rfl
theorem tw_189 : Cond.code yX4_openFiles cX4_openFiles 1 (some FieldType.int) ∈ lw_all := lw_mem 222 (by decide +kernel) rfl
theorem tw_190 : Cond.methodLink RL 226 yX4_closedFiles ∈ lw_all := lw_mem 223 (by decide +kernel) rfl
theorem tw_191 : Cond.instanceMethod yX4_closedFiles ∈ lw_all := lw_mem 224 (by decide +kernel) rfl
theorem tw_192 : Cond.selects RX4 yX4_closedFiles yX4_closedFiles ∈ lw_all := lw_mem 225 (by decide +kernel) rfl
theorem tw_193 : Cond.code yX4_closedFiles cX4_closedFiles 1 (some FieldType.int) ∈ lw_all := lw_mem 226 (by decide +kernel) rfl
theorem tw_194 : Cond.methodLink RL 230 yX4_reader ∈ lw_all := lw_mem 227 (by decide +kernel) rfl
theorem tw_195 : Cond.instanceMethod yX4_reader ∈ lw_all := lw_mem 228 (by decide +kernel) rfl
theorem tw_196 : Cond.selects RX4 yX4_reader yX4_reader ∈ lw_all := lw_mem 229 (by decide +kernel) rfl
theorem tw_197 : Cond.code yX4_reader cX4_reader 1 (some FieldType.int) ∈ lw_all := lw_mem 230 (by decide +kernel) rfl
theorem tw_198 : Cond.methodLink RL 243 yX4_meanMisses ∈ lw_all := lw_mem 231 (by decide +kernel) rfl
theorem tw_199 : Cond.instanceMethod yX4_meanMisses ∈ lw_all := lw_mem 232 (by decide +kernel) rfl
theorem tw_200 : Cond.selects RX4 yX4_meanMisses yX4_meanMisses ∈ lw_all := lw_mem 233 (by decide +kernel) rfl
theorem tw_201 : Cond.code yX4_meanMisses cX4_meanMisses 2 (some FieldType.double) ∈ lw_all := lw_mem 234 (by decide +kernel) rfl
theorem tw_202 : Cond.methodLink RX4 193 yX3_sum ∈ lw_all := lw_mem 235 (by decide +kernel) rfl
theorem tw_203 : Cond.instanceMethod yX3_sum ∈ lw_all := lw_mem 236 (by decide +kernel) rfl
theorem tw_204 : Cond.selects RX3 yX3_sum yX3_sum ∈ lw_all := lw_mem 237 (by decide +kernel) rfl
theorem tw_205 : Cond.code yX3_sum cX3_sum 6 (some FieldType.int) ∈ lw_all := lw_mem 238 (by decide +kernel) rfl
theorem tw_206 : Cond.methodLink RL 248 yX4_digest ∈ lw_all := lw_mem 239 (by decide +kernel) rfl
theorem tw_207 : Cond.instanceMethod yX4_digest ∈ lw_all := lw_mem 240 (by decide +kernel) rfl
theorem tw_208 : Cond.selects RX4 yX4_digest yX4_digest ∈ lw_all := lw_mem 241 (by decide +kernel) rfl
theorem tw_209 : Cond.code yX4_digest cX4_digest 4 (some FieldType.long) ∈ lw_all := lw_mem 242 (by decide +kernel) rfl
theorem tw_210 : Cond.constantLong RX4 196 (1867 : Int64) ∈ lw_all := lw_mem 243 (by decide +kernel) rfl
theorem tw_211 : Cond.methodLink RX4 198 yX4_addHall ∈ lw_all := lw_mem 244 (by decide +kernel) rfl
theorem tw_213 : Cond.instanceMethod yX4_addHall ∈ lw_all := lw_mem 246 (by decide +kernel) rfl
theorem tw_214 : Cond.code yX4_addHall cX4_addHall 5 (some FieldType.long) ∈ lw_all := lw_mem 247 (by decide +kernel) rfl
theorem tw_215 : Cond.methodLink RX4 212 yX4_addNumber ∈ lw_all := lw_mem 248 (by decide +kernel) rfl
theorem tw_216 : Cond.static yX4_addNumber ∈ lw_all := lw_mem 249 (by decide +kernel) rfl
theorem tw_217 : Cond.code yX4_addNumber cX4_addNumber 4 (some FieldType.long) ∈ lw_all := lw_mem 250 (by decide +kernel) rfl
theorem tw_218 : Cond.constantLong RX4 216 (31 : Int64) ∈ lw_all := lw_mem 251 (by decide +kernel) rfl
theorem tw_219 : Cond.methodLink RX4 202 yX4_addBag ∈ lw_all := lw_mem 252 (by decide +kernel) rfl
theorem tw_221 : Cond.instanceMethod yX4_addBag ∈ lw_all := lw_mem 254 (by decide +kernel) rfl
theorem tw_222 : Cond.code yX4_addBag cX4_addBag 6 (some FieldType.long) ∈ lw_all := lw_mem 255 (by decide +kernel) rfl
theorem tw_223 : Cond.methodLink RX4 68 yX3_at ∈ lw_all := lw_mem 256 (by decide +kernel) rfl
theorem tw_224 : Cond.instanceMethod yX3_at ∈ lw_all := lw_mem 257 (by decide +kernel) rfl
theorem tw_225 : Cond.selects RX3 yX3_at yX3_at ∈ lw_all := lw_mem 258 (by decide +kernel) rfl
theorem tw_226 : Cond.code yX3_at cX3_at 2 (some FieldType.int) ∈ lw_all := lw_mem 259 (by decide +kernel) rfl
theorem tw_227 : Cond.methodLink RX4 145 yX2_findOnBelt ∈ lw_all := lw_mem 260 (by decide +kernel) rfl
theorem tw_228 : Cond.instanceMethod yX2_findOnBelt ∈ lw_all := lw_mem 261 (by decide +kernel) rfl
theorem tw_229 : Cond.selects RX2 yX2_findOnBelt yX2_findOnBelt ∈ lw_all := lw_mem 262 (by decide +kernel) rfl
theorem tw_230 : Cond.code yX2_findOnBelt cX2_findOnBelt 2 (some FieldType.int) ∈ lw_all := lw_mem 263 (by decide +kernel) rfl
theorem tw_231 : Cond.methodLink RX2 143 yX3_find ∈ lw_all := lw_mem 264 (by decide +kernel) rfl
theorem tw_232 : Cond.instanceMethod yX3_find ∈ lw_all := lw_mem 265 (by decide +kernel) rfl
theorem tw_233 : Cond.selects RX3 yX3_find yX3_find ∈ lw_all := lw_mem 266 (by decide +kernel) rfl
theorem tw_234 : Cond.code yX3_find cX3_find 3 (some FieldType.int) ∈ lw_all := lw_mem 267 (by decide +kernel) rfl
theorem tw_235 : Cond.methodLink RX4 155 yX2_isAstray ∈ lw_all := lw_mem 268 (by decide +kernel) rfl
theorem tw_236 : Cond.instanceMethod yX2_isAstray ∈ lw_all := lw_mem 269 (by decide +kernel) rfl
theorem tw_237 : Cond.selects RX2 yX2_isAstray yX2_isAstray ∈ lw_all := lw_mem 270 (by decide +kernel) rfl
theorem tw_238 : Cond.code yX2_isAstray cX2_isAstray 2 (some FieldType.boolean) ∈ lw_all := lw_mem 271 (by decide +kernel) rfl
theorem tw_239 : Cond.methodLink RX2 63 yX3_at ∈ lw_all := lw_mem 272 (by decide +kernel) rfl
theorem tw_240 : Cond.methodLink RX2 80 yX2_isInOwnChute ∈ lw_all := lw_mem 273 (by decide +kernel) rfl
theorem tw_241 : Cond.instanceMethod yX2_isInOwnChute ∈ lw_all := lw_mem 274 (by decide +kernel) rfl
theorem tw_242 : Cond.selects RX2 yX2_isInOwnChute yX2_isInOwnChute ∈ lw_all := lw_mem 275 (by decide +kernel) rfl
theorem tw_243 : Cond.code yX2_isInOwnChute cX2_isInOwnChute 2 (some FieldType.boolean) ∈ lw_all := lw_mem 276 (by decide +kernel) rfl
theorem tw_244 : Cond.methodLink RX2 146 yX1_hasLeft ∈ lw_all := lw_mem 277 (by decide +kernel) rfl
theorem tw_245 : Cond.instanceMethod yX1_hasLeft ∈ lw_all := lw_mem 278 (by decide +kernel) rfl
theorem tw_246 : Cond.selects RX1 yX1_hasLeft yX1_hasLeft ∈ lw_all := lw_mem 279 (by decide +kernel) rfl
theorem tw_247 : Cond.code yX1_hasLeft cX1_hasLeft 2 (some FieldType.boolean) ∈ lw_all := lw_mem 280 (by decide +kernel) rfl
theorem tw_248 : Cond.methodLink RX1 27 yX3_at ∈ lw_all := lw_mem 281 (by decide +kernel) rfl
theorem tw_249 : Cond.methodLink RX4 206 yX4_addChute ∈ lw_all := lw_mem 282 (by decide +kernel) rfl
theorem tw_251 : Cond.instanceMethod yX4_addChute ∈ lw_all := lw_mem 284 (by decide +kernel) rfl
theorem tw_252 : Cond.code yX4_addChute cX4_addChute 6 (some FieldType.long) ∈ lw_all := lw_mem 285 (by decide +kernel) rfl
theorem tw_253 : Cond.methodLink RX4 171 yX2_countMisrouted ∈ lw_all := lw_mem 286 (by decide +kernel) rfl
theorem tw_254 : Cond.instanceMethod yX2_countMisrouted ∈ lw_all := lw_mem 287 (by decide +kernel) rfl
theorem tw_255 : Cond.selects RX2 yX2_countMisrouted yX2_countMisrouted ∈ lw_all := lw_mem 288 (by decide +kernel) rfl
theorem tw_256 : Cond.code yX2_countMisrouted cX2_countMisrouted 4 (some FieldType.int) ∈ lw_all := lw_mem 289 (by decide +kernel) rfl
theorem tw_257 : Cond.methodLink RX2 88 yX2_isAstray ∈ lw_all := lw_mem 290 (by decide +kernel) rfl
theorem tw_258 : Cond.methodLink RX4 209 yX4_addOfFlight ∈ lw_all := lw_mem 291 (by decide +kernel) rfl
theorem tw_260 : Cond.instanceMethod yX4_addOfFlight ∈ lw_all := lw_mem 293 (by decide +kernel) rfl
theorem tw_261 : Cond.code yX4_addOfFlight cX4_addOfFlight 6 (some FieldType.long) ∈ lw_all := lw_mem 294 (by decide +kernel) rfl
theorem tw_262 : Cond.methodLink RX4 119 yX1_hasLeft ∈ lw_all := lw_mem 295 (by decide +kernel) rfl
theorem tw_263 : Cond.methodLink RX4 174 yX2_countReady ∈ lw_all := lw_mem 296 (by decide +kernel) rfl
theorem tw_264 : Cond.instanceMethod yX2_countReady ∈ lw_all := lw_mem 297 (by decide +kernel) rfl
theorem tw_265 : Cond.selects RX2 yX2_countReady yX2_countReady ∈ lw_all := lw_mem 298 (by decide +kernel) rfl
theorem tw_266 : Cond.code yX2_countReady cX2_countReady 4 (some FieldType.int) ∈ lw_all := lw_mem 299 (by decide +kernel) rfl
theorem tw_267 : Cond.methodLink RX2 149 yX2_isReady ∈ lw_all := lw_mem 300 (by decide +kernel) rfl
theorem tw_268 : Cond.instanceMethod yX2_isReady ∈ lw_all := lw_mem 301 (by decide +kernel) rfl
theorem tw_269 : Cond.selects RX2 yX2_isReady yX2_isReady ∈ lw_all := lw_mem 302 (by decide +kernel) rfl
theorem tw_270 : Cond.code yX2_isReady cX2_isReady 2 (some FieldType.boolean) ∈ lw_all := lw_mem 303 (by decide +kernel) rfl
theorem tw_271 : Cond.methodLink RX4 177 yX2_countMissing ∈ lw_all := lw_mem 304 (by decide +kernel) rfl
theorem tw_272 : Cond.instanceMethod yX2_countMissing ∈ lw_all := lw_mem 305 (by decide +kernel) rfl
theorem tw_273 : Cond.selects RX2 yX2_countMissing yX2_countMissing ∈ lw_all := lw_mem 306 (by decide +kernel) rfl
theorem tw_274 : Cond.code yX2_countMissing cX2_countMissing 2 (some FieldType.int) ∈ lw_all := lw_mem 307 (by decide +kernel) rfl
theorem tw_275 : Cond.methodLink RX2 141 yX3_count ∈ lw_all := lw_mem 308 (by decide +kernel) rfl
theorem tw_276 : Cond.methodLink RX2 152 yX2_countReady ∈ lw_all := lw_mem 309 (by decide +kernel) rfl
theorem tw_277 : Cond.methodLink RL 111 yL_addFlight ∈ lw_all := lw_mem 310 (by decide +kernel) rfl
theorem tw_278 : Cond.static yL_addFlight ∈ lw_all := lw_mem 311 (by decide +kernel) rfl
theorem tw_279 : Cond.codeWith yL_addFlight cL_addFlight 3 (some FieldType.int) [(0, 8, 11, 13)] ∈ lw_all := lw_mem 312 (by decide +kernel) rfl
theorem tw_280 : Cond.classLink RL 13 "java/lang/IllegalStateException" ∈ lw_all := lw_mem 313 (by decide +kernel) rfl
theorem tw_281 : Cond.methodLink RL 7 yX4_addFlight ∈ lw_all := lw_mem 314 (by decide +kernel) rfl
theorem tw_282 : Cond.instanceMethod yX4_addFlight ∈ lw_all := lw_mem 315 (by decide +kernel) rfl
theorem tw_283 : Cond.selects RX4 yX4_addFlight yX4_addFlight ∈ lw_all := lw_mem 316 (by decide +kernel) rfl
theorem tw_284 : Cond.code yX4_addFlight cX4_addFlight 1 (some FieldType.int) ∈ lw_all := lw_mem 317 (by decide +kernel) rfl
theorem tw_285 : Cond.classLink RX4 29 "java/lang/IllegalStateException" ∈ lw_all := lw_mem 318 (by decide +kernel) rfl
theorem tw_286 : Cond.instantiable "java/lang/IllegalStateException" 6 ∈ lw_all := lw_mem 319 (by decide +kernel) rfl
theorem tw_294 : Cond.selects "java/lang/IllegalStateException" ⟨"java/lang/Throwable", "fillInStackTrace", "(I)Ljava/lang/Throwable;"⟩ ⟨"java/lang/Throwable", "fillInStackTrace", "(I)Ljava/lang/Throwable;"⟩ ∈ lw_all := lw_mem 327 (by decide +kernel) rfl
theorem tw_295 : Cond.selects "java/lang/IllegalStateException" ⟨"java/lang/Throwable", "fillInStackTrace", "()Ljava/lang/Throwable;"⟩ ⟨"java/lang/Throwable", "fillInStackTrace", "()Ljava/lang/Throwable;"⟩ ∈ lw_all := lw_mem 328 (by decide +kernel) rfl
theorem tw_296 : Cond.lays "java/lang/IllegalStateException" "java/lang/Throwable" "cause" "Ljava/lang/Throwable;" ∈ lw_all := lw_mem 329 (by decide +kernel) rfl
theorem tw_297 : Cond.lays "java/lang/Throwable" "java/lang/Throwable" "cause" "Ljava/lang/Throwable;" ∈ lw_all := lw_mem 330 (by decide +kernel) rfl
theorem tw_298 : Cond.lays "java/lang/IllegalStateException" "java/lang/Throwable" "stackTrace" "[Ljava/lang/StackTraceElement;" ∈ lw_all := lw_mem 331 (by decide +kernel) rfl
theorem tw_299 : Cond.lays "java/lang/Throwable" "java/lang/Throwable" "stackTrace" "[Ljava/lang/StackTraceElement;" ∈ lw_all := lw_mem 332 (by decide +kernel) rfl
theorem tw_300 : Cond.lays "java/lang/IllegalStateException" "java/lang/Throwable" "suppressedExceptions" "Ljava/util/List;" ∈ lw_all := lw_mem 333 (by decide +kernel) rfl
theorem tw_301 : Cond.lays "java/lang/Throwable" "java/lang/Throwable" "suppressedExceptions" "Ljava/util/List;" ∈ lw_all := lw_mem 334 (by decide +kernel) rfl
theorem tw_302 : Cond.lays "java/lang/IllegalStateException" "java/lang/Throwable" "detailMessage" "Ljava/lang/String;" ∈ lw_all := lw_mem 335 (by decide +kernel) rfl
theorem tw_303 : Cond.lays "java/lang/Throwable" "java/lang/Throwable" "detailMessage" "Ljava/lang/String;" ∈ lw_all := lw_mem 336 (by decide +kernel) rfl
theorem tw_304 : Cond.lays "java/lang/IllegalStateException" "java/lang/Throwable" "backtrace" "Ljava/lang/Object;" ∈ lw_all := lw_mem 337 (by decide +kernel) rfl
theorem tw_305 : Cond.lays "java/lang/Throwable" "java/lang/Throwable" "backtrace" "Ljava/lang/Object;" ∈ lw_all := lw_mem 338 (by decide +kernel) rfl
theorem tw_306 : Cond.fieldLink "java/lang/Throwable" 198 "java/lang/Throwable" "backtrace" "Ljava/lang/Object;" ∈ lw_all := lw_mem 339 (by decide +kernel) rfl
theorem tw_307 : Cond.superclass "java/lang/Throwable" "java/lang/Object" ∈ lw_all := lw_mem 340 (by decide +kernel) rfl
theorem tw_308 : Cond.instanceMethod ⟨"java/lang/Throwable", "<init>", "()V"⟩ ∈ lw_all := lw_mem 341 (by decide +kernel) rfl
theorem tw_309 : Cond.code ⟨"java/lang/Throwable", "<init>", "()V"⟩ prog_17_method_1_code 1 none ∈ lw_all := lw_mem 342 (by decide +kernel) rfl
theorem tw_310 : Cond.methodLink "java/lang/Throwable" 1 objectInit ∈ lw_all := lw_mem 343 (by decide +kernel) rfl
theorem tw_311 : Cond.fieldLink "java/lang/Throwable" 13 "java/lang/Throwable" "UNASSIGNED_STACK" "[Ljava/lang/StackTraceElement;" ∈ lw_all := lw_mem 344 (by decide +kernel) rfl
theorem tw_313 : Cond.fieldLink "java/lang/Throwable" 20 "java/lang/Throwable" "SUPPRESSED_SENTINEL" "Ljava/util/List;" ∈ lw_all := lw_mem 346 (by decide +kernel) rfl
theorem tw_315 : Cond.methodLink "java/lang/Throwable" 27 ⟨"java/lang/Throwable", "fillInStackTrace", "()Ljava/lang/Throwable;"⟩ ∈ lw_all := lw_mem 348 (by decide +kernel) rfl
theorem tw_316 : Cond.instanceMethod ⟨"java/lang/Throwable", "fillInStackTrace", "()Ljava/lang/Throwable;"⟩ ∈ lw_all := lw_mem 349 (by decide +kernel) rfl
theorem tw_318 : Cond.selects "java/lang/IllegalArgumentException" ⟨"java/lang/Throwable", "fillInStackTrace", "()Ljava/lang/Throwable;"⟩ ⟨"java/lang/Throwable", "fillInStackTrace", "()Ljava/lang/Throwable;"⟩ ∈ lw_all := lw_mem 351 (by decide +kernel) rfl
theorem tw_319 : Cond.selects "java/lang/IndexOutOfBoundsException" ⟨"java/lang/Throwable", "fillInStackTrace", "()Ljava/lang/Throwable;"⟩ ⟨"java/lang/Throwable", "fillInStackTrace", "()Ljava/lang/Throwable;"⟩ ∈ lw_all := lw_mem 352 (by decide +kernel) rfl
theorem tw_321 : Cond.methodLink "java/lang/Throwable" 202 ⟨"java/lang/Throwable", "fillInStackTrace", "(I)Ljava/lang/Throwable;"⟩ ∈ lw_all := lw_mem 354 (by decide +kernel) rfl
theorem tw_323 : Cond.instanceMethod ⟨"java/lang/Throwable", "fillInStackTrace", "(I)Ljava/lang/Throwable;"⟩ ∈ lw_all := lw_mem 356 (by decide +kernel) rfl
theorem tw_324 : Cond.instantiable "java/lang/Throwable" 6 ∈ lw_all := lw_mem 357 (by decide +kernel) rfl
theorem tw_325 : Cond.native ⟨"java/lang/Throwable", "fillInStackTrace", "(I)Ljava/lang/Throwable;"⟩ ∈ lw_all := lw_mem 358 (by decide +kernel) rfl
theorem tw_327 : Cond.methodLink RX4 33 ⟨"java/lang/IllegalStateException", "<init>", "(Ljava/lang/String;)V"⟩ ∈ lw_all := lw_mem 360 (by decide +kernel) rfl
theorem tw_328 : Cond.instanceMethod ⟨"java/lang/IllegalStateException", "<init>", "(Ljava/lang/String;)V"⟩ ∈ lw_all := lw_mem 361 (by decide +kernel) rfl
theorem tw_329 : Cond.code ⟨"java/lang/IllegalStateException", "<init>", "(Ljava/lang/String;)V"⟩ prog_11_method_2_code 2 none ∈ lw_all := lw_mem 362 (by decide +kernel) rfl
theorem tw_330 : Cond.methodLink "java/lang/IllegalStateException" 7 ⟨"java/lang/RuntimeException", "<init>", "(Ljava/lang/String;)V"⟩ ∈ lw_all := lw_mem 363 (by decide +kernel) rfl
theorem tw_331 : Cond.instanceMethod ⟨"java/lang/RuntimeException", "<init>", "(Ljava/lang/String;)V"⟩ ∈ lw_all := lw_mem 364 (by decide +kernel) rfl
theorem tw_332 : Cond.code ⟨"java/lang/RuntimeException", "<init>", "(Ljava/lang/String;)V"⟩ prog_14_method_2_code 2 none ∈ lw_all := lw_mem 365 (by decide +kernel) rfl
theorem tw_333 : Cond.methodLink "java/lang/RuntimeException" 7 ⟨"java/lang/Exception", "<init>", "(Ljava/lang/String;)V"⟩ ∈ lw_all := lw_mem 366 (by decide +kernel) rfl
theorem tw_334 : Cond.instanceMethod ⟨"java/lang/Exception", "<init>", "(Ljava/lang/String;)V"⟩ ∈ lw_all := lw_mem 367 (by decide +kernel) rfl
theorem tw_335 : Cond.code ⟨"java/lang/Exception", "<init>", "(Ljava/lang/String;)V"⟩ prog_9_method_2_code 2 none ∈ lw_all := lw_mem 368 (by decide +kernel) rfl
theorem tw_336 : Cond.methodLink "java/lang/Exception" 7 ⟨"java/lang/Throwable", "<init>", "(Ljava/lang/String;)V"⟩ ∈ lw_all := lw_mem 369 (by decide +kernel) rfl
theorem tw_337 : Cond.instanceMethod ⟨"java/lang/Throwable", "<init>", "(Ljava/lang/String;)V"⟩ ∈ lw_all := lw_mem 370 (by decide +kernel) rfl
theorem tw_338 : Cond.code ⟨"java/lang/Throwable", "<init>", "(Ljava/lang/String;)V"⟩ prog_17_method_2_code 2 none ∈ lw_all := lw_mem 371 (by decide +kernel) rfl
theorem tw_339 : Cond.fieldLink "java/lang/Throwable" 198 "java/lang/Throwable" "backtrace" "Ljava/lang/Object;" ∈ lw_all := lw_mem 372 (by decide +kernel) rfl
theorem tw_340 : Cond.fieldLink "java/lang/Throwable" 31 "java/lang/Throwable" "detailMessage" "Ljava/lang/String;" ∈ lw_all := lw_mem 373 (by decide +kernel) rfl
theorem tw_341 : Cond.fieldLink "java/lang/Throwable" 7 "java/lang/Throwable" "cause" "Ljava/lang/Throwable;" ∈ lw_all := lw_mem 374 (by decide +kernel) rfl
theorem tw_342 : Cond.fieldLink "java/lang/Throwable" 17 "java/lang/Throwable" "stackTrace" "[Ljava/lang/StackTraceElement;" ∈ lw_all := lw_mem 375 (by decide +kernel) rfl
theorem tw_343 : Cond.fieldLink "java/lang/Throwable" 24 "java/lang/Throwable" "suppressedExceptions" "Ljava/util/List;" ∈ lw_all := lw_mem 376 (by decide +kernel) rfl
theorem tw_344 : Cond.soleField "java/lang/Throwable" "backtrace" ∈ lw_all := lw_mem 377 (by decide +kernel) rfl
theorem tw_345 : Cond.soleField "java/lang/Throwable" "detailMessage" ∈ lw_all := lw_mem 378 (by decide +kernel) rfl
theorem tw_346 : Cond.soleField "java/lang/Throwable" "cause" ∈ lw_all := lw_mem 379 (by decide +kernel) rfl
theorem tw_347 : Cond.soleField "java/lang/Throwable" "stackTrace" ∈ lw_all := lw_mem 380 (by decide +kernel) rfl
theorem tw_348 : Cond.lays "java/lang/IllegalStateException" "java/lang/Throwable" "depth" "I" ∈ lw_all := lw_mem 381 (by decide +kernel) rfl
theorem tw_349 : Cond.soleField "java/lang/Throwable" "depth" ∈ lw_all := lw_mem 382 (by decide +kernel) rfl
theorem tw_350 : Cond.soleField "java/lang/Throwable" "suppressedExceptions" ∈ lw_all := lw_mem 383 (by decide +kernel) rfl
theorem tw_351 : Cond.superclass "java/lang/IllegalStateException" "java/lang/RuntimeException" ∈ lw_all := lw_mem 384 (by decide +kernel) rfl
theorem tw_352 : Cond.arrayClass FieldType.byte ∈ lw_all := lw_mem 385 (by decide +kernel) rfl
theorem tw_353 : Cond.methodLink RX4 36 yX1_addOne ∈ lw_all := lw_mem 386 (by decide +kernel) rfl
theorem tw_354 : Cond.instanceMethod yX1_addOne ∈ lw_all := lw_mem 387 (by decide +kernel) rfl
theorem tw_355 : Cond.selects RX1 yX1_addOne yX1_addOne ∈ lw_all := lw_mem 388 (by decide +kernel) rfl
theorem tw_356 : Cond.code yX1_addOne cX1_addOne 2 (some FieldType.int) ∈ lw_all := lw_mem 389 (by decide +kernel) rfl
theorem tw_357 : Cond.methodLink RL 120 yL_giveChute ∈ lw_all := lw_mem 390 (by decide +kernel) rfl
theorem tw_358 : Cond.static yL_giveChute ∈ lw_all := lw_mem 391 (by decide +kernel) rfl
theorem tw_359 : Cond.codeWith yL_giveChute cL_giveChute 5 (some FieldType.int) [(0, 10, 13, 19), (0, 10, 17, 13)] ∈ lw_all := lw_mem 392 (by decide +kernel) rfl
theorem tw_360 : Cond.classLink RL 19 "java/lang/IndexOutOfBoundsException" ∈ lw_all := lw_mem 393 (by decide +kernel) rfl
theorem tw_361 : Cond.methodLink RL 15 yX4_giveChute ∈ lw_all := lw_mem 394 (by decide +kernel) rfl
theorem tw_362 : Cond.instanceMethod yX4_giveChute ∈ lw_all := lw_mem 395 (by decide +kernel) rfl
theorem tw_363 : Cond.selects RX4 yX4_giveChute yX4_giveChute ∈ lw_all := lw_mem 396 (by decide +kernel) rfl
theorem tw_364 : Cond.code yX4_giveChute cX4_giveChute 3 (some FieldType.int) ∈ lw_all := lw_mem 397 (by decide +kernel) rfl
theorem tw_365 : Cond.methodLink RX4 40 yX4_needFlight ∈ lw_all := lw_mem 398 (by decide +kernel) rfl
theorem tw_367 : Cond.instanceMethod yX4_needFlight ∈ lw_all := lw_mem 400 (by decide +kernel) rfl
theorem tw_368 : Cond.code yX4_needFlight cX4_needFlight 2 none ∈ lw_all := lw_mem 401 (by decide +kernel) rfl
theorem tw_369 : Cond.classLink RX4 161 "java/lang/IndexOutOfBoundsException" ∈ lw_all := lw_mem 402 (by decide +kernel) rfl
theorem tw_370 : Cond.instantiable "java/lang/IndexOutOfBoundsException" 6 ∈ lw_all := lw_mem 403 (by decide +kernel) rfl
theorem tw_372 : Cond.selects "java/lang/IndexOutOfBoundsException" ⟨"java/lang/Throwable", "fillInStackTrace", "(I)Ljava/lang/Throwable;"⟩ ⟨"java/lang/Throwable", "fillInStackTrace", "(I)Ljava/lang/Throwable;"⟩ ∈ lw_all := lw_mem 405 (by decide +kernel) rfl
theorem tw_373 : Cond.lays "java/lang/IndexOutOfBoundsException" "java/lang/Throwable" "cause" "Ljava/lang/Throwable;" ∈ lw_all := lw_mem 406 (by decide +kernel) rfl
theorem tw_374 : Cond.lays "java/lang/IndexOutOfBoundsException" "java/lang/Throwable" "stackTrace" "[Ljava/lang/StackTraceElement;" ∈ lw_all := lw_mem 407 (by decide +kernel) rfl
theorem tw_375 : Cond.lays "java/lang/IndexOutOfBoundsException" "java/lang/Throwable" "suppressedExceptions" "Ljava/util/List;" ∈ lw_all := lw_mem 408 (by decide +kernel) rfl
theorem tw_376 : Cond.lays "java/lang/IndexOutOfBoundsException" "java/lang/Throwable" "detailMessage" "Ljava/lang/String;" ∈ lw_all := lw_mem 409 (by decide +kernel) rfl
theorem tw_377 : Cond.lays "java/lang/IndexOutOfBoundsException" "java/lang/Throwable" "backtrace" "Ljava/lang/Object;" ∈ lw_all := lw_mem 410 (by decide +kernel) rfl
theorem tw_379 : Cond.methodLink RX4 165 ⟨"java/lang/IndexOutOfBoundsException", "<init>", "(Ljava/lang/String;)V"⟩ ∈ lw_all := lw_mem 412 (by decide +kernel) rfl
theorem tw_380 : Cond.instanceMethod ⟨"java/lang/IndexOutOfBoundsException", "<init>", "(Ljava/lang/String;)V"⟩ ∈ lw_all := lw_mem 413 (by decide +kernel) rfl
theorem tw_381 : Cond.code ⟨"java/lang/IndexOutOfBoundsException", "<init>", "(Ljava/lang/String;)V"⟩ prog_12_method_2_code 2 none ∈ lw_all := lw_mem 414 (by decide +kernel) rfl
theorem tw_382 : Cond.methodLink "java/lang/IndexOutOfBoundsException" 7 ⟨"java/lang/RuntimeException", "<init>", "(Ljava/lang/String;)V"⟩ ∈ lw_all := lw_mem 415 (by decide +kernel) rfl
theorem tw_383 : Cond.lays "java/lang/IndexOutOfBoundsException" "java/lang/Throwable" "depth" "I" ∈ lw_all := lw_mem 416 (by decide +kernel) rfl
theorem tw_384 : Cond.superclass "java/lang/IndexOutOfBoundsException" "java/lang/RuntimeException" ∈ lw_all := lw_mem 417 (by decide +kernel) rfl
theorem tw_385 : Cond.methodLink RX4 44 yX4_needChute ∈ lw_all := lw_mem 418 (by decide +kernel) rfl
theorem tw_386 : Cond.static yX4_needChute ∈ lw_all := lw_mem 419 (by decide +kernel) rfl
theorem tw_387 : Cond.code yX4_needChute cX4_needChute 1 none ∈ lw_all := lw_mem 420 (by decide +kernel) rfl
theorem tw_388 : Cond.methodLink RX4 107 yX4_isChute ∈ lw_all := lw_mem 421 (by decide +kernel) rfl
theorem tw_389 : Cond.static yX4_isChute ∈ lw_all := lw_mem 422 (by decide +kernel) rfl
theorem tw_390 : Cond.code yX4_isChute cX4_isChute 1 (some FieldType.boolean) ∈ lw_all := lw_mem 423 (by decide +kernel) rfl
theorem tw_392 : Cond.methodLink RX4 47 yX4_needNotGone ∈ lw_all := lw_mem 425 (by decide +kernel) rfl
theorem tw_394 : Cond.instanceMethod yX4_needNotGone ∈ lw_all := lw_mem 427 (by decide +kernel) rfl
theorem tw_395 : Cond.code yX4_needNotGone cX4_needNotGone 2 none ∈ lw_all := lw_mem 428 (by decide +kernel) rfl
theorem tw_397 : Cond.methodLink RX4 50 yX2_changeChute ∈ lw_all := lw_mem 430 (by decide +kernel) rfl
theorem tw_398 : Cond.instanceMethod yX2_changeChute ∈ lw_all := lw_mem 431 (by decide +kernel) rfl
theorem tw_399 : Cond.selects RX2 yX2_changeChute yX2_changeChute ∈ lw_all := lw_mem 432 (by decide +kernel) rfl
theorem tw_400 : Cond.code yX2_changeChute cX2_changeChute 5 (some FieldType.int) ∈ lw_all := lw_mem 433 (by decide +kernel) rfl
theorem tw_401 : Cond.methodLink RX2 70 yX3_put ∈ lw_all := lw_mem 434 (by decide +kernel) rfl
theorem tw_402 : Cond.instanceMethod yX3_put ∈ lw_all := lw_mem 435 (by decide +kernel) rfl
theorem tw_403 : Cond.selects RX3 yX3_put yX3_put ∈ lw_all := lw_mem 436 (by decide +kernel) rfl
theorem tw_404 : Cond.code yX3_put cX3_put 3 none ∈ lw_all := lw_mem 437 (by decide +kernel) rfl
theorem tw_405 : Cond.methodLink RL 124 yL_setReader ∈ lw_all := lw_mem 438 (by decide +kernel) rfl
theorem tw_406 : Cond.static yL_setReader ∈ lw_all := lw_mem 439 (by decide +kernel) rfl
theorem tw_407 : Cond.codeWith yL_setReader cL_setReader 4 (some FieldType.int) [(0, 9, 12, 25)] ∈ lw_all := lw_mem 440 (by decide +kernel) rfl
theorem tw_408 : Cond.classLink RL 25 "java/lang/IllegalArgumentException" ∈ lw_all := lw_mem 441 (by decide +kernel) rfl
theorem tw_409 : Cond.methodLink RL 21 yX4_setReader ∈ lw_all := lw_mem 442 (by decide +kernel) rfl
theorem tw_410 : Cond.instanceMethod yX4_setReader ∈ lw_all := lw_mem 443 (by decide +kernel) rfl
theorem tw_411 : Cond.selects RX4 yX4_setReader yX4_setReader ∈ lw_all := lw_mem 444 (by decide +kernel) rfl
theorem tw_412 : Cond.code yX4_setReader cX4_setReader 3 (some FieldType.int) ∈ lw_all := lw_mem 445 (by decide +kernel) rfl
theorem tw_413 : Cond.classLink RX4 54 "java/lang/IllegalArgumentException" ∈ lw_all := lw_mem 446 (by decide +kernel) rfl
theorem tw_414 : Cond.instantiable "java/lang/IllegalArgumentException" 6 ∈ lw_all := lw_mem 447 (by decide +kernel) rfl
theorem tw_416 : Cond.selects "java/lang/IllegalArgumentException" ⟨"java/lang/Throwable", "fillInStackTrace", "(I)Ljava/lang/Throwable;"⟩ ⟨"java/lang/Throwable", "fillInStackTrace", "(I)Ljava/lang/Throwable;"⟩ ∈ lw_all := lw_mem 449 (by decide +kernel) rfl
theorem tw_417 : Cond.lays "java/lang/IllegalArgumentException" "java/lang/Throwable" "cause" "Ljava/lang/Throwable;" ∈ lw_all := lw_mem 450 (by decide +kernel) rfl
theorem tw_418 : Cond.lays "java/lang/IllegalArgumentException" "java/lang/Throwable" "stackTrace" "[Ljava/lang/StackTraceElement;" ∈ lw_all := lw_mem 451 (by decide +kernel) rfl
theorem tw_419 : Cond.lays "java/lang/IllegalArgumentException" "java/lang/Throwable" "suppressedExceptions" "Ljava/util/List;" ∈ lw_all := lw_mem 452 (by decide +kernel) rfl
theorem tw_420 : Cond.lays "java/lang/IllegalArgumentException" "java/lang/Throwable" "detailMessage" "Ljava/lang/String;" ∈ lw_all := lw_mem 453 (by decide +kernel) rfl
theorem tw_421 : Cond.lays "java/lang/IllegalArgumentException" "java/lang/Throwable" "backtrace" "Ljava/lang/Object;" ∈ lw_all := lw_mem 454 (by decide +kernel) rfl
theorem tw_423 : Cond.methodLink RX4 58 ⟨"java/lang/IllegalArgumentException", "<init>", "(Ljava/lang/String;)V"⟩ ∈ lw_all := lw_mem 456 (by decide +kernel) rfl
theorem tw_424 : Cond.instanceMethod ⟨"java/lang/IllegalArgumentException", "<init>", "(Ljava/lang/String;)V"⟩ ∈ lw_all := lw_mem 457 (by decide +kernel) rfl
theorem tw_425 : Cond.code ⟨"java/lang/IllegalArgumentException", "<init>", "(Ljava/lang/String;)V"⟩ prog_10_method_2_code 2 none ∈ lw_all := lw_mem 458 (by decide +kernel) rfl
theorem tw_426 : Cond.methodLink "java/lang/IllegalArgumentException" 7 ⟨"java/lang/RuntimeException", "<init>", "(Ljava/lang/String;)V"⟩ ∈ lw_all := lw_mem 459 (by decide +kernel) rfl
theorem tw_427 : Cond.lays "java/lang/IllegalArgumentException" "java/lang/Throwable" "depth" "I" ∈ lw_all := lw_mem 460 (by decide +kernel) rfl
theorem tw_428 : Cond.superclass "java/lang/IllegalArgumentException" "java/lang/RuntimeException" ∈ lw_all := lw_mem 461 (by decide +kernel) rfl
theorem tw_429 : Cond.methodLink RL 128 yL_setRoom ∈ lw_all := lw_mem 462 (by decide +kernel) rfl
theorem tw_430 : Cond.static yL_setRoom ∈ lw_all := lw_mem 463 (by decide +kernel) rfl
theorem tw_431 : Cond.codeWith yL_setRoom cL_setRoom 5 (some FieldType.int) [(0, 10, 13, 19), (0, 10, 17, 25)] ∈ lw_all := lw_mem 464 (by decide +kernel) rfl
theorem tw_432 : Cond.methodLink RL 27 yX4_setRoom ∈ lw_all := lw_mem 465 (by decide +kernel) rfl
theorem tw_433 : Cond.instanceMethod yX4_setRoom ∈ lw_all := lw_mem 466 (by decide +kernel) rfl
theorem tw_434 : Cond.selects RX4 yX4_setRoom yX4_setRoom ∈ lw_all := lw_mem 467 (by decide +kernel) rfl
theorem tw_435 : Cond.code yX4_setRoom cX4_setRoom 4 (some FieldType.int) ∈ lw_all := lw_mem 468 (by decide +kernel) rfl
theorem tw_437 : Cond.methodLink RX4 74 yX3_put ∈ lw_all := lw_mem 470 (by decide +kernel) rfl
theorem tw_438 : Cond.methodLink RL 131 yL_checkIn ∈ lw_all := lw_mem 471 (by decide +kernel) rfl
theorem tw_439 : Cond.static yL_checkIn ∈ lw_all := lw_mem 472 (by decide +kernel) rfl
theorem tw_440 : Cond.codeWith yL_checkIn cL_checkIn 6 (some FieldType.int) [(0, 12, 15, 19), (0, 12, 19, 25), (0, 12, 23, 13)] ∈ lw_all := lw_mem 473 (by decide +kernel) rfl
theorem tw_441 : Cond.methodLink RL 30 yX4_checkIn ∈ lw_all := lw_mem 474 (by decide +kernel) rfl
theorem tw_442 : Cond.instanceMethod yX4_checkIn ∈ lw_all := lw_mem 475 (by decide +kernel) rfl
theorem tw_443 : Cond.selects RX4 yX4_checkIn yX4_checkIn ∈ lw_all := lw_mem 476 (by decide +kernel) rfl
theorem tw_444 : Cond.code yX4_checkIn cX4_checkIn 5 (some FieldType.int) ∈ lw_all := lw_mem 477 (by decide +kernel) rfl
theorem tw_447 : Cond.methodLink RX4 89 yX0_addOne ∈ lw_all := lw_mem 480 (by decide +kernel) rfl
theorem tw_448 : Cond.instanceMethod yX0_addOne ∈ lw_all := lw_mem 481 (by decide +kernel) rfl
theorem tw_449 : Cond.selects RX0 yX0_addOne yX0_addOne ∈ lw_all := lw_mem 482 (by decide +kernel) rfl
theorem tw_450 : Cond.code yX0_addOne cX0_addOne 5 (some FieldType.int) ∈ lw_all := lw_mem 483 (by decide +kernel) rfl
theorem tw_451 : Cond.methodLink RX0 45 yX3_put ∈ lw_all := lw_mem 484 (by decide +kernel) rfl
theorem tw_452 : Cond.methodLink RX4 92 yX2_takeIn ∈ lw_all := lw_mem 485 (by decide +kernel) rfl
theorem tw_453 : Cond.instanceMethod yX2_takeIn ∈ lw_all := lw_mem 486 (by decide +kernel) rfl
theorem tw_454 : Cond.selects RX2 yX2_takeIn yX2_takeIn ∈ lw_all := lw_mem 487 (by decide +kernel) rfl
theorem tw_455 : Cond.code yX2_takeIn cX2_takeIn 2 none ∈ lw_all := lw_mem 488 (by decide +kernel) rfl
theorem tw_456 : Cond.methodLink RL 135 yL_carry ∈ lw_all := lw_mem 489 (by decide +kernel) rfl
theorem tw_457 : Cond.static yL_carry ∈ lw_all := lw_mem 490 (by decide +kernel) rfl
theorem tw_458 : Cond.codeWith yL_carry cL_carry 4 (some FieldType.int) [(0, 9, 12, 19), (0, 9, 15, 13)] ∈ lw_all := lw_mem 491 (by decide +kernel) rfl
theorem tw_459 : Cond.methodLink RL 34 yX4_carry ∈ lw_all := lw_mem 492 (by decide +kernel) rfl
theorem tw_460 : Cond.instanceMethod yX4_carry ∈ lw_all := lw_mem 493 (by decide +kernel) rfl
theorem tw_461 : Cond.selects RX4 yX4_carry yX4_carry ∈ lw_all := lw_mem 494 (by decide +kernel) rfl
theorem tw_462 : Cond.code yX4_carry cX4_carry 4 (some FieldType.int) ∈ lw_all := lw_mem 495 (by decide +kernel) rfl
theorem tw_463 : Cond.methodLink RX4 95 yX4_needBag ∈ lw_all := lw_mem 496 (by decide +kernel) rfl
theorem tw_465 : Cond.instanceMethod yX4_needBag ∈ lw_all := lw_mem 498 (by decide +kernel) rfl
theorem tw_466 : Cond.code yX4_needBag cX4_needBag 2 none ∈ lw_all := lw_mem 499 (by decide +kernel) rfl
theorem tw_468 : Cond.methodLink RX4 98 yX4_needInHand ∈ lw_all := lw_mem 501 (by decide +kernel) rfl
theorem tw_470 : Cond.instanceMethod yX4_needInHand ∈ lw_all := lw_mem 503 (by decide +kernel) rfl
theorem tw_471 : Cond.code yX4_needInHand cX4_needInHand 3 none ∈ lw_all := lw_mem 504 (by decide +kernel) rfl
theorem tw_473 : Cond.methodLink RX4 111 yX2_hasRoom ∈ lw_all := lw_mem 506 (by decide +kernel) rfl
theorem tw_474 : Cond.instanceMethod yX2_hasRoom ∈ lw_all := lw_mem 507 (by decide +kernel) rfl
theorem tw_475 : Cond.selects RX2 yX2_hasRoom yX2_hasRoom ∈ lw_all := lw_mem 508 (by decide +kernel) rfl
theorem tw_476 : Cond.code yX2_hasRoom cX2_hasRoom 2 (some FieldType.boolean) ∈ lw_all := lw_mem 509 (by decide +kernel) rfl
theorem tw_478 : Cond.methodLink RX4 116 yX0_putIntoChute ∈ lw_all := lw_mem 511 (by decide +kernel) rfl
theorem tw_479 : Cond.instanceMethod yX0_putIntoChute ∈ lw_all := lw_mem 512 (by decide +kernel) rfl
theorem tw_480 : Cond.selects RX0 yX0_putIntoChute yX0_putIntoChute ∈ lw_all := lw_mem 513 (by decide +kernel) rfl
theorem tw_481 : Cond.code yX0_putIntoChute cX0_putIntoChute 3 none ∈ lw_all := lw_mem 514 (by decide +kernel) rfl
theorem tw_482 : Cond.methodLink RL 138 yL_forward ∈ lw_all := lw_mem 515 (by decide +kernel) rfl
theorem tw_483 : Cond.static yL_forward ∈ lw_all := lw_mem 516 (by decide +kernel) rfl
theorem tw_484 : Cond.codeWith yL_forward cL_forward 5 (some FieldType.int) [(0, 10, 13, 19), (0, 10, 17, 13)] ∈ lw_all := lw_mem 517 (by decide +kernel) rfl
theorem tw_485 : Cond.methodLink RL 37 yX4_forward ∈ lw_all := lw_mem 518 (by decide +kernel) rfl
theorem tw_486 : Cond.instanceMethod yX4_forward ∈ lw_all := lw_mem 519 (by decide +kernel) rfl
theorem tw_487 : Cond.selects RX4 yX4_forward yX4_forward ∈ lw_all := lw_mem 520 (by decide +kernel) rfl
theorem tw_488 : Cond.code yX4_forward cX4_forward 3 (some FieldType.int) ∈ lw_all := lw_mem 521 (by decide +kernel) rfl
theorem tw_490 : Cond.methodLink RX4 124 yX0_renew ∈ lw_all := lw_mem 523 (by decide +kernel) rfl
theorem tw_491 : Cond.instanceMethod yX0_renew ∈ lw_all := lw_mem 524 (by decide +kernel) rfl
theorem tw_492 : Cond.selects RX0 yX0_renew yX0_renew ∈ lw_all := lw_mem 525 (by decide +kernel) rfl
theorem tw_493 : Cond.code yX0_renew cX0_renew 3 none ∈ lw_all := lw_mem 526 (by decide +kernel) rfl
theorem tw_494 : Cond.methodLink RX0 49 yX0_closeFile ∈ lw_all := lw_mem 527 (by decide +kernel) rfl
theorem tw_495 : Cond.instanceMethod yX0_closeFile ∈ lw_all := lw_mem 528 (by decide +kernel) rfl
theorem tw_496 : Cond.selects RX0 yX0_closeFile yX0_closeFile ∈ lw_all := lw_mem 529 (by decide +kernel) rfl
theorem tw_497 : Cond.code yX0_closeFile cX0_closeFile 2 none ∈ lw_all := lw_mem 530 (by decide +kernel) rfl
theorem tw_498 : Cond.methodLink RX0 53 yX3_at ∈ lw_all := lw_mem 531 (by decide +kernel) rfl
theorem tw_499 : Cond.methodLink RL 141 yL_sweep ∈ lw_all := lw_mem 532 (by decide +kernel) rfl
theorem tw_500 : Cond.static yL_sweep ∈ lw_all := lw_mem 533 (by decide +kernel) rfl
theorem tw_501 : Cond.codeWith yL_sweep cL_sweep 4 (some FieldType.int) [(0, 9, 12, 19)] ∈ lw_all := lw_mem 534 (by decide +kernel) rfl
theorem tw_502 : Cond.methodLink RL 40 yX4_sweep ∈ lw_all := lw_mem 535 (by decide +kernel) rfl
theorem tw_503 : Cond.instanceMethod yX4_sweep ∈ lw_all := lw_mem 536 (by decide +kernel) rfl
theorem tw_504 : Cond.selects RX4 yX4_sweep yX4_sweep ∈ lw_all := lw_mem 537 (by decide +kernel) rfl
theorem tw_505 : Cond.code yX4_sweep cX4_sweep 2 (some FieldType.int) ∈ lw_all := lw_mem 538 (by decide +kernel) rfl
theorem tw_506 : Cond.methodLink RX4 130 yX2_clearMisrouted ∈ lw_all := lw_mem 539 (by decide +kernel) rfl
theorem tw_507 : Cond.instanceMethod yX2_clearMisrouted ∈ lw_all := lw_mem 540 (by decide +kernel) rfl
theorem tw_508 : Cond.selects RX2 yX2_clearMisrouted yX2_clearMisrouted ∈ lw_all := lw_mem 541 (by decide +kernel) rfl
theorem tw_509 : Cond.code yX2_clearMisrouted cX2_clearMisrouted 4 (some FieldType.int) ∈ lw_all := lw_mem 542 (by decide +kernel) rfl
theorem tw_510 : Cond.methodLink RX2 91 yX0_takeFromChute ∈ lw_all := lw_mem 543 (by decide +kernel) rfl
theorem tw_511 : Cond.instanceMethod yX0_takeFromChute ∈ lw_all := lw_mem 544 (by decide +kernel) rfl
theorem tw_512 : Cond.selects RX0 yX0_takeFromChute yX0_takeFromChute ∈ lw_all := lw_mem 545 (by decide +kernel) rfl
theorem tw_513 : Cond.code yX0_takeFromChute cX0_takeFromChute 3 none ∈ lw_all := lw_mem 546 (by decide +kernel) rfl
theorem tw_514 : Cond.methodLink RX2 94 yX0_closeFile ∈ lw_all := lw_mem 547 (by decide +kernel) rfl
theorem tw_515 : Cond.methodLink RL 144 yL_depart ∈ lw_all := lw_mem 548 (by decide +kernel) rfl
theorem tw_516 : Cond.static yL_depart ∈ lw_all := lw_mem 549 (by decide +kernel) rfl
theorem tw_517 : Cond.codeWith yL_depart cL_depart 4 (some FieldType.int) [(0, 9, 12, 19), (0, 9, 15, 13)] ∈ lw_all := lw_mem 550 (by decide +kernel) rfl
theorem tw_518 : Cond.methodLink RL 43 yX4_depart ∈ lw_all := lw_mem 551 (by decide +kernel) rfl
theorem tw_519 : Cond.instanceMethod yX4_depart ∈ lw_all := lw_mem 552 (by decide +kernel) rfl
theorem tw_520 : Cond.selects RX4 yX4_depart yX4_depart ∈ lw_all := lw_mem 553 (by decide +kernel) rfl
theorem tw_521 : Cond.code yX4_depart cX4_depart 2 (some FieldType.int) ∈ lw_all := lw_mem 554 (by decide +kernel) rfl
theorem tw_522 : Cond.methodLink RX4 133 yX2_letLeave ∈ lw_all := lw_mem 555 (by decide +kernel) rfl
theorem tw_523 : Cond.instanceMethod yX2_letLeave ∈ lw_all := lw_mem 556 (by decide +kernel) rfl
theorem tw_524 : Cond.selects RX2 yX2_letLeave yX2_letLeave ∈ lw_all := lw_mem 557 (by decide +kernel) rfl
theorem tw_525 : Cond.code yX2_letLeave cX2_letLeave 4 (some FieldType.int) ∈ lw_all := lw_mem 558 (by decide +kernel) rfl
theorem tw_526 : Cond.methodLink RL 147 yL_pass ∈ lw_all := lw_mem 559 (by decide +kernel) rfl
theorem tw_527 : Cond.static yL_pass ∈ lw_all := lw_mem 560 (by decide +kernel) rfl
theorem tw_528 : Cond.codeWith yL_pass cL_pass 4 (some FieldType.int) [(0, 9, 12, 25)] ∈ lw_all := lw_mem 561 (by decide +kernel) rfl
theorem tw_529 : Cond.methodLink RL 46 yX4_pass ∈ lw_all := lw_mem 562 (by decide +kernel) rfl
theorem tw_530 : Cond.instanceMethod yX4_pass ∈ lw_all := lw_mem 563 (by decide +kernel) rfl
theorem tw_531 : Cond.selects RX4 yX4_pass yX4_pass ∈ lw_all := lw_mem 564 (by decide +kernel) rfl
theorem tw_532 : Cond.code yX4_pass cX4_pass 2 (some FieldType.int) ∈ lw_all := lw_mem 565 (by decide +kernel) rfl
theorem tw_533 : Cond.methodLink RX4 136 yX4_needMinutes ∈ lw_all := lw_mem 566 (by decide +kernel) rfl
theorem tw_534 : Cond.static yX4_needMinutes ∈ lw_all := lw_mem 567 (by decide +kernel) rfl
theorem tw_535 : Cond.code yX4_needMinutes cX4_needMinutes 1 none ∈ lw_all := lw_mem 568 (by decide +kernel) rfl
theorem tw_537 : Cond.methodLink RX4 139 yX2_goMinutes ∈ lw_all := lw_mem 570 (by decide +kernel) rfl
theorem tw_538 : Cond.instanceMethod yX2_goMinutes ∈ lw_all := lw_mem 571 (by decide +kernel) rfl
theorem tw_539 : Cond.selects RX2 yX2_goMinutes yX2_goMinutes ∈ lw_all := lw_mem 572 (by decide +kernel) rfl
theorem tw_540 : Cond.code yX2_goMinutes cX2_goMinutes 4 (some FieldType.int) ∈ lw_all := lw_mem 573 (by decide +kernel) rfl
theorem tw_541 : Cond.methodLink RX2 104 yX2_goMinute ∈ lw_all := lw_mem 574 (by decide +kernel) rfl
theorem tw_542 : Cond.instanceMethod yX2_goMinute ∈ lw_all := lw_mem 575 (by decide +kernel) rfl
theorem tw_543 : Cond.selects RX2 yX2_goMinute yX2_goMinute ∈ lw_all := lw_mem 576 (by decide +kernel) rfl
theorem tw_544 : Cond.code yX2_goMinute cX2_goMinute 2 (some FieldType.int) ∈ lw_all := lw_mem 577 (by decide +kernel) rfl
theorem tw_545 : Cond.methodLink RX2 108 yX3_turn ∈ lw_all := lw_mem 578 (by decide +kernel) rfl
theorem tw_546 : Cond.instanceMethod yX3_turn ∈ lw_all := lw_mem 579 (by decide +kernel) rfl
theorem tw_547 : Cond.selects RX3 yX3_turn yX3_turn ∈ lw_all := lw_mem 580 (by decide +kernel) rfl
theorem tw_548 : Cond.code yX3_turn cX3_turn 3 none ∈ lw_all := lw_mem 581 (by decide +kernel) rfl
theorem tw_549 : Cond.methodLink RX3 33 yX3_at ∈ lw_all := lw_mem 582 (by decide +kernel) rfl
theorem tw_550 : Cond.methodLink RX3 37 yX3_put ∈ lw_all := lw_mem 583 (by decide +kernel) rfl
theorem tw_551 : Cond.methodLink RX2 111 yX2_readTag ∈ lw_all := lw_mem 584 (by decide +kernel) rfl
theorem tw_552 : Cond.instanceMethod yX2_readTag ∈ lw_all := lw_mem 585 (by decide +kernel) rfl
theorem tw_553 : Cond.selects RX2 yX2_readTag yX2_readTag ∈ lw_all := lw_mem 586 (by decide +kernel) rfl
theorem tw_554 : Cond.code yX2_readTag cX2_readTag 3 none ∈ lw_all := lw_mem 587 (by decide +kernel) rfl
theorem tw_555 : Cond.methodLink RX2 126 yX2_missTag ∈ lw_all := lw_mem 588 (by decide +kernel) rfl
theorem tw_556 : Cond.instanceMethod yX2_missTag ∈ lw_all := lw_mem 589 (by decide +kernel) rfl
theorem tw_557 : Cond.selects RX2 yX2_missTag yX2_missTag ∈ lw_all := lw_mem 590 (by decide +kernel) rfl
theorem tw_558 : Cond.code yX2_missTag cX2_missTag 3 none ∈ lw_all := lw_mem 591 (by decide +kernel) rfl
theorem tw_559 : Cond.methodLink RX2 114 yX2_fillChutes ∈ lw_all := lw_mem 592 (by decide +kernel) rfl
theorem tw_560 : Cond.instanceMethod yX2_fillChutes ∈ lw_all := lw_mem 593 (by decide +kernel) rfl
theorem tw_561 : Cond.selects RX2 yX2_fillChutes yX2_fillChutes ∈ lw_all := lw_mem 594 (by decide +kernel) rfl
theorem tw_562 : Cond.code yX2_fillChutes cX2_fillChutes 5 (some FieldType.int) ∈ lw_all := lw_mem 595 (by decide +kernel) rfl
theorem tw_563 : Cond.methodLink RX2 132 yX2_hasRoom ∈ lw_all := lw_mem 596 (by decide +kernel) rfl
theorem tw_564 : Cond.methodLink RX2 135 yX0_putIntoChute ∈ lw_all := lw_mem 597 (by decide +kernel) rfl
theorem tw_565 : Cond.methodLink RX2 117 yX2_feedBelt ∈ lw_all := lw_mem 598 (by decide +kernel) rfl
theorem tw_566 : Cond.instanceMethod yX2_feedBelt ∈ lw_all := lw_mem 599 (by decide +kernel) rfl
theorem tw_567 : Cond.selects RX2 yX2_feedBelt yX2_feedBelt ∈ lw_all := lw_mem 600 (by decide +kernel) rfl
theorem tw_568 : Cond.code yX2_feedBelt cX2_feedBelt 2 none ∈ lw_all := lw_mem 601 (by decide +kernel) rfl
theorem tw_569 : Cond.methodLink RX2 138 yX3_takeFront ∈ lw_all := lw_mem 602 (by decide +kernel) rfl
theorem tw_570 : Cond.instanceMethod yX3_takeFront ∈ lw_all := lw_mem 603 (by decide +kernel) rfl
theorem tw_571 : Cond.selects RX3 yX3_takeFront yX3_takeFront ∈ lw_all := lw_mem 604 (by decide +kernel) rfl
theorem tw_572 : Cond.code yX3_takeFront cX3_takeFront 3 (some FieldType.int) ∈ lw_all := lw_mem 605 (by decide +kernel) rfl
theorem tw_573 : Cond.methodLink RL 150 yL_flightOf ∈ lw_all := lw_mem 606 (by decide +kernel) rfl
theorem tw_574 : Cond.static yL_flightOf ∈ lw_all := lw_mem 607 (by decide +kernel) rfl
theorem tw_575 : Cond.codeWith yL_flightOf cL_flightOf 4 (some FieldType.int) [(0, 9, 12, 19)] ∈ lw_all := lw_mem 608 (by decide +kernel) rfl
theorem tw_576 : Cond.methodLink RL 49 yX4_flightOf ∈ lw_all := lw_mem 609 (by decide +kernel) rfl
theorem tw_577 : Cond.instanceMethod yX4_flightOf ∈ lw_all := lw_mem 610 (by decide +kernel) rfl
theorem tw_578 : Cond.selects RX4 yX4_flightOf yX4_flightOf ∈ lw_all := lw_mem 611 (by decide +kernel) rfl
theorem tw_579 : Cond.code yX4_flightOf cX4_flightOf 2 (some FieldType.int) ∈ lw_all := lw_mem 612 (by decide +kernel) rfl
theorem tw_580 : Cond.methodLink RL 153 yL_whereIs ∈ lw_all := lw_mem 613 (by decide +kernel) rfl
theorem tw_581 : Cond.static yL_whereIs ∈ lw_all := lw_mem 614 (by decide +kernel) rfl
theorem tw_582 : Cond.codeWith yL_whereIs cL_whereIs 4 (some FieldType.int) [(0, 9, 12, 19)] ∈ lw_all := lw_mem 615 (by decide +kernel) rfl
theorem tw_583 : Cond.methodLink RL 52 yX4_whereIs ∈ lw_all := lw_mem 616 (by decide +kernel) rfl
theorem tw_584 : Cond.instanceMethod yX4_whereIs ∈ lw_all := lw_mem 617 (by decide +kernel) rfl
theorem tw_585 : Cond.selects RX4 yX4_whereIs yX4_whereIs ∈ lw_all := lw_mem 618 (by decide +kernel) rfl
theorem tw_586 : Cond.code yX4_whereIs cX4_whereIs 2 (some FieldType.int) ∈ lw_all := lw_mem 619 (by decide +kernel) rfl
theorem tw_587 : Cond.methodLink RL 156 yL_placeOf ∈ lw_all := lw_mem 620 (by decide +kernel) rfl
theorem tw_588 : Cond.static yL_placeOf ∈ lw_all := lw_mem 621 (by decide +kernel) rfl
theorem tw_589 : Cond.codeWith yL_placeOf cL_placeOf 4 (some FieldType.int) [(0, 9, 12, 19)] ∈ lw_all := lw_mem 622 (by decide +kernel) rfl
theorem tw_590 : Cond.methodLink RL 55 yX4_placeOf ∈ lw_all := lw_mem 623 (by decide +kernel) rfl
theorem tw_591 : Cond.instanceMethod yX4_placeOf ∈ lw_all := lw_mem 624 (by decide +kernel) rfl
theorem tw_592 : Cond.selects RX4 yX4_placeOf yX4_placeOf ∈ lw_all := lw_mem 625 (by decide +kernel) rfl
theorem tw_593 : Cond.code yX4_placeOf cX4_placeOf 2 (some FieldType.int) ∈ lw_all := lw_mem 626 (by decide +kernel) rfl
theorem tw_594 : Cond.methodLink RL 159 yL_chuteOf ∈ lw_all := lw_mem 627 (by decide +kernel) rfl
theorem tw_595 : Cond.static yL_chuteOf ∈ lw_all := lw_mem 628 (by decide +kernel) rfl
theorem tw_596 : Cond.codeWith yL_chuteOf cL_chuteOf 4 (some FieldType.int) [(0, 9, 12, 19)] ∈ lw_all := lw_mem 629 (by decide +kernel) rfl
theorem tw_597 : Cond.methodLink RL 58 yX4_chuteOf ∈ lw_all := lw_mem 630 (by decide +kernel) rfl
theorem tw_598 : Cond.instanceMethod yX4_chuteOf ∈ lw_all := lw_mem 631 (by decide +kernel) rfl
theorem tw_599 : Cond.selects RX4 yX4_chuteOf yX4_chuteOf ∈ lw_all := lw_mem 632 (by decide +kernel) rfl
theorem tw_600 : Cond.code yX4_chuteOf cX4_chuteOf 2 (some FieldType.int) ∈ lw_all := lw_mem 633 (by decide +kernel) rfl
theorem tw_601 : Cond.methodLink RL 162 yL_readFor ∈ lw_all := lw_mem 634 (by decide +kernel) rfl
theorem tw_602 : Cond.static yL_readFor ∈ lw_all := lw_mem 635 (by decide +kernel) rfl
theorem tw_603 : Cond.codeWith yL_readFor cL_readFor 4 (some FieldType.int) [(0, 9, 12, 19)] ∈ lw_all := lw_mem 636 (by decide +kernel) rfl
theorem tw_604 : Cond.methodLink RL 61 yX4_readFor ∈ lw_all := lw_mem 637 (by decide +kernel) rfl
theorem tw_605 : Cond.instanceMethod yX4_readFor ∈ lw_all := lw_mem 638 (by decide +kernel) rfl
theorem tw_606 : Cond.selects RX4 yX4_readFor yX4_readFor ∈ lw_all := lw_mem 639 (by decide +kernel) rfl
theorem tw_607 : Cond.code yX4_readFor cX4_readFor 2 (some FieldType.int) ∈ lw_all := lw_mem 640 (by decide +kernel) rfl
theorem tw_608 : Cond.methodLink RL 165 yL_missesOf ∈ lw_all := lw_mem 641 (by decide +kernel) rfl
theorem tw_609 : Cond.static yL_missesOf ∈ lw_all := lw_mem 642 (by decide +kernel) rfl
theorem tw_610 : Cond.codeWith yL_missesOf cL_missesOf 4 (some FieldType.int) [(0, 9, 12, 19)] ∈ lw_all := lw_mem 643 (by decide +kernel) rfl
theorem tw_611 : Cond.methodLink RL 64 yX4_missesOf ∈ lw_all := lw_mem 644 (by decide +kernel) rfl
theorem tw_612 : Cond.instanceMethod yX4_missesOf ∈ lw_all := lw_mem 645 (by decide +kernel) rfl
theorem tw_613 : Cond.selects RX4 yX4_missesOf yX4_missesOf ∈ lw_all := lw_mem 646 (by decide +kernel) rfl
theorem tw_614 : Cond.code yX4_missesOf cX4_missesOf 2 (some FieldType.int) ∈ lw_all := lw_mem 647 (by decide +kernel) rfl
theorem tw_615 : Cond.methodLink RL 168 yL_isMisrouted ∈ lw_all := lw_mem 648 (by decide +kernel) rfl
theorem tw_616 : Cond.static yL_isMisrouted ∈ lw_all := lw_mem 649 (by decide +kernel) rfl
theorem tw_617 : Cond.codeWith yL_isMisrouted cL_isMisrouted 4 (some FieldType.int) [(0, 16, 19, 19)] ∈ lw_all := lw_mem 650 (by decide +kernel) rfl
theorem tw_618 : Cond.methodLink RL 67 yX4_isMisrouted ∈ lw_all := lw_mem 651 (by decide +kernel) rfl
theorem tw_619 : Cond.instanceMethod yX4_isMisrouted ∈ lw_all := lw_mem 652 (by decide +kernel) rfl
theorem tw_620 : Cond.selects RX4 yX4_isMisrouted yX4_isMisrouted ∈ lw_all := lw_mem 653 (by decide +kernel) rfl
theorem tw_621 : Cond.code yX4_isMisrouted cX4_isMisrouted 2 (some FieldType.boolean) ∈ lw_all := lw_mem 654 (by decide +kernel) rfl
theorem tw_622 : Cond.methodLink RL 171 yL_hasOpenFile ∈ lw_all := lw_mem 655 (by decide +kernel) rfl
theorem tw_623 : Cond.static yL_hasOpenFile ∈ lw_all := lw_mem 656 (by decide +kernel) rfl
theorem tw_624 : Cond.codeWith yL_hasOpenFile cL_hasOpenFile 4 (some FieldType.int) [(0, 16, 19, 19)] ∈ lw_all := lw_mem 657 (by decide +kernel) rfl
theorem tw_625 : Cond.methodLink RL 71 yX4_hasOpenFile ∈ lw_all := lw_mem 658 (by decide +kernel) rfl
theorem tw_626 : Cond.instanceMethod yX4_hasOpenFile ∈ lw_all := lw_mem 659 (by decide +kernel) rfl
theorem tw_627 : Cond.selects RX4 yX4_hasOpenFile yX4_hasOpenFile ∈ lw_all := lw_mem 660 (by decide +kernel) rfl
theorem tw_628 : Cond.code yX4_hasOpenFile cX4_hasOpenFile 2 (some FieldType.boolean) ∈ lw_all := lw_mem 661 (by decide +kernel) rfl
theorem tw_629 : Cond.methodLink RL 174 yL_bagAt ∈ lw_all := lw_mem 662 (by decide +kernel) rfl
theorem tw_630 : Cond.static yL_bagAt ∈ lw_all := lw_mem 663 (by decide +kernel) rfl
theorem tw_631 : Cond.codeWith yL_bagAt cL_bagAt 4 (some FieldType.int) [(0, 9, 12, 19)] ∈ lw_all := lw_mem 664 (by decide +kernel) rfl
theorem tw_632 : Cond.methodLink RL 74 yX4_bagAt ∈ lw_all := lw_mem 665 (by decide +kernel) rfl
theorem tw_633 : Cond.instanceMethod yX4_bagAt ∈ lw_all := lw_mem 666 (by decide +kernel) rfl
theorem tw_634 : Cond.selects RX4 yX4_bagAt yX4_bagAt ∈ lw_all := lw_mem 667 (by decide +kernel) rfl
theorem tw_635 : Cond.code yX4_bagAt cX4_bagAt 2 (some FieldType.int) ∈ lw_all := lw_mem 668 (by decide +kernel) rfl
theorem tw_637 : Cond.methodLink RL 177 yL_bagsIn ∈ lw_all := lw_mem 670 (by decide +kernel) rfl
theorem tw_638 : Cond.static yL_bagsIn ∈ lw_all := lw_mem 671 (by decide +kernel) rfl
theorem tw_639 : Cond.codeWith yL_bagsIn cL_bagsIn 4 (some FieldType.int) [(0, 9, 12, 19)] ∈ lw_all := lw_mem 672 (by decide +kernel) rfl
theorem tw_640 : Cond.methodLink RL 77 yX4_bagsIn ∈ lw_all := lw_mem 673 (by decide +kernel) rfl
theorem tw_641 : Cond.instanceMethod yX4_bagsIn ∈ lw_all := lw_mem 674 (by decide +kernel) rfl
theorem tw_642 : Cond.selects RX4 yX4_bagsIn yX4_bagsIn ∈ lw_all := lw_mem 675 (by decide +kernel) rfl
theorem tw_643 : Cond.code yX4_bagsIn cX4_bagsIn 2 (some FieldType.int) ∈ lw_all := lw_mem 676 (by decide +kernel) rfl
theorem tw_644 : Cond.methodLink RL 180 yL_misroutedIn ∈ lw_all := lw_mem 677 (by decide +kernel) rfl
theorem tw_645 : Cond.static yL_misroutedIn ∈ lw_all := lw_mem 678 (by decide +kernel) rfl
theorem tw_646 : Cond.codeWith yL_misroutedIn cL_misroutedIn 4 (some FieldType.int) [(0, 9, 12, 19)] ∈ lw_all := lw_mem 679 (by decide +kernel) rfl
theorem tw_647 : Cond.methodLink RL 80 yX4_misroutedIn ∈ lw_all := lw_mem 680 (by decide +kernel) rfl
theorem tw_648 : Cond.instanceMethod yX4_misroutedIn ∈ lw_all := lw_mem 681 (by decide +kernel) rfl
theorem tw_649 : Cond.selects RX4 yX4_misroutedIn yX4_misroutedIn ∈ lw_all := lw_mem 682 (by decide +kernel) rfl
theorem tw_650 : Cond.code yX4_misroutedIn cX4_misroutedIn 2 (some FieldType.int) ∈ lw_all := lw_mem 683 (by decide +kernel) rfl
theorem tw_651 : Cond.methodLink RL 183 yL_roomOf ∈ lw_all := lw_mem 684 (by decide +kernel) rfl
theorem tw_652 : Cond.static yL_roomOf ∈ lw_all := lw_mem 685 (by decide +kernel) rfl
theorem tw_653 : Cond.codeWith yL_roomOf cL_roomOf 4 (some FieldType.int) [(0, 9, 12, 19)] ∈ lw_all := lw_mem 686 (by decide +kernel) rfl
theorem tw_654 : Cond.methodLink RL 83 yX4_roomOf ∈ lw_all := lw_mem 687 (by decide +kernel) rfl
theorem tw_655 : Cond.instanceMethod yX4_roomOf ∈ lw_all := lw_mem 688 (by decide +kernel) rfl
theorem tw_656 : Cond.selects RX4 yX4_roomOf yX4_roomOf ∈ lw_all := lw_mem 689 (by decide +kernel) rfl
theorem tw_657 : Cond.code yX4_roomOf cX4_roomOf 2 (some FieldType.int) ∈ lw_all := lw_mem 690 (by decide +kernel) rfl
theorem tw_658 : Cond.methodLink RL 186 yL_chuteOfFlight ∈ lw_all := lw_mem 691 (by decide +kernel) rfl
theorem tw_659 : Cond.static yL_chuteOfFlight ∈ lw_all := lw_mem 692 (by decide +kernel) rfl
theorem tw_660 : Cond.codeWith yL_chuteOfFlight cL_chuteOfFlight 4 (some FieldType.int) [(0, 9, 12, 19)] ∈ lw_all := lw_mem 693 (by decide +kernel) rfl
theorem tw_661 : Cond.methodLink RL 86 yX4_chuteOfFlight ∈ lw_all := lw_mem 694 (by decide +kernel) rfl
theorem tw_662 : Cond.instanceMethod yX4_chuteOfFlight ∈ lw_all := lw_mem 695 (by decide +kernel) rfl
theorem tw_663 : Cond.selects RX4 yX4_chuteOfFlight yX4_chuteOfFlight ∈ lw_all := lw_mem 696 (by decide +kernel) rfl
theorem tw_664 : Cond.code yX4_chuteOfFlight cX4_chuteOfFlight 2 (some FieldType.int) ∈ lw_all := lw_mem 697 (by decide +kernel) rfl
theorem tw_665 : Cond.methodLink RL 189 yL_isGone ∈ lw_all := lw_mem 698 (by decide +kernel) rfl
theorem tw_666 : Cond.static yL_isGone ∈ lw_all := lw_mem 699 (by decide +kernel) rfl
theorem tw_667 : Cond.codeWith yL_isGone cL_isGone 4 (some FieldType.int) [(0, 16, 19, 19)] ∈ lw_all := lw_mem 700 (by decide +kernel) rfl
theorem tw_668 : Cond.methodLink RL 89 yX4_isGone ∈ lw_all := lw_mem 701 (by decide +kernel) rfl
theorem tw_669 : Cond.instanceMethod yX4_isGone ∈ lw_all := lw_mem 702 (by decide +kernel) rfl
theorem tw_670 : Cond.selects RX4 yX4_isGone yX4_isGone ∈ lw_all := lw_mem 703 (by decide +kernel) rfl
theorem tw_671 : Cond.code yX4_isGone cX4_isGone 2 (some FieldType.boolean) ∈ lw_all := lw_mem 704 (by decide +kernel) rfl
theorem tw_672 : Cond.methodLink RL 192 yL_readyOf ∈ lw_all := lw_mem 705 (by decide +kernel) rfl
theorem tw_673 : Cond.static yL_readyOf ∈ lw_all := lw_mem 706 (by decide +kernel) rfl
theorem tw_674 : Cond.codeWith yL_readyOf cL_readyOf 4 (some FieldType.int) [(0, 9, 12, 19)] ∈ lw_all := lw_mem 707 (by decide +kernel) rfl
theorem tw_675 : Cond.methodLink RL 92 yX4_readyOf ∈ lw_all := lw_mem 708 (by decide +kernel) rfl
theorem tw_676 : Cond.instanceMethod yX4_readyOf ∈ lw_all := lw_mem 709 (by decide +kernel) rfl
theorem tw_677 : Cond.selects RX4 yX4_readyOf yX4_readyOf ∈ lw_all := lw_mem 710 (by decide +kernel) rfl
theorem tw_678 : Cond.code yX4_readyOf cX4_readyOf 2 (some FieldType.int) ∈ lw_all := lw_mem 711 (by decide +kernel) rfl
theorem tw_679 : Cond.methodLink RL 195 yL_missingOf ∈ lw_all := lw_mem 712 (by decide +kernel) rfl
theorem tw_680 : Cond.static yL_missingOf ∈ lw_all := lw_mem 713 (by decide +kernel) rfl
theorem tw_681 : Cond.codeWith yL_missingOf cL_missingOf 4 (some FieldType.int) [(0, 9, 12, 19)] ∈ lw_all := lw_mem 714 (by decide +kernel) rfl
theorem tw_682 : Cond.methodLink RL 95 yX4_missingOf ∈ lw_all := lw_mem 715 (by decide +kernel) rfl
theorem tw_683 : Cond.instanceMethod yX4_missingOf ∈ lw_all := lw_mem 716 (by decide +kernel) rfl
theorem tw_684 : Cond.selects RX4 yX4_missingOf yX4_missingOf ∈ lw_all := lw_mem 717 (by decide +kernel) rfl
theorem tw_685 : Cond.code yX4_missingOf cX4_missingOf 2 (some FieldType.int) ∈ lw_all := lw_mem 718 (by decide +kernel) rfl
theorem tw_686 : Cond.methodLink RL 234 yL_minutesUntilChute ∈ lw_all := lw_mem 719 (by decide +kernel) rfl
theorem tw_687 : Cond.static yL_minutesUntilChute ∈ lw_all := lw_mem 720 (by decide +kernel) rfl
theorem tw_688 : Cond.codeWith yL_minutesUntilChute cL_minutesUntilChute 4 (some FieldType.int) [(0, 9, 12, 19)] ∈ lw_all := lw_mem 721 (by decide +kernel) rfl
theorem tw_689 : Cond.methodLink RL 98 yX4_minutesUntilChute ∈ lw_all := lw_mem 722 (by decide +kernel) rfl
theorem tw_690 : Cond.instanceMethod yX4_minutesUntilChute ∈ lw_all := lw_mem 723 (by decide +kernel) rfl
theorem tw_691 : Cond.selects RX4 yX4_minutesUntilChute yX4_minutesUntilChute ∈ lw_all := lw_mem 724 (by decide +kernel) rfl
theorem tw_692 : Cond.code yX4_minutesUntilChute cX4_minutesUntilChute 3 (some FieldType.int) ∈ lw_all := lw_mem 725 (by decide +kernel) rfl
theorem tw_693 : Cond.methodLink RX4 183 yX2_becomeLike ∈ lw_all := lw_mem 726 (by decide +kernel) rfl
theorem tw_694 : Cond.instanceMethod yX2_becomeLike ∈ lw_all := lw_mem 727 (by decide +kernel) rfl
theorem tw_695 : Cond.selects RX2 yX2_becomeLike yX2_becomeLike ∈ lw_all := lw_mem 728 (by decide +kernel) rfl
theorem tw_696 : Cond.code yX2_becomeLike cX2_becomeLike 2 none ∈ lw_all := lw_mem 729 (by decide +kernel) rfl
theorem tw_697 : Cond.methodLink RX2 50 yX1_takeAll ∈ lw_all := lw_mem 730 (by decide +kernel) rfl
theorem tw_698 : Cond.instanceMethod yX1_takeAll ∈ lw_all := lw_mem 731 (by decide +kernel) rfl
theorem tw_699 : Cond.selects RX1 yX1_takeAll yX1_takeAll ∈ lw_all := lw_mem 732 (by decide +kernel) rfl
theorem tw_700 : Cond.code yX1_takeAll cX1_takeAll 2 none ∈ lw_all := lw_mem 733 (by decide +kernel) rfl
theorem tw_701 : Cond.methodLink RX1 31 yX3_takeAll ∈ lw_all := lw_mem 734 (by decide +kernel) rfl
theorem tw_702 : Cond.instanceMethod yX3_takeAll ∈ lw_all := lw_mem 735 (by decide +kernel) rfl
theorem tw_703 : Cond.selects RX3 yX3_takeAll yX3_takeAll ∈ lw_all := lw_mem 736 (by decide +kernel) rfl
theorem tw_704 : Cond.code yX3_takeAll cX3_takeAll 2 none ∈ lw_all := lw_mem 737 (by decide +kernel) rfl
theorem tw_705 : Cond.methodLink RX3 21 yJ9_min_7cf53 ∈ lw_all := lw_mem 738 (by decide +kernel) rfl
theorem tw_706 : Cond.static yJ9_min_7cf53 ∈ lw_all := lw_mem 739 (by decide +kernel) rfl
theorem tw_707 : Cond.code yJ9_min_7cf53 cJ9_min_7cf53 2 (some FieldType.int) ∈ lw_all := lw_mem 740 (by decide +kernel) rfl
theorem tw_708 : Cond.methodLink RX3 27 ⟨"java/lang/System", "arraycopy", "(Ljava/lang/Object;ILjava/lang/Object;II)V"⟩ ∈ lw_all := lw_mem 741 (by decide +kernel) rfl
theorem tw_709 : Cond.static ⟨"java/lang/System", "arraycopy", "(Ljava/lang/Object;ILjava/lang/Object;II)V"⟩ ∈ lw_all := lw_mem 742 (by decide +kernel) rfl
theorem tw_710 : Cond.native ⟨"java/lang/System", "arraycopy", "(Ljava/lang/Object;ILjava/lang/Object;II)V"⟩ ∈ lw_all := lw_mem 743 (by decide +kernel) rfl
theorem tw_711 : Cond.methodLink RX2 54 yX0_takeAll ∈ lw_all := lw_mem 744 (by decide +kernel) rfl
theorem tw_712 : Cond.instanceMethod yX0_takeAll ∈ lw_all := lw_mem 745 (by decide +kernel) rfl
theorem tw_713 : Cond.selects RX0 yX0_takeAll yX0_takeAll ∈ lw_all := lw_mem 746 (by decide +kernel) rfl
theorem tw_714 : Cond.code yX0_takeAll cX0_takeAll 2 none ∈ lw_all := lw_mem 747 (by decide +kernel) rfl
theorem tw_715 : Cond.methodLink RX0 57 yX3_takeAll ∈ lw_all := lw_mem 748 (by decide +kernel) rfl
theorem tw_716 : Cond.methodLink RX2 57 yX3_takeAll ∈ lw_all := lw_mem 749 (by decide +kernel) rfl
theorem tw_717 : Cond.methodLink RX4 187 yX2_goMinute ∈ lw_all := lw_mem 750 (by decide +kernel) rfl
theorem tw_718 : Cond.methodLink RL 237 yL_readyAfter ∈ lw_all := lw_mem 751 (by decide +kernel) rfl
theorem tw_719 : Cond.static yL_readyAfter ∈ lw_all := lw_mem 752 (by decide +kernel) rfl
theorem tw_720 : Cond.codeWith yL_readyAfter cL_readyAfter 5 (some FieldType.int) [(0, 10, 13, 19), (0, 10, 17, 25)] ∈ lw_all := lw_mem 753 (by decide +kernel) rfl
theorem tw_721 : Cond.methodLink RL 101 yX4_readyAfter ∈ lw_all := lw_mem 754 (by decide +kernel) rfl
theorem tw_722 : Cond.instanceMethod yX4_readyAfter ∈ lw_all := lw_mem 755 (by decide +kernel) rfl
theorem tw_723 : Cond.selects RX4 yX4_readyAfter yX4_readyAfter ∈ lw_all := lw_mem 756 (by decide +kernel) rfl
theorem tw_724 : Cond.code yX4_readyAfter cX4_readyAfter 3 (some FieldType.int) ∈ lw_all := lw_mem 757 (by decide +kernel) rfl
theorem tw_725 : Cond.methodLink RX4 190 yX4_readyWithChute ∈ lw_all := lw_mem 758 (by decide +kernel) rfl
theorem tw_727 : Cond.instanceMethod yX4_readyWithChute ∈ lw_all := lw_mem 760 (by decide +kernel) rfl
theorem tw_728 : Cond.code yX4_readyWithChute cX4_readyWithChute 4 (some FieldType.int) ∈ lw_all := lw_mem 761 (by decide +kernel) rfl
theorem tw_729 : Cond.methodLink RL 240 yL_bestChute ∈ lw_all := lw_mem 762 (by decide +kernel) rfl
theorem tw_730 : Cond.static yL_bestChute ∈ lw_all := lw_mem 763 (by decide +kernel) rfl
theorem tw_731 : Cond.codeWith yL_bestChute cL_bestChute 5 (some FieldType.int) [(0, 10, 13, 19), (0, 10, 17, 25), (0, 10, 21, 13)] ∈ lw_all := lw_mem 764 (by decide +kernel) rfl
theorem tw_732 : Cond.methodLink RL 104 yX4_bestChute ∈ lw_all := lw_mem 765 (by decide +kernel) rfl
theorem tw_733 : Cond.instanceMethod yX4_bestChute ∈ lw_all := lw_mem 766 (by decide +kernel) rfl
theorem tw_734 : Cond.selects RX4 yX4_bestChute yX4_bestChute ∈ lw_all := lw_mem 767 (by decide +kernel) rfl
theorem tw_735 : Cond.code yX4_bestChute cX4_bestChute 7 (some FieldType.int) ∈ lw_all := lw_mem 768 (by decide +kernel) rfl
theorem tw_736 : Cond.classLink RL 108 RX6 ∈ lw_all := lw_mem 769 (by decide +kernel) rfl
theorem tw_737 : Cond.instantiable RX6 13 ∈ lw_all := lw_mem 770 (by decide +kernel) rfl
theorem tw_738 : Cond.methodLink RL 110 yX6_init ∈ lw_all := lw_mem 771 (by decide +kernel) rfl
theorem tw_739 : Cond.instanceMethod yX6_init ∈ lw_all := lw_mem 772 (by decide +kernel) rfl
theorem tw_740 : Cond.code yX6_init cX6_init 2 none ∈ lw_all := lw_mem 773 (by decide +kernel) rfl
theorem tw_741 : Cond.methodLink RX6 1 objectInit ∈ lw_all := lw_mem 774 (by decide +kernel) rfl
theorem tw_742 : Cond.classLink RX6 36 RX5 ∈ lw_all := lw_mem 775 (by decide +kernel) rfl
theorem tw_743 : Cond.instantiable RX5 9 ∈ lw_all := lw_mem 776 (by decide +kernel) rfl
theorem tw_744 : Cond.methodLink RX6 38 yX5_init ∈ lw_all := lw_mem 777 (by decide +kernel) rfl
theorem tw_745 : Cond.instanceMethod yX5_init ∈ lw_all := lw_mem 778 (by decide +kernel) rfl
theorem tw_746 : Cond.code yX5_init cX5_init 2 none ∈ lw_all := lw_mem 779 (by decide +kernel) rfl
theorem tw_747 : Cond.methodLink RX5 3 objectInit ∈ lw_all := lw_mem 780 (by decide +kernel) rfl
theorem tw_748 : Cond.fieldLink RX5 39 "BagCarouselModel$State" "minute" "I" ∈ lw_all := lw_mem 781 (by decide +kernel) rfl
theorem tw_750 : Cond.fieldLink RX5 9 "BagCarouselModel$State" "where" "[I" ∈ lw_all := lw_mem 783 (by decide +kernel) rfl
theorem tw_752 : Cond.fieldLink RX5 15 "BagCarouselModel$State" "at" "[I" ∈ lw_all := lw_mem 785 (by decide +kernel) rfl
theorem tw_754 : Cond.fieldLink RX5 18 "BagCarouselModel$State" "read" "[I" ∈ lw_all := lw_mem 787 (by decide +kernel) rfl
theorem tw_756 : Cond.fieldLink RX5 21 "BagCarouselModel$State" "missed" "[I" ∈ lw_all := lw_mem 789 (by decide +kernel) rfl
theorem tw_758 : Cond.fieldLink RX5 24 "BagCarouselModel$State" "belt" "[I" ∈ lw_all := lw_mem 791 (by decide +kernel) rfl
theorem tw_760 : Cond.fieldLink RX5 27 "BagCarouselModel$State" "line" "[I" ∈ lw_all := lw_mem 793 (by decide +kernel) rfl
theorem tw_761 : Cond.fieldLink RX5 43 "BagCarouselModel$State" "inLine" "I" ∈ lw_all := lw_mem 794 (by decide +kernel) rfl
theorem tw_763 : Cond.fieldLink RX5 30 "BagCarouselModel$State" "in" "[I" ∈ lw_all := lw_mem 796 (by decide +kernel) rfl
theorem tw_765 : Cond.lays "BagCarouselModel$State" "BagCarouselModel$State" "minute" "I" ∈ lw_all := lw_mem 798 (by decide +kernel) rfl
theorem tw_766 : Cond.soleField "BagCarouselModel$State" "minute" ∈ lw_all := lw_mem 799 (by decide +kernel) rfl
theorem tw_767 : Cond.laysFinal "BagCarouselModel$State" "BagCarouselModel$State" "where" "[I" ∈ lw_all := lw_mem 800 (by decide +kernel) rfl
theorem tw_768 : Cond.soleField "BagCarouselModel$State" "where" ∈ lw_all := lw_mem 801 (by decide +kernel) rfl
theorem tw_769 : Cond.laysFinal "BagCarouselModel$State" "BagCarouselModel$State" "at" "[I" ∈ lw_all := lw_mem 802 (by decide +kernel) rfl
theorem tw_770 : Cond.soleField "BagCarouselModel$State" "at" ∈ lw_all := lw_mem 803 (by decide +kernel) rfl
theorem tw_771 : Cond.laysFinal "BagCarouselModel$State" "BagCarouselModel$State" "read" "[I" ∈ lw_all := lw_mem 804 (by decide +kernel) rfl
theorem tw_772 : Cond.soleField "BagCarouselModel$State" "read" ∈ lw_all := lw_mem 805 (by decide +kernel) rfl
theorem tw_773 : Cond.laysFinal "BagCarouselModel$State" "BagCarouselModel$State" "missed" "[I" ∈ lw_all := lw_mem 806 (by decide +kernel) rfl
theorem tw_774 : Cond.soleField "BagCarouselModel$State" "missed" ∈ lw_all := lw_mem 807 (by decide +kernel) rfl
theorem tw_775 : Cond.laysFinal "BagCarouselModel$State" "BagCarouselModel$State" "belt" "[I" ∈ lw_all := lw_mem 808 (by decide +kernel) rfl
theorem tw_776 : Cond.soleField "BagCarouselModel$State" "belt" ∈ lw_all := lw_mem 809 (by decide +kernel) rfl
theorem tw_777 : Cond.laysFinal "BagCarouselModel$State" "BagCarouselModel$State" "line" "[I" ∈ lw_all := lw_mem 810 (by decide +kernel) rfl
theorem tw_778 : Cond.soleField "BagCarouselModel$State" "line" ∈ lw_all := lw_mem 811 (by decide +kernel) rfl
theorem tw_779 : Cond.lays "BagCarouselModel$State" "BagCarouselModel$State" "inLine" "I" ∈ lw_all := lw_mem 812 (by decide +kernel) rfl
theorem tw_780 : Cond.soleField "BagCarouselModel$State" "inLine" ∈ lw_all := lw_mem 813 (by decide +kernel) rfl
theorem tw_781 : Cond.laysFinal "BagCarouselModel$State" "BagCarouselModel$State" "in" "[I" ∈ lw_all := lw_mem 814 (by decide +kernel) rfl
theorem tw_782 : Cond.soleField "BagCarouselModel$State" "in" ∈ lw_all := lw_mem 815 (by decide +kernel) rfl
theorem tw_783 : Cond.superclass "BagCarouselModel$State" "java/lang/Object" ∈ lw_all := lw_mem 816 (by decide +kernel) rfl
theorem tw_784 : Cond.arrayClass FieldType.boolean ∈ lw_all := lw_mem 817 (by decide +kernel) rfl
theorem tw_785 : Cond.fieldLink RX6 46 "BagCarouselModel" "thrown" "I" ∈ lw_all := lw_mem 818 (by decide +kernel) rfl
theorem tw_786 : Cond.fieldLink RX6 56 "BagCarouselModel" "flights" "I" ∈ lw_all := lw_mem 819 (by decide +kernel) rfl
theorem tw_787 : Cond.fieldLink RX6 9 "BagCarouselModel" "chuteOf" "[I" ∈ lw_all := lw_mem 820 (by decide +kernel) rfl
theorem tw_788 : Cond.fieldLink RX6 13 "BagCarouselModel" "isGone" "[Z" ∈ lw_all := lw_mem 821 (by decide +kernel) rfl
theorem tw_789 : Cond.fieldLink RX6 17 "BagCarouselModel" "room" "[I" ∈ lw_all := lw_mem 822 (by decide +kernel) rfl
theorem tw_790 : Cond.fieldLink RX6 20 "BagCarouselModel" "strength" "I" ∈ lw_all := lw_mem 823 (by decide +kernel) rfl
theorem tw_791 : Cond.fieldLink RX6 49 "BagCarouselModel" "bags" "I" ∈ lw_all := lw_mem 824 (by decide +kernel) rfl
theorem tw_792 : Cond.fieldLink RX6 24 "BagCarouselModel" "flight" "[I" ∈ lw_all := lw_mem 825 (by decide +kernel) rfl
theorem tw_793 : Cond.fieldLink RX6 27 "BagCarouselModel" "size" "[I" ∈ lw_all := lw_mem 826 (by decide +kernel) rfl
theorem tw_794 : Cond.fieldLink RX6 30 "BagCarouselModel" "smudge" "[I" ∈ lw_all := lw_mem 827 (by decide +kernel) rfl
theorem tw_795 : Cond.fieldLink RX6 33 "BagCarouselModel" "file" "[I" ∈ lw_all := lw_mem 828 (by decide +kernel) rfl
theorem tw_796 : Cond.fieldLink RX6 39 "BagCarouselModel" "s" "LBagCarouselModel$State;" ∈ lw_all := lw_mem 829 (by decide +kernel) rfl
theorem tw_797 : Cond.fieldLink RX6 43 "BagCarouselModel" "ahead" "LBagCarouselModel$State;" ∈ lw_all := lw_mem 830 (by decide +kernel) rfl
theorem tw_798 : Cond.lays "BagCarouselModel" "BagCarouselModel" "thrown" "I" ∈ lw_all := lw_mem 831 (by decide +kernel) rfl
theorem tw_799 : Cond.soleField "BagCarouselModel" "thrown" ∈ lw_all := lw_mem 832 (by decide +kernel) rfl
theorem tw_800 : Cond.lays "BagCarouselModel" "BagCarouselModel" "flights" "I" ∈ lw_all := lw_mem 833 (by decide +kernel) rfl
theorem tw_801 : Cond.soleField "BagCarouselModel" "flights" ∈ lw_all := lw_mem 834 (by decide +kernel) rfl
theorem tw_802 : Cond.laysFinal "BagCarouselModel" "BagCarouselModel" "chuteOf" "[I" ∈ lw_all := lw_mem 835 (by decide +kernel) rfl
theorem tw_803 : Cond.soleField "BagCarouselModel" "chuteOf" ∈ lw_all := lw_mem 836 (by decide +kernel) rfl
theorem tw_804 : Cond.laysFinal "BagCarouselModel" "BagCarouselModel" "isGone" "[Z" ∈ lw_all := lw_mem 837 (by decide +kernel) rfl
theorem tw_805 : Cond.soleField "BagCarouselModel" "isGone" ∈ lw_all := lw_mem 838 (by decide +kernel) rfl
theorem tw_806 : Cond.laysFinal "BagCarouselModel" "BagCarouselModel" "room" "[I" ∈ lw_all := lw_mem 839 (by decide +kernel) rfl
theorem tw_807 : Cond.soleField "BagCarouselModel" "room" ∈ lw_all := lw_mem 840 (by decide +kernel) rfl
theorem tw_808 : Cond.lays "BagCarouselModel" "BagCarouselModel" "strength" "I" ∈ lw_all := lw_mem 841 (by decide +kernel) rfl
theorem tw_809 : Cond.soleField "BagCarouselModel" "strength" ∈ lw_all := lw_mem 842 (by decide +kernel) rfl
theorem tw_810 : Cond.lays "BagCarouselModel" "BagCarouselModel" "bags" "I" ∈ lw_all := lw_mem 843 (by decide +kernel) rfl
theorem tw_811 : Cond.soleField "BagCarouselModel" "bags" ∈ lw_all := lw_mem 844 (by decide +kernel) rfl
theorem tw_812 : Cond.laysFinal "BagCarouselModel" "BagCarouselModel" "flight" "[I" ∈ lw_all := lw_mem 845 (by decide +kernel) rfl
theorem tw_813 : Cond.soleField "BagCarouselModel" "flight" ∈ lw_all := lw_mem 846 (by decide +kernel) rfl
theorem tw_814 : Cond.laysFinal "BagCarouselModel" "BagCarouselModel" "size" "[I" ∈ lw_all := lw_mem 847 (by decide +kernel) rfl
theorem tw_815 : Cond.soleField "BagCarouselModel" "size" ∈ lw_all := lw_mem 848 (by decide +kernel) rfl
theorem tw_816 : Cond.laysFinal "BagCarouselModel" "BagCarouselModel" "smudge" "[I" ∈ lw_all := lw_mem 849 (by decide +kernel) rfl
theorem tw_817 : Cond.soleField "BagCarouselModel" "smudge" ∈ lw_all := lw_mem 850 (by decide +kernel) rfl
theorem tw_818 : Cond.laysFinal "BagCarouselModel" "BagCarouselModel" "file" "[I" ∈ lw_all := lw_mem 851 (by decide +kernel) rfl
theorem tw_819 : Cond.soleField "BagCarouselModel" "file" ∈ lw_all := lw_mem 852 (by decide +kernel) rfl
theorem tw_820 : Cond.laysFinal "BagCarouselModel" "BagCarouselModel" "s" "LBagCarouselModel$State;" ∈ lw_all := lw_mem 853 (by decide +kernel) rfl
theorem tw_821 : Cond.soleField "BagCarouselModel" "s" ∈ lw_all := lw_mem 854 (by decide +kernel) rfl
theorem tw_822 : Cond.laysFinal "BagCarouselModel" "BagCarouselModel" "ahead" "LBagCarouselModel$State;" ∈ lw_all := lw_mem 855 (by decide +kernel) rfl
theorem tw_823 : Cond.soleField "BagCarouselModel" "ahead" ∈ lw_all := lw_mem 856 (by decide +kernel) rfl
theorem tw_824 : Cond.superclass "BagCarouselModel" "java/lang/Object" ∈ lw_all := lw_mem 857 (by decide +kernel) rfl
theorem tw_825 : Cond.methodLink RL 117 yX6_thrown ∈ lw_all := lw_mem 858 (by decide +kernel) rfl
theorem tw_826 : Cond.instanceMethod yX6_thrown ∈ lw_all := lw_mem 859 (by decide +kernel) rfl
theorem tw_827 : Cond.selects RX6 yX6_thrown yX6_thrown ∈ lw_all := lw_mem 860 (by decide +kernel) rfl
theorem tw_828 : Cond.code yX6_thrown cX6_thrown 1 (some FieldType.int) ∈ lw_all := lw_mem 861 (by decide +kernel) rfl
theorem tw_829 : Cond.methodLink RL 116 yX6_addFlight ∈ lw_all := lw_mem 862 (by decide +kernel) rfl
theorem tw_830 : Cond.instanceMethod yX6_addFlight ∈ lw_all := lw_mem 863 (by decide +kernel) rfl
theorem tw_831 : Cond.selects RX6 yX6_addFlight yX6_addFlight ∈ lw_all := lw_mem 864 (by decide +kernel) rfl
theorem tw_832 : Cond.code yX6_addFlight cX6_addFlight 1 (some FieldType.int) ∈ lw_all := lw_mem 865 (by decide +kernel) rfl
theorem tw_833 : Cond.methodLink RX6 110 yX6_no ∈ lw_all := lw_mem 866 (by decide +kernel) rfl
theorem tw_835 : Cond.instanceMethod yX6_no ∈ lw_all := lw_mem 868 (by decide +kernel) rfl
theorem tw_836 : Cond.code yX6_no cX6_no 2 (some FieldType.int) ∈ lw_all := lw_mem 869 (by decide +kernel) rfl
theorem tw_837 : Cond.methodLink RL 123 yX6_giveChute ∈ lw_all := lw_mem 870 (by decide +kernel) rfl
theorem tw_838 : Cond.instanceMethod yX6_giveChute ∈ lw_all := lw_mem 871 (by decide +kernel) rfl
theorem tw_839 : Cond.selects RX6 yX6_giveChute yX6_giveChute ∈ lw_all := lw_mem 872 (by decide +kernel) rfl
theorem tw_840 : Cond.code yX6_giveChute cX6_giveChute 5 (some FieldType.int) ∈ lw_all := lw_mem 873 (by decide +kernel) rfl
theorem tw_841 : Cond.methodLink RX6 114 yX6_isFlight ∈ lw_all := lw_mem 874 (by decide +kernel) rfl
theorem tw_843 : Cond.instanceMethod yX6_isFlight ∈ lw_all := lw_mem 876 (by decide +kernel) rfl
theorem tw_844 : Cond.code yX6_isFlight cX6_isFlight 2 (some FieldType.boolean) ∈ lw_all := lw_mem 877 (by decide +kernel) rfl
theorem tw_845 : Cond.methodLink RX6 52 yX6_isIn ∈ lw_all := lw_mem 878 (by decide +kernel) rfl
theorem tw_846 : Cond.static yX6_isIn ∈ lw_all := lw_mem 879 (by decide +kernel) rfl
theorem tw_847 : Cond.code yX6_isIn cX6_isIn 3 (some FieldType.boolean) ∈ lw_all := lw_mem 880 (by decide +kernel) rfl
theorem tw_848 : Cond.methodLink RX6 118 yX6_isChute ∈ lw_all := lw_mem 881 (by decide +kernel) rfl
theorem tw_849 : Cond.static yX6_isChute ∈ lw_all := lw_mem 882 (by decide +kernel) rfl
theorem tw_850 : Cond.code yX6_isChute cX6_isChute 1 (some FieldType.boolean) ∈ lw_all := lw_mem 883 (by decide +kernel) rfl
theorem tw_851 : Cond.methodLink RL 127 yX6_setReader ∈ lw_all := lw_mem 884 (by decide +kernel) rfl
theorem tw_852 : Cond.instanceMethod yX6_setReader ∈ lw_all := lw_mem 885 (by decide +kernel) rfl
theorem tw_853 : Cond.selects RX6 yX6_setReader yX6_setReader ∈ lw_all := lw_mem 886 (by decide +kernel) rfl
theorem tw_854 : Cond.code yX6_setReader cX6_setReader 3 (some FieldType.int) ∈ lw_all := lw_mem 887 (by decide +kernel) rfl
theorem tw_855 : Cond.methodLink RL 130 yX6_setRoom ∈ lw_all := lw_mem 888 (by decide +kernel) rfl
theorem tw_856 : Cond.instanceMethod yX6_setRoom ∈ lw_all := lw_mem 889 (by decide +kernel) rfl
theorem tw_857 : Cond.selects RX6 yX6_setRoom yX6_setRoom ∈ lw_all := lw_mem 890 (by decide +kernel) rfl
theorem tw_858 : Cond.code yX6_setRoom cX6_setRoom 4 (some FieldType.int) ∈ lw_all := lw_mem 891 (by decide +kernel) rfl
theorem tw_859 : Cond.methodLink RL 134 yX6_checkIn ∈ lw_all := lw_mem 892 (by decide +kernel) rfl
theorem tw_860 : Cond.instanceMethod yX6_checkIn ∈ lw_all := lw_mem 893 (by decide +kernel) rfl
theorem tw_861 : Cond.selects RX6 yX6_checkIn yX6_checkIn ∈ lw_all := lw_mem 894 (by decide +kernel) rfl
theorem tw_862 : Cond.code yX6_checkIn cX6_checkIn 4 (some FieldType.int) ∈ lw_all := lw_mem 895 (by decide +kernel) rfl
theorem tw_863 : Cond.methodLink RX6 125 yX6_begin ∈ lw_all := lw_mem 896 (by decide +kernel) rfl
theorem tw_865 : Cond.instanceMethod yX6_begin ∈ lw_all := lw_mem 898 (by decide +kernel) rfl
theorem tw_866 : Cond.code yX6_begin cX6_begin 2 none ∈ lw_all := lw_mem 899 (by decide +kernel) rfl
theorem tw_867 : Cond.methodLink RX6 68 yX5_put ∈ lw_all := lw_mem 900 (by decide +kernel) rfl
theorem tw_868 : Cond.instanceMethod yX5_put ∈ lw_all := lw_mem 901 (by decide +kernel) rfl
theorem tw_869 : Cond.selects RX5 yX5_put yX5_put ∈ lw_all := lw_mem 902 (by decide +kernel) rfl
theorem tw_870 : Cond.code yX5_put cX5_put 4 none ∈ lw_all := lw_mem 903 (by decide +kernel) rfl
theorem tw_871 : Cond.methodLink RX6 121 yX5_toLine ∈ lw_all := lw_mem 904 (by decide +kernel) rfl
theorem tw_872 : Cond.instanceMethod yX5_toLine ∈ lw_all := lw_mem 905 (by decide +kernel) rfl
theorem tw_873 : Cond.selects RX5 yX5_toLine yX5_toLine ∈ lw_all := lw_mem 906 (by decide +kernel) rfl
theorem tw_874 : Cond.code yX5_toLine cX5_toLine 2 none ∈ lw_all := lw_mem 907 (by decide +kernel) rfl
theorem tw_875 : Cond.methodLink RX5 50 yX5_put ∈ lw_all := lw_mem 908 (by decide +kernel) rfl
theorem tw_876 : Cond.methodLink RL 137 yX6_carry ∈ lw_all := lw_mem 909 (by decide +kernel) rfl
theorem tw_877 : Cond.instanceMethod yX6_carry ∈ lw_all := lw_mem 910 (by decide +kernel) rfl
theorem tw_878 : Cond.selects RX6 yX6_carry yX6_carry ∈ lw_all := lw_mem 911 (by decide +kernel) rfl
theorem tw_879 : Cond.code yX6_carry cX6_carry 4 (some FieldType.int) ∈ lw_all := lw_mem 912 (by decide +kernel) rfl
theorem tw_880 : Cond.methodLink RX6 128 yX6_isBag ∈ lw_all := lw_mem 913 (by decide +kernel) rfl
theorem tw_882 : Cond.instanceMethod yX6_isBag ∈ lw_all := lw_mem 915 (by decide +kernel) rfl
theorem tw_883 : Cond.code yX6_isBag cX6_isBag 2 (some FieldType.boolean) ∈ lw_all := lw_mem 916 (by decide +kernel) rfl
theorem tw_884 : Cond.methodLink RX6 131 yX6_isAside ∈ lw_all := lw_mem 917 (by decide +kernel) rfl
theorem tw_886 : Cond.instanceMethod yX6_isAside ∈ lw_all := lw_mem 919 (by decide +kernel) rfl
theorem tw_887 : Cond.code yX6_isAside cX6_isAside 2 (some FieldType.boolean) ∈ lw_all := lw_mem 920 (by decide +kernel) rfl
theorem tw_888 : Cond.methodLink RX6 75 yX5_toChute ∈ lw_all := lw_mem 921 (by decide +kernel) rfl
theorem tw_889 : Cond.instanceMethod yX5_toChute ∈ lw_all := lw_mem 922 (by decide +kernel) rfl
theorem tw_890 : Cond.selects RX5 yX5_toChute yX5_toChute ∈ lw_all := lw_mem 923 (by decide +kernel) rfl
theorem tw_891 : Cond.code yX5_toChute cX5_toChute 3 none ∈ lw_all := lw_mem 924 (by decide +kernel) rfl
theorem tw_892 : Cond.methodLink RL 140 yX6_forward ∈ lw_all := lw_mem 925 (by decide +kernel) rfl
theorem tw_893 : Cond.instanceMethod yX6_forward ∈ lw_all := lw_mem 926 (by decide +kernel) rfl
theorem tw_894 : Cond.selects RX6 yX6_forward yX6_forward ∈ lw_all := lw_mem 927 (by decide +kernel) rfl
theorem tw_895 : Cond.code yX6_forward cX6_forward 3 (some FieldType.int) ∈ lw_all := lw_mem 928 (by decide +kernel) rfl
theorem tw_896 : Cond.methodLink RX6 134 yX6_close ∈ lw_all := lw_mem 929 (by decide +kernel) rfl
theorem tw_898 : Cond.instanceMethod yX6_close ∈ lw_all := lw_mem 931 (by decide +kernel) rfl
theorem tw_899 : Cond.code yX6_close cX6_close 2 none ∈ lw_all := lw_mem 932 (by decide +kernel) rfl
theorem tw_900 : Cond.methodLink RL 143 yX6_sweep ∈ lw_all := lw_mem 933 (by decide +kernel) rfl
theorem tw_901 : Cond.instanceMethod yX6_sweep ∈ lw_all := lw_mem 934 (by decide +kernel) rfl
theorem tw_902 : Cond.selects RX6 yX6_sweep yX6_sweep ∈ lw_all := lw_mem 935 (by decide +kernel) rfl
theorem tw_903 : Cond.code yX6_sweep cX6_sweep 4 (some FieldType.int) ∈ lw_all := lw_mem 936 (by decide +kernel) rfl
theorem tw_904 : Cond.methodLink RX6 137 yX6_misrouted ∈ lw_all := lw_mem 937 (by decide +kernel) rfl
theorem tw_906 : Cond.instanceMethod yX6_misrouted ∈ lw_all := lw_mem 939 (by decide +kernel) rfl
theorem tw_907 : Cond.code yX6_misrouted cX6_misrouted 2 (some FieldType.boolean) ∈ lw_all := lw_mem 940 (by decide +kernel) rfl
theorem tw_908 : Cond.methodLink RL 146 yX6_depart ∈ lw_all := lw_mem 941 (by decide +kernel) rfl
theorem tw_909 : Cond.instanceMethod yX6_depart ∈ lw_all := lw_mem 942 (by decide +kernel) rfl
theorem tw_910 : Cond.selects RX6 yX6_depart yX6_depart ∈ lw_all := lw_mem 943 (by decide +kernel) rfl
theorem tw_911 : Cond.code yX6_depart cX6_depart 4 (some FieldType.int) ∈ lw_all := lw_mem 944 (by decide +kernel) rfl
theorem tw_912 : Cond.methodLink RX6 140 yX6_isInItsChute ∈ lw_all := lw_mem 945 (by decide +kernel) rfl
theorem tw_914 : Cond.instanceMethod yX6_isInItsChute ∈ lw_all := lw_mem 947 (by decide +kernel) rfl
theorem tw_915 : Cond.code yX6_isInItsChute cX6_isInItsChute 2 (some FieldType.boolean) ∈ lw_all := lw_mem 948 (by decide +kernel) rfl
theorem tw_916 : Cond.methodLink RL 149 yX6_pass ∈ lw_all := lw_mem 949 (by decide +kernel) rfl
theorem tw_917 : Cond.instanceMethod yX6_pass ∈ lw_all := lw_mem 950 (by decide +kernel) rfl
theorem tw_918 : Cond.selects RX6 yX6_pass yX6_pass ∈ lw_all := lw_mem 951 (by decide +kernel) rfl
theorem tw_919 : Cond.code yX6_pass cX6_pass 2 (some FieldType.int) ∈ lw_all := lw_mem 952 (by decide +kernel) rfl
theorem tw_920 : Cond.methodLink RX6 143 yX6_minutesOn ∈ lw_all := lw_mem 953 (by decide +kernel) rfl
theorem tw_922 : Cond.instanceMethod yX6_minutesOn ∈ lw_all := lw_mem 955 (by decide +kernel) rfl
theorem tw_923 : Cond.code yX6_minutesOn cX6_minutesOn 5 (some FieldType.int) ∈ lw_all := lw_mem 956 (by decide +kernel) rfl
theorem tw_924 : Cond.methodLink RX6 100 yX6_minuteOn ∈ lw_all := lw_mem 957 (by decide +kernel) rfl
theorem tw_926 : Cond.instanceMethod yX6_minuteOn ∈ lw_all := lw_mem 959 (by decide +kernel) rfl
theorem tw_927 : Cond.code yX6_minuteOn cX6_minuteOn 4 (some FieldType.int) ∈ lw_all := lw_mem 960 (by decide +kernel) rfl
theorem tw_928 : Cond.methodLink RX6 79 yX5_turnRound ∈ lw_all := lw_mem 961 (by decide +kernel) rfl
theorem tw_929 : Cond.instanceMethod yX5_turnRound ∈ lw_all := lw_mem 962 (by decide +kernel) rfl
theorem tw_930 : Cond.selects RX5 yX5_turnRound yX5_turnRound ∈ lw_all := lw_mem 963 (by decide +kernel) rfl
theorem tw_931 : Cond.code yX5_turnRound cX5_turnRound 3 none ∈ lw_all := lw_mem 964 (by decide +kernel) rfl
theorem tw_932 : Cond.methodLink RX5 33 ⟨"java/lang/System", "arraycopy", "(Ljava/lang/Object;ILjava/lang/Object;II)V"⟩ ∈ lw_all := lw_mem 965 (by decide +kernel) rfl
theorem tw_933 : Cond.methodLink RX6 82 yX6_readAt ∈ lw_all := lw_mem 966 (by decide +kernel) rfl
theorem tw_935 : Cond.instanceMethod yX6_readAt ∈ lw_all := lw_mem 968 (by decide +kernel) rfl
theorem tw_936 : Cond.code yX6_readAt cX6_readAt 4 none ∈ lw_all := lw_mem 969 (by decide +kernel) rfl
theorem tw_937 : Cond.methodLink RX6 86 yX6_slide ∈ lw_all := lw_mem 970 (by decide +kernel) rfl
theorem tw_939 : Cond.instanceMethod yX6_slide ∈ lw_all := lw_mem 972 (by decide +kernel) rfl
theorem tw_940 : Cond.code yX6_slide cX6_slide 5 (some FieldType.int) ∈ lw_all := lw_mem 973 (by decide +kernel) rfl
theorem tw_941 : Cond.methodLink RX6 93 yX5_firstInLine ∈ lw_all := lw_mem 974 (by decide +kernel) rfl
theorem tw_942 : Cond.instanceMethod yX5_firstInLine ∈ lw_all := lw_mem 975 (by decide +kernel) rfl
theorem tw_943 : Cond.selects RX5 yX5_firstInLine yX5_firstInLine ∈ lw_all := lw_mem 976 (by decide +kernel) rfl
theorem tw_944 : Cond.code yX5_firstInLine cX5_firstInLine 2 (some FieldType.int) ∈ lw_all := lw_mem 977 (by decide +kernel) rfl
theorem tw_945 : Cond.methodLink RL 152 yX6_flightOf ∈ lw_all := lw_mem 978 (by decide +kernel) rfl
theorem tw_946 : Cond.instanceMethod yX6_flightOf ∈ lw_all := lw_mem 979 (by decide +kernel) rfl
theorem tw_947 : Cond.selects RX6 yX6_flightOf yX6_flightOf ∈ lw_all := lw_mem 980 (by decide +kernel) rfl
theorem tw_948 : Cond.code yX6_flightOf cX6_flightOf 2 (some FieldType.int) ∈ lw_all := lw_mem 981 (by decide +kernel) rfl
theorem tw_949 : Cond.methodLink RL 155 yX6_whereIs ∈ lw_all := lw_mem 982 (by decide +kernel) rfl
theorem tw_950 : Cond.instanceMethod yX6_whereIs ∈ lw_all := lw_mem 983 (by decide +kernel) rfl
theorem tw_951 : Cond.selects RX6 yX6_whereIs yX6_whereIs ∈ lw_all := lw_mem 984 (by decide +kernel) rfl
theorem tw_952 : Cond.code yX6_whereIs cX6_whereIs 2 (some FieldType.int) ∈ lw_all := lw_mem 985 (by decide +kernel) rfl
theorem tw_953 : Cond.methodLink RL 158 yX6_placeOf ∈ lw_all := lw_mem 986 (by decide +kernel) rfl
theorem tw_954 : Cond.instanceMethod yX6_placeOf ∈ lw_all := lw_mem 987 (by decide +kernel) rfl
theorem tw_955 : Cond.selects RX6 yX6_placeOf yX6_placeOf ∈ lw_all := lw_mem 988 (by decide +kernel) rfl
theorem tw_956 : Cond.code yX6_placeOf cX6_placeOf 2 (some FieldType.int) ∈ lw_all := lw_mem 989 (by decide +kernel) rfl
theorem tw_957 : Cond.methodLink RX6 146 yX6_placed ∈ lw_all := lw_mem 990 (by decide +kernel) rfl
theorem tw_959 : Cond.instanceMethod yX6_placed ∈ lw_all := lw_mem 992 (by decide +kernel) rfl
theorem tw_960 : Cond.code yX6_placed cX6_placed 3 (some FieldType.int) ∈ lw_all := lw_mem 993 (by decide +kernel) rfl
theorem tw_961 : Cond.methodLink RL 161 yX6_chuteOf ∈ lw_all := lw_mem 994 (by decide +kernel) rfl
theorem tw_962 : Cond.instanceMethod yX6_chuteOf ∈ lw_all := lw_mem 995 (by decide +kernel) rfl
theorem tw_963 : Cond.selects RX6 yX6_chuteOf yX6_chuteOf ∈ lw_all := lw_mem 996 (by decide +kernel) rfl
theorem tw_964 : Cond.code yX6_chuteOf cX6_chuteOf 2 (some FieldType.int) ∈ lw_all := lw_mem 997 (by decide +kernel) rfl
theorem tw_965 : Cond.methodLink RL 164 yX6_readFor ∈ lw_all := lw_mem 998 (by decide +kernel) rfl
theorem tw_966 : Cond.instanceMethod yX6_readFor ∈ lw_all := lw_mem 999 (by decide +kernel) rfl
theorem tw_967 : Cond.selects RX6 yX6_readFor yX6_readFor ∈ lw_all := lw_mem 1000 (by decide +kernel) rfl
theorem tw_968 : Cond.code yX6_readFor cX6_readFor 2 (some FieldType.int) ∈ lw_all := lw_mem 1001 (by decide +kernel) rfl
theorem tw_969 : Cond.methodLink RL 167 yX6_missesOf ∈ lw_all := lw_mem 1002 (by decide +kernel) rfl
theorem tw_970 : Cond.instanceMethod yX6_missesOf ∈ lw_all := lw_mem 1003 (by decide +kernel) rfl
theorem tw_971 : Cond.selects RX6 yX6_missesOf yX6_missesOf ∈ lw_all := lw_mem 1004 (by decide +kernel) rfl
theorem tw_972 : Cond.code yX6_missesOf cX6_missesOf 2 (some FieldType.int) ∈ lw_all := lw_mem 1005 (by decide +kernel) rfl
theorem tw_973 : Cond.methodLink RL 170 yX6_isMisrouted ∈ lw_all := lw_mem 1006 (by decide +kernel) rfl
theorem tw_974 : Cond.instanceMethod yX6_isMisrouted ∈ lw_all := lw_mem 1007 (by decide +kernel) rfl
theorem tw_975 : Cond.selects RX6 yX6_isMisrouted yX6_isMisrouted ∈ lw_all := lw_mem 1008 (by decide +kernel) rfl
theorem tw_976 : Cond.code yX6_isMisrouted cX6_isMisrouted 2 (some FieldType.boolean) ∈ lw_all := lw_mem 1009 (by decide +kernel) rfl
theorem tw_977 : Cond.methodLink RX6 150 yX6_isNot ∈ lw_all := lw_mem 1010 (by decide +kernel) rfl
theorem tw_979 : Cond.instanceMethod yX6_isNot ∈ lw_all := lw_mem 1012 (by decide +kernel) rfl
theorem tw_980 : Cond.code yX6_isNot cX6_isNot 2 (some FieldType.boolean) ∈ lw_all := lw_mem 1013 (by decide +kernel) rfl
theorem tw_981 : Cond.methodLink RL 173 yX6_hasOpenFile ∈ lw_all := lw_mem 1014 (by decide +kernel) rfl
theorem tw_982 : Cond.instanceMethod yX6_hasOpenFile ∈ lw_all := lw_mem 1015 (by decide +kernel) rfl
theorem tw_983 : Cond.selects RX6 yX6_hasOpenFile yX6_hasOpenFile ∈ lw_all := lw_mem 1016 (by decide +kernel) rfl
theorem tw_984 : Cond.code yX6_hasOpenFile cX6_hasOpenFile 2 (some FieldType.boolean) ∈ lw_all := lw_mem 1017 (by decide +kernel) rfl
theorem tw_985 : Cond.methodLink RL 176 yX6_bagAt ∈ lw_all := lw_mem 1018 (by decide +kernel) rfl
theorem tw_986 : Cond.instanceMethod yX6_bagAt ∈ lw_all := lw_mem 1019 (by decide +kernel) rfl
theorem tw_987 : Cond.selects RX6 yX6_bagAt yX6_bagAt ∈ lw_all := lw_mem 1020 (by decide +kernel) rfl
theorem tw_988 : Cond.code yX6_bagAt cX6_bagAt 2 (some FieldType.int) ∈ lw_all := lw_mem 1021 (by decide +kernel) rfl
theorem tw_989 : Cond.methodLink RL 179 yX6_bagsIn ∈ lw_all := lw_mem 1022 (by decide +kernel) rfl
theorem tw_990 : Cond.instanceMethod yX6_bagsIn ∈ lw_all := lw_mem 1023 (by decide +kernel) rfl
theorem tw_991 : Cond.selects RX6 yX6_bagsIn yX6_bagsIn ∈ lw_all := lw_mem 1024 (by decide +kernel) rfl
theorem tw_992 : Cond.code yX6_bagsIn cX6_bagsIn 2 (some FieldType.int) ∈ lw_all := lw_mem 1025 (by decide +kernel) rfl
theorem tw_993 : Cond.methodLink RL 182 yX6_misroutedIn ∈ lw_all := lw_mem 1026 (by decide +kernel) rfl
theorem tw_994 : Cond.instanceMethod yX6_misroutedIn ∈ lw_all := lw_mem 1027 (by decide +kernel) rfl
theorem tw_995 : Cond.selects RX6 yX6_misroutedIn yX6_misroutedIn ∈ lw_all := lw_mem 1028 (by decide +kernel) rfl
theorem tw_996 : Cond.code yX6_misroutedIn cX6_misroutedIn 2 (some FieldType.int) ∈ lw_all := lw_mem 1029 (by decide +kernel) rfl
theorem tw_997 : Cond.methodLink RX6 153 yX6_badIn ∈ lw_all := lw_mem 1030 (by decide +kernel) rfl
theorem tw_999 : Cond.instanceMethod yX6_badIn ∈ lw_all := lw_mem 1032 (by decide +kernel) rfl
theorem tw_1000 : Cond.code yX6_badIn cX6_badIn 4 (some FieldType.int) ∈ lw_all := lw_mem 1033 (by decide +kernel) rfl
theorem tw_1001 : Cond.methodLink RL 185 yX6_roomOf ∈ lw_all := lw_mem 1034 (by decide +kernel) rfl
theorem tw_1002 : Cond.instanceMethod yX6_roomOf ∈ lw_all := lw_mem 1035 (by decide +kernel) rfl
theorem tw_1003 : Cond.selects RX6 yX6_roomOf yX6_roomOf ∈ lw_all := lw_mem 1036 (by decide +kernel) rfl
theorem tw_1004 : Cond.code yX6_roomOf cX6_roomOf 2 (some FieldType.int) ∈ lw_all := lw_mem 1037 (by decide +kernel) rfl
theorem tw_1005 : Cond.methodLink RL 188 yX6_chuteOfFlight ∈ lw_all := lw_mem 1038 (by decide +kernel) rfl
theorem tw_1006 : Cond.instanceMethod yX6_chuteOfFlight ∈ lw_all := lw_mem 1039 (by decide +kernel) rfl
theorem tw_1007 : Cond.selects RX6 yX6_chuteOfFlight yX6_chuteOfFlight ∈ lw_all := lw_mem 1040 (by decide +kernel) rfl
theorem tw_1008 : Cond.code yX6_chuteOfFlight cX6_chuteOfFlight 2 (some FieldType.int) ∈ lw_all := lw_mem 1041 (by decide +kernel) rfl
theorem tw_1009 : Cond.methodLink RL 191 yX6_isGone ∈ lw_all := lw_mem 1042 (by decide +kernel) rfl
theorem tw_1010 : Cond.instanceMethod yX6_isGone ∈ lw_all := lw_mem 1043 (by decide +kernel) rfl
theorem tw_1011 : Cond.selects RX6 yX6_isGone yX6_isGone ∈ lw_all := lw_mem 1044 (by decide +kernel) rfl
theorem tw_1012 : Cond.code yX6_isGone cX6_isGone 2 (some FieldType.boolean) ∈ lw_all := lw_mem 1045 (by decide +kernel) rfl
theorem tw_1013 : Cond.methodLink RL 194 yX6_readyOf ∈ lw_all := lw_mem 1046 (by decide +kernel) rfl
theorem tw_1014 : Cond.instanceMethod yX6_readyOf ∈ lw_all := lw_mem 1047 (by decide +kernel) rfl
theorem tw_1015 : Cond.selects RX6 yX6_readyOf yX6_readyOf ∈ lw_all := lw_mem 1048 (by decide +kernel) rfl
theorem tw_1016 : Cond.code yX6_readyOf cX6_readyOf 2 (some FieldType.int) ∈ lw_all := lw_mem 1049 (by decide +kernel) rfl
theorem tw_1017 : Cond.methodLink RX6 156 yX6_readyIn ∈ lw_all := lw_mem 1050 (by decide +kernel) rfl
theorem tw_1019 : Cond.instanceMethod yX6_readyIn ∈ lw_all := lw_mem 1052 (by decide +kernel) rfl
theorem tw_1020 : Cond.code yX6_readyIn cX6_readyIn 5 (some FieldType.int) ∈ lw_all := lw_mem 1053 (by decide +kernel) rfl
theorem tw_1021 : Cond.methodLink RL 197 yX6_missingOf ∈ lw_all := lw_mem 1054 (by decide +kernel) rfl
theorem tw_1022 : Cond.instanceMethod yX6_missingOf ∈ lw_all := lw_mem 1055 (by decide +kernel) rfl
theorem tw_1023 : Cond.selects RX6 yX6_missingOf yX6_missingOf ∈ lw_all := lw_mem 1056 (by decide +kernel) rfl
theorem tw_1024 : Cond.code yX6_missingOf cX6_missingOf 2 (some FieldType.int) ∈ lw_all := lw_mem 1057 (by decide +kernel) rfl
theorem tw_1025 : Cond.methodLink RX6 159 yX6_missing ∈ lw_all := lw_mem 1058 (by decide +kernel) rfl
theorem tw_1027 : Cond.instanceMethod yX6_missing ∈ lw_all := lw_mem 1060 (by decide +kernel) rfl
theorem tw_1028 : Cond.code yX6_missing cX6_missing 4 (some FieldType.int) ∈ lw_all := lw_mem 1061 (by decide +kernel) rfl
theorem tw_1029 : Cond.methodLink RL 201 yX6_minute ∈ lw_all := lw_mem 1062 (by decide +kernel) rfl
theorem tw_1030 : Cond.instanceMethod yX6_minute ∈ lw_all := lw_mem 1063 (by decide +kernel) rfl
theorem tw_1031 : Cond.selects RX6 yX6_minute yX6_minute ∈ lw_all := lw_mem 1064 (by decide +kernel) rfl
theorem tw_1032 : Cond.code yX6_minute cX6_minute 1 (some FieldType.int) ∈ lw_all := lw_mem 1065 (by decide +kernel) rfl
theorem tw_1033 : Cond.methodLink RX6 162 yX6_ok ∈ lw_all := lw_mem 1066 (by decide +kernel) rfl
theorem tw_1035 : Cond.instanceMethod yX6_ok ∈ lw_all := lw_mem 1068 (by decide +kernel) rfl
theorem tw_1036 : Cond.code yX6_ok cX6_ok 2 (some FieldType.int) ∈ lw_all := lw_mem 1069 (by decide +kernel) rfl
theorem tw_1037 : Cond.methodLink RL 205 yX6_flights ∈ lw_all := lw_mem 1070 (by decide +kernel) rfl
theorem tw_1038 : Cond.instanceMethod yX6_flights ∈ lw_all := lw_mem 1071 (by decide +kernel) rfl
theorem tw_1039 : Cond.selects RX6 yX6_flights yX6_flights ∈ lw_all := lw_mem 1072 (by decide +kernel) rfl
theorem tw_1040 : Cond.code yX6_flights cX6_flights 1 (some FieldType.int) ∈ lw_all := lw_mem 1073 (by decide +kernel) rfl
theorem tw_1041 : Cond.methodLink RL 209 yX6_bags ∈ lw_all := lw_mem 1074 (by decide +kernel) rfl
theorem tw_1042 : Cond.instanceMethod yX6_bags ∈ lw_all := lw_mem 1075 (by decide +kernel) rfl
theorem tw_1043 : Cond.selects RX6 yX6_bags yX6_bags ∈ lw_all := lw_mem 1076 (by decide +kernel) rfl
theorem tw_1044 : Cond.code yX6_bags cX6_bags 1 (some FieldType.int) ∈ lw_all := lw_mem 1077 (by decide +kernel) rfl
theorem tw_1045 : Cond.methodLink RL 213 yX6_inLine ∈ lw_all := lw_mem 1078 (by decide +kernel) rfl
theorem tw_1046 : Cond.instanceMethod yX6_inLine ∈ lw_all := lw_mem 1079 (by decide +kernel) rfl
theorem tw_1047 : Cond.selects RX6 yX6_inLine yX6_inLine ∈ lw_all := lw_mem 1080 (by decide +kernel) rfl
theorem tw_1048 : Cond.code yX6_inLine cX6_inLine 1 (some FieldType.int) ∈ lw_all := lw_mem 1081 (by decide +kernel) rfl
theorem tw_1049 : Cond.methodLink RL 217 yX6_onBelt ∈ lw_all := lw_mem 1082 (by decide +kernel) rfl
theorem tw_1050 : Cond.instanceMethod yX6_onBelt ∈ lw_all := lw_mem 1083 (by decide +kernel) rfl
theorem tw_1051 : Cond.selects RX6 yX6_onBelt yX6_onBelt ∈ lw_all := lw_mem 1084 (by decide +kernel) rfl
theorem tw_1052 : Cond.code yX6_onBelt cX6_onBelt 1 (some FieldType.int) ∈ lw_all := lw_mem 1085 (by decide +kernel) rfl
theorem tw_1053 : Cond.methodLink RX6 165 yX6_counted ∈ lw_all := lw_mem 1086 (by decide +kernel) rfl
theorem tw_1055 : Cond.instanceMethod yX6_counted ∈ lw_all := lw_mem 1088 (by decide +kernel) rfl
theorem tw_1056 : Cond.code yX6_counted cX6_counted 4 (some FieldType.int) ∈ lw_all := lw_mem 1089 (by decide +kernel) rfl
theorem tw_1057 : Cond.methodLink RL 221 yX6_atDesk ∈ lw_all := lw_mem 1090 (by decide +kernel) rfl
theorem tw_1058 : Cond.instanceMethod yX6_atDesk ∈ lw_all := lw_mem 1091 (by decide +kernel) rfl
theorem tw_1059 : Cond.selects RX6 yX6_atDesk yX6_atDesk ∈ lw_all := lw_mem 1092 (by decide +kernel) rfl
theorem tw_1060 : Cond.code yX6_atDesk cX6_atDesk 1 (some FieldType.int) ∈ lw_all := lw_mem 1093 (by decide +kernel) rfl
theorem tw_1061 : Cond.methodLink RL 225 yX6_openFiles ∈ lw_all := lw_mem 1094 (by decide +kernel) rfl
theorem tw_1062 : Cond.instanceMethod yX6_openFiles ∈ lw_all := lw_mem 1095 (by decide +kernel) rfl
theorem tw_1063 : Cond.selects RX6 yX6_openFiles yX6_openFiles ∈ lw_all := lw_mem 1096 (by decide +kernel) rfl
theorem tw_1064 : Cond.code yX6_openFiles cX6_openFiles 1 (some FieldType.int) ∈ lw_all := lw_mem 1097 (by decide +kernel) rfl
theorem tw_1065 : Cond.methodLink RX6 168 yX6_files ∈ lw_all := lw_mem 1098 (by decide +kernel) rfl
theorem tw_1067 : Cond.instanceMethod yX6_files ∈ lw_all := lw_mem 1100 (by decide +kernel) rfl
theorem tw_1068 : Cond.code yX6_files cX6_files 4 (some FieldType.int) ∈ lw_all := lw_mem 1101 (by decide +kernel) rfl
theorem tw_1069 : Cond.methodLink RL 229 yX6_closedFiles ∈ lw_all := lw_mem 1102 (by decide +kernel) rfl
theorem tw_1070 : Cond.instanceMethod yX6_closedFiles ∈ lw_all := lw_mem 1103 (by decide +kernel) rfl
theorem tw_1071 : Cond.selects RX6 yX6_closedFiles yX6_closedFiles ∈ lw_all := lw_mem 1104 (by decide +kernel) rfl
theorem tw_1072 : Cond.code yX6_closedFiles cX6_closedFiles 1 (some FieldType.int) ∈ lw_all := lw_mem 1105 (by decide +kernel) rfl
theorem tw_1073 : Cond.methodLink RL 233 yX6_reader ∈ lw_all := lw_mem 1106 (by decide +kernel) rfl
theorem tw_1074 : Cond.instanceMethod yX6_reader ∈ lw_all := lw_mem 1107 (by decide +kernel) rfl
theorem tw_1075 : Cond.selects RX6 yX6_reader yX6_reader ∈ lw_all := lw_mem 1108 (by decide +kernel) rfl
theorem tw_1076 : Cond.code yX6_reader cX6_reader 1 (some FieldType.int) ∈ lw_all := lw_mem 1109 (by decide +kernel) rfl
theorem tw_1077 : Cond.methodLink RL 236 yX6_minutesUntilChute ∈ lw_all := lw_mem 1110 (by decide +kernel) rfl
theorem tw_1078 : Cond.instanceMethod yX6_minutesUntilChute ∈ lw_all := lw_mem 1111 (by decide +kernel) rfl
theorem tw_1079 : Cond.selects RX6 yX6_minutesUntilChute yX6_minutesUntilChute ∈ lw_all := lw_mem 1112 (by decide +kernel) rfl
theorem tw_1080 : Cond.code yX6_minutesUntilChute cX6_minutesUntilChute 2 (some FieldType.int) ∈ lw_all := lw_mem 1113 (by decide +kernel) rfl
theorem tw_1081 : Cond.methodLink RX6 174 yX6_untilChute ∈ lw_all := lw_mem 1114 (by decide +kernel) rfl
theorem tw_1083 : Cond.instanceMethod yX6_untilChute ∈ lw_all := lw_mem 1116 (by decide +kernel) rfl
theorem tw_1084 : Cond.code yX6_untilChute cX6_untilChute 3 (some FieldType.int) ∈ lw_all := lw_mem 1117 (by decide +kernel) rfl
theorem tw_1085 : Cond.methodLink RX6 171 yX5_become ∈ lw_all := lw_mem 1118 (by decide +kernel) rfl
theorem tw_1086 : Cond.instanceMethod yX5_become ∈ lw_all := lw_mem 1119 (by decide +kernel) rfl
theorem tw_1087 : Cond.selects RX5 yX5_become yX5_become ∈ lw_all := lw_mem 1120 (by decide +kernel) rfl
theorem tw_1088 : Cond.code yX5_become cX5_become 2 none ∈ lw_all := lw_mem 1121 (by decide +kernel) rfl
theorem tw_1089 : Cond.methodLink RX5 46 yX5_copy ∈ lw_all := lw_mem 1122 (by decide +kernel) rfl
theorem tw_1090 : Cond.static yX5_copy ∈ lw_all := lw_mem 1123 (by decide +kernel) rfl
theorem tw_1091 : Cond.code yX5_copy cX5_copy 2 none ∈ lw_all := lw_mem 1124 (by decide +kernel) rfl
theorem tw_1092 : Cond.methodLink RL 239 yX6_readyAfter ∈ lw_all := lw_mem 1125 (by decide +kernel) rfl
theorem tw_1093 : Cond.instanceMethod yX6_readyAfter ∈ lw_all := lw_mem 1126 (by decide +kernel) rfl
theorem tw_1094 : Cond.selects RX6 yX6_readyAfter yX6_readyAfter ∈ lw_all := lw_mem 1127 (by decide +kernel) rfl
theorem tw_1095 : Cond.code yX6_readyAfter cX6_readyAfter 3 (some FieldType.int) ∈ lw_all := lw_mem 1128 (by decide +kernel) rfl
theorem tw_1096 : Cond.methodLink RX6 177 yX6_readyBehind ∈ lw_all := lw_mem 1129 (by decide +kernel) rfl
theorem tw_1098 : Cond.instanceMethod yX6_readyBehind ∈ lw_all := lw_mem 1131 (by decide +kernel) rfl
theorem tw_1099 : Cond.code yX6_readyBehind cX6_readyBehind 3 (some FieldType.int) ∈ lw_all := lw_mem 1132 (by decide +kernel) rfl
theorem tw_1100 : Cond.methodLink RL 242 yX6_bestChute ∈ lw_all := lw_mem 1133 (by decide +kernel) rfl
theorem tw_1101 : Cond.instanceMethod yX6_bestChute ∈ lw_all := lw_mem 1134 (by decide +kernel) rfl
theorem tw_1102 : Cond.selects RX6 yX6_bestChute yX6_bestChute ∈ lw_all := lw_mem 1135 (by decide +kernel) rfl
theorem tw_1103 : Cond.code yX6_bestChute cX6_bestChute 3 (some FieldType.int) ∈ lw_all := lw_mem 1136 (by decide +kernel) rfl
theorem tw_1104 : Cond.methodLink RX6 180 yX6_best ∈ lw_all := lw_mem 1137 (by decide +kernel) rfl
theorem tw_1106 : Cond.instanceMethod yX6_best ∈ lw_all := lw_mem 1139 (by decide +kernel) rfl
theorem tw_1107 : Cond.code yX6_best cX6_best 8 (some FieldType.int) ∈ lw_all := lw_mem 1140 (by decide +kernel) rfl
theorem tw_1108 : Cond.methodLink RL 247 yX6_meanMisses ∈ lw_all := lw_mem 1141 (by decide +kernel) rfl
theorem tw_1109 : Cond.instanceMethod yX6_meanMisses ∈ lw_all := lw_mem 1142 (by decide +kernel) rfl
theorem tw_1110 : Cond.selects RX6 yX6_meanMisses yX6_meanMisses ∈ lw_all := lw_mem 1143 (by decide +kernel) rfl
theorem tw_1111 : Cond.code yX6_meanMisses cX6_meanMisses 3 (some FieldType.double) ∈ lw_all := lw_mem 1144 (by decide +kernel) rfl
theorem tw_1112 : Cond.methodLink RL 252 yX6_digest ∈ lw_all := lw_mem 1145 (by decide +kernel) rfl
theorem tw_1113 : Cond.instanceMethod yX6_digest ∈ lw_all := lw_mem 1146 (by decide +kernel) rfl
theorem tw_1114 : Cond.selects RX6 yX6_digest yX6_digest ∈ lw_all := lw_mem 1147 (by decide +kernel) rfl
theorem tw_1115 : Cond.code yX6_digest cX6_digest 4 (some FieldType.long) ∈ lw_all := lw_mem 1148 (by decide +kernel) rfl
theorem tw_1116 : Cond.constantLong RX6 185 (1867 : Int64) ∈ lw_all := lw_mem 1149 (by decide +kernel) rfl
theorem tw_1117 : Cond.methodLink RX6 187 yX6_on ∈ lw_all := lw_mem 1150 (by decide +kernel) rfl
theorem tw_1118 : Cond.static yX6_on ∈ lw_all := lw_mem 1151 (by decide +kernel) rfl
theorem tw_1119 : Cond.code yX6_on cX6_on 3 (some FieldType.long) ∈ lw_all := lw_mem 1152 (by decide +kernel) rfl
theorem tw_1120 : Cond.constantLong RX6 183 (31 : Int64) ∈ lw_all := lw_mem 1153 (by decide +kernel) rfl
theorem tw_1121 : Cond.methodLink RX6 191 yX6_one ∈ lw_all := lw_mem 1154 (by decide +kernel) rfl
theorem tw_1122 : Cond.static yX6_one ∈ lw_all := lw_mem 1155 (by decide +kernel) rfl
theorem tw_1123 : Cond.code yX6_one cX6_one 1 (some FieldType.int) ∈ lw_all := lw_mem 1156 (by decide +kernel) rfl
theorem tw_1124 : Cond.arrayClass FieldType.long ∈ lw_all := lw_mem 1157 (by decide +kernel) rfl
theorem tu_0 : ∀ w ∈ u_ws RX0 TX0 9, w ∈ lw_all := lw_sub [131, 133, 135, 137, 139, 141, 143, 145, 147] (by decide +kernel) (by decide +kernel)
theorem tu_1 : ∀ w ∈ u_ws RX1 TX1 3, w ∈ lw_all := lw_sub [91, 93, 95] (by decide +kernel) (by decide +kernel)
theorem tu_2 : ∀ w ∈ u_ws RX2 TX2 8, w ∈ lw_all := lw_sub [167, 169, 171, 173, 175, 177, 179, 181] (by decide +kernel) (by decide +kernel)
theorem tu_3 : ∀ w ∈ u_ws RX3 TX3 1, w ∈ lw_all := lw_sub [80] (by decide +kernel) (by decide +kernel)
theorem tu_4 : ∀ w ∈ u_ws RX4 TX4 2, w ∈ lw_all := lw_sub [186, 188] (by decide +kernel) (by decide +kernel)
theorem tu_5 : ∀ w ∈ u_ws RX5 TX5 9, w ∈ lw_all := lw_sub [798, 800, 802, 804, 806, 808, 810, 812, 814] (by decide +kernel) (by decide +kernel)
theorem tu_6 : ∀ w ∈ u_ws RX6 TX6 13, w ∈ lw_all := lw_sub [831, 833, 835, 837, 839, 841, 843, 845, 847, 849, 851, 853, 855] (by decide +kernel) (by decide +kernel)
theorem gc_RX3_15 : GoodIn lw_all (va_wsS RX3 15 yJ7_fill_53178 (ws_ yJ7_fill_53178 cJ7_fill_53178 4 none)) := lw_S tw_43 tw_44 tw_5 tw_45
theorem gc_RL_198 : GoodIn lw_all (wsV RL 198 RX4 yX4_minute (ws_ yX4_minute cX4_minute 1 (some FieldType.int))) := lw_V tw_158 tw_159 tw_160 tw_1 tw_161
theorem gc_RL_202 : GoodIn lw_all (wsV RL 202 RX4 yX4_flights (ws_ yX4_flights cX4_flights 1 (some FieldType.int))) := lw_V tw_162 tw_163 tw_164 tw_1 tw_165
theorem gc_RL_206 : GoodIn lw_all (wsV RL 206 RX4 yX4_bags (ws_ yX4_bags cX4_bags 1 (some FieldType.int))) := lw_V tw_166 tw_167 tw_168 tw_1 tw_169
theorem gc_RL_210 : GoodIn lw_all (wsV RL 210 RX4 yX4_inLine (ws_ yX4_inLine cX4_inLine 1 (some FieldType.int))) := lw_V tw_170 tw_171 tw_172 tw_1 tw_173
theorem gc_RX4_169 : GoodIn lw_all (wsV RX4 169 RX3 yX3_count (ws_ yX3_count cX3_count 7 (some FieldType.int))) := lw_V tw_174 tw_175 tw_176 tw_4 tw_177
theorem gc_RL_214 : GoodIn lw_all (wsV RL 214 RX4 yX4_onBelt (ws_ yX4_onBelt cX4_onBelt 1 (some FieldType.int))) := lw_V tw_178 tw_179 tw_180 tw_1 tw_181
theorem gc_RL_218 : GoodIn lw_all (wsV RL 218 RX4 yX4_atDesk (ws_ yX4_atDesk cX4_atDesk 1 (some FieldType.int))) := lw_V tw_182 tw_183 tw_184 tw_1 tw_185
theorem gc_RL_222 : GoodIn lw_all (wsV RL 222 RX4 yX4_openFiles (ws_ yX4_openFiles cX4_openFiles 1 (some FieldType.int))) := lw_V tw_186 tw_187 tw_188 tw_1 tw_189
theorem gc_RL_226 : GoodIn lw_all (wsV RL 226 RX4 yX4_closedFiles (ws_ yX4_closedFiles cX4_closedFiles 1 (some FieldType.int))) := lw_V tw_190 tw_191 tw_192 tw_1 tw_193
theorem gc_RL_230 : GoodIn lw_all (wsV RL 230 RX4 yX4_reader (ws_ yX4_reader cX4_reader 1 (some FieldType.int))) := lw_V tw_194 tw_195 tw_196 tw_1 tw_197
theorem gc_RL_243 : GoodIn lw_all (wsV RL 243 RX4 yX4_meanMisses (ws_ yX4_meanMisses cX4_meanMisses 2 (some FieldType.double))) := lw_V tw_198 tw_199 tw_200 tw_1 tw_201
theorem gc_RX4_193 : GoodIn lw_all (wsV RX4 193 RX3 yX3_sum (ws_ yX3_sum cX3_sum 6 (some FieldType.int))) := lw_V tw_202 tw_203 tw_204 tw_4 tw_205
theorem gc_RL_248 : GoodIn lw_all (wsV RL 248 RX4 yX4_digest (ws_ yX4_digest cX4_digest 4 (some FieldType.long))) := lw_V tw_206 tw_207 tw_208 tw_1 tw_209
theorem gc_RX4_198 : GoodIn lw_all (wsV RX4 198 RX4 yX4_addHall (ws_ yX4_addHall cX4_addHall 5 (some FieldType.long))) := lw_V tw_211 tw_213 tp_0 tw_1 tw_214
theorem gc_RX4_212 : GoodIn lw_all (va_wsS RX4 212 yX4_addNumber (ws_ yX4_addNumber cX4_addNumber 4 (some FieldType.long))) := lw_S tw_215 tw_216 tw_1 tw_217
theorem gc_RX4_202 : GoodIn lw_all (wsV RX4 202 RX4 yX4_addBag (ws_ yX4_addBag cX4_addBag 6 (some FieldType.long))) := lw_V tw_219 tw_221 tp_1 tw_1 tw_222
theorem gc_RX4_68 : GoodIn lw_all (wsV RX4 68 RX3 yX3_at (ws_ yX3_at cX3_at 2 (some FieldType.int))) := lw_V tw_223 tw_224 tw_225 tw_4 tw_226
theorem gc_RX4_145 : GoodIn lw_all (wsV RX4 145 RX2 yX2_findOnBelt (ws_ yX2_findOnBelt cX2_findOnBelt 2 (some FieldType.int))) := lw_V tw_227 tw_228 tw_229 tw_2 tw_230
theorem gc_RX2_143 : GoodIn lw_all (wsV RX2 143 RX3 yX3_find (ws_ yX3_find cX3_find 3 (some FieldType.int))) := lw_V tw_231 tw_232 tw_233 tw_4 tw_234
theorem gc_RX4_155 : GoodIn lw_all (wsV RX4 155 RX2 yX2_isAstray (ws_ yX2_isAstray cX2_isAstray 2 (some FieldType.boolean))) := lw_V tw_235 tw_236 tw_237 tw_2 tw_238
theorem gc_RX2_63 : GoodIn lw_all (wsV RX2 63 RX3 yX3_at (ws_ yX3_at cX3_at 2 (some FieldType.int))) := lw_V tw_239 tw_224 tw_225 tw_4 tw_226
theorem gc_RX2_80 : GoodIn lw_all (wsV RX2 80 RX2 yX2_isInOwnChute (ws_ yX2_isInOwnChute cX2_isInOwnChute 2 (some FieldType.boolean))) := lw_V tw_240 tw_241 tw_242 tw_2 tw_243
theorem gc_RX2_146 : GoodIn lw_all (wsV RX2 146 RX1 yX1_hasLeft (ws_ yX1_hasLeft cX1_hasLeft 2 (some FieldType.boolean))) := lw_V tw_244 tw_245 tw_246 tw_3 tw_247
theorem gc_RX1_27 : GoodIn lw_all (wsV RX1 27 RX3 yX3_at (ws_ yX3_at cX3_at 2 (some FieldType.int))) := lw_V tw_248 tw_224 tw_225 tw_4 tw_226
theorem gc_RX4_206 : GoodIn lw_all (wsV RX4 206 RX4 yX4_addChute (ws_ yX4_addChute cX4_addChute 6 (some FieldType.long))) := lw_V tw_249 tw_251 tp_2 tw_1 tw_252
theorem gc_RX4_171 : GoodIn lw_all (wsV RX4 171 RX2 yX2_countMisrouted (ws_ yX2_countMisrouted cX2_countMisrouted 4 (some FieldType.int))) := lw_V tw_253 tw_254 tw_255 tw_2 tw_256
theorem gc_RX2_88 : GoodIn lw_all (wsV RX2 88 RX2 yX2_isAstray (ws_ yX2_isAstray cX2_isAstray 2 (some FieldType.boolean))) := lw_V tw_257 tw_236 tw_237 tw_2 tw_238
theorem gc_RX4_209 : GoodIn lw_all (wsV RX4 209 RX4 yX4_addOfFlight (ws_ yX4_addOfFlight cX4_addOfFlight 6 (some FieldType.long))) := lw_V tw_258 tw_260 tp_3 tw_1 tw_261
theorem gc_RX4_119 : GoodIn lw_all (wsV RX4 119 RX1 yX1_hasLeft (ws_ yX1_hasLeft cX1_hasLeft 2 (some FieldType.boolean))) := lw_V tw_262 tw_245 tw_246 tw_3 tw_247
theorem gc_RX4_174 : GoodIn lw_all (wsV RX4 174 RX2 yX2_countReady (ws_ yX2_countReady cX2_countReady 4 (some FieldType.int))) := lw_V tw_263 tw_264 tw_265 tw_2 tw_266
theorem gc_RX2_149 : GoodIn lw_all (wsV RX2 149 RX2 yX2_isReady (ws_ yX2_isReady cX2_isReady 2 (some FieldType.boolean))) := lw_V tw_267 tw_268 tw_269 tw_2 tw_270
theorem gc_RX4_177 : GoodIn lw_all (wsV RX4 177 RX2 yX2_countMissing (ws_ yX2_countMissing cX2_countMissing 2 (some FieldType.int))) := lw_V tw_271 tw_272 tw_273 tw_2 tw_274
theorem gc_RX2_141 : GoodIn lw_all (wsV RX2 141 RX3 yX3_count (ws_ yX3_count cX3_count 7 (some FieldType.int))) := lw_V tw_275 tw_175 tw_176 tw_4 tw_177
theorem gc_RX2_152 : GoodIn lw_all (wsV RX2 152 RX2 yX2_countReady (ws_ yX2_countReady cX2_countReady 4 (some FieldType.int))) := lw_V tw_276 tw_264 tw_265 tw_2 tw_266
theorem gc_RL_7 : GoodIn lw_all (wsV RL 7 RX4 yX4_addFlight (ws_ yX4_addFlight cX4_addFlight 1 (some FieldType.int))) := lw_V tw_281 tw_282 tw_283 tw_1 tw_284
theorem gc_RX4_36 : GoodIn lw_all (wsV RX4 36 RX1 yX1_addOne (ws_ yX1_addOne cX1_addOne 2 (some FieldType.int))) := lw_V tw_353 tw_354 tw_355 tw_3 tw_356
theorem gc_RL_15 : GoodIn lw_all (wsV RL 15 RX4 yX4_giveChute (ws_ yX4_giveChute cX4_giveChute 3 (some FieldType.int))) := lw_V tw_361 tw_362 tw_363 tw_1 tw_364
theorem gc_RX4_40 : GoodIn lw_all (wsV RX4 40 RX4 yX4_needFlight (ws_ yX4_needFlight cX4_needFlight 2 none)) := lw_V tw_365 tw_367 tp_5 tw_1 tw_368
theorem gc_RX4_44 : GoodIn lw_all (va_wsS RX4 44 yX4_needChute (ws_ yX4_needChute cX4_needChute 1 none)) := lw_S tw_385 tw_386 tw_1 tw_387
theorem gc_RX4_107 : GoodIn lw_all (va_wsS RX4 107 yX4_isChute (ws_ yX4_isChute cX4_isChute 1 (some FieldType.boolean))) := lw_S tw_388 tw_389 tw_1 tw_390
theorem gc_RX4_47 : GoodIn lw_all (wsV RX4 47 RX4 yX4_needNotGone (ws_ yX4_needNotGone cX4_needNotGone 2 none)) := lw_V tw_392 tw_394 tp_6 tw_1 tw_395
theorem gc_RX4_50 : GoodIn lw_all (wsV RX4 50 RX2 yX2_changeChute (ws_ yX2_changeChute cX2_changeChute 5 (some FieldType.int))) := lw_V tw_397 tw_398 tw_399 tw_2 tw_400
theorem gc_RX2_70 : GoodIn lw_all (wsV RX2 70 RX3 yX3_put (ws_ yX3_put cX3_put 3 none)) := lw_V tw_401 tw_402 tw_403 tw_4 tw_404
theorem gc_RL_21 : GoodIn lw_all (wsV RL 21 RX4 yX4_setReader (ws_ yX4_setReader cX4_setReader 3 (some FieldType.int))) := lw_V tw_409 tw_410 tw_411 tw_1 tw_412
theorem gc_RL_27 : GoodIn lw_all (wsV RL 27 RX4 yX4_setRoom (ws_ yX4_setRoom cX4_setRoom 4 (some FieldType.int))) := lw_V tw_432 tw_433 tw_434 tw_1 tw_435
theorem gc_RX4_74 : GoodIn lw_all (wsV RX4 74 RX3 yX3_put (ws_ yX3_put cX3_put 3 none)) := lw_V tw_437 tw_402 tw_403 tw_4 tw_404
theorem gc_RL_30 : GoodIn lw_all (wsV RL 30 RX4 yX4_checkIn (ws_ yX4_checkIn cX4_checkIn 5 (some FieldType.int))) := lw_V tw_441 tw_442 tw_443 tw_1 tw_444
theorem gc_RX4_89 : GoodIn lw_all (wsV RX4 89 RX0 yX0_addOne (ws_ yX0_addOne cX0_addOne 5 (some FieldType.int))) := lw_V tw_447 tw_448 tw_449 tw_6 tw_450
theorem gc_RX0_45 : GoodIn lw_all (wsV RX0 45 RX3 yX3_put (ws_ yX3_put cX3_put 3 none)) := lw_V tw_451 tw_402 tw_403 tw_4 tw_404
theorem gc_RX4_92 : GoodIn lw_all (wsV RX4 92 RX2 yX2_takeIn (ws_ yX2_takeIn cX2_takeIn 2 none)) := lw_V tw_452 tw_453 tw_454 tw_2 tw_455
theorem gc_RL_34 : GoodIn lw_all (wsV RL 34 RX4 yX4_carry (ws_ yX4_carry cX4_carry 4 (some FieldType.int))) := lw_V tw_459 tw_460 tw_461 tw_1 tw_462
theorem gc_RX4_95 : GoodIn lw_all (wsV RX4 95 RX4 yX4_needBag (ws_ yX4_needBag cX4_needBag 2 none)) := lw_V tw_463 tw_465 tp_7 tw_1 tw_466
theorem gc_RX4_98 : GoodIn lw_all (wsV RX4 98 RX4 yX4_needInHand (ws_ yX4_needInHand cX4_needInHand 3 none)) := lw_V tw_468 tw_470 tp_8 tw_1 tw_471
theorem gc_RX4_111 : GoodIn lw_all (wsV RX4 111 RX2 yX2_hasRoom (ws_ yX2_hasRoom cX2_hasRoom 2 (some FieldType.boolean))) := lw_V tw_473 tw_474 tw_475 tw_2 tw_476
theorem gc_RX4_116 : GoodIn lw_all (wsV RX4 116 RX0 yX0_putIntoChute (ws_ yX0_putIntoChute cX0_putIntoChute 3 none)) := lw_V tw_478 tw_479 tw_480 tw_6 tw_481
theorem gc_RL_37 : GoodIn lw_all (wsV RL 37 RX4 yX4_forward (ws_ yX4_forward cX4_forward 3 (some FieldType.int))) := lw_V tw_485 tw_486 tw_487 tw_1 tw_488
theorem gc_RX4_124 : GoodIn lw_all (wsV RX4 124 RX0 yX0_renew (ws_ yX0_renew cX0_renew 3 none)) := lw_V tw_490 tw_491 tw_492 tw_6 tw_493
theorem gc_RX0_49 : GoodIn lw_all (wsV RX0 49 RX0 yX0_closeFile (ws_ yX0_closeFile cX0_closeFile 2 none)) := lw_V tw_494 tw_495 tw_496 tw_6 tw_497
theorem gc_RX0_53 : GoodIn lw_all (wsV RX0 53 RX3 yX3_at (ws_ yX3_at cX3_at 2 (some FieldType.int))) := lw_V tw_498 tw_224 tw_225 tw_4 tw_226
theorem gc_RL_40 : GoodIn lw_all (wsV RL 40 RX4 yX4_sweep (ws_ yX4_sweep cX4_sweep 2 (some FieldType.int))) := lw_V tw_502 tw_503 tw_504 tw_1 tw_505
theorem gc_RX4_130 : GoodIn lw_all (wsV RX4 130 RX2 yX2_clearMisrouted (ws_ yX2_clearMisrouted cX2_clearMisrouted 4 (some FieldType.int))) := lw_V tw_506 tw_507 tw_508 tw_2 tw_509
theorem gc_RX2_91 : GoodIn lw_all (wsV RX2 91 RX0 yX0_takeFromChute (ws_ yX0_takeFromChute cX0_takeFromChute 3 none)) := lw_V tw_510 tw_511 tw_512 tw_6 tw_513
theorem gc_RX2_94 : GoodIn lw_all (wsV RX2 94 RX0 yX0_closeFile (ws_ yX0_closeFile cX0_closeFile 2 none)) := lw_V tw_514 tw_495 tw_496 tw_6 tw_497
theorem gc_RL_43 : GoodIn lw_all (wsV RL 43 RX4 yX4_depart (ws_ yX4_depart cX4_depart 2 (some FieldType.int))) := lw_V tw_518 tw_519 tw_520 tw_1 tw_521
theorem gc_RX4_133 : GoodIn lw_all (wsV RX4 133 RX2 yX2_letLeave (ws_ yX2_letLeave cX2_letLeave 4 (some FieldType.int))) := lw_V tw_522 tw_523 tw_524 tw_2 tw_525
theorem gc_RL_46 : GoodIn lw_all (wsV RL 46 RX4 yX4_pass (ws_ yX4_pass cX4_pass 2 (some FieldType.int))) := lw_V tw_529 tw_530 tw_531 tw_1 tw_532
theorem gc_RX4_136 : GoodIn lw_all (va_wsS RX4 136 yX4_needMinutes (ws_ yX4_needMinutes cX4_needMinutes 1 none)) := lw_S tw_533 tw_534 tw_1 tw_535
theorem gc_RX4_139 : GoodIn lw_all (wsV RX4 139 RX2 yX2_goMinutes (ws_ yX2_goMinutes cX2_goMinutes 4 (some FieldType.int))) := lw_V tw_537 tw_538 tw_539 tw_2 tw_540
theorem gc_RX2_104 : GoodIn lw_all (wsV RX2 104 RX2 yX2_goMinute (ws_ yX2_goMinute cX2_goMinute 2 (some FieldType.int))) := lw_V tw_541 tw_542 tw_543 tw_2 tw_544
theorem gc_RX2_108 : GoodIn lw_all (wsV RX2 108 RX3 yX3_turn (ws_ yX3_turn cX3_turn 3 none)) := lw_V tw_545 tw_546 tw_547 tw_4 tw_548
theorem gc_RX3_33 : GoodIn lw_all (wsV RX3 33 RX3 yX3_at (ws_ yX3_at cX3_at 2 (some FieldType.int))) := lw_V tw_549 tw_224 tw_225 tw_4 tw_226
theorem gc_RX3_37 : GoodIn lw_all (wsV RX3 37 RX3 yX3_put (ws_ yX3_put cX3_put 3 none)) := lw_V tw_550 tw_402 tw_403 tw_4 tw_404
theorem gc_RX2_111 : GoodIn lw_all (wsV RX2 111 RX2 yX2_readTag (ws_ yX2_readTag cX2_readTag 3 none)) := lw_V tw_551 tw_552 tw_553 tw_2 tw_554
theorem gc_RX2_126 : GoodIn lw_all (wsV RX2 126 RX2 yX2_missTag (ws_ yX2_missTag cX2_missTag 3 none)) := lw_V tw_555 tw_556 tw_557 tw_2 tw_558
theorem gc_RX2_114 : GoodIn lw_all (wsV RX2 114 RX2 yX2_fillChutes (ws_ yX2_fillChutes cX2_fillChutes 5 (some FieldType.int))) := lw_V tw_559 tw_560 tw_561 tw_2 tw_562
theorem gc_RX2_132 : GoodIn lw_all (wsV RX2 132 RX2 yX2_hasRoom (ws_ yX2_hasRoom cX2_hasRoom 2 (some FieldType.boolean))) := lw_V tw_563 tw_474 tw_475 tw_2 tw_476
theorem gc_RX2_135 : GoodIn lw_all (wsV RX2 135 RX0 yX0_putIntoChute (ws_ yX0_putIntoChute cX0_putIntoChute 3 none)) := lw_V tw_564 tw_479 tw_480 tw_6 tw_481
theorem gc_RX2_117 : GoodIn lw_all (wsV RX2 117 RX2 yX2_feedBelt (ws_ yX2_feedBelt cX2_feedBelt 2 none)) := lw_V tw_565 tw_566 tw_567 tw_2 tw_568
theorem gc_RX2_138 : GoodIn lw_all (wsV RX2 138 RX3 yX3_takeFront (ws_ yX3_takeFront cX3_takeFront 3 (some FieldType.int))) := lw_V tw_569 tw_570 tw_571 tw_4 tw_572
theorem gc_RL_49 : GoodIn lw_all (wsV RL 49 RX4 yX4_flightOf (ws_ yX4_flightOf cX4_flightOf 2 (some FieldType.int))) := lw_V tw_576 tw_577 tw_578 tw_1 tw_579
theorem gc_RL_52 : GoodIn lw_all (wsV RL 52 RX4 yX4_whereIs (ws_ yX4_whereIs cX4_whereIs 2 (some FieldType.int))) := lw_V tw_583 tw_584 tw_585 tw_1 tw_586
theorem gc_RL_55 : GoodIn lw_all (wsV RL 55 RX4 yX4_placeOf (ws_ yX4_placeOf cX4_placeOf 2 (some FieldType.int))) := lw_V tw_590 tw_591 tw_592 tw_1 tw_593
theorem gc_RL_58 : GoodIn lw_all (wsV RL 58 RX4 yX4_chuteOf (ws_ yX4_chuteOf cX4_chuteOf 2 (some FieldType.int))) := lw_V tw_597 tw_598 tw_599 tw_1 tw_600
theorem gc_RL_61 : GoodIn lw_all (wsV RL 61 RX4 yX4_readFor (ws_ yX4_readFor cX4_readFor 2 (some FieldType.int))) := lw_V tw_604 tw_605 tw_606 tw_1 tw_607
theorem gc_RL_64 : GoodIn lw_all (wsV RL 64 RX4 yX4_missesOf (ws_ yX4_missesOf cX4_missesOf 2 (some FieldType.int))) := lw_V tw_611 tw_612 tw_613 tw_1 tw_614
theorem gc_RL_67 : GoodIn lw_all (wsV RL 67 RX4 yX4_isMisrouted (ws_ yX4_isMisrouted cX4_isMisrouted 2 (some FieldType.boolean))) := lw_V tw_618 tw_619 tw_620 tw_1 tw_621
theorem gc_RL_71 : GoodIn lw_all (wsV RL 71 RX4 yX4_hasOpenFile (ws_ yX4_hasOpenFile cX4_hasOpenFile 2 (some FieldType.boolean))) := lw_V tw_625 tw_626 tw_627 tw_1 tw_628
theorem gc_RL_74 : GoodIn lw_all (wsV RL 74 RX4 yX4_bagAt (ws_ yX4_bagAt cX4_bagAt 2 (some FieldType.int))) := lw_V tw_632 tw_633 tw_634 tw_1 tw_635
theorem gc_RL_77 : GoodIn lw_all (wsV RL 77 RX4 yX4_bagsIn (ws_ yX4_bagsIn cX4_bagsIn 2 (some FieldType.int))) := lw_V tw_640 tw_641 tw_642 tw_1 tw_643
theorem gc_RL_80 : GoodIn lw_all (wsV RL 80 RX4 yX4_misroutedIn (ws_ yX4_misroutedIn cX4_misroutedIn 2 (some FieldType.int))) := lw_V tw_647 tw_648 tw_649 tw_1 tw_650
theorem gc_RL_83 : GoodIn lw_all (wsV RL 83 RX4 yX4_roomOf (ws_ yX4_roomOf cX4_roomOf 2 (some FieldType.int))) := lw_V tw_654 tw_655 tw_656 tw_1 tw_657
theorem gc_RL_86 : GoodIn lw_all (wsV RL 86 RX4 yX4_chuteOfFlight (ws_ yX4_chuteOfFlight cX4_chuteOfFlight 2 (some FieldType.int))) := lw_V tw_661 tw_662 tw_663 tw_1 tw_664
theorem gc_RL_89 : GoodIn lw_all (wsV RL 89 RX4 yX4_isGone (ws_ yX4_isGone cX4_isGone 2 (some FieldType.boolean))) := lw_V tw_668 tw_669 tw_670 tw_1 tw_671
theorem gc_RL_92 : GoodIn lw_all (wsV RL 92 RX4 yX4_readyOf (ws_ yX4_readyOf cX4_readyOf 2 (some FieldType.int))) := lw_V tw_675 tw_676 tw_677 tw_1 tw_678
theorem gc_RL_95 : GoodIn lw_all (wsV RL 95 RX4 yX4_missingOf (ws_ yX4_missingOf cX4_missingOf 2 (some FieldType.int))) := lw_V tw_682 tw_683 tw_684 tw_1 tw_685
theorem gc_RL_98 : GoodIn lw_all (wsV RL 98 RX4 yX4_minutesUntilChute (ws_ yX4_minutesUntilChute cX4_minutesUntilChute 3 (some FieldType.int))) := lw_V tw_689 tw_690 tw_691 tw_1 tw_692
theorem gc_RX4_183 : GoodIn lw_all (wsV RX4 183 RX2 yX2_becomeLike (ws_ yX2_becomeLike cX2_becomeLike 2 none)) := lw_V tw_693 tw_694 tw_695 tw_2 tw_696
theorem gc_RX2_50 : GoodIn lw_all (wsV RX2 50 RX1 yX1_takeAll (ws_ yX1_takeAll cX1_takeAll 2 none)) := lw_V tw_697 tw_698 tw_699 tw_3 tw_700
theorem gc_RX1_31 : GoodIn lw_all (wsV RX1 31 RX3 yX3_takeAll (ws_ yX3_takeAll cX3_takeAll 2 none)) := lw_V tw_701 tw_702 tw_703 tw_4 tw_704
theorem gc_RX3_21 : GoodIn lw_all (va_wsS RX3 21 yJ9_min_7cf53 (ws_ yJ9_min_7cf53 cJ9_min_7cf53 2 (some FieldType.int))) := lw_S tw_705 tw_706 tw_16 tw_707
theorem gc_RX2_54 : GoodIn lw_all (wsV RX2 54 RX0 yX0_takeAll (ws_ yX0_takeAll cX0_takeAll 2 none)) := lw_V tw_711 tw_712 tw_713 tw_6 tw_714
theorem gc_RX0_57 : GoodIn lw_all (wsV RX0 57 RX3 yX3_takeAll (ws_ yX3_takeAll cX3_takeAll 2 none)) := lw_V tw_715 tw_702 tw_703 tw_4 tw_704
theorem gc_RX2_57 : GoodIn lw_all (wsV RX2 57 RX3 yX3_takeAll (ws_ yX3_takeAll cX3_takeAll 2 none)) := lw_V tw_716 tw_702 tw_703 tw_4 tw_704
theorem gc_RX4_187 : GoodIn lw_all (wsV RX4 187 RX2 yX2_goMinute (ws_ yX2_goMinute cX2_goMinute 2 (some FieldType.int))) := lw_V tw_717 tw_542 tw_543 tw_2 tw_544
theorem gc_RL_101 : GoodIn lw_all (wsV RL 101 RX4 yX4_readyAfter (ws_ yX4_readyAfter cX4_readyAfter 3 (some FieldType.int))) := lw_V tw_721 tw_722 tw_723 tw_1 tw_724
theorem gc_RX4_190 : GoodIn lw_all (wsV RX4 190 RX4 yX4_readyWithChute (ws_ yX4_readyWithChute cX4_readyWithChute 4 (some FieldType.int))) := lw_V tw_725 tw_727 tp_9 tw_1 tw_728
theorem gc_RL_104 : GoodIn lw_all (wsV RL 104 RX4 yX4_bestChute (ws_ yX4_bestChute cX4_bestChute 7 (some FieldType.int))) := lw_V tw_732 tw_733 tw_734 tw_1 tw_735
theorem gc_RL_117 : GoodIn lw_all (wsV RL 117 RX6 yX6_thrown (ws_ yX6_thrown cX6_thrown 1 (some FieldType.int))) := lw_V tw_825 tw_826 tw_827 tw_7 tw_828
theorem gc_RL_116 : GoodIn lw_all (wsV RL 116 RX6 yX6_addFlight (ws_ yX6_addFlight cX6_addFlight 1 (some FieldType.int))) := lw_V tw_829 tw_830 tw_831 tw_7 tw_832
theorem gc_RX6_110 : GoodIn lw_all (wsV RX6 110 RX6 yX6_no (ws_ yX6_no cX6_no 2 (some FieldType.int))) := lw_V tw_833 tw_835 tp_10 tw_7 tw_836
theorem gc_RL_123 : GoodIn lw_all (wsV RL 123 RX6 yX6_giveChute (ws_ yX6_giveChute cX6_giveChute 5 (some FieldType.int))) := lw_V tw_837 tw_838 tw_839 tw_7 tw_840
theorem gc_RX6_114 : GoodIn lw_all (wsV RX6 114 RX6 yX6_isFlight (ws_ yX6_isFlight cX6_isFlight 2 (some FieldType.boolean))) := lw_V tw_841 tw_843 tp_11 tw_7 tw_844
theorem gc_RX6_52 : GoodIn lw_all (va_wsS RX6 52 yX6_isIn (ws_ yX6_isIn cX6_isIn 3 (some FieldType.boolean))) := lw_S tw_845 tw_846 tw_7 tw_847
theorem gc_RX6_118 : GoodIn lw_all (va_wsS RX6 118 yX6_isChute (ws_ yX6_isChute cX6_isChute 1 (some FieldType.boolean))) := lw_S tw_848 tw_849 tw_7 tw_850
theorem gc_RL_127 : GoodIn lw_all (wsV RL 127 RX6 yX6_setReader (ws_ yX6_setReader cX6_setReader 3 (some FieldType.int))) := lw_V tw_851 tw_852 tw_853 tw_7 tw_854
theorem gc_RL_130 : GoodIn lw_all (wsV RL 130 RX6 yX6_setRoom (ws_ yX6_setRoom cX6_setRoom 4 (some FieldType.int))) := lw_V tw_855 tw_856 tw_857 tw_7 tw_858
theorem gc_RL_134 : GoodIn lw_all (wsV RL 134 RX6 yX6_checkIn (ws_ yX6_checkIn cX6_checkIn 4 (some FieldType.int))) := lw_V tw_859 tw_860 tw_861 tw_7 tw_862
theorem gc_RX6_125 : GoodIn lw_all (wsV RX6 125 RX6 yX6_begin (ws_ yX6_begin cX6_begin 2 none)) := lw_V tw_863 tw_865 tp_12 tw_7 tw_866
theorem gc_RX6_68 : GoodIn lw_all (wsV RX6 68 RX5 yX5_put (ws_ yX5_put cX5_put 4 none)) := lw_V tw_867 tw_868 tw_869 tw_8 tw_870
theorem gc_RX6_121 : GoodIn lw_all (wsV RX6 121 RX5 yX5_toLine (ws_ yX5_toLine cX5_toLine 2 none)) := lw_V tw_871 tw_872 tw_873 tw_8 tw_874
theorem gc_RX5_50 : GoodIn lw_all (wsV RX5 50 RX5 yX5_put (ws_ yX5_put cX5_put 4 none)) := lw_V tw_875 tw_868 tw_869 tw_8 tw_870
theorem gc_RL_137 : GoodIn lw_all (wsV RL 137 RX6 yX6_carry (ws_ yX6_carry cX6_carry 4 (some FieldType.int))) := lw_V tw_876 tw_877 tw_878 tw_7 tw_879
theorem gc_RX6_128 : GoodIn lw_all (wsV RX6 128 RX6 yX6_isBag (ws_ yX6_isBag cX6_isBag 2 (some FieldType.boolean))) := lw_V tw_880 tw_882 tp_13 tw_7 tw_883
theorem gc_RX6_131 : GoodIn lw_all (wsV RX6 131 RX6 yX6_isAside (ws_ yX6_isAside cX6_isAside 2 (some FieldType.boolean))) := lw_V tw_884 tw_886 tp_14 tw_7 tw_887
theorem gc_RX6_75 : GoodIn lw_all (wsV RX6 75 RX5 yX5_toChute (ws_ yX5_toChute cX5_toChute 3 none)) := lw_V tw_888 tw_889 tw_890 tw_8 tw_891
theorem gc_RL_140 : GoodIn lw_all (wsV RL 140 RX6 yX6_forward (ws_ yX6_forward cX6_forward 3 (some FieldType.int))) := lw_V tw_892 tw_893 tw_894 tw_7 tw_895
theorem gc_RX6_134 : GoodIn lw_all (wsV RX6 134 RX6 yX6_close (ws_ yX6_close cX6_close 2 none)) := lw_V tw_896 tw_898 tp_15 tw_7 tw_899
theorem gc_RL_143 : GoodIn lw_all (wsV RL 143 RX6 yX6_sweep (ws_ yX6_sweep cX6_sweep 4 (some FieldType.int))) := lw_V tw_900 tw_901 tw_902 tw_7 tw_903
theorem gc_RX6_137 : GoodIn lw_all (wsV RX6 137 RX6 yX6_misrouted (ws_ yX6_misrouted cX6_misrouted 2 (some FieldType.boolean))) := lw_V tw_904 tw_906 tp_16 tw_7 tw_907
theorem gc_RL_146 : GoodIn lw_all (wsV RL 146 RX6 yX6_depart (ws_ yX6_depart cX6_depart 4 (some FieldType.int))) := lw_V tw_908 tw_909 tw_910 tw_7 tw_911
theorem gc_RX6_140 : GoodIn lw_all (wsV RX6 140 RX6 yX6_isInItsChute (ws_ yX6_isInItsChute cX6_isInItsChute 2 (some FieldType.boolean))) := lw_V tw_912 tw_914 tp_17 tw_7 tw_915
theorem gc_RL_149 : GoodIn lw_all (wsV RL 149 RX6 yX6_pass (ws_ yX6_pass cX6_pass 2 (some FieldType.int))) := lw_V tw_916 tw_917 tw_918 tw_7 tw_919
theorem gc_RX6_143 : GoodIn lw_all (wsV RX6 143 RX6 yX6_minutesOn (ws_ yX6_minutesOn cX6_minutesOn 5 (some FieldType.int))) := lw_V tw_920 tw_922 tp_18 tw_7 tw_923
theorem gc_RX6_100 : GoodIn lw_all (wsV RX6 100 RX6 yX6_minuteOn (ws_ yX6_minuteOn cX6_minuteOn 4 (some FieldType.int))) := lw_V tw_924 tw_926 tp_19 tw_7 tw_927
theorem gc_RX6_79 : GoodIn lw_all (wsV RX6 79 RX5 yX5_turnRound (ws_ yX5_turnRound cX5_turnRound 3 none)) := lw_V tw_928 tw_929 tw_930 tw_8 tw_931
theorem gc_RX6_82 : GoodIn lw_all (wsV RX6 82 RX6 yX6_readAt (ws_ yX6_readAt cX6_readAt 4 none)) := lw_V tw_933 tw_935 tp_20 tw_7 tw_936
theorem gc_RX6_86 : GoodIn lw_all (wsV RX6 86 RX6 yX6_slide (ws_ yX6_slide cX6_slide 5 (some FieldType.int))) := lw_V tw_937 tw_939 tp_21 tw_7 tw_940
theorem gc_RX6_93 : GoodIn lw_all (wsV RX6 93 RX5 yX5_firstInLine (ws_ yX5_firstInLine cX5_firstInLine 2 (some FieldType.int))) := lw_V tw_941 tw_942 tw_943 tw_8 tw_944
theorem gc_RL_152 : GoodIn lw_all (wsV RL 152 RX6 yX6_flightOf (ws_ yX6_flightOf cX6_flightOf 2 (some FieldType.int))) := lw_V tw_945 tw_946 tw_947 tw_7 tw_948
theorem gc_RL_155 : GoodIn lw_all (wsV RL 155 RX6 yX6_whereIs (ws_ yX6_whereIs cX6_whereIs 2 (some FieldType.int))) := lw_V tw_949 tw_950 tw_951 tw_7 tw_952
theorem gc_RL_158 : GoodIn lw_all (wsV RL 158 RX6 yX6_placeOf (ws_ yX6_placeOf cX6_placeOf 2 (some FieldType.int))) := lw_V tw_953 tw_954 tw_955 tw_7 tw_956
theorem gc_RX6_146 : GoodIn lw_all (wsV RX6 146 RX6 yX6_placed (ws_ yX6_placed cX6_placed 3 (some FieldType.int))) := lw_V tw_957 tw_959 tp_22 tw_7 tw_960
theorem gc_RL_161 : GoodIn lw_all (wsV RL 161 RX6 yX6_chuteOf (ws_ yX6_chuteOf cX6_chuteOf 2 (some FieldType.int))) := lw_V tw_961 tw_962 tw_963 tw_7 tw_964
theorem gc_RL_164 : GoodIn lw_all (wsV RL 164 RX6 yX6_readFor (ws_ yX6_readFor cX6_readFor 2 (some FieldType.int))) := lw_V tw_965 tw_966 tw_967 tw_7 tw_968
theorem gc_RL_167 : GoodIn lw_all (wsV RL 167 RX6 yX6_missesOf (ws_ yX6_missesOf cX6_missesOf 2 (some FieldType.int))) := lw_V tw_969 tw_970 tw_971 tw_7 tw_972
theorem gc_RL_170 : GoodIn lw_all (wsV RL 170 RX6 yX6_isMisrouted (ws_ yX6_isMisrouted cX6_isMisrouted 2 (some FieldType.boolean))) := lw_V tw_973 tw_974 tw_975 tw_7 tw_976
theorem gc_RX6_150 : GoodIn lw_all (wsV RX6 150 RX6 yX6_isNot (ws_ yX6_isNot cX6_isNot 2 (some FieldType.boolean))) := lw_V tw_977 tw_979 tp_23 tw_7 tw_980
theorem gc_RL_173 : GoodIn lw_all (wsV RL 173 RX6 yX6_hasOpenFile (ws_ yX6_hasOpenFile cX6_hasOpenFile 2 (some FieldType.boolean))) := lw_V tw_981 tw_982 tw_983 tw_7 tw_984
theorem gc_RL_176 : GoodIn lw_all (wsV RL 176 RX6 yX6_bagAt (ws_ yX6_bagAt cX6_bagAt 2 (some FieldType.int))) := lw_V tw_985 tw_986 tw_987 tw_7 tw_988
theorem gc_RL_179 : GoodIn lw_all (wsV RL 179 RX6 yX6_bagsIn (ws_ yX6_bagsIn cX6_bagsIn 2 (some FieldType.int))) := lw_V tw_989 tw_990 tw_991 tw_7 tw_992
theorem gc_RL_182 : GoodIn lw_all (wsV RL 182 RX6 yX6_misroutedIn (ws_ yX6_misroutedIn cX6_misroutedIn 2 (some FieldType.int))) := lw_V tw_993 tw_994 tw_995 tw_7 tw_996
theorem gc_RX6_153 : GoodIn lw_all (wsV RX6 153 RX6 yX6_badIn (ws_ yX6_badIn cX6_badIn 4 (some FieldType.int))) := lw_V tw_997 tw_999 tp_24 tw_7 tw_1000
theorem gc_RL_185 : GoodIn lw_all (wsV RL 185 RX6 yX6_roomOf (ws_ yX6_roomOf cX6_roomOf 2 (some FieldType.int))) := lw_V tw_1001 tw_1002 tw_1003 tw_7 tw_1004
theorem gc_RL_188 : GoodIn lw_all (wsV RL 188 RX6 yX6_chuteOfFlight (ws_ yX6_chuteOfFlight cX6_chuteOfFlight 2 (some FieldType.int))) := lw_V tw_1005 tw_1006 tw_1007 tw_7 tw_1008
theorem gc_RL_191 : GoodIn lw_all (wsV RL 191 RX6 yX6_isGone (ws_ yX6_isGone cX6_isGone 2 (some FieldType.boolean))) := lw_V tw_1009 tw_1010 tw_1011 tw_7 tw_1012
theorem gc_RL_194 : GoodIn lw_all (wsV RL 194 RX6 yX6_readyOf (ws_ yX6_readyOf cX6_readyOf 2 (some FieldType.int))) := lw_V tw_1013 tw_1014 tw_1015 tw_7 tw_1016
theorem gc_RX6_156 : GoodIn lw_all (wsV RX6 156 RX6 yX6_readyIn (ws_ yX6_readyIn cX6_readyIn 5 (some FieldType.int))) := lw_V tw_1017 tw_1019 tp_25 tw_7 tw_1020
theorem gc_RL_197 : GoodIn lw_all (wsV RL 197 RX6 yX6_missingOf (ws_ yX6_missingOf cX6_missingOf 2 (some FieldType.int))) := lw_V tw_1021 tw_1022 tw_1023 tw_7 tw_1024
theorem gc_RX6_159 : GoodIn lw_all (wsV RX6 159 RX6 yX6_missing (ws_ yX6_missing cX6_missing 4 (some FieldType.int))) := lw_V tw_1025 tw_1027 tp_26 tw_7 tw_1028
theorem gc_RL_201 : GoodIn lw_all (wsV RL 201 RX6 yX6_minute (ws_ yX6_minute cX6_minute 1 (some FieldType.int))) := lw_V tw_1029 tw_1030 tw_1031 tw_7 tw_1032
theorem gc_RX6_162 : GoodIn lw_all (wsV RX6 162 RX6 yX6_ok (ws_ yX6_ok cX6_ok 2 (some FieldType.int))) := lw_V tw_1033 tw_1035 tp_27 tw_7 tw_1036
theorem gc_RL_205 : GoodIn lw_all (wsV RL 205 RX6 yX6_flights (ws_ yX6_flights cX6_flights 1 (some FieldType.int))) := lw_V tw_1037 tw_1038 tw_1039 tw_7 tw_1040
theorem gc_RL_209 : GoodIn lw_all (wsV RL 209 RX6 yX6_bags (ws_ yX6_bags cX6_bags 1 (some FieldType.int))) := lw_V tw_1041 tw_1042 tw_1043 tw_7 tw_1044
theorem gc_RL_213 : GoodIn lw_all (wsV RL 213 RX6 yX6_inLine (ws_ yX6_inLine cX6_inLine 1 (some FieldType.int))) := lw_V tw_1045 tw_1046 tw_1047 tw_7 tw_1048
theorem gc_RL_217 : GoodIn lw_all (wsV RL 217 RX6 yX6_onBelt (ws_ yX6_onBelt cX6_onBelt 1 (some FieldType.int))) := lw_V tw_1049 tw_1050 tw_1051 tw_7 tw_1052
theorem gc_RX6_165 : GoodIn lw_all (wsV RX6 165 RX6 yX6_counted (ws_ yX6_counted cX6_counted 4 (some FieldType.int))) := lw_V tw_1053 tw_1055 tp_28 tw_7 tw_1056
theorem gc_RL_221 : GoodIn lw_all (wsV RL 221 RX6 yX6_atDesk (ws_ yX6_atDesk cX6_atDesk 1 (some FieldType.int))) := lw_V tw_1057 tw_1058 tw_1059 tw_7 tw_1060
theorem gc_RL_225 : GoodIn lw_all (wsV RL 225 RX6 yX6_openFiles (ws_ yX6_openFiles cX6_openFiles 1 (some FieldType.int))) := lw_V tw_1061 tw_1062 tw_1063 tw_7 tw_1064
theorem gc_RX6_168 : GoodIn lw_all (wsV RX6 168 RX6 yX6_files (ws_ yX6_files cX6_files 4 (some FieldType.int))) := lw_V tw_1065 tw_1067 tp_29 tw_7 tw_1068
theorem gc_RL_229 : GoodIn lw_all (wsV RL 229 RX6 yX6_closedFiles (ws_ yX6_closedFiles cX6_closedFiles 1 (some FieldType.int))) := lw_V tw_1069 tw_1070 tw_1071 tw_7 tw_1072
theorem gc_RL_233 : GoodIn lw_all (wsV RL 233 RX6 yX6_reader (ws_ yX6_reader cX6_reader 1 (some FieldType.int))) := lw_V tw_1073 tw_1074 tw_1075 tw_7 tw_1076
theorem gc_RL_236 : GoodIn lw_all (wsV RL 236 RX6 yX6_minutesUntilChute (ws_ yX6_minutesUntilChute cX6_minutesUntilChute 2 (some FieldType.int))) := lw_V tw_1077 tw_1078 tw_1079 tw_7 tw_1080
theorem gc_RX6_174 : GoodIn lw_all (wsV RX6 174 RX6 yX6_untilChute (ws_ yX6_untilChute cX6_untilChute 3 (some FieldType.int))) := lw_V tw_1081 tw_1083 tp_30 tw_7 tw_1084
theorem gc_RX6_171 : GoodIn lw_all (wsV RX6 171 RX5 yX5_become (ws_ yX5_become cX5_become 2 none)) := lw_V tw_1085 tw_1086 tw_1087 tw_8 tw_1088
theorem gc_RX5_46 : GoodIn lw_all (va_wsS RX5 46 yX5_copy (ws_ yX5_copy cX5_copy 2 none)) := lw_S tw_1089 tw_1090 tw_8 tw_1091
theorem gc_RL_239 : GoodIn lw_all (wsV RL 239 RX6 yX6_readyAfter (ws_ yX6_readyAfter cX6_readyAfter 3 (some FieldType.int))) := lw_V tw_1092 tw_1093 tw_1094 tw_7 tw_1095
theorem gc_RX6_177 : GoodIn lw_all (wsV RX6 177 RX6 yX6_readyBehind (ws_ yX6_readyBehind cX6_readyBehind 3 (some FieldType.int))) := lw_V tw_1096 tw_1098 tp_31 tw_7 tw_1099
theorem gc_RL_242 : GoodIn lw_all (wsV RL 242 RX6 yX6_bestChute (ws_ yX6_bestChute cX6_bestChute 3 (some FieldType.int))) := lw_V tw_1100 tw_1101 tw_1102 tw_7 tw_1103
theorem gc_RX6_180 : GoodIn lw_all (wsV RX6 180 RX6 yX6_best (ws_ yX6_best cX6_best 8 (some FieldType.int))) := lw_V tw_1104 tw_1106 tp_32 tw_7 tw_1107
theorem gc_RL_247 : GoodIn lw_all (wsV RL 247 RX6 yX6_meanMisses (ws_ yX6_meanMisses cX6_meanMisses 3 (some FieldType.double))) := lw_V tw_1108 tw_1109 tw_1110 tw_7 tw_1111
theorem gc_RL_252 : GoodIn lw_all (wsV RL 252 RX6 yX6_digest (ws_ yX6_digest cX6_digest 4 (some FieldType.long))) := lw_V tw_1112 tw_1113 tw_1114 tw_7 tw_1115
theorem gc_RX6_187 : GoodIn lw_all (va_wsS RX6 187 yX6_on (ws_ yX6_on cX6_on 3 (some FieldType.long))) := lw_S tw_1117 tw_1118 tw_7 tw_1119
theorem gc_RX6_191 : GoodIn lw_all (va_wsS RX6 191 yX6_one (ws_ yX6_one cX6_one 1 (some FieldType.int))) := lw_S tw_1121 tw_1122 tw_7 tw_1123
end
section
theorem zz_test : 1 + 1 = 2 := rfl
end
