/-! rooms and names of the methods that are called -/
abbrev rmJ7_fill_53178 : Room := ({ frames := 0, cells := 0, slots := 0, locals := 0 } : Room)
theorem hd_J7_fill_53178 : yJ7_fill_53178.cls ≠ "java/lang/invoke/MethodHandle" ∧ yJ7_fill_53178.cls ≠ "java/lang/invoke/VarHandle" ∧ (parseMethodDescriptor yJ7_fill_53178.desc).map (fun d => d.parameters.length) = some 2 := by decide +kernel
abbrev rmJ9_min_7cf53 : Room := ({ frames := 0, cells := 0, slots := 0, locals := 0 } : Room)
theorem hd_J9_min_7cf53 : yJ9_min_7cf53.cls ≠ "java/lang/invoke/MethodHandle" ∧ yJ9_min_7cf53.cls ≠ "java/lang/invoke/VarHandle" ∧ (parseMethodDescriptor yJ9_min_7cf53.desc).map (fun d => d.parameters.length) = some 2 := by decide +kernel
abbrev rmL_act : Room := ({ frames := 8, cells := 0, slots := 0, locals := 145 } : Room)
theorem hd_L_act : yL_act.cls ≠ "java/lang/invoke/MethodHandle" ∧ yL_act.cls ≠ "java/lang/invoke/VarHandle" ∧ (parseMethodDescriptor yL_act.desc).map (fun d => d.parameters.length) = some 3 := by decide +kernel
abbrev rmL_below : Room := ({ frames := 0, cells := 0, slots := 0, locals := 0 } : Room)
theorem hd_L_below : yL_below.cls ≠ "java/lang/invoke/MethodHandle" ∧ yL_below.cls ≠ "java/lang/invoke/VarHandle" ∧ (parseMethodDescriptor yL_below.desc).map (fun d => d.parameters.length) = some 2 := by decide +kernel
abbrev rmL_build : Room := ({ frames := 8, cells := 0, slots := 0, locals := 145 } : Room)
theorem hd_L_build : yL_build.cls ≠ "java/lang/invoke/MethodHandle" ∧ yL_build.cls ≠ "java/lang/invoke/VarHandle" ∧ (parseMethodDescriptor yL_build.desc).map (fun d => d.parameters.length) = some 2 := by decide +kernel
abbrev rmL_cell : Room := ({ frames := 0, cells := 0, slots := 0, locals := 0 } : Room)
theorem hd_L_cell : yL_cell.cls ≠ "java/lang/invoke/MethodHandle" ∧ yL_cell.cls ≠ "java/lang/invoke/VarHandle" ∧ (parseMethodDescriptor yL_cell.desc).map (fun d => d.parameters.length) = some 2 := by decide +kernel
abbrev rmX0_addOne : Room := ({ frames := 1, cells := 0, slots := 0, locals := 22 } : Room)
theorem hd_X0_addOne : yX0_addOne.cls = RX0 ∧ yX0_addOne.cls ≠ "java/lang/invoke/MethodHandle" ∧ yX0_addOne.cls ≠ "java/lang/invoke/VarHandle" ∧ (parseMethodDescriptor yX0_addOne.desc).map (fun d => d.parameters.length) = some 3 := by decide +kernel
abbrev rmX0_closeFile : Room := ({ frames := 1, cells := 0, slots := 0, locals := 22 } : Room)
theorem hd_X0_closeFile : yX0_closeFile.cls = RX0 ∧ yX0_closeFile.cls ≠ "java/lang/invoke/MethodHandle" ∧ yX0_closeFile.cls ≠ "java/lang/invoke/VarHandle" ∧ (parseMethodDescriptor yX0_closeFile.desc).map (fun d => d.parameters.length) = some 1 := by decide +kernel
abbrev rmX0_init : Room := ({ frames := 2, cells := 0, slots := 0, locals := 46 } : Room)
theorem hd_X0_init : yX0_init.cls = RX0 ∧ yX0_init.cls ≠ "java/lang/invoke/MethodHandle" ∧ yX0_init.cls ≠ "java/lang/invoke/VarHandle" ∧ (parseMethodDescriptor yX0_init.desc).map (fun d => d.parameters.length) = some 0 := by decide +kernel
abbrev rmX0_putIntoChute : Room := ({ frames := 1, cells := 0, slots := 0, locals := 22 } : Room)
theorem hd_X0_putIntoChute : yX0_putIntoChute.cls = RX0 ∧ yX0_putIntoChute.cls ≠ "java/lang/invoke/MethodHandle" ∧ yX0_putIntoChute.cls ≠ "java/lang/invoke/VarHandle" ∧ (parseMethodDescriptor yX0_putIntoChute.desc).map (fun d => d.parameters.length) = some 2 := by decide +kernel
abbrev rmX0_renew : Room := ({ frames := 2, cells := 0, slots := 0, locals := 43 } : Room)
theorem hd_X0_renew : yX0_renew.cls = RX0 ∧ yX0_renew.cls ≠ "java/lang/invoke/MethodHandle" ∧ yX0_renew.cls ≠ "java/lang/invoke/VarHandle" ∧ (parseMethodDescriptor yX0_renew.desc).map (fun d => d.parameters.length) = some 2 := by decide +kernel
abbrev rmX0_takeAll : Room := ({ frames := 2, cells := 0, slots := 0, locals := 81 } : Room)
theorem hd_X0_takeAll : yX0_takeAll.cls = RX0 ∧ yX0_takeAll.cls ≠ "java/lang/invoke/MethodHandle" ∧ yX0_takeAll.cls ≠ "java/lang/invoke/VarHandle" ∧ (parseMethodDescriptor yX0_takeAll.desc).map (fun d => d.parameters.length) = some 1 := by decide +kernel
abbrev rmX0_takeFromChute : Room := ({ frames := 1, cells := 0, slots := 0, locals := 22 } : Room)
theorem hd_X0_takeFromChute : yX0_takeFromChute.cls = RX0 ∧ yX0_takeFromChute.cls ≠ "java/lang/invoke/MethodHandle" ∧ yX0_takeFromChute.cls ≠ "java/lang/invoke/VarHandle" ∧ (parseMethodDescriptor yX0_takeFromChute.desc).map (fun d => d.parameters.length) = some 2 := by decide +kernel
abbrev rmX1_addOne : Room := ({ frames := 0, cells := 0, slots := 0, locals := 0 } : Room)
theorem hd_X1_addOne : yX1_addOne.cls = RX1 ∧ yX1_addOne.cls ≠ "java/lang/invoke/MethodHandle" ∧ yX1_addOne.cls ≠ "java/lang/invoke/VarHandle" ∧ (parseMethodDescriptor yX1_addOne.desc).map (fun d => d.parameters.length) = some 0 := by decide +kernel
abbrev rmX1_hasLeft : Room := ({ frames := 1, cells := 0, slots := 0, locals := 21 } : Room)
theorem hd_X1_hasLeft : yX1_hasLeft.cls = RX1 ∧ yX1_hasLeft.cls ≠ "java/lang/invoke/MethodHandle" ∧ yX1_hasLeft.cls ≠ "java/lang/invoke/VarHandle" ∧ (parseMethodDescriptor yX1_hasLeft.desc).map (fun d => d.parameters.length) = some 1 := by decide +kernel
abbrev rmX1_init : Room := ({ frames := 2, cells := 0, slots := 0, locals := 46 } : Room)
theorem hd_X1_init : yX1_init.cls = RX1 ∧ yX1_init.cls ≠ "java/lang/invoke/MethodHandle" ∧ yX1_init.cls ≠ "java/lang/invoke/VarHandle" ∧ (parseMethodDescriptor yX1_init.desc).map (fun d => d.parameters.length) = some 0 := by decide +kernel
abbrev rmX1_takeAll : Room := ({ frames := 2, cells := 0, slots := 0, locals := 81 } : Room)
theorem hd_X1_takeAll : yX1_takeAll.cls = RX1 ∧ yX1_takeAll.cls ≠ "java/lang/invoke/MethodHandle" ∧ yX1_takeAll.cls ≠ "java/lang/invoke/VarHandle" ∧ (parseMethodDescriptor yX1_takeAll.desc).map (fun d => d.parameters.length) = some 1 := by decide +kernel
abbrev rmX2_becomeLike : Room := ({ frames := 3, cells := 0, slots := 0, locals := 102 } : Room)
theorem hd_X2_becomeLike : yX2_becomeLike.cls = RX2 ∧ yX2_becomeLike.cls ≠ "java/lang/invoke/MethodHandle" ∧ yX2_becomeLike.cls ≠ "java/lang/invoke/VarHandle" ∧ (parseMethodDescriptor yX2_becomeLike.desc).map (fun d => d.parameters.length) = some 1 := by decide +kernel
abbrev rmX2_changeChute : Room := ({ frames := 2, cells := 0, slots := 0, locals := 42 } : Room)
theorem hd_X2_changeChute : yX2_changeChute.cls = RX2 ∧ yX2_changeChute.cls ≠ "java/lang/invoke/MethodHandle" ∧ yX2_changeChute.cls ≠ "java/lang/invoke/VarHandle" ∧ (parseMethodDescriptor yX2_changeChute.desc).map (fun d => d.parameters.length) = some 2 := by decide +kernel
abbrev rmX2_clearMisrouted : Room := ({ frames := 3, cells := 0, slots := 0, locals := 63 } : Room)
theorem hd_X2_clearMisrouted : yX2_clearMisrouted.cls = RX2 ∧ yX2_clearMisrouted.cls ≠ "java/lang/invoke/MethodHandle" ∧ yX2_clearMisrouted.cls ≠ "java/lang/invoke/VarHandle" ∧ (parseMethodDescriptor yX2_clearMisrouted.desc).map (fun d => d.parameters.length) = some 1 := by decide +kernel
abbrev rmX2_countMisrouted : Room := ({ frames := 3, cells := 0, slots := 0, locals := 63 } : Room)
theorem hd_X2_countMisrouted : yX2_countMisrouted.cls = RX2 ∧ yX2_countMisrouted.cls ≠ "java/lang/invoke/MethodHandle" ∧ yX2_countMisrouted.cls ≠ "java/lang/invoke/VarHandle" ∧ (parseMethodDescriptor yX2_countMisrouted.desc).map (fun d => d.parameters.length) = some 1 := by decide +kernel
abbrev rmX2_countMissing : Room := ({ frames := 4, cells := 0, slots := 0, locals := 86 } : Room)
theorem hd_X2_countMissing : yX2_countMissing.cls = RX2 ∧ yX2_countMissing.cls ≠ "java/lang/invoke/MethodHandle" ∧ yX2_countMissing.cls ≠ "java/lang/invoke/VarHandle" ∧ (parseMethodDescriptor yX2_countMissing.desc).map (fun d => d.parameters.length) = some 1 := by decide +kernel
abbrev rmX2_countReady : Room := ({ frames := 3, cells := 0, slots := 0, locals := 63 } : Room)
theorem hd_X2_countReady : yX2_countReady.cls = RX2 ∧ yX2_countReady.cls ≠ "java/lang/invoke/MethodHandle" ∧ yX2_countReady.cls ≠ "java/lang/invoke/VarHandle" ∧ (parseMethodDescriptor yX2_countReady.desc).map (fun d => d.parameters.length) = some 1 := by decide +kernel
abbrev rmX2_feedBelt : Room := ({ frames := 2, cells := 0, slots := 0, locals := 44 } : Room)
theorem hd_X2_feedBelt : yX2_feedBelt.cls = RX2 ∧ yX2_feedBelt.cls ≠ "java/lang/invoke/MethodHandle" ∧ yX2_feedBelt.cls ≠ "java/lang/invoke/VarHandle" ∧ (parseMethodDescriptor yX2_feedBelt.desc).map (fun d => d.parameters.length) = some 0 := by decide +kernel
abbrev rmX2_fillChutes : Room := ({ frames := 2, cells := 0, slots := 0, locals := 47 } : Room)
theorem hd_X2_fillChutes : yX2_fillChutes.cls = RX2 ∧ yX2_fillChutes.cls ≠ "java/lang/invoke/MethodHandle" ∧ yX2_fillChutes.cls ≠ "java/lang/invoke/VarHandle" ∧ (parseMethodDescriptor yX2_fillChutes.desc).map (fun d => d.parameters.length) = some 0 := by decide +kernel
abbrev rmX2_findOnBelt : Room := ({ frames := 1, cells := 0, slots := 0, locals := 22 } : Room)
theorem hd_X2_findOnBelt : yX2_findOnBelt.cls = RX2 ∧ yX2_findOnBelt.cls ≠ "java/lang/invoke/MethodHandle" ∧ yX2_findOnBelt.cls ≠ "java/lang/invoke/VarHandle" ∧ (parseMethodDescriptor yX2_findOnBelt.desc).map (fun d => d.parameters.length) = some 1 := by decide +kernel
abbrev rmX2_goMinute : Room := ({ frames := 3, cells := 0, slots := 0, locals := 71 } : Room)
theorem hd_X2_goMinute : yX2_goMinute.cls = RX2 ∧ yX2_goMinute.cls ≠ "java/lang/invoke/MethodHandle" ∧ yX2_goMinute.cls ≠ "java/lang/invoke/VarHandle" ∧ (parseMethodDescriptor yX2_goMinute.desc).map (fun d => d.parameters.length) = some 0 := by decide +kernel
abbrev rmX2_goMinutes : Room := ({ frames := 4, cells := 0, slots := 0, locals := 92 } : Room)
theorem hd_X2_goMinutes : yX2_goMinutes.cls = RX2 ∧ yX2_goMinutes.cls ≠ "java/lang/invoke/MethodHandle" ∧ yX2_goMinutes.cls ≠ "java/lang/invoke/VarHandle" ∧ (parseMethodDescriptor yX2_goMinutes.desc).map (fun d => d.parameters.length) = some 1 := by decide +kernel
abbrev rmX2_hasRoom : Room := ({ frames := 1, cells := 0, slots := 0, locals := 26 } : Room)
theorem hd_X2_hasRoom : yX2_hasRoom.cls = RX2 ∧ yX2_hasRoom.cls ≠ "java/lang/invoke/MethodHandle" ∧ yX2_hasRoom.cls ≠ "java/lang/invoke/VarHandle" ∧ (parseMethodDescriptor yX2_hasRoom.desc).map (fun d => d.parameters.length) = some 1 := by decide +kernel
abbrev rmX2_init : Room := ({ frames := 3, cells := 0, slots := 0, locals := 66 } : Room)
theorem hd_X2_init : yX2_init.cls = RX2 ∧ yX2_init.cls ≠ "java/lang/invoke/MethodHandle" ∧ yX2_init.cls ≠ "java/lang/invoke/VarHandle" ∧ (parseMethodDescriptor yX2_init.desc).map (fun d => d.parameters.length) = some 0 := by decide +kernel
abbrev rmX2_isAstray : Room := ({ frames := 2, cells := 0, slots := 0, locals := 42 } : Room)
theorem hd_X2_isAstray : yX2_isAstray.cls = RX2 ∧ yX2_isAstray.cls ≠ "java/lang/invoke/MethodHandle" ∧ yX2_isAstray.cls ≠ "java/lang/invoke/VarHandle" ∧ (parseMethodDescriptor yX2_isAstray.desc).map (fun d => d.parameters.length) = some 1 := by decide +kernel
abbrev rmX2_isInOwnChute : Room := ({ frames := 1, cells := 0, slots := 0, locals := 21 } : Room)
theorem hd_X2_isInOwnChute : yX2_isInOwnChute.cls = RX2 ∧ yX2_isInOwnChute.cls ≠ "java/lang/invoke/MethodHandle" ∧ yX2_isInOwnChute.cls ≠ "java/lang/invoke/VarHandle" ∧ (parseMethodDescriptor yX2_isInOwnChute.desc).map (fun d => d.parameters.length) = some 1 := by decide +kernel
abbrev rmX2_isReady : Room := ({ frames := 2, cells := 0, slots := 0, locals := 42 } : Room)
theorem hd_X2_isReady : yX2_isReady.cls = RX2 ∧ yX2_isReady.cls ≠ "java/lang/invoke/MethodHandle" ∧ yX2_isReady.cls ≠ "java/lang/invoke/VarHandle" ∧ (parseMethodDescriptor yX2_isReady.desc).map (fun d => d.parameters.length) = some 1 := by decide +kernel
abbrev rmX2_letLeave : Room := ({ frames := 2, cells := 0, slots := 0, locals := 44 } : Room)
theorem hd_X2_letLeave : yX2_letLeave.cls = RX2 ∧ yX2_letLeave.cls ≠ "java/lang/invoke/MethodHandle" ∧ yX2_letLeave.cls ≠ "java/lang/invoke/VarHandle" ∧ (parseMethodDescriptor yX2_letLeave.desc).map (fun d => d.parameters.length) = some 1 := by decide +kernel
abbrev rmX2_missTag : Room := ({ frames := 1, cells := 0, slots := 0, locals := 22 } : Room)
theorem hd_X2_missTag : yX2_missTag.cls = RX2 ∧ yX2_missTag.cls ≠ "java/lang/invoke/MethodHandle" ∧ yX2_missTag.cls ≠ "java/lang/invoke/VarHandle" ∧ (parseMethodDescriptor yX2_missTag.desc).map (fun d => d.parameters.length) = some 1 := by decide +kernel
abbrev rmX2_readTag : Room := ({ frames := 2, cells := 0, slots := 0, locals := 44 } : Room)
theorem hd_X2_readTag : yX2_readTag.cls = RX2 ∧ yX2_readTag.cls ≠ "java/lang/invoke/MethodHandle" ∧ yX2_readTag.cls ≠ "java/lang/invoke/VarHandle" ∧ (parseMethodDescriptor yX2_readTag.desc).map (fun d => d.parameters.length) = some 0 := by decide +kernel
abbrev rmX2_takeIn : Room := ({ frames := 1, cells := 0, slots := 0, locals := 22 } : Room)
theorem hd_X2_takeIn : yX2_takeIn.cls = RX2 ∧ yX2_takeIn.cls ≠ "java/lang/invoke/MethodHandle" ∧ yX2_takeIn.cls ≠ "java/lang/invoke/VarHandle" ∧ (parseMethodDescriptor yX2_takeIn.desc).map (fun d => d.parameters.length) = some 1 := by decide +kernel
abbrev rmX3_at : Room := ({ frames := 0, cells := 0, slots := 0, locals := 0 } : Room)
theorem hd_X3_at : yX3_at.cls = RX3 ∧ yX3_at.cls ≠ "java/lang/invoke/MethodHandle" ∧ yX3_at.cls ≠ "java/lang/invoke/VarHandle" ∧ (parseMethodDescriptor yX3_at.desc).map (fun d => d.parameters.length) = some 1 := by decide +kernel
abbrev rmX3_count : Room := ({ frames := 0, cells := 0, slots := 0, locals := 0 } : Room)
theorem hd_X3_count : yX3_count.cls = RX3 ∧ yX3_count.cls ≠ "java/lang/invoke/MethodHandle" ∧ yX3_count.cls ≠ "java/lang/invoke/VarHandle" ∧ (parseMethodDescriptor yX3_count.desc).map (fun d => d.parameters.length) = some 1 := by decide +kernel
abbrev rmX3_find : Room := ({ frames := 0, cells := 0, slots := 0, locals := 0 } : Room)
theorem hd_X3_find : yX3_find.cls = RX3 ∧ yX3_find.cls ≠ "java/lang/invoke/MethodHandle" ∧ yX3_find.cls ≠ "java/lang/invoke/VarHandle" ∧ (parseMethodDescriptor yX3_find.desc).map (fun d => d.parameters.length) = some 1 := by decide +kernel
abbrev rmX3_init : Room := ({ frames := 1, cells := 0, slots := 0, locals := 24 } : Room)
theorem hd_X3_init : yX3_init.cls = RX3 ∧ yX3_init.cls ≠ "java/lang/invoke/MethodHandle" ∧ yX3_init.cls ≠ "java/lang/invoke/VarHandle" ∧ (parseMethodDescriptor yX3_init.desc).map (fun d => d.parameters.length) = some 2 := by decide +kernel
abbrev rmX3_put : Room := ({ frames := 0, cells := 0, slots := 0, locals := 0 } : Room)
theorem hd_X3_put : yX3_put.cls = RX3 ∧ yX3_put.cls ≠ "java/lang/invoke/MethodHandle" ∧ yX3_put.cls ≠ "java/lang/invoke/VarHandle" ∧ (parseMethodDescriptor yX3_put.desc).map (fun d => d.parameters.length) = some 2 := by decide +kernel
abbrev rmX3_sum : Room := ({ frames := 0, cells := 0, slots := 0, locals := 0 } : Room)
theorem hd_X3_sum : yX3_sum.cls = RX3 ∧ yX3_sum.cls ≠ "java/lang/invoke/MethodHandle" ∧ yX3_sum.cls ≠ "java/lang/invoke/VarHandle" ∧ (parseMethodDescriptor yX3_sum.desc).map (fun d => d.parameters.length) = some 0 := by decide +kernel
abbrev rmX3_takeAll : Room := ({ frames := 1, cells := 0, slots := 0, locals := 60 } : Room)
theorem hd_X3_takeAll : yX3_takeAll.cls = RX3 ∧ yX3_takeAll.cls ≠ "java/lang/invoke/MethodHandle" ∧ yX3_takeAll.cls ≠ "java/lang/invoke/VarHandle" ∧ (parseMethodDescriptor yX3_takeAll.desc).map (fun d => d.parameters.length) = some 1 := by decide +kernel
abbrev rmX3_takeFront : Room := ({ frames := 1, cells := 0, slots := 0, locals := 22 } : Room)
theorem hd_X3_takeFront : yX3_takeFront.cls = RX3 ∧ yX3_takeFront.cls ≠ "java/lang/invoke/MethodHandle" ∧ yX3_takeFront.cls ≠ "java/lang/invoke/VarHandle" ∧ (parseMethodDescriptor yX3_takeFront.desc).map (fun d => d.parameters.length) = some 0 := by decide +kernel
abbrev rmX3_turn : Room := ({ frames := 1, cells := 0, slots := 0, locals := 22 } : Room)
theorem hd_X3_turn : yX3_turn.cls = RX3 ∧ yX3_turn.cls ≠ "java/lang/invoke/MethodHandle" ∧ yX3_turn.cls ≠ "java/lang/invoke/VarHandle" ∧ (parseMethodDescriptor yX3_turn.desc).map (fun d => d.parameters.length) = some 0 := by decide +kernel
abbrev rmX4_addBag : Room := ({ frames := 3, cells := 0, slots := 0, locals := 63 } : Room)
theorem hd_X4_addBag : yX4_addBag.cls = RX4 ∧ yX4_addBag.cls ≠ "java/lang/invoke/MethodHandle" ∧ yX4_addBag.cls ≠ "java/lang/invoke/VarHandle" ∧ (parseMethodDescriptor yX4_addBag.desc).map (fun d => d.parameters.length) = some 2 := by decide +kernel
abbrev rmX4_addChute : Room := ({ frames := 4, cells := 0, slots := 0, locals := 86 } : Room)
theorem hd_X4_addChute : yX4_addChute.cls = RX4 ∧ yX4_addChute.cls ≠ "java/lang/invoke/MethodHandle" ∧ yX4_addChute.cls ≠ "java/lang/invoke/VarHandle" ∧ (parseMethodDescriptor yX4_addChute.desc).map (fun d => d.parameters.length) = some 2 := by decide +kernel
abbrev rmX4_addFlight : Room := ({ frames := 6, cells := 0, slots := 0, locals := 100 } : Room)
theorem hd_X4_addFlight : yX4_addFlight.cls = RX4 ∧ yX4_addFlight.cls ≠ "java/lang/invoke/MethodHandle" ∧ yX4_addFlight.cls ≠ "java/lang/invoke/VarHandle" ∧ (parseMethodDescriptor yX4_addFlight.desc).map (fun d => d.parameters.length) = some 0 := by decide +kernel
abbrev rmX4_addHall : Room := ({ frames := 1, cells := 0, slots := 0, locals := 26 } : Room)
theorem hd_X4_addHall : yX4_addHall.cls = RX4 ∧ yX4_addHall.cls ≠ "java/lang/invoke/MethodHandle" ∧ yX4_addHall.cls ≠ "java/lang/invoke/VarHandle" ∧ (parseMethodDescriptor yX4_addHall.desc).map (fun d => d.parameters.length) = some 1 := by decide +kernel
abbrev rmX4_addNumber : Room := ({ frames := 0, cells := 0, slots := 0, locals := 0 } : Room)
theorem hd_X4_addNumber : yX4_addNumber.cls ≠ "java/lang/invoke/MethodHandle" ∧ yX4_addNumber.cls ≠ "java/lang/invoke/VarHandle" ∧ (parseMethodDescriptor yX4_addNumber.desc).map (fun d => d.parameters.length) = some 2 := by decide +kernel
abbrev rmX4_addOfFlight : Room := ({ frames := 5, cells := 0, slots := 0, locals := 107 } : Room)
theorem hd_X4_addOfFlight : yX4_addOfFlight.cls = RX4 ∧ yX4_addOfFlight.cls ≠ "java/lang/invoke/MethodHandle" ∧ yX4_addOfFlight.cls ≠ "java/lang/invoke/VarHandle" ∧ (parseMethodDescriptor yX4_addOfFlight.desc).map (fun d => d.parameters.length) = some 2 := by decide +kernel
abbrev rmX4_atDesk : Room := ({ frames := 1, cells := 0, slots := 0, locals := 26 } : Room)
theorem hd_X4_atDesk : yX4_atDesk.cls = RX4 ∧ yX4_atDesk.cls ≠ "java/lang/invoke/MethodHandle" ∧ yX4_atDesk.cls ≠ "java/lang/invoke/VarHandle" ∧ (parseMethodDescriptor yX4_atDesk.desc).map (fun d => d.parameters.length) = some 0 := by decide +kernel
abbrev rmX4_bagAt : Room := ({ frames := 6, cells := 0, slots := 0, locals := 100 } : Room)
theorem hd_X4_bagAt : yX4_bagAt.cls = RX4 ∧ yX4_bagAt.cls ≠ "java/lang/invoke/MethodHandle" ∧ yX4_bagAt.cls ≠ "java/lang/invoke/VarHandle" ∧ (parseMethodDescriptor yX4_bagAt.desc).map (fun d => d.parameters.length) = some 1 := by decide +kernel
abbrev rmX4_bags : Room := ({ frames := 0, cells := 0, slots := 0, locals := 0 } : Room)
theorem hd_X4_bags : yX4_bags.cls = RX4 ∧ yX4_bags.cls ≠ "java/lang/invoke/MethodHandle" ∧ yX4_bags.cls ≠ "java/lang/invoke/VarHandle" ∧ (parseMethodDescriptor yX4_bags.desc).map (fun d => d.parameters.length) = some 0 := by decide +kernel
abbrev rmX4_bagsIn : Room := ({ frames := 7, cells := 0, slots := 0, locals := 120 } : Room)
theorem hd_X4_bagsIn : yX4_bagsIn.cls = RX4 ∧ yX4_bagsIn.cls ≠ "java/lang/invoke/MethodHandle" ∧ yX4_bagsIn.cls ≠ "java/lang/invoke/VarHandle" ∧ (parseMethodDescriptor yX4_bagsIn.desc).map (fun d => d.parameters.length) = some 1 := by decide +kernel
abbrev rmX4_carry : Room := ({ frames := 7, cells := 0, slots := 0, locals := 122 } : Room)
theorem hd_X4_carry : yX4_carry.cls = RX4 ∧ yX4_carry.cls ≠ "java/lang/invoke/MethodHandle" ∧ yX4_carry.cls ≠ "java/lang/invoke/VarHandle" ∧ (parseMethodDescriptor yX4_carry.desc).map (fun d => d.parameters.length) = some 1 := by decide +kernel
abbrev rmX4_checkIn : Room := ({ frames := 7, cells := 0, slots := 0, locals := 121 } : Room)
theorem hd_X4_checkIn : yX4_checkIn.cls = RX4 ∧ yX4_checkIn.cls ≠ "java/lang/invoke/MethodHandle" ∧ yX4_checkIn.cls ≠ "java/lang/invoke/VarHandle" ∧ (parseMethodDescriptor yX4_checkIn.desc).map (fun d => d.parameters.length) = some 3 := by decide +kernel
abbrev rmX4_chuteOf : Room := ({ frames := 7, cells := 0, slots := 0, locals := 121 } : Room)
theorem hd_X4_chuteOf : yX4_chuteOf.cls = RX4 ∧ yX4_chuteOf.cls ≠ "java/lang/invoke/MethodHandle" ∧ yX4_chuteOf.cls ≠ "java/lang/invoke/VarHandle" ∧ (parseMethodDescriptor yX4_chuteOf.desc).map (fun d => d.parameters.length) = some 1 := by decide +kernel
abbrev rmX4_chuteOfFlight : Room := ({ frames := 7, cells := 0, slots := 0, locals := 121 } : Room)
theorem hd_X4_chuteOfFlight : yX4_chuteOfFlight.cls = RX4 ∧ yX4_chuteOfFlight.cls ≠ "java/lang/invoke/MethodHandle" ∧ yX4_chuteOfFlight.cls ≠ "java/lang/invoke/VarHandle" ∧ (parseMethodDescriptor yX4_chuteOfFlight.desc).map (fun d => d.parameters.length) = some 1 := by decide +kernel
abbrev rmX4_closedFiles : Room := ({ frames := 1, cells := 0, slots := 0, locals := 26 } : Room)
theorem hd_X4_closedFiles : yX4_closedFiles.cls = RX4 ∧ yX4_closedFiles.cls ≠ "java/lang/invoke/MethodHandle" ∧ yX4_closedFiles.cls ≠ "java/lang/invoke/VarHandle" ∧ (parseMethodDescriptor yX4_closedFiles.desc).map (fun d => d.parameters.length) = some 0 := by decide +kernel
abbrev rmX4_depart : Room := ({ frames := 7, cells := 0, slots := 0, locals := 121 } : Room)
theorem hd_X4_depart : yX4_depart.cls = RX4 ∧ yX4_depart.cls ≠ "java/lang/invoke/MethodHandle" ∧ yX4_depart.cls ≠ "java/lang/invoke/VarHandle" ∧ (parseMethodDescriptor yX4_depart.desc).map (fun d => d.parameters.length) = some 1 := by decide +kernel
abbrev rmX4_digest : Room := ({ frames := 6, cells := 0, slots := 0, locals := 132 } : Room)
theorem hd_X4_digest : yX4_digest.cls = RX4 ∧ yX4_digest.cls ≠ "java/lang/invoke/MethodHandle" ∧ yX4_digest.cls ≠ "java/lang/invoke/VarHandle" ∧ (parseMethodDescriptor yX4_digest.desc).map (fun d => d.parameters.length) = some 0 := by decide +kernel
abbrev rmX4_flightOf : Room := ({ frames := 7, cells := 0, slots := 0, locals := 121 } : Room)
theorem hd_X4_flightOf : yX4_flightOf.cls = RX4 ∧ yX4_flightOf.cls ≠ "java/lang/invoke/MethodHandle" ∧ yX4_flightOf.cls ≠ "java/lang/invoke/VarHandle" ∧ (parseMethodDescriptor yX4_flightOf.desc).map (fun d => d.parameters.length) = some 1 := by decide +kernel
abbrev rmX4_flights : Room := ({ frames := 0, cells := 0, slots := 0, locals := 0 } : Room)
theorem hd_X4_flights : yX4_flights.cls = RX4 ∧ yX4_flights.cls ≠ "java/lang/invoke/MethodHandle" ∧ yX4_flights.cls ≠ "java/lang/invoke/VarHandle" ∧ (parseMethodDescriptor yX4_flights.desc).map (fun d => d.parameters.length) = some 0 := by decide +kernel
abbrev rmX4_forward : Room := ({ frames := 7, cells := 0, slots := 0, locals := 122 } : Room)
theorem hd_X4_forward : yX4_forward.cls = RX4 ∧ yX4_forward.cls ≠ "java/lang/invoke/MethodHandle" ∧ yX4_forward.cls ≠ "java/lang/invoke/VarHandle" ∧ (parseMethodDescriptor yX4_forward.desc).map (fun d => d.parameters.length) = some 2 := by decide +kernel
abbrev rmX4_giveChute : Room := ({ frames := 7, cells := 0, slots := 0, locals := 121 } : Room)
theorem hd_X4_giveChute : yX4_giveChute.cls = RX4 ∧ yX4_giveChute.cls ≠ "java/lang/invoke/MethodHandle" ∧ yX4_giveChute.cls ≠ "java/lang/invoke/VarHandle" ∧ (parseMethodDescriptor yX4_giveChute.desc).map (fun d => d.parameters.length) = some 2 := by decide +kernel
abbrev rmX4_hasOpenFile : Room := ({ frames := 7, cells := 0, slots := 0, locals := 121 } : Room)
theorem hd_X4_hasOpenFile : yX4_hasOpenFile.cls = RX4 ∧ yX4_hasOpenFile.cls ≠ "java/lang/invoke/MethodHandle" ∧ yX4_hasOpenFile.cls ≠ "java/lang/invoke/VarHandle" ∧ (parseMethodDescriptor yX4_hasOpenFile.desc).map (fun d => d.parameters.length) = some 1 := by decide +kernel
abbrev rmX4_inLine : Room := ({ frames := 1, cells := 0, slots := 0, locals := 26 } : Room)
theorem hd_X4_inLine : yX4_inLine.cls = RX4 ∧ yX4_inLine.cls ≠ "java/lang/invoke/MethodHandle" ∧ yX4_inLine.cls ≠ "java/lang/invoke/VarHandle" ∧ (parseMethodDescriptor yX4_inLine.desc).map (fun d => d.parameters.length) = some 0 := by decide +kernel
abbrev rmX4_init : Room := ({ frames := 4, cells := 0, slots := 0, locals := 86 } : Room)
theorem hd_X4_init : yX4_init.cls = RX4 ∧ yX4_init.cls ≠ "java/lang/invoke/MethodHandle" ∧ yX4_init.cls ≠ "java/lang/invoke/VarHandle" ∧ (parseMethodDescriptor yX4_init.desc).map (fun d => d.parameters.length) = some 0 := by decide +kernel
abbrev rmX4_isChute : Room := ({ frames := 0, cells := 0, slots := 0, locals := 0 } : Room)
theorem hd_X4_isChute : yX4_isChute.cls ≠ "java/lang/invoke/MethodHandle" ∧ yX4_isChute.cls ≠ "java/lang/invoke/VarHandle" ∧ (parseMethodDescriptor yX4_isChute.desc).map (fun d => d.parameters.length) = some 1 := by decide +kernel
abbrev rmX4_isGone : Room := ({ frames := 7, cells := 0, slots := 0, locals := 121 } : Room)
theorem hd_X4_isGone : yX4_isGone.cls = RX4 ∧ yX4_isGone.cls ≠ "java/lang/invoke/MethodHandle" ∧ yX4_isGone.cls ≠ "java/lang/invoke/VarHandle" ∧ (parseMethodDescriptor yX4_isGone.desc).map (fun d => d.parameters.length) = some 1 := by decide +kernel
abbrev rmX4_isMisrouted : Room := ({ frames := 7, cells := 0, slots := 0, locals := 121 } : Room)
theorem hd_X4_isMisrouted : yX4_isMisrouted.cls = RX4 ∧ yX4_isMisrouted.cls ≠ "java/lang/invoke/MethodHandle" ∧ yX4_isMisrouted.cls ≠ "java/lang/invoke/VarHandle" ∧ (parseMethodDescriptor yX4_isMisrouted.desc).map (fun d => d.parameters.length) = some 1 := by decide +kernel
abbrev rmX4_meanMisses : Room := ({ frames := 1, cells := 0, slots := 0, locals := 25 } : Room)
theorem hd_X4_meanMisses : yX4_meanMisses.cls = RX4 ∧ yX4_meanMisses.cls ≠ "java/lang/invoke/MethodHandle" ∧ yX4_meanMisses.cls ≠ "java/lang/invoke/VarHandle" ∧ (parseMethodDescriptor yX4_meanMisses.desc).map (fun d => d.parameters.length) = some 0 := by decide +kernel
abbrev rmX4_minute : Room := ({ frames := 0, cells := 0, slots := 0, locals := 0 } : Room)
theorem hd_X4_minute : yX4_minute.cls = RX4 ∧ yX4_minute.cls ≠ "java/lang/invoke/MethodHandle" ∧ yX4_minute.cls ≠ "java/lang/invoke/VarHandle" ∧ (parseMethodDescriptor yX4_minute.desc).map (fun d => d.parameters.length) = some 0 := by decide +kernel
abbrev rmX4_minutesUntilChute : Room := ({ frames := 7, cells := 0, slots := 0, locals := 123 } : Room)
theorem hd_X4_minutesUntilChute : yX4_minutesUntilChute.cls = RX4 ∧ yX4_minutesUntilChute.cls ≠ "java/lang/invoke/MethodHandle" ∧ yX4_minutesUntilChute.cls ≠ "java/lang/invoke/VarHandle" ∧ (parseMethodDescriptor yX4_minutesUntilChute.desc).map (fun d => d.parameters.length) = some 1 := by decide +kernel
abbrev rmX4_misroutedIn : Room := ({ frames := 7, cells := 0, slots := 0, locals := 120 } : Room)
theorem hd_X4_misroutedIn : yX4_misroutedIn.cls = RX4 ∧ yX4_misroutedIn.cls ≠ "java/lang/invoke/MethodHandle" ∧ yX4_misroutedIn.cls ≠ "java/lang/invoke/VarHandle" ∧ (parseMethodDescriptor yX4_misroutedIn.desc).map (fun d => d.parameters.length) = some 1 := by decide +kernel
abbrev rmX4_missesOf : Room := ({ frames := 7, cells := 0, slots := 0, locals := 121 } : Room)
theorem hd_X4_missesOf : yX4_missesOf.cls = RX4 ∧ yX4_missesOf.cls ≠ "java/lang/invoke/MethodHandle" ∧ yX4_missesOf.cls ≠ "java/lang/invoke/VarHandle" ∧ (parseMethodDescriptor yX4_missesOf.desc).map (fun d => d.parameters.length) = some 1 := by decide +kernel
abbrev rmX4_missingOf : Room := ({ frames := 7, cells := 0, slots := 0, locals := 121 } : Room)
theorem hd_X4_missingOf : yX4_missingOf.cls = RX4 ∧ yX4_missingOf.cls ≠ "java/lang/invoke/MethodHandle" ∧ yX4_missingOf.cls ≠ "java/lang/invoke/VarHandle" ∧ (parseMethodDescriptor yX4_missingOf.desc).map (fun d => d.parameters.length) = some 1 := by decide +kernel
abbrev rmX4_needBag : Room := ({ frames := 6, cells := 0, slots := 0, locals := 100 } : Room)
theorem hd_X4_needBag : yX4_needBag.cls = RX4 ∧ yX4_needBag.cls ≠ "java/lang/invoke/MethodHandle" ∧ yX4_needBag.cls ≠ "java/lang/invoke/VarHandle" ∧ (parseMethodDescriptor yX4_needBag.desc).map (fun d => d.parameters.length) = some 1 := by decide +kernel
abbrev rmX4_needChute : Room := ({ frames := 6, cells := 0, slots := 0, locals := 100 } : Room)
theorem hd_X4_needChute : yX4_needChute.cls ≠ "java/lang/invoke/MethodHandle" ∧ yX4_needChute.cls ≠ "java/lang/invoke/VarHandle" ∧ (parseMethodDescriptor yX4_needChute.desc).map (fun d => d.parameters.length) = some 1 := by decide +kernel
abbrev rmX4_needFlight : Room := ({ frames := 6, cells := 0, slots := 0, locals := 100 } : Room)
theorem hd_X4_needFlight : yX4_needFlight.cls = RX4 ∧ yX4_needFlight.cls ≠ "java/lang/invoke/MethodHandle" ∧ yX4_needFlight.cls ≠ "java/lang/invoke/VarHandle" ∧ (parseMethodDescriptor yX4_needFlight.desc).map (fun d => d.parameters.length) = some 1 := by decide +kernel
abbrev rmX4_needInHand : Room := ({ frames := 6, cells := 0, slots := 0, locals := 100 } : Room)
theorem hd_X4_needInHand : yX4_needInHand.cls = RX4 ∧ yX4_needInHand.cls ≠ "java/lang/invoke/MethodHandle" ∧ yX4_needInHand.cls ≠ "java/lang/invoke/VarHandle" ∧ (parseMethodDescriptor yX4_needInHand.desc).map (fun d => d.parameters.length) = some 1 := by decide +kernel
abbrev rmX4_needMinutes : Room := ({ frames := 6, cells := 0, slots := 0, locals := 100 } : Room)
theorem hd_X4_needMinutes : yX4_needMinutes.cls ≠ "java/lang/invoke/MethodHandle" ∧ yX4_needMinutes.cls ≠ "java/lang/invoke/VarHandle" ∧ (parseMethodDescriptor yX4_needMinutes.desc).map (fun d => d.parameters.length) = some 1 := by decide +kernel
abbrev rmX4_needNotGone : Room := ({ frames := 6, cells := 0, slots := 0, locals := 100 } : Room)
theorem hd_X4_needNotGone : yX4_needNotGone.cls = RX4 ∧ yX4_needNotGone.cls ≠ "java/lang/invoke/MethodHandle" ∧ yX4_needNotGone.cls ≠ "java/lang/invoke/VarHandle" ∧ (parseMethodDescriptor yX4_needNotGone.desc).map (fun d => d.parameters.length) = some 1 := by decide +kernel
abbrev rmX4_onBelt : Room := ({ frames := 1, cells := 0, slots := 0, locals := 26 } : Room)
theorem hd_X4_onBelt : yX4_onBelt.cls = RX4 ∧ yX4_onBelt.cls ≠ "java/lang/invoke/MethodHandle" ∧ yX4_onBelt.cls ≠ "java/lang/invoke/VarHandle" ∧ (parseMethodDescriptor yX4_onBelt.desc).map (fun d => d.parameters.length) = some 0 := by decide +kernel
abbrev rmX4_openFiles : Room := ({ frames := 1, cells := 0, slots := 0, locals := 26 } : Room)
theorem hd_X4_openFiles : yX4_openFiles.cls = RX4 ∧ yX4_openFiles.cls ≠ "java/lang/invoke/MethodHandle" ∧ yX4_openFiles.cls ≠ "java/lang/invoke/VarHandle" ∧ (parseMethodDescriptor yX4_openFiles.desc).map (fun d => d.parameters.length) = some 0 := by decide +kernel
abbrev rmX4_pass : Room := ({ frames := 7, cells := 0, slots := 0, locals := 120 } : Room)
theorem hd_X4_pass : yX4_pass.cls = RX4 ∧ yX4_pass.cls ≠ "java/lang/invoke/MethodHandle" ∧ yX4_pass.cls ≠ "java/lang/invoke/VarHandle" ∧ (parseMethodDescriptor yX4_pass.desc).map (fun d => d.parameters.length) = some 1 := by decide +kernel
abbrev rmX4_placeOf : Room := ({ frames := 7, cells := 0, slots := 0, locals := 121 } : Room)
theorem hd_X4_placeOf : yX4_placeOf.cls = RX4 ∧ yX4_placeOf.cls ≠ "java/lang/invoke/MethodHandle" ∧ yX4_placeOf.cls ≠ "java/lang/invoke/VarHandle" ∧ (parseMethodDescriptor yX4_placeOf.desc).map (fun d => d.parameters.length) = some 1 := by decide +kernel
abbrev rmX4_readFor : Room := ({ frames := 7, cells := 0, slots := 0, locals := 121 } : Room)
theorem hd_X4_readFor : yX4_readFor.cls = RX4 ∧ yX4_readFor.cls ≠ "java/lang/invoke/MethodHandle" ∧ yX4_readFor.cls ≠ "java/lang/invoke/VarHandle" ∧ (parseMethodDescriptor yX4_readFor.desc).map (fun d => d.parameters.length) = some 1 := by decide +kernel
abbrev rmX4_reader : Room := ({ frames := 0, cells := 0, slots := 0, locals := 0 } : Room)
theorem hd_X4_reader : yX4_reader.cls = RX4 ∧ yX4_reader.cls ≠ "java/lang/invoke/MethodHandle" ∧ yX4_reader.cls ≠ "java/lang/invoke/VarHandle" ∧ (parseMethodDescriptor yX4_reader.desc).map (fun d => d.parameters.length) = some 0 := by decide +kernel
abbrev rmX4_readyAfter : Room := ({ frames := 7, cells := 0, slots := 0, locals := 146 } : Room)
theorem hd_X4_readyAfter : yX4_readyAfter.cls = RX4 ∧ yX4_readyAfter.cls ≠ "java/lang/invoke/MethodHandle" ∧ yX4_readyAfter.cls ≠ "java/lang/invoke/VarHandle" ∧ (parseMethodDescriptor yX4_readyAfter.desc).map (fun d => d.parameters.length) = some 2 := by decide +kernel
abbrev rmX4_readyOf : Room := ({ frames := 7, cells := 0, slots := 0, locals := 121 } : Room)
theorem hd_X4_readyOf : yX4_readyOf.cls = RX4 ∧ yX4_readyOf.cls ≠ "java/lang/invoke/MethodHandle" ∧ yX4_readyOf.cls ≠ "java/lang/invoke/VarHandle" ∧ (parseMethodDescriptor yX4_readyOf.desc).map (fun d => d.parameters.length) = some 1 := by decide +kernel
abbrev rmX4_readyWithChute : Room := ({ frames := 5, cells := 0, slots := 0, locals := 123 } : Room)
theorem hd_X4_readyWithChute : yX4_readyWithChute.cls = RX4 ∧ yX4_readyWithChute.cls ≠ "java/lang/invoke/MethodHandle" ∧ yX4_readyWithChute.cls ≠ "java/lang/invoke/VarHandle" ∧ (parseMethodDescriptor yX4_readyWithChute.desc).map (fun d => d.parameters.length) = some 3 := by decide +kernel
abbrev rmX4_roomOf : Room := ({ frames := 7, cells := 0, slots := 0, locals := 120 } : Room)
theorem hd_X4_roomOf : yX4_roomOf.cls = RX4 ∧ yX4_roomOf.cls ≠ "java/lang/invoke/MethodHandle" ∧ yX4_roomOf.cls ≠ "java/lang/invoke/VarHandle" ∧ (parseMethodDescriptor yX4_roomOf.desc).map (fun d => d.parameters.length) = some 1 := by decide +kernel
abbrev rmX4_setReader : Room := ({ frames := 6, cells := 0, slots := 0, locals := 100 } : Room)
theorem hd_X4_setReader : yX4_setReader.cls = RX4 ∧ yX4_setReader.cls ≠ "java/lang/invoke/MethodHandle" ∧ yX4_setReader.cls ≠ "java/lang/invoke/VarHandle" ∧ (parseMethodDescriptor yX4_setReader.desc).map (fun d => d.parameters.length) = some 1 := by decide +kernel
abbrev rmX4_setRoom : Room := ({ frames := 7, cells := 0, slots := 0, locals := 120 } : Room)
theorem hd_X4_setRoom : yX4_setRoom.cls = RX4 ∧ yX4_setRoom.cls ≠ "java/lang/invoke/MethodHandle" ∧ yX4_setRoom.cls ≠ "java/lang/invoke/VarHandle" ∧ (parseMethodDescriptor yX4_setRoom.desc).map (fun d => d.parameters.length) = some 2 := by decide +kernel
abbrev rmX4_sweep : Room := ({ frames := 7, cells := 0, slots := 0, locals := 120 } : Room)
theorem hd_X4_sweep : yX4_sweep.cls = RX4 ∧ yX4_sweep.cls ≠ "java/lang/invoke/MethodHandle" ∧ yX4_sweep.cls ≠ "java/lang/invoke/VarHandle" ∧ (parseMethodDescriptor yX4_sweep.desc).map (fun d => d.parameters.length) = some 1 := by decide +kernel
abbrev rmX4_whereIs : Room := ({ frames := 7, cells := 0, slots := 0, locals := 121 } : Room)
theorem hd_X4_whereIs : yX4_whereIs.cls = RX4 ∧ yX4_whereIs.cls ≠ "java/lang/invoke/MethodHandle" ∧ yX4_whereIs.cls ≠ "java/lang/invoke/VarHandle" ∧ (parseMethodDescriptor yX4_whereIs.desc).map (fun d => d.parameters.length) = some 1 := by decide +kernel
abbrev rmX5_begin : Room := ({ frames := 1, cells := 0, slots := 0, locals := 23 } : Room)
theorem hd_X5_begin : yX5_begin.cls = RX5 ∧ yX5_begin.cls ≠ "java/lang/invoke/MethodHandle" ∧ yX5_begin.cls ≠ "java/lang/invoke/VarHandle" ∧ (parseMethodDescriptor yX5_begin.desc).map (fun d => d.parameters.length) = some 1 := by decide +kernel
abbrev rmX5_go : Room := ({ frames := 1, cells := 0, slots := 0, locals := 26 } : Room)
theorem hd_X5_go : yX5_go.cls = RX5 ∧ yX5_go.cls ≠ "java/lang/invoke/MethodHandle" ∧ yX5_go.cls ≠ "java/lang/invoke/VarHandle" ∧ (parseMethodDescriptor yX5_go.desc).map (fun d => d.parameters.length) = some 0 := by decide +kernel
abbrev rmX5_go_ : Room := ({ frames := 2, cells := 0, slots := 0, locals := 50 } : Room)
theorem hd_X5_go_ : yX5_go_.cls = RX5 ∧ yX5_go_.cls ≠ "java/lang/invoke/MethodHandle" ∧ yX5_go_.cls ≠ "java/lang/invoke/VarHandle" ∧ (parseMethodDescriptor yX5_go_.desc).map (fun d => d.parameters.length) = some 1 := by decide +kernel
abbrev rmX5_in : Room := ({ frames := 0, cells := 0, slots := 0, locals := 0 } : Room)
theorem hd_X5_in : yX5_in.cls = RX5 ∧ yX5_in.cls ≠ "java/lang/invoke/MethodHandle" ∧ yX5_in.cls ≠ "java/lang/invoke/VarHandle" ∧ (parseMethodDescriptor yX5_in.desc).map (fun d => d.parameters.length) = some 1 := by decide +kernel
abbrev rmX5_init : Room := ({ frames := 1, cells := 0, slots := 0, locals := 24 } : Room)
theorem hd_X5_init : yX5_init.cls = RX5 ∧ yX5_init.cls ≠ "java/lang/invoke/MethodHandle" ∧ yX5_init.cls ≠ "java/lang/invoke/VarHandle" ∧ (parseMethodDescriptor yX5_init.desc).map (fun d => d.parameters.length) = some 0 := by decide +kernel
abbrev rmX5_isMisrouted : Room := ({ frames := 0, cells := 0, slots := 0, locals := 0 } : Room)
theorem hd_X5_isMisrouted : yX5_isMisrouted.cls = RX5 ∧ yX5_isMisrouted.cls ≠ "java/lang/invoke/MethodHandle" ∧ yX5_isMisrouted.cls ≠ "java/lang/invoke/VarHandle" ∧ (parseMethodDescriptor yX5_isMisrouted.desc).map (fun d => d.parameters.length) = some 1 := by decide +kernel
abbrev rmX5_isSame : Room := ({ frames := 8, cells := 0, slots := 0, locals := 142 } : Room)
theorem hd_X5_isSame : yX5_isSame.cls = RX5 ∧ yX5_isSame.cls ≠ "java/lang/invoke/MethodHandle" ∧ yX5_isSame.cls ≠ "java/lang/invoke/VarHandle" ∧ (parseMethodDescriptor yX5_isSame.desc).map (fun d => d.parameters.length) = some 1 := by decide +kernel
abbrev rmX5_more : Room := ({ frames := 0, cells := 0, slots := 0, locals := 0 } : Room)
theorem hd_X5_more : yX5_more.cls ≠ "java/lang/invoke/MethodHandle" ∧ yX5_more.cls ≠ "java/lang/invoke/VarHandle" ∧ (parseMethodDescriptor yX5_more.desc).map (fun d => d.parameters.length) = some 2 := by decide +kernel
abbrev rmX5_of : Room := ({ frames := 0, cells := 0, slots := 0, locals := 0 } : Room)
theorem hd_X5_of : yX5_of.cls = RX5 ∧ yX5_of.cls ≠ "java/lang/invoke/MethodHandle" ∧ yX5_of.cls ≠ "java/lang/invoke/VarHandle" ∧ (parseMethodDescriptor yX5_of.desc).map (fun d => d.parameters.length) = some 1 := by decide +kernel
abbrev rmX5_on : Room := ({ frames := 0, cells := 0, slots := 0, locals := 0 } : Room)
theorem hd_X5_on : yX5_on.cls = RX5 ∧ yX5_on.cls ≠ "java/lang/invoke/MethodHandle" ∧ yX5_on.cls ≠ "java/lang/invoke/VarHandle" ∧ (parseMethodDescriptor yX5_on.desc).map (fun d => d.parameters.length) = some 1 := by decide +kernel
abbrev rmX5_put : Room := ({ frames := 0, cells := 0, slots := 0, locals := 0 } : Room)
theorem hd_X5_put : yX5_put.cls = RX5 ∧ yX5_put.cls ≠ "java/lang/invoke/MethodHandle" ∧ yX5_put.cls ≠ "java/lang/invoke/VarHandle" ∧ (parseMethodDescriptor yX5_put.desc).map (fun d => d.parameters.length) = some 3 := by decide +kernel
abbrev rmX5_ready : Room := ({ frames := 0, cells := 0, slots := 0, locals := 0 } : Room)
theorem hd_X5_ready : yX5_ready.cls = RX5 ∧ yX5_ready.cls ≠ "java/lang/invoke/MethodHandle" ∧ yX5_ready.cls ≠ "java/lang/invoke/VarHandle" ∧ (parseMethodDescriptor yX5_ready.desc).map (fun d => d.parameters.length) = some 1 := by decide +kernel
