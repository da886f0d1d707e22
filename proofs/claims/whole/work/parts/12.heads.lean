/-! rooms and names of the methods that are called -/
abbrev rmJ7_fill_53178 : Room := ({ frames := 0, cells := 0, slots := 0, locals := 0 } : Room)
theorem hd_J7_fill_53178 : yJ7_fill_53178.cls ≠ "java/lang/invoke/MethodHandle" ∧ yJ7_fill_53178.cls ≠ "java/lang/invoke/VarHandle" ∧ (parseMethodDescriptor yJ7_fill_53178.desc).map (fun d => d.parameters.length) = some 2 := by decide +kernel
abbrev rmJ9_min_7cf53 : Room := ({ frames := 0, cells := 0, slots := 0, locals := 0 } : Room)
theorem hd_J9_min_7cf53 : yJ9_min_7cf53.cls ≠ "java/lang/invoke/MethodHandle" ∧ yJ9_min_7cf53.cls ≠ "java/lang/invoke/VarHandle" ∧ (parseMethodDescriptor yJ9_min_7cf53.desc).map (fun d => d.parameters.length) = some 2 := by decide +kernel
abbrev rmL_addFlight : Room := ({ frames := 7, cells := 0, slots := 0, locals := 120 } : Room)
theorem hd_L_addFlight : yL_addFlight.cls ≠ "java/lang/invoke/MethodHandle" ∧ yL_addFlight.cls ≠ "java/lang/invoke/VarHandle" ∧ (parseMethodDescriptor yL_addFlight.desc).map (fun d => d.parameters.length) = some 2 := by decide +kernel
abbrev rmL_bagAt : Room := ({ frames := 7, cells := 0, slots := 0, locals := 121 } : Room)
theorem hd_L_bagAt : yL_bagAt.cls ≠ "java/lang/invoke/MethodHandle" ∧ yL_bagAt.cls ≠ "java/lang/invoke/VarHandle" ∧ (parseMethodDescriptor yL_bagAt.desc).map (fun d => d.parameters.length) = some 3 := by decide +kernel
abbrev rmL_bagsIn : Room := ({ frames := 8, cells := 0, slots := 0, locals := 141 } : Room)
theorem hd_L_bagsIn : yL_bagsIn.cls ≠ "java/lang/invoke/MethodHandle" ∧ yL_bagsIn.cls ≠ "java/lang/invoke/VarHandle" ∧ (parseMethodDescriptor yL_bagsIn.desc).map (fun d => d.parameters.length) = some 3 := by decide +kernel
abbrev rmL_bestChute : Room := ({ frames := 8, cells := 0, slots := 0, locals := 172 } : Room)
theorem hd_L_bestChute : yL_bestChute.cls ≠ "java/lang/invoke/MethodHandle" ∧ yL_bestChute.cls ≠ "java/lang/invoke/VarHandle" ∧ (parseMethodDescriptor yL_bestChute.desc).map (fun d => d.parameters.length) = some 4 := by decide +kernel
abbrev rmL_carry : Room := ({ frames := 8, cells := 0, slots := 0, locals := 145 } : Room)
theorem hd_L_carry : yL_carry.cls ≠ "java/lang/invoke/MethodHandle" ∧ yL_carry.cls ≠ "java/lang/invoke/VarHandle" ∧ (parseMethodDescriptor yL_carry.desc).map (fun d => d.parameters.length) = some 3 := by decide +kernel
abbrev rmL_checkIn : Room := ({ frames := 8, cells := 0, slots := 0, locals := 145 } : Room)
theorem hd_L_checkIn : yL_checkIn.cls ≠ "java/lang/invoke/MethodHandle" ∧ yL_checkIn.cls ≠ "java/lang/invoke/VarHandle" ∧ (parseMethodDescriptor yL_checkIn.desc).map (fun d => d.parameters.length) = some 5 := by decide +kernel
abbrev rmL_chuteOf : Room := ({ frames := 8, cells := 0, slots := 0, locals := 142 } : Room)
theorem hd_L_chuteOf : yL_chuteOf.cls ≠ "java/lang/invoke/MethodHandle" ∧ yL_chuteOf.cls ≠ "java/lang/invoke/VarHandle" ∧ (parseMethodDescriptor yL_chuteOf.desc).map (fun d => d.parameters.length) = some 3 := by decide +kernel
abbrev rmL_chuteOfFlight : Room := ({ frames := 8, cells := 0, slots := 0, locals := 142 } : Room)
theorem hd_L_chuteOfFlight : yL_chuteOfFlight.cls ≠ "java/lang/invoke/MethodHandle" ∧ yL_chuteOfFlight.cls ≠ "java/lang/invoke/VarHandle" ∧ (parseMethodDescriptor yL_chuteOfFlight.desc).map (fun d => d.parameters.length) = some 3 := by decide +kernel
abbrev rmL_depart : Room := ({ frames := 8, cells := 0, slots := 0, locals := 142 } : Room)
theorem hd_L_depart : yL_depart.cls ≠ "java/lang/invoke/MethodHandle" ∧ yL_depart.cls ≠ "java/lang/invoke/VarHandle" ∧ (parseMethodDescriptor yL_depart.desc).map (fun d => d.parameters.length) = some 3 := by decide +kernel
abbrev rmL_flightOf : Room := ({ frames := 8, cells := 0, slots := 0, locals := 142 } : Room)
theorem hd_L_flightOf : yL_flightOf.cls ≠ "java/lang/invoke/MethodHandle" ∧ yL_flightOf.cls ≠ "java/lang/invoke/VarHandle" ∧ (parseMethodDescriptor yL_flightOf.desc).map (fun d => d.parameters.length) = some 3 := by decide +kernel
abbrev rmL_forward : Room := ({ frames := 8, cells := 0, slots := 0, locals := 144 } : Room)
theorem hd_L_forward : yL_forward.cls ≠ "java/lang/invoke/MethodHandle" ∧ yL_forward.cls ≠ "java/lang/invoke/VarHandle" ∧ (parseMethodDescriptor yL_forward.desc).map (fun d => d.parameters.length) = some 4 := by decide +kernel
abbrev rmL_giveChute : Room := ({ frames := 8, cells := 0, slots := 0, locals := 143 } : Room)
theorem hd_L_giveChute : yL_giveChute.cls ≠ "java/lang/invoke/MethodHandle" ∧ yL_giveChute.cls ≠ "java/lang/invoke/VarHandle" ∧ (parseMethodDescriptor yL_giveChute.desc).map (fun d => d.parameters.length) = some 4 := by decide +kernel
abbrev rmL_hasOpenFile : Room := ({ frames := 8, cells := 0, slots := 0, locals := 142 } : Room)
theorem hd_L_hasOpenFile : yL_hasOpenFile.cls ≠ "java/lang/invoke/MethodHandle" ∧ yL_hasOpenFile.cls ≠ "java/lang/invoke/VarHandle" ∧ (parseMethodDescriptor yL_hasOpenFile.desc).map (fun d => d.parameters.length) = some 3 := by decide +kernel
abbrev rmL_isGone : Room := ({ frames := 8, cells := 0, slots := 0, locals := 142 } : Room)
theorem hd_L_isGone : yL_isGone.cls ≠ "java/lang/invoke/MethodHandle" ∧ yL_isGone.cls ≠ "java/lang/invoke/VarHandle" ∧ (parseMethodDescriptor yL_isGone.desc).map (fun d => d.parameters.length) = some 3 := by decide +kernel
abbrev rmL_isMisrouted : Room := ({ frames := 8, cells := 0, slots := 0, locals := 142 } : Room)
theorem hd_L_isMisrouted : yL_isMisrouted.cls ≠ "java/lang/invoke/MethodHandle" ∧ yL_isMisrouted.cls ≠ "java/lang/invoke/VarHandle" ∧ (parseMethodDescriptor yL_isMisrouted.desc).map (fun d => d.parameters.length) = some 3 := by decide +kernel
abbrev rmL_minutesUntilChute : Room := ({ frames := 8, cells := 0, slots := 0, locals := 145 } : Room)
theorem hd_L_minutesUntilChute : yL_minutesUntilChute.cls ≠ "java/lang/invoke/MethodHandle" ∧ yL_minutesUntilChute.cls ≠ "java/lang/invoke/VarHandle" ∧ (parseMethodDescriptor yL_minutesUntilChute.desc).map (fun d => d.parameters.length) = some 3 := by decide +kernel
abbrev rmL_misroutedIn : Room := ({ frames := 8, cells := 0, slots := 0, locals := 141 } : Room)
theorem hd_L_misroutedIn : yL_misroutedIn.cls ≠ "java/lang/invoke/MethodHandle" ∧ yL_misroutedIn.cls ≠ "java/lang/invoke/VarHandle" ∧ (parseMethodDescriptor yL_misroutedIn.desc).map (fun d => d.parameters.length) = some 3 := by decide +kernel
abbrev rmL_missesOf : Room := ({ frames := 8, cells := 0, slots := 0, locals := 142 } : Room)
theorem hd_L_missesOf : yL_missesOf.cls ≠ "java/lang/invoke/MethodHandle" ∧ yL_missesOf.cls ≠ "java/lang/invoke/VarHandle" ∧ (parseMethodDescriptor yL_missesOf.desc).map (fun d => d.parameters.length) = some 3 := by decide +kernel
abbrev rmL_missingOf : Room := ({ frames := 8, cells := 0, slots := 0, locals := 142 } : Room)
theorem hd_L_missingOf : yL_missingOf.cls ≠ "java/lang/invoke/MethodHandle" ∧ yL_missingOf.cls ≠ "java/lang/invoke/VarHandle" ∧ (parseMethodDescriptor yL_missingOf.desc).map (fun d => d.parameters.length) = some 3 := by decide +kernel
abbrev rmL_pass : Room := ({ frames := 8, cells := 0, slots := 0, locals := 141 } : Room)
theorem hd_L_pass : yL_pass.cls ≠ "java/lang/invoke/MethodHandle" ∧ yL_pass.cls ≠ "java/lang/invoke/VarHandle" ∧ (parseMethodDescriptor yL_pass.desc).map (fun d => d.parameters.length) = some 3 := by decide +kernel
abbrev rmL_placeOf : Room := ({ frames := 8, cells := 0, slots := 0, locals := 142 } : Room)
theorem hd_L_placeOf : yL_placeOf.cls ≠ "java/lang/invoke/MethodHandle" ∧ yL_placeOf.cls ≠ "java/lang/invoke/VarHandle" ∧ (parseMethodDescriptor yL_placeOf.desc).map (fun d => d.parameters.length) = some 3 := by decide +kernel
abbrev rmL_readFor : Room := ({ frames := 8, cells := 0, slots := 0, locals := 142 } : Room)
theorem hd_L_readFor : yL_readFor.cls ≠ "java/lang/invoke/MethodHandle" ∧ yL_readFor.cls ≠ "java/lang/invoke/VarHandle" ∧ (parseMethodDescriptor yL_readFor.desc).map (fun d => d.parameters.length) = some 3 := by decide +kernel
abbrev rmL_readyAfter : Room := ({ frames := 8, cells := 0, slots := 0, locals := 168 } : Room)
theorem hd_L_readyAfter : yL_readyAfter.cls ≠ "java/lang/invoke/MethodHandle" ∧ yL_readyAfter.cls ≠ "java/lang/invoke/VarHandle" ∧ (parseMethodDescriptor yL_readyAfter.desc).map (fun d => d.parameters.length) = some 4 := by decide +kernel
abbrev rmL_readyOf : Room := ({ frames := 8, cells := 0, slots := 0, locals := 142 } : Room)
theorem hd_L_readyOf : yL_readyOf.cls ≠ "java/lang/invoke/MethodHandle" ∧ yL_readyOf.cls ≠ "java/lang/invoke/VarHandle" ∧ (parseMethodDescriptor yL_readyOf.desc).map (fun d => d.parameters.length) = some 3 := by decide +kernel
abbrev rmL_roomOf : Room := ({ frames := 8, cells := 0, slots := 0, locals := 141 } : Room)
theorem hd_L_roomOf : yL_roomOf.cls ≠ "java/lang/invoke/MethodHandle" ∧ yL_roomOf.cls ≠ "java/lang/invoke/VarHandle" ∧ (parseMethodDescriptor yL_roomOf.desc).map (fun d => d.parameters.length) = some 3 := by decide +kernel
abbrev rmL_setReader : Room := ({ frames := 7, cells := 0, slots := 0, locals := 122 } : Room)
theorem hd_L_setReader : yL_setReader.cls ≠ "java/lang/invoke/MethodHandle" ∧ yL_setReader.cls ≠ "java/lang/invoke/VarHandle" ∧ (parseMethodDescriptor yL_setReader.desc).map (fun d => d.parameters.length) = some 3 := by decide +kernel
abbrev rmL_setRoom : Room := ({ frames := 8, cells := 0, slots := 0, locals := 143 } : Room)
theorem hd_L_setRoom : yL_setRoom.cls ≠ "java/lang/invoke/MethodHandle" ∧ yL_setRoom.cls ≠ "java/lang/invoke/VarHandle" ∧ (parseMethodDescriptor yL_setRoom.desc).map (fun d => d.parameters.length) = some 4 := by decide +kernel
abbrev rmL_sweep : Room := ({ frames := 8, cells := 0, slots := 0, locals := 141 } : Room)
theorem hd_L_sweep : yL_sweep.cls ≠ "java/lang/invoke/MethodHandle" ∧ yL_sweep.cls ≠ "java/lang/invoke/VarHandle" ∧ (parseMethodDescriptor yL_sweep.desc).map (fun d => d.parameters.length) = some 3 := by decide +kernel
abbrev rmL_whereIs : Room := ({ frames := 8, cells := 0, slots := 0, locals := 142 } : Room)
theorem hd_L_whereIs : yL_whereIs.cls ≠ "java/lang/invoke/MethodHandle" ∧ yL_whereIs.cls ≠ "java/lang/invoke/VarHandle" ∧ (parseMethodDescriptor yL_whereIs.desc).map (fun d => d.parameters.length) = some 3 := by decide +kernel
abbrev rmX0_addOne : Room := ({ frames := 1, cells := 0, slots := 0, locals := 22 } : Room)
theorem hd_X0_addOne : yX0_addOne.cls = RX0 ∧ yX0_addOne.cls ≠ "java/lang/invoke/MethodHandle" ∧ yX0_addOne.cls ≠ "java/lang/invoke/VarHandle" ∧ (parseMethodDescriptor yX0_addOne.desc).map (fun d => d.parameters.length) = some 3 := by decide +kernel
abbrev rmX0_closeFile : Room := ({ frames := 1, cells := 0, slots := 0, locals := 22 } : Room)
theorem hd_X0_closeFile : yX0_closeFile.cls = RX0 ∧ yX0_closeFile.cls ≠ "java/lang/invoke/MethodHandle" ∧ yX0_closeFile.cls ≠ "java/lang/invoke/VarHandle" ∧ (parseMethodDescriptor yX0_closeFile.desc).map (fun d => d.parameters.length) = some 1 := by decide +kernel
abbrev rmX0_init : Room := ({ frames := 2, cells := 0, slots := 0, locals := 46 } : Room)
theorem hd_X0_init : yX0_init.cls = RX0 ∧ yX0_init.cls ≠ "java/lang/invoke/MethodHandle" ∧ yX0_init.cls ≠ "java/lang/invoke/VarHandle" ∧ (parseMethodDescriptor yX0_init.desc).map (fun d => d.parameters.length) = some 0 := by decide +kernel
abbrev rmX0_putIntoChute : Room := ({ frames := 1, cells := 0, slots := 0, locals := 22 } : Room)
theorem hd_X0_putIntoChute : yX0_putIntoChute.cls = RX0 ∧ yX0_putIntoChute.cls ≠ "java/lang/invoke/MethodHandle" ∧ yX0_putIntoChute.cls ≠ "java/lang/invoke/VarHandle" ∧ (parseMethodDescriptor yX0_putIntoChute.desc).map (fun d => d.parameters.length) = some 2 := by decide +kernel
abbrev rmX0_renew : Room := ({ frames := 2, cells := 0, slots := 0, locals := 43 } : Room)
theorem hd_X0_renew : yX0_renew.cls = RX0 ∧ yX0_renew.cls ≠ "java/lang/invoke/MethodHandle" ∧ yX0_renew.cls ≠ "java/lang/invoke/VarHandle" ∧ (parseMethodDescriptor yX0_renew.desc).map (fun d => d.parameters.length) = some 2 := by decide +kernel
abbrev rmX0_takeAll : Room := ({ frames := 2, cells := 0, slots := 0, locals := 81 } : Room)
theorem hd_X0_takeAll : yX0_takeAll.cls = RX0 ∧ yX0_takeAll.cls ≠ "java/lang/invoke/MethodHandle" ∧ yX0_takeAll.cls ≠ "java/lang/invoke/VarHandle" ∧ (parseMethodDescriptor yX0_takeAll.desc).map (fun d => d.parameters.length) = some 1 := by decide +kernel
abbrev rmX0_takeFromChute : Room := ({ frames := 1, cells := 0, slots := 0, locals := 22 } : Room)
theorem hd_X0_takeFromChute : yX0_takeFromChute.cls = RX0 ∧ yX0_takeFromChute.cls ≠ "java/lang/invoke/MethodHandle" ∧ yX0_takeFromChute.cls ≠ "java/lang/invoke/VarHandle" ∧ (parseMethodDescriptor yX0_takeFromChute.desc).map (fun d => d.parameters.length) = some 2 := by decide +kernel
abbrev rmX1_addOne : Room := ({ frames := 0, cells := 0, slots := 0, locals := 0 } : Room)
theorem hd_X1_addOne : yX1_addOne.cls = RX1 ∧ yX1_addOne.cls ≠ "java/lang/invoke/MethodHandle" ∧ yX1_addOne.cls ≠ "java/lang/invoke/VarHandle" ∧ (parseMethodDescriptor yX1_addOne.desc).map (fun d => d.parameters.length) = some 0 := by decide +kernel
abbrev rmX1_hasLeft : Room := ({ frames := 1, cells := 0, slots := 0, locals := 21 } : Room)
theorem hd_X1_hasLeft : yX1_hasLeft.cls = RX1 ∧ yX1_hasLeft.cls ≠ "java/lang/invoke/MethodHandle" ∧ yX1_hasLeft.cls ≠ "java/lang/invoke/VarHandle" ∧ (parseMethodDescriptor yX1_hasLeft.desc).map (fun d => d.parameters.length) = some 1 := by decide +kernel
abbrev rmX1_init : Room := ({ frames := 2, cells := 0, slots := 0, locals := 46 } : Room)
theorem hd_X1_init : yX1_init.cls = RX1 ∧ yX1_init.cls ≠ "java/lang/invoke/MethodHandle" ∧ yX1_init.cls ≠ "java/lang/invoke/VarHandle" ∧ (parseMethodDescriptor yX1_init.desc).map (fun d => d.parameters.length) = some 0 := by decide +kernel
abbrev rmX1_takeAll : Room := ({ frames := 2, cells := 0, slots := 0, locals := 81 } : Room)
theorem hd_X1_takeAll : yX1_takeAll.cls = RX1 ∧ yX1_takeAll.cls ≠ "java/lang/invoke/MethodHandle" ∧ yX1_takeAll.cls ≠ "java/lang/invoke/VarHandle" ∧ (parseMethodDescriptor yX1_takeAll.desc).map (fun d => d.parameters.length) = some 1 := by decide +kernel
abbrev rmX2_becomeLike : Room := ({ frames := 3, cells := 0, slots := 0, locals := 102 } : Room)
theorem hd_X2_becomeLike : yX2_becomeLike.cls = RX2 ∧ yX2_becomeLike.cls ≠ "java/lang/invoke/MethodHandle" ∧ yX2_becomeLike.cls ≠ "java/lang/invoke/VarHandle" ∧ (parseMethodDescriptor yX2_becomeLike.desc).map (fun d => d.parameters.length) = some 1 := by decide +kernel
abbrev rmX2_changeChute : Room := ({ frames := 2, cells := 0, slots := 0, locals := 42 } : Room)
theorem hd_X2_changeChute : yX2_changeChute.cls = RX2 ∧ yX2_changeChute.cls ≠ "java/lang/invoke/MethodHandle" ∧ yX2_changeChute.cls ≠ "java/lang/invoke/VarHandle" ∧ (parseMethodDescriptor yX2_changeChute.desc).map (fun d => d.parameters.length) = some 2 := by decide +kernel
abbrev rmX2_clearMisrouted : Room := ({ frames := 3, cells := 0, slots := 0, locals := 63 } : Room)
theorem hd_X2_clearMisrouted : yX2_clearMisrouted.cls = RX2 ∧ yX2_clearMisrouted.cls ≠ "java/lang/invoke/MethodHandle" ∧ yX2_clearMisrouted.cls ≠ "java/lang/invoke/VarHandle" ∧ (parseMethodDescriptor yX2_clearMisrouted.desc).map (fun d => d.parameters.length) = some 1 := by decide +kernel
abbrev rmX2_countMisrouted : Room := ({ frames := 3, cells := 0, slots := 0, locals := 63 } : Room)
theorem hd_X2_countMisrouted : yX2_countMisrouted.cls = RX2 ∧ yX2_countMisrouted.cls ≠ "java/lang/invoke/MethodHandle" ∧ yX2_countMisrouted.cls ≠ "java/lang/invoke/VarHandle" ∧ (parseMethodDescriptor yX2_countMisrouted.desc).map (fun d => d.parameters.length) = some 1 := by decide +kernel
abbrev rmX2_countMissing : Room := ({ frames := 4, cells := 0, slots := 0, locals := 86 } : Room)
theorem hd_X2_countMissing : yX2_countMissing.cls = RX2 ∧ yX2_countMissing.cls ≠ "java/lang/invoke/MethodHandle" ∧ yX2_countMissing.cls ≠ "java/lang/invoke/VarHandle" ∧ (parseMethodDescriptor yX2_countMissing.desc).map (fun d => d.parameters.length) = some 1 := by decide +kernel
abbrev rmX2_countReady : Room := ({ frames := 3, cells := 0, slots := 0, locals := 63 } : Room)
theorem hd_X2_countReady : yX2_countReady.cls = RX2 ∧ yX2_countReady.cls ≠ "java/lang/invoke/MethodHandle" ∧ yX2_countReady.cls ≠ "java/lang/invoke/VarHandle" ∧ (parseMethodDescriptor yX2_countReady.desc).map (fun d => d.parameters.length) = some 1 := by decide +kernel
abbrev rmX2_feedBelt : Room := ({ frames := 2, cells := 0, slots := 0, locals := 44 } : Room)
theorem hd_X2_feedBelt : yX2_feedBelt.cls = RX2 ∧ yX2_feedBelt.cls ≠ "java/lang/invoke/MethodHandle" ∧ yX2_feedBelt.cls ≠ "java/lang/invoke/VarHandle" ∧ (parseMethodDescriptor yX2_feedBelt.desc).map (fun d => d.parameters.length) = some 0 := by decide +kernel
abbrev rmX2_fillChutes : Room := ({ frames := 2, cells := 0, slots := 0, locals := 47 } : Room)
theorem hd_X2_fillChutes : yX2_fillChutes.cls = RX2 ∧ yX2_fillChutes.cls ≠ "java/lang/invoke/MethodHandle" ∧ yX2_fillChutes.cls ≠ "java/lang/invoke/VarHandle" ∧ (parseMethodDescriptor yX2_fillChutes.desc).map (fun d => d.parameters.length) = some 0 := by decide +kernel
abbrev rmX2_findOnBelt : Room := ({ frames := 1, cells := 0, slots := 0, locals := 22 } : Room)
theorem hd_X2_findOnBelt : yX2_findOnBelt.cls = RX2 ∧ yX2_findOnBelt.cls ≠ "java/lang/invoke/MethodHandle" ∧ yX2_findOnBelt.cls ≠ "java/lang/invoke/VarHandle" ∧ (parseMethodDescriptor yX2_findOnBelt.desc).map (fun d => d.parameters.length) = some 1 := by decide +kernel
abbrev rmX2_goMinute : Room := ({ frames := 3, cells := 0, slots := 0, locals := 71 } : Room)
theorem hd_X2_goMinute : yX2_goMinute.cls = RX2 ∧ yX2_goMinute.cls ≠ "java/lang/invoke/MethodHandle" ∧ yX2_goMinute.cls ≠ "java/lang/invoke/VarHandle" ∧ (parseMethodDescriptor yX2_goMinute.desc).map (fun d => d.parameters.length) = some 0 := by decide +kernel
abbrev rmX2_goMinutes : Room := ({ frames := 4, cells := 0, slots := 0, locals := 92 } : Room)
theorem hd_X2_goMinutes : yX2_goMinutes.cls = RX2 ∧ yX2_goMinutes.cls ≠ "java/lang/invoke/MethodHandle" ∧ yX2_goMinutes.cls ≠ "java/lang/invoke/VarHandle" ∧ (parseMethodDescriptor yX2_goMinutes.desc).map (fun d => d.parameters.length) = some 1 := by decide +kernel
abbrev rmX2_hasRoom : Room := ({ frames := 1, cells := 0, slots := 0, locals := 26 } : Room)
theorem hd_X2_hasRoom : yX2_hasRoom.cls = RX2 ∧ yX2_hasRoom.cls ≠ "java/lang/invoke/MethodHandle" ∧ yX2_hasRoom.cls ≠ "java/lang/invoke/VarHandle" ∧ (parseMethodDescriptor yX2_hasRoom.desc).map (fun d => d.parameters.length) = some 1 := by decide +kernel
abbrev rmX2_init : Room := ({ frames := 3, cells := 0, slots := 0, locals := 66 } : Room)
theorem hd_X2_init : yX2_init.cls = RX2 ∧ yX2_init.cls ≠ "java/lang/invoke/MethodHandle" ∧ yX2_init.cls ≠ "java/lang/invoke/VarHandle" ∧ (parseMethodDescriptor yX2_init.desc).map (fun d => d.parameters.length) = some 0 := by decide +kernel
abbrev rmX2_isAstray : Room := ({ frames := 2, cells := 0, slots := 0, locals := 42 } : Room)
theorem hd_X2_isAstray : yX2_isAstray.cls = RX2 ∧ yX2_isAstray.cls ≠ "java/lang/invoke/MethodHandle" ∧ yX2_isAstray.cls ≠ "java/lang/invoke/VarHandle" ∧ (parseMethodDescriptor yX2_isAstray.desc).map (fun d => d.parameters.length) = some 1 := by decide +kernel
abbrev rmX2_isInOwnChute : Room := ({ frames := 1, cells := 0, slots := 0, locals := 21 } : Room)
theorem hd_X2_isInOwnChute : yX2_isInOwnChute.cls = RX2 ∧ yX2_isInOwnChute.cls ≠ "java/lang/invoke/MethodHandle" ∧ yX2_isInOwnChute.cls ≠ "java/lang/invoke/VarHandle" ∧ (parseMethodDescriptor yX2_isInOwnChute.desc).map (fun d => d.parameters.length) = some 1 := by decide +kernel
abbrev rmX2_isReady : Room := ({ frames := 2, cells := 0, slots := 0, locals := 42 } : Room)
theorem hd_X2_isReady : yX2_isReady.cls = RX2 ∧ yX2_isReady.cls ≠ "java/lang/invoke/MethodHandle" ∧ yX2_isReady.cls ≠ "java/lang/invoke/VarHandle" ∧ (parseMethodDescriptor yX2_isReady.desc).map (fun d => d.parameters.length) = some 1 := by decide +kernel
abbrev rmX2_letLeave : Room := ({ frames := 2, cells := 0, slots := 0, locals := 44 } : Room)
theorem hd_X2_letLeave : yX2_letLeave.cls = RX2 ∧ yX2_letLeave.cls ≠ "java/lang/invoke/MethodHandle" ∧ yX2_letLeave.cls ≠ "java/lang/invoke/VarHandle" ∧ (parseMethodDescriptor yX2_letLeave.desc).map (fun d => d.parameters.length) = some 1 := by decide +kernel
abbrev rmX2_missTag : Room := ({ frames := 1, cells := 0, slots := 0, locals := 22 } : Room)
theorem hd_X2_missTag : yX2_missTag.cls = RX2 ∧ yX2_missTag.cls ≠ "java/lang/invoke/MethodHandle" ∧ yX2_missTag.cls ≠ "java/lang/invoke/VarHandle" ∧ (parseMethodDescriptor yX2_missTag.desc).map (fun d => d.parameters.length) = some 1 := by decide +kernel
abbrev rmX2_readTag : Room := ({ frames := 2, cells := 0, slots := 0, locals := 44 } : Room)
theorem hd_X2_readTag : yX2_readTag.cls = RX2 ∧ yX2_readTag.cls ≠ "java/lang/invoke/MethodHandle" ∧ yX2_readTag.cls ≠ "java/lang/invoke/VarHandle" ∧ (parseMethodDescriptor yX2_readTag.desc).map (fun d => d.parameters.length) = some 0 := by decide +kernel
abbrev rmX2_takeIn : Room := ({ frames := 1, cells := 0, slots := 0, locals := 22 } : Room)
theorem hd_X2_takeIn : yX2_takeIn.cls = RX2 ∧ yX2_takeIn.cls ≠ "java/lang/invoke/MethodHandle" ∧ yX2_takeIn.cls ≠ "java/lang/invoke/VarHandle" ∧ (parseMethodDescriptor yX2_takeIn.desc).map (fun d => d.parameters.length) = some 1 := by decide +kernel
abbrev rmX3_at : Room := ({ frames := 0, cells := 0, slots := 0, locals := 0 } : Room)
theorem hd_X3_at : yX3_at.cls = RX3 ∧ yX3_at.cls ≠ "java/lang/invoke/MethodHandle" ∧ yX3_at.cls ≠ "java/lang/invoke/VarHandle" ∧ (parseMethodDescriptor yX3_at.desc).map (fun d => d.parameters.length) = some 1 := by decide +kernel
abbrev rmX3_count : Room := ({ frames := 0, cells := 0, slots := 0, locals := 0 } : Room)
theorem hd_X3_count : yX3_count.cls = RX3 ∧ yX3_count.cls ≠ "java/lang/invoke/MethodHandle" ∧ yX3_count.cls ≠ "java/lang/invoke/VarHandle" ∧ (parseMethodDescriptor yX3_count.desc).map (fun d => d.parameters.length) = some 1 := by decide +kernel
abbrev rmX3_find : Room := ({ frames := 0, cells := 0, slots := 0, locals := 0 } : Room)
theorem hd_X3_find : yX3_find.cls = RX3 ∧ yX3_find.cls ≠ "java/lang/invoke/MethodHandle" ∧ yX3_find.cls ≠ "java/lang/invoke/VarHandle" ∧ (parseMethodDescriptor yX3_find.desc).map (fun d => d.parameters.length) = some 1 := by decide +kernel
abbrev rmX3_init : Room := ({ frames := 1, cells := 0, slots := 0, locals := 24 } : Room)
theorem hd_X3_init : yX3_init.cls = RX3 ∧ yX3_init.cls ≠ "java/lang/invoke/MethodHandle" ∧ yX3_init.cls ≠ "java/lang/invoke/VarHandle" ∧ (parseMethodDescriptor yX3_init.desc).map (fun d => d.parameters.length) = some 2 := by decide +kernel
abbrev rmX3_put : Room := ({ frames := 0, cells := 0, slots := 0, locals := 0 } : Room)
theorem hd_X3_put : yX3_put.cls = RX3 ∧ yX3_put.cls ≠ "java/lang/invoke/MethodHandle" ∧ yX3_put.cls ≠ "java/lang/invoke/VarHandle" ∧ (parseMethodDescriptor yX3_put.desc).map (fun d => d.parameters.length) = some 2 := by decide +kernel
abbrev rmX3_sum : Room := ({ frames := 0, cells := 0, slots := 0, locals := 0 } : Room)
theorem hd_X3_sum : yX3_sum.cls = RX3 ∧ yX3_sum.cls ≠ "java/lang/invoke/MethodHandle" ∧ yX3_sum.cls ≠ "java/lang/invoke/VarHandle" ∧ (parseMethodDescriptor yX3_sum.desc).map (fun d => d.parameters.length) = some 0 := by decide +kernel
abbrev rmX3_takeAll : Room := ({ frames := 1, cells := 0, slots := 0, locals := 60 } : Room)
theorem hd_X3_takeAll : yX3_takeAll.cls = RX3 ∧ yX3_takeAll.cls ≠ "java/lang/invoke/MethodHandle" ∧ yX3_takeAll.cls ≠ "java/lang/invoke/VarHandle" ∧ (parseMethodDescriptor yX3_takeAll.desc).map (fun d => d.parameters.length) = some 1 := by decide +kernel
abbrev rmX3_takeFront : Room := ({ frames := 1, cells := 0, slots := 0, locals := 22 } : Room)
theorem hd_X3_takeFront : yX3_takeFront.cls = RX3 ∧ yX3_takeFront.cls ≠ "java/lang/invoke/MethodHandle" ∧ yX3_takeFront.cls ≠ "java/lang/invoke/VarHandle" ∧ (parseMethodDescriptor yX3_takeFront.desc).map (fun d => d.parameters.length) = some 0 := by decide +kernel
abbrev rmX3_turn : Room := ({ frames := 1, cells := 0, slots := 0, locals := 22 } : Room)
theorem hd_X3_turn : yX3_turn.cls = RX3 ∧ yX3_turn.cls ≠ "java/lang/invoke/MethodHandle" ∧ yX3_turn.cls ≠ "java/lang/invoke/VarHandle" ∧ (parseMethodDescriptor yX3_turn.desc).map (fun d => d.parameters.length) = some 0 := by decide +kernel
abbrev rmX4_addBag : Room := ({ frames := 3, cells := 0, slots := 0, locals := 63 } : Room)
theorem hd_X4_addBag : yX4_addBag.cls = RX4 ∧ yX4_addBag.cls ≠ "java/lang/invoke/MethodHandle" ∧ yX4_addBag.cls ≠ "java/lang/invoke/VarHandle" ∧ (parseMethodDescriptor yX4_addBag.desc).map (fun d => d.parameters.length) = some 2 := by decide +kernel
abbrev rmX4_addChute : Room := ({ frames := 4, cells := 0, slots := 0, locals := 86 } : Room)
theorem hd_X4_addChute : yX4_addChute.cls = RX4 ∧ yX4_addChute.cls ≠ "java/lang/invoke/MethodHandle" ∧ yX4_addChute.cls ≠ "java/lang/invoke/VarHandle" ∧ (parseMethodDescriptor yX4_addChute.desc).map (fun d => d.parameters.length) = some 2 := by decide +kernel
abbrev rmX4_addFlight : Room := ({ frames := 6, cells := 0, slots := 0, locals := 100 } : Room)
theorem hd_X4_addFlight : yX4_addFlight.cls = RX4 ∧ yX4_addFlight.cls ≠ "java/lang/invoke/MethodHandle" ∧ yX4_addFlight.cls ≠ "java/lang/invoke/VarHandle" ∧ (parseMethodDescriptor yX4_addFlight.desc).map (fun d => d.parameters.length) = some 0 := by decide +kernel
abbrev rmX4_addHall : Room := ({ frames := 1, cells := 0, slots := 0, locals := 26 } : Room)
theorem hd_X4_addHall : yX4_addHall.cls = RX4 ∧ yX4_addHall.cls ≠ "java/lang/invoke/MethodHandle" ∧ yX4_addHall.cls ≠ "java/lang/invoke/VarHandle" ∧ (parseMethodDescriptor yX4_addHall.desc).map (fun d => d.parameters.length) = some 1 := by decide +kernel
abbrev rmX4_addNumber : Room := ({ frames := 0, cells := 0, slots := 0, locals := 0 } : Room)
theorem hd_X4_addNumber : yX4_addNumber.cls ≠ "java/lang/invoke/MethodHandle" ∧ yX4_addNumber.cls ≠ "java/lang/invoke/VarHandle" ∧ (parseMethodDescriptor yX4_addNumber.desc).map (fun d => d.parameters.length) = some 2 := by decide +kernel
abbrev rmX4_addOfFlight : Room := ({ frames := 5, cells := 0, slots := 0, locals := 107 } : Room)
theorem hd_X4_addOfFlight : yX4_addOfFlight.cls = RX4 ∧ yX4_addOfFlight.cls ≠ "java/lang/invoke/MethodHandle" ∧ yX4_addOfFlight.cls ≠ "java/lang/invoke/VarHandle" ∧ (parseMethodDescriptor yX4_addOfFlight.desc).map (fun d => d.parameters.length) = some 2 := by decide +kernel
abbrev rmX4_atDesk : Room := ({ frames := 1, cells := 0, slots := 0, locals := 26 } : Room)
theorem hd_X4_atDesk : yX4_atDesk.cls = RX4 ∧ yX4_atDesk.cls ≠ "java/lang/invoke/MethodHandle" ∧ yX4_atDesk.cls ≠ "java/lang/invoke/VarHandle" ∧ (parseMethodDescriptor yX4_atDesk.desc).map (fun d => d.parameters.length) = some 0 := by decide +kernel
abbrev rmX4_bagAt : Room := ({ frames := 6, cells := 0, slots := 0, locals := 100 } : Room)
theorem hd_X4_bagAt : yX4_bagAt.cls = RX4 ∧ yX4_bagAt.cls ≠ "java/lang/invoke/MethodHandle" ∧ yX4_bagAt.cls ≠ "java/lang/invoke/VarHandle" ∧ (parseMethodDescriptor yX4_bagAt.desc).map (fun d => d.parameters.length) = some 1 := by decide +kernel
abbrev rmX4_bags : Room := ({ frames := 0, cells := 0, slots := 0, locals := 0 } : Room)
theorem hd_X4_bags : yX4_bags.cls = RX4 ∧ yX4_bags.cls ≠ "java/lang/invoke/MethodHandle" ∧ yX4_bags.cls ≠ "java/lang/invoke/VarHandle" ∧ (parseMethodDescriptor yX4_bags.desc).map (fun d => d.parameters.length) = some 0 := by decide +kernel
abbrev rmX4_bagsIn : Room := ({ frames := 7, cells := 0, slots := 0, locals := 120 } : Room)
theorem hd_X4_bagsIn : yX4_bagsIn.cls = RX4 ∧ yX4_bagsIn.cls ≠ "java/lang/invoke/MethodHandle" ∧ yX4_bagsIn.cls ≠ "java/lang/invoke/VarHandle" ∧ (parseMethodDescriptor yX4_bagsIn.desc).map (fun d => d.parameters.length) = some 1 := by decide +kernel
abbrev rmX4_bestChute : Room := ({ frames := 7, cells := 0, slots := 0, locals := 146 } : Room)
theorem hd_X4_bestChute : yX4_bestChute.cls = RX4 ∧ yX4_bestChute.cls ≠ "java/lang/invoke/MethodHandle" ∧ yX4_bestChute.cls ≠ "java/lang/invoke/VarHandle" ∧ (parseMethodDescriptor yX4_bestChute.desc).map (fun d => d.parameters.length) = some 2 := by decide +kernel
abbrev rmX4_carry : Room := ({ frames := 7, cells := 0, slots := 0, locals := 122 } : Room)
theorem hd_X4_carry : yX4_carry.cls = RX4 ∧ yX4_carry.cls ≠ "java/lang/invoke/MethodHandle" ∧ yX4_carry.cls ≠ "java/lang/invoke/VarHandle" ∧ (parseMethodDescriptor yX4_carry.desc).map (fun d => d.parameters.length) = some 1 := by decide +kernel
abbrev rmX4_checkIn : Room := ({ frames := 7, cells := 0, slots := 0, locals := 121 } : Room)
theorem hd_X4_checkIn : yX4_checkIn.cls = RX4 ∧ yX4_checkIn.cls ≠ "java/lang/invoke/MethodHandle" ∧ yX4_checkIn.cls ≠ "java/lang/invoke/VarHandle" ∧ (parseMethodDescriptor yX4_checkIn.desc).map (fun d => d.parameters.length) = some 3 := by decide +kernel
abbrev rmX4_chuteOf : Room := ({ frames := 7, cells := 0, slots := 0, locals := 121 } : Room)
theorem hd_X4_chuteOf : yX4_chuteOf.cls = RX4 ∧ yX4_chuteOf.cls ≠ "java/lang/invoke/MethodHandle" ∧ yX4_chuteOf.cls ≠ "java/lang/invoke/VarHandle" ∧ (parseMethodDescriptor yX4_chuteOf.desc).map (fun d => d.parameters.length) = some 1 := by decide +kernel
abbrev rmX4_chuteOfFlight : Room := ({ frames := 7, cells := 0, slots := 0, locals := 121 } : Room)
theorem hd_X4_chuteOfFlight : yX4_chuteOfFlight.cls = RX4 ∧ yX4_chuteOfFlight.cls ≠ "java/lang/invoke/MethodHandle" ∧ yX4_chuteOfFlight.cls ≠ "java/lang/invoke/VarHandle" ∧ (parseMethodDescriptor yX4_chuteOfFlight.desc).map (fun d => d.parameters.length) = some 1 := by decide +kernel
abbrev rmX4_closedFiles : Room := ({ frames := 1, cells := 0, slots := 0, locals := 26 } : Room)
theorem hd_X4_closedFiles : yX4_closedFiles.cls = RX4 ∧ yX4_closedFiles.cls ≠ "java/lang/invoke/MethodHandle" ∧ yX4_closedFiles.cls ≠ "java/lang/invoke/VarHandle" ∧ (parseMethodDescriptor yX4_closedFiles.desc).map (fun d => d.parameters.length) = some 0 := by decide +kernel
abbrev rmX4_depart : Room := ({ frames := 7, cells := 0, slots := 0, locals := 121 } : Room)
theorem hd_X4_depart : yX4_depart.cls = RX4 ∧ yX4_depart.cls ≠ "java/lang/invoke/MethodHandle" ∧ yX4_depart.cls ≠ "java/lang/invoke/VarHandle" ∧ (parseMethodDescriptor yX4_depart.desc).map (fun d => d.parameters.length) = some 1 := by decide +kernel
abbrev rmX4_digest : Room := ({ frames := 6, cells := 0, slots := 0, locals := 132 } : Room)
theorem hd_X4_digest : yX4_digest.cls = RX4 ∧ yX4_digest.cls ≠ "java/lang/invoke/MethodHandle" ∧ yX4_digest.cls ≠ "java/lang/invoke/VarHandle" ∧ (parseMethodDescriptor yX4_digest.desc).map (fun d => d.parameters.length) = some 0 := by decide +kernel
abbrev rmX4_flightOf : Room := ({ frames := 7, cells := 0, slots := 0, locals := 121 } : Room)
theorem hd_X4_flightOf : yX4_flightOf.cls = RX4 ∧ yX4_flightOf.cls ≠ "java/lang/invoke/MethodHandle" ∧ yX4_flightOf.cls ≠ "java/lang/invoke/VarHandle" ∧ (parseMethodDescriptor yX4_flightOf.desc).map (fun d => d.parameters.length) = some 1 := by decide +kernel
abbrev rmX4_flights : Room := ({ frames := 0, cells := 0, slots := 0, locals := 0 } : Room)
theorem hd_X4_flights : yX4_flights.cls = RX4 ∧ yX4_flights.cls ≠ "java/lang/invoke/MethodHandle" ∧ yX4_flights.cls ≠ "java/lang/invoke/VarHandle" ∧ (parseMethodDescriptor yX4_flights.desc).map (fun d => d.parameters.length) = some 0 := by decide +kernel
abbrev rmX4_forward : Room := ({ frames := 7, cells := 0, slots := 0, locals := 122 } : Room)
theorem hd_X4_forward : yX4_forward.cls = RX4 ∧ yX4_forward.cls ≠ "java/lang/invoke/MethodHandle" ∧ yX4_forward.cls ≠ "java/lang/invoke/VarHandle" ∧ (parseMethodDescriptor yX4_forward.desc).map (fun d => d.parameters.length) = some 2 := by decide +kernel
abbrev rmX4_giveChute : Room := ({ frames := 7, cells := 0, slots := 0, locals := 121 } : Room)
theorem hd_X4_giveChute : yX4_giveChute.cls = RX4 ∧ yX4_giveChute.cls ≠ "java/lang/invoke/MethodHandle" ∧ yX4_giveChute.cls ≠ "java/lang/invoke/VarHandle" ∧ (parseMethodDescriptor yX4_giveChute.desc).map (fun d => d.parameters.length) = some 2 := by decide +kernel
abbrev rmX4_hasOpenFile : Room := ({ frames := 7, cells := 0, slots := 0, locals := 121 } : Room)
theorem hd_X4_hasOpenFile : yX4_hasOpenFile.cls = RX4 ∧ yX4_hasOpenFile.cls ≠ "java/lang/invoke/MethodHandle" ∧ yX4_hasOpenFile.cls ≠ "java/lang/invoke/VarHandle" ∧ (parseMethodDescriptor yX4_hasOpenFile.desc).map (fun d => d.parameters.length) = some 1 := by decide +kernel
abbrev rmX4_inLine : Room := ({ frames := 1, cells := 0, slots := 0, locals := 26 } : Room)
theorem hd_X4_inLine : yX4_inLine.cls = RX4 ∧ yX4_inLine.cls ≠ "java/lang/invoke/MethodHandle" ∧ yX4_inLine.cls ≠ "java/lang/invoke/VarHandle" ∧ (parseMethodDescriptor yX4_inLine.desc).map (fun d => d.parameters.length) = some 0 := by decide +kernel
abbrev rmX4_init : Room := ({ frames := 4, cells := 0, slots := 0, locals := 86 } : Room)
theorem hd_X4_init : yX4_init.cls = RX4 ∧ yX4_init.cls ≠ "java/lang/invoke/MethodHandle" ∧ yX4_init.cls ≠ "java/lang/invoke/VarHandle" ∧ (parseMethodDescriptor yX4_init.desc).map (fun d => d.parameters.length) = some 0 := by decide +kernel
abbrev rmX4_isChute : Room := ({ frames := 0, cells := 0, slots := 0, locals := 0 } : Room)
theorem hd_X4_isChute : yX4_isChute.cls ≠ "java/lang/invoke/MethodHandle" ∧ yX4_isChute.cls ≠ "java/lang/invoke/VarHandle" ∧ (parseMethodDescriptor yX4_isChute.desc).map (fun d => d.parameters.length) = some 1 := by decide +kernel
abbrev rmX4_isGone : Room := ({ frames := 7, cells := 0, slots := 0, locals := 121 } : Room)
theorem hd_X4_isGone : yX4_isGone.cls = RX4 ∧ yX4_isGone.cls ≠ "java/lang/invoke/MethodHandle" ∧ yX4_isGone.cls ≠ "java/lang/invoke/VarHandle" ∧ (parseMethodDescriptor yX4_isGone.desc).map (fun d => d.parameters.length) = some 1 := by decide +kernel
abbrev rmX4_isMisrouted : Room := ({ frames := 7, cells := 0, slots := 0, locals := 121 } : Room)
theorem hd_X4_isMisrouted : yX4_isMisrouted.cls = RX4 ∧ yX4_isMisrouted.cls ≠ "java/lang/invoke/MethodHandle" ∧ yX4_isMisrouted.cls ≠ "java/lang/invoke/VarHandle" ∧ (parseMethodDescriptor yX4_isMisrouted.desc).map (fun d => d.parameters.length) = some 1 := by decide +kernel
abbrev rmX4_meanMisses : Room := ({ frames := 1, cells := 0, slots := 0, locals := 25 } : Room)
theorem hd_X4_meanMisses : yX4_meanMisses.cls = RX4 ∧ yX4_meanMisses.cls ≠ "java/lang/invoke/MethodHandle" ∧ yX4_meanMisses.cls ≠ "java/lang/invoke/VarHandle" ∧ (parseMethodDescriptor yX4_meanMisses.desc).map (fun d => d.parameters.length) = some 0 := by decide +kernel
abbrev rmX4_minute : Room := ({ frames := 0, cells := 0, slots := 0, locals := 0 } : Room)
theorem hd_X4_minute : yX4_minute.cls = RX4 ∧ yX4_minute.cls ≠ "java/lang/invoke/MethodHandle" ∧ yX4_minute.cls ≠ "java/lang/invoke/VarHandle" ∧ (parseMethodDescriptor yX4_minute.desc).map (fun d => d.parameters.length) = some 0 := by decide +kernel
abbrev rmX4_minutesUntilChute : Room := ({ frames := 7, cells := 0, slots := 0, locals := 123 } : Room)
theorem hd_X4_minutesUntilChute : yX4_minutesUntilChute.cls = RX4 ∧ yX4_minutesUntilChute.cls ≠ "java/lang/invoke/MethodHandle" ∧ yX4_minutesUntilChute.cls ≠ "java/lang/invoke/VarHandle" ∧ (parseMethodDescriptor yX4_minutesUntilChute.desc).map (fun d => d.parameters.length) = some 1 := by decide +kernel
abbrev rmX4_misroutedIn : Room := ({ frames := 7, cells := 0, slots := 0, locals := 120 } : Room)
theorem hd_X4_misroutedIn : yX4_misroutedIn.cls = RX4 ∧ yX4_misroutedIn.cls ≠ "java/lang/invoke/MethodHandle" ∧ yX4_misroutedIn.cls ≠ "java/lang/invoke/VarHandle" ∧ (parseMethodDescriptor yX4_misroutedIn.desc).map (fun d => d.parameters.length) = some 1 := by decide +kernel
abbrev rmX4_missesOf : Room := ({ frames := 7, cells := 0, slots := 0, locals := 121 } : Room)
theorem hd_X4_missesOf : yX4_missesOf.cls = RX4 ∧ yX4_missesOf.cls ≠ "java/lang/invoke/MethodHandle" ∧ yX4_missesOf.cls ≠ "java/lang/invoke/VarHandle" ∧ (parseMethodDescriptor yX4_missesOf.desc).map (fun d => d.parameters.length) = some 1 := by decide +kernel
abbrev rmX4_missingOf : Room := ({ frames := 7, cells := 0, slots := 0, locals := 121 } : Room)
theorem hd_X4_missingOf : yX4_missingOf.cls = RX4 ∧ yX4_missingOf.cls ≠ "java/lang/invoke/MethodHandle" ∧ yX4_missingOf.cls ≠ "java/lang/invoke/VarHandle" ∧ (parseMethodDescriptor yX4_missingOf.desc).map (fun d => d.parameters.length) = some 1 := by decide +kernel
abbrev rmX4_needBag : Room := ({ frames := 6, cells := 0, slots := 0, locals := 100 } : Room)
theorem hd_X4_needBag : yX4_needBag.cls = RX4 ∧ yX4_needBag.cls ≠ "java/lang/invoke/MethodHandle" ∧ yX4_needBag.cls ≠ "java/lang/invoke/VarHandle" ∧ (parseMethodDescriptor yX4_needBag.desc).map (fun d => d.parameters.length) = some 1 := by decide +kernel
abbrev rmX4_needChute : Room := ({ frames := 6, cells := 0, slots := 0, locals := 100 } : Room)
theorem hd_X4_needChute : yX4_needChute.cls ≠ "java/lang/invoke/MethodHandle" ∧ yX4_needChute.cls ≠ "java/lang/invoke/VarHandle" ∧ (parseMethodDescriptor yX4_needChute.desc).map (fun d => d.parameters.length) = some 1 := by decide +kernel
abbrev rmX4_needFlight : Room := ({ frames := 6, cells := 0, slots := 0, locals := 100 } : Room)
theorem hd_X4_needFlight : yX4_needFlight.cls = RX4 ∧ yX4_needFlight.cls ≠ "java/lang/invoke/MethodHandle" ∧ yX4_needFlight.cls ≠ "java/lang/invoke/VarHandle" ∧ (parseMethodDescriptor yX4_needFlight.desc).map (fun d => d.parameters.length) = some 1 := by decide +kernel
abbrev rmX4_needInHand : Room := ({ frames := 6, cells := 0, slots := 0, locals := 100 } : Room)
theorem hd_X4_needInHand : yX4_needInHand.cls = RX4 ∧ yX4_needInHand.cls ≠ "java/lang/invoke/MethodHandle" ∧ yX4_needInHand.cls ≠ "java/lang/invoke/VarHandle" ∧ (parseMethodDescriptor yX4_needInHand.desc).map (fun d => d.parameters.length) = some 1 := by decide +kernel
abbrev rmX4_needMinutes : Room := ({ frames := 6, cells := 0, slots := 0, locals := 100 } : Room)
theorem hd_X4_needMinutes : yX4_needMinutes.cls ≠ "java/lang/invoke/MethodHandle" ∧ yX4_needMinutes.cls ≠ "java/lang/invoke/VarHandle" ∧ (parseMethodDescriptor yX4_needMinutes.desc).map (fun d => d.parameters.length) = some 1 := by decide +kernel
abbrev rmX4_needNotGone : Room := ({ frames := 6, cells := 0, slots := 0, locals := 100 } : Room)
theorem hd_X4_needNotGone : yX4_needNotGone.cls = RX4 ∧ yX4_needNotGone.cls ≠ "java/lang/invoke/MethodHandle" ∧ yX4_needNotGone.cls ≠ "java/lang/invoke/VarHandle" ∧ (parseMethodDescriptor yX4_needNotGone.desc).map (fun d => d.parameters.length) = some 1 := by decide +kernel
abbrev rmX4_onBelt : Room := ({ frames := 1, cells := 0, slots := 0, locals := 26 } : Room)
theorem hd_X4_onBelt : yX4_onBelt.cls = RX4 ∧ yX4_onBelt.cls ≠ "java/lang/invoke/MethodHandle" ∧ yX4_onBelt.cls ≠ "java/lang/invoke/VarHandle" ∧ (parseMethodDescriptor yX4_onBelt.desc).map (fun d => d.parameters.length) = some 0 := by decide +kernel
abbrev rmX4_openFiles : Room := ({ frames := 1, cells := 0, slots := 0, locals := 26 } : Room)
theorem hd_X4_openFiles : yX4_openFiles.cls = RX4 ∧ yX4_openFiles.cls ≠ "java/lang/invoke/MethodHandle" ∧ yX4_openFiles.cls ≠ "java/lang/invoke/VarHandle" ∧ (parseMethodDescriptor yX4_openFiles.desc).map (fun d => d.parameters.length) = some 0 := by decide +kernel
abbrev rmX4_pass : Room := ({ frames := 7, cells := 0, slots := 0, locals := 120 } : Room)
theorem hd_X4_pass : yX4_pass.cls = RX4 ∧ yX4_pass.cls ≠ "java/lang/invoke/MethodHandle" ∧ yX4_pass.cls ≠ "java/lang/invoke/VarHandle" ∧ (parseMethodDescriptor yX4_pass.desc).map (fun d => d.parameters.length) = some 1 := by decide +kernel
abbrev rmX4_placeOf : Room := ({ frames := 7, cells := 0, slots := 0, locals := 121 } : Room)
theorem hd_X4_placeOf : yX4_placeOf.cls = RX4 ∧ yX4_placeOf.cls ≠ "java/lang/invoke/MethodHandle" ∧ yX4_placeOf.cls ≠ "java/lang/invoke/VarHandle" ∧ (parseMethodDescriptor yX4_placeOf.desc).map (fun d => d.parameters.length) = some 1 := by decide +kernel
abbrev rmX4_readFor : Room := ({ frames := 7, cells := 0, slots := 0, locals := 121 } : Room)
theorem hd_X4_readFor : yX4_readFor.cls = RX4 ∧ yX4_readFor.cls ≠ "java/lang/invoke/MethodHandle" ∧ yX4_readFor.cls ≠ "java/lang/invoke/VarHandle" ∧ (parseMethodDescriptor yX4_readFor.desc).map (fun d => d.parameters.length) = some 1 := by decide +kernel
abbrev rmX4_reader : Room := ({ frames := 0, cells := 0, slots := 0, locals := 0 } : Room)
theorem hd_X4_reader : yX4_reader.cls = RX4 ∧ yX4_reader.cls ≠ "java/lang/invoke/MethodHandle" ∧ yX4_reader.cls ≠ "java/lang/invoke/VarHandle" ∧ (parseMethodDescriptor yX4_reader.desc).map (fun d => d.parameters.length) = some 0 := by decide +kernel
abbrev rmX4_readyAfter : Room := ({ frames := 7, cells := 0, slots := 0, locals := 146 } : Room)
theorem hd_X4_readyAfter : yX4_readyAfter.cls = RX4 ∧ yX4_readyAfter.cls ≠ "java/lang/invoke/MethodHandle" ∧ yX4_readyAfter.cls ≠ "java/lang/invoke/VarHandle" ∧ (parseMethodDescriptor yX4_readyAfter.desc).map (fun d => d.parameters.length) = some 2 := by decide +kernel
abbrev rmX4_readyOf : Room := ({ frames := 7, cells := 0, slots := 0, locals := 121 } : Room)
theorem hd_X4_readyOf : yX4_readyOf.cls = RX4 ∧ yX4_readyOf.cls ≠ "java/lang/invoke/MethodHandle" ∧ yX4_readyOf.cls ≠ "java/lang/invoke/VarHandle" ∧ (parseMethodDescriptor yX4_readyOf.desc).map (fun d => d.parameters.length) = some 1 := by decide +kernel
abbrev rmX4_readyWithChute : Room := ({ frames := 5, cells := 0, slots := 0, locals := 123 } : Room)
theorem hd_X4_readyWithChute : yX4_readyWithChute.cls = RX4 ∧ yX4_readyWithChute.cls ≠ "java/lang/invoke/MethodHandle" ∧ yX4_readyWithChute.cls ≠ "java/lang/invoke/VarHandle" ∧ (parseMethodDescriptor yX4_readyWithChute.desc).map (fun d => d.parameters.length) = some 3 := by decide +kernel
abbrev rmX4_roomOf : Room := ({ frames := 7, cells := 0, slots := 0, locals := 120 } : Room)
theorem hd_X4_roomOf : yX4_roomOf.cls = RX4 ∧ yX4_roomOf.cls ≠ "java/lang/invoke/MethodHandle" ∧ yX4_roomOf.cls ≠ "java/lang/invoke/VarHandle" ∧ (parseMethodDescriptor yX4_roomOf.desc).map (fun d => d.parameters.length) = some 1 := by decide +kernel
abbrev rmX4_setReader : Room := ({ frames := 6, cells := 0, slots := 0, locals := 100 } : Room)
theorem hd_X4_setReader : yX4_setReader.cls = RX4 ∧ yX4_setReader.cls ≠ "java/lang/invoke/MethodHandle" ∧ yX4_setReader.cls ≠ "java/lang/invoke/VarHandle" ∧ (parseMethodDescriptor yX4_setReader.desc).map (fun d => d.parameters.length) = some 1 := by decide +kernel
abbrev rmX4_setRoom : Room := ({ frames := 7, cells := 0, slots := 0, locals := 120 } : Room)
theorem hd_X4_setRoom : yX4_setRoom.cls = RX4 ∧ yX4_setRoom.cls ≠ "java/lang/invoke/MethodHandle" ∧ yX4_setRoom.cls ≠ "java/lang/invoke/VarHandle" ∧ (parseMethodDescriptor yX4_setRoom.desc).map (fun d => d.parameters.length) = some 2 := by decide +kernel
abbrev rmX4_sweep : Room := ({ frames := 7, cells := 0, slots := 0, locals := 120 } : Room)
theorem hd_X4_sweep : yX4_sweep.cls = RX4 ∧ yX4_sweep.cls ≠ "java/lang/invoke/MethodHandle" ∧ yX4_sweep.cls ≠ "java/lang/invoke/VarHandle" ∧ (parseMethodDescriptor yX4_sweep.desc).map (fun d => d.parameters.length) = some 1 := by decide +kernel
abbrev rmX4_whereIs : Room := ({ frames := 7, cells := 0, slots := 0, locals := 121 } : Room)
theorem hd_X4_whereIs : yX4_whereIs.cls = RX4 ∧ yX4_whereIs.cls ≠ "java/lang/invoke/MethodHandle" ∧ yX4_whereIs.cls ≠ "java/lang/invoke/VarHandle" ∧ (parseMethodDescriptor yX4_whereIs.desc).map (fun d => d.parameters.length) = some 1 := by decide +kernel
abbrev rmX5_become : Room := ({ frames := 2, cells := 0, slots := 0, locals := 81 } : Room)
theorem hd_X5_become : yX5_become.cls = RX5 ∧ yX5_become.cls ≠ "java/lang/invoke/MethodHandle" ∧ yX5_become.cls ≠ "java/lang/invoke/VarHandle" ∧ (parseMethodDescriptor yX5_become.desc).map (fun d => d.parameters.length) = some 1 := by decide +kernel
abbrev rmX5_copy : Room := ({ frames := 1, cells := 0, slots := 0, locals := 60 } : Room)
theorem hd_X5_copy : yX5_copy.cls ≠ "java/lang/invoke/MethodHandle" ∧ yX5_copy.cls ≠ "java/lang/invoke/VarHandle" ∧ (parseMethodDescriptor yX5_copy.desc).map (fun d => d.parameters.length) = some 2 := by decide +kernel
abbrev rmX5_firstInLine : Room := ({ frames := 1, cells := 0, slots := 0, locals := 60 } : Room)
theorem hd_X5_firstInLine : yX5_firstInLine.cls = RX5 ∧ yX5_firstInLine.cls ≠ "java/lang/invoke/MethodHandle" ∧ yX5_firstInLine.cls ≠ "java/lang/invoke/VarHandle" ∧ (parseMethodDescriptor yX5_firstInLine.desc).map (fun d => d.parameters.length) = some 0 := by decide +kernel
abbrev rmX5_init : Room := ({ frames := 1, cells := 0, slots := 0, locals := 24 } : Room)
theorem hd_X5_init : yX5_init.cls = RX5 ∧ yX5_init.cls ≠ "java/lang/invoke/MethodHandle" ∧ yX5_init.cls ≠ "java/lang/invoke/VarHandle" ∧ (parseMethodDescriptor yX5_init.desc).map (fun d => d.parameters.length) = some 0 := by decide +kernel
abbrev rmX5_put : Room := ({ frames := 0, cells := 0, slots := 0, locals := 0 } : Room)
theorem hd_X5_put : yX5_put.cls = RX5 ∧ yX5_put.cls ≠ "java/lang/invoke/MethodHandle" ∧ yX5_put.cls ≠ "java/lang/invoke/VarHandle" ∧ (parseMethodDescriptor yX5_put.desc).map (fun d => d.parameters.length) = some 3 := by decide +kernel
abbrev rmX5_toChute : Room := ({ frames := 1, cells := 0, slots := 0, locals := 23 } : Room)
theorem hd_X5_toChute : yX5_toChute.cls = RX5 ∧ yX5_toChute.cls ≠ "java/lang/invoke/MethodHandle" ∧ yX5_toChute.cls ≠ "java/lang/invoke/VarHandle" ∧ (parseMethodDescriptor yX5_toChute.desc).map (fun d => d.parameters.length) = some 2 := by decide +kernel
abbrev rmX5_toLine : Room := ({ frames := 1, cells := 0, slots := 0, locals := 23 } : Room)
theorem hd_X5_toLine : yX5_toLine.cls = RX5 ∧ yX5_toLine.cls ≠ "java/lang/invoke/MethodHandle" ∧ yX5_toLine.cls ≠ "java/lang/invoke/VarHandle" ∧ (parseMethodDescriptor yX5_toLine.desc).map (fun d => d.parameters.length) = some 1 := by decide +kernel
abbrev rmX5_turnRound : Room := ({ frames := 1, cells := 0, slots := 0, locals := 60 } : Room)
theorem hd_X5_turnRound : yX5_turnRound.cls = RX5 ∧ yX5_turnRound.cls ≠ "java/lang/invoke/MethodHandle" ∧ yX5_turnRound.cls ≠ "java/lang/invoke/VarHandle" ∧ (parseMethodDescriptor yX5_turnRound.desc).map (fun d => d.parameters.length) = some 0 := by decide +kernel
abbrev rmX6_addFlight : Room := ({ frames := 1, cells := 0, slots := 0, locals := 21 } : Room)
theorem hd_X6_addFlight : yX6_addFlight.cls = RX6 ∧ yX6_addFlight.cls ≠ "java/lang/invoke/MethodHandle" ∧ yX6_addFlight.cls ≠ "java/lang/invoke/VarHandle" ∧ (parseMethodDescriptor yX6_addFlight.desc).map (fun d => d.parameters.length) = some 0 := by decide +kernel
abbrev rmX6_atDesk : Room := ({ frames := 1, cells := 0, slots := 0, locals := 23 } : Room)
theorem hd_X6_atDesk : yX6_atDesk.cls = RX6 ∧ yX6_atDesk.cls ≠ "java/lang/invoke/MethodHandle" ∧ yX6_atDesk.cls ≠ "java/lang/invoke/VarHandle" ∧ (parseMethodDescriptor yX6_atDesk.desc).map (fun d => d.parameters.length) = some 0 := by decide +kernel
abbrev rmX6_badIn : Room := ({ frames := 1, cells := 0, slots := 0, locals := 21 } : Room)
theorem hd_X6_badIn : yX6_badIn.cls = RX6 ∧ yX6_badIn.cls ≠ "java/lang/invoke/MethodHandle" ∧ yX6_badIn.cls ≠ "java/lang/invoke/VarHandle" ∧ (parseMethodDescriptor yX6_badIn.desc).map (fun d => d.parameters.length) = some 1 := by decide +kernel
abbrev rmX6_bagAt : Room := ({ frames := 1, cells := 0, slots := 0, locals := 22 } : Room)
theorem hd_X6_bagAt : yX6_bagAt.cls = RX6 ∧ yX6_bagAt.cls ≠ "java/lang/invoke/MethodHandle" ∧ yX6_bagAt.cls ≠ "java/lang/invoke/VarHandle" ∧ (parseMethodDescriptor yX6_bagAt.desc).map (fun d => d.parameters.length) = some 1 := by decide +kernel
abbrev rmX6_bags : Room := ({ frames := 1, cells := 0, slots := 0, locals := 21 } : Room)
theorem hd_X6_bags : yX6_bags.cls = RX6 ∧ yX6_bags.cls ≠ "java/lang/invoke/MethodHandle" ∧ yX6_bags.cls ≠ "java/lang/invoke/VarHandle" ∧ (parseMethodDescriptor yX6_bags.desc).map (fun d => d.parameters.length) = some 0 := by decide +kernel
abbrev rmX6_bagsIn : Room := ({ frames := 2, cells := 0, slots := 0, locals := 42 } : Room)
theorem hd_X6_bagsIn : yX6_bagsIn.cls = RX6 ∧ yX6_bagsIn.cls ≠ "java/lang/invoke/MethodHandle" ∧ yX6_bagsIn.cls ≠ "java/lang/invoke/VarHandle" ∧ (parseMethodDescriptor yX6_bagsIn.desc).map (fun d => d.parameters.length) = some 1 := by decide +kernel
abbrev rmX6_begin : Room := ({ frames := 2, cells := 0, slots := 0, locals := 44 } : Room)
theorem hd_X6_begin : yX6_begin.cls = RX6 ∧ yX6_begin.cls ≠ "java/lang/invoke/MethodHandle" ∧ yX6_begin.cls ≠ "java/lang/invoke/VarHandle" ∧ (parseMethodDescriptor yX6_begin.desc).map (fun d => d.parameters.length) = some 1 := by decide +kernel
abbrev rmX6_best : Room := ({ frames := 6, cells := 0, slots := 0, locals := 151 } : Room)
theorem hd_X6_best : yX6_best.cls = RX6 ∧ yX6_best.cls ≠ "java/lang/invoke/MethodHandle" ∧ yX6_best.cls ≠ "java/lang/invoke/VarHandle" ∧ (parseMethodDescriptor yX6_best.desc).map (fun d => d.parameters.length) = some 2 := by decide +kernel
abbrev rmX6_bestChute : Room := ({ frames := 7, cells := 0, slots := 0, locals := 178 } : Room)
theorem hd_X6_bestChute : yX6_bestChute.cls = RX6 ∧ yX6_bestChute.cls ≠ "java/lang/invoke/MethodHandle" ∧ yX6_bestChute.cls ≠ "java/lang/invoke/VarHandle" ∧ (parseMethodDescriptor yX6_bestChute.desc).map (fun d => d.parameters.length) = some 2 := by decide +kernel
abbrev rmX6_carry : Room := ({ frames := 2, cells := 0, slots := 0, locals := 45 } : Room)
theorem hd_X6_carry : yX6_carry.cls = RX6 ∧ yX6_carry.cls ≠ "java/lang/invoke/MethodHandle" ∧ yX6_carry.cls ≠ "java/lang/invoke/VarHandle" ∧ (parseMethodDescriptor yX6_carry.desc).map (fun d => d.parameters.length) = some 1 := by decide +kernel
abbrev rmX6_checkIn : Room := ({ frames := 3, cells := 0, slots := 0, locals := 65 } : Room)
theorem hd_X6_checkIn : yX6_checkIn.cls = RX6 ∧ yX6_checkIn.cls ≠ "java/lang/invoke/MethodHandle" ∧ yX6_checkIn.cls ≠ "java/lang/invoke/VarHandle" ∧ (parseMethodDescriptor yX6_checkIn.desc).map (fun d => d.parameters.length) = some 3 := by decide +kernel
abbrev rmX6_chuteOf : Room := ({ frames := 2, cells := 0, slots := 0, locals := 43 } : Room)
theorem hd_X6_chuteOf : yX6_chuteOf.cls = RX6 ∧ yX6_chuteOf.cls ≠ "java/lang/invoke/MethodHandle" ∧ yX6_chuteOf.cls ≠ "java/lang/invoke/VarHandle" ∧ (parseMethodDescriptor yX6_chuteOf.desc).map (fun d => d.parameters.length) = some 1 := by decide +kernel
abbrev rmX6_chuteOfFlight : Room := ({ frames := 2, cells := 0, slots := 0, locals := 43 } : Room)
theorem hd_X6_chuteOfFlight : yX6_chuteOfFlight.cls = RX6 ∧ yX6_chuteOfFlight.cls ≠ "java/lang/invoke/MethodHandle" ∧ yX6_chuteOfFlight.cls ≠ "java/lang/invoke/VarHandle" ∧ (parseMethodDescriptor yX6_chuteOfFlight.desc).map (fun d => d.parameters.length) = some 1 := by decide +kernel
abbrev rmX6_close : Room := ({ frames := 0, cells := 0, slots := 0, locals := 0 } : Room)
theorem hd_X6_close : yX6_close.cls = RX6 ∧ yX6_close.cls ≠ "java/lang/invoke/MethodHandle" ∧ yX6_close.cls ≠ "java/lang/invoke/VarHandle" ∧ (parseMethodDescriptor yX6_close.desc).map (fun d => d.parameters.length) = some 1 := by decide +kernel
abbrev rmX6_closedFiles : Room := ({ frames := 1, cells := 0, slots := 0, locals := 23 } : Room)
theorem hd_X6_closedFiles : yX6_closedFiles.cls = RX6 ∧ yX6_closedFiles.cls ≠ "java/lang/invoke/MethodHandle" ∧ yX6_closedFiles.cls ≠ "java/lang/invoke/VarHandle" ∧ (parseMethodDescriptor yX6_closedFiles.desc).map (fun d => d.parameters.length) = some 0 := by decide +kernel
abbrev rmX6_counted : Room := ({ frames := 0, cells := 0, slots := 0, locals := 0 } : Room)
theorem hd_X6_counted : yX6_counted.cls = RX6 ∧ yX6_counted.cls ≠ "java/lang/invoke/MethodHandle" ∧ yX6_counted.cls ≠ "java/lang/invoke/VarHandle" ∧ (parseMethodDescriptor yX6_counted.desc).map (fun d => d.parameters.length) = some 1 := by decide +kernel
abbrev rmX6_depart : Room := ({ frames := 2, cells := 0, slots := 0, locals := 43 } : Room)
theorem hd_X6_depart : yX6_depart.cls = RX6 ∧ yX6_depart.cls ≠ "java/lang/invoke/MethodHandle" ∧ yX6_depart.cls ≠ "java/lang/invoke/VarHandle" ∧ (parseMethodDescriptor yX6_depart.desc).map (fun d => d.parameters.length) = some 1 := by decide +kernel
abbrev rmX6_digest : Room := ({ frames := 2, cells := 0, slots := 0, locals := 47 } : Room)
theorem hd_X6_digest : yX6_digest.cls = RX6 ∧ yX6_digest.cls ≠ "java/lang/invoke/MethodHandle" ∧ yX6_digest.cls ≠ "java/lang/invoke/VarHandle" ∧ (parseMethodDescriptor yX6_digest.desc).map (fun d => d.parameters.length) = some 0 := by decide +kernel
abbrev rmX6_files : Room := ({ frames := 0, cells := 0, slots := 0, locals := 0 } : Room)
theorem hd_X6_files : yX6_files.cls = RX6 ∧ yX6_files.cls ≠ "java/lang/invoke/MethodHandle" ∧ yX6_files.cls ≠ "java/lang/invoke/VarHandle" ∧ (parseMethodDescriptor yX6_files.desc).map (fun d => d.parameters.length) = some 1 := by decide +kernel
abbrev rmX6_flightOf : Room := ({ frames := 2, cells := 0, slots := 0, locals := 43 } : Room)
theorem hd_X6_flightOf : yX6_flightOf.cls = RX6 ∧ yX6_flightOf.cls ≠ "java/lang/invoke/MethodHandle" ∧ yX6_flightOf.cls ≠ "java/lang/invoke/VarHandle" ∧ (parseMethodDescriptor yX6_flightOf.desc).map (fun d => d.parameters.length) = some 1 := by decide +kernel
abbrev rmX6_flights : Room := ({ frames := 1, cells := 0, slots := 0, locals := 21 } : Room)
theorem hd_X6_flights : yX6_flights.cls = RX6 ∧ yX6_flights.cls ≠ "java/lang/invoke/MethodHandle" ∧ yX6_flights.cls ≠ "java/lang/invoke/VarHandle" ∧ (parseMethodDescriptor yX6_flights.desc).map (fun d => d.parameters.length) = some 0 := by decide +kernel
abbrev rmX6_forward : Room := ({ frames := 3, cells := 0, slots := 0, locals := 65 } : Room)
theorem hd_X6_forward : yX6_forward.cls = RX6 ∧ yX6_forward.cls ≠ "java/lang/invoke/MethodHandle" ∧ yX6_forward.cls ≠ "java/lang/invoke/VarHandle" ∧ (parseMethodDescriptor yX6_forward.desc).map (fun d => d.parameters.length) = some 2 := by decide +kernel
abbrev rmX6_giveChute : Room := ({ frames := 2, cells := 0, slots := 0, locals := 43 } : Room)
theorem hd_X6_giveChute : yX6_giveChute.cls = RX6 ∧ yX6_giveChute.cls ≠ "java/lang/invoke/MethodHandle" ∧ yX6_giveChute.cls ≠ "java/lang/invoke/VarHandle" ∧ (parseMethodDescriptor yX6_giveChute.desc).map (fun d => d.parameters.length) = some 2 := by decide +kernel
abbrev rmX6_hasOpenFile : Room := ({ frames := 2, cells := 0, slots := 0, locals := 43 } : Room)
theorem hd_X6_hasOpenFile : yX6_hasOpenFile.cls = RX6 ∧ yX6_hasOpenFile.cls ≠ "java/lang/invoke/MethodHandle" ∧ yX6_hasOpenFile.cls ≠ "java/lang/invoke/VarHandle" ∧ (parseMethodDescriptor yX6_hasOpenFile.desc).map (fun d => d.parameters.length) = some 1 := by decide +kernel
abbrev rmX6_inLine : Room := ({ frames := 1, cells := 0, slots := 0, locals := 21 } : Room)
theorem hd_X6_inLine : yX6_inLine.cls = RX6 ∧ yX6_inLine.cls ≠ "java/lang/invoke/MethodHandle" ∧ yX6_inLine.cls ≠ "java/lang/invoke/VarHandle" ∧ (parseMethodDescriptor yX6_inLine.desc).map (fun d => d.parameters.length) = some 0 := by decide +kernel
abbrev rmX6_init : Room := ({ frames := 2, cells := 0, slots := 0, locals := 45 } : Room)
theorem hd_X6_init : yX6_init.cls = RX6 ∧ yX6_init.cls ≠ "java/lang/invoke/MethodHandle" ∧ yX6_init.cls ≠ "java/lang/invoke/VarHandle" ∧ (parseMethodDescriptor yX6_init.desc).map (fun d => d.parameters.length) = some 0 := by decide +kernel
abbrev rmX6_isAside : Room := ({ frames := 0, cells := 0, slots := 0, locals := 0 } : Room)
theorem hd_X6_isAside : yX6_isAside.cls = RX6 ∧ yX6_isAside.cls ≠ "java/lang/invoke/MethodHandle" ∧ yX6_isAside.cls ≠ "java/lang/invoke/VarHandle" ∧ (parseMethodDescriptor yX6_isAside.desc).map (fun d => d.parameters.length) = some 1 := by decide +kernel
abbrev rmX6_isBag : Room := ({ frames := 1, cells := 0, slots := 0, locals := 22 } : Room)
theorem hd_X6_isBag : yX6_isBag.cls = RX6 ∧ yX6_isBag.cls ≠ "java/lang/invoke/MethodHandle" ∧ yX6_isBag.cls ≠ "java/lang/invoke/VarHandle" ∧ (parseMethodDescriptor yX6_isBag.desc).map (fun d => d.parameters.length) = some 1 := by decide +kernel
abbrev rmX6_isChute : Room := ({ frames := 1, cells := 0, slots := 0, locals := 22 } : Room)
theorem hd_X6_isChute : yX6_isChute.cls ≠ "java/lang/invoke/MethodHandle" ∧ yX6_isChute.cls ≠ "java/lang/invoke/VarHandle" ∧ (parseMethodDescriptor yX6_isChute.desc).map (fun d => d.parameters.length) = some 1 := by decide +kernel
abbrev rmX6_isFlight : Room := ({ frames := 1, cells := 0, slots := 0, locals := 22 } : Room)
theorem hd_X6_isFlight : yX6_isFlight.cls = RX6 ∧ yX6_isFlight.cls ≠ "java/lang/invoke/MethodHandle" ∧ yX6_isFlight.cls ≠ "java/lang/invoke/VarHandle" ∧ (parseMethodDescriptor yX6_isFlight.desc).map (fun d => d.parameters.length) = some 1 := by decide +kernel
abbrev rmX6_isGone : Room := ({ frames := 2, cells := 0, slots := 0, locals := 43 } : Room)
theorem hd_X6_isGone : yX6_isGone.cls = RX6 ∧ yX6_isGone.cls ≠ "java/lang/invoke/MethodHandle" ∧ yX6_isGone.cls ≠ "java/lang/invoke/VarHandle" ∧ (parseMethodDescriptor yX6_isGone.desc).map (fun d => d.parameters.length) = some 1 := by decide +kernel
abbrev rmX6_isIn : Room := ({ frames := 0, cells := 0, slots := 0, locals := 0 } : Room)
theorem hd_X6_isIn : yX6_isIn.cls ≠ "java/lang/invoke/MethodHandle" ∧ yX6_isIn.cls ≠ "java/lang/invoke/VarHandle" ∧ (parseMethodDescriptor yX6_isIn.desc).map (fun d => d.parameters.length) = some 3 := by decide +kernel
abbrev rmX6_isInItsChute : Room := ({ frames := 0, cells := 0, slots := 0, locals := 0 } : Room)
theorem hd_X6_isInItsChute : yX6_isInItsChute.cls = RX6 ∧ yX6_isInItsChute.cls ≠ "java/lang/invoke/MethodHandle" ∧ yX6_isInItsChute.cls ≠ "java/lang/invoke/VarHandle" ∧ (parseMethodDescriptor yX6_isInItsChute.desc).map (fun d => d.parameters.length) = some 1 := by decide +kernel
abbrev rmX6_isMisrouted : Room := ({ frames := 2, cells := 0, slots := 0, locals := 43 } : Room)
theorem hd_X6_isMisrouted : yX6_isMisrouted.cls = RX6 ∧ yX6_isMisrouted.cls ≠ "java/lang/invoke/MethodHandle" ∧ yX6_isMisrouted.cls ≠ "java/lang/invoke/VarHandle" ∧ (parseMethodDescriptor yX6_isMisrouted.desc).map (fun d => d.parameters.length) = some 1 := by decide +kernel
abbrev rmX6_isNot : Room := ({ frames := 0, cells := 0, slots := 0, locals := 0 } : Room)
theorem hd_X6_isNot : yX6_isNot.cls = RX6 ∧ yX6_isNot.cls ≠ "java/lang/invoke/MethodHandle" ∧ yX6_isNot.cls ≠ "java/lang/invoke/VarHandle" ∧ (parseMethodDescriptor yX6_isNot.desc).map (fun d => d.parameters.length) = some 1 := by decide +kernel
abbrev rmX6_meanMisses : Room := ({ frames := 0, cells := 0, slots := 0, locals := 0 } : Room)
theorem hd_X6_meanMisses : yX6_meanMisses.cls = RX6 ∧ yX6_meanMisses.cls ≠ "java/lang/invoke/MethodHandle" ∧ yX6_meanMisses.cls ≠ "java/lang/invoke/VarHandle" ∧ (parseMethodDescriptor yX6_meanMisses.desc).map (fun d => d.parameters.length) = some 0 := by decide +kernel
abbrev rmX6_minute : Room := ({ frames := 1, cells := 0, slots := 0, locals := 21 } : Room)
theorem hd_X6_minute : yX6_minute.cls = RX6 ∧ yX6_minute.cls ≠ "java/lang/invoke/MethodHandle" ∧ yX6_minute.cls ≠ "java/lang/invoke/VarHandle" ∧ (parseMethodDescriptor yX6_minute.desc).map (fun d => d.parameters.length) = some 0 := by decide +kernel
abbrev rmX6_minuteOn : Room := ({ frames := 3, cells := 0, slots := 0, locals := 82 } : Room)
theorem hd_X6_minuteOn : yX6_minuteOn.cls = RX6 ∧ yX6_minuteOn.cls ≠ "java/lang/invoke/MethodHandle" ∧ yX6_minuteOn.cls ≠ "java/lang/invoke/VarHandle" ∧ (parseMethodDescriptor yX6_minuteOn.desc).map (fun d => d.parameters.length) = some 1 := by decide +kernel
abbrev rmX6_minutesOn : Room := ({ frames := 4, cells := 0, slots := 0, locals := 105 } : Room)
theorem hd_X6_minutesOn : yX6_minutesOn.cls = RX6 ∧ yX6_minutesOn.cls ≠ "java/lang/invoke/MethodHandle" ∧ yX6_minutesOn.cls ≠ "java/lang/invoke/VarHandle" ∧ (parseMethodDescriptor yX6_minutesOn.desc).map (fun d => d.parameters.length) = some 2 := by decide +kernel
abbrev rmX6_minutesUntilChute : Room := ({ frames := 5, cells := 0, slots := 0, locals := 127 } : Room)
theorem hd_X6_minutesUntilChute : yX6_minutesUntilChute.cls = RX6 ∧ yX6_minutesUntilChute.cls ≠ "java/lang/invoke/MethodHandle" ∧ yX6_minutesUntilChute.cls ≠ "java/lang/invoke/VarHandle" ∧ (parseMethodDescriptor yX6_minutesUntilChute.desc).map (fun d => d.parameters.length) = some 1 := by decide +kernel
abbrev rmX6_misrouted : Room := ({ frames := 0, cells := 0, slots := 0, locals := 0 } : Room)
theorem hd_X6_misrouted : yX6_misrouted.cls = RX6 ∧ yX6_misrouted.cls ≠ "java/lang/invoke/MethodHandle" ∧ yX6_misrouted.cls ≠ "java/lang/invoke/VarHandle" ∧ (parseMethodDescriptor yX6_misrouted.desc).map (fun d => d.parameters.length) = some 1 := by decide +kernel
abbrev rmX6_misroutedIn : Room := ({ frames := 2, cells := 0, slots := 0, locals := 44 } : Room)
theorem hd_X6_misroutedIn : yX6_misroutedIn.cls = RX6 ∧ yX6_misroutedIn.cls ≠ "java/lang/invoke/MethodHandle" ∧ yX6_misroutedIn.cls ≠ "java/lang/invoke/VarHandle" ∧ (parseMethodDescriptor yX6_misroutedIn.desc).map (fun d => d.parameters.length) = some 1 := by decide +kernel
abbrev rmX6_missesOf : Room := ({ frames := 2, cells := 0, slots := 0, locals := 43 } : Room)
theorem hd_X6_missesOf : yX6_missesOf.cls = RX6 ∧ yX6_missesOf.cls ≠ "java/lang/invoke/MethodHandle" ∧ yX6_missesOf.cls ≠ "java/lang/invoke/VarHandle" ∧ (parseMethodDescriptor yX6_missesOf.desc).map (fun d => d.parameters.length) = some 1 := by decide +kernel
abbrev rmX6_missing : Room := ({ frames := 1, cells := 0, slots := 0, locals := 24 } : Room)
theorem hd_X6_missing : yX6_missing.cls = RX6 ∧ yX6_missing.cls ≠ "java/lang/invoke/MethodHandle" ∧ yX6_missing.cls ≠ "java/lang/invoke/VarHandle" ∧ (parseMethodDescriptor yX6_missing.desc).map (fun d => d.parameters.length) = some 1 := by decide +kernel
abbrev rmX6_missingOf : Room := ({ frames := 2, cells := 0, slots := 0, locals := 47 } : Room)
theorem hd_X6_missingOf : yX6_missingOf.cls = RX6 ∧ yX6_missingOf.cls ≠ "java/lang/invoke/MethodHandle" ∧ yX6_missingOf.cls ≠ "java/lang/invoke/VarHandle" ∧ (parseMethodDescriptor yX6_missingOf.desc).map (fun d => d.parameters.length) = some 1 := by decide +kernel
abbrev rmX6_no : Room := ({ frames := 0, cells := 0, slots := 0, locals := 0 } : Room)
theorem hd_X6_no : yX6_no.cls = RX6 ∧ yX6_no.cls ≠ "java/lang/invoke/MethodHandle" ∧ yX6_no.cls ≠ "java/lang/invoke/VarHandle" ∧ (parseMethodDescriptor yX6_no.desc).map (fun d => d.parameters.length) = some 1 := by decide +kernel
abbrev rmX6_ok : Room := ({ frames := 0, cells := 0, slots := 0, locals := 0 } : Room)
theorem hd_X6_ok : yX6_ok.cls = RX6 ∧ yX6_ok.cls ≠ "java/lang/invoke/MethodHandle" ∧ yX6_ok.cls ≠ "java/lang/invoke/VarHandle" ∧ (parseMethodDescriptor yX6_ok.desc).map (fun d => d.parameters.length) = some 1 := by decide +kernel
abbrev rmX6_on : Room := ({ frames := 0, cells := 0, slots := 0, locals := 0 } : Room)
theorem hd_X6_on : yX6_on.cls ≠ "java/lang/invoke/MethodHandle" ∧ yX6_on.cls ≠ "java/lang/invoke/VarHandle" ∧ (parseMethodDescriptor yX6_on.desc).map (fun d => d.parameters.length) = some 2 := by decide +kernel
abbrev rmX6_onBelt : Room := ({ frames := 1, cells := 0, slots := 0, locals := 23 } : Room)
theorem hd_X6_onBelt : yX6_onBelt.cls = RX6 ∧ yX6_onBelt.cls ≠ "java/lang/invoke/MethodHandle" ∧ yX6_onBelt.cls ≠ "java/lang/invoke/VarHandle" ∧ (parseMethodDescriptor yX6_onBelt.desc).map (fun d => d.parameters.length) = some 0 := by decide +kernel
abbrev rmX6_one : Room := ({ frames := 0, cells := 0, slots := 0, locals := 0 } : Room)
theorem hd_X6_one : yX6_one.cls ≠ "java/lang/invoke/MethodHandle" ∧ yX6_one.cls ≠ "java/lang/invoke/VarHandle" ∧ (parseMethodDescriptor yX6_one.desc).map (fun d => d.parameters.length) = some 1 := by decide +kernel
abbrev rmX6_openFiles : Room := ({ frames := 1, cells := 0, slots := 0, locals := 23 } : Room)
theorem hd_X6_openFiles : yX6_openFiles.cls = RX6 ∧ yX6_openFiles.cls ≠ "java/lang/invoke/MethodHandle" ∧ yX6_openFiles.cls ≠ "java/lang/invoke/VarHandle" ∧ (parseMethodDescriptor yX6_openFiles.desc).map (fun d => d.parameters.length) = some 0 := by decide +kernel
abbrev rmX6_pass : Room := ({ frames := 5, cells := 0, slots := 0, locals := 129 } : Room)
theorem hd_X6_pass : yX6_pass.cls = RX6 ∧ yX6_pass.cls ≠ "java/lang/invoke/MethodHandle" ∧ yX6_pass.cls ≠ "java/lang/invoke/VarHandle" ∧ (parseMethodDescriptor yX6_pass.desc).map (fun d => d.parameters.length) = some 1 := by decide +kernel
abbrev rmX6_placeOf : Room := ({ frames := 2, cells := 0, slots := 0, locals := 43 } : Room)
theorem hd_X6_placeOf : yX6_placeOf.cls = RX6 ∧ yX6_placeOf.cls ≠ "java/lang/invoke/MethodHandle" ∧ yX6_placeOf.cls ≠ "java/lang/invoke/VarHandle" ∧ (parseMethodDescriptor yX6_placeOf.desc).map (fun d => d.parameters.length) = some 1 := by decide +kernel
abbrev rmX6_placed : Room := ({ frames := 0, cells := 0, slots := 0, locals := 0 } : Room)
theorem hd_X6_placed : yX6_placed.cls = RX6 ∧ yX6_placed.cls ≠ "java/lang/invoke/MethodHandle" ∧ yX6_placed.cls ≠ "java/lang/invoke/VarHandle" ∧ (parseMethodDescriptor yX6_placed.desc).map (fun d => d.parameters.length) = some 2 := by decide +kernel
abbrev rmX6_readAt : Room := ({ frames := 1, cells := 0, slots := 0, locals := 23 } : Room)
theorem hd_X6_readAt : yX6_readAt.cls = RX6 ∧ yX6_readAt.cls ≠ "java/lang/invoke/MethodHandle" ∧ yX6_readAt.cls ≠ "java/lang/invoke/VarHandle" ∧ (parseMethodDescriptor yX6_readAt.desc).map (fun d => d.parameters.length) = some 1 := by decide +kernel
abbrev rmX6_readFor : Room := ({ frames := 2, cells := 0, slots := 0, locals := 43 } : Room)
theorem hd_X6_readFor : yX6_readFor.cls = RX6 ∧ yX6_readFor.cls ≠ "java/lang/invoke/MethodHandle" ∧ yX6_readFor.cls ≠ "java/lang/invoke/VarHandle" ∧ (parseMethodDescriptor yX6_readFor.desc).map (fun d => d.parameters.length) = some 1 := by decide +kernel
abbrev rmX6_reader : Room := ({ frames := 1, cells := 0, slots := 0, locals := 21 } : Room)
theorem hd_X6_reader : yX6_reader.cls = RX6 ∧ yX6_reader.cls ≠ "java/lang/invoke/MethodHandle" ∧ yX6_reader.cls ≠ "java/lang/invoke/VarHandle" ∧ (parseMethodDescriptor yX6_reader.desc).map (fun d => d.parameters.length) = some 0 := by decide +kernel
abbrev rmX6_readyAfter : Room := ({ frames := 6, cells := 0, slots := 0, locals := 151 } : Room)
theorem hd_X6_readyAfter : yX6_readyAfter.cls = RX6 ∧ yX6_readyAfter.cls ≠ "java/lang/invoke/MethodHandle" ∧ yX6_readyAfter.cls ≠ "java/lang/invoke/VarHandle" ∧ (parseMethodDescriptor yX6_readyAfter.desc).map (fun d => d.parameters.length) = some 2 := by decide +kernel
abbrev rmX6_readyBehind : Room := ({ frames := 5, cells := 0, slots := 0, locals := 129 } : Room)
theorem hd_X6_readyBehind : yX6_readyBehind.cls = RX6 ∧ yX6_readyBehind.cls ≠ "java/lang/invoke/MethodHandle" ∧ yX6_readyBehind.cls ≠ "java/lang/invoke/VarHandle" ∧ (parseMethodDescriptor yX6_readyBehind.desc).map (fun d => d.parameters.length) = some 2 := by decide +kernel
abbrev rmX6_readyIn : Room := ({ frames := 0, cells := 0, slots := 0, locals := 0 } : Room)
theorem hd_X6_readyIn : yX6_readyIn.cls = RX6 ∧ yX6_readyIn.cls ≠ "java/lang/invoke/MethodHandle" ∧ yX6_readyIn.cls ≠ "java/lang/invoke/VarHandle" ∧ (parseMethodDescriptor yX6_readyIn.desc).map (fun d => d.parameters.length) = some 2 := by decide +kernel
abbrev rmX6_readyOf : Room := ({ frames := 2, cells := 0, slots := 0, locals := 43 } : Room)
theorem hd_X6_readyOf : yX6_readyOf.cls = RX6 ∧ yX6_readyOf.cls ≠ "java/lang/invoke/MethodHandle" ∧ yX6_readyOf.cls ≠ "java/lang/invoke/VarHandle" ∧ (parseMethodDescriptor yX6_readyOf.desc).map (fun d => d.parameters.length) = some 1 := by decide +kernel
abbrev rmX6_roomOf : Room := ({ frames := 2, cells := 0, slots := 0, locals := 42 } : Room)
theorem hd_X6_roomOf : yX6_roomOf.cls = RX6 ∧ yX6_roomOf.cls ≠ "java/lang/invoke/MethodHandle" ∧ yX6_roomOf.cls ≠ "java/lang/invoke/VarHandle" ∧ (parseMethodDescriptor yX6_roomOf.desc).map (fun d => d.parameters.length) = some 1 := by decide +kernel
abbrev rmX6_setReader : Room := ({ frames := 1, cells := 0, slots := 0, locals := 22 } : Room)
theorem hd_X6_setReader : yX6_setReader.cls = RX6 ∧ yX6_setReader.cls ≠ "java/lang/invoke/MethodHandle" ∧ yX6_setReader.cls ≠ "java/lang/invoke/VarHandle" ∧ (parseMethodDescriptor yX6_setReader.desc).map (fun d => d.parameters.length) = some 1 := by decide +kernel
abbrev rmX6_setRoom : Room := ({ frames := 2, cells := 0, slots := 0, locals := 42 } : Room)
theorem hd_X6_setRoom : yX6_setRoom.cls = RX6 ∧ yX6_setRoom.cls ≠ "java/lang/invoke/MethodHandle" ∧ yX6_setRoom.cls ≠ "java/lang/invoke/VarHandle" ∧ (parseMethodDescriptor yX6_setRoom.desc).map (fun d => d.parameters.length) = some 2 := by decide +kernel
abbrev rmX6_slide : Room := ({ frames := 2, cells := 0, slots := 0, locals := 45 } : Room)
theorem hd_X6_slide : yX6_slide.cls = RX6 ∧ yX6_slide.cls ≠ "java/lang/invoke/MethodHandle" ∧ yX6_slide.cls ≠ "java/lang/invoke/VarHandle" ∧ (parseMethodDescriptor yX6_slide.desc).map (fun d => d.parameters.length) = some 2 := by decide +kernel
abbrev rmX6_sweep : Room := ({ frames := 2, cells := 0, slots := 0, locals := 42 } : Room)
theorem hd_X6_sweep : yX6_sweep.cls = RX6 ∧ yX6_sweep.cls ≠ "java/lang/invoke/MethodHandle" ∧ yX6_sweep.cls ≠ "java/lang/invoke/VarHandle" ∧ (parseMethodDescriptor yX6_sweep.desc).map (fun d => d.parameters.length) = some 1 := by decide +kernel
abbrev rmX6_thrown : Room := ({ frames := 0, cells := 0, slots := 0, locals := 0 } : Room)
theorem hd_X6_thrown : yX6_thrown.cls = RX6 ∧ yX6_thrown.cls ≠ "java/lang/invoke/MethodHandle" ∧ yX6_thrown.cls ≠ "java/lang/invoke/VarHandle" ∧ (parseMethodDescriptor yX6_thrown.desc).map (fun d => d.parameters.length) = some 0 := by decide +kernel
abbrev rmX6_untilChute : Room := ({ frames := 4, cells := 0, slots := 0, locals := 105 } : Room)
theorem hd_X6_untilChute : yX6_untilChute.cls = RX6 ∧ yX6_untilChute.cls ≠ "java/lang/invoke/MethodHandle" ∧ yX6_untilChute.cls ≠ "java/lang/invoke/VarHandle" ∧ (parseMethodDescriptor yX6_untilChute.desc).map (fun d => d.parameters.length) = some 1 := by decide +kernel
abbrev rmX6_whereIs : Room := ({ frames := 2, cells := 0, slots := 0, locals := 43 } : Room)
theorem hd_X6_whereIs : yX6_whereIs.cls = RX6 ∧ yX6_whereIs.cls ≠ "java/lang/invoke/MethodHandle" ∧ yX6_whereIs.cls ≠ "java/lang/invoke/VarHandle" ∧ (parseMethodDescriptor yX6_whereIs.desc).map (fun d => d.parameters.length) = some 1 := by decide +kernel
