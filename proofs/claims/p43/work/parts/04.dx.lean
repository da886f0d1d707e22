theorem dX0_init_0 : decode cX0_init 0 = .ok (.aload_n 0, 1) := by decide +kernel
theorem dX0_init_1 : decode cX0_init 1 = .ok (.invokespecial 3, 3) := by decide +kernel
theorem dX0_init_4 : decode cX0_init 4 = .ok (.aload_n 0, 1) := by decide +kernel
theorem dX0_init_5 : decode cX0_init 5 = .ok (.new 9, 3) := by decide +kernel
theorem dX0_init_8 : decode cX0_init 8 = .ok (.dup, 1) := by decide +kernel
theorem dX0_init_9 : decode cX0_init 9 = .ok (.bipush 40, 2) := by decide +kernel
theorem dX0_init_11 : decode cX0_init 11 = .ok (.newarray .int, 2) := by decide +kernel
theorem dX0_init_13 : decode cX0_init 13 = .ok (.iconst (-1), 1) := by decide +kernel
theorem dX0_init_14 : decode cX0_init 14 = .ok (.invokespecial 11, 3) := by decide +kernel
theorem dX0_init_17 : decode cX0_init 17 = .ok (.putfield 14, 3) := by decide +kernel
theorem dX0_init_20 : decode cX0_init 20 = .ok (.aload_n 0, 1) := by decide +kernel
theorem dX0_init_21 : decode cX0_init 21 = .ok (.new 9, 3) := by decide +kernel
theorem dX0_init_24 : decode cX0_init 24 = .ok (.dup, 1) := by decide +kernel
theorem dX0_init_25 : decode cX0_init 25 = .ok (.bipush 40, 2) := by decide +kernel
theorem dX0_init_27 : decode cX0_init 27 = .ok (.newarray .int, 2) := by decide +kernel
theorem dX0_init_29 : decode cX0_init 29 = .ok (.iconst 0, 1) := by decide +kernel
theorem dX0_init_30 : decode cX0_init 30 = .ok (.invokespecial 11, 3) := by decide +kernel
theorem dX0_init_33 : decode cX0_init 33 = .ok (.putfield 20, 3) := by decide +kernel
theorem dX0_init_36 : decode cX0_init 36 = .ok (.aload_n 0, 1) := by decide +kernel
theorem dX0_init_37 : decode cX0_init 37 = .ok (.new 9, 3) := by decide +kernel
theorem dX0_init_40 : decode cX0_init 40 = .ok (.dup, 1) := by decide +kernel
theorem dX0_init_41 : decode cX0_init 41 = .ok (.bipush 40, 2) := by decide +kernel
theorem dX0_init_43 : decode cX0_init 43 = .ok (.newarray .int, 2) := by decide +kernel
theorem dX0_init_45 : decode cX0_init 45 = .ok (.iconst 0, 1) := by decide +kernel
theorem dX0_init_46 : decode cX0_init 46 = .ok (.invokespecial 11, 3) := by decide +kernel
theorem dX0_init_49 : decode cX0_init 49 = .ok (.putfield 23, 3) := by decide +kernel
theorem dX0_init_52 : decode cX0_init 52 = .ok (.aload_n 0, 1) := by decide +kernel
theorem dX0_init_53 : decode cX0_init 53 = .ok (.new 9, 3) := by decide +kernel
theorem dX0_init_56 : decode cX0_init 56 = .ok (.dup, 1) := by decide +kernel
theorem dX0_init_57 : decode cX0_init 57 = .ok (.bipush 40, 2) := by decide +kernel
theorem dX0_init_59 : decode cX0_init 59 = .ok (.newarray .int, 2) := by decide +kernel
theorem dX0_init_61 : decode cX0_init 61 = .ok (.iconst (-1), 1) := by decide +kernel
theorem dX0_init_62 : decode cX0_init 62 = .ok (.invokespecial 11, 3) := by decide +kernel
theorem dX0_init_65 : decode cX0_init 65 = .ok (.putfield 26, 3) := by decide +kernel
theorem dX0_init_68 : decode cX0_init 68 = .ok (.aload_n 0, 1) := by decide +kernel
theorem dX0_init_69 : decode cX0_init 69 = .ok (.new 9, 3) := by decide +kernel
theorem dX0_init_72 : decode cX0_init 72 = .ok (.dup, 1) := by decide +kernel
theorem dX0_init_73 : decode cX0_init 73 = .ok (.bipush 40, 2) := by decide +kernel
theorem dX0_init_75 : decode cX0_init 75 = .ok (.newarray .int, 2) := by decide +kernel
theorem dX0_init_77 : decode cX0_init 77 = .ok (.iconst (-1), 1) := by decide +kernel
theorem dX0_init_78 : decode cX0_init 78 = .ok (.invokespecial 11, 3) := by decide +kernel
theorem dX0_init_81 : decode cX0_init 81 = .ok (.putfield 29, 3) := by decide +kernel
theorem dX0_init_84 : decode cX0_init 84 = .ok (.aload_n 0, 1) := by decide +kernel
theorem dX0_init_85 : decode cX0_init 85 = .ok (.new 9, 3) := by decide +kernel
theorem dX0_init_88 : decode cX0_init 88 = .ok (.dup, 1) := by decide +kernel
theorem dX0_init_89 : decode cX0_init 89 = .ok (.bipush 40, 2) := by decide +kernel
theorem dX0_init_91 : decode cX0_init 91 = .ok (.newarray .int, 2) := by decide +kernel
theorem dX0_init_93 : decode cX0_init 93 = .ok (.iconst (-1), 1) := by decide +kernel
theorem dX0_init_94 : decode cX0_init 94 = .ok (.invokespecial 11, 3) := by decide +kernel
theorem dX0_init_97 : decode cX0_init 97 = .ok (.putfield 32, 3) := by decide +kernel
theorem dX0_init_100 : decode cX0_init 100 = .ok (.aload_n 0, 1) := by decide +kernel
theorem dX0_init_101 : decode cX0_init 101 = .ok (.new 9, 3) := by decide +kernel
theorem dX0_init_104 : decode cX0_init 104 = .ok (.dup, 1) := by decide +kernel
theorem dX0_init_105 : decode cX0_init 105 = .ok (.bipush 40, 2) := by decide +kernel
theorem dX0_init_107 : decode cX0_init 107 = .ok (.newarray .int, 2) := by decide +kernel
theorem dX0_init_109 : decode cX0_init 109 = .ok (.iconst 0, 1) := by decide +kernel
theorem dX0_init_110 : decode cX0_init 110 = .ok (.invokespecial 11, 3) := by decide +kernel
theorem dX0_init_113 : decode cX0_init 113 = .ok (.putfield 35, 3) := by decide +kernel
theorem dX0_init_116 : decode cX0_init 116 = .ok (.aload_n 0, 1) := by decide +kernel
theorem dX0_init_117 : decode cX0_init 117 = .ok (.new 9, 3) := by decide +kernel
theorem dX0_init_120 : decode cX0_init 120 = .ok (.dup, 1) := by decide +kernel
theorem dX0_init_121 : decode cX0_init 121 = .ok (.bipush 40, 2) := by decide +kernel
theorem dX0_init_123 : decode cX0_init 123 = .ok (.newarray .int, 2) := by decide +kernel
theorem dX0_init_125 : decode cX0_init 125 = .ok (.iconst 0, 1) := by decide +kernel
theorem dX0_init_126 : decode cX0_init 126 = .ok (.invokespecial 11, 3) := by decide +kernel
theorem dX0_init_129 : decode cX0_init 129 = .ok (.putfield 38, 3) := by decide +kernel
theorem dX0_init_132 : decode cX0_init 132 = .ok (.return_, 1) := by decide +kernel
theorem dX0_addOne_0 : decode cX0_addOne 0 = .ok (.aload_n 0, 1) := by decide +kernel
theorem dX0_addOne_1 : decode cX0_addOne 1 = .ok (.getfield 41, 3) := by decide +kernel
theorem dX0_addOne_4 : decode cX0_addOne 4 = .ok (.istore 4, 2) := by decide +kernel
theorem dX0_addOne_6 : decode cX0_addOne 6 = .ok (.aload_n 0, 1) := by decide +kernel
theorem dX0_addOne_7 : decode cX0_addOne 7 = .ok (.dup, 1) := by decide +kernel
theorem dX0_addOne_8 : decode cX0_addOne 8 = .ok (.getfield 41, 3) := by decide +kernel
theorem dX0_addOne_11 : decode cX0_addOne 11 = .ok (.iconst 1, 1) := by decide +kernel
theorem dX0_addOne_12 : decode cX0_addOne 12 = .ok (.iadd, 1) := by decide +kernel
theorem dX0_addOne_13 : decode cX0_addOne 13 = .ok (.putfield 41, 3) := by decide +kernel
theorem dX0_addOne_16 : decode cX0_addOne 16 = .ok (.aload_n 0, 1) := by decide +kernel
theorem dX0_addOne_17 : decode cX0_addOne 17 = .ok (.getfield 14, 3) := by decide +kernel
theorem dX0_addOne_20 : decode cX0_addOne 20 = .ok (.iload 4, 2) := by decide +kernel
theorem dX0_addOne_22 : decode cX0_addOne 22 = .ok (.iload_n 1, 1) := by decide +kernel
theorem dX0_addOne_23 : decode cX0_addOne 23 = .ok (.invokevirtual 45, 3) := by decide +kernel
theorem dX0_addOne_26 : decode cX0_addOne 26 = .ok (.aload_n 0, 1) := by decide +kernel
theorem dX0_addOne_27 : decode cX0_addOne 27 = .ok (.getfield 20, 3) := by decide +kernel
theorem dX0_addOne_30 : decode cX0_addOne 30 = .ok (.iload 4, 2) := by decide +kernel
theorem dX0_addOne_32 : decode cX0_addOne 32 = .ok (.iload_n 2, 1) := by decide +kernel
theorem dX0_addOne_33 : decode cX0_addOne 33 = .ok (.invokevirtual 45, 3) := by decide +kernel
theorem dX0_addOne_36 : decode cX0_addOne 36 = .ok (.aload_n 0, 1) := by decide +kernel
theorem dX0_addOne_37 : decode cX0_addOne 37 = .ok (.getfield 23, 3) := by decide +kernel
theorem dX0_addOne_40 : decode cX0_addOne 40 = .ok (.iload 4, 2) := by decide +kernel
theorem dX0_addOne_42 : decode cX0_addOne 42 = .ok (.iload_n 3, 1) := by decide +kernel
theorem dX0_addOne_43 : decode cX0_addOne 43 = .ok (.invokevirtual 45, 3) := by decide +kernel
theorem dX0_addOne_46 : decode cX0_addOne 46 = .ok (.iload 4, 2) := by decide +kernel
theorem dX0_addOne_48 : decode cX0_addOne 48 = .ok (.ireturn, 1) := by decide +kernel
theorem dX0_renew_0 : decode cX0_renew 0 = .ok (.aload_n 0, 1) := by decide +kernel
theorem dX0_renew_1 : decode cX0_renew 1 = .ok (.getfield 14, 3) := by decide +kernel
theorem dX0_renew_4 : decode cX0_renew 4 = .ok (.iload_n 1, 1) := by decide +kernel
theorem dX0_renew_5 : decode cX0_renew 5 = .ok (.iload_n 2, 1) := by decide +kernel
theorem dX0_renew_6 : decode cX0_renew 6 = .ok (.invokevirtual 45, 3) := by decide +kernel
theorem dX0_renew_9 : decode cX0_renew 9 = .ok (.aload_n 0, 1) := by decide +kernel
theorem dX0_renew_10 : decode cX0_renew 10 = .ok (.getfield 32, 3) := by decide +kernel
theorem dX0_renew_13 : decode cX0_renew 13 = .ok (.iload_n 1, 1) := by decide +kernel
theorem dX0_renew_14 : decode cX0_renew 14 = .ok (.iconst (-1), 1) := by decide +kernel
theorem dX0_renew_15 : decode cX0_renew 15 = .ok (.invokevirtual 45, 3) := by decide +kernel
theorem dX0_renew_18 : decode cX0_renew 18 = .ok (.aload_n 0, 1) := by decide +kernel
theorem dX0_renew_19 : decode cX0_renew 19 = .ok (.getfield 35, 3) := by decide +kernel
theorem dX0_renew_22 : decode cX0_renew 22 = .ok (.iload_n 1, 1) := by decide +kernel
theorem dX0_renew_23 : decode cX0_renew 23 = .ok (.iconst 0, 1) := by decide +kernel
theorem dX0_renew_24 : decode cX0_renew 24 = .ok (.invokevirtual 45, 3) := by decide +kernel
theorem dX0_renew_27 : decode cX0_renew 27 = .ok (.aload_n 0, 1) := by decide +kernel
theorem dX0_renew_28 : decode cX0_renew 28 = .ok (.iload_n 1, 1) := by decide +kernel
theorem dX0_renew_29 : decode cX0_renew 29 = .ok (.invokevirtual 49, 3) := by decide +kernel
theorem dX0_renew_32 : decode cX0_renew 32 = .ok (.return_, 1) := by decide +kernel
theorem dX0_putIntoChute_0 : decode cX0_putIntoChute 0 = .ok (.aload_n 0, 1) := by decide +kernel
theorem dX0_putIntoChute_1 : decode cX0_putIntoChute 1 = .ok (.getfield 26, 3) := by decide +kernel
theorem dX0_putIntoChute_4 : decode cX0_putIntoChute 4 = .ok (.iload_n 1, 1) := by decide +kernel
theorem dX0_putIntoChute_5 : decode cX0_putIntoChute 5 = .ok (.iconst 2, 1) := by decide +kernel
theorem dX0_putIntoChute_6 : decode cX0_putIntoChute 6 = .ok (.invokevirtual 45, 3) := by decide +kernel
theorem dX0_putIntoChute_9 : decode cX0_putIntoChute 9 = .ok (.aload_n 0, 1) := by decide +kernel
theorem dX0_putIntoChute_10 : decode cX0_putIntoChute 10 = .ok (.getfield 29, 3) := by decide +kernel
theorem dX0_putIntoChute_13 : decode cX0_putIntoChute 13 = .ok (.iload_n 1, 1) := by decide +kernel
theorem dX0_putIntoChute_14 : decode cX0_putIntoChute 14 = .ok (.iload_n 2, 1) := by decide +kernel
theorem dX0_putIntoChute_15 : decode cX0_putIntoChute 15 = .ok (.invokevirtual 45, 3) := by decide +kernel
theorem dX0_putIntoChute_18 : decode cX0_putIntoChute 18 = .ok (.return_, 1) := by decide +kernel
theorem dX0_takeFromChute_0 : decode cX0_takeFromChute 0 = .ok (.aload_n 0, 1) := by decide +kernel
theorem dX0_takeFromChute_1 : decode cX0_takeFromChute 1 = .ok (.getfield 26, 3) := by decide +kernel
theorem dX0_takeFromChute_4 : decode cX0_takeFromChute 4 = .ok (.iload_n 1, 1) := by decide +kernel
theorem dX0_takeFromChute_5 : decode cX0_takeFromChute 5 = .ok (.iload_n 2, 1) := by decide +kernel
theorem dX0_takeFromChute_6 : decode cX0_takeFromChute 6 = .ok (.invokevirtual 45, 3) := by decide +kernel
theorem dX0_takeFromChute_9 : decode cX0_takeFromChute 9 = .ok (.aload_n 0, 1) := by decide +kernel
theorem dX0_takeFromChute_10 : decode cX0_takeFromChute 10 = .ok (.getfield 29, 3) := by decide +kernel
theorem dX0_takeFromChute_13 : decode cX0_takeFromChute 13 = .ok (.iload_n 1, 1) := by decide +kernel
theorem dX0_takeFromChute_14 : decode cX0_takeFromChute 14 = .ok (.iconst (-1), 1) := by decide +kernel
theorem dX0_takeFromChute_15 : decode cX0_takeFromChute 15 = .ok (.invokevirtual 45, 3) := by decide +kernel
theorem dX0_takeFromChute_18 : decode cX0_takeFromChute 18 = .ok (.return_, 1) := by decide +kernel
theorem dX0_closeFile_0 : decode cX0_closeFile 0 = .ok (.aload_n 0, 1) := by decide +kernel
theorem dX0_closeFile_1 : decode cX0_closeFile 1 = .ok (.getfield 38, 3) := by decide +kernel
theorem dX0_closeFile_4 : decode cX0_closeFile 4 = .ok (.iload_n 1, 1) := by decide +kernel
theorem dX0_closeFile_5 : decode cX0_closeFile 5 = .ok (.invokevirtual 53, 3) := by decide +kernel
theorem dX0_closeFile_8 : decode cX0_closeFile 8 = .ok (.iconst 1, 1) := by decide +kernel
theorem dX0_closeFile_9 : decode cX0_closeFile 9 = .ok (.if_icmp .ne 12, 3) := by decide +kernel
theorem dX0_closeFile_12 : decode cX0_closeFile 12 = .ok (.aload_n 0, 1) := by decide +kernel
theorem dX0_closeFile_13 : decode cX0_closeFile 13 = .ok (.getfield 38, 3) := by decide +kernel
theorem dX0_closeFile_16 : decode cX0_closeFile 16 = .ok (.iload_n 1, 1) := by decide +kernel
theorem dX0_closeFile_17 : decode cX0_closeFile 17 = .ok (.iconst 2, 1) := by decide +kernel
theorem dX0_closeFile_18 : decode cX0_closeFile 18 = .ok (.invokevirtual 45, 3) := by decide +kernel
theorem dX0_closeFile_21 : decode cX0_closeFile 21 = .ok (.return_, 1) := by decide +kernel
theorem dX0_takeAll_0 : decode cX0_takeAll 0 = .ok (.aload_n 0, 1) := by decide +kernel
theorem dX0_takeAll_1 : decode cX0_takeAll 1 = .ok (.aload_n 1, 1) := by decide +kernel
theorem dX0_takeAll_2 : decode cX0_takeAll 2 = .ok (.getfield 41, 3) := by decide +kernel
theorem dX0_takeAll_5 : decode cX0_takeAll 5 = .ok (.putfield 41, 3) := by decide +kernel
theorem dX0_takeAll_8 : decode cX0_takeAll 8 = .ok (.aload_n 0, 1) := by decide +kernel
theorem dX0_takeAll_9 : decode cX0_takeAll 9 = .ok (.getfield 14, 3) := by decide +kernel
theorem dX0_takeAll_12 : decode cX0_takeAll 12 = .ok (.aload_n 1, 1) := by decide +kernel
theorem dX0_takeAll_13 : decode cX0_takeAll 13 = .ok (.getfield 14, 3) := by decide +kernel
theorem dX0_takeAll_16 : decode cX0_takeAll 16 = .ok (.invokevirtual 57, 3) := by decide +kernel
theorem dX0_takeAll_19 : decode cX0_takeAll 19 = .ok (.aload_n 0, 1) := by decide +kernel
theorem dX0_takeAll_20 : decode cX0_takeAll 20 = .ok (.getfield 20, 3) := by decide +kernel
theorem dX0_takeAll_23 : decode cX0_takeAll 23 = .ok (.aload_n 1, 1) := by decide +kernel
theorem dX0_takeAll_24 : decode cX0_takeAll 24 = .ok (.getfield 20, 3) := by decide +kernel
theorem dX0_takeAll_27 : decode cX0_takeAll 27 = .ok (.invokevirtual 57, 3) := by decide +kernel
theorem dX0_takeAll_30 : decode cX0_takeAll 30 = .ok (.aload_n 0, 1) := by decide +kernel
theorem dX0_takeAll_31 : decode cX0_takeAll 31 = .ok (.getfield 23, 3) := by decide +kernel
theorem dX0_takeAll_34 : decode cX0_takeAll 34 = .ok (.aload_n 1, 1) := by decide +kernel
theorem dX0_takeAll_35 : decode cX0_takeAll 35 = .ok (.getfield 23, 3) := by decide +kernel
theorem dX0_takeAll_38 : decode cX0_takeAll 38 = .ok (.invokevirtual 57, 3) := by decide +kernel
theorem dX0_takeAll_41 : decode cX0_takeAll 41 = .ok (.aload_n 0, 1) := by decide +kernel
theorem dX0_takeAll_42 : decode cX0_takeAll 42 = .ok (.getfield 26, 3) := by decide +kernel
theorem dX0_takeAll_45 : decode cX0_takeAll 45 = .ok (.aload_n 1, 1) := by decide +kernel
theorem dX0_takeAll_46 : decode cX0_takeAll 46 = .ok (.getfield 26, 3) := by decide +kernel
theorem dX0_takeAll_49 : decode cX0_takeAll 49 = .ok (.invokevirtual 57, 3) := by decide +kernel
theorem dX0_takeAll_52 : decode cX0_takeAll 52 = .ok (.aload_n 0, 1) := by decide +kernel
theorem dX0_takeAll_53 : decode cX0_takeAll 53 = .ok (.getfield 29, 3) := by decide +kernel
theorem dX0_takeAll_56 : decode cX0_takeAll 56 = .ok (.aload_n 1, 1) := by decide +kernel
theorem dX0_takeAll_57 : decode cX0_takeAll 57 = .ok (.getfield 29, 3) := by decide +kernel
theorem dX0_takeAll_60 : decode cX0_takeAll 60 = .ok (.invokevirtual 57, 3) := by decide +kernel
theorem dX0_takeAll_63 : decode cX0_takeAll 63 = .ok (.aload_n 0, 1) := by decide +kernel
theorem dX0_takeAll_64 : decode cX0_takeAll 64 = .ok (.getfield 32, 3) := by decide +kernel
theorem dX0_takeAll_67 : decode cX0_takeAll 67 = .ok (.aload_n 1, 1) := by decide +kernel
theorem dX0_takeAll_68 : decode cX0_takeAll 68 = .ok (.getfield 32, 3) := by decide +kernel
theorem dX0_takeAll_71 : decode cX0_takeAll 71 = .ok (.invokevirtual 57, 3) := by decide +kernel
theorem dX0_takeAll_74 : decode cX0_takeAll 74 = .ok (.aload_n 0, 1) := by decide +kernel
theorem dX0_takeAll_75 : decode cX0_takeAll 75 = .ok (.getfield 35, 3) := by decide +kernel
theorem dX0_takeAll_78 : decode cX0_takeAll 78 = .ok (.aload_n 1, 1) := by decide +kernel
theorem dX0_takeAll_79 : decode cX0_takeAll 79 = .ok (.getfield 35, 3) := by decide +kernel
theorem dX0_takeAll_82 : decode cX0_takeAll 82 = .ok (.invokevirtual 57, 3) := by decide +kernel
theorem dX0_takeAll_85 : decode cX0_takeAll 85 = .ok (.aload_n 0, 1) := by decide +kernel
theorem dX0_takeAll_86 : decode cX0_takeAll 86 = .ok (.getfield 38, 3) := by decide +kernel
theorem dX0_takeAll_89 : decode cX0_takeAll 89 = .ok (.aload_n 1, 1) := by decide +kernel
theorem dX0_takeAll_90 : decode cX0_takeAll 90 = .ok (.getfield 38, 3) := by decide +kernel
theorem dX0_takeAll_93 : decode cX0_takeAll 93 = .ok (.invokevirtual 57, 3) := by decide +kernel
theorem dX0_takeAll_96 : decode cX0_takeAll 96 = .ok (.return_, 1) := by decide +kernel
theorem dX1_init_0 : decode cX1_init 0 = .ok (.aload_n 0, 1) := by decide +kernel
theorem dX1_init_1 : decode cX1_init 1 = .ok (.invokespecial 3, 3) := by decide +kernel
theorem dX1_init_4 : decode cX1_init 4 = .ok (.aload_n 0, 1) := by decide +kernel
theorem dX1_init_5 : decode cX1_init 5 = .ok (.new 9, 3) := by decide +kernel
theorem dX1_init_8 : decode cX1_init 8 = .ok (.dup, 1) := by decide +kernel
theorem dX1_init_9 : decode cX1_init 9 = .ok (.bipush 6, 2) := by decide +kernel
theorem dX1_init_11 : decode cX1_init 11 = .ok (.newarray .int, 2) := by decide +kernel
theorem dX1_init_13 : decode cX1_init 13 = .ok (.iconst (-1), 1) := by decide +kernel
theorem dX1_init_14 : decode cX1_init 14 = .ok (.invokespecial 11, 3) := by decide +kernel
theorem dX1_init_17 : decode cX1_init 17 = .ok (.putfield 14, 3) := by decide +kernel
theorem dX1_init_20 : decode cX1_init 20 = .ok (.aload_n 0, 1) := by decide +kernel
theorem dX1_init_21 : decode cX1_init 21 = .ok (.new 9, 3) := by decide +kernel
theorem dX1_init_24 : decode cX1_init 24 = .ok (.dup, 1) := by decide +kernel
theorem dX1_init_25 : decode cX1_init 25 = .ok (.bipush 6, 2) := by decide +kernel
theorem dX1_init_27 : decode cX1_init 27 = .ok (.newarray .int, 2) := by decide +kernel
theorem dX1_init_29 : decode cX1_init 29 = .ok (.iconst 0, 1) := by decide +kernel
theorem dX1_init_30 : decode cX1_init 30 = .ok (.invokespecial 11, 3) := by decide +kernel
theorem dX1_init_33 : decode cX1_init 33 = .ok (.putfield 20, 3) := by decide +kernel
theorem dX1_init_36 : decode cX1_init 36 = .ok (.return_, 1) := by decide +kernel
theorem dX1_addOne_0 : decode cX1_addOne 0 = .ok (.aload_n 0, 1) := by decide +kernel
theorem dX1_addOne_1 : decode cX1_addOne 1 = .ok (.getfield 23, 3) := by decide +kernel
theorem dX1_addOne_4 : decode cX1_addOne 4 = .ok (.istore_n 1, 1) := by decide +kernel
theorem dX1_addOne_5 : decode cX1_addOne 5 = .ok (.aload_n 0, 1) := by decide +kernel
theorem dX1_addOne_6 : decode cX1_addOne 6 = .ok (.dup, 1) := by decide +kernel
theorem dX1_addOne_7 : decode cX1_addOne 7 = .ok (.getfield 23, 3) := by decide +kernel
theorem dX1_addOne_10 : decode cX1_addOne 10 = .ok (.iconst 1, 1) := by decide +kernel
theorem dX1_addOne_11 : decode cX1_addOne 11 = .ok (.iadd, 1) := by decide +kernel
theorem dX1_addOne_12 : decode cX1_addOne 12 = .ok (.putfield 23, 3) := by decide +kernel
theorem dX1_addOne_15 : decode cX1_addOne 15 = .ok (.iload_n 1, 1) := by decide +kernel
theorem dX1_addOne_16 : decode cX1_addOne 16 = .ok (.ireturn, 1) := by decide +kernel
theorem dX1_hasLeft_0 : decode cX1_hasLeft 0 = .ok (.aload_n 0, 1) := by decide +kernel
theorem dX1_hasLeft_1 : decode cX1_hasLeft 1 = .ok (.getfield 20, 3) := by decide +kernel
theorem dX1_hasLeft_4 : decode cX1_hasLeft 4 = .ok (.iload_n 1, 1) := by decide +kernel
theorem dX1_hasLeft_5 : decode cX1_hasLeft 5 = .ok (.invokevirtual 27, 3) := by decide +kernel
theorem dX1_hasLeft_8 : decode cX1_hasLeft 8 = .ok (.iconst 1, 1) := by decide +kernel
theorem dX1_hasLeft_9 : decode cX1_hasLeft 9 = .ok (.if_icmp .ne 7, 3) := by decide +kernel
theorem dX1_hasLeft_12 : decode cX1_hasLeft 12 = .ok (.iconst 1, 1) := by decide +kernel
theorem dX1_hasLeft_13 : decode cX1_hasLeft 13 = .ok (.goto 4, 3) := by decide +kernel
theorem dX1_hasLeft_16 : decode cX1_hasLeft 16 = .ok (.iconst 0, 1) := by decide +kernel
theorem dX1_hasLeft_17 : decode cX1_hasLeft 17 = .ok (.ireturn, 1) := by decide +kernel
theorem dX1_takeAll_0 : decode cX1_takeAll 0 = .ok (.aload_n 0, 1) := by decide +kernel
theorem dX1_takeAll_1 : decode cX1_takeAll 1 = .ok (.aload_n 1, 1) := by decide +kernel
theorem dX1_takeAll_2 : decode cX1_takeAll 2 = .ok (.getfield 23, 3) := by decide +kernel
theorem dX1_takeAll_5 : decode cX1_takeAll 5 = .ok (.putfield 23, 3) := by decide +kernel
theorem dX1_takeAll_8 : decode cX1_takeAll 8 = .ok (.aload_n 0, 1) := by decide +kernel
theorem dX1_takeAll_9 : decode cX1_takeAll 9 = .ok (.getfield 14, 3) := by decide +kernel
theorem dX1_takeAll_12 : decode cX1_takeAll 12 = .ok (.aload_n 1, 1) := by decide +kernel
theorem dX1_takeAll_13 : decode cX1_takeAll 13 = .ok (.getfield 14, 3) := by decide +kernel
theorem dX1_takeAll_16 : decode cX1_takeAll 16 = .ok (.invokevirtual 31, 3) := by decide +kernel
theorem dX1_takeAll_19 : decode cX1_takeAll 19 = .ok (.aload_n 0, 1) := by decide +kernel
theorem dX1_takeAll_20 : decode cX1_takeAll 20 = .ok (.getfield 20, 3) := by decide +kernel
theorem dX1_takeAll_23 : decode cX1_takeAll 23 = .ok (.aload_n 1, 1) := by decide +kernel
theorem dX1_takeAll_24 : decode cX1_takeAll 24 = .ok (.getfield 20, 3) := by decide +kernel
theorem dX1_takeAll_27 : decode cX1_takeAll 27 = .ok (.invokevirtual 31, 3) := by decide +kernel
theorem dX1_takeAll_30 : decode cX1_takeAll 30 = .ok (.return_, 1) := by decide +kernel
theorem dX2_init_0 : decode cX2_init 0 = .ok (.aload_n 0, 1) := by decide +kernel
theorem dX2_init_1 : decode cX2_init 1 = .ok (.invokespecial 3, 3) := by decide +kernel
theorem dX2_init_4 : decode cX2_init 4 = .ok (.aload_n 0, 1) := by decide +kernel
theorem dX2_init_5 : decode cX2_init 5 = .ok (.iconst 5, 1) := by decide +kernel
theorem dX2_init_6 : decode cX2_init 6 = .ok (.putfield 9, 3) := by decide +kernel
theorem dX2_init_9 : decode cX2_init 9 = .ok (.aload_n 0, 1) := by decide +kernel
theorem dX2_init_10 : decode cX2_init 10 = .ok (.new 15, 3) := by decide +kernel
theorem dX2_init_13 : decode cX2_init 13 = .ok (.dup, 1) := by decide +kernel
theorem dX2_init_14 : decode cX2_init 14 = .ok (.invokespecial 17, 3) := by decide +kernel
theorem dX2_init_17 : decode cX2_init 17 = .ok (.putfield 18, 3) := by decide +kernel
theorem dX2_init_20 : decode cX2_init 20 = .ok (.aload_n 0, 1) := by decide +kernel
theorem dX2_init_21 : decode cX2_init 21 = .ok (.new 22, 3) := by decide +kernel
theorem dX2_init_24 : decode cX2_init 24 = .ok (.dup, 1) := by decide +kernel
theorem dX2_init_25 : decode cX2_init 25 = .ok (.invokespecial 24, 3) := by decide +kernel
theorem dX2_init_28 : decode cX2_init 28 = .ok (.putfield 25, 3) := by decide +kernel
theorem dX2_init_31 : decode cX2_init 31 = .ok (.aload_n 0, 1) := by decide +kernel
theorem dX2_init_32 : decode cX2_init 32 = .ok (.new 29, 3) := by decide +kernel
theorem dX2_init_35 : decode cX2_init 35 = .ok (.dup, 1) := by decide +kernel
theorem dX2_init_36 : decode cX2_init 36 = .ok (.iconst 4, 1) := by decide +kernel
theorem dX2_init_37 : decode cX2_init 37 = .ok (.newarray .int, 2) := by decide +kernel
theorem dX2_init_39 : decode cX2_init 39 = .ok (.iconst 5, 1) := by decide +kernel
theorem dX2_init_40 : decode cX2_init 40 = .ok (.invokespecial 31, 3) := by decide +kernel
theorem dX2_init_43 : decode cX2_init 43 = .ok (.putfield 34, 3) := by decide +kernel
theorem dX2_init_46 : decode cX2_init 46 = .ok (.aload_n 0, 1) := by decide +kernel
theorem dX2_init_47 : decode cX2_init 47 = .ok (.new 29, 3) := by decide +kernel
theorem dX2_init_50 : decode cX2_init 50 = .ok (.dup, 1) := by decide +kernel
theorem dX2_init_51 : decode cX2_init 51 = .ok (.bipush 12, 2) := by decide +kernel
theorem dX2_init_53 : decode cX2_init 53 = .ok (.newarray .int, 2) := by decide +kernel
theorem dX2_init_55 : decode cX2_init 55 = .ok (.iconst (-1), 1) := by decide +kernel
theorem dX2_init_56 : decode cX2_init 56 = .ok (.invokespecial 31, 3) := by decide +kernel
theorem dX2_init_59 : decode cX2_init 59 = .ok (.putfield 38, 3) := by decide +kernel
theorem dX2_init_62 : decode cX2_init 62 = .ok (.aload_n 0, 1) := by decide +kernel
theorem dX2_init_63 : decode cX2_init 63 = .ok (.new 29, 3) := by decide +kernel
theorem dX2_init_66 : decode cX2_init 66 = .ok (.dup, 1) := by decide +kernel
theorem dX2_init_67 : decode cX2_init 67 = .ok (.bipush 40, 2) := by decide +kernel
theorem dX2_init_69 : decode cX2_init 69 = .ok (.newarray .int, 2) := by decide +kernel
theorem dX2_init_71 : decode cX2_init 71 = .ok (.iconst (-1), 1) := by decide +kernel
theorem dX2_init_72 : decode cX2_init 72 = .ok (.invokespecial 31, 3) := by decide +kernel
theorem dX2_init_75 : decode cX2_init 75 = .ok (.putfield 41, 3) := by decide +kernel
theorem dX2_init_78 : decode cX2_init 78 = .ok (.return_, 1) := by decide +kernel
theorem dX2_becomeLike_0 : decode cX2_becomeLike 0 = .ok (.aload_n 0, 1) := by decide +kernel
theorem dX2_becomeLike_1 : decode cX2_becomeLike 1 = .ok (.aload_n 1, 1) := by decide +kernel
theorem dX2_becomeLike_2 : decode cX2_becomeLike 2 = .ok (.getfield 44, 3) := by decide +kernel
theorem dX2_becomeLike_5 : decode cX2_becomeLike 5 = .ok (.putfield 44, 3) := by decide +kernel
theorem dX2_becomeLike_8 : decode cX2_becomeLike 8 = .ok (.aload_n 0, 1) := by decide +kernel
theorem dX2_becomeLike_9 : decode cX2_becomeLike 9 = .ok (.aload_n 1, 1) := by decide +kernel
theorem dX2_becomeLike_10 : decode cX2_becomeLike 10 = .ok (.getfield 9, 3) := by decide +kernel
theorem dX2_becomeLike_13 : decode cX2_becomeLike 13 = .ok (.putfield 9, 3) := by decide +kernel
theorem dX2_becomeLike_16 : decode cX2_becomeLike 16 = .ok (.aload_n 0, 1) := by decide +kernel
theorem dX2_becomeLike_17 : decode cX2_becomeLike 17 = .ok (.aload_n 1, 1) := by decide +kernel
theorem dX2_becomeLike_18 : decode cX2_becomeLike 18 = .ok (.getfield 47, 3) := by decide +kernel
theorem dX2_becomeLike_21 : decode cX2_becomeLike 21 = .ok (.putfield 47, 3) := by decide +kernel
theorem dX2_becomeLike_24 : decode cX2_becomeLike 24 = .ok (.aload_n 0, 1) := by decide +kernel
theorem dX2_becomeLike_25 : decode cX2_becomeLike 25 = .ok (.getfield 18, 3) := by decide +kernel
theorem dX2_becomeLike_28 : decode cX2_becomeLike 28 = .ok (.aload_n 1, 1) := by decide +kernel
theorem dX2_becomeLike_29 : decode cX2_becomeLike 29 = .ok (.getfield 18, 3) := by decide +kernel
theorem dX2_becomeLike_32 : decode cX2_becomeLike 32 = .ok (.invokevirtual 50, 3) := by decide +kernel
theorem dX2_becomeLike_35 : decode cX2_becomeLike 35 = .ok (.aload_n 0, 1) := by decide +kernel
theorem dX2_becomeLike_36 : decode cX2_becomeLike 36 = .ok (.getfield 25, 3) := by decide +kernel
theorem dX2_becomeLike_39 : decode cX2_becomeLike 39 = .ok (.aload_n 1, 1) := by decide +kernel
theorem dX2_becomeLike_40 : decode cX2_becomeLike 40 = .ok (.getfield 25, 3) := by decide +kernel
theorem dX2_becomeLike_43 : decode cX2_becomeLike 43 = .ok (.invokevirtual 54, 3) := by decide +kernel
theorem dX2_becomeLike_46 : decode cX2_becomeLike 46 = .ok (.aload_n 0, 1) := by decide +kernel
theorem dX2_becomeLike_47 : decode cX2_becomeLike 47 = .ok (.getfield 34, 3) := by decide +kernel
theorem dX2_becomeLike_50 : decode cX2_becomeLike 50 = .ok (.aload_n 1, 1) := by decide +kernel
theorem dX2_becomeLike_51 : decode cX2_becomeLike 51 = .ok (.getfield 34, 3) := by decide +kernel
theorem dX2_becomeLike_54 : decode cX2_becomeLike 54 = .ok (.invokevirtual 57, 3) := by decide +kernel
theorem dX2_becomeLike_57 : decode cX2_becomeLike 57 = .ok (.aload_n 0, 1) := by decide +kernel
theorem dX2_becomeLike_58 : decode cX2_becomeLike 58 = .ok (.getfield 38, 3) := by decide +kernel
theorem dX2_becomeLike_61 : decode cX2_becomeLike 61 = .ok (.aload_n 1, 1) := by decide +kernel
theorem dX2_becomeLike_62 : decode cX2_becomeLike 62 = .ok (.getfield 38, 3) := by decide +kernel
theorem dX2_becomeLike_65 : decode cX2_becomeLike 65 = .ok (.invokevirtual 57, 3) := by decide +kernel
theorem dX2_becomeLike_68 : decode cX2_becomeLike 68 = .ok (.aload_n 0, 1) := by decide +kernel
theorem dX2_becomeLike_69 : decode cX2_becomeLike 69 = .ok (.getfield 41, 3) := by decide +kernel
theorem dX2_becomeLike_72 : decode cX2_becomeLike 72 = .ok (.aload_n 1, 1) := by decide +kernel
theorem dX2_becomeLike_73 : decode cX2_becomeLike 73 = .ok (.getfield 41, 3) := by decide +kernel
theorem dX2_becomeLike_76 : decode cX2_becomeLike 76 = .ok (.invokevirtual 57, 3) := by decide +kernel
theorem dX2_becomeLike_79 : decode cX2_becomeLike 79 = .ok (.return_, 1) := by decide +kernel
theorem dX2_takeIn_0 : decode cX2_takeIn 0 = .ok (.aload_n 0, 1) := by decide +kernel
theorem dX2_takeIn_1 : decode cX2_takeIn 1 = .ok (.getfield 25, 3) := by decide +kernel
theorem dX2_takeIn_4 : decode cX2_takeIn 4 = .ok (.getfield 60, 3) := by decide +kernel
theorem dX2_takeIn_7 : decode cX2_takeIn 7 = .ok (.iload_n 1, 1) := by decide +kernel
theorem dX2_takeIn_8 : decode cX2_takeIn 8 = .ok (.invokevirtual 63, 3) := by decide +kernel
theorem dX2_takeIn_11 : decode cX2_takeIn 11 = .ok (.bipush 7, 2) := by decide +kernel
theorem dX2_takeIn_13 : decode cX2_takeIn 13 = .ok (.if_icmp .le 16, 3) := by decide +kernel
theorem dX2_takeIn_16 : decode cX2_takeIn 16 = .ok (.aload_n 0, 1) := by decide +kernel
theorem dX2_takeIn_17 : decode cX2_takeIn 17 = .ok (.getfield 25, 3) := by decide +kernel
theorem dX2_takeIn_20 : decode cX2_takeIn 20 = .ok (.getfield 67, 3) := by decide +kernel
theorem dX2_takeIn_23 : decode cX2_takeIn 23 = .ok (.iload_n 1, 1) := by decide +kernel
theorem dX2_takeIn_24 : decode cX2_takeIn 24 = .ok (.iconst 4, 1) := by decide +kernel
theorem dX2_takeIn_25 : decode cX2_takeIn 25 = .ok (.invokevirtual 70, 3) := by decide +kernel
theorem dX2_takeIn_28 : decode cX2_takeIn 28 = .ok (.return_, 1) := by decide +kernel
theorem dX2_takeIn_29 : decode cX2_takeIn 29 = .ok (.aload_n 0, 1) := by decide +kernel
theorem dX2_takeIn_30 : decode cX2_takeIn 30 = .ok (.getfield 25, 3) := by decide +kernel
theorem dX2_takeIn_33 : decode cX2_takeIn 33 = .ok (.getfield 67, 3) := by decide +kernel
theorem dX2_takeIn_36 : decode cX2_takeIn 36 = .ok (.iload_n 1, 1) := by decide +kernel
theorem dX2_takeIn_37 : decode cX2_takeIn 37 = .ok (.iconst 0, 1) := by decide +kernel
theorem dX2_takeIn_38 : decode cX2_takeIn 38 = .ok (.invokevirtual 70, 3) := by decide +kernel
theorem dX2_takeIn_41 : decode cX2_takeIn 41 = .ok (.aload_n 0, 1) := by decide +kernel
theorem dX2_takeIn_42 : decode cX2_takeIn 42 = .ok (.getfield 41, 3) := by decide +kernel
theorem dX2_takeIn_45 : decode cX2_takeIn 45 = .ok (.aload_n 0, 1) := by decide +kernel
theorem dX2_takeIn_46 : decode cX2_takeIn 46 = .ok (.getfield 47, 3) := by decide +kernel
theorem dX2_takeIn_49 : decode cX2_takeIn 49 = .ok (.iload_n 1, 1) := by decide +kernel
theorem dX2_takeIn_50 : decode cX2_takeIn 50 = .ok (.invokevirtual 70, 3) := by decide +kernel
theorem dX2_takeIn_53 : decode cX2_takeIn 53 = .ok (.aload_n 0, 1) := by decide +kernel
theorem dX2_takeIn_54 : decode cX2_takeIn 54 = .ok (.dup, 1) := by decide +kernel
theorem dX2_takeIn_55 : decode cX2_takeIn 55 = .ok (.getfield 47, 3) := by decide +kernel
theorem dX2_takeIn_58 : decode cX2_takeIn 58 = .ok (.iconst 1, 1) := by decide +kernel
theorem dX2_takeIn_59 : decode cX2_takeIn 59 = .ok (.iadd, 1) := by decide +kernel
theorem dX2_takeIn_60 : decode cX2_takeIn 60 = .ok (.putfield 47, 3) := by decide +kernel
theorem dX2_takeIn_63 : decode cX2_takeIn 63 = .ok (.return_, 1) := by decide +kernel
theorem dX2_changeChute_0 : decode cX2_changeChute 0 = .ok (.iconst 0, 1) := by decide +kernel
theorem dX2_changeChute_1 : decode cX2_changeChute 1 = .ok (.istore_n 3, 1) := by decide +kernel
theorem dX2_changeChute_2 : decode cX2_changeChute 2 = .ok (.iconst 0, 1) := by decide +kernel
theorem dX2_changeChute_3 : decode cX2_changeChute 3 = .ok (.istore 4, 2) := by decide +kernel
theorem dX2_changeChute_5 : decode cX2_changeChute 5 = .ok (.iload 4, 2) := by decide +kernel
theorem dX2_changeChute_7 : decode cX2_changeChute 7 = .ok (.aload_n 0, 1) := by decide +kernel
theorem dX2_changeChute_8 : decode cX2_changeChute 8 = .ok (.getfield 25, 3) := by decide +kernel
theorem dX2_changeChute_11 : decode cX2_changeChute 11 = .ok (.getfield 74, 3) := by decide +kernel
theorem dX2_changeChute_14 : decode cX2_changeChute 14 = .ok (.if_icmp .ge 53, 3) := by decide +kernel
theorem dX2_changeChute_17 : decode cX2_changeChute 17 = .ok (.aload_n 0, 1) := by decide +kernel
theorem dX2_changeChute_18 : decode cX2_changeChute 18 = .ok (.getfield 25, 3) := by decide +kernel
theorem dX2_changeChute_21 : decode cX2_changeChute 21 = .ok (.getfield 77, 3) := by decide +kernel
theorem dX2_changeChute_24 : decode cX2_changeChute 24 = .ok (.iload 4, 2) := by decide +kernel
theorem dX2_changeChute_26 : decode cX2_changeChute 26 = .ok (.invokevirtual 63, 3) := by decide +kernel
theorem dX2_changeChute_29 : decode cX2_changeChute 29 = .ok (.iload_n 1, 1) := by decide +kernel
theorem dX2_changeChute_30 : decode cX2_changeChute 30 = .ok (.if_icmp .ne 31, 3) := by decide +kernel
theorem dX2_changeChute_33 : decode cX2_changeChute 33 = .ok (.aload_n 0, 1) := by decide +kernel
theorem dX2_changeChute_34 : decode cX2_changeChute 34 = .ok (.iload 4, 2) := by decide +kernel
theorem dX2_changeChute_36 : decode cX2_changeChute 36 = .ok (.invokevirtual 80, 3) := by decide +kernel
theorem dX2_changeChute_39 : decode cX2_changeChute 39 = .ok (.ifCond .eq 22, 3) := by decide +kernel
theorem dX2_changeChute_42 : decode cX2_changeChute 42 = .ok (.aload_n 0, 1) := by decide +kernel
theorem dX2_changeChute_43 : decode cX2_changeChute 43 = .ok (.getfield 25, 3) := by decide +kernel
theorem dX2_changeChute_46 : decode cX2_changeChute 46 = .ok (.getfield 84, 3) := by decide +kernel
theorem dX2_changeChute_49 : decode cX2_changeChute 49 = .ok (.iload 4, 2) := by decide +kernel
theorem dX2_changeChute_51 : decode cX2_changeChute 51 = .ok (.invokevirtual 63, 3) := by decide +kernel
theorem dX2_changeChute_54 : decode cX2_changeChute 54 = .ok (.iload_n 2, 1) := by decide +kernel
theorem dX2_changeChute_55 : decode cX2_changeChute 55 = .ok (.if_icmp .eq 6, 3) := by decide +kernel
theorem dX2_changeChute_58 : decode cX2_changeChute 58 = .ok (.iinc 3 1, 3) := by decide +kernel
theorem dX2_changeChute_61 : decode cX2_changeChute 61 = .ok (.iinc 4 1, 3) := by decide +kernel
theorem dX2_changeChute_64 : decode cX2_changeChute 64 = .ok (.goto (-59), 3) := by decide +kernel
theorem dX2_changeChute_67 : decode cX2_changeChute 67 = .ok (.aload_n 0, 1) := by decide +kernel
theorem dX2_changeChute_68 : decode cX2_changeChute 68 = .ok (.getfield 18, 3) := by decide +kernel
theorem dX2_changeChute_71 : decode cX2_changeChute 71 = .ok (.getfield 87, 3) := by decide +kernel
theorem dX2_changeChute_74 : decode cX2_changeChute 74 = .ok (.iload_n 1, 1) := by decide +kernel
theorem dX2_changeChute_75 : decode cX2_changeChute 75 = .ok (.iload_n 2, 1) := by decide +kernel
theorem dX2_changeChute_76 : decode cX2_changeChute 76 = .ok (.invokevirtual 70, 3) := by decide +kernel
theorem dX2_changeChute_79 : decode cX2_changeChute 79 = .ok (.iload_n 3, 1) := by decide +kernel
theorem dX2_changeChute_80 : decode cX2_changeChute 80 = .ok (.ireturn, 1) := by decide +kernel
theorem dX2_clearMisrouted_0 : decode cX2_clearMisrouted 0 = .ok (.iconst 0, 1) := by decide +kernel
theorem dX2_clearMisrouted_1 : decode cX2_clearMisrouted 1 = .ok (.istore_n 2, 1) := by decide +kernel
theorem dX2_clearMisrouted_2 : decode cX2_clearMisrouted 2 = .ok (.iconst 0, 1) := by decide +kernel
theorem dX2_clearMisrouted_3 : decode cX2_clearMisrouted 3 = .ok (.istore_n 3, 1) := by decide +kernel
theorem dX2_clearMisrouted_4 : decode cX2_clearMisrouted 4 = .ok (.iload_n 3, 1) := by decide +kernel
theorem dX2_clearMisrouted_5 : decode cX2_clearMisrouted 5 = .ok (.aload_n 0, 1) := by decide +kernel
theorem dX2_clearMisrouted_6 : decode cX2_clearMisrouted 6 = .ok (.getfield 25, 3) := by decide +kernel
theorem dX2_clearMisrouted_9 : decode cX2_clearMisrouted 9 = .ok (.getfield 74, 3) := by decide +kernel
theorem dX2_clearMisrouted_12 : decode cX2_clearMisrouted 12 = .ok (.if_icmp .ge 52, 3) := by decide +kernel
theorem dX2_clearMisrouted_15 : decode cX2_clearMisrouted 15 = .ok (.aload_n 0, 1) := by decide +kernel
theorem dX2_clearMisrouted_16 : decode cX2_clearMisrouted 16 = .ok (.getfield 25, 3) := by decide +kernel
theorem dX2_clearMisrouted_19 : decode cX2_clearMisrouted 19 = .ok (.getfield 84, 3) := by decide +kernel
theorem dX2_clearMisrouted_22 : decode cX2_clearMisrouted 22 = .ok (.iload_n 3, 1) := by decide +kernel
theorem dX2_clearMisrouted_23 : decode cX2_clearMisrouted 23 = .ok (.invokevirtual 63, 3) := by decide +kernel
theorem dX2_clearMisrouted_26 : decode cX2_clearMisrouted 26 = .ok (.iload_n 1, 1) := by decide +kernel
theorem dX2_clearMisrouted_27 : decode cX2_clearMisrouted 27 = .ok (.if_icmp .ne 31, 3) := by decide +kernel
theorem dX2_clearMisrouted_30 : decode cX2_clearMisrouted 30 = .ok (.aload_n 0, 1) := by decide +kernel
theorem dX2_clearMisrouted_31 : decode cX2_clearMisrouted 31 = .ok (.iload_n 3, 1) := by decide +kernel
theorem dX2_clearMisrouted_32 : decode cX2_clearMisrouted 32 = .ok (.invokevirtual 88, 3) := by decide +kernel
theorem dX2_clearMisrouted_35 : decode cX2_clearMisrouted 35 = .ok (.ifCond .eq 23, 3) := by decide +kernel
theorem dX2_clearMisrouted_38 : decode cX2_clearMisrouted 38 = .ok (.aload_n 0, 1) := by decide +kernel
theorem dX2_clearMisrouted_39 : decode cX2_clearMisrouted 39 = .ok (.getfield 25, 3) := by decide +kernel
theorem dX2_clearMisrouted_42 : decode cX2_clearMisrouted 42 = .ok (.iload_n 3, 1) := by decide +kernel
theorem dX2_clearMisrouted_43 : decode cX2_clearMisrouted 43 = .ok (.iconst 3, 1) := by decide +kernel
theorem dX2_clearMisrouted_44 : decode cX2_clearMisrouted 44 = .ok (.invokevirtual 91, 3) := by decide +kernel
theorem dX2_clearMisrouted_47 : decode cX2_clearMisrouted 47 = .ok (.aload_n 0, 1) := by decide +kernel
theorem dX2_clearMisrouted_48 : decode cX2_clearMisrouted 48 = .ok (.getfield 25, 3) := by decide +kernel
theorem dX2_clearMisrouted_51 : decode cX2_clearMisrouted 51 = .ok (.iload_n 3, 1) := by decide +kernel
theorem dX2_clearMisrouted_52 : decode cX2_clearMisrouted 52 = .ok (.invokevirtual 94, 3) := by decide +kernel
theorem dX2_clearMisrouted_55 : decode cX2_clearMisrouted 55 = .ok (.iinc 2 1, 3) := by decide +kernel
theorem dX2_clearMisrouted_58 : decode cX2_clearMisrouted 58 = .ok (.iinc 3 1, 3) := by decide +kernel
theorem dX2_clearMisrouted_61 : decode cX2_clearMisrouted 61 = .ok (.goto (-57), 3) := by decide +kernel
theorem dX2_clearMisrouted_64 : decode cX2_clearMisrouted 64 = .ok (.iload_n 2, 1) := by decide +kernel
theorem dX2_clearMisrouted_65 : decode cX2_clearMisrouted 65 = .ok (.ireturn, 1) := by decide +kernel
theorem dX2_letLeave_0 : decode cX2_letLeave 0 = .ok (.iconst 0, 1) := by decide +kernel
theorem dX2_letLeave_1 : decode cX2_letLeave 1 = .ok (.istore_n 2, 1) := by decide +kernel
theorem dX2_letLeave_2 : decode cX2_letLeave 2 = .ok (.iconst 0, 1) := by decide +kernel
theorem dX2_letLeave_3 : decode cX2_letLeave 3 = .ok (.istore_n 3, 1) := by decide +kernel
theorem dX2_letLeave_4 : decode cX2_letLeave 4 = .ok (.iload_n 3, 1) := by decide +kernel
theorem dX2_letLeave_5 : decode cX2_letLeave 5 = .ok (.aload_n 0, 1) := by decide +kernel
theorem dX2_letLeave_6 : decode cX2_letLeave 6 = .ok (.getfield 25, 3) := by decide +kernel
theorem dX2_letLeave_9 : decode cX2_letLeave 9 = .ok (.getfield 74, 3) := by decide +kernel
theorem dX2_letLeave_12 : decode cX2_letLeave 12 = .ok (.if_icmp .ge 62, 3) := by decide +kernel
theorem dX2_letLeave_15 : decode cX2_letLeave 15 = .ok (.aload_n 0, 1) := by decide +kernel
theorem dX2_letLeave_16 : decode cX2_letLeave 16 = .ok (.getfield 25, 3) := by decide +kernel
theorem dX2_letLeave_19 : decode cX2_letLeave 19 = .ok (.getfield 77, 3) := by decide +kernel
theorem dX2_letLeave_22 : decode cX2_letLeave 22 = .ok (.iload_n 3, 1) := by decide +kernel
theorem dX2_letLeave_23 : decode cX2_letLeave 23 = .ok (.invokevirtual 63, 3) := by decide +kernel
theorem dX2_letLeave_26 : decode cX2_letLeave 26 = .ok (.iload_n 1, 1) := by decide +kernel
theorem dX2_letLeave_27 : decode cX2_letLeave 27 = .ok (.if_icmp .eq 6, 3) := by decide +kernel
theorem dX2_letLeave_30 : decode cX2_letLeave 30 = .ok (.goto 38, 3) := by decide +kernel
theorem dX2_letLeave_33 : decode cX2_letLeave 33 = .ok (.aload_n 0, 1) := by decide +kernel
theorem dX2_letLeave_34 : decode cX2_letLeave 34 = .ok (.iload_n 3, 1) := by decide +kernel
theorem dX2_letLeave_35 : decode cX2_letLeave 35 = .ok (.invokevirtual 80, 3) := by decide +kernel
theorem dX2_letLeave_38 : decode cX2_letLeave 38 = .ok (.ifCond .eq 18, 3) := by decide +kernel
theorem dX2_letLeave_41 : decode cX2_letLeave 41 = .ok (.aload_n 0, 1) := by decide +kernel
theorem dX2_letLeave_42 : decode cX2_letLeave 42 = .ok (.getfield 25, 3) := by decide +kernel
theorem dX2_letLeave_45 : decode cX2_letLeave 45 = .ok (.iload_n 3, 1) := by decide +kernel
theorem dX2_letLeave_46 : decode cX2_letLeave 46 = .ok (.iconst 5, 1) := by decide +kernel
theorem dX2_letLeave_47 : decode cX2_letLeave 47 = .ok (.invokevirtual 91, 3) := by decide +kernel
theorem dX2_letLeave_50 : decode cX2_letLeave 50 = .ok (.iinc 2 1, 3) := by decide +kernel
theorem dX2_letLeave_53 : decode cX2_letLeave 53 = .ok (.goto 15, 3) := by decide +kernel
theorem dX2_letLeave_56 : decode cX2_letLeave 56 = .ok (.aload_n 0, 1) := by decide +kernel
theorem dX2_letLeave_57 : decode cX2_letLeave 57 = .ok (.getfield 25, 3) := by decide +kernel
theorem dX2_letLeave_60 : decode cX2_letLeave 60 = .ok (.getfield 98, 3) := by decide +kernel
theorem dX2_letLeave_63 : decode cX2_letLeave 63 = .ok (.iload_n 3, 1) := by decide +kernel
theorem dX2_letLeave_64 : decode cX2_letLeave 64 = .ok (.iconst 1, 1) := by decide +kernel
theorem dX2_letLeave_65 : decode cX2_letLeave 65 = .ok (.invokevirtual 70, 3) := by decide +kernel
theorem dX2_letLeave_68 : decode cX2_letLeave 68 = .ok (.iinc 3 1, 3) := by decide +kernel
theorem dX2_letLeave_71 : decode cX2_letLeave 71 = .ok (.goto (-67), 3) := by decide +kernel
theorem dX2_letLeave_74 : decode cX2_letLeave 74 = .ok (.aload_n 0, 1) := by decide +kernel
theorem dX2_letLeave_75 : decode cX2_letLeave 75 = .ok (.getfield 18, 3) := by decide +kernel
theorem dX2_letLeave_78 : decode cX2_letLeave 78 = .ok (.getfield 101, 3) := by decide +kernel
theorem dX2_letLeave_81 : decode cX2_letLeave 81 = .ok (.iload_n 1, 1) := by decide +kernel
theorem dX2_letLeave_82 : decode cX2_letLeave 82 = .ok (.iconst 1, 1) := by decide +kernel
theorem dX2_letLeave_83 : decode cX2_letLeave 83 = .ok (.invokevirtual 70, 3) := by decide +kernel
theorem dX2_letLeave_86 : decode cX2_letLeave 86 = .ok (.iload_n 2, 1) := by decide +kernel
theorem dX2_letLeave_87 : decode cX2_letLeave 87 = .ok (.ireturn, 1) := by decide +kernel
theorem dX2_goMinutes_0 : decode cX2_goMinutes 0 = .ok (.iconst 0, 1) := by decide +kernel
theorem dX2_goMinutes_1 : decode cX2_goMinutes 1 = .ok (.istore_n 2, 1) := by decide +kernel
theorem dX2_goMinutes_2 : decode cX2_goMinutes 2 = .ok (.iconst 0, 1) := by decide +kernel
theorem dX2_goMinutes_3 : decode cX2_goMinutes 3 = .ok (.istore_n 3, 1) := by decide +kernel
theorem dX2_goMinutes_4 : decode cX2_goMinutes 4 = .ok (.iload_n 3, 1) := by decide +kernel
theorem dX2_goMinutes_5 : decode cX2_goMinutes 5 = .ok (.iload_n 1, 1) := by decide +kernel
theorem dX2_goMinutes_6 : decode cX2_goMinutes 6 = .ok (.if_icmp .ge 16, 3) := by decide +kernel
theorem dX2_goMinutes_9 : decode cX2_goMinutes 9 = .ok (.iload_n 2, 1) := by decide +kernel
theorem dX2_goMinutes_10 : decode cX2_goMinutes 10 = .ok (.aload_n 0, 1) := by decide +kernel
theorem dX2_goMinutes_11 : decode cX2_goMinutes 11 = .ok (.invokevirtual 104, 3) := by decide +kernel
theorem dX2_goMinutes_14 : decode cX2_goMinutes 14 = .ok (.iadd, 1) := by decide +kernel
theorem dX2_goMinutes_15 : decode cX2_goMinutes 15 = .ok (.istore_n 2, 1) := by decide +kernel
theorem dX2_goMinutes_16 : decode cX2_goMinutes 16 = .ok (.iinc 3 1, 3) := by decide +kernel
theorem dX2_goMinutes_19 : decode cX2_goMinutes 19 = .ok (.goto (-15), 3) := by decide +kernel
theorem dX2_goMinutes_22 : decode cX2_goMinutes 22 = .ok (.iload_n 2, 1) := by decide +kernel
theorem dX2_goMinutes_23 : decode cX2_goMinutes 23 = .ok (.ireturn, 1) := by decide +kernel
theorem dX2_goMinute_0 : decode cX2_goMinute 0 = .ok (.aload_n 0, 1) := by decide +kernel
theorem dX2_goMinute_1 : decode cX2_goMinute 1 = .ok (.getfield 38, 3) := by decide +kernel
theorem dX2_goMinute_4 : decode cX2_goMinute 4 = .ok (.invokevirtual 108, 3) := by decide +kernel
theorem dX2_goMinute_7 : decode cX2_goMinute 7 = .ok (.aload_n 0, 1) := by decide +kernel
theorem dX2_goMinute_8 : decode cX2_goMinute 8 = .ok (.invokevirtual 111, 3) := by decide +kernel
theorem dX2_goMinute_11 : decode cX2_goMinute 11 = .ok (.aload_n 0, 1) := by decide +kernel
theorem dX2_goMinute_12 : decode cX2_goMinute 12 = .ok (.invokevirtual 114, 3) := by decide +kernel
theorem dX2_goMinute_15 : decode cX2_goMinute 15 = .ok (.istore_n 1, 1) := by decide +kernel
theorem dX2_goMinute_16 : decode cX2_goMinute 16 = .ok (.aload_n 0, 1) := by decide +kernel
theorem dX2_goMinute_17 : decode cX2_goMinute 17 = .ok (.invokevirtual 117, 3) := by decide +kernel
theorem dX2_goMinute_20 : decode cX2_goMinute 20 = .ok (.aload_n 0, 1) := by decide +kernel
theorem dX2_goMinute_21 : decode cX2_goMinute 21 = .ok (.dup, 1) := by decide +kernel
theorem dX2_goMinute_22 : decode cX2_goMinute 22 = .ok (.getfield 44, 3) := by decide +kernel
theorem dX2_goMinute_25 : decode cX2_goMinute 25 = .ok (.iconst 1, 1) := by decide +kernel
theorem dX2_goMinute_26 : decode cX2_goMinute 26 = .ok (.iadd, 1) := by decide +kernel
theorem dX2_goMinute_27 : decode cX2_goMinute 27 = .ok (.putfield 44, 3) := by decide +kernel
theorem dX2_goMinute_30 : decode cX2_goMinute 30 = .ok (.iload_n 1, 1) := by decide +kernel
theorem dX2_goMinute_31 : decode cX2_goMinute 31 = .ok (.ireturn, 1) := by decide +kernel
theorem dX2_readTag_0 : decode cX2_readTag 0 = .ok (.aload_n 0, 1) := by decide +kernel
theorem dX2_readTag_1 : decode cX2_readTag 1 = .ok (.getfield 38, 3) := by decide +kernel
theorem dX2_readTag_4 : decode cX2_readTag 4 = .ok (.iconst 2, 1) := by decide +kernel
theorem dX2_readTag_5 : decode cX2_readTag 5 = .ok (.invokevirtual 63, 3) := by decide +kernel
theorem dX2_readTag_8 : decode cX2_readTag 8 = .ok (.istore_n 1, 1) := by decide +kernel
theorem dX2_readTag_9 : decode cX2_readTag 9 = .ok (.iload_n 1, 1) := by decide +kernel
theorem dX2_readTag_10 : decode cX2_readTag 10 = .ok (.iconst (-1), 1) := by decide +kernel
theorem dX2_readTag_11 : decode cX2_readTag 11 = .ok (.if_icmp .eq 18, 3) := by decide +kernel
theorem dX2_readTag_14 : decode cX2_readTag 14 = .ok (.aload_n 0, 1) := by decide +kernel
theorem dX2_readTag_15 : decode cX2_readTag 15 = .ok (.getfield 25, 3) := by decide +kernel
theorem dX2_readTag_18 : decode cX2_readTag 18 = .ok (.getfield 120, 3) := by decide +kernel
theorem dX2_readTag_21 : decode cX2_readTag 21 = .ok (.iload_n 1, 1) := by decide +kernel
theorem dX2_readTag_22 : decode cX2_readTag 22 = .ok (.invokevirtual 63, 3) := by decide +kernel
theorem dX2_readTag_25 : decode cX2_readTag 25 = .ok (.iconst (-1), 1) := by decide +kernel
theorem dX2_readTag_26 : decode cX2_readTag 26 = .ok (.if_icmp .eq 4, 3) := by decide +kernel
theorem dX2_readTag_29 : decode cX2_readTag 29 = .ok (.return_, 1) := by decide +kernel
theorem dX2_readTag_30 : decode cX2_readTag 30 = .ok (.aload_n 0, 1) := by decide +kernel
theorem dX2_readTag_31 : decode cX2_readTag 31 = .ok (.getfield 18, 3) := by decide +kernel
theorem dX2_readTag_34 : decode cX2_readTag 34 = .ok (.getfield 87, 3) := by decide +kernel
theorem dX2_readTag_37 : decode cX2_readTag 37 = .ok (.aload_n 0, 1) := by decide +kernel
theorem dX2_readTag_38 : decode cX2_readTag 38 = .ok (.getfield 25, 3) := by decide +kernel
theorem dX2_readTag_41 : decode cX2_readTag 41 = .ok (.getfield 77, 3) := by decide +kernel
theorem dX2_readTag_44 : decode cX2_readTag 44 = .ok (.iload_n 1, 1) := by decide +kernel
theorem dX2_readTag_45 : decode cX2_readTag 45 = .ok (.invokevirtual 63, 3) := by decide +kernel
theorem dX2_readTag_48 : decode cX2_readTag 48 = .ok (.invokevirtual 63, 3) := by decide +kernel
theorem dX2_readTag_51 : decode cX2_readTag 51 = .ok (.istore_n 2, 1) := by decide +kernel
theorem dX2_readTag_52 : decode cX2_readTag 52 = .ok (.aload_n 0, 1) := by decide +kernel
theorem dX2_readTag_53 : decode cX2_readTag 53 = .ok (.getfield 25, 3) := by decide +kernel
theorem dX2_readTag_56 : decode cX2_readTag 56 = .ok (.getfield 123, 3) := by decide +kernel
theorem dX2_readTag_59 : decode cX2_readTag 59 = .ok (.iload_n 1, 1) := by decide +kernel
theorem dX2_readTag_60 : decode cX2_readTag 60 = .ok (.invokevirtual 63, 3) := by decide +kernel
theorem dX2_readTag_63 : decode cX2_readTag 63 = .ok (.aload_n 0, 1) := by decide +kernel
theorem dX2_readTag_64 : decode cX2_readTag 64 = .ok (.getfield 9, 3) := by decide +kernel
theorem dX2_readTag_67 : decode cX2_readTag 67 = .ok (.if_icmp .gt 23, 3) := by decide +kernel
theorem dX2_readTag_70 : decode cX2_readTag 70 = .ok (.iload_n 2, 1) := by decide +kernel
theorem dX2_readTag_71 : decode cX2_readTag 71 = .ok (.iconst (-1), 1) := by decide +kernel
theorem dX2_readTag_72 : decode cX2_readTag 72 = .ok (.if_icmp .eq 18, 3) := by decide +kernel
theorem dX2_readTag_75 : decode cX2_readTag 75 = .ok (.aload_n 0, 1) := by decide +kernel
theorem dX2_readTag_76 : decode cX2_readTag 76 = .ok (.getfield 25, 3) := by decide +kernel
theorem dX2_readTag_79 : decode cX2_readTag 79 = .ok (.getfield 120, 3) := by decide +kernel
theorem dX2_readTag_82 : decode cX2_readTag 82 = .ok (.iload_n 1, 1) := by decide +kernel
theorem dX2_readTag_83 : decode cX2_readTag 83 = .ok (.iload_n 2, 1) := by decide +kernel
theorem dX2_readTag_84 : decode cX2_readTag 84 = .ok (.invokevirtual 70, 3) := by decide +kernel
theorem dX2_readTag_87 : decode cX2_readTag 87 = .ok (.goto 8, 3) := by decide +kernel
theorem dX2_readTag_90 : decode cX2_readTag 90 = .ok (.aload_n 0, 1) := by decide +kernel
theorem dX2_readTag_91 : decode cX2_readTag 91 = .ok (.iload_n 1, 1) := by decide +kernel
theorem dX2_readTag_92 : decode cX2_readTag 92 = .ok (.invokevirtual 126, 3) := by decide +kernel
theorem dX2_readTag_95 : decode cX2_readTag 95 = .ok (.return_, 1) := by decide +kernel
theorem dX2_missTag_0 : decode cX2_missTag 0 = .ok (.aload_n 0, 1) := by decide +kernel
theorem dX2_missTag_1 : decode cX2_missTag 1 = .ok (.getfield 25, 3) := by decide +kernel
theorem dX2_missTag_4 : decode cX2_missTag 4 = .ok (.getfield 129, 3) := by decide +kernel
theorem dX2_missTag_7 : decode cX2_missTag 7 = .ok (.iload_n 1, 1) := by decide +kernel
theorem dX2_missTag_8 : decode cX2_missTag 8 = .ok (.invokevirtual 63, 3) := by decide +kernel
theorem dX2_missTag_11 : decode cX2_missTag 11 = .ok (.iconst 1, 1) := by decide +kernel
theorem dX2_missTag_12 : decode cX2_missTag 12 = .ok (.iadd, 1) := by decide +kernel
theorem dX2_missTag_13 : decode cX2_missTag 13 = .ok (.istore_n 2, 1) := by decide +kernel
theorem dX2_missTag_14 : decode cX2_missTag 14 = .ok (.aload_n 0, 1) := by decide +kernel
theorem dX2_missTag_15 : decode cX2_missTag 15 = .ok (.getfield 25, 3) := by decide +kernel
theorem dX2_missTag_18 : decode cX2_missTag 18 = .ok (.getfield 129, 3) := by decide +kernel
theorem dX2_missTag_21 : decode cX2_missTag 21 = .ok (.iload_n 1, 1) := by decide +kernel
theorem dX2_missTag_22 : decode cX2_missTag 22 = .ok (.iload_n 2, 1) := by decide +kernel
theorem dX2_missTag_23 : decode cX2_missTag 23 = .ok (.invokevirtual 70, 3) := by decide +kernel
theorem dX2_missTag_26 : decode cX2_missTag 26 = .ok (.iload_n 2, 1) := by decide +kernel
theorem dX2_missTag_27 : decode cX2_missTag 27 = .ok (.iconst 3, 1) := by decide +kernel
theorem dX2_missTag_28 : decode cX2_missTag 28 = .ok (.if_icmp .lt 24, 3) := by decide +kernel
theorem dX2_missTag_31 : decode cX2_missTag 31 = .ok (.aload_n 0, 1) := by decide +kernel
theorem dX2_missTag_32 : decode cX2_missTag 32 = .ok (.getfield 38, 3) := by decide +kernel
theorem dX2_missTag_35 : decode cX2_missTag 35 = .ok (.iconst 2, 1) := by decide +kernel
theorem dX2_missTag_36 : decode cX2_missTag 36 = .ok (.iconst (-1), 1) := by decide +kernel
theorem dX2_missTag_37 : decode cX2_missTag 37 = .ok (.invokevirtual 70, 3) := by decide +kernel
theorem dX2_missTag_40 : decode cX2_missTag 40 = .ok (.aload_n 0, 1) := by decide +kernel
theorem dX2_missTag_41 : decode cX2_missTag 41 = .ok (.getfield 25, 3) := by decide +kernel
theorem dX2_missTag_44 : decode cX2_missTag 44 = .ok (.getfield 67, 3) := by decide +kernel
theorem dX2_missTag_47 : decode cX2_missTag 47 = .ok (.iload_n 1, 1) := by decide +kernel
theorem dX2_missTag_48 : decode cX2_missTag 48 = .ok (.iconst 3, 1) := by decide +kernel
theorem dX2_missTag_49 : decode cX2_missTag 49 = .ok (.invokevirtual 70, 3) := by decide +kernel
theorem dX2_missTag_52 : decode cX2_missTag 52 = .ok (.return_, 1) := by decide +kernel
theorem dX2_fillChutes_0 : decode cX2_fillChutes 0 = .ok (.iconst 0, 1) := by decide +kernel
theorem dX2_fillChutes_1 : decode cX2_fillChutes 1 = .ok (.istore_n 1, 1) := by decide +kernel
theorem dX2_fillChutes_2 : decode cX2_fillChutes 2 = .ok (.iconst 0, 1) := by decide +kernel
theorem dX2_fillChutes_3 : decode cX2_fillChutes 3 = .ok (.istore_n 2, 1) := by decide +kernel
theorem dX2_fillChutes_4 : decode cX2_fillChutes 4 = .ok (.iload_n 2, 1) := by decide +kernel
theorem dX2_fillChutes_5 : decode cX2_fillChutes 5 = .ok (.iconst 4, 1) := by decide +kernel
theorem dX2_fillChutes_6 : decode cX2_fillChutes 6 = .ok (.if_icmp .ge 77, 3) := by decide +kernel
theorem dX2_fillChutes_9 : decode cX2_fillChutes 9 = .ok (.iconst 4, 1) := by decide +kernel
theorem dX2_fillChutes_10 : decode cX2_fillChutes 10 = .ok (.iconst 2, 1) := by decide +kernel
theorem dX2_fillChutes_11 : decode cX2_fillChutes 11 = .ok (.iload_n 2, 1) := by decide +kernel
theorem dX2_fillChutes_12 : decode cX2_fillChutes 12 = .ok (.imul, 1) := by decide +kernel
theorem dX2_fillChutes_13 : decode cX2_fillChutes 13 = .ok (.iadd, 1) := by decide +kernel
theorem dX2_fillChutes_14 : decode cX2_fillChutes 14 = .ok (.istore_n 3, 1) := by decide +kernel
theorem dX2_fillChutes_15 : decode cX2_fillChutes 15 = .ok (.aload_n 0, 1) := by decide +kernel
theorem dX2_fillChutes_16 : decode cX2_fillChutes 16 = .ok (.getfield 38, 3) := by decide +kernel
theorem dX2_fillChutes_19 : decode cX2_fillChutes 19 = .ok (.iload_n 3, 1) := by decide +kernel
theorem dX2_fillChutes_20 : decode cX2_fillChutes 20 = .ok (.invokevirtual 63, 3) := by decide +kernel
theorem dX2_fillChutes_23 : decode cX2_fillChutes 23 = .ok (.istore 4, 2) := by decide +kernel
theorem dX2_fillChutes_25 : decode cX2_fillChutes 25 = .ok (.iload 4, 2) := by decide +kernel
theorem dX2_fillChutes_27 : decode cX2_fillChutes 27 = .ok (.iconst (-1), 1) := by decide +kernel
theorem dX2_fillChutes_28 : decode cX2_fillChutes 28 = .ok (.if_icmp .eq 49, 3) := by decide +kernel
theorem dX2_fillChutes_31 : decode cX2_fillChutes 31 = .ok (.aload_n 0, 1) := by decide +kernel
theorem dX2_fillChutes_32 : decode cX2_fillChutes 32 = .ok (.getfield 25, 3) := by decide +kernel
theorem dX2_fillChutes_35 : decode cX2_fillChutes 35 = .ok (.getfield 120, 3) := by decide +kernel
theorem dX2_fillChutes_38 : decode cX2_fillChutes 38 = .ok (.iload 4, 2) := by decide +kernel
theorem dX2_fillChutes_40 : decode cX2_fillChutes 40 = .ok (.invokevirtual 63, 3) := by decide +kernel
theorem dX2_fillChutes_43 : decode cX2_fillChutes 43 = .ok (.iload_n 2, 1) := by decide +kernel
theorem dX2_fillChutes_44 : decode cX2_fillChutes 44 = .ok (.if_icmp .ne 33, 3) := by decide +kernel
theorem dX2_fillChutes_47 : decode cX2_fillChutes 47 = .ok (.aload_n 0, 1) := by decide +kernel
theorem dX2_fillChutes_48 : decode cX2_fillChutes 48 = .ok (.iload_n 2, 1) := by decide +kernel
theorem dX2_fillChutes_49 : decode cX2_fillChutes 49 = .ok (.invokevirtual 132, 3) := by decide +kernel
theorem dX2_fillChutes_52 : decode cX2_fillChutes 52 = .ok (.ifCond .eq 25, 3) := by decide +kernel
theorem dX2_fillChutes_55 : decode cX2_fillChutes 55 = .ok (.aload_n 0, 1) := by decide +kernel
theorem dX2_fillChutes_56 : decode cX2_fillChutes 56 = .ok (.getfield 38, 3) := by decide +kernel
theorem dX2_fillChutes_59 : decode cX2_fillChutes 59 = .ok (.iload_n 3, 1) := by decide +kernel
theorem dX2_fillChutes_60 : decode cX2_fillChutes 60 = .ok (.iconst (-1), 1) := by decide +kernel
theorem dX2_fillChutes_61 : decode cX2_fillChutes 61 = .ok (.invokevirtual 70, 3) := by decide +kernel
theorem dX2_fillChutes_64 : decode cX2_fillChutes 64 = .ok (.aload_n 0, 1) := by decide +kernel
theorem dX2_fillChutes_65 : decode cX2_fillChutes 65 = .ok (.getfield 25, 3) := by decide +kernel
theorem dX2_fillChutes_68 : decode cX2_fillChutes 68 = .ok (.iload 4, 2) := by decide +kernel
theorem dX2_fillChutes_70 : decode cX2_fillChutes 70 = .ok (.iload_n 2, 1) := by decide +kernel
theorem dX2_fillChutes_71 : decode cX2_fillChutes 71 = .ok (.invokevirtual 135, 3) := by decide +kernel
theorem dX2_fillChutes_74 : decode cX2_fillChutes 74 = .ok (.iinc 1 1, 3) := by decide +kernel
theorem dX2_fillChutes_77 : decode cX2_fillChutes 77 = .ok (.iinc 2 1, 3) := by decide +kernel
theorem dX2_fillChutes_80 : decode cX2_fillChutes 80 = .ok (.goto (-76), 3) := by decide +kernel
theorem dX2_fillChutes_83 : decode cX2_fillChutes 83 = .ok (.iload_n 1, 1) := by decide +kernel
theorem dX2_fillChutes_84 : decode cX2_fillChutes 84 = .ok (.ireturn, 1) := by decide +kernel
theorem dX2_feedBelt_0 : decode cX2_feedBelt 0 = .ok (.aload_n 0, 1) := by decide +kernel
theorem dX2_feedBelt_1 : decode cX2_feedBelt 1 = .ok (.getfield 38, 3) := by decide +kernel
theorem dX2_feedBelt_4 : decode cX2_feedBelt 4 = .ok (.iconst 0, 1) := by decide +kernel
theorem dX2_feedBelt_5 : decode cX2_feedBelt 5 = .ok (.invokevirtual 63, 3) := by decide +kernel
theorem dX2_feedBelt_8 : decode cX2_feedBelt 8 = .ok (.iconst (-1), 1) := by decide +kernel
theorem dX2_feedBelt_9 : decode cX2_feedBelt 9 = .ok (.if_icmp .ne 10, 3) := by decide +kernel
theorem dX2_feedBelt_12 : decode cX2_feedBelt 12 = .ok (.aload_n 0, 1) := by decide +kernel
theorem dX2_feedBelt_13 : decode cX2_feedBelt 13 = .ok (.getfield 47, 3) := by decide +kernel
theorem dX2_feedBelt_16 : decode cX2_feedBelt 16 = .ok (.ifCond .gt 4, 3) := by decide +kernel
theorem dX2_feedBelt_19 : decode cX2_feedBelt 19 = .ok (.return_, 1) := by decide +kernel
theorem dX2_feedBelt_20 : decode cX2_feedBelt 20 = .ok (.aload_n 0, 1) := by decide +kernel
theorem dX2_feedBelt_21 : decode cX2_feedBelt 21 = .ok (.getfield 41, 3) := by decide +kernel
theorem dX2_feedBelt_24 : decode cX2_feedBelt 24 = .ok (.invokevirtual 138, 3) := by decide +kernel
theorem dX2_feedBelt_27 : decode cX2_feedBelt 27 = .ok (.istore_n 1, 1) := by decide +kernel
theorem dX2_feedBelt_28 : decode cX2_feedBelt 28 = .ok (.aload_n 0, 1) := by decide +kernel
theorem dX2_feedBelt_29 : decode cX2_feedBelt 29 = .ok (.dup, 1) := by decide +kernel
theorem dX2_feedBelt_30 : decode cX2_feedBelt 30 = .ok (.getfield 47, 3) := by decide +kernel
theorem dX2_feedBelt_33 : decode cX2_feedBelt 33 = .ok (.iconst 1, 1) := by decide +kernel
theorem dX2_feedBelt_34 : decode cX2_feedBelt 34 = .ok (.isub, 1) := by decide +kernel
theorem dX2_feedBelt_35 : decode cX2_feedBelt 35 = .ok (.putfield 47, 3) := by decide +kernel
theorem dX2_feedBelt_38 : decode cX2_feedBelt 38 = .ok (.aload_n 0, 1) := by decide +kernel
theorem dX2_feedBelt_39 : decode cX2_feedBelt 39 = .ok (.getfield 38, 3) := by decide +kernel
theorem dX2_feedBelt_42 : decode cX2_feedBelt 42 = .ok (.iconst 0, 1) := by decide +kernel
theorem dX2_feedBelt_43 : decode cX2_feedBelt 43 = .ok (.iload_n 1, 1) := by decide +kernel
theorem dX2_feedBelt_44 : decode cX2_feedBelt 44 = .ok (.invokevirtual 70, 3) := by decide +kernel
theorem dX2_feedBelt_47 : decode cX2_feedBelt 47 = .ok (.aload_n 0, 1) := by decide +kernel
theorem dX2_feedBelt_48 : decode cX2_feedBelt 48 = .ok (.getfield 25, 3) := by decide +kernel
theorem dX2_feedBelt_51 : decode cX2_feedBelt 51 = .ok (.getfield 67, 3) := by decide +kernel
theorem dX2_feedBelt_54 : decode cX2_feedBelt 54 = .ok (.iload_n 1, 1) := by decide +kernel
theorem dX2_feedBelt_55 : decode cX2_feedBelt 55 = .ok (.iconst 1, 1) := by decide +kernel
theorem dX2_feedBelt_56 : decode cX2_feedBelt 56 = .ok (.invokevirtual 70, 3) := by decide +kernel
theorem dX2_feedBelt_59 : decode cX2_feedBelt 59 = .ok (.return_, 1) := by decide +kernel
theorem dX2_hasRoom_0 : decode cX2_hasRoom 0 = .ok (.aload_n 0, 1) := by decide +kernel
theorem dX2_hasRoom_1 : decode cX2_hasRoom 1 = .ok (.getfield 25, 3) := by decide +kernel
theorem dX2_hasRoom_4 : decode cX2_hasRoom 4 = .ok (.getfield 84, 3) := by decide +kernel
theorem dX2_hasRoom_7 : decode cX2_hasRoom 7 = .ok (.iload_n 1, 1) := by decide +kernel
theorem dX2_hasRoom_8 : decode cX2_hasRoom 8 = .ok (.invokevirtual 141, 3) := by decide +kernel
theorem dX2_hasRoom_11 : decode cX2_hasRoom 11 = .ok (.aload_n 0, 1) := by decide +kernel
theorem dX2_hasRoom_12 : decode cX2_hasRoom 12 = .ok (.getfield 34, 3) := by decide +kernel
theorem dX2_hasRoom_15 : decode cX2_hasRoom 15 = .ok (.iload_n 1, 1) := by decide +kernel
theorem dX2_hasRoom_16 : decode cX2_hasRoom 16 = .ok (.invokevirtual 63, 3) := by decide +kernel
theorem dX2_hasRoom_19 : decode cX2_hasRoom 19 = .ok (.if_icmp .ge 7, 3) := by decide +kernel
theorem dX2_hasRoom_22 : decode cX2_hasRoom 22 = .ok (.iconst 1, 1) := by decide +kernel
theorem dX2_hasRoom_23 : decode cX2_hasRoom 23 = .ok (.goto 4, 3) := by decide +kernel
theorem dX2_hasRoom_26 : decode cX2_hasRoom 26 = .ok (.iconst 0, 1) := by decide +kernel
theorem dX2_hasRoom_27 : decode cX2_hasRoom 27 = .ok (.ireturn, 1) := by decide +kernel
theorem dX2_findOnBelt_0 : decode cX2_findOnBelt 0 = .ok (.aload_n 0, 1) := by decide +kernel
theorem dX2_findOnBelt_1 : decode cX2_findOnBelt 1 = .ok (.getfield 38, 3) := by decide +kernel
theorem dX2_findOnBelt_4 : decode cX2_findOnBelt 4 = .ok (.iload_n 1, 1) := by decide +kernel
theorem dX2_findOnBelt_5 : decode cX2_findOnBelt 5 = .ok (.invokevirtual 143, 3) := by decide +kernel
theorem dX2_findOnBelt_8 : decode cX2_findOnBelt 8 = .ok (.ireturn, 1) := by decide +kernel
theorem dX2_isInOwnChute_0 : decode cX2_isInOwnChute 0 = .ok (.aload_n 0, 1) := by decide +kernel
theorem dX2_isInOwnChute_1 : decode cX2_isInOwnChute 1 = .ok (.getfield 25, 3) := by decide +kernel
theorem dX2_isInOwnChute_4 : decode cX2_isInOwnChute 4 = .ok (.getfield 67, 3) := by decide +kernel
theorem dX2_isInOwnChute_7 : decode cX2_isInOwnChute 7 = .ok (.iload_n 1, 1) := by decide +kernel
theorem dX2_isInOwnChute_8 : decode cX2_isInOwnChute 8 = .ok (.invokevirtual 63, 3) := by decide +kernel
theorem dX2_isInOwnChute_11 : decode cX2_isInOwnChute 11 = .ok (.iconst 2, 1) := by decide +kernel
theorem dX2_isInOwnChute_12 : decode cX2_isInOwnChute 12 = .ok (.if_icmp .ne 42, 3) := by decide +kernel
theorem dX2_isInOwnChute_15 : decode cX2_isInOwnChute 15 = .ok (.aload_n 0, 1) := by decide +kernel
theorem dX2_isInOwnChute_16 : decode cX2_isInOwnChute 16 = .ok (.getfield 25, 3) := by decide +kernel
theorem dX2_isInOwnChute_19 : decode cX2_isInOwnChute 19 = .ok (.getfield 84, 3) := by decide +kernel
theorem dX2_isInOwnChute_22 : decode cX2_isInOwnChute 22 = .ok (.iload_n 1, 1) := by decide +kernel
theorem dX2_isInOwnChute_23 : decode cX2_isInOwnChute 23 = .ok (.invokevirtual 63, 3) := by decide +kernel
theorem dX2_isInOwnChute_26 : decode cX2_isInOwnChute 26 = .ok (.aload_n 0, 1) := by decide +kernel
theorem dX2_isInOwnChute_27 : decode cX2_isInOwnChute 27 = .ok (.getfield 18, 3) := by decide +kernel
theorem dX2_isInOwnChute_30 : decode cX2_isInOwnChute 30 = .ok (.getfield 87, 3) := by decide +kernel
theorem dX2_isInOwnChute_33 : decode cX2_isInOwnChute 33 = .ok (.aload_n 0, 1) := by decide +kernel
theorem dX2_isInOwnChute_34 : decode cX2_isInOwnChute 34 = .ok (.getfield 25, 3) := by decide +kernel
theorem dX2_isInOwnChute_37 : decode cX2_isInOwnChute 37 = .ok (.getfield 77, 3) := by decide +kernel
theorem dX2_isInOwnChute_40 : decode cX2_isInOwnChute 40 = .ok (.iload_n 1, 1) := by decide +kernel
theorem dX2_isInOwnChute_41 : decode cX2_isInOwnChute 41 = .ok (.invokevirtual 63, 3) := by decide +kernel
theorem dX2_isInOwnChute_44 : decode cX2_isInOwnChute 44 = .ok (.invokevirtual 63, 3) := by decide +kernel
theorem dX2_isInOwnChute_47 : decode cX2_isInOwnChute 47 = .ok (.if_icmp .ne 7, 3) := by decide +kernel
theorem dX2_isInOwnChute_50 : decode cX2_isInOwnChute 50 = .ok (.iconst 1, 1) := by decide +kernel
theorem dX2_isInOwnChute_51 : decode cX2_isInOwnChute 51 = .ok (.goto 4, 3) := by decide +kernel
theorem dX2_isInOwnChute_54 : decode cX2_isInOwnChute 54 = .ok (.iconst 0, 1) := by decide +kernel
theorem dX2_isInOwnChute_55 : decode cX2_isInOwnChute 55 = .ok (.ireturn, 1) := by decide +kernel
theorem dX2_isAstray_0 : decode cX2_isAstray 0 = .ok (.aload_n 0, 1) := by decide +kernel
theorem dX2_isAstray_1 : decode cX2_isAstray 1 = .ok (.getfield 25, 3) := by decide +kernel
theorem dX2_isAstray_4 : decode cX2_isAstray 4 = .ok (.getfield 67, 3) := by decide +kernel
theorem dX2_isAstray_7 : decode cX2_isAstray 7 = .ok (.iload_n 1, 1) := by decide +kernel
theorem dX2_isAstray_8 : decode cX2_isAstray 8 = .ok (.invokevirtual 63, 3) := by decide +kernel
theorem dX2_isAstray_11 : decode cX2_isAstray 11 = .ok (.iconst 2, 1) := by decide +kernel
theorem dX2_isAstray_12 : decode cX2_isAstray 12 = .ok (.if_icmp .ne 36, 3) := by decide +kernel
theorem dX2_isAstray_15 : decode cX2_isAstray 15 = .ok (.aload_n 0, 1) := by decide +kernel
theorem dX2_isAstray_16 : decode cX2_isAstray 16 = .ok (.iload_n 1, 1) := by decide +kernel
theorem dX2_isAstray_17 : decode cX2_isAstray 17 = .ok (.invokevirtual 80, 3) := by decide +kernel
theorem dX2_isAstray_20 : decode cX2_isAstray 20 = .ok (.ifCond .eq 24, 3) := by decide +kernel
theorem dX2_isAstray_23 : decode cX2_isAstray 23 = .ok (.aload_n 0, 1) := by decide +kernel
theorem dX2_isAstray_24 : decode cX2_isAstray 24 = .ok (.getfield 18, 3) := by decide +kernel
theorem dX2_isAstray_27 : decode cX2_isAstray 27 = .ok (.aload_n 0, 1) := by decide +kernel
theorem dX2_isAstray_28 : decode cX2_isAstray 28 = .ok (.getfield 25, 3) := by decide +kernel
theorem dX2_isAstray_31 : decode cX2_isAstray 31 = .ok (.getfield 77, 3) := by decide +kernel
theorem dX2_isAstray_34 : decode cX2_isAstray 34 = .ok (.iload_n 1, 1) := by decide +kernel
theorem dX2_isAstray_35 : decode cX2_isAstray 35 = .ok (.invokevirtual 63, 3) := by decide +kernel
theorem dX2_isAstray_38 : decode cX2_isAstray 38 = .ok (.invokevirtual 146, 3) := by decide +kernel
theorem dX2_isAstray_41 : decode cX2_isAstray 41 = .ok (.ifCond .eq 7, 3) := by decide +kernel
theorem dX2_isAstray_44 : decode cX2_isAstray 44 = .ok (.iconst 1, 1) := by decide +kernel
theorem dX2_isAstray_45 : decode cX2_isAstray 45 = .ok (.goto 4, 3) := by decide +kernel
theorem dX2_isAstray_48 : decode cX2_isAstray 48 = .ok (.iconst 0, 1) := by decide +kernel
theorem dX2_isAstray_49 : decode cX2_isAstray 49 = .ok (.ireturn, 1) := by decide +kernel
theorem dX2_isReady_0 : decode cX2_isReady 0 = .ok (.aload_n 0, 1) := by decide +kernel
theorem dX2_isReady_1 : decode cX2_isReady 1 = .ok (.getfield 25, 3) := by decide +kernel
theorem dX2_isReady_4 : decode cX2_isReady 4 = .ok (.getfield 67, 3) := by decide +kernel
theorem dX2_isReady_7 : decode cX2_isReady 7 = .ok (.iload_n 1, 1) := by decide +kernel
theorem dX2_isReady_8 : decode cX2_isReady 8 = .ok (.invokevirtual 63, 3) := by decide +kernel
theorem dX2_isReady_11 : decode cX2_isReady 11 = .ok (.iconst 5, 1) := by decide +kernel
theorem dX2_isReady_12 : decode cX2_isReady 12 = .ok (.if_icmp .ne 5, 3) := by decide +kernel
theorem dX2_isReady_15 : decode cX2_isReady 15 = .ok (.iconst 1, 1) := by decide +kernel
theorem dX2_isReady_16 : decode cX2_isReady 16 = .ok (.ireturn, 1) := by decide +kernel
theorem dX2_isReady_17 : decode cX2_isReady 17 = .ok (.aload_n 0, 1) := by decide +kernel
theorem dX2_isReady_18 : decode cX2_isReady 18 = .ok (.iload_n 1, 1) := by decide +kernel
theorem dX2_isReady_19 : decode cX2_isReady 19 = .ok (.invokevirtual 80, 3) := by decide +kernel
theorem dX2_isReady_22 : decode cX2_isReady 22 = .ok (.ifCond .eq 28, 3) := by decide +kernel
theorem dX2_isReady_25 : decode cX2_isReady 25 = .ok (.aload_n 0, 1) := by decide +kernel
theorem dX2_isReady_26 : decode cX2_isReady 26 = .ok (.getfield 18, 3) := by decide +kernel
theorem dX2_isReady_29 : decode cX2_isReady 29 = .ok (.aload_n 0, 1) := by decide +kernel
theorem dX2_isReady_30 : decode cX2_isReady 30 = .ok (.getfield 25, 3) := by decide +kernel
theorem dX2_isReady_33 : decode cX2_isReady 33 = .ok (.getfield 77, 3) := by decide +kernel
theorem dX2_isReady_36 : decode cX2_isReady 36 = .ok (.iload_n 1, 1) := by decide +kernel
theorem dX2_isReady_37 : decode cX2_isReady 37 = .ok (.invokevirtual 63, 3) := by decide +kernel
theorem dX2_isReady_40 : decode cX2_isReady 40 = .ok (.invokevirtual 146, 3) := by decide +kernel
theorem dX2_isReady_43 : decode cX2_isReady 43 = .ok (.ifCond .ne 7, 3) := by decide +kernel
theorem dX2_isReady_46 : decode cX2_isReady 46 = .ok (.iconst 1, 1) := by decide +kernel
theorem dX2_isReady_47 : decode cX2_isReady 47 = .ok (.goto 4, 3) := by decide +kernel
theorem dX2_isReady_50 : decode cX2_isReady 50 = .ok (.iconst 0, 1) := by decide +kernel
theorem dX2_isReady_51 : decode cX2_isReady 51 = .ok (.ireturn, 1) := by decide +kernel
theorem dX2_countMisrouted_0 : decode cX2_countMisrouted 0 = .ok (.iconst 0, 1) := by decide +kernel
theorem dX2_countMisrouted_1 : decode cX2_countMisrouted 1 = .ok (.istore_n 2, 1) := by decide +kernel
theorem dX2_countMisrouted_2 : decode cX2_countMisrouted 2 = .ok (.iconst 0, 1) := by decide +kernel
theorem dX2_countMisrouted_3 : decode cX2_countMisrouted 3 = .ok (.istore_n 3, 1) := by decide +kernel
theorem dX2_countMisrouted_4 : decode cX2_countMisrouted 4 = .ok (.iload_n 3, 1) := by decide +kernel
theorem dX2_countMisrouted_5 : decode cX2_countMisrouted 5 = .ok (.aload_n 0, 1) := by decide +kernel
theorem dX2_countMisrouted_6 : decode cX2_countMisrouted 6 = .ok (.getfield 25, 3) := by decide +kernel
theorem dX2_countMisrouted_9 : decode cX2_countMisrouted 9 = .ok (.getfield 74, 3) := by decide +kernel
theorem dX2_countMisrouted_12 : decode cX2_countMisrouted 12 = .ok (.if_icmp .ge 35, 3) := by decide +kernel
theorem dX2_countMisrouted_15 : decode cX2_countMisrouted 15 = .ok (.aload_n 0, 1) := by decide +kernel
theorem dX2_countMisrouted_16 : decode cX2_countMisrouted 16 = .ok (.getfield 25, 3) := by decide +kernel
theorem dX2_countMisrouted_19 : decode cX2_countMisrouted 19 = .ok (.getfield 84, 3) := by decide +kernel
theorem dX2_countMisrouted_22 : decode cX2_countMisrouted 22 = .ok (.iload_n 3, 1) := by decide +kernel
theorem dX2_countMisrouted_23 : decode cX2_countMisrouted 23 = .ok (.invokevirtual 63, 3) := by decide +kernel
theorem dX2_countMisrouted_26 : decode cX2_countMisrouted 26 = .ok (.iload_n 1, 1) := by decide +kernel
theorem dX2_countMisrouted_27 : decode cX2_countMisrouted 27 = .ok (.if_icmp .ne 14, 3) := by decide +kernel
theorem dX2_countMisrouted_30 : decode cX2_countMisrouted 30 = .ok (.aload_n 0, 1) := by decide +kernel
theorem dX2_countMisrouted_31 : decode cX2_countMisrouted 31 = .ok (.iload_n 3, 1) := by decide +kernel
theorem dX2_countMisrouted_32 : decode cX2_countMisrouted 32 = .ok (.invokevirtual 88, 3) := by decide +kernel
theorem dX2_countMisrouted_35 : decode cX2_countMisrouted 35 = .ok (.ifCond .eq 6, 3) := by decide +kernel
theorem dX2_countMisrouted_38 : decode cX2_countMisrouted 38 = .ok (.iinc 2 1, 3) := by decide +kernel
theorem dX2_countMisrouted_41 : decode cX2_countMisrouted 41 = .ok (.iinc 3 1, 3) := by decide +kernel
theorem dX2_countMisrouted_44 : decode cX2_countMisrouted 44 = .ok (.goto (-40), 3) := by decide +kernel
theorem dX2_countMisrouted_47 : decode cX2_countMisrouted 47 = .ok (.iload_n 2, 1) := by decide +kernel
theorem dX2_countMisrouted_48 : decode cX2_countMisrouted 48 = .ok (.ireturn, 1) := by decide +kernel
theorem dX2_countReady_0 : decode cX2_countReady 0 = .ok (.iconst 0, 1) := by decide +kernel
theorem dX2_countReady_1 : decode cX2_countReady 1 = .ok (.istore_n 2, 1) := by decide +kernel
theorem dX2_countReady_2 : decode cX2_countReady 2 = .ok (.iconst 0, 1) := by decide +kernel
theorem dX2_countReady_3 : decode cX2_countReady 3 = .ok (.istore_n 3, 1) := by decide +kernel
theorem dX2_countReady_4 : decode cX2_countReady 4 = .ok (.iload_n 3, 1) := by decide +kernel
theorem dX2_countReady_5 : decode cX2_countReady 5 = .ok (.aload_n 0, 1) := by decide +kernel
theorem dX2_countReady_6 : decode cX2_countReady 6 = .ok (.getfield 25, 3) := by decide +kernel
theorem dX2_countReady_9 : decode cX2_countReady 9 = .ok (.getfield 74, 3) := by decide +kernel
theorem dX2_countReady_12 : decode cX2_countReady 12 = .ok (.if_icmp .ge 35, 3) := by decide +kernel
theorem dX2_countReady_15 : decode cX2_countReady 15 = .ok (.aload_n 0, 1) := by decide +kernel
theorem dX2_countReady_16 : decode cX2_countReady 16 = .ok (.getfield 25, 3) := by decide +kernel
theorem dX2_countReady_19 : decode cX2_countReady 19 = .ok (.getfield 77, 3) := by decide +kernel
theorem dX2_countReady_22 : decode cX2_countReady 22 = .ok (.iload_n 3, 1) := by decide +kernel
theorem dX2_countReady_23 : decode cX2_countReady 23 = .ok (.invokevirtual 63, 3) := by decide +kernel
theorem dX2_countReady_26 : decode cX2_countReady 26 = .ok (.iload_n 1, 1) := by decide +kernel
theorem dX2_countReady_27 : decode cX2_countReady 27 = .ok (.if_icmp .ne 14, 3) := by decide +kernel
theorem dX2_countReady_30 : decode cX2_countReady 30 = .ok (.aload_n 0, 1) := by decide +kernel
theorem dX2_countReady_31 : decode cX2_countReady 31 = .ok (.iload_n 3, 1) := by decide +kernel
theorem dX2_countReady_32 : decode cX2_countReady 32 = .ok (.invokevirtual 149, 3) := by decide +kernel
theorem dX2_countReady_35 : decode cX2_countReady 35 = .ok (.ifCond .eq 6, 3) := by decide +kernel
theorem dX2_countReady_38 : decode cX2_countReady 38 = .ok (.iinc 2 1, 3) := by decide +kernel
theorem dX2_countReady_41 : decode cX2_countReady 41 = .ok (.iinc 3 1, 3) := by decide +kernel
theorem dX2_countReady_44 : decode cX2_countReady 44 = .ok (.goto (-40), 3) := by decide +kernel
theorem dX2_countReady_47 : decode cX2_countReady 47 = .ok (.iload_n 2, 1) := by decide +kernel
theorem dX2_countReady_48 : decode cX2_countReady 48 = .ok (.ireturn, 1) := by decide +kernel
theorem dX2_countMissing_0 : decode cX2_countMissing 0 = .ok (.aload_n 0, 1) := by decide +kernel
theorem dX2_countMissing_1 : decode cX2_countMissing 1 = .ok (.getfield 25, 3) := by decide +kernel
theorem dX2_countMissing_4 : decode cX2_countMissing 4 = .ok (.getfield 77, 3) := by decide +kernel
theorem dX2_countMissing_7 : decode cX2_countMissing 7 = .ok (.iload_n 1, 1) := by decide +kernel
theorem dX2_countMissing_8 : decode cX2_countMissing 8 = .ok (.invokevirtual 141, 3) := by decide +kernel
theorem dX2_countMissing_11 : decode cX2_countMissing 11 = .ok (.aload_n 0, 1) := by decide +kernel
theorem dX2_countMissing_12 : decode cX2_countMissing 12 = .ok (.iload_n 1, 1) := by decide +kernel
theorem dX2_countMissing_13 : decode cX2_countMissing 13 = .ok (.invokevirtual 152, 3) := by decide +kernel
theorem dX2_countMissing_16 : decode cX2_countMissing 16 = .ok (.isub, 1) := by decide +kernel
theorem dX2_countMissing_17 : decode cX2_countMissing 17 = .ok (.ireturn, 1) := by decide +kernel
theorem dX3_init_0 : decode cX3_init 0 = .ok (.aload_n 0, 1) := by decide +kernel
theorem dX3_init_1 : decode cX3_init 1 = .ok (.invokespecial 3, 3) := by decide +kernel
theorem dX3_init_4 : decode cX3_init 4 = .ok (.aload_n 0, 1) := by decide +kernel
theorem dX3_init_5 : decode cX3_init 5 = .ok (.aload_n 1, 1) := by decide +kernel
theorem dX3_init_6 : decode cX3_init 6 = .ok (.putfield 9, 3) := by decide +kernel
theorem dX3_init_9 : decode cX3_init 9 = .ok (.aload_n 1, 1) := by decide +kernel
theorem dX3_init_10 : decode cX3_init 10 = .ok (.iload_n 2, 1) := by decide +kernel
theorem dX3_init_11 : decode cX3_init 11 = .ok (.invokestatic 15, 3) := by decide +kernel
theorem dX3_init_14 : decode cX3_init 14 = .ok (.return_, 1) := by decide +kernel
theorem dX3_at_0 : decode cX3_at 0 = .ok (.iload_n 1, 1) := by decide +kernel
theorem dX3_at_1 : decode cX3_at 1 = .ok (.ifCond .lt 21, 3) := by decide +kernel
theorem dX3_at_4 : decode cX3_at 4 = .ok (.iload_n 1, 1) := by decide +kernel
theorem dX3_at_5 : decode cX3_at 5 = .ok (.aload_n 0, 1) := by decide +kernel
theorem dX3_at_6 : decode cX3_at 6 = .ok (.getfield 9, 3) := by decide +kernel
theorem dX3_at_9 : decode cX3_at 9 = .ok (.arraylength, 1) := by decide +kernel
theorem dX3_at_10 : decode cX3_at 10 = .ok (.if_icmp .ge 12, 3) := by decide +kernel
theorem dX3_at_13 : decode cX3_at 13 = .ok (.aload_n 0, 1) := by decide +kernel
theorem dX3_at_14 : decode cX3_at 14 = .ok (.getfield 9, 3) := by decide +kernel
theorem dX3_at_17 : decode cX3_at 17 = .ok (.iload_n 1, 1) := by decide +kernel
theorem dX3_at_18 : decode cX3_at 18 = .ok (.iaload, 1) := by decide +kernel
theorem dX3_at_19 : decode cX3_at 19 = .ok (.goto 4, 3) := by decide +kernel
theorem dX3_at_22 : decode cX3_at 22 = .ok (.iconst (-1), 1) := by decide +kernel
theorem dX3_at_23 : decode cX3_at 23 = .ok (.ireturn, 1) := by decide +kernel
theorem dX3_put_0 : decode cX3_put 0 = .ok (.iload_n 1, 1) := by decide +kernel
theorem dX3_put_1 : decode cX3_put 1 = .ok (.ifCond .lt 19, 3) := by decide +kernel
theorem dX3_put_4 : decode cX3_put 4 = .ok (.iload_n 1, 1) := by decide +kernel
theorem dX3_put_5 : decode cX3_put 5 = .ok (.aload_n 0, 1) := by decide +kernel
theorem dX3_put_6 : decode cX3_put 6 = .ok (.getfield 9, 3) := by decide +kernel
theorem dX3_put_9 : decode cX3_put 9 = .ok (.arraylength, 1) := by decide +kernel
theorem dX3_put_10 : decode cX3_put 10 = .ok (.if_icmp .ge 10, 3) := by decide +kernel
theorem dX3_put_13 : decode cX3_put 13 = .ok (.aload_n 0, 1) := by decide +kernel
theorem dX3_put_14 : decode cX3_put 14 = .ok (.getfield 9, 3) := by decide +kernel
theorem dX3_put_17 : decode cX3_put 17 = .ok (.iload_n 1, 1) := by decide +kernel
theorem dX3_put_18 : decode cX3_put 18 = .ok (.iload_n 2, 1) := by decide +kernel
theorem dX3_put_19 : decode cX3_put 19 = .ok (.iastore, 1) := by decide +kernel
theorem dX3_put_20 : decode cX3_put 20 = .ok (.return_, 1) := by decide +kernel
theorem dX3_takeAll_0 : decode cX3_takeAll 0 = .ok (.aload_n 1, 1) := by decide +kernel
theorem dX3_takeAll_1 : decode cX3_takeAll 1 = .ok (.getfield 9, 3) := by decide +kernel
theorem dX3_takeAll_4 : decode cX3_takeAll 4 = .ok (.iconst 0, 1) := by decide +kernel
theorem dX3_takeAll_5 : decode cX3_takeAll 5 = .ok (.aload_n 0, 1) := by decide +kernel
theorem dX3_takeAll_6 : decode cX3_takeAll 6 = .ok (.getfield 9, 3) := by decide +kernel
theorem dX3_takeAll_9 : decode cX3_takeAll 9 = .ok (.iconst 0, 1) := by decide +kernel
theorem dX3_takeAll_10 : decode cX3_takeAll 10 = .ok (.aload_n 0, 1) := by decide +kernel
theorem dX3_takeAll_11 : decode cX3_takeAll 11 = .ok (.getfield 9, 3) := by decide +kernel
theorem dX3_takeAll_14 : decode cX3_takeAll 14 = .ok (.arraylength, 1) := by decide +kernel
theorem dX3_takeAll_15 : decode cX3_takeAll 15 = .ok (.aload_n 1, 1) := by decide +kernel
theorem dX3_takeAll_16 : decode cX3_takeAll 16 = .ok (.getfield 9, 3) := by decide +kernel
theorem dX3_takeAll_19 : decode cX3_takeAll 19 = .ok (.arraylength, 1) := by decide +kernel
theorem dX3_takeAll_20 : decode cX3_takeAll 20 = .ok (.invokestatic 21, 3) := by decide +kernel
theorem dX3_takeAll_23 : decode cX3_takeAll 23 = .ok (.invokestatic 27, 3) := by decide +kernel
theorem dX3_takeAll_26 : decode cX3_takeAll 26 = .ok (.return_, 1) := by decide +kernel
theorem dX3_turn_0 : decode cX3_turn 0 = .ok (.aload_n 0, 1) := by decide +kernel
theorem dX3_turn_1 : decode cX3_turn 1 = .ok (.aload_n 0, 1) := by decide +kernel
theorem dX3_turn_2 : decode cX3_turn 2 = .ok (.getfield 9, 3) := by decide +kernel
theorem dX3_turn_5 : decode cX3_turn 5 = .ok (.arraylength, 1) := by decide +kernel
theorem dX3_turn_6 : decode cX3_turn 6 = .ok (.iconst 1, 1) := by decide +kernel
theorem dX3_turn_7 : decode cX3_turn 7 = .ok (.isub, 1) := by decide +kernel
theorem dX3_turn_8 : decode cX3_turn 8 = .ok (.invokevirtual 33, 3) := by decide +kernel
theorem dX3_turn_11 : decode cX3_turn 11 = .ok (.istore_n 1, 1) := by decide +kernel
theorem dX3_turn_12 : decode cX3_turn 12 = .ok (.aload_n 0, 1) := by decide +kernel
theorem dX3_turn_13 : decode cX3_turn 13 = .ok (.getfield 9, 3) := by decide +kernel
theorem dX3_turn_16 : decode cX3_turn 16 = .ok (.arraylength, 1) := by decide +kernel
theorem dX3_turn_17 : decode cX3_turn 17 = .ok (.iconst 1, 1) := by decide +kernel
theorem dX3_turn_18 : decode cX3_turn 18 = .ok (.isub, 1) := by decide +kernel
theorem dX3_turn_19 : decode cX3_turn 19 = .ok (.istore_n 2, 1) := by decide +kernel
theorem dX3_turn_20 : decode cX3_turn 20 = .ok (.iload_n 2, 1) := by decide +kernel
theorem dX3_turn_21 : decode cX3_turn 21 = .ok (.ifCond .le 21, 3) := by decide +kernel
theorem dX3_turn_24 : decode cX3_turn 24 = .ok (.aload_n 0, 1) := by decide +kernel
theorem dX3_turn_25 : decode cX3_turn 25 = .ok (.iload_n 2, 1) := by decide +kernel
theorem dX3_turn_26 : decode cX3_turn 26 = .ok (.aload_n 0, 1) := by decide +kernel
theorem dX3_turn_27 : decode cX3_turn 27 = .ok (.iload_n 2, 1) := by decide +kernel
theorem dX3_turn_28 : decode cX3_turn 28 = .ok (.iconst 1, 1) := by decide +kernel
theorem dX3_turn_29 : decode cX3_turn 29 = .ok (.isub, 1) := by decide +kernel
theorem dX3_turn_30 : decode cX3_turn 30 = .ok (.invokevirtual 33, 3) := by decide +kernel
theorem dX3_turn_33 : decode cX3_turn 33 = .ok (.invokevirtual 37, 3) := by decide +kernel
theorem dX3_turn_36 : decode cX3_turn 36 = .ok (.iinc 2 (-1), 3) := by decide +kernel
theorem dX3_turn_39 : decode cX3_turn 39 = .ok (.goto (-19), 3) := by decide +kernel
theorem dX3_turn_42 : decode cX3_turn 42 = .ok (.aload_n 0, 1) := by decide +kernel
theorem dX3_turn_43 : decode cX3_turn 43 = .ok (.iconst 0, 1) := by decide +kernel
theorem dX3_turn_44 : decode cX3_turn 44 = .ok (.iload_n 1, 1) := by decide +kernel
theorem dX3_turn_45 : decode cX3_turn 45 = .ok (.invokevirtual 37, 3) := by decide +kernel
theorem dX3_turn_48 : decode cX3_turn 48 = .ok (.return_, 1) := by decide +kernel
theorem dX3_takeFront_0 : decode cX3_takeFront 0 = .ok (.aload_n 0, 1) := by decide +kernel
theorem dX3_takeFront_1 : decode cX3_takeFront 1 = .ok (.iconst 0, 1) := by decide +kernel
theorem dX3_takeFront_2 : decode cX3_takeFront 2 = .ok (.invokevirtual 33, 3) := by decide +kernel
theorem dX3_takeFront_5 : decode cX3_takeFront 5 = .ok (.istore_n 1, 1) := by decide +kernel
theorem dX3_takeFront_6 : decode cX3_takeFront 6 = .ok (.iconst 1, 1) := by decide +kernel
theorem dX3_takeFront_7 : decode cX3_takeFront 7 = .ok (.istore_n 2, 1) := by decide +kernel
theorem dX3_takeFront_8 : decode cX3_takeFront 8 = .ok (.iload_n 2, 1) := by decide +kernel
theorem dX3_takeFront_9 : decode cX3_takeFront 9 = .ok (.aload_n 0, 1) := by decide +kernel
theorem dX3_takeFront_10 : decode cX3_takeFront 10 = .ok (.getfield 9, 3) := by decide +kernel
theorem dX3_takeFront_13 : decode cX3_takeFront 13 = .ok (.arraylength, 1) := by decide +kernel
theorem dX3_takeFront_14 : decode cX3_takeFront 14 = .ok (.if_icmp .ge 21, 3) := by decide +kernel
theorem dX3_takeFront_17 : decode cX3_takeFront 17 = .ok (.aload_n 0, 1) := by decide +kernel
theorem dX3_takeFront_18 : decode cX3_takeFront 18 = .ok (.iload_n 2, 1) := by decide +kernel
theorem dX3_takeFront_19 : decode cX3_takeFront 19 = .ok (.iconst 1, 1) := by decide +kernel
theorem dX3_takeFront_20 : decode cX3_takeFront 20 = .ok (.isub, 1) := by decide +kernel
theorem dX3_takeFront_21 : decode cX3_takeFront 21 = .ok (.aload_n 0, 1) := by decide +kernel
theorem dX3_takeFront_22 : decode cX3_takeFront 22 = .ok (.iload_n 2, 1) := by decide +kernel
theorem dX3_takeFront_23 : decode cX3_takeFront 23 = .ok (.invokevirtual 33, 3) := by decide +kernel
theorem dX3_takeFront_26 : decode cX3_takeFront 26 = .ok (.invokevirtual 37, 3) := by decide +kernel
theorem dX3_takeFront_29 : decode cX3_takeFront 29 = .ok (.iinc 2 1, 3) := by decide +kernel
theorem dX3_takeFront_32 : decode cX3_takeFront 32 = .ok (.goto (-24), 3) := by decide +kernel
theorem dX3_takeFront_35 : decode cX3_takeFront 35 = .ok (.aload_n 0, 1) := by decide +kernel
theorem dX3_takeFront_36 : decode cX3_takeFront 36 = .ok (.aload_n 0, 1) := by decide +kernel
theorem dX3_takeFront_37 : decode cX3_takeFront 37 = .ok (.getfield 9, 3) := by decide +kernel
theorem dX3_takeFront_40 : decode cX3_takeFront 40 = .ok (.arraylength, 1) := by decide +kernel
theorem dX3_takeFront_41 : decode cX3_takeFront 41 = .ok (.iconst 1, 1) := by decide +kernel
theorem dX3_takeFront_42 : decode cX3_takeFront 42 = .ok (.isub, 1) := by decide +kernel
theorem dX3_takeFront_43 : decode cX3_takeFront 43 = .ok (.iconst (-1), 1) := by decide +kernel
theorem dX3_takeFront_44 : decode cX3_takeFront 44 = .ok (.invokevirtual 37, 3) := by decide +kernel
theorem dX3_takeFront_47 : decode cX3_takeFront 47 = .ok (.iload_n 1, 1) := by decide +kernel
theorem dX3_takeFront_48 : decode cX3_takeFront 48 = .ok (.ireturn, 1) := by decide +kernel
theorem dX3_count_0 : decode cX3_count 0 = .ok (.iconst 0, 1) := by decide +kernel
theorem dX3_count_1 : decode cX3_count 1 = .ok (.istore_n 2, 1) := by decide +kernel
theorem dX3_count_2 : decode cX3_count 2 = .ok (.aload_n 0, 1) := by decide +kernel
theorem dX3_count_3 : decode cX3_count 3 = .ok (.getfield 9, 3) := by decide +kernel
theorem dX3_count_6 : decode cX3_count 6 = .ok (.astore_n 3, 1) := by decide +kernel
theorem dX3_count_7 : decode cX3_count 7 = .ok (.aload_n 3, 1) := by decide +kernel
theorem dX3_count_8 : decode cX3_count 8 = .ok (.arraylength, 1) := by decide +kernel
theorem dX3_count_9 : decode cX3_count 9 = .ok (.istore 4, 2) := by decide +kernel
theorem dX3_count_11 : decode cX3_count 11 = .ok (.iconst 0, 1) := by decide +kernel
theorem dX3_count_12 : decode cX3_count 12 = .ok (.istore 5, 2) := by decide +kernel
theorem dX3_count_14 : decode cX3_count 14 = .ok (.iload 5, 2) := by decide +kernel
theorem dX3_count_16 : decode cX3_count 16 = .ok (.iload 4, 2) := by decide +kernel
theorem dX3_count_18 : decode cX3_count 18 = .ok (.if_icmp .ge 24, 3) := by decide +kernel
theorem dX3_count_21 : decode cX3_count 21 = .ok (.aload_n 3, 1) := by decide +kernel
theorem dX3_count_22 : decode cX3_count 22 = .ok (.iload 5, 2) := by decide +kernel
theorem dX3_count_24 : decode cX3_count 24 = .ok (.iaload, 1) := by decide +kernel
theorem dX3_count_25 : decode cX3_count 25 = .ok (.istore 6, 2) := by decide +kernel
theorem dX3_count_27 : decode cX3_count 27 = .ok (.iload 6, 2) := by decide +kernel
theorem dX3_count_29 : decode cX3_count 29 = .ok (.iload_n 1, 1) := by decide +kernel
theorem dX3_count_30 : decode cX3_count 30 = .ok (.if_icmp .ne 6, 3) := by decide +kernel
theorem dX3_count_33 : decode cX3_count 33 = .ok (.iinc 2 1, 3) := by decide +kernel
theorem dX3_count_36 : decode cX3_count 36 = .ok (.iinc 5 1, 3) := by decide +kernel
theorem dX3_count_39 : decode cX3_count 39 = .ok (.goto (-25), 3) := by decide +kernel
theorem dX3_count_42 : decode cX3_count 42 = .ok (.iload_n 2, 1) := by decide +kernel
theorem dX3_count_43 : decode cX3_count 43 = .ok (.ireturn, 1) := by decide +kernel
theorem dX3_sum_0 : decode cX3_sum 0 = .ok (.iconst 0, 1) := by decide +kernel
theorem dX3_sum_1 : decode cX3_sum 1 = .ok (.istore_n 1, 1) := by decide +kernel
theorem dX3_sum_2 : decode cX3_sum 2 = .ok (.aload_n 0, 1) := by decide +kernel
theorem dX3_sum_3 : decode cX3_sum 3 = .ok (.getfield 9, 3) := by decide +kernel
theorem dX3_sum_6 : decode cX3_sum 6 = .ok (.astore_n 2, 1) := by decide +kernel
theorem dX3_sum_7 : decode cX3_sum 7 = .ok (.aload_n 2, 1) := by decide +kernel
theorem dX3_sum_8 : decode cX3_sum 8 = .ok (.arraylength, 1) := by decide +kernel
theorem dX3_sum_9 : decode cX3_sum 9 = .ok (.istore_n 3, 1) := by decide +kernel
theorem dX3_sum_10 : decode cX3_sum 10 = .ok (.iconst 0, 1) := by decide +kernel
theorem dX3_sum_11 : decode cX3_sum 11 = .ok (.istore 4, 2) := by decide +kernel
theorem dX3_sum_13 : decode cX3_sum 13 = .ok (.iload 4, 2) := by decide +kernel
theorem dX3_sum_15 : decode cX3_sum 15 = .ok (.iload_n 3, 1) := by decide +kernel
theorem dX3_sum_16 : decode cX3_sum 16 = .ok (.if_icmp .ge 20, 3) := by decide +kernel
theorem dX3_sum_19 : decode cX3_sum 19 = .ok (.aload_n 2, 1) := by decide +kernel
theorem dX3_sum_20 : decode cX3_sum 20 = .ok (.iload 4, 2) := by decide +kernel
theorem dX3_sum_22 : decode cX3_sum 22 = .ok (.iaload, 1) := by decide +kernel
theorem dX3_sum_23 : decode cX3_sum 23 = .ok (.istore 5, 2) := by decide +kernel
theorem dX3_sum_25 : decode cX3_sum 25 = .ok (.iload_n 1, 1) := by decide +kernel
theorem dX3_sum_26 : decode cX3_sum 26 = .ok (.iload 5, 2) := by decide +kernel
theorem dX3_sum_28 : decode cX3_sum 28 = .ok (.iadd, 1) := by decide +kernel
theorem dX3_sum_29 : decode cX3_sum 29 = .ok (.istore_n 1, 1) := by decide +kernel
theorem dX3_sum_30 : decode cX3_sum 30 = .ok (.iinc 4 1, 3) := by decide +kernel
theorem dX3_sum_33 : decode cX3_sum 33 = .ok (.goto (-20), 3) := by decide +kernel
theorem dX3_sum_36 : decode cX3_sum 36 = .ok (.iload_n 1, 1) := by decide +kernel
theorem dX3_sum_37 : decode cX3_sum 37 = .ok (.ireturn, 1) := by decide +kernel
theorem dX3_find_0 : decode cX3_find 0 = .ok (.iconst 0, 1) := by decide +kernel
theorem dX3_find_1 : decode cX3_find 1 = .ok (.istore_n 2, 1) := by decide +kernel
theorem dX3_find_2 : decode cX3_find 2 = .ok (.iload_n 2, 1) := by decide +kernel
theorem dX3_find_3 : decode cX3_find 3 = .ok (.aload_n 0, 1) := by decide +kernel
theorem dX3_find_4 : decode cX3_find 4 = .ok (.getfield 9, 3) := by decide +kernel
theorem dX3_find_7 : decode cX3_find 7 = .ok (.arraylength, 1) := by decide +kernel
theorem dX3_find_8 : decode cX3_find 8 = .ok (.if_icmp .ge 21, 3) := by decide +kernel
theorem dX3_find_11 : decode cX3_find 11 = .ok (.aload_n 0, 1) := by decide +kernel
theorem dX3_find_12 : decode cX3_find 12 = .ok (.getfield 9, 3) := by decide +kernel
theorem dX3_find_15 : decode cX3_find 15 = .ok (.iload_n 2, 1) := by decide +kernel
theorem dX3_find_16 : decode cX3_find 16 = .ok (.iaload, 1) := by decide +kernel
theorem dX3_find_17 : decode cX3_find 17 = .ok (.iload_n 1, 1) := by decide +kernel
theorem dX3_find_18 : decode cX3_find 18 = .ok (.if_icmp .ne 5, 3) := by decide +kernel
theorem dX3_find_21 : decode cX3_find 21 = .ok (.iload_n 2, 1) := by decide +kernel
theorem dX3_find_22 : decode cX3_find 22 = .ok (.ireturn, 1) := by decide +kernel
theorem dX3_find_23 : decode cX3_find 23 = .ok (.iinc 2 1, 3) := by decide +kernel
theorem dX3_find_26 : decode cX3_find 26 = .ok (.goto (-24), 3) := by decide +kernel
theorem dX3_find_29 : decode cX3_find 29 = .ok (.iconst (-1), 1) := by decide +kernel
theorem dX3_find_30 : decode cX3_find 30 = .ok (.ireturn, 1) := by decide +kernel
theorem dX4_init_0 : decode cX4_init 0 = .ok (.aload_n 0, 1) := by decide +kernel
theorem dX4_init_1 : decode cX4_init 1 = .ok (.invokespecial 1, 3) := by decide +kernel
theorem dX4_init_4 : decode cX4_init 4 = .ok (.aload_n 0, 1) := by decide +kernel
theorem dX4_init_5 : decode cX4_init 5 = .ok (.new 7, 3) := by decide +kernel
theorem dX4_init_8 : decode cX4_init 8 = .ok (.dup, 1) := by decide +kernel
theorem dX4_init_9 : decode cX4_init 9 = .ok (.invokespecial 9, 3) := by decide +kernel
theorem dX4_init_12 : decode cX4_init 12 = .ok (.putfield 10, 3) := by decide +kernel
theorem dX4_init_15 : decode cX4_init 15 = .ok (.aload_n 0, 1) := by decide +kernel
theorem dX4_init_16 : decode cX4_init 16 = .ok (.new 7, 3) := by decide +kernel
theorem dX4_init_19 : decode cX4_init 19 = .ok (.dup, 1) := by decide +kernel
theorem dX4_init_20 : decode cX4_init 20 = .ok (.invokespecial 9, 3) := by decide +kernel
theorem dX4_init_23 : decode cX4_init 23 = .ok (.putfield 16, 3) := by decide +kernel
theorem dX4_init_26 : decode cX4_init 26 = .ok (.return_, 1) := by decide +kernel
theorem dX4_addFlight_0 : decode cX4_addFlight 0 = .ok (.aload_n 0, 1) := by decide +kernel
theorem dX4_addFlight_1 : decode cX4_addFlight 1 = .ok (.getfield 10, 3) := by decide +kernel
theorem dX4_addFlight_4 : decode cX4_addFlight 4 = .ok (.getfield 19, 3) := by decide +kernel
theorem dX4_addFlight_7 : decode cX4_addFlight 7 = .ok (.getfield 23, 3) := by decide +kernel
theorem dX4_addFlight_10 : decode cX4_addFlight 10 = .ok (.bipush 6, 2) := by decide +kernel
theorem dX4_addFlight_12 : decode cX4_addFlight 12 = .ok (.if_icmp .lt 13, 3) := by decide +kernel
theorem dX4_addFlight_15 : decode cX4_addFlight 15 = .ok (.new 29, 3) := by decide +kernel
theorem dX4_addFlight_18 : decode cX4_addFlight 18 = .ok (.dup, 1) := by decide +kernel
theorem dX4_addFlight_19 : decode cX4_addFlight 19 = .ok (.ldc 31, 2) := by decide +kernel
theorem dX4_addFlight_21 : decode cX4_addFlight 21 = .ok (.invokespecial 33, 3) := by decide +kernel
theorem dX4_addFlight_24 : decode cX4_addFlight 24 = .ok (.athrow, 1) := by decide +kernel
theorem dX4_addFlight_25 : decode cX4_addFlight 25 = .ok (.aload_n 0, 1) := by decide +kernel
theorem dX4_addFlight_26 : decode cX4_addFlight 26 = .ok (.getfield 10, 3) := by decide +kernel
theorem dX4_addFlight_29 : decode cX4_addFlight 29 = .ok (.getfield 19, 3) := by decide +kernel
theorem dX4_addFlight_32 : decode cX4_addFlight 32 = .ok (.invokevirtual 36, 3) := by decide +kernel
theorem dX4_addFlight_35 : decode cX4_addFlight 35 = .ok (.ireturn, 1) := by decide +kernel
theorem dX4_giveChute_0 : decode cX4_giveChute 0 = .ok (.aload_n 0, 1) := by decide +kernel
theorem dX4_giveChute_1 : decode cX4_giveChute 1 = .ok (.iload_n 1, 1) := by decide +kernel
theorem dX4_giveChute_2 : decode cX4_giveChute 2 = .ok (.invokevirtual 40, 3) := by decide +kernel
theorem dX4_giveChute_5 : decode cX4_giveChute 5 = .ok (.iload_n 2, 1) := by decide +kernel
theorem dX4_giveChute_6 : decode cX4_giveChute 6 = .ok (.invokestatic 44, 3) := by decide +kernel
theorem dX4_giveChute_9 : decode cX4_giveChute 9 = .ok (.aload_n 0, 1) := by decide +kernel
theorem dX4_giveChute_10 : decode cX4_giveChute 10 = .ok (.iload_n 1, 1) := by decide +kernel
theorem dX4_giveChute_11 : decode cX4_giveChute 11 = .ok (.invokevirtual 47, 3) := by decide +kernel
theorem dX4_giveChute_14 : decode cX4_giveChute 14 = .ok (.aload_n 0, 1) := by decide +kernel
theorem dX4_giveChute_15 : decode cX4_giveChute 15 = .ok (.getfield 10, 3) := by decide +kernel
theorem dX4_giveChute_18 : decode cX4_giveChute 18 = .ok (.iload_n 1, 1) := by decide +kernel
theorem dX4_giveChute_19 : decode cX4_giveChute 19 = .ok (.iload_n 2, 1) := by decide +kernel
theorem dX4_giveChute_20 : decode cX4_giveChute 20 = .ok (.invokevirtual 50, 3) := by decide +kernel
theorem dX4_giveChute_23 : decode cX4_giveChute 23 = .ok (.ireturn, 1) := by decide +kernel
theorem dX4_setReader_0 : decode cX4_setReader 0 = .ok (.iload_n 1, 1) := by decide +kernel
theorem dX4_setReader_1 : decode cX4_setReader 1 = .ok (.ifCond .lt 9, 3) := by decide +kernel
theorem dX4_setReader_4 : decode cX4_setReader 4 = .ok (.iload_n 1, 1) := by decide +kernel
theorem dX4_setReader_5 : decode cX4_setReader 5 = .ok (.bipush 9, 2) := by decide +kernel
theorem dX4_setReader_7 : decode cX4_setReader 7 = .ok (.if_icmp .le 13, 3) := by decide +kernel
theorem dX4_setReader_10 : decode cX4_setReader 10 = .ok (.new 54, 3) := by decide +kernel
theorem dX4_setReader_13 : decode cX4_setReader 13 = .ok (.dup, 1) := by decide +kernel
theorem dX4_setReader_14 : decode cX4_setReader 14 = .ok (.ldc 56, 2) := by decide +kernel
theorem dX4_setReader_16 : decode cX4_setReader 16 = .ok (.invokespecial 58, 3) := by decide +kernel
theorem dX4_setReader_19 : decode cX4_setReader 19 = .ok (.athrow, 1) := by decide +kernel
theorem dX4_setReader_20 : decode cX4_setReader 20 = .ok (.aload_n 0, 1) := by decide +kernel
theorem dX4_setReader_21 : decode cX4_setReader 21 = .ok (.getfield 10, 3) := by decide +kernel
theorem dX4_setReader_24 : decode cX4_setReader 24 = .ok (.getfield 59, 3) := by decide +kernel
theorem dX4_setReader_27 : decode cX4_setReader 27 = .ok (.istore_n 2, 1) := by decide +kernel
theorem dX4_setReader_28 : decode cX4_setReader 28 = .ok (.aload_n 0, 1) := by decide +kernel
theorem dX4_setReader_29 : decode cX4_setReader 29 = .ok (.getfield 10, 3) := by decide +kernel
theorem dX4_setReader_32 : decode cX4_setReader 32 = .ok (.iload_n 1, 1) := by decide +kernel
theorem dX4_setReader_33 : decode cX4_setReader 33 = .ok (.putfield 59, 3) := by decide +kernel
theorem dX4_setReader_36 : decode cX4_setReader 36 = .ok (.iload_n 2, 1) := by decide +kernel
theorem dX4_setReader_37 : decode cX4_setReader 37 = .ok (.ireturn, 1) := by decide +kernel
theorem dX4_setRoom_0 : decode cX4_setRoom 0 = .ok (.iload_n 1, 1) := by decide +kernel
theorem dX4_setRoom_1 : decode cX4_setRoom 1 = .ok (.invokestatic 44, 3) := by decide +kernel
theorem dX4_setRoom_4 : decode cX4_setRoom 4 = .ok (.iload_n 2, 1) := by decide +kernel
theorem dX4_setRoom_5 : decode cX4_setRoom 5 = .ok (.iconst 1, 1) := by decide +kernel
theorem dX4_setRoom_6 : decode cX4_setRoom 6 = .ok (.if_icmp .lt 9, 3) := by decide +kernel
theorem dX4_setRoom_9 : decode cX4_setRoom 9 = .ok (.iload_n 2, 1) := by decide +kernel
theorem dX4_setRoom_10 : decode cX4_setRoom 10 = .ok (.bipush 20, 2) := by decide +kernel
theorem dX4_setRoom_12 : decode cX4_setRoom 12 = .ok (.if_icmp .le 13, 3) := by decide +kernel
theorem dX4_setRoom_15 : decode cX4_setRoom 15 = .ok (.new 54, 3) := by decide +kernel
theorem dX4_setRoom_18 : decode cX4_setRoom 18 = .ok (.dup, 1) := by decide +kernel
theorem dX4_setRoom_19 : decode cX4_setRoom 19 = .ok (.ldc 62, 2) := by decide +kernel
theorem dX4_setRoom_21 : decode cX4_setRoom 21 = .ok (.invokespecial 58, 3) := by decide +kernel
theorem dX4_setRoom_24 : decode cX4_setRoom 24 = .ok (.athrow, 1) := by decide +kernel
theorem dX4_setRoom_25 : decode cX4_setRoom 25 = .ok (.aload_n 0, 1) := by decide +kernel
theorem dX4_setRoom_26 : decode cX4_setRoom 26 = .ok (.getfield 10, 3) := by decide +kernel
theorem dX4_setRoom_29 : decode cX4_setRoom 29 = .ok (.getfield 64, 3) := by decide +kernel
theorem dX4_setRoom_32 : decode cX4_setRoom 32 = .ok (.iload_n 1, 1) := by decide +kernel
theorem dX4_setRoom_33 : decode cX4_setRoom 33 = .ok (.invokevirtual 68, 3) := by decide +kernel
theorem dX4_setRoom_36 : decode cX4_setRoom 36 = .ok (.istore_n 3, 1) := by decide +kernel
theorem dX4_setRoom_37 : decode cX4_setRoom 37 = .ok (.aload_n 0, 1) := by decide +kernel
theorem dX4_setRoom_38 : decode cX4_setRoom 38 = .ok (.getfield 10, 3) := by decide +kernel
theorem dX4_setRoom_41 : decode cX4_setRoom 41 = .ok (.getfield 64, 3) := by decide +kernel
theorem dX4_setRoom_44 : decode cX4_setRoom 44 = .ok (.iload_n 1, 1) := by decide +kernel
theorem dX4_setRoom_45 : decode cX4_setRoom 45 = .ok (.iload_n 2, 1) := by decide +kernel
theorem dX4_setRoom_46 : decode cX4_setRoom 46 = .ok (.invokevirtual 74, 3) := by decide +kernel
theorem dX4_setRoom_49 : decode cX4_setRoom 49 = .ok (.iload_n 3, 1) := by decide +kernel
theorem dX4_setRoom_50 : decode cX4_setRoom 50 = .ok (.ireturn, 1) := by decide +kernel
theorem dX4_checkIn_0 : decode cX4_checkIn 0 = .ok (.aload_n 0, 1) := by decide +kernel
theorem dX4_checkIn_1 : decode cX4_checkIn 1 = .ok (.iload_n 1, 1) := by decide +kernel
theorem dX4_checkIn_2 : decode cX4_checkIn 2 = .ok (.invokevirtual 40, 3) := by decide +kernel
theorem dX4_checkIn_5 : decode cX4_checkIn 5 = .ok (.iload_n 2, 1) := by decide +kernel
theorem dX4_checkIn_6 : decode cX4_checkIn 6 = .ok (.iconst 1, 1) := by decide +kernel
theorem dX4_checkIn_7 : decode cX4_checkIn 7 = .ok (.if_icmp .lt 19, 3) := by decide +kernel
theorem dX4_checkIn_10 : decode cX4_checkIn 10 = .ok (.iload_n 2, 1) := by decide +kernel
theorem dX4_checkIn_11 : decode cX4_checkIn 11 = .ok (.bipush 9, 2) := by decide +kernel
theorem dX4_checkIn_13 : decode cX4_checkIn 13 = .ok (.if_icmp .gt 13, 3) := by decide +kernel
theorem dX4_checkIn_16 : decode cX4_checkIn 16 = .ok (.iload_n 3, 1) := by decide +kernel
theorem dX4_checkIn_17 : decode cX4_checkIn 17 = .ok (.ifCond .lt 9, 3) := by decide +kernel
theorem dX4_checkIn_20 : decode cX4_checkIn 20 = .ok (.iload_n 3, 1) := by decide +kernel
theorem dX4_checkIn_21 : decode cX4_checkIn 21 = .ok (.bipush 9, 2) := by decide +kernel
theorem dX4_checkIn_23 : decode cX4_checkIn 23 = .ok (.if_icmp .le 13, 3) := by decide +kernel
theorem dX4_checkIn_26 : decode cX4_checkIn 26 = .ok (.new 54, 3) := by decide +kernel
theorem dX4_checkIn_29 : decode cX4_checkIn 29 = .ok (.dup, 1) := by decide +kernel
theorem dX4_checkIn_30 : decode cX4_checkIn 30 = .ok (.ldc 78, 2) := by decide +kernel
theorem dX4_checkIn_32 : decode cX4_checkIn 32 = .ok (.invokespecial 58, 3) := by decide +kernel
theorem dX4_checkIn_35 : decode cX4_checkIn 35 = .ok (.athrow, 1) := by decide +kernel
theorem dX4_checkIn_36 : decode cX4_checkIn 36 = .ok (.aload_n 0, 1) := by decide +kernel
theorem dX4_checkIn_37 : decode cX4_checkIn 37 = .ok (.getfield 10, 3) := by decide +kernel
theorem dX4_checkIn_40 : decode cX4_checkIn 40 = .ok (.getfield 80, 3) := by decide +kernel
theorem dX4_checkIn_43 : decode cX4_checkIn 43 = .ok (.getfield 84, 3) := by decide +kernel
theorem dX4_checkIn_46 : decode cX4_checkIn 46 = .ok (.bipush 40, 2) := by decide +kernel
theorem dX4_checkIn_48 : decode cX4_checkIn 48 = .ok (.if_icmp .lt 13, 3) := by decide +kernel
theorem dX4_checkIn_51 : decode cX4_checkIn 51 = .ok (.new 29, 3) := by decide +kernel
theorem dX4_checkIn_54 : decode cX4_checkIn 54 = .ok (.dup, 1) := by decide +kernel
theorem dX4_checkIn_55 : decode cX4_checkIn 55 = .ok (.ldc 87, 2) := by decide +kernel
theorem dX4_checkIn_57 : decode cX4_checkIn 57 = .ok (.invokespecial 33, 3) := by decide +kernel
theorem dX4_checkIn_60 : decode cX4_checkIn 60 = .ok (.athrow, 1) := by decide +kernel
theorem dX4_checkIn_61 : decode cX4_checkIn 61 = .ok (.aload_n 0, 1) := by decide +kernel
theorem dX4_checkIn_62 : decode cX4_checkIn 62 = .ok (.iload_n 1, 1) := by decide +kernel
theorem dX4_checkIn_63 : decode cX4_checkIn 63 = .ok (.invokevirtual 47, 3) := by decide +kernel
theorem dX4_checkIn_66 : decode cX4_checkIn 66 = .ok (.aload_n 0, 1) := by decide +kernel
theorem dX4_checkIn_67 : decode cX4_checkIn 67 = .ok (.getfield 10, 3) := by decide +kernel
theorem dX4_checkIn_70 : decode cX4_checkIn 70 = .ok (.getfield 80, 3) := by decide +kernel
theorem dX4_checkIn_73 : decode cX4_checkIn 73 = .ok (.iload_n 1, 1) := by decide +kernel
theorem dX4_checkIn_74 : decode cX4_checkIn 74 = .ok (.iload_n 2, 1) := by decide +kernel
theorem dX4_checkIn_75 : decode cX4_checkIn 75 = .ok (.iload_n 3, 1) := by decide +kernel
theorem dX4_checkIn_76 : decode cX4_checkIn 76 = .ok (.invokevirtual 89, 3) := by decide +kernel
theorem dX4_checkIn_79 : decode cX4_checkIn 79 = .ok (.istore 4, 2) := by decide +kernel
theorem dX4_checkIn_81 : decode cX4_checkIn 81 = .ok (.aload_n 0, 1) := by decide +kernel
theorem dX4_checkIn_82 : decode cX4_checkIn 82 = .ok (.getfield 10, 3) := by decide +kernel
theorem dX4_checkIn_85 : decode cX4_checkIn 85 = .ok (.iload 4, 2) := by decide +kernel
theorem dX4_checkIn_87 : decode cX4_checkIn 87 = .ok (.invokevirtual 92, 3) := by decide +kernel
theorem dX4_checkIn_90 : decode cX4_checkIn 90 = .ok (.iload 4, 2) := by decide +kernel
theorem dX4_checkIn_92 : decode cX4_checkIn 92 = .ok (.ireturn, 1) := by decide +kernel
theorem dX4_carry_0 : decode cX4_carry 0 = .ok (.aload_n 0, 1) := by decide +kernel
theorem dX4_carry_1 : decode cX4_carry 1 = .ok (.iload_n 1, 1) := by decide +kernel
theorem dX4_carry_2 : decode cX4_carry 2 = .ok (.invokevirtual 95, 3) := by decide +kernel
theorem dX4_carry_5 : decode cX4_carry 5 = .ok (.aload_n 0, 1) := by decide +kernel
theorem dX4_carry_6 : decode cX4_carry 6 = .ok (.iload_n 1, 1) := by decide +kernel
theorem dX4_carry_7 : decode cX4_carry 7 = .ok (.invokevirtual 98, 3) := by decide +kernel
theorem dX4_carry_10 : decode cX4_carry 10 = .ok (.aload_n 0, 1) := by decide +kernel
theorem dX4_carry_11 : decode cX4_carry 11 = .ok (.getfield 10, 3) := by decide +kernel
theorem dX4_carry_14 : decode cX4_carry 14 = .ok (.getfield 80, 3) := by decide +kernel
theorem dX4_carry_17 : decode cX4_carry 17 = .ok (.getfield 101, 3) := by decide +kernel
theorem dX4_carry_20 : decode cX4_carry 20 = .ok (.iload_n 1, 1) := by decide +kernel
theorem dX4_carry_21 : decode cX4_carry 21 = .ok (.invokevirtual 68, 3) := by decide +kernel
theorem dX4_carry_24 : decode cX4_carry 24 = .ok (.istore_n 2, 1) := by decide +kernel
theorem dX4_carry_25 : decode cX4_carry 25 = .ok (.aload_n 0, 1) := by decide +kernel
theorem dX4_carry_26 : decode cX4_carry 26 = .ok (.iload_n 2, 1) := by decide +kernel
theorem dX4_carry_27 : decode cX4_carry 27 = .ok (.invokevirtual 47, 3) := by decide +kernel
theorem dX4_carry_30 : decode cX4_carry 30 = .ok (.aload_n 0, 1) := by decide +kernel
theorem dX4_carry_31 : decode cX4_carry 31 = .ok (.getfield 10, 3) := by decide +kernel
theorem dX4_carry_34 : decode cX4_carry 34 = .ok (.getfield 19, 3) := by decide +kernel
theorem dX4_carry_37 : decode cX4_carry 37 = .ok (.getfield 104, 3) := by decide +kernel
theorem dX4_carry_40 : decode cX4_carry 40 = .ok (.iload_n 2, 1) := by decide +kernel
theorem dX4_carry_41 : decode cX4_carry 41 = .ok (.invokevirtual 68, 3) := by decide +kernel
theorem dX4_carry_44 : decode cX4_carry 44 = .ok (.istore_n 3, 1) := by decide +kernel
theorem dX4_carry_45 : decode cX4_carry 45 = .ok (.iload_n 3, 1) := by decide +kernel
theorem dX4_carry_46 : decode cX4_carry 46 = .ok (.invokestatic 107, 3) := by decide +kernel
theorem dX4_carry_49 : decode cX4_carry 49 = .ok (.ifCond .eq 14, 3) := by decide +kernel
theorem dX4_carry_52 : decode cX4_carry 52 = .ok (.aload_n 0, 1) := by decide +kernel
theorem dX4_carry_53 : decode cX4_carry 53 = .ok (.getfield 10, 3) := by decide +kernel
theorem dX4_carry_56 : decode cX4_carry 56 = .ok (.iload_n 3, 1) := by decide +kernel
theorem dX4_carry_57 : decode cX4_carry 57 = .ok (.invokevirtual 111, 3) := by decide +kernel
theorem dX4_carry_60 : decode cX4_carry 60 = .ok (.ifCond .ne 13, 3) := by decide +kernel
theorem dX4_carry_63 : decode cX4_carry 63 = .ok (.new 29, 3) := by decide +kernel
theorem dX4_carry_66 : decode cX4_carry 66 = .ok (.dup, 1) := by decide +kernel
theorem dX4_carry_67 : decode cX4_carry 67 = .ok (.ldc 114, 2) := by decide +kernel
theorem dX4_carry_69 : decode cX4_carry 69 = .ok (.invokespecial 33, 3) := by decide +kernel
theorem dX4_carry_72 : decode cX4_carry 72 = .ok (.athrow, 1) := by decide +kernel
theorem dX4_carry_73 : decode cX4_carry 73 = .ok (.aload_n 0, 1) := by decide +kernel
theorem dX4_carry_74 : decode cX4_carry 74 = .ok (.getfield 10, 3) := by decide +kernel
theorem dX4_carry_77 : decode cX4_carry 77 = .ok (.getfield 80, 3) := by decide +kernel
theorem dX4_carry_80 : decode cX4_carry 80 = .ok (.iload_n 1, 1) := by decide +kernel
theorem dX4_carry_81 : decode cX4_carry 81 = .ok (.iload_n 3, 1) := by decide +kernel
theorem dX4_carry_82 : decode cX4_carry 82 = .ok (.invokevirtual 116, 3) := by decide +kernel
theorem dX4_carry_85 : decode cX4_carry 85 = .ok (.iload_n 3, 1) := by decide +kernel
theorem dX4_carry_86 : decode cX4_carry 86 = .ok (.ireturn, 1) := by decide +kernel
theorem dX4_forward_0 : decode cX4_forward 0 = .ok (.aload_n 0, 1) := by decide +kernel
theorem dX4_forward_1 : decode cX4_forward 1 = .ok (.iload_n 1, 1) := by decide +kernel
theorem dX4_forward_2 : decode cX4_forward 2 = .ok (.invokevirtual 95, 3) := by decide +kernel
theorem dX4_forward_5 : decode cX4_forward 5 = .ok (.aload_n 0, 1) := by decide +kernel
theorem dX4_forward_6 : decode cX4_forward 6 = .ok (.iload_n 2, 1) := by decide +kernel
theorem dX4_forward_7 : decode cX4_forward 7 = .ok (.invokevirtual 40, 3) := by decide +kernel
theorem dX4_forward_10 : decode cX4_forward 10 = .ok (.aload_n 0, 1) := by decide +kernel
theorem dX4_forward_11 : decode cX4_forward 11 = .ok (.iload_n 1, 1) := by decide +kernel
theorem dX4_forward_12 : decode cX4_forward 12 = .ok (.invokevirtual 98, 3) := by decide +kernel
theorem dX4_forward_15 : decode cX4_forward 15 = .ok (.aload_n 0, 1) := by decide +kernel
theorem dX4_forward_16 : decode cX4_forward 16 = .ok (.getfield 10, 3) := by decide +kernel
theorem dX4_forward_19 : decode cX4_forward 19 = .ok (.getfield 19, 3) := by decide +kernel
theorem dX4_forward_22 : decode cX4_forward 22 = .ok (.aload_n 0, 1) := by decide +kernel
theorem dX4_forward_23 : decode cX4_forward 23 = .ok (.getfield 10, 3) := by decide +kernel
theorem dX4_forward_26 : decode cX4_forward 26 = .ok (.getfield 80, 3) := by decide +kernel
theorem dX4_forward_29 : decode cX4_forward 29 = .ok (.getfield 101, 3) := by decide +kernel
theorem dX4_forward_32 : decode cX4_forward 32 = .ok (.iload_n 1, 1) := by decide +kernel
theorem dX4_forward_33 : decode cX4_forward 33 = .ok (.invokevirtual 68, 3) := by decide +kernel
theorem dX4_forward_36 : decode cX4_forward 36 = .ok (.invokevirtual 119, 3) := by decide +kernel
theorem dX4_forward_39 : decode cX4_forward 39 = .ok (.ifCond .ne 13, 3) := by decide +kernel
theorem dX4_forward_42 : decode cX4_forward 42 = .ok (.new 29, 3) := by decide +kernel
theorem dX4_forward_45 : decode cX4_forward 45 = .ok (.dup, 1) := by decide +kernel
theorem dX4_forward_46 : decode cX4_forward 46 = .ok (.ldc 122, 2) := by decide +kernel
theorem dX4_forward_48 : decode cX4_forward 48 = .ok (.invokespecial 33, 3) := by decide +kernel
theorem dX4_forward_51 : decode cX4_forward 51 = .ok (.athrow, 1) := by decide +kernel
theorem dX4_forward_52 : decode cX4_forward 52 = .ok (.aload_n 0, 1) := by decide +kernel
theorem dX4_forward_53 : decode cX4_forward 53 = .ok (.iload_n 2, 1) := by decide +kernel
theorem dX4_forward_54 : decode cX4_forward 54 = .ok (.invokevirtual 47, 3) := by decide +kernel
theorem dX4_forward_57 : decode cX4_forward 57 = .ok (.aload_n 0, 1) := by decide +kernel
theorem dX4_forward_58 : decode cX4_forward 58 = .ok (.getfield 10, 3) := by decide +kernel
theorem dX4_forward_61 : decode cX4_forward 61 = .ok (.getfield 80, 3) := by decide +kernel
theorem dX4_forward_64 : decode cX4_forward 64 = .ok (.iload_n 1, 1) := by decide +kernel
theorem dX4_forward_65 : decode cX4_forward 65 = .ok (.iload_n 2, 1) := by decide +kernel
theorem dX4_forward_66 : decode cX4_forward 66 = .ok (.invokevirtual 124, 3) := by decide +kernel
theorem dX4_forward_69 : decode cX4_forward 69 = .ok (.aload_n 0, 1) := by decide +kernel
theorem dX4_forward_70 : decode cX4_forward 70 = .ok (.getfield 10, 3) := by decide +kernel
theorem dX4_forward_73 : decode cX4_forward 73 = .ok (.iload_n 1, 1) := by decide +kernel
theorem dX4_forward_74 : decode cX4_forward 74 = .ok (.invokevirtual 92, 3) := by decide +kernel
theorem dX4_forward_77 : decode cX4_forward 77 = .ok (.aload_n 0, 1) := by decide +kernel
theorem dX4_forward_78 : decode cX4_forward 78 = .ok (.getfield 10, 3) := by decide +kernel
theorem dX4_forward_81 : decode cX4_forward 81 = .ok (.getfield 127, 3) := by decide +kernel
theorem dX4_forward_84 : decode cX4_forward 84 = .ok (.ireturn, 1) := by decide +kernel
theorem dX4_sweep_0 : decode cX4_sweep 0 = .ok (.iload_n 1, 1) := by decide +kernel
theorem dX4_sweep_1 : decode cX4_sweep 1 = .ok (.invokestatic 44, 3) := by decide +kernel
theorem dX4_sweep_4 : decode cX4_sweep 4 = .ok (.aload_n 0, 1) := by decide +kernel
theorem dX4_sweep_5 : decode cX4_sweep 5 = .ok (.getfield 10, 3) := by decide +kernel
theorem dX4_sweep_8 : decode cX4_sweep 8 = .ok (.iload_n 1, 1) := by decide +kernel
theorem dX4_sweep_9 : decode cX4_sweep 9 = .ok (.invokevirtual 130, 3) := by decide +kernel
theorem dX4_sweep_12 : decode cX4_sweep 12 = .ok (.ireturn, 1) := by decide +kernel
theorem dX4_depart_0 : decode cX4_depart 0 = .ok (.aload_n 0, 1) := by decide +kernel
theorem dX4_depart_1 : decode cX4_depart 1 = .ok (.iload_n 1, 1) := by decide +kernel
theorem dX4_depart_2 : decode cX4_depart 2 = .ok (.invokevirtual 40, 3) := by decide +kernel
theorem dX4_depart_5 : decode cX4_depart 5 = .ok (.aload_n 0, 1) := by decide +kernel
theorem dX4_depart_6 : decode cX4_depart 6 = .ok (.iload_n 1, 1) := by decide +kernel
theorem dX4_depart_7 : decode cX4_depart 7 = .ok (.invokevirtual 47, 3) := by decide +kernel
theorem dX4_depart_10 : decode cX4_depart 10 = .ok (.aload_n 0, 1) := by decide +kernel
theorem dX4_depart_11 : decode cX4_depart 11 = .ok (.getfield 10, 3) := by decide +kernel
theorem dX4_depart_14 : decode cX4_depart 14 = .ok (.iload_n 1, 1) := by decide +kernel
theorem dX4_depart_15 : decode cX4_depart 15 = .ok (.invokevirtual 133, 3) := by decide +kernel
theorem dX4_depart_18 : decode cX4_depart 18 = .ok (.ireturn, 1) := by decide +kernel
theorem dX4_pass_0 : decode cX4_pass 0 = .ok (.iload_n 1, 1) := by decide +kernel
theorem dX4_pass_1 : decode cX4_pass 1 = .ok (.invokestatic 136, 3) := by decide +kernel
theorem dX4_pass_4 : decode cX4_pass 4 = .ok (.aload_n 0, 1) := by decide +kernel
theorem dX4_pass_5 : decode cX4_pass 5 = .ok (.getfield 10, 3) := by decide +kernel
theorem dX4_pass_8 : decode cX4_pass 8 = .ok (.iload_n 1, 1) := by decide +kernel
theorem dX4_pass_9 : decode cX4_pass 9 = .ok (.invokevirtual 139, 3) := by decide +kernel
theorem dX4_pass_12 : decode cX4_pass 12 = .ok (.ireturn, 1) := by decide +kernel
theorem dX4_flightOf_0 : decode cX4_flightOf 0 = .ok (.aload_n 0, 1) := by decide +kernel
theorem dX4_flightOf_1 : decode cX4_flightOf 1 = .ok (.iload_n 1, 1) := by decide +kernel
theorem dX4_flightOf_2 : decode cX4_flightOf 2 = .ok (.invokevirtual 95, 3) := by decide +kernel
theorem dX4_flightOf_5 : decode cX4_flightOf 5 = .ok (.aload_n 0, 1) := by decide +kernel
theorem dX4_flightOf_6 : decode cX4_flightOf 6 = .ok (.getfield 10, 3) := by decide +kernel
theorem dX4_flightOf_9 : decode cX4_flightOf 9 = .ok (.getfield 80, 3) := by decide +kernel
theorem dX4_flightOf_12 : decode cX4_flightOf 12 = .ok (.getfield 101, 3) := by decide +kernel
theorem dX4_flightOf_15 : decode cX4_flightOf 15 = .ok (.iload_n 1, 1) := by decide +kernel
theorem dX4_flightOf_16 : decode cX4_flightOf 16 = .ok (.invokevirtual 68, 3) := by decide +kernel
theorem dX4_flightOf_19 : decode cX4_flightOf 19 = .ok (.ireturn, 1) := by decide +kernel
theorem dX4_whereIs_0 : decode cX4_whereIs 0 = .ok (.aload_n 0, 1) := by decide +kernel
theorem dX4_whereIs_1 : decode cX4_whereIs 1 = .ok (.iload_n 1, 1) := by decide +kernel
theorem dX4_whereIs_2 : decode cX4_whereIs 2 = .ok (.invokevirtual 95, 3) := by decide +kernel
theorem dX4_whereIs_5 : decode cX4_whereIs 5 = .ok (.aload_n 0, 1) := by decide +kernel
theorem dX4_whereIs_6 : decode cX4_whereIs 6 = .ok (.getfield 10, 3) := by decide +kernel
theorem dX4_whereIs_9 : decode cX4_whereIs 9 = .ok (.getfield 80, 3) := by decide +kernel
theorem dX4_whereIs_12 : decode cX4_whereIs 12 = .ok (.getfield 142, 3) := by decide +kernel
theorem dX4_whereIs_15 : decode cX4_whereIs 15 = .ok (.iload_n 1, 1) := by decide +kernel
theorem dX4_whereIs_16 : decode cX4_whereIs 16 = .ok (.invokevirtual 68, 3) := by decide +kernel
theorem dX4_whereIs_19 : decode cX4_whereIs 19 = .ok (.ireturn, 1) := by decide +kernel
theorem dX4_placeOf_0 : decode cX4_placeOf 0 = .ok (.aload_n 0, 1) := by decide +kernel
theorem dX4_placeOf_1 : decode cX4_placeOf 1 = .ok (.iload_n 1, 1) := by decide +kernel
theorem dX4_placeOf_2 : decode cX4_placeOf 2 = .ok (.invokevirtual 95, 3) := by decide +kernel
theorem dX4_placeOf_5 : decode cX4_placeOf 5 = .ok (.aload_n 0, 1) := by decide +kernel
theorem dX4_placeOf_6 : decode cX4_placeOf 6 = .ok (.getfield 10, 3) := by decide +kernel
theorem dX4_placeOf_9 : decode cX4_placeOf 9 = .ok (.iload_n 1, 1) := by decide +kernel
theorem dX4_placeOf_10 : decode cX4_placeOf 10 = .ok (.invokevirtual 145, 3) := by decide +kernel
theorem dX4_placeOf_13 : decode cX4_placeOf 13 = .ok (.ireturn, 1) := by decide +kernel
theorem dX4_chuteOf_0 : decode cX4_chuteOf 0 = .ok (.aload_n 0, 1) := by decide +kernel
theorem dX4_chuteOf_1 : decode cX4_chuteOf 1 = .ok (.iload_n 1, 1) := by decide +kernel
theorem dX4_chuteOf_2 : decode cX4_chuteOf 2 = .ok (.invokevirtual 95, 3) := by decide +kernel
theorem dX4_chuteOf_5 : decode cX4_chuteOf 5 = .ok (.aload_n 0, 1) := by decide +kernel
theorem dX4_chuteOf_6 : decode cX4_chuteOf 6 = .ok (.getfield 10, 3) := by decide +kernel
theorem dX4_chuteOf_9 : decode cX4_chuteOf 9 = .ok (.getfield 80, 3) := by decide +kernel
theorem dX4_chuteOf_12 : decode cX4_chuteOf 12 = .ok (.getfield 148, 3) := by decide +kernel
theorem dX4_chuteOf_15 : decode cX4_chuteOf 15 = .ok (.iload_n 1, 1) := by decide +kernel
theorem dX4_chuteOf_16 : decode cX4_chuteOf 16 = .ok (.invokevirtual 68, 3) := by decide +kernel
theorem dX4_chuteOf_19 : decode cX4_chuteOf 19 = .ok (.ireturn, 1) := by decide +kernel
theorem dX4_readFor_0 : decode cX4_readFor 0 = .ok (.aload_n 0, 1) := by decide +kernel
theorem dX4_readFor_1 : decode cX4_readFor 1 = .ok (.iload_n 1, 1) := by decide +kernel
theorem dX4_readFor_2 : decode cX4_readFor 2 = .ok (.invokevirtual 95, 3) := by decide +kernel
theorem dX4_readFor_5 : decode cX4_readFor 5 = .ok (.aload_n 0, 1) := by decide +kernel
theorem dX4_readFor_6 : decode cX4_readFor 6 = .ok (.getfield 10, 3) := by decide +kernel
theorem dX4_readFor_9 : decode cX4_readFor 9 = .ok (.getfield 80, 3) := by decide +kernel
theorem dX4_readFor_12 : decode cX4_readFor 12 = .ok (.getfield 149, 3) := by decide +kernel
theorem dX4_readFor_15 : decode cX4_readFor 15 = .ok (.iload_n 1, 1) := by decide +kernel
theorem dX4_readFor_16 : decode cX4_readFor 16 = .ok (.invokevirtual 68, 3) := by decide +kernel
theorem dX4_readFor_19 : decode cX4_readFor 19 = .ok (.ireturn, 1) := by decide +kernel
theorem dX4_missesOf_0 : decode cX4_missesOf 0 = .ok (.aload_n 0, 1) := by decide +kernel
theorem dX4_missesOf_1 : decode cX4_missesOf 1 = .ok (.iload_n 1, 1) := by decide +kernel
theorem dX4_missesOf_2 : decode cX4_missesOf 2 = .ok (.invokevirtual 95, 3) := by decide +kernel
theorem dX4_missesOf_5 : decode cX4_missesOf 5 = .ok (.aload_n 0, 1) := by decide +kernel
theorem dX4_missesOf_6 : decode cX4_missesOf 6 = .ok (.getfield 10, 3) := by decide +kernel
theorem dX4_missesOf_9 : decode cX4_missesOf 9 = .ok (.getfield 80, 3) := by decide +kernel
theorem dX4_missesOf_12 : decode cX4_missesOf 12 = .ok (.getfield 152, 3) := by decide +kernel
theorem dX4_missesOf_15 : decode cX4_missesOf 15 = .ok (.iload_n 1, 1) := by decide +kernel
theorem dX4_missesOf_16 : decode cX4_missesOf 16 = .ok (.invokevirtual 68, 3) := by decide +kernel
theorem dX4_missesOf_19 : decode cX4_missesOf 19 = .ok (.ireturn, 1) := by decide +kernel
theorem dX4_isMisrouted_0 : decode cX4_isMisrouted 0 = .ok (.aload_n 0, 1) := by decide +kernel
theorem dX4_isMisrouted_1 : decode cX4_isMisrouted 1 = .ok (.iload_n 1, 1) := by decide +kernel
theorem dX4_isMisrouted_2 : decode cX4_isMisrouted 2 = .ok (.invokevirtual 95, 3) := by decide +kernel
theorem dX4_isMisrouted_5 : decode cX4_isMisrouted 5 = .ok (.aload_n 0, 1) := by decide +kernel
theorem dX4_isMisrouted_6 : decode cX4_isMisrouted 6 = .ok (.getfield 10, 3) := by decide +kernel
theorem dX4_isMisrouted_9 : decode cX4_isMisrouted 9 = .ok (.iload_n 1, 1) := by decide +kernel
theorem dX4_isMisrouted_10 : decode cX4_isMisrouted 10 = .ok (.invokevirtual 155, 3) := by decide +kernel
theorem dX4_isMisrouted_13 : decode cX4_isMisrouted 13 = .ok (.ireturn, 1) := by decide +kernel
theorem dX4_hasOpenFile_0 : decode cX4_hasOpenFile 0 = .ok (.aload_n 0, 1) := by decide +kernel
theorem dX4_hasOpenFile_1 : decode cX4_hasOpenFile 1 = .ok (.iload_n 1, 1) := by decide +kernel
theorem dX4_hasOpenFile_2 : decode cX4_hasOpenFile 2 = .ok (.invokevirtual 95, 3) := by decide +kernel
theorem dX4_hasOpenFile_5 : decode cX4_hasOpenFile 5 = .ok (.aload_n 0, 1) := by decide +kernel
theorem dX4_hasOpenFile_6 : decode cX4_hasOpenFile 6 = .ok (.getfield 10, 3) := by decide +kernel
theorem dX4_hasOpenFile_9 : decode cX4_hasOpenFile 9 = .ok (.getfield 80, 3) := by decide +kernel
theorem dX4_hasOpenFile_12 : decode cX4_hasOpenFile 12 = .ok (.getfield 158, 3) := by decide +kernel
theorem dX4_hasOpenFile_15 : decode cX4_hasOpenFile 15 = .ok (.iload_n 1, 1) := by decide +kernel
theorem dX4_hasOpenFile_16 : decode cX4_hasOpenFile 16 = .ok (.invokevirtual 68, 3) := by decide +kernel
theorem dX4_hasOpenFile_19 : decode cX4_hasOpenFile 19 = .ok (.iconst 1, 1) := by decide +kernel
theorem dX4_hasOpenFile_20 : decode cX4_hasOpenFile 20 = .ok (.if_icmp .ne 7, 3) := by decide +kernel
theorem dX4_hasOpenFile_23 : decode cX4_hasOpenFile 23 = .ok (.iconst 1, 1) := by decide +kernel
theorem dX4_hasOpenFile_24 : decode cX4_hasOpenFile 24 = .ok (.goto 4, 3) := by decide +kernel
theorem dX4_hasOpenFile_27 : decode cX4_hasOpenFile 27 = .ok (.iconst 0, 1) := by decide +kernel
theorem dX4_hasOpenFile_28 : decode cX4_hasOpenFile 28 = .ok (.ireturn, 1) := by decide +kernel
theorem dX4_bagAt_0 : decode cX4_bagAt 0 = .ok (.iload_n 1, 1) := by decide +kernel
theorem dX4_bagAt_1 : decode cX4_bagAt 1 = .ok (.ifCond .lt 9, 3) := by decide +kernel
theorem dX4_bagAt_4 : decode cX4_bagAt 4 = .ok (.iload_n 1, 1) := by decide +kernel
theorem dX4_bagAt_5 : decode cX4_bagAt 5 = .ok (.bipush 12, 2) := by decide +kernel
theorem dX4_bagAt_7 : decode cX4_bagAt 7 = .ok (.if_icmp .lt 13, 3) := by decide +kernel
theorem dX4_bagAt_10 : decode cX4_bagAt 10 = .ok (.new 161, 3) := by decide +kernel
theorem dX4_bagAt_13 : decode cX4_bagAt 13 = .ok (.dup, 1) := by decide +kernel
theorem dX4_bagAt_14 : decode cX4_bagAt 14 = .ok (.ldc 163, 2) := by decide +kernel
theorem dX4_bagAt_16 : decode cX4_bagAt 16 = .ok (.invokespecial 165, 3) := by decide +kernel
theorem dX4_bagAt_19 : decode cX4_bagAt 19 = .ok (.athrow, 1) := by decide +kernel
theorem dX4_bagAt_20 : decode cX4_bagAt 20 = .ok (.aload_n 0, 1) := by decide +kernel
theorem dX4_bagAt_21 : decode cX4_bagAt 21 = .ok (.getfield 10, 3) := by decide +kernel
theorem dX4_bagAt_24 : decode cX4_bagAt 24 = .ok (.getfield 166, 3) := by decide +kernel
theorem dX4_bagAt_27 : decode cX4_bagAt 27 = .ok (.iload_n 1, 1) := by decide +kernel
theorem dX4_bagAt_28 : decode cX4_bagAt 28 = .ok (.invokevirtual 68, 3) := by decide +kernel
theorem dX4_bagAt_31 : decode cX4_bagAt 31 = .ok (.ireturn, 1) := by decide +kernel
theorem dX4_bagsIn_0 : decode cX4_bagsIn 0 = .ok (.iload_n 1, 1) := by decide +kernel
theorem dX4_bagsIn_1 : decode cX4_bagsIn 1 = .ok (.invokestatic 44, 3) := by decide +kernel
theorem dX4_bagsIn_4 : decode cX4_bagsIn 4 = .ok (.aload_n 0, 1) := by decide +kernel
theorem dX4_bagsIn_5 : decode cX4_bagsIn 5 = .ok (.getfield 10, 3) := by decide +kernel
theorem dX4_bagsIn_8 : decode cX4_bagsIn 8 = .ok (.getfield 80, 3) := by decide +kernel
theorem dX4_bagsIn_11 : decode cX4_bagsIn 11 = .ok (.getfield 148, 3) := by decide +kernel
theorem dX4_bagsIn_14 : decode cX4_bagsIn 14 = .ok (.iload_n 1, 1) := by decide +kernel
theorem dX4_bagsIn_15 : decode cX4_bagsIn 15 = .ok (.invokevirtual 169, 3) := by decide +kernel
theorem dX4_bagsIn_18 : decode cX4_bagsIn 18 = .ok (.ireturn, 1) := by decide +kernel
theorem dX4_misroutedIn_0 : decode cX4_misroutedIn 0 = .ok (.iload_n 1, 1) := by decide +kernel
theorem dX4_misroutedIn_1 : decode cX4_misroutedIn 1 = .ok (.invokestatic 44, 3) := by decide +kernel
theorem dX4_misroutedIn_4 : decode cX4_misroutedIn 4 = .ok (.aload_n 0, 1) := by decide +kernel
theorem dX4_misroutedIn_5 : decode cX4_misroutedIn 5 = .ok (.getfield 10, 3) := by decide +kernel
theorem dX4_misroutedIn_8 : decode cX4_misroutedIn 8 = .ok (.iload_n 1, 1) := by decide +kernel
theorem dX4_misroutedIn_9 : decode cX4_misroutedIn 9 = .ok (.invokevirtual 171, 3) := by decide +kernel
theorem dX4_misroutedIn_12 : decode cX4_misroutedIn 12 = .ok (.ireturn, 1) := by decide +kernel
theorem dX4_roomOf_0 : decode cX4_roomOf 0 = .ok (.iload_n 1, 1) := by decide +kernel
theorem dX4_roomOf_1 : decode cX4_roomOf 1 = .ok (.invokestatic 44, 3) := by decide +kernel
theorem dX4_roomOf_4 : decode cX4_roomOf 4 = .ok (.aload_n 0, 1) := by decide +kernel
theorem dX4_roomOf_5 : decode cX4_roomOf 5 = .ok (.getfield 10, 3) := by decide +kernel
theorem dX4_roomOf_8 : decode cX4_roomOf 8 = .ok (.getfield 64, 3) := by decide +kernel
theorem dX4_roomOf_11 : decode cX4_roomOf 11 = .ok (.iload_n 1, 1) := by decide +kernel
theorem dX4_roomOf_12 : decode cX4_roomOf 12 = .ok (.invokevirtual 68, 3) := by decide +kernel
theorem dX4_roomOf_15 : decode cX4_roomOf 15 = .ok (.ireturn, 1) := by decide +kernel
theorem dX4_chuteOfFlight_0 : decode cX4_chuteOfFlight 0 = .ok (.aload_n 0, 1) := by decide +kernel
theorem dX4_chuteOfFlight_1 : decode cX4_chuteOfFlight 1 = .ok (.iload_n 1, 1) := by decide +kernel
theorem dX4_chuteOfFlight_2 : decode cX4_chuteOfFlight 2 = .ok (.invokevirtual 40, 3) := by decide +kernel
theorem dX4_chuteOfFlight_5 : decode cX4_chuteOfFlight 5 = .ok (.aload_n 0, 1) := by decide +kernel
theorem dX4_chuteOfFlight_6 : decode cX4_chuteOfFlight 6 = .ok (.getfield 10, 3) := by decide +kernel
theorem dX4_chuteOfFlight_9 : decode cX4_chuteOfFlight 9 = .ok (.getfield 19, 3) := by decide +kernel
theorem dX4_chuteOfFlight_12 : decode cX4_chuteOfFlight 12 = .ok (.getfield 104, 3) := by decide +kernel
theorem dX4_chuteOfFlight_15 : decode cX4_chuteOfFlight 15 = .ok (.iload_n 1, 1) := by decide +kernel
theorem dX4_chuteOfFlight_16 : decode cX4_chuteOfFlight 16 = .ok (.invokevirtual 68, 3) := by decide +kernel
theorem dX4_chuteOfFlight_19 : decode cX4_chuteOfFlight 19 = .ok (.ireturn, 1) := by decide +kernel
theorem dX4_isGone_0 : decode cX4_isGone 0 = .ok (.aload_n 0, 1) := by decide +kernel
theorem dX4_isGone_1 : decode cX4_isGone 1 = .ok (.iload_n 1, 1) := by decide +kernel
theorem dX4_isGone_2 : decode cX4_isGone 2 = .ok (.invokevirtual 40, 3) := by decide +kernel
theorem dX4_isGone_5 : decode cX4_isGone 5 = .ok (.aload_n 0, 1) := by decide +kernel
theorem dX4_isGone_6 : decode cX4_isGone 6 = .ok (.getfield 10, 3) := by decide +kernel
theorem dX4_isGone_9 : decode cX4_isGone 9 = .ok (.getfield 19, 3) := by decide +kernel
theorem dX4_isGone_12 : decode cX4_isGone 12 = .ok (.iload_n 1, 1) := by decide +kernel
theorem dX4_isGone_13 : decode cX4_isGone 13 = .ok (.invokevirtual 119, 3) := by decide +kernel
theorem dX4_isGone_16 : decode cX4_isGone 16 = .ok (.ireturn, 1) := by decide +kernel
theorem dX4_readyOf_0 : decode cX4_readyOf 0 = .ok (.aload_n 0, 1) := by decide +kernel
theorem dX4_readyOf_1 : decode cX4_readyOf 1 = .ok (.iload_n 1, 1) := by decide +kernel
theorem dX4_readyOf_2 : decode cX4_readyOf 2 = .ok (.invokevirtual 40, 3) := by decide +kernel
theorem dX4_readyOf_5 : decode cX4_readyOf 5 = .ok (.aload_n 0, 1) := by decide +kernel
theorem dX4_readyOf_6 : decode cX4_readyOf 6 = .ok (.getfield 10, 3) := by decide +kernel
theorem dX4_readyOf_9 : decode cX4_readyOf 9 = .ok (.iload_n 1, 1) := by decide +kernel
theorem dX4_readyOf_10 : decode cX4_readyOf 10 = .ok (.invokevirtual 174, 3) := by decide +kernel
theorem dX4_readyOf_13 : decode cX4_readyOf 13 = .ok (.ireturn, 1) := by decide +kernel
theorem dX4_missingOf_0 : decode cX4_missingOf 0 = .ok (.aload_n 0, 1) := by decide +kernel
theorem dX4_missingOf_1 : decode cX4_missingOf 1 = .ok (.iload_n 1, 1) := by decide +kernel
theorem dX4_missingOf_2 : decode cX4_missingOf 2 = .ok (.invokevirtual 40, 3) := by decide +kernel
theorem dX4_missingOf_5 : decode cX4_missingOf 5 = .ok (.aload_n 0, 1) := by decide +kernel
theorem dX4_missingOf_6 : decode cX4_missingOf 6 = .ok (.getfield 10, 3) := by decide +kernel
theorem dX4_missingOf_9 : decode cX4_missingOf 9 = .ok (.iload_n 1, 1) := by decide +kernel
theorem dX4_missingOf_10 : decode cX4_missingOf 10 = .ok (.invokevirtual 177, 3) := by decide +kernel
theorem dX4_missingOf_13 : decode cX4_missingOf 13 = .ok (.ireturn, 1) := by decide +kernel
theorem dX4_minute_0 : decode cX4_minute 0 = .ok (.aload_n 0, 1) := by decide +kernel
theorem dX4_minute_1 : decode cX4_minute 1 = .ok (.getfield 10, 3) := by decide +kernel
theorem dX4_minute_4 : decode cX4_minute 4 = .ok (.getfield 180, 3) := by decide +kernel
theorem dX4_minute_7 : decode cX4_minute 7 = .ok (.ireturn, 1) := by decide +kernel
theorem dX4_flights_0 : decode cX4_flights 0 = .ok (.aload_n 0, 1) := by decide +kernel
theorem dX4_flights_1 : decode cX4_flights 1 = .ok (.getfield 10, 3) := by decide +kernel
theorem dX4_flights_4 : decode cX4_flights 4 = .ok (.getfield 19, 3) := by decide +kernel
theorem dX4_flights_7 : decode cX4_flights 7 = .ok (.getfield 23, 3) := by decide +kernel
theorem dX4_flights_10 : decode cX4_flights 10 = .ok (.ireturn, 1) := by decide +kernel
theorem dX4_bags_0 : decode cX4_bags 0 = .ok (.aload_n 0, 1) := by decide +kernel
theorem dX4_bags_1 : decode cX4_bags 1 = .ok (.getfield 10, 3) := by decide +kernel
theorem dX4_bags_4 : decode cX4_bags 4 = .ok (.getfield 80, 3) := by decide +kernel
theorem dX4_bags_7 : decode cX4_bags 7 = .ok (.getfield 84, 3) := by decide +kernel
theorem dX4_bags_10 : decode cX4_bags 10 = .ok (.ireturn, 1) := by decide +kernel
theorem dX4_inLine_0 : decode cX4_inLine 0 = .ok (.aload_n 0, 1) := by decide +kernel
theorem dX4_inLine_1 : decode cX4_inLine 1 = .ok (.getfield 10, 3) := by decide +kernel
theorem dX4_inLine_4 : decode cX4_inLine 4 = .ok (.getfield 80, 3) := by decide +kernel
theorem dX4_inLine_7 : decode cX4_inLine 7 = .ok (.getfield 142, 3) := by decide +kernel
theorem dX4_inLine_10 : decode cX4_inLine 10 = .ok (.iconst 0, 1) := by decide +kernel
theorem dX4_inLine_11 : decode cX4_inLine 11 = .ok (.invokevirtual 169, 3) := by decide +kernel
theorem dX4_inLine_14 : decode cX4_inLine 14 = .ok (.ireturn, 1) := by decide +kernel
theorem dX4_onBelt_0 : decode cX4_onBelt 0 = .ok (.aload_n 0, 1) := by decide +kernel
theorem dX4_onBelt_1 : decode cX4_onBelt 1 = .ok (.getfield 10, 3) := by decide +kernel
theorem dX4_onBelt_4 : decode cX4_onBelt 4 = .ok (.getfield 80, 3) := by decide +kernel
theorem dX4_onBelt_7 : decode cX4_onBelt 7 = .ok (.getfield 142, 3) := by decide +kernel
theorem dX4_onBelt_10 : decode cX4_onBelt 10 = .ok (.iconst 1, 1) := by decide +kernel
theorem dX4_onBelt_11 : decode cX4_onBelt 11 = .ok (.invokevirtual 169, 3) := by decide +kernel
theorem dX4_onBelt_14 : decode cX4_onBelt 14 = .ok (.ireturn, 1) := by decide +kernel
theorem dX4_atDesk_0 : decode cX4_atDesk 0 = .ok (.aload_n 0, 1) := by decide +kernel
theorem dX4_atDesk_1 : decode cX4_atDesk 1 = .ok (.getfield 10, 3) := by decide +kernel
theorem dX4_atDesk_4 : decode cX4_atDesk 4 = .ok (.getfield 80, 3) := by decide +kernel
theorem dX4_atDesk_7 : decode cX4_atDesk 7 = .ok (.getfield 142, 3) := by decide +kernel
theorem dX4_atDesk_10 : decode cX4_atDesk 10 = .ok (.iconst 3, 1) := by decide +kernel
theorem dX4_atDesk_11 : decode cX4_atDesk 11 = .ok (.invokevirtual 169, 3) := by decide +kernel
theorem dX4_atDesk_14 : decode cX4_atDesk 14 = .ok (.ireturn, 1) := by decide +kernel
theorem dX4_openFiles_0 : decode cX4_openFiles 0 = .ok (.aload_n 0, 1) := by decide +kernel
theorem dX4_openFiles_1 : decode cX4_openFiles 1 = .ok (.getfield 10, 3) := by decide +kernel
theorem dX4_openFiles_4 : decode cX4_openFiles 4 = .ok (.getfield 80, 3) := by decide +kernel
theorem dX4_openFiles_7 : decode cX4_openFiles 7 = .ok (.getfield 158, 3) := by decide +kernel
theorem dX4_openFiles_10 : decode cX4_openFiles 10 = .ok (.iconst 1, 1) := by decide +kernel
theorem dX4_openFiles_11 : decode cX4_openFiles 11 = .ok (.invokevirtual 169, 3) := by decide +kernel
theorem dX4_openFiles_14 : decode cX4_openFiles 14 = .ok (.ireturn, 1) := by decide +kernel
theorem dX4_closedFiles_0 : decode cX4_closedFiles 0 = .ok (.aload_n 0, 1) := by decide +kernel
theorem dX4_closedFiles_1 : decode cX4_closedFiles 1 = .ok (.getfield 10, 3) := by decide +kernel
theorem dX4_closedFiles_4 : decode cX4_closedFiles 4 = .ok (.getfield 80, 3) := by decide +kernel
theorem dX4_closedFiles_7 : decode cX4_closedFiles 7 = .ok (.getfield 158, 3) := by decide +kernel
theorem dX4_closedFiles_10 : decode cX4_closedFiles 10 = .ok (.iconst 2, 1) := by decide +kernel
theorem dX4_closedFiles_11 : decode cX4_closedFiles 11 = .ok (.invokevirtual 169, 3) := by decide +kernel
theorem dX4_closedFiles_14 : decode cX4_closedFiles 14 = .ok (.ireturn, 1) := by decide +kernel
theorem dX4_reader_0 : decode cX4_reader 0 = .ok (.aload_n 0, 1) := by decide +kernel
theorem dX4_reader_1 : decode cX4_reader 1 = .ok (.getfield 10, 3) := by decide +kernel
theorem dX4_reader_4 : decode cX4_reader 4 = .ok (.getfield 59, 3) := by decide +kernel
theorem dX4_reader_7 : decode cX4_reader 7 = .ok (.ireturn, 1) := by decide +kernel
theorem dX4_minutesUntilChute_0 : decode cX4_minutesUntilChute 0 = .ok (.aload_n 0, 1) := by decide +kernel
theorem dX4_minutesUntilChute_1 : decode cX4_minutesUntilChute 1 = .ok (.iload_n 1, 1) := by decide +kernel
theorem dX4_minutesUntilChute_2 : decode cX4_minutesUntilChute 2 = .ok (.invokevirtual 95, 3) := by decide +kernel
theorem dX4_minutesUntilChute_5 : decode cX4_minutesUntilChute 5 = .ok (.aload_n 0, 1) := by decide +kernel
theorem dX4_minutesUntilChute_6 : decode cX4_minutesUntilChute 6 = .ok (.getfield 16, 3) := by decide +kernel
theorem dX4_minutesUntilChute_9 : decode cX4_minutesUntilChute 9 = .ok (.aload_n 0, 1) := by decide +kernel
theorem dX4_minutesUntilChute_10 : decode cX4_minutesUntilChute 10 = .ok (.getfield 10, 3) := by decide +kernel
theorem dX4_minutesUntilChute_13 : decode cX4_minutesUntilChute 13 = .ok (.invokevirtual 183, 3) := by decide +kernel
theorem dX4_minutesUntilChute_16 : decode cX4_minutesUntilChute 16 = .ok (.iconst 0, 1) := by decide +kernel
theorem dX4_minutesUntilChute_17 : decode cX4_minutesUntilChute 17 = .ok (.istore_n 2, 1) := by decide +kernel
theorem dX4_minutesUntilChute_18 : decode cX4_minutesUntilChute 18 = .ok (.iload_n 2, 1) := by decide +kernel
theorem dX4_minutesUntilChute_19 : decode cX4_minutesUntilChute 19 = .ok (.bipush 120, 2) := by decide +kernel
theorem dX4_minutesUntilChute_21 : decode cX4_minutesUntilChute 21 = .ok (.if_icmp .gt 37, 3) := by decide +kernel
theorem dX4_minutesUntilChute_24 : decode cX4_minutesUntilChute 24 = .ok (.aload_n 0, 1) := by decide +kernel
theorem dX4_minutesUntilChute_25 : decode cX4_minutesUntilChute 25 = .ok (.getfield 16, 3) := by decide +kernel
theorem dX4_minutesUntilChute_28 : decode cX4_minutesUntilChute 28 = .ok (.getfield 80, 3) := by decide +kernel
theorem dX4_minutesUntilChute_31 : decode cX4_minutesUntilChute 31 = .ok (.getfield 142, 3) := by decide +kernel
theorem dX4_minutesUntilChute_34 : decode cX4_minutesUntilChute 34 = .ok (.iload_n 1, 1) := by decide +kernel
theorem dX4_minutesUntilChute_35 : decode cX4_minutesUntilChute 35 = .ok (.invokevirtual 68, 3) := by decide +kernel
theorem dX4_minutesUntilChute_38 : decode cX4_minutesUntilChute 38 = .ok (.iconst 2, 1) := by decide +kernel
theorem dX4_minutesUntilChute_39 : decode cX4_minutesUntilChute 39 = .ok (.if_icmp .ne 5, 3) := by decide +kernel
theorem dX4_minutesUntilChute_42 : decode cX4_minutesUntilChute 42 = .ok (.iload_n 2, 1) := by decide +kernel
theorem dX4_minutesUntilChute_43 : decode cX4_minutesUntilChute 43 = .ok (.ireturn, 1) := by decide +kernel
theorem dX4_minutesUntilChute_44 : decode cX4_minutesUntilChute 44 = .ok (.aload_n 0, 1) := by decide +kernel
theorem dX4_minutesUntilChute_45 : decode cX4_minutesUntilChute 45 = .ok (.getfield 16, 3) := by decide +kernel
theorem dX4_minutesUntilChute_48 : decode cX4_minutesUntilChute 48 = .ok (.invokevirtual 187, 3) := by decide +kernel
theorem dX4_minutesUntilChute_51 : decode cX4_minutesUntilChute 51 = .ok (.pop, 1) := by decide +kernel
theorem dX4_minutesUntilChute_52 : decode cX4_minutesUntilChute 52 = .ok (.iinc 2 1, 3) := by decide +kernel
theorem dX4_minutesUntilChute_55 : decode cX4_minutesUntilChute 55 = .ok (.goto (-37), 3) := by decide +kernel
theorem dX4_minutesUntilChute_58 : decode cX4_minutesUntilChute 58 = .ok (.iconst (-1), 1) := by decide +kernel
theorem dX4_minutesUntilChute_59 : decode cX4_minutesUntilChute 59 = .ok (.ireturn, 1) := by decide +kernel
theorem dX4_readyAfter_0 : decode cX4_readyAfter 0 = .ok (.aload_n 0, 1) := by decide +kernel
theorem dX4_readyAfter_1 : decode cX4_readyAfter 1 = .ok (.iload_n 1, 1) := by decide +kernel
theorem dX4_readyAfter_2 : decode cX4_readyAfter 2 = .ok (.invokevirtual 40, 3) := by decide +kernel
theorem dX4_readyAfter_5 : decode cX4_readyAfter 5 = .ok (.iload_n 2, 1) := by decide +kernel
theorem dX4_readyAfter_6 : decode cX4_readyAfter 6 = .ok (.invokestatic 136, 3) := by decide +kernel
theorem dX4_readyAfter_9 : decode cX4_readyAfter 9 = .ok (.aload_n 0, 1) := by decide +kernel
theorem dX4_readyAfter_10 : decode cX4_readyAfter 10 = .ok (.iload_n 1, 1) := by decide +kernel
theorem dX4_readyAfter_11 : decode cX4_readyAfter 11 = .ok (.aload_n 0, 1) := by decide +kernel
theorem dX4_readyAfter_12 : decode cX4_readyAfter 12 = .ok (.getfield 10, 3) := by decide +kernel
theorem dX4_readyAfter_15 : decode cX4_readyAfter 15 = .ok (.getfield 19, 3) := by decide +kernel
theorem dX4_readyAfter_18 : decode cX4_readyAfter 18 = .ok (.getfield 104, 3) := by decide +kernel
theorem dX4_readyAfter_21 : decode cX4_readyAfter 21 = .ok (.iload_n 1, 1) := by decide +kernel
theorem dX4_readyAfter_22 : decode cX4_readyAfter 22 = .ok (.invokevirtual 68, 3) := by decide +kernel
theorem dX4_readyAfter_25 : decode cX4_readyAfter 25 = .ok (.iload_n 2, 1) := by decide +kernel
theorem dX4_readyAfter_26 : decode cX4_readyAfter 26 = .ok (.invokevirtual 190, 3) := by decide +kernel
theorem dX4_readyAfter_29 : decode cX4_readyAfter 29 = .ok (.ireturn, 1) := by decide +kernel
theorem dX4_meanMisses_0 : decode cX4_meanMisses 0 = .ok (.aload_n 0, 1) := by decide +kernel
theorem dX4_meanMisses_1 : decode cX4_meanMisses 1 = .ok (.getfield 10, 3) := by decide +kernel
theorem dX4_meanMisses_4 : decode cX4_meanMisses 4 = .ok (.getfield 80, 3) := by decide +kernel
theorem dX4_meanMisses_7 : decode cX4_meanMisses 7 = .ok (.getfield 84, 3) := by decide +kernel
theorem dX4_meanMisses_10 : decode cX4_meanMisses 10 = .ok (.istore_n 1, 1) := by decide +kernel
theorem dX4_meanMisses_11 : decode cX4_meanMisses 11 = .ok (.iload_n 1, 1) := by decide +kernel
theorem dX4_meanMisses_12 : decode cX4_meanMisses 12 = .ok (.ifCond .le 23, 3) := by decide +kernel
theorem dX4_meanMisses_15 : decode cX4_meanMisses 15 = .ok (.aload_n 0, 1) := by decide +kernel
theorem dX4_meanMisses_16 : decode cX4_meanMisses 16 = .ok (.getfield 10, 3) := by decide +kernel
theorem dX4_meanMisses_19 : decode cX4_meanMisses 19 = .ok (.getfield 80, 3) := by decide +kernel
theorem dX4_meanMisses_22 : decode cX4_meanMisses 22 = .ok (.getfield 152, 3) := by decide +kernel
theorem dX4_meanMisses_25 : decode cX4_meanMisses 25 = .ok (.invokevirtual 193, 3) := by decide +kernel
theorem dX4_meanMisses_28 : decode cX4_meanMisses 28 = .ok (.i2d, 1) := by decide +kernel
theorem dX4_meanMisses_29 : decode cX4_meanMisses 29 = .ok (.iload_n 1, 1) := by decide +kernel
theorem dX4_meanMisses_30 : decode cX4_meanMisses 30 = .ok (.i2d, 1) := by decide +kernel
theorem dX4_meanMisses_31 : decode cX4_meanMisses 31 = .ok (.ddiv, 1) := by decide +kernel
theorem dX4_meanMisses_32 : decode cX4_meanMisses 32 = .ok (.goto 4, 3) := by decide +kernel
theorem dX4_meanMisses_35 : decode cX4_meanMisses 35 = .ok (.dconst 0, 1) := by decide +kernel
theorem dX4_meanMisses_36 : decode cX4_meanMisses 36 = .ok (.dreturn, 1) := by decide +kernel
theorem dX4_digest_0 : decode cX4_digest 0 = .ok (.aload_n 0, 1) := by decide +kernel
theorem dX4_digest_1 : decode cX4_digest 1 = .ok (.ldc2_w 196, 3) := by decide +kernel
theorem dX4_digest_4 : decode cX4_digest 4 = .ok (.invokevirtual 198, 3) := by decide +kernel
theorem dX4_digest_7 : decode cX4_digest 7 = .ok (.lstore_n 1, 1) := by decide +kernel
theorem dX4_digest_8 : decode cX4_digest 8 = .ok (.iconst 0, 1) := by decide +kernel
theorem dX4_digest_9 : decode cX4_digest 9 = .ok (.istore_n 3, 1) := by decide +kernel
theorem dX4_digest_10 : decode cX4_digest 10 = .ok (.iload_n 3, 1) := by decide +kernel
theorem dX4_digest_11 : decode cX4_digest 11 = .ok (.aload_n 0, 1) := by decide +kernel
theorem dX4_digest_12 : decode cX4_digest 12 = .ok (.getfield 10, 3) := by decide +kernel
theorem dX4_digest_15 : decode cX4_digest 15 = .ok (.getfield 80, 3) := by decide +kernel
theorem dX4_digest_18 : decode cX4_digest 18 = .ok (.getfield 84, 3) := by decide +kernel
theorem dX4_digest_21 : decode cX4_digest 21 = .ok (.if_icmp .ge 16, 3) := by decide +kernel
theorem dX4_digest_24 : decode cX4_digest 24 = .ok (.aload_n 0, 1) := by decide +kernel
theorem dX4_digest_25 : decode cX4_digest 25 = .ok (.lload_n 1, 1) := by decide +kernel
theorem dX4_digest_26 : decode cX4_digest 26 = .ok (.iload_n 3, 1) := by decide +kernel
theorem dX4_digest_27 : decode cX4_digest 27 = .ok (.invokevirtual 202, 3) := by decide +kernel
theorem dX4_digest_30 : decode cX4_digest 30 = .ok (.lstore_n 1, 1) := by decide +kernel
theorem dX4_digest_31 : decode cX4_digest 31 = .ok (.iinc 3 1, 3) := by decide +kernel
theorem dX4_digest_34 : decode cX4_digest 34 = .ok (.goto (-24), 3) := by decide +kernel
theorem dX4_digest_37 : decode cX4_digest 37 = .ok (.iconst 0, 1) := by decide +kernel
theorem dX4_digest_38 : decode cX4_digest 38 = .ok (.istore_n 3, 1) := by decide +kernel
theorem dX4_digest_39 : decode cX4_digest 39 = .ok (.iload_n 3, 1) := by decide +kernel
theorem dX4_digest_40 : decode cX4_digest 40 = .ok (.iconst 4, 1) := by decide +kernel
theorem dX4_digest_41 : decode cX4_digest 41 = .ok (.if_icmp .ge 16, 3) := by decide +kernel
theorem dX4_digest_44 : decode cX4_digest 44 = .ok (.aload_n 0, 1) := by decide +kernel
theorem dX4_digest_45 : decode cX4_digest 45 = .ok (.lload_n 1, 1) := by decide +kernel
theorem dX4_digest_46 : decode cX4_digest 46 = .ok (.iload_n 3, 1) := by decide +kernel
theorem dX4_digest_47 : decode cX4_digest 47 = .ok (.invokevirtual 206, 3) := by decide +kernel
theorem dX4_digest_50 : decode cX4_digest 50 = .ok (.lstore_n 1, 1) := by decide +kernel
theorem dX4_digest_51 : decode cX4_digest 51 = .ok (.iinc 3 1, 3) := by decide +kernel
theorem dX4_digest_54 : decode cX4_digest 54 = .ok (.goto (-15), 3) := by decide +kernel
theorem dX4_digest_57 : decode cX4_digest 57 = .ok (.iconst 0, 1) := by decide +kernel
theorem dX4_digest_58 : decode cX4_digest 58 = .ok (.istore_n 3, 1) := by decide +kernel
theorem dX4_digest_59 : decode cX4_digest 59 = .ok (.iload_n 3, 1) := by decide +kernel
theorem dX4_digest_60 : decode cX4_digest 60 = .ok (.aload_n 0, 1) := by decide +kernel
theorem dX4_digest_61 : decode cX4_digest 61 = .ok (.getfield 10, 3) := by decide +kernel
theorem dX4_digest_64 : decode cX4_digest 64 = .ok (.getfield 19, 3) := by decide +kernel
theorem dX4_digest_67 : decode cX4_digest 67 = .ok (.getfield 23, 3) := by decide +kernel
theorem dX4_digest_70 : decode cX4_digest 70 = .ok (.if_icmp .ge 16, 3) := by decide +kernel
theorem dX4_digest_73 : decode cX4_digest 73 = .ok (.aload_n 0, 1) := by decide +kernel
theorem dX4_digest_74 : decode cX4_digest 74 = .ok (.lload_n 1, 1) := by decide +kernel
theorem dX4_digest_75 : decode cX4_digest 75 = .ok (.iload_n 3, 1) := by decide +kernel
theorem dX4_digest_76 : decode cX4_digest 76 = .ok (.invokevirtual 209, 3) := by decide +kernel
theorem dX4_digest_79 : decode cX4_digest 79 = .ok (.lstore_n 1, 1) := by decide +kernel
theorem dX4_digest_80 : decode cX4_digest 80 = .ok (.iinc 3 1, 3) := by decide +kernel
theorem dX4_digest_83 : decode cX4_digest 83 = .ok (.goto (-24), 3) := by decide +kernel
theorem dX4_digest_86 : decode cX4_digest 86 = .ok (.lload_n 1, 1) := by decide +kernel
theorem dX4_digest_87 : decode cX4_digest 87 = .ok (.lreturn, 1) := by decide +kernel
theorem dX4_addHall_0 : decode cX4_addHall 0 = .ok (.lload_n 1, 1) := by decide +kernel
theorem dX4_addHall_1 : decode cX4_addHall 1 = .ok (.aload_n 0, 1) := by decide +kernel
theorem dX4_addHall_2 : decode cX4_addHall 2 = .ok (.getfield 10, 3) := by decide +kernel
theorem dX4_addHall_5 : decode cX4_addHall 5 = .ok (.getfield 180, 3) := by decide +kernel
theorem dX4_addHall_8 : decode cX4_addHall 8 = .ok (.i2l, 1) := by decide +kernel
theorem dX4_addHall_9 : decode cX4_addHall 9 = .ok (.invokestatic 212, 3) := by decide +kernel
theorem dX4_addHall_12 : decode cX4_addHall 12 = .ok (.lstore_n 3, 1) := by decide +kernel
theorem dX4_addHall_13 : decode cX4_addHall 13 = .ok (.lload_n 3, 1) := by decide +kernel
theorem dX4_addHall_14 : decode cX4_addHall 14 = .ok (.aload_n 0, 1) := by decide +kernel
theorem dX4_addHall_15 : decode cX4_addHall 15 = .ok (.getfield 10, 3) := by decide +kernel
theorem dX4_addHall_18 : decode cX4_addHall 18 = .ok (.getfield 19, 3) := by decide +kernel
theorem dX4_addHall_21 : decode cX4_addHall 21 = .ok (.getfield 23, 3) := by decide +kernel
theorem dX4_addHall_24 : decode cX4_addHall 24 = .ok (.i2l, 1) := by decide +kernel
theorem dX4_addHall_25 : decode cX4_addHall 25 = .ok (.invokestatic 212, 3) := by decide +kernel
theorem dX4_addHall_28 : decode cX4_addHall 28 = .ok (.lstore_n 3, 1) := by decide +kernel
theorem dX4_addHall_29 : decode cX4_addHall 29 = .ok (.lload_n 3, 1) := by decide +kernel
theorem dX4_addHall_30 : decode cX4_addHall 30 = .ok (.aload_n 0, 1) := by decide +kernel
theorem dX4_addHall_31 : decode cX4_addHall 31 = .ok (.getfield 10, 3) := by decide +kernel
theorem dX4_addHall_34 : decode cX4_addHall 34 = .ok (.getfield 80, 3) := by decide +kernel
theorem dX4_addHall_37 : decode cX4_addHall 37 = .ok (.getfield 84, 3) := by decide +kernel
theorem dX4_addHall_40 : decode cX4_addHall 40 = .ok (.i2l, 1) := by decide +kernel
theorem dX4_addHall_41 : decode cX4_addHall 41 = .ok (.invokestatic 212, 3) := by decide +kernel
theorem dX4_addHall_44 : decode cX4_addHall 44 = .ok (.lstore_n 3, 1) := by decide +kernel
theorem dX4_addHall_45 : decode cX4_addHall 45 = .ok (.lload_n 3, 1) := by decide +kernel
theorem dX4_addHall_46 : decode cX4_addHall 46 = .ok (.aload_n 0, 1) := by decide +kernel
theorem dX4_addHall_47 : decode cX4_addHall 47 = .ok (.getfield 10, 3) := by decide +kernel
theorem dX4_addHall_50 : decode cX4_addHall 50 = .ok (.getfield 80, 3) := by decide +kernel
theorem dX4_addHall_53 : decode cX4_addHall 53 = .ok (.getfield 142, 3) := by decide +kernel
theorem dX4_addHall_56 : decode cX4_addHall 56 = .ok (.iconst 0, 1) := by decide +kernel
theorem dX4_addHall_57 : decode cX4_addHall 57 = .ok (.invokevirtual 169, 3) := by decide +kernel
theorem dX4_addHall_60 : decode cX4_addHall 60 = .ok (.i2l, 1) := by decide +kernel
theorem dX4_addHall_61 : decode cX4_addHall 61 = .ok (.invokestatic 212, 3) := by decide +kernel
theorem dX4_addHall_64 : decode cX4_addHall 64 = .ok (.lstore_n 3, 1) := by decide +kernel
theorem dX4_addHall_65 : decode cX4_addHall 65 = .ok (.lload_n 3, 1) := by decide +kernel
theorem dX4_addHall_66 : decode cX4_addHall 66 = .ok (.aload_n 0, 1) := by decide +kernel
theorem dX4_addHall_67 : decode cX4_addHall 67 = .ok (.getfield 10, 3) := by decide +kernel
theorem dX4_addHall_70 : decode cX4_addHall 70 = .ok (.getfield 80, 3) := by decide +kernel
theorem dX4_addHall_73 : decode cX4_addHall 73 = .ok (.getfield 142, 3) := by decide +kernel
theorem dX4_addHall_76 : decode cX4_addHall 76 = .ok (.iconst 1, 1) := by decide +kernel
theorem dX4_addHall_77 : decode cX4_addHall 77 = .ok (.invokevirtual 169, 3) := by decide +kernel
theorem dX4_addHall_80 : decode cX4_addHall 80 = .ok (.i2l, 1) := by decide +kernel
theorem dX4_addHall_81 : decode cX4_addHall 81 = .ok (.invokestatic 212, 3) := by decide +kernel
theorem dX4_addHall_84 : decode cX4_addHall 84 = .ok (.lstore_n 3, 1) := by decide +kernel
theorem dX4_addHall_85 : decode cX4_addHall 85 = .ok (.lload_n 3, 1) := by decide +kernel
theorem dX4_addHall_86 : decode cX4_addHall 86 = .ok (.aload_n 0, 1) := by decide +kernel
theorem dX4_addHall_87 : decode cX4_addHall 87 = .ok (.getfield 10, 3) := by decide +kernel
theorem dX4_addHall_90 : decode cX4_addHall 90 = .ok (.getfield 80, 3) := by decide +kernel
theorem dX4_addHall_93 : decode cX4_addHall 93 = .ok (.getfield 142, 3) := by decide +kernel
theorem dX4_addHall_96 : decode cX4_addHall 96 = .ok (.iconst 3, 1) := by decide +kernel
theorem dX4_addHall_97 : decode cX4_addHall 97 = .ok (.invokevirtual 169, 3) := by decide +kernel
theorem dX4_addHall_100 : decode cX4_addHall 100 = .ok (.i2l, 1) := by decide +kernel
theorem dX4_addHall_101 : decode cX4_addHall 101 = .ok (.invokestatic 212, 3) := by decide +kernel
theorem dX4_addHall_104 : decode cX4_addHall 104 = .ok (.lstore_n 3, 1) := by decide +kernel
theorem dX4_addHall_105 : decode cX4_addHall 105 = .ok (.lload_n 3, 1) := by decide +kernel
theorem dX4_addHall_106 : decode cX4_addHall 106 = .ok (.aload_n 0, 1) := by decide +kernel
theorem dX4_addHall_107 : decode cX4_addHall 107 = .ok (.getfield 10, 3) := by decide +kernel
theorem dX4_addHall_110 : decode cX4_addHall 110 = .ok (.getfield 80, 3) := by decide +kernel
theorem dX4_addHall_113 : decode cX4_addHall 113 = .ok (.getfield 158, 3) := by decide +kernel
theorem dX4_addHall_116 : decode cX4_addHall 116 = .ok (.iconst 1, 1) := by decide +kernel
theorem dX4_addHall_117 : decode cX4_addHall 117 = .ok (.invokevirtual 169, 3) := by decide +kernel
theorem dX4_addHall_120 : decode cX4_addHall 120 = .ok (.i2l, 1) := by decide +kernel
theorem dX4_addHall_121 : decode cX4_addHall 121 = .ok (.invokestatic 212, 3) := by decide +kernel
theorem dX4_addHall_124 : decode cX4_addHall 124 = .ok (.lstore_n 3, 1) := by decide +kernel
theorem dX4_addHall_125 : decode cX4_addHall 125 = .ok (.lload_n 3, 1) := by decide +kernel
theorem dX4_addHall_126 : decode cX4_addHall 126 = .ok (.aload_n 0, 1) := by decide +kernel
theorem dX4_addHall_127 : decode cX4_addHall 127 = .ok (.getfield 10, 3) := by decide +kernel
theorem dX4_addHall_130 : decode cX4_addHall 130 = .ok (.getfield 80, 3) := by decide +kernel
theorem dX4_addHall_133 : decode cX4_addHall 133 = .ok (.getfield 158, 3) := by decide +kernel
theorem dX4_addHall_136 : decode cX4_addHall 136 = .ok (.iconst 2, 1) := by decide +kernel
theorem dX4_addHall_137 : decode cX4_addHall 137 = .ok (.invokevirtual 169, 3) := by decide +kernel
theorem dX4_addHall_140 : decode cX4_addHall 140 = .ok (.i2l, 1) := by decide +kernel
theorem dX4_addHall_141 : decode cX4_addHall 141 = .ok (.invokestatic 212, 3) := by decide +kernel
theorem dX4_addHall_144 : decode cX4_addHall 144 = .ok (.lstore_n 3, 1) := by decide +kernel
theorem dX4_addHall_145 : decode cX4_addHall 145 = .ok (.lload_n 3, 1) := by decide +kernel
theorem dX4_addHall_146 : decode cX4_addHall 146 = .ok (.aload_n 0, 1) := by decide +kernel
theorem dX4_addHall_147 : decode cX4_addHall 147 = .ok (.getfield 10, 3) := by decide +kernel
theorem dX4_addHall_150 : decode cX4_addHall 150 = .ok (.getfield 59, 3) := by decide +kernel
theorem dX4_addHall_153 : decode cX4_addHall 153 = .ok (.i2l, 1) := by decide +kernel
theorem dX4_addHall_154 : decode cX4_addHall 154 = .ok (.invokestatic 212, 3) := by decide +kernel
theorem dX4_addHall_157 : decode cX4_addHall 157 = .ok (.lreturn, 1) := by decide +kernel
theorem dX4_addBag_0 : decode cX4_addBag 0 = .ok (.lload_n 1, 1) := by decide +kernel
theorem dX4_addBag_1 : decode cX4_addBag 1 = .ok (.aload_n 0, 1) := by decide +kernel
theorem dX4_addBag_2 : decode cX4_addBag 2 = .ok (.getfield 10, 3) := by decide +kernel
theorem dX4_addBag_5 : decode cX4_addBag 5 = .ok (.getfield 80, 3) := by decide +kernel
theorem dX4_addBag_8 : decode cX4_addBag 8 = .ok (.getfield 101, 3) := by decide +kernel
theorem dX4_addBag_11 : decode cX4_addBag 11 = .ok (.iload_n 3, 1) := by decide +kernel
theorem dX4_addBag_12 : decode cX4_addBag 12 = .ok (.invokevirtual 68, 3) := by decide +kernel
theorem dX4_addBag_15 : decode cX4_addBag 15 = .ok (.i2l, 1) := by decide +kernel
theorem dX4_addBag_16 : decode cX4_addBag 16 = .ok (.invokestatic 212, 3) := by decide +kernel
theorem dX4_addBag_19 : decode cX4_addBag 19 = .ok (.lstore 4, 2) := by decide +kernel
theorem dX4_addBag_21 : decode cX4_addBag 21 = .ok (.lload 4, 2) := by decide +kernel
theorem dX4_addBag_23 : decode cX4_addBag 23 = .ok (.aload_n 0, 1) := by decide +kernel
theorem dX4_addBag_24 : decode cX4_addBag 24 = .ok (.getfield 10, 3) := by decide +kernel
theorem dX4_addBag_27 : decode cX4_addBag 27 = .ok (.getfield 80, 3) := by decide +kernel
theorem dX4_addBag_30 : decode cX4_addBag 30 = .ok (.getfield 142, 3) := by decide +kernel
theorem dX4_addBag_33 : decode cX4_addBag 33 = .ok (.iload_n 3, 1) := by decide +kernel
theorem dX4_addBag_34 : decode cX4_addBag 34 = .ok (.invokevirtual 68, 3) := by decide +kernel
theorem dX4_addBag_37 : decode cX4_addBag 37 = .ok (.i2l, 1) := by decide +kernel
theorem dX4_addBag_38 : decode cX4_addBag 38 = .ok (.invokestatic 212, 3) := by decide +kernel
theorem dX4_addBag_41 : decode cX4_addBag 41 = .ok (.lstore 4, 2) := by decide +kernel
theorem dX4_addBag_43 : decode cX4_addBag 43 = .ok (.lload 4, 2) := by decide +kernel
theorem dX4_addBag_45 : decode cX4_addBag 45 = .ok (.aload_n 0, 1) := by decide +kernel
theorem dX4_addBag_46 : decode cX4_addBag 46 = .ok (.getfield 10, 3) := by decide +kernel
theorem dX4_addBag_49 : decode cX4_addBag 49 = .ok (.iload_n 3, 1) := by decide +kernel
theorem dX4_addBag_50 : decode cX4_addBag 50 = .ok (.invokevirtual 145, 3) := by decide +kernel
theorem dX4_addBag_53 : decode cX4_addBag 53 = .ok (.i2l, 1) := by decide +kernel
theorem dX4_addBag_54 : decode cX4_addBag 54 = .ok (.invokestatic 212, 3) := by decide +kernel
theorem dX4_addBag_57 : decode cX4_addBag 57 = .ok (.lstore 4, 2) := by decide +kernel
theorem dX4_addBag_59 : decode cX4_addBag 59 = .ok (.lload 4, 2) := by decide +kernel
theorem dX4_addBag_61 : decode cX4_addBag 61 = .ok (.aload_n 0, 1) := by decide +kernel
theorem dX4_addBag_62 : decode cX4_addBag 62 = .ok (.getfield 10, 3) := by decide +kernel
theorem dX4_addBag_65 : decode cX4_addBag 65 = .ok (.getfield 80, 3) := by decide +kernel
theorem dX4_addBag_68 : decode cX4_addBag 68 = .ok (.getfield 148, 3) := by decide +kernel
theorem dX4_addBag_71 : decode cX4_addBag 71 = .ok (.iload_n 3, 1) := by decide +kernel
theorem dX4_addBag_72 : decode cX4_addBag 72 = .ok (.invokevirtual 68, 3) := by decide +kernel
theorem dX4_addBag_75 : decode cX4_addBag 75 = .ok (.i2l, 1) := by decide +kernel
theorem dX4_addBag_76 : decode cX4_addBag 76 = .ok (.invokestatic 212, 3) := by decide +kernel
theorem dX4_addBag_79 : decode cX4_addBag 79 = .ok (.lstore 4, 2) := by decide +kernel
theorem dX4_addBag_81 : decode cX4_addBag 81 = .ok (.lload 4, 2) := by decide +kernel
theorem dX4_addBag_83 : decode cX4_addBag 83 = .ok (.aload_n 0, 1) := by decide +kernel
theorem dX4_addBag_84 : decode cX4_addBag 84 = .ok (.getfield 10, 3) := by decide +kernel
theorem dX4_addBag_87 : decode cX4_addBag 87 = .ok (.getfield 80, 3) := by decide +kernel
theorem dX4_addBag_90 : decode cX4_addBag 90 = .ok (.getfield 149, 3) := by decide +kernel
theorem dX4_addBag_93 : decode cX4_addBag 93 = .ok (.iload_n 3, 1) := by decide +kernel
theorem dX4_addBag_94 : decode cX4_addBag 94 = .ok (.invokevirtual 68, 3) := by decide +kernel
theorem dX4_addBag_97 : decode cX4_addBag 97 = .ok (.i2l, 1) := by decide +kernel
theorem dX4_addBag_98 : decode cX4_addBag 98 = .ok (.invokestatic 212, 3) := by decide +kernel
theorem dX4_addBag_101 : decode cX4_addBag 101 = .ok (.lstore 4, 2) := by decide +kernel
theorem dX4_addBag_103 : decode cX4_addBag 103 = .ok (.lload 4, 2) := by decide +kernel
theorem dX4_addBag_105 : decode cX4_addBag 105 = .ok (.aload_n 0, 1) := by decide +kernel
theorem dX4_addBag_106 : decode cX4_addBag 106 = .ok (.getfield 10, 3) := by decide +kernel
theorem dX4_addBag_109 : decode cX4_addBag 109 = .ok (.getfield 80, 3) := by decide +kernel
theorem dX4_addBag_112 : decode cX4_addBag 112 = .ok (.getfield 152, 3) := by decide +kernel
theorem dX4_addBag_115 : decode cX4_addBag 115 = .ok (.iload_n 3, 1) := by decide +kernel
theorem dX4_addBag_116 : decode cX4_addBag 116 = .ok (.invokevirtual 68, 3) := by decide +kernel
theorem dX4_addBag_119 : decode cX4_addBag 119 = .ok (.i2l, 1) := by decide +kernel
theorem dX4_addBag_120 : decode cX4_addBag 120 = .ok (.invokestatic 212, 3) := by decide +kernel
theorem dX4_addBag_123 : decode cX4_addBag 123 = .ok (.lstore 4, 2) := by decide +kernel
theorem dX4_addBag_125 : decode cX4_addBag 125 = .ok (.lload 4, 2) := by decide +kernel
theorem dX4_addBag_127 : decode cX4_addBag 127 = .ok (.aload_n 0, 1) := by decide +kernel
theorem dX4_addBag_128 : decode cX4_addBag 128 = .ok (.getfield 10, 3) := by decide +kernel
theorem dX4_addBag_131 : decode cX4_addBag 131 = .ok (.iload_n 3, 1) := by decide +kernel
theorem dX4_addBag_132 : decode cX4_addBag 132 = .ok (.invokevirtual 155, 3) := by decide +kernel
theorem dX4_addBag_135 : decode cX4_addBag 135 = .ok (.ifCond .eq 7, 3) := by decide +kernel
theorem dX4_addBag_138 : decode cX4_addBag 138 = .ok (.lconst 1, 1) := by decide +kernel
theorem dX4_addBag_139 : decode cX4_addBag 139 = .ok (.goto 4, 3) := by decide +kernel
theorem dX4_addBag_142 : decode cX4_addBag 142 = .ok (.lconst 0, 1) := by decide +kernel
theorem dX4_addBag_143 : decode cX4_addBag 143 = .ok (.invokestatic 212, 3) := by decide +kernel
theorem dX4_addBag_146 : decode cX4_addBag 146 = .ok (.lstore 4, 2) := by decide +kernel
theorem dX4_addBag_148 : decode cX4_addBag 148 = .ok (.lload 4, 2) := by decide +kernel
theorem dX4_addBag_150 : decode cX4_addBag 150 = .ok (.aload_n 0, 1) := by decide +kernel
theorem dX4_addBag_151 : decode cX4_addBag 151 = .ok (.getfield 10, 3) := by decide +kernel
theorem dX4_addBag_154 : decode cX4_addBag 154 = .ok (.getfield 80, 3) := by decide +kernel
theorem dX4_addBag_157 : decode cX4_addBag 157 = .ok (.getfield 158, 3) := by decide +kernel
theorem dX4_addBag_160 : decode cX4_addBag 160 = .ok (.iload_n 3, 1) := by decide +kernel
theorem dX4_addBag_161 : decode cX4_addBag 161 = .ok (.invokevirtual 68, 3) := by decide +kernel
theorem dX4_addBag_164 : decode cX4_addBag 164 = .ok (.iconst 1, 1) := by decide +kernel
theorem dX4_addBag_165 : decode cX4_addBag 165 = .ok (.if_icmp .ne 7, 3) := by decide +kernel
theorem dX4_addBag_168 : decode cX4_addBag 168 = .ok (.lconst 1, 1) := by decide +kernel
theorem dX4_addBag_169 : decode cX4_addBag 169 = .ok (.goto 4, 3) := by decide +kernel
theorem dX4_addBag_172 : decode cX4_addBag 172 = .ok (.lconst 0, 1) := by decide +kernel
theorem dX4_addBag_173 : decode cX4_addBag 173 = .ok (.invokestatic 212, 3) := by decide +kernel
theorem dX4_addBag_176 : decode cX4_addBag 176 = .ok (.lreturn, 1) := by decide +kernel
theorem dX4_addChute_0 : decode cX4_addChute 0 = .ok (.lload_n 1, 1) := by decide +kernel
theorem dX4_addChute_1 : decode cX4_addChute 1 = .ok (.aload_n 0, 1) := by decide +kernel
theorem dX4_addChute_2 : decode cX4_addChute 2 = .ok (.getfield 10, 3) := by decide +kernel
theorem dX4_addChute_5 : decode cX4_addChute 5 = .ok (.getfield 80, 3) := by decide +kernel
theorem dX4_addChute_8 : decode cX4_addChute 8 = .ok (.getfield 148, 3) := by decide +kernel
theorem dX4_addChute_11 : decode cX4_addChute 11 = .ok (.iload_n 3, 1) := by decide +kernel
theorem dX4_addChute_12 : decode cX4_addChute 12 = .ok (.invokevirtual 169, 3) := by decide +kernel
theorem dX4_addChute_15 : decode cX4_addChute 15 = .ok (.i2l, 1) := by decide +kernel
theorem dX4_addChute_16 : decode cX4_addChute 16 = .ok (.invokestatic 212, 3) := by decide +kernel
theorem dX4_addChute_19 : decode cX4_addChute 19 = .ok (.lstore 4, 2) := by decide +kernel
theorem dX4_addChute_21 : decode cX4_addChute 21 = .ok (.lload 4, 2) := by decide +kernel
theorem dX4_addChute_23 : decode cX4_addChute 23 = .ok (.aload_n 0, 1) := by decide +kernel
theorem dX4_addChute_24 : decode cX4_addChute 24 = .ok (.getfield 10, 3) := by decide +kernel
theorem dX4_addChute_27 : decode cX4_addChute 27 = .ok (.iload_n 3, 1) := by decide +kernel
theorem dX4_addChute_28 : decode cX4_addChute 28 = .ok (.invokevirtual 171, 3) := by decide +kernel
theorem dX4_addChute_31 : decode cX4_addChute 31 = .ok (.i2l, 1) := by decide +kernel
theorem dX4_addChute_32 : decode cX4_addChute 32 = .ok (.invokestatic 212, 3) := by decide +kernel
theorem dX4_addChute_35 : decode cX4_addChute 35 = .ok (.lstore 4, 2) := by decide +kernel
theorem dX4_addChute_37 : decode cX4_addChute 37 = .ok (.lload 4, 2) := by decide +kernel
theorem dX4_addChute_39 : decode cX4_addChute 39 = .ok (.aload_n 0, 1) := by decide +kernel
theorem dX4_addChute_40 : decode cX4_addChute 40 = .ok (.getfield 10, 3) := by decide +kernel
theorem dX4_addChute_43 : decode cX4_addChute 43 = .ok (.getfield 64, 3) := by decide +kernel
theorem dX4_addChute_46 : decode cX4_addChute 46 = .ok (.iload_n 3, 1) := by decide +kernel
theorem dX4_addChute_47 : decode cX4_addChute 47 = .ok (.invokevirtual 68, 3) := by decide +kernel
theorem dX4_addChute_50 : decode cX4_addChute 50 = .ok (.i2l, 1) := by decide +kernel
theorem dX4_addChute_51 : decode cX4_addChute 51 = .ok (.invokestatic 212, 3) := by decide +kernel
theorem dX4_addChute_54 : decode cX4_addChute 54 = .ok (.lreturn, 1) := by decide +kernel
theorem dX4_addOfFlight_0 : decode cX4_addOfFlight 0 = .ok (.lload_n 1, 1) := by decide +kernel
theorem dX4_addOfFlight_1 : decode cX4_addOfFlight 1 = .ok (.aload_n 0, 1) := by decide +kernel
theorem dX4_addOfFlight_2 : decode cX4_addOfFlight 2 = .ok (.getfield 10, 3) := by decide +kernel
theorem dX4_addOfFlight_5 : decode cX4_addOfFlight 5 = .ok (.getfield 19, 3) := by decide +kernel
theorem dX4_addOfFlight_8 : decode cX4_addOfFlight 8 = .ok (.getfield 104, 3) := by decide +kernel
theorem dX4_addOfFlight_11 : decode cX4_addOfFlight 11 = .ok (.iload_n 3, 1) := by decide +kernel
theorem dX4_addOfFlight_12 : decode cX4_addOfFlight 12 = .ok (.invokevirtual 68, 3) := by decide +kernel
theorem dX4_addOfFlight_15 : decode cX4_addOfFlight 15 = .ok (.i2l, 1) := by decide +kernel
theorem dX4_addOfFlight_16 : decode cX4_addOfFlight 16 = .ok (.invokestatic 212, 3) := by decide +kernel
theorem dX4_addOfFlight_19 : decode cX4_addOfFlight 19 = .ok (.lstore 4, 2) := by decide +kernel
theorem dX4_addOfFlight_21 : decode cX4_addOfFlight 21 = .ok (.lload 4, 2) := by decide +kernel
theorem dX4_addOfFlight_23 : decode cX4_addOfFlight 23 = .ok (.aload_n 0, 1) := by decide +kernel
theorem dX4_addOfFlight_24 : decode cX4_addOfFlight 24 = .ok (.getfield 10, 3) := by decide +kernel
theorem dX4_addOfFlight_27 : decode cX4_addOfFlight 27 = .ok (.getfield 19, 3) := by decide +kernel
theorem dX4_addOfFlight_30 : decode cX4_addOfFlight 30 = .ok (.iload_n 3, 1) := by decide +kernel
theorem dX4_addOfFlight_31 : decode cX4_addOfFlight 31 = .ok (.invokevirtual 119, 3) := by decide +kernel
theorem dX4_addOfFlight_34 : decode cX4_addOfFlight 34 = .ok (.ifCond .eq 7, 3) := by decide +kernel
theorem dX4_addOfFlight_37 : decode cX4_addOfFlight 37 = .ok (.lconst 1, 1) := by decide +kernel
theorem dX4_addOfFlight_38 : decode cX4_addOfFlight 38 = .ok (.goto 4, 3) := by decide +kernel
theorem dX4_addOfFlight_41 : decode cX4_addOfFlight 41 = .ok (.lconst 0, 1) := by decide +kernel
theorem dX4_addOfFlight_42 : decode cX4_addOfFlight 42 = .ok (.invokestatic 212, 3) := by decide +kernel
theorem dX4_addOfFlight_45 : decode cX4_addOfFlight 45 = .ok (.lstore 4, 2) := by decide +kernel
theorem dX4_addOfFlight_47 : decode cX4_addOfFlight 47 = .ok (.lload 4, 2) := by decide +kernel
theorem dX4_addOfFlight_49 : decode cX4_addOfFlight 49 = .ok (.aload_n 0, 1) := by decide +kernel
theorem dX4_addOfFlight_50 : decode cX4_addOfFlight 50 = .ok (.getfield 10, 3) := by decide +kernel
theorem dX4_addOfFlight_53 : decode cX4_addOfFlight 53 = .ok (.iload_n 3, 1) := by decide +kernel
theorem dX4_addOfFlight_54 : decode cX4_addOfFlight 54 = .ok (.invokevirtual 174, 3) := by decide +kernel
theorem dX4_addOfFlight_57 : decode cX4_addOfFlight 57 = .ok (.i2l, 1) := by decide +kernel
theorem dX4_addOfFlight_58 : decode cX4_addOfFlight 58 = .ok (.invokestatic 212, 3) := by decide +kernel
theorem dX4_addOfFlight_61 : decode cX4_addOfFlight 61 = .ok (.lstore 4, 2) := by decide +kernel
theorem dX4_addOfFlight_63 : decode cX4_addOfFlight 63 = .ok (.lload 4, 2) := by decide +kernel
theorem dX4_addOfFlight_65 : decode cX4_addOfFlight 65 = .ok (.aload_n 0, 1) := by decide +kernel
theorem dX4_addOfFlight_66 : decode cX4_addOfFlight 66 = .ok (.getfield 10, 3) := by decide +kernel
theorem dX4_addOfFlight_69 : decode cX4_addOfFlight 69 = .ok (.iload_n 3, 1) := by decide +kernel
theorem dX4_addOfFlight_70 : decode cX4_addOfFlight 70 = .ok (.invokevirtual 177, 3) := by decide +kernel
theorem dX4_addOfFlight_73 : decode cX4_addOfFlight 73 = .ok (.i2l, 1) := by decide +kernel
theorem dX4_addOfFlight_74 : decode cX4_addOfFlight 74 = .ok (.invokestatic 212, 3) := by decide +kernel
theorem dX4_addOfFlight_77 : decode cX4_addOfFlight 77 = .ok (.lreturn, 1) := by decide +kernel
theorem dX4_addNumber_0 : decode cX4_addNumber 0 = .ok (.lload_n 0, 1) := by decide +kernel
theorem dX4_addNumber_1 : decode cX4_addNumber 1 = .ok (.ldc2_w 216, 3) := by decide +kernel
theorem dX4_addNumber_4 : decode cX4_addNumber 4 = .ok (.lmul, 1) := by decide +kernel
theorem dX4_addNumber_5 : decode cX4_addNumber 5 = .ok (.lload_n 2, 1) := by decide +kernel
theorem dX4_addNumber_6 : decode cX4_addNumber 6 = .ok (.ladd, 1) := by decide +kernel
theorem dX4_addNumber_7 : decode cX4_addNumber 7 = .ok (.lreturn, 1) := by decide +kernel
theorem dX4_needBag_0 : decode cX4_needBag 0 = .ok (.iload_n 1, 1) := by decide +kernel
theorem dX4_needBag_1 : decode cX4_needBag 1 = .ok (.ifCond .lt 17, 3) := by decide +kernel
theorem dX4_needBag_4 : decode cX4_needBag 4 = .ok (.iload_n 1, 1) := by decide +kernel
theorem dX4_needBag_5 : decode cX4_needBag 5 = .ok (.aload_n 0, 1) := by decide +kernel
theorem dX4_needBag_6 : decode cX4_needBag 6 = .ok (.getfield 10, 3) := by decide +kernel
theorem dX4_needBag_9 : decode cX4_needBag 9 = .ok (.getfield 80, 3) := by decide +kernel
theorem dX4_needBag_12 : decode cX4_needBag 12 = .ok (.getfield 84, 3) := by decide +kernel
theorem dX4_needBag_15 : decode cX4_needBag 15 = .ok (.if_icmp .lt 13, 3) := by decide +kernel
theorem dX4_needBag_18 : decode cX4_needBag 18 = .ok (.new 161, 3) := by decide +kernel
theorem dX4_needBag_21 : decode cX4_needBag 21 = .ok (.dup, 1) := by decide +kernel
theorem dX4_needBag_22 : decode cX4_needBag 22 = .ok (.ldc 218, 2) := by decide +kernel
theorem dX4_needBag_24 : decode cX4_needBag 24 = .ok (.invokespecial 165, 3) := by decide +kernel
theorem dX4_needBag_27 : decode cX4_needBag 27 = .ok (.athrow, 1) := by decide +kernel
theorem dX4_needBag_28 : decode cX4_needBag 28 = .ok (.return_, 1) := by decide +kernel
theorem dX4_needFlight_0 : decode cX4_needFlight 0 = .ok (.iload_n 1, 1) := by decide +kernel
theorem dX4_needFlight_1 : decode cX4_needFlight 1 = .ok (.ifCond .lt 17, 3) := by decide +kernel
theorem dX4_needFlight_4 : decode cX4_needFlight 4 = .ok (.iload_n 1, 1) := by decide +kernel
theorem dX4_needFlight_5 : decode cX4_needFlight 5 = .ok (.aload_n 0, 1) := by decide +kernel
theorem dX4_needFlight_6 : decode cX4_needFlight 6 = .ok (.getfield 10, 3) := by decide +kernel
theorem dX4_needFlight_9 : decode cX4_needFlight 9 = .ok (.getfield 19, 3) := by decide +kernel
theorem dX4_needFlight_12 : decode cX4_needFlight 12 = .ok (.getfield 23, 3) := by decide +kernel
theorem dX4_needFlight_15 : decode cX4_needFlight 15 = .ok (.if_icmp .lt 13, 3) := by decide +kernel
theorem dX4_needFlight_18 : decode cX4_needFlight 18 = .ok (.new 161, 3) := by decide +kernel
theorem dX4_needFlight_21 : decode cX4_needFlight 21 = .ok (.dup, 1) := by decide +kernel
theorem dX4_needFlight_22 : decode cX4_needFlight 22 = .ok (.ldc 220, 2) := by decide +kernel
theorem dX4_needFlight_24 : decode cX4_needFlight 24 = .ok (.invokespecial 165, 3) := by decide +kernel
theorem dX4_needFlight_27 : decode cX4_needFlight 27 = .ok (.athrow, 1) := by decide +kernel
theorem dX4_needFlight_28 : decode cX4_needFlight 28 = .ok (.return_, 1) := by decide +kernel
theorem dX4_needChute_0 : decode cX4_needChute 0 = .ok (.iload_n 0, 1) := by decide +kernel
theorem dX4_needChute_1 : decode cX4_needChute 1 = .ok (.invokestatic 107, 3) := by decide +kernel
theorem dX4_needChute_4 : decode cX4_needChute 4 = .ok (.ifCond .ne 13, 3) := by decide +kernel
theorem dX4_needChute_7 : decode cX4_needChute 7 = .ok (.new 161, 3) := by decide +kernel
theorem dX4_needChute_10 : decode cX4_needChute 10 = .ok (.dup, 1) := by decide +kernel
theorem dX4_needChute_11 : decode cX4_needChute 11 = .ok (.ldc 222, 2) := by decide +kernel
theorem dX4_needChute_13 : decode cX4_needChute 13 = .ok (.invokespecial 165, 3) := by decide +kernel
theorem dX4_needChute_16 : decode cX4_needChute 16 = .ok (.athrow, 1) := by decide +kernel
theorem dX4_needChute_17 : decode cX4_needChute 17 = .ok (.return_, 1) := by decide +kernel
theorem dX4_needMinutes_0 : decode cX4_needMinutes 0 = .ok (.iload_n 0, 1) := by decide +kernel
theorem dX4_needMinutes_1 : decode cX4_needMinutes 1 = .ok (.iconst 1, 1) := by decide +kernel
theorem dX4_needMinutes_2 : decode cX4_needMinutes 2 = .ok (.if_icmp .lt 9, 3) := by decide +kernel
theorem dX4_needMinutes_5 : decode cX4_needMinutes 5 = .ok (.iload_n 0, 1) := by decide +kernel
theorem dX4_needMinutes_6 : decode cX4_needMinutes 6 = .ok (.bipush 60, 2) := by decide +kernel
theorem dX4_needMinutes_8 : decode cX4_needMinutes 8 = .ok (.if_icmp .le 13, 3) := by decide +kernel
theorem dX4_needMinutes_11 : decode cX4_needMinutes 11 = .ok (.new 54, 3) := by decide +kernel
theorem dX4_needMinutes_14 : decode cX4_needMinutes 14 = .ok (.dup, 1) := by decide +kernel
theorem dX4_needMinutes_15 : decode cX4_needMinutes 15 = .ok (.ldc 224, 2) := by decide +kernel
theorem dX4_needMinutes_17 : decode cX4_needMinutes 17 = .ok (.invokespecial 58, 3) := by decide +kernel
theorem dX4_needMinutes_20 : decode cX4_needMinutes 20 = .ok (.athrow, 1) := by decide +kernel
theorem dX4_needMinutes_21 : decode cX4_needMinutes 21 = .ok (.return_, 1) := by decide +kernel
theorem dX4_needNotGone_0 : decode cX4_needNotGone 0 = .ok (.aload_n 0, 1) := by decide +kernel
theorem dX4_needNotGone_1 : decode cX4_needNotGone 1 = .ok (.getfield 10, 3) := by decide +kernel
theorem dX4_needNotGone_4 : decode cX4_needNotGone 4 = .ok (.getfield 19, 3) := by decide +kernel
theorem dX4_needNotGone_7 : decode cX4_needNotGone 7 = .ok (.iload_n 1, 1) := by decide +kernel
theorem dX4_needNotGone_8 : decode cX4_needNotGone 8 = .ok (.invokevirtual 119, 3) := by decide +kernel
theorem dX4_needNotGone_11 : decode cX4_needNotGone 11 = .ok (.ifCond .eq 13, 3) := by decide +kernel
theorem dX4_needNotGone_14 : decode cX4_needNotGone 14 = .ok (.new 29, 3) := by decide +kernel
theorem dX4_needNotGone_17 : decode cX4_needNotGone 17 = .ok (.dup, 1) := by decide +kernel
theorem dX4_needNotGone_18 : decode cX4_needNotGone 18 = .ok (.ldc 226, 2) := by decide +kernel
theorem dX4_needNotGone_20 : decode cX4_needNotGone 20 = .ok (.invokespecial 33, 3) := by decide +kernel
theorem dX4_needNotGone_23 : decode cX4_needNotGone 23 = .ok (.athrow, 1) := by decide +kernel
theorem dX4_needNotGone_24 : decode cX4_needNotGone 24 = .ok (.return_, 1) := by decide +kernel
theorem dX4_needInHand_0 : decode cX4_needInHand 0 = .ok (.aload_n 0, 1) := by decide +kernel
theorem dX4_needInHand_1 : decode cX4_needInHand 1 = .ok (.getfield 10, 3) := by decide +kernel
theorem dX4_needInHand_4 : decode cX4_needInHand 4 = .ok (.getfield 80, 3) := by decide +kernel
theorem dX4_needInHand_7 : decode cX4_needInHand 7 = .ok (.getfield 142, 3) := by decide +kernel
theorem dX4_needInHand_10 : decode cX4_needInHand 10 = .ok (.iload_n 1, 1) := by decide +kernel
theorem dX4_needInHand_11 : decode cX4_needInHand 11 = .ok (.invokevirtual 68, 3) := by decide +kernel
theorem dX4_needInHand_14 : decode cX4_needInHand 14 = .ok (.istore_n 2, 1) := by decide +kernel
theorem dX4_needInHand_15 : decode cX4_needInHand 15 = .ok (.iload_n 2, 1) := by decide +kernel
theorem dX4_needInHand_16 : decode cX4_needInHand 16 = .ok (.iconst 3, 1) := by decide +kernel
theorem dX4_needInHand_17 : decode cX4_needInHand 17 = .ok (.if_icmp .eq 18, 3) := by decide +kernel
theorem dX4_needInHand_20 : decode cX4_needInHand 20 = .ok (.iload_n 2, 1) := by decide +kernel
theorem dX4_needInHand_21 : decode cX4_needInHand 21 = .ok (.iconst 4, 1) := by decide +kernel
theorem dX4_needInHand_22 : decode cX4_needInHand 22 = .ok (.if_icmp .eq 13, 3) := by decide +kernel
theorem dX4_needInHand_25 : decode cX4_needInHand 25 = .ok (.new 29, 3) := by decide +kernel
theorem dX4_needInHand_28 : decode cX4_needInHand 28 = .ok (.dup, 1) := by decide +kernel
theorem dX4_needInHand_29 : decode cX4_needInHand 29 = .ok (.ldc 228, 2) := by decide +kernel
theorem dX4_needInHand_31 : decode cX4_needInHand 31 = .ok (.invokespecial 33, 3) := by decide +kernel
theorem dX4_needInHand_34 : decode cX4_needInHand 34 = .ok (.athrow, 1) := by decide +kernel
theorem dX4_needInHand_35 : decode cX4_needInHand 35 = .ok (.return_, 1) := by decide +kernel
theorem dX4_isChute_0 : decode cX4_isChute 0 = .ok (.iload_n 0, 1) := by decide +kernel
theorem dX4_isChute_1 : decode cX4_isChute 1 = .ok (.ifCond .lt 12, 3) := by decide +kernel
theorem dX4_isChute_4 : decode cX4_isChute 4 = .ok (.iload_n 0, 1) := by decide +kernel
theorem dX4_isChute_5 : decode cX4_isChute 5 = .ok (.iconst 4, 1) := by decide +kernel
theorem dX4_isChute_6 : decode cX4_isChute 6 = .ok (.if_icmp .ge 7, 3) := by decide +kernel
theorem dX4_isChute_9 : decode cX4_isChute 9 = .ok (.iconst 1, 1) := by decide +kernel
theorem dX4_isChute_10 : decode cX4_isChute 10 = .ok (.goto 4, 3) := by decide +kernel
theorem dX4_isChute_13 : decode cX4_isChute 13 = .ok (.iconst 0, 1) := by decide +kernel
theorem dX4_isChute_14 : decode cX4_isChute 14 = .ok (.ireturn, 1) := by decide +kernel
theorem dX4_readyWithChute_0 : decode cX4_readyWithChute 0 = .ok (.aload_n 0, 1) := by decide +kernel
theorem dX4_readyWithChute_1 : decode cX4_readyWithChute 1 = .ok (.getfield 16, 3) := by decide +kernel
theorem dX4_readyWithChute_4 : decode cX4_readyWithChute 4 = .ok (.aload_n 0, 1) := by decide +kernel
theorem dX4_readyWithChute_5 : decode cX4_readyWithChute 5 = .ok (.getfield 10, 3) := by decide +kernel
theorem dX4_readyWithChute_8 : decode cX4_readyWithChute 8 = .ok (.invokevirtual 183, 3) := by decide +kernel
theorem dX4_readyWithChute_11 : decode cX4_readyWithChute 11 = .ok (.aload_n 0, 1) := by decide +kernel
theorem dX4_readyWithChute_12 : decode cX4_readyWithChute 12 = .ok (.getfield 16, 3) := by decide +kernel
theorem dX4_readyWithChute_15 : decode cX4_readyWithChute 15 = .ok (.getfield 19, 3) := by decide +kernel
theorem dX4_readyWithChute_18 : decode cX4_readyWithChute 18 = .ok (.getfield 104, 3) := by decide +kernel
theorem dX4_readyWithChute_21 : decode cX4_readyWithChute 21 = .ok (.iload_n 1, 1) := by decide +kernel
theorem dX4_readyWithChute_22 : decode cX4_readyWithChute 22 = .ok (.iload_n 2, 1) := by decide +kernel
theorem dX4_readyWithChute_23 : decode cX4_readyWithChute 23 = .ok (.invokevirtual 74, 3) := by decide +kernel
theorem dX4_readyWithChute_26 : decode cX4_readyWithChute 26 = .ok (.aload_n 0, 1) := by decide +kernel
theorem dX4_readyWithChute_27 : decode cX4_readyWithChute 27 = .ok (.getfield 16, 3) := by decide +kernel
theorem dX4_readyWithChute_30 : decode cX4_readyWithChute 30 = .ok (.iload_n 3, 1) := by decide +kernel
theorem dX4_readyWithChute_31 : decode cX4_readyWithChute 31 = .ok (.invokevirtual 139, 3) := by decide +kernel
theorem dX4_readyWithChute_34 : decode cX4_readyWithChute 34 = .ok (.pop, 1) := by decide +kernel
theorem dX4_readyWithChute_35 : decode cX4_readyWithChute 35 = .ok (.aload_n 0, 1) := by decide +kernel
theorem dX4_readyWithChute_36 : decode cX4_readyWithChute 36 = .ok (.getfield 16, 3) := by decide +kernel
theorem dX4_readyWithChute_39 : decode cX4_readyWithChute 39 = .ok (.iload_n 1, 1) := by decide +kernel
theorem dX4_readyWithChute_40 : decode cX4_readyWithChute 40 = .ok (.invokevirtual 174, 3) := by decide +kernel
theorem dX4_readyWithChute_43 : decode cX4_readyWithChute 43 = .ok (.ireturn, 1) := by decide +kernel
theorem dJ9_min_7cf53_0 : decode cJ9_min_7cf53 0 = .ok (.iload_n 0, 1) := by decide +kernel
theorem dJ9_min_7cf53_1 : decode cJ9_min_7cf53 1 = .ok (.iload_n 1, 1) := by decide +kernel
theorem dJ9_min_7cf53_2 : decode cJ9_min_7cf53 2 = .ok (.if_icmp .gt 7, 3) := by decide +kernel
theorem dJ9_min_7cf53_5 : decode cJ9_min_7cf53 5 = .ok (.iload_n 0, 1) := by decide +kernel
theorem dJ9_min_7cf53_6 : decode cJ9_min_7cf53 6 = .ok (.goto 4, 3) := by decide +kernel
theorem dJ9_min_7cf53_9 : decode cJ9_min_7cf53 9 = .ok (.iload_n 1, 1) := by decide +kernel
theorem dJ9_min_7cf53_10 : decode cJ9_min_7cf53 10 = .ok (.ireturn, 1) := by decide +kernel
theorem dJ7_fill_53178_0 : decode cJ7_fill_53178 0 = .ok (.iconst 0, 1) := by decide +kernel
theorem dJ7_fill_53178_1 : decode cJ7_fill_53178 1 = .ok (.istore_n 2, 1) := by decide +kernel
theorem dJ7_fill_53178_2 : decode cJ7_fill_53178 2 = .ok (.aload_n 0, 1) := by decide +kernel
theorem dJ7_fill_53178_3 : decode cJ7_fill_53178 3 = .ok (.arraylength, 1) := by decide +kernel
theorem dJ7_fill_53178_4 : decode cJ7_fill_53178 4 = .ok (.istore_n 3, 1) := by decide +kernel
theorem dJ7_fill_53178_5 : decode cJ7_fill_53178 5 = .ok (.iload_n 2, 1) := by decide +kernel
theorem dJ7_fill_53178_6 : decode cJ7_fill_53178 6 = .ok (.iload_n 3, 1) := by decide +kernel
theorem dJ7_fill_53178_7 : decode cJ7_fill_53178 7 = .ok (.if_icmp .ge 13, 3) := by decide +kernel
theorem dJ7_fill_53178_10 : decode cJ7_fill_53178 10 = .ok (.aload_n 0, 1) := by decide +kernel
theorem dJ7_fill_53178_11 : decode cJ7_fill_53178 11 = .ok (.iload_n 2, 1) := by decide +kernel
theorem dJ7_fill_53178_12 : decode cJ7_fill_53178 12 = .ok (.iload_n 1, 1) := by decide +kernel
theorem dJ7_fill_53178_13 : decode cJ7_fill_53178 13 = .ok (.iastore, 1) := by decide +kernel
theorem dJ7_fill_53178_14 : decode cJ7_fill_53178 14 = .ok (.iinc 2 1, 3) := by decide +kernel
theorem dJ7_fill_53178_17 : decode cJ7_fill_53178 17 = .ok (.goto (-12), 3) := by decide +kernel
theorem dJ7_fill_53178_20 : decode cJ7_fill_53178 20 = .ok (.return_, 1) := by decide +kernel
