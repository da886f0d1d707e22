theorem dX5_init_0 : decode cX5_init 0 = .ok (.aload_n 0, 1) := by decide +kernel
theorem dX5_init_1 : decode cX5_init 1 = .ok (.invokespecial 3, 3) := by decide +kernel
theorem dX5_init_4 : decode cX5_init 4 = .ok (.aload_n 0, 1) := by decide +kernel
theorem dX5_init_5 : decode cX5_init 5 = .ok (.bipush 40, 2) := by decide +kernel
theorem dX5_init_7 : decode cX5_init 7 = .ok (.newarray .int, 2) := by decide +kernel
theorem dX5_init_9 : decode cX5_init 9 = .ok (.putfield 9, 3) := by decide +kernel
theorem dX5_init_12 : decode cX5_init 12 = .ok (.aload_n 0, 1) := by decide +kernel
theorem dX5_init_13 : decode cX5_init 13 = .ok (.bipush 40, 2) := by decide +kernel
theorem dX5_init_15 : decode cX5_init 15 = .ok (.newarray .int, 2) := by decide +kernel
theorem dX5_init_17 : decode cX5_init 17 = .ok (.putfield 15, 3) := by decide +kernel
theorem dX5_init_20 : decode cX5_init 20 = .ok (.aload_n 0, 1) := by decide +kernel
theorem dX5_init_21 : decode cX5_init 21 = .ok (.bipush 40, 2) := by decide +kernel
theorem dX5_init_23 : decode cX5_init 23 = .ok (.newarray .int, 2) := by decide +kernel
theorem dX5_init_25 : decode cX5_init 25 = .ok (.putfield 18, 3) := by decide +kernel
theorem dX5_init_28 : decode cX5_init 28 = .ok (.aload_n 0, 1) := by decide +kernel
theorem dX5_init_29 : decode cX5_init 29 = .ok (.bipush 40, 2) := by decide +kernel
theorem dX5_init_31 : decode cX5_init 31 = .ok (.newarray .int, 2) := by decide +kernel
theorem dX5_init_33 : decode cX5_init 33 = .ok (.putfield 21, 3) := by decide +kernel
theorem dX5_init_36 : decode cX5_init 36 = .ok (.aload_n 0, 1) := by decide +kernel
theorem dX5_init_37 : decode cX5_init 37 = .ok (.bipush 12, 2) := by decide +kernel
theorem dX5_init_39 : decode cX5_init 39 = .ok (.newarray .int, 2) := by decide +kernel
theorem dX5_init_41 : decode cX5_init 41 = .ok (.putfield 24, 3) := by decide +kernel
theorem dX5_init_44 : decode cX5_init 44 = .ok (.aload_n 0, 1) := by decide +kernel
theorem dX5_init_45 : decode cX5_init 45 = .ok (.bipush 40, 2) := by decide +kernel
theorem dX5_init_47 : decode cX5_init 47 = .ok (.newarray .int, 2) := by decide +kernel
theorem dX5_init_49 : decode cX5_init 49 = .ok (.putfield 27, 3) := by decide +kernel
theorem dX5_init_52 : decode cX5_init 52 = .ok (.aload_n 0, 1) := by decide +kernel
theorem dX5_init_53 : decode cX5_init 53 = .ok (.iconst 4, 1) := by decide +kernel
theorem dX5_init_54 : decode cX5_init 54 = .ok (.newarray .int, 2) := by decide +kernel
theorem dX5_init_56 : decode cX5_init 56 = .ok (.putfield 30, 3) := by decide +kernel
theorem dX5_init_59 : decode cX5_init 59 = .ok (.iconst 0, 1) := by decide +kernel
theorem dX5_init_60 : decode cX5_init 60 = .ok (.istore_n 1, 1) := by decide +kernel
theorem dX5_init_61 : decode cX5_init 61 = .ok (.iload_n 1, 1) := by decide +kernel
theorem dX5_init_62 : decode cX5_init 62 = .ok (.bipush 12, 2) := by decide +kernel
theorem dX5_init_64 : decode cX5_init 64 = .ok (.if_icmp .ge 16, 3) := by decide +kernel
theorem dX5_init_67 : decode cX5_init 67 = .ok (.aload_n 0, 1) := by decide +kernel
theorem dX5_init_68 : decode cX5_init 68 = .ok (.getfield 24, 3) := by decide +kernel
theorem dX5_init_71 : decode cX5_init 71 = .ok (.iload_n 1, 1) := by decide +kernel
theorem dX5_init_72 : decode cX5_init 72 = .ok (.iconst (-1), 1) := by decide +kernel
theorem dX5_init_73 : decode cX5_init 73 = .ok (.iastore, 1) := by decide +kernel
theorem dX5_init_74 : decode cX5_init 74 = .ok (.iinc 1 1, 3) := by decide +kernel
theorem dX5_init_77 : decode cX5_init 77 = .ok (.goto (-16), 3) := by decide +kernel
theorem dX5_init_80 : decode cX5_init 80 = .ok (.return_, 1) := by decide +kernel
theorem dX5_copy_0 : decode cX5_copy 0 = .ok (.aload_n 0, 1) := by decide +kernel
theorem dX5_copy_1 : decode cX5_copy 1 = .ok (.iconst 0, 1) := by decide +kernel
theorem dX5_copy_2 : decode cX5_copy 2 = .ok (.aload_n 1, 1) := by decide +kernel
theorem dX5_copy_3 : decode cX5_copy 3 = .ok (.iconst 0, 1) := by decide +kernel
theorem dX5_copy_4 : decode cX5_copy 4 = .ok (.aload_n 1, 1) := by decide +kernel
theorem dX5_copy_5 : decode cX5_copy 5 = .ok (.arraylength, 1) := by decide +kernel
theorem dX5_copy_6 : decode cX5_copy 6 = .ok (.invokestatic 33, 3) := by decide +kernel
theorem dX5_copy_9 : decode cX5_copy 9 = .ok (.return_, 1) := by decide +kernel
theorem dX5_become_0 : decode cX5_become 0 = .ok (.aload_n 0, 1) := by decide +kernel
theorem dX5_become_1 : decode cX5_become 1 = .ok (.aload_n 1, 1) := by decide +kernel
theorem dX5_become_2 : decode cX5_become 2 = .ok (.getfield 39, 3) := by decide +kernel
theorem dX5_become_5 : decode cX5_become 5 = .ok (.putfield 39, 3) := by decide +kernel
theorem dX5_become_8 : decode cX5_become 8 = .ok (.aload_n 0, 1) := by decide +kernel
theorem dX5_become_9 : decode cX5_become 9 = .ok (.aload_n 1, 1) := by decide +kernel
theorem dX5_become_10 : decode cX5_become 10 = .ok (.getfield 43, 3) := by decide +kernel
theorem dX5_become_13 : decode cX5_become 13 = .ok (.putfield 43, 3) := by decide +kernel
theorem dX5_become_16 : decode cX5_become 16 = .ok (.aload_n 1, 1) := by decide +kernel
theorem dX5_become_17 : decode cX5_become 17 = .ok (.getfield 9, 3) := by decide +kernel
theorem dX5_become_20 : decode cX5_become 20 = .ok (.aload_n 0, 1) := by decide +kernel
theorem dX5_become_21 : decode cX5_become 21 = .ok (.getfield 9, 3) := by decide +kernel
theorem dX5_become_24 : decode cX5_become 24 = .ok (.invokestatic 46, 3) := by decide +kernel
theorem dX5_become_27 : decode cX5_become 27 = .ok (.aload_n 1, 1) := by decide +kernel
theorem dX5_become_28 : decode cX5_become 28 = .ok (.getfield 15, 3) := by decide +kernel
theorem dX5_become_31 : decode cX5_become 31 = .ok (.aload_n 0, 1) := by decide +kernel
theorem dX5_become_32 : decode cX5_become 32 = .ok (.getfield 15, 3) := by decide +kernel
theorem dX5_become_35 : decode cX5_become 35 = .ok (.invokestatic 46, 3) := by decide +kernel
theorem dX5_become_38 : decode cX5_become 38 = .ok (.aload_n 1, 1) := by decide +kernel
theorem dX5_become_39 : decode cX5_become 39 = .ok (.getfield 18, 3) := by decide +kernel
theorem dX5_become_42 : decode cX5_become 42 = .ok (.aload_n 0, 1) := by decide +kernel
theorem dX5_become_43 : decode cX5_become 43 = .ok (.getfield 18, 3) := by decide +kernel
theorem dX5_become_46 : decode cX5_become 46 = .ok (.invokestatic 46, 3) := by decide +kernel
theorem dX5_become_49 : decode cX5_become 49 = .ok (.aload_n 1, 1) := by decide +kernel
theorem dX5_become_50 : decode cX5_become 50 = .ok (.getfield 21, 3) := by decide +kernel
theorem dX5_become_53 : decode cX5_become 53 = .ok (.aload_n 0, 1) := by decide +kernel
theorem dX5_become_54 : decode cX5_become 54 = .ok (.getfield 21, 3) := by decide +kernel
theorem dX5_become_57 : decode cX5_become 57 = .ok (.invokestatic 46, 3) := by decide +kernel
theorem dX5_become_60 : decode cX5_become 60 = .ok (.aload_n 1, 1) := by decide +kernel
theorem dX5_become_61 : decode cX5_become 61 = .ok (.getfield 24, 3) := by decide +kernel
theorem dX5_become_64 : decode cX5_become 64 = .ok (.aload_n 0, 1) := by decide +kernel
theorem dX5_become_65 : decode cX5_become 65 = .ok (.getfield 24, 3) := by decide +kernel
theorem dX5_become_68 : decode cX5_become 68 = .ok (.invokestatic 46, 3) := by decide +kernel
theorem dX5_become_71 : decode cX5_become 71 = .ok (.aload_n 1, 1) := by decide +kernel
theorem dX5_become_72 : decode cX5_become 72 = .ok (.getfield 27, 3) := by decide +kernel
theorem dX5_become_75 : decode cX5_become 75 = .ok (.aload_n 0, 1) := by decide +kernel
theorem dX5_become_76 : decode cX5_become 76 = .ok (.getfield 27, 3) := by decide +kernel
theorem dX5_become_79 : decode cX5_become 79 = .ok (.invokestatic 46, 3) := by decide +kernel
theorem dX5_become_82 : decode cX5_become 82 = .ok (.aload_n 1, 1) := by decide +kernel
theorem dX5_become_83 : decode cX5_become 83 = .ok (.getfield 30, 3) := by decide +kernel
theorem dX5_become_86 : decode cX5_become 86 = .ok (.aload_n 0, 1) := by decide +kernel
theorem dX5_become_87 : decode cX5_become 87 = .ok (.getfield 30, 3) := by decide +kernel
theorem dX5_become_90 : decode cX5_become 90 = .ok (.invokestatic 46, 3) := by decide +kernel
theorem dX5_become_93 : decode cX5_become 93 = .ok (.return_, 1) := by decide +kernel
theorem dX5_put_0 : decode cX5_put 0 = .ok (.aload_n 0, 1) := by decide +kernel
theorem dX5_put_1 : decode cX5_put 1 = .ok (.getfield 9, 3) := by decide +kernel
theorem dX5_put_4 : decode cX5_put 4 = .ok (.iload_n 1, 1) := by decide +kernel
theorem dX5_put_5 : decode cX5_put 5 = .ok (.iload_n 2, 1) := by decide +kernel
theorem dX5_put_6 : decode cX5_put 6 = .ok (.iastore, 1) := by decide +kernel
theorem dX5_put_7 : decode cX5_put 7 = .ok (.aload_n 0, 1) := by decide +kernel
theorem dX5_put_8 : decode cX5_put 8 = .ok (.getfield 15, 3) := by decide +kernel
theorem dX5_put_11 : decode cX5_put 11 = .ok (.iload_n 1, 1) := by decide +kernel
theorem dX5_put_12 : decode cX5_put 12 = .ok (.iload_n 3, 1) := by decide +kernel
theorem dX5_put_13 : decode cX5_put 13 = .ok (.iastore, 1) := by decide +kernel
theorem dX5_put_14 : decode cX5_put 14 = .ok (.return_, 1) := by decide +kernel
theorem dX5_toLine_0 : decode cX5_toLine 0 = .ok (.aload_n 0, 1) := by decide +kernel
theorem dX5_toLine_1 : decode cX5_toLine 1 = .ok (.iload_n 1, 1) := by decide +kernel
theorem dX5_toLine_2 : decode cX5_toLine 2 = .ok (.iconst 0, 1) := by decide +kernel
theorem dX5_toLine_3 : decode cX5_toLine 3 = .ok (.iconst (-1), 1) := by decide +kernel
theorem dX5_toLine_4 : decode cX5_toLine 4 = .ok (.invokevirtual 50, 3) := by decide +kernel
theorem dX5_toLine_7 : decode cX5_toLine 7 = .ok (.aload_n 0, 1) := by decide +kernel
theorem dX5_toLine_8 : decode cX5_toLine 8 = .ok (.getfield 27, 3) := by decide +kernel
theorem dX5_toLine_11 : decode cX5_toLine 11 = .ok (.aload_n 0, 1) := by decide +kernel
theorem dX5_toLine_12 : decode cX5_toLine 12 = .ok (.getfield 43, 3) := by decide +kernel
theorem dX5_toLine_15 : decode cX5_toLine 15 = .ok (.iload_n 1, 1) := by decide +kernel
theorem dX5_toLine_16 : decode cX5_toLine 16 = .ok (.iastore, 1) := by decide +kernel
theorem dX5_toLine_17 : decode cX5_toLine 17 = .ok (.aload_n 0, 1) := by decide +kernel
theorem dX5_toLine_18 : decode cX5_toLine 18 = .ok (.dup, 1) := by decide +kernel
theorem dX5_toLine_19 : decode cX5_toLine 19 = .ok (.getfield 43, 3) := by decide +kernel
theorem dX5_toLine_22 : decode cX5_toLine 22 = .ok (.iconst 1, 1) := by decide +kernel
theorem dX5_toLine_23 : decode cX5_toLine 23 = .ok (.iadd, 1) := by decide +kernel
theorem dX5_toLine_24 : decode cX5_toLine 24 = .ok (.putfield 43, 3) := by decide +kernel
theorem dX5_toLine_27 : decode cX5_toLine 27 = .ok (.return_, 1) := by decide +kernel
theorem dX5_toChute_0 : decode cX5_toChute 0 = .ok (.aload_n 0, 1) := by decide +kernel
theorem dX5_toChute_1 : decode cX5_toChute 1 = .ok (.iload_n 1, 1) := by decide +kernel
theorem dX5_toChute_2 : decode cX5_toChute 2 = .ok (.iconst 2, 1) := by decide +kernel
theorem dX5_toChute_3 : decode cX5_toChute 3 = .ok (.iload_n 2, 1) := by decide +kernel
theorem dX5_toChute_4 : decode cX5_toChute 4 = .ok (.invokevirtual 50, 3) := by decide +kernel
theorem dX5_toChute_7 : decode cX5_toChute 7 = .ok (.aload_n 0, 1) := by decide +kernel
theorem dX5_toChute_8 : decode cX5_toChute 8 = .ok (.getfield 30, 3) := by decide +kernel
theorem dX5_toChute_11 : decode cX5_toChute 11 = .ok (.iload_n 2, 1) := by decide +kernel
theorem dX5_toChute_12 : decode cX5_toChute 12 = .ok (.dup2, 1) := by decide +kernel
theorem dX5_toChute_13 : decode cX5_toChute 13 = .ok (.iaload, 1) := by decide +kernel
theorem dX5_toChute_14 : decode cX5_toChute 14 = .ok (.iconst 1, 1) := by decide +kernel
theorem dX5_toChute_15 : decode cX5_toChute 15 = .ok (.iadd, 1) := by decide +kernel
theorem dX5_toChute_16 : decode cX5_toChute 16 = .ok (.iastore, 1) := by decide +kernel
theorem dX5_toChute_17 : decode cX5_toChute 17 = .ok (.return_, 1) := by decide +kernel
theorem dX5_turnRound_0 : decode cX5_turnRound 0 = .ok (.aload_n 0, 1) := by decide +kernel
theorem dX5_turnRound_1 : decode cX5_turnRound 1 = .ok (.getfield 24, 3) := by decide +kernel
theorem dX5_turnRound_4 : decode cX5_turnRound 4 = .ok (.bipush 11, 2) := by decide +kernel
theorem dX5_turnRound_6 : decode cX5_turnRound 6 = .ok (.iaload, 1) := by decide +kernel
theorem dX5_turnRound_7 : decode cX5_turnRound 7 = .ok (.istore_n 1, 1) := by decide +kernel
theorem dX5_turnRound_8 : decode cX5_turnRound 8 = .ok (.aload_n 0, 1) := by decide +kernel
theorem dX5_turnRound_9 : decode cX5_turnRound 9 = .ok (.getfield 24, 3) := by decide +kernel
theorem dX5_turnRound_12 : decode cX5_turnRound 12 = .ok (.iconst 0, 1) := by decide +kernel
theorem dX5_turnRound_13 : decode cX5_turnRound 13 = .ok (.aload_n 0, 1) := by decide +kernel
theorem dX5_turnRound_14 : decode cX5_turnRound 14 = .ok (.getfield 24, 3) := by decide +kernel
theorem dX5_turnRound_17 : decode cX5_turnRound 17 = .ok (.iconst 1, 1) := by decide +kernel
theorem dX5_turnRound_18 : decode cX5_turnRound 18 = .ok (.bipush 11, 2) := by decide +kernel
theorem dX5_turnRound_20 : decode cX5_turnRound 20 = .ok (.invokestatic 33, 3) := by decide +kernel
theorem dX5_turnRound_23 : decode cX5_turnRound 23 = .ok (.aload_n 0, 1) := by decide +kernel
theorem dX5_turnRound_24 : decode cX5_turnRound 24 = .ok (.getfield 24, 3) := by decide +kernel
theorem dX5_turnRound_27 : decode cX5_turnRound 27 = .ok (.iconst 0, 1) := by decide +kernel
theorem dX5_turnRound_28 : decode cX5_turnRound 28 = .ok (.iload_n 1, 1) := by decide +kernel
theorem dX5_turnRound_29 : decode cX5_turnRound 29 = .ok (.iastore, 1) := by decide +kernel
theorem dX5_turnRound_30 : decode cX5_turnRound 30 = .ok (.iconst 0, 1) := by decide +kernel
theorem dX5_turnRound_31 : decode cX5_turnRound 31 = .ok (.istore_n 2, 1) := by decide +kernel
theorem dX5_turnRound_32 : decode cX5_turnRound 32 = .ok (.iload_n 2, 1) := by decide +kernel
theorem dX5_turnRound_33 : decode cX5_turnRound 33 = .ok (.bipush 12, 2) := by decide +kernel
theorem dX5_turnRound_35 : decode cX5_turnRound 35 = .ok (.if_icmp .ge 31, 3) := by decide +kernel
theorem dX5_turnRound_38 : decode cX5_turnRound 38 = .ok (.aload_n 0, 1) := by decide +kernel
theorem dX5_turnRound_39 : decode cX5_turnRound 39 = .ok (.getfield 24, 3) := by decide +kernel
theorem dX5_turnRound_42 : decode cX5_turnRound 42 = .ok (.iload_n 2, 1) := by decide +kernel
theorem dX5_turnRound_43 : decode cX5_turnRound 43 = .ok (.iaload, 1) := by decide +kernel
theorem dX5_turnRound_44 : decode cX5_turnRound 44 = .ok (.iconst (-1), 1) := by decide +kernel
theorem dX5_turnRound_45 : decode cX5_turnRound 45 = .ok (.if_icmp .eq 15, 3) := by decide +kernel
theorem dX5_turnRound_48 : decode cX5_turnRound 48 = .ok (.aload_n 0, 1) := by decide +kernel
theorem dX5_turnRound_49 : decode cX5_turnRound 49 = .ok (.getfield 15, 3) := by decide +kernel
theorem dX5_turnRound_52 : decode cX5_turnRound 52 = .ok (.aload_n 0, 1) := by decide +kernel
theorem dX5_turnRound_53 : decode cX5_turnRound 53 = .ok (.getfield 24, 3) := by decide +kernel
theorem dX5_turnRound_56 : decode cX5_turnRound 56 = .ok (.iload_n 2, 1) := by decide +kernel
theorem dX5_turnRound_57 : decode cX5_turnRound 57 = .ok (.iaload, 1) := by decide +kernel
theorem dX5_turnRound_58 : decode cX5_turnRound 58 = .ok (.iload_n 2, 1) := by decide +kernel
theorem dX5_turnRound_59 : decode cX5_turnRound 59 = .ok (.iastore, 1) := by decide +kernel
theorem dX5_turnRound_60 : decode cX5_turnRound 60 = .ok (.iinc 2 1, 3) := by decide +kernel
theorem dX5_turnRound_63 : decode cX5_turnRound 63 = .ok (.goto (-31), 3) := by decide +kernel
theorem dX5_turnRound_66 : decode cX5_turnRound 66 = .ok (.return_, 1) := by decide +kernel
theorem dX5_firstInLine_0 : decode cX5_firstInLine 0 = .ok (.aload_n 0, 1) := by decide +kernel
theorem dX5_firstInLine_1 : decode cX5_firstInLine 1 = .ok (.getfield 27, 3) := by decide +kernel
theorem dX5_firstInLine_4 : decode cX5_firstInLine 4 = .ok (.iconst 0, 1) := by decide +kernel
theorem dX5_firstInLine_5 : decode cX5_firstInLine 5 = .ok (.iaload, 1) := by decide +kernel
theorem dX5_firstInLine_6 : decode cX5_firstInLine 6 = .ok (.istore_n 1, 1) := by decide +kernel
theorem dX5_firstInLine_7 : decode cX5_firstInLine 7 = .ok (.aload_n 0, 1) := by decide +kernel
theorem dX5_firstInLine_8 : decode cX5_firstInLine 8 = .ok (.dup, 1) := by decide +kernel
theorem dX5_firstInLine_9 : decode cX5_firstInLine 9 = .ok (.getfield 43, 3) := by decide +kernel
theorem dX5_firstInLine_12 : decode cX5_firstInLine 12 = .ok (.iconst 1, 1) := by decide +kernel
theorem dX5_firstInLine_13 : decode cX5_firstInLine 13 = .ok (.isub, 1) := by decide +kernel
theorem dX5_firstInLine_14 : decode cX5_firstInLine 14 = .ok (.putfield 43, 3) := by decide +kernel
theorem dX5_firstInLine_17 : decode cX5_firstInLine 17 = .ok (.aload_n 0, 1) := by decide +kernel
theorem dX5_firstInLine_18 : decode cX5_firstInLine 18 = .ok (.getfield 27, 3) := by decide +kernel
theorem dX5_firstInLine_21 : decode cX5_firstInLine 21 = .ok (.iconst 1, 1) := by decide +kernel
theorem dX5_firstInLine_22 : decode cX5_firstInLine 22 = .ok (.aload_n 0, 1) := by decide +kernel
theorem dX5_firstInLine_23 : decode cX5_firstInLine 23 = .ok (.getfield 27, 3) := by decide +kernel
theorem dX5_firstInLine_26 : decode cX5_firstInLine 26 = .ok (.iconst 0, 1) := by decide +kernel
theorem dX5_firstInLine_27 : decode cX5_firstInLine 27 = .ok (.aload_n 0, 1) := by decide +kernel
theorem dX5_firstInLine_28 : decode cX5_firstInLine 28 = .ok (.getfield 43, 3) := by decide +kernel
theorem dX5_firstInLine_31 : decode cX5_firstInLine 31 = .ok (.invokestatic 33, 3) := by decide +kernel
theorem dX5_firstInLine_34 : decode cX5_firstInLine 34 = .ok (.iload_n 1, 1) := by decide +kernel
theorem dX5_firstInLine_35 : decode cX5_firstInLine 35 = .ok (.ireturn, 1) := by decide +kernel
theorem dX6_init_0 : decode cX6_init 0 = .ok (.aload_n 0, 1) := by decide +kernel
theorem dX6_init_1 : decode cX6_init 1 = .ok (.invokespecial 1, 3) := by decide +kernel
theorem dX6_init_4 : decode cX6_init 4 = .ok (.aload_n 0, 1) := by decide +kernel
theorem dX6_init_5 : decode cX6_init 5 = .ok (.bipush 6, 2) := by decide +kernel
theorem dX6_init_7 : decode cX6_init 7 = .ok (.newarray .int, 2) := by decide +kernel
theorem dX6_init_9 : decode cX6_init 9 = .ok (.putfield 9, 3) := by decide +kernel
theorem dX6_init_12 : decode cX6_init 12 = .ok (.aload_n 0, 1) := by decide +kernel
theorem dX6_init_13 : decode cX6_init 13 = .ok (.bipush 6, 2) := by decide +kernel
theorem dX6_init_15 : decode cX6_init 15 = .ok (.newarray .boolean, 2) := by decide +kernel
theorem dX6_init_17 : decode cX6_init 17 = .ok (.putfield 13, 3) := by decide +kernel
theorem dX6_init_20 : decode cX6_init 20 = .ok (.aload_n 0, 1) := by decide +kernel
theorem dX6_init_21 : decode cX6_init 21 = .ok (.iconst 4, 1) := by decide +kernel
theorem dX6_init_22 : decode cX6_init 22 = .ok (.newarray .int, 2) := by decide +kernel
theorem dX6_init_24 : decode cX6_init 24 = .ok (.dup, 1) := by decide +kernel
theorem dX6_init_25 : decode cX6_init 25 = .ok (.iconst 0, 1) := by decide +kernel
theorem dX6_init_26 : decode cX6_init 26 = .ok (.iconst 5, 1) := by decide +kernel
theorem dX6_init_27 : decode cX6_init 27 = .ok (.iastore, 1) := by decide +kernel
theorem dX6_init_28 : decode cX6_init 28 = .ok (.dup, 1) := by decide +kernel
theorem dX6_init_29 : decode cX6_init 29 = .ok (.iconst 1, 1) := by decide +kernel
theorem dX6_init_30 : decode cX6_init 30 = .ok (.iconst 5, 1) := by decide +kernel
theorem dX6_init_31 : decode cX6_init 31 = .ok (.iastore, 1) := by decide +kernel
theorem dX6_init_32 : decode cX6_init 32 = .ok (.dup, 1) := by decide +kernel
theorem dX6_init_33 : decode cX6_init 33 = .ok (.iconst 2, 1) := by decide +kernel
theorem dX6_init_34 : decode cX6_init 34 = .ok (.iconst 5, 1) := by decide +kernel
theorem dX6_init_35 : decode cX6_init 35 = .ok (.iastore, 1) := by decide +kernel
theorem dX6_init_36 : decode cX6_init 36 = .ok (.dup, 1) := by decide +kernel
theorem dX6_init_37 : decode cX6_init 37 = .ok (.iconst 3, 1) := by decide +kernel
theorem dX6_init_38 : decode cX6_init 38 = .ok (.iconst 5, 1) := by decide +kernel
theorem dX6_init_39 : decode cX6_init 39 = .ok (.iastore, 1) := by decide +kernel
theorem dX6_init_40 : decode cX6_init 40 = .ok (.putfield 17, 3) := by decide +kernel
theorem dX6_init_43 : decode cX6_init 43 = .ok (.aload_n 0, 1) := by decide +kernel
theorem dX6_init_44 : decode cX6_init 44 = .ok (.iconst 5, 1) := by decide +kernel
theorem dX6_init_45 : decode cX6_init 45 = .ok (.putfield 20, 3) := by decide +kernel
theorem dX6_init_48 : decode cX6_init 48 = .ok (.aload_n 0, 1) := by decide +kernel
theorem dX6_init_49 : decode cX6_init 49 = .ok (.bipush 40, 2) := by decide +kernel
theorem dX6_init_51 : decode cX6_init 51 = .ok (.newarray .int, 2) := by decide +kernel
theorem dX6_init_53 : decode cX6_init 53 = .ok (.putfield 24, 3) := by decide +kernel
theorem dX6_init_56 : decode cX6_init 56 = .ok (.aload_n 0, 1) := by decide +kernel
theorem dX6_init_57 : decode cX6_init 57 = .ok (.bipush 40, 2) := by decide +kernel
theorem dX6_init_59 : decode cX6_init 59 = .ok (.newarray .int, 2) := by decide +kernel
theorem dX6_init_61 : decode cX6_init 61 = .ok (.putfield 27, 3) := by decide +kernel
theorem dX6_init_64 : decode cX6_init 64 = .ok (.aload_n 0, 1) := by decide +kernel
theorem dX6_init_65 : decode cX6_init 65 = .ok (.bipush 40, 2) := by decide +kernel
theorem dX6_init_67 : decode cX6_init 67 = .ok (.newarray .int, 2) := by decide +kernel
theorem dX6_init_69 : decode cX6_init 69 = .ok (.putfield 30, 3) := by decide +kernel
theorem dX6_init_72 : decode cX6_init 72 = .ok (.aload_n 0, 1) := by decide +kernel
theorem dX6_init_73 : decode cX6_init 73 = .ok (.bipush 40, 2) := by decide +kernel
theorem dX6_init_75 : decode cX6_init 75 = .ok (.newarray .int, 2) := by decide +kernel
theorem dX6_init_77 : decode cX6_init 77 = .ok (.putfield 33, 3) := by decide +kernel
theorem dX6_init_80 : decode cX6_init 80 = .ok (.aload_n 0, 1) := by decide +kernel
theorem dX6_init_81 : decode cX6_init 81 = .ok (.new 36, 3) := by decide +kernel
theorem dX6_init_84 : decode cX6_init 84 = .ok (.dup, 1) := by decide +kernel
theorem dX6_init_85 : decode cX6_init 85 = .ok (.invokespecial 38, 3) := by decide +kernel
theorem dX6_init_88 : decode cX6_init 88 = .ok (.putfield 39, 3) := by decide +kernel
theorem dX6_init_91 : decode cX6_init 91 = .ok (.aload_n 0, 1) := by decide +kernel
theorem dX6_init_92 : decode cX6_init 92 = .ok (.new 36, 3) := by decide +kernel
theorem dX6_init_95 : decode cX6_init 95 = .ok (.dup, 1) := by decide +kernel
theorem dX6_init_96 : decode cX6_init 96 = .ok (.invokespecial 38, 3) := by decide +kernel
theorem dX6_init_99 : decode cX6_init 99 = .ok (.putfield 43, 3) := by decide +kernel
theorem dX6_init_102 : decode cX6_init 102 = .ok (.iconst 0, 1) := by decide +kernel
theorem dX6_init_103 : decode cX6_init 103 = .ok (.istore_n 1, 1) := by decide +kernel
theorem dX6_init_104 : decode cX6_init 104 = .ok (.iload_n 1, 1) := by decide +kernel
theorem dX6_init_105 : decode cX6_init 105 = .ok (.bipush 6, 2) := by decide +kernel
theorem dX6_init_107 : decode cX6_init 107 = .ok (.if_icmp .ge 16, 3) := by decide +kernel
theorem dX6_init_110 : decode cX6_init 110 = .ok (.aload_n 0, 1) := by decide +kernel
theorem dX6_init_111 : decode cX6_init 111 = .ok (.getfield 9, 3) := by decide +kernel
theorem dX6_init_114 : decode cX6_init 114 = .ok (.iload_n 1, 1) := by decide +kernel
theorem dX6_init_115 : decode cX6_init 115 = .ok (.iconst (-1), 1) := by decide +kernel
theorem dX6_init_116 : decode cX6_init 116 = .ok (.iastore, 1) := by decide +kernel
theorem dX6_init_117 : decode cX6_init 117 = .ok (.iinc 1 1, 3) := by decide +kernel
theorem dX6_init_120 : decode cX6_init 120 = .ok (.goto (-16), 3) := by decide +kernel
theorem dX6_init_123 : decode cX6_init 123 = .ok (.return_, 1) := by decide +kernel
theorem dX6_thrown_0 : decode cX6_thrown 0 = .ok (.aload_n 0, 1) := by decide +kernel
theorem dX6_thrown_1 : decode cX6_thrown 1 = .ok (.getfield 46, 3) := by decide +kernel
theorem dX6_thrown_4 : decode cX6_thrown 4 = .ok (.ireturn, 1) := by decide +kernel
theorem dX6_no_0 : decode cX6_no 0 = .ok (.aload_n 0, 1) := by decide +kernel
theorem dX6_no_1 : decode cX6_no 1 = .ok (.iload_n 1, 1) := by decide +kernel
theorem dX6_no_2 : decode cX6_no 2 = .ok (.putfield 46, 3) := by decide +kernel
theorem dX6_no_5 : decode cX6_no 5 = .ok (.iconst 0, 1) := by decide +kernel
theorem dX6_no_6 : decode cX6_no 6 = .ok (.ireturn, 1) := by decide +kernel
theorem dX6_isNot_0 : decode cX6_isNot 0 = .ok (.aload_n 0, 1) := by decide +kernel
theorem dX6_isNot_1 : decode cX6_isNot 1 = .ok (.iload_n 1, 1) := by decide +kernel
theorem dX6_isNot_2 : decode cX6_isNot 2 = .ok (.putfield 46, 3) := by decide +kernel
theorem dX6_isNot_5 : decode cX6_isNot 5 = .ok (.iconst 0, 1) := by decide +kernel
theorem dX6_isNot_6 : decode cX6_isNot 6 = .ok (.ireturn, 1) := by decide +kernel
theorem dX6_isIn_0 : decode cX6_isIn 0 = .ok (.iload_n 0, 1) := by decide +kernel
theorem dX6_isIn_1 : decode cX6_isIn 1 = .ok (.iload_n 1, 1) := by decide +kernel
theorem dX6_isIn_2 : decode cX6_isIn 2 = .ok (.if_icmp .lt 12, 3) := by decide +kernel
theorem dX6_isIn_5 : decode cX6_isIn 5 = .ok (.iload_n 0, 1) := by decide +kernel
theorem dX6_isIn_6 : decode cX6_isIn 6 = .ok (.iload_n 2, 1) := by decide +kernel
theorem dX6_isIn_7 : decode cX6_isIn 7 = .ok (.if_icmp .gt 7, 3) := by decide +kernel
theorem dX6_isIn_10 : decode cX6_isIn 10 = .ok (.iconst 1, 1) := by decide +kernel
theorem dX6_isIn_11 : decode cX6_isIn 11 = .ok (.goto 4, 3) := by decide +kernel
theorem dX6_isIn_14 : decode cX6_isIn 14 = .ok (.iconst 0, 1) := by decide +kernel
theorem dX6_isIn_15 : decode cX6_isIn 15 = .ok (.ireturn, 1) := by decide +kernel
theorem dX6_isBag_0 : decode cX6_isBag 0 = .ok (.iload_n 1, 1) := by decide +kernel
theorem dX6_isBag_1 : decode cX6_isBag 1 = .ok (.iconst 0, 1) := by decide +kernel
theorem dX6_isBag_2 : decode cX6_isBag 2 = .ok (.aload_n 0, 1) := by decide +kernel
theorem dX6_isBag_3 : decode cX6_isBag 3 = .ok (.getfield 49, 3) := by decide +kernel
theorem dX6_isBag_6 : decode cX6_isBag 6 = .ok (.iconst 1, 1) := by decide +kernel
theorem dX6_isBag_7 : decode cX6_isBag 7 = .ok (.isub, 1) := by decide +kernel
theorem dX6_isBag_8 : decode cX6_isBag 8 = .ok (.invokestatic 52, 3) := by decide +kernel
theorem dX6_isBag_11 : decode cX6_isBag 11 = .ok (.ireturn, 1) := by decide +kernel
theorem dX6_isFlight_0 : decode cX6_isFlight 0 = .ok (.iload_n 1, 1) := by decide +kernel
theorem dX6_isFlight_1 : decode cX6_isFlight 1 = .ok (.iconst 0, 1) := by decide +kernel
theorem dX6_isFlight_2 : decode cX6_isFlight 2 = .ok (.aload_n 0, 1) := by decide +kernel
theorem dX6_isFlight_3 : decode cX6_isFlight 3 = .ok (.getfield 56, 3) := by decide +kernel
theorem dX6_isFlight_6 : decode cX6_isFlight 6 = .ok (.iconst 1, 1) := by decide +kernel
theorem dX6_isFlight_7 : decode cX6_isFlight 7 = .ok (.isub, 1) := by decide +kernel
theorem dX6_isFlight_8 : decode cX6_isFlight 8 = .ok (.invokestatic 52, 3) := by decide +kernel
theorem dX6_isFlight_11 : decode cX6_isFlight 11 = .ok (.ireturn, 1) := by decide +kernel
theorem dX6_isChute_0 : decode cX6_isChute 0 = .ok (.iload_n 0, 1) := by decide +kernel
theorem dX6_isChute_1 : decode cX6_isChute 1 = .ok (.iconst 0, 1) := by decide +kernel
theorem dX6_isChute_2 : decode cX6_isChute 2 = .ok (.iconst 3, 1) := by decide +kernel
theorem dX6_isChute_3 : decode cX6_isChute 3 = .ok (.invokestatic 52, 3) := by decide +kernel
theorem dX6_isChute_6 : decode cX6_isChute 6 = .ok (.ireturn, 1) := by decide +kernel
theorem dX6_readAt_0 : decode cX6_readAt 0 = .ok (.aload_n 1, 1) := by decide +kernel
theorem dX6_readAt_1 : decode cX6_readAt 1 = .ok (.getfield 59, 3) := by decide +kernel
theorem dX6_readAt_4 : decode cX6_readAt 4 = .ok (.iconst 2, 1) := by decide +kernel
theorem dX6_readAt_5 : decode cX6_readAt 5 = .ok (.iaload, 1) := by decide +kernel
theorem dX6_readAt_6 : decode cX6_readAt 6 = .ok (.istore_n 2, 1) := by decide +kernel
theorem dX6_readAt_7 : decode cX6_readAt 7 = .ok (.iload_n 2, 1) := by decide +kernel
theorem dX6_readAt_8 : decode cX6_readAt 8 = .ok (.iconst (-1), 1) := by decide +kernel
theorem dX6_readAt_9 : decode cX6_readAt 9 = .ok (.if_icmp .eq 13, 3) := by decide +kernel
theorem dX6_readAt_12 : decode cX6_readAt 12 = .ok (.aload_n 1, 1) := by decide +kernel
theorem dX6_readAt_13 : decode cX6_readAt 13 = .ok (.getfield 62, 3) := by decide +kernel
theorem dX6_readAt_16 : decode cX6_readAt 16 = .ok (.iload_n 2, 1) := by decide +kernel
theorem dX6_readAt_17 : decode cX6_readAt 17 = .ok (.iaload, 1) := by decide +kernel
theorem dX6_readAt_18 : decode cX6_readAt 18 = .ok (.iconst (-1), 1) := by decide +kernel
theorem dX6_readAt_19 : decode cX6_readAt 19 = .ok (.if_icmp .eq 4, 3) := by decide +kernel
theorem dX6_readAt_22 : decode cX6_readAt 22 = .ok (.return_, 1) := by decide +kernel
theorem dX6_readAt_23 : decode cX6_readAt 23 = .ok (.aload_n 0, 1) := by decide +kernel
theorem dX6_readAt_24 : decode cX6_readAt 24 = .ok (.getfield 9, 3) := by decide +kernel
theorem dX6_readAt_27 : decode cX6_readAt 27 = .ok (.aload_n 0, 1) := by decide +kernel
theorem dX6_readAt_28 : decode cX6_readAt 28 = .ok (.getfield 24, 3) := by decide +kernel
theorem dX6_readAt_31 : decode cX6_readAt 31 = .ok (.iload_n 2, 1) := by decide +kernel
theorem dX6_readAt_32 : decode cX6_readAt 32 = .ok (.iaload, 1) := by decide +kernel
theorem dX6_readAt_33 : decode cX6_readAt 33 = .ok (.iaload, 1) := by decide +kernel
theorem dX6_readAt_34 : decode cX6_readAt 34 = .ok (.istore_n 3, 1) := by decide +kernel
theorem dX6_readAt_35 : decode cX6_readAt 35 = .ok (.aload_n 0, 1) := by decide +kernel
theorem dX6_readAt_36 : decode cX6_readAt 36 = .ok (.getfield 30, 3) := by decide +kernel
theorem dX6_readAt_39 : decode cX6_readAt 39 = .ok (.iload_n 2, 1) := by decide +kernel
theorem dX6_readAt_40 : decode cX6_readAt 40 = .ok (.iaload, 1) := by decide +kernel
theorem dX6_readAt_41 : decode cX6_readAt 41 = .ok (.aload_n 0, 1) := by decide +kernel
theorem dX6_readAt_42 : decode cX6_readAt 42 = .ok (.getfield 20, 3) := by decide +kernel
theorem dX6_readAt_45 : decode cX6_readAt 45 = .ok (.if_icmp .gt 16, 3) := by decide +kernel
theorem dX6_readAt_48 : decode cX6_readAt 48 = .ok (.iload_n 3, 1) := by decide +kernel
theorem dX6_readAt_49 : decode cX6_readAt 49 = .ok (.iconst (-1), 1) := by decide +kernel
theorem dX6_readAt_50 : decode cX6_readAt 50 = .ok (.if_icmp .eq 11, 3) := by decide +kernel
theorem dX6_readAt_53 : decode cX6_readAt 53 = .ok (.aload_n 1, 1) := by decide +kernel
theorem dX6_readAt_54 : decode cX6_readAt 54 = .ok (.getfield 62, 3) := by decide +kernel
theorem dX6_readAt_57 : decode cX6_readAt 57 = .ok (.iload_n 2, 1) := by decide +kernel
theorem dX6_readAt_58 : decode cX6_readAt 58 = .ok (.iload_n 3, 1) := by decide +kernel
theorem dX6_readAt_59 : decode cX6_readAt 59 = .ok (.iastore, 1) := by decide +kernel
theorem dX6_readAt_60 : decode cX6_readAt 60 = .ok (.return_, 1) := by decide +kernel
theorem dX6_readAt_61 : decode cX6_readAt 61 = .ok (.aload_n 1, 1) := by decide +kernel
theorem dX6_readAt_62 : decode cX6_readAt 62 = .ok (.getfield 65, 3) := by decide +kernel
theorem dX6_readAt_65 : decode cX6_readAt 65 = .ok (.iload_n 2, 1) := by decide +kernel
theorem dX6_readAt_66 : decode cX6_readAt 66 = .ok (.dup2, 1) := by decide +kernel
theorem dX6_readAt_67 : decode cX6_readAt 67 = .ok (.iaload, 1) := by decide +kernel
theorem dX6_readAt_68 : decode cX6_readAt 68 = .ok (.iconst 1, 1) := by decide +kernel
theorem dX6_readAt_69 : decode cX6_readAt 69 = .ok (.iadd, 1) := by decide +kernel
theorem dX6_readAt_70 : decode cX6_readAt 70 = .ok (.iastore, 1) := by decide +kernel
theorem dX6_readAt_71 : decode cX6_readAt 71 = .ok (.aload_n 1, 1) := by decide +kernel
theorem dX6_readAt_72 : decode cX6_readAt 72 = .ok (.getfield 65, 3) := by decide +kernel
theorem dX6_readAt_75 : decode cX6_readAt 75 = .ok (.iload_n 2, 1) := by decide +kernel
theorem dX6_readAt_76 : decode cX6_readAt 76 = .ok (.iaload, 1) := by decide +kernel
theorem dX6_readAt_77 : decode cX6_readAt 77 = .ok (.iconst 3, 1) := by decide +kernel
theorem dX6_readAt_78 : decode cX6_readAt 78 = .ok (.if_icmp .ge 4, 3) := by decide +kernel
theorem dX6_readAt_81 : decode cX6_readAt 81 = .ok (.return_, 1) := by decide +kernel
theorem dX6_readAt_82 : decode cX6_readAt 82 = .ok (.aload_n 1, 1) := by decide +kernel
theorem dX6_readAt_83 : decode cX6_readAt 83 = .ok (.getfield 59, 3) := by decide +kernel
theorem dX6_readAt_86 : decode cX6_readAt 86 = .ok (.iconst 2, 1) := by decide +kernel
theorem dX6_readAt_87 : decode cX6_readAt 87 = .ok (.iconst (-1), 1) := by decide +kernel
theorem dX6_readAt_88 : decode cX6_readAt 88 = .ok (.iastore, 1) := by decide +kernel
theorem dX6_readAt_89 : decode cX6_readAt 89 = .ok (.aload_n 1, 1) := by decide +kernel
theorem dX6_readAt_90 : decode cX6_readAt 90 = .ok (.iload_n 2, 1) := by decide +kernel
theorem dX6_readAt_91 : decode cX6_readAt 91 = .ok (.iconst 3, 1) := by decide +kernel
theorem dX6_readAt_92 : decode cX6_readAt 92 = .ok (.iconst (-1), 1) := by decide +kernel
theorem dX6_readAt_93 : decode cX6_readAt 93 = .ok (.invokevirtual 68, 3) := by decide +kernel
theorem dX6_readAt_96 : decode cX6_readAt 96 = .ok (.return_, 1) := by decide +kernel
theorem dX6_slide_0 : decode cX6_slide 0 = .ok (.iconst 4, 1) := by decide +kernel
theorem dX6_slide_1 : decode cX6_slide 1 = .ok (.iconst 2, 1) := by decide +kernel
theorem dX6_slide_2 : decode cX6_slide 2 = .ok (.iload_n 2, 1) := by decide +kernel
theorem dX6_slide_3 : decode cX6_slide 3 = .ok (.imul, 1) := by decide +kernel
theorem dX6_slide_4 : decode cX6_slide 4 = .ok (.iadd, 1) := by decide +kernel
theorem dX6_slide_5 : decode cX6_slide 5 = .ok (.istore_n 3, 1) := by decide +kernel
theorem dX6_slide_6 : decode cX6_slide 6 = .ok (.aload_n 1, 1) := by decide +kernel
theorem dX6_slide_7 : decode cX6_slide 7 = .ok (.getfield 59, 3) := by decide +kernel
theorem dX6_slide_10 : decode cX6_slide 10 = .ok (.iload_n 3, 1) := by decide +kernel
theorem dX6_slide_11 : decode cX6_slide 11 = .ok (.iaload, 1) := by decide +kernel
theorem dX6_slide_12 : decode cX6_slide 12 = .ok (.istore 4, 2) := by decide +kernel
theorem dX6_slide_14 : decode cX6_slide 14 = .ok (.iload 4, 2) := by decide +kernel
theorem dX6_slide_16 : decode cX6_slide 16 = .ok (.iconst (-1), 1) := by decide +kernel
theorem dX6_slide_17 : decode cX6_slide 17 = .ok (.if_icmp .eq 29, 3) := by decide +kernel
theorem dX6_slide_20 : decode cX6_slide 20 = .ok (.aload_n 1, 1) := by decide +kernel
theorem dX6_slide_21 : decode cX6_slide 21 = .ok (.getfield 62, 3) := by decide +kernel
theorem dX6_slide_24 : decode cX6_slide 24 = .ok (.iload 4, 2) := by decide +kernel
theorem dX6_slide_26 : decode cX6_slide 26 = .ok (.iaload, 1) := by decide +kernel
theorem dX6_slide_27 : decode cX6_slide 27 = .ok (.iload_n 2, 1) := by decide +kernel
theorem dX6_slide_28 : decode cX6_slide 28 = .ok (.if_icmp .ne 18, 3) := by decide +kernel
theorem dX6_slide_31 : decode cX6_slide 31 = .ok (.aload_n 1, 1) := by decide +kernel
theorem dX6_slide_32 : decode cX6_slide 32 = .ok (.getfield 72, 3) := by decide +kernel
theorem dX6_slide_35 : decode cX6_slide 35 = .ok (.iload_n 2, 1) := by decide +kernel
theorem dX6_slide_36 : decode cX6_slide 36 = .ok (.iaload, 1) := by decide +kernel
theorem dX6_slide_37 : decode cX6_slide 37 = .ok (.aload_n 0, 1) := by decide +kernel
theorem dX6_slide_38 : decode cX6_slide 38 = .ok (.getfield 17, 3) := by decide +kernel
theorem dX6_slide_41 : decode cX6_slide 41 = .ok (.iload_n 2, 1) := by decide +kernel
theorem dX6_slide_42 : decode cX6_slide 42 = .ok (.iaload, 1) := by decide +kernel
theorem dX6_slide_43 : decode cX6_slide 43 = .ok (.if_icmp .lt 5, 3) := by decide +kernel
theorem dX6_slide_46 : decode cX6_slide 46 = .ok (.iconst 0, 1) := by decide +kernel
theorem dX6_slide_47 : decode cX6_slide 47 = .ok (.ireturn, 1) := by decide +kernel
theorem dX6_slide_48 : decode cX6_slide 48 = .ok (.aload_n 1, 1) := by decide +kernel
theorem dX6_slide_49 : decode cX6_slide 49 = .ok (.getfield 59, 3) := by decide +kernel
theorem dX6_slide_52 : decode cX6_slide 52 = .ok (.iload_n 3, 1) := by decide +kernel
theorem dX6_slide_53 : decode cX6_slide 53 = .ok (.iconst (-1), 1) := by decide +kernel
theorem dX6_slide_54 : decode cX6_slide 54 = .ok (.iastore, 1) := by decide +kernel
theorem dX6_slide_55 : decode cX6_slide 55 = .ok (.aload_n 1, 1) := by decide +kernel
theorem dX6_slide_56 : decode cX6_slide 56 = .ok (.iload 4, 2) := by decide +kernel
theorem dX6_slide_58 : decode cX6_slide 58 = .ok (.iload_n 2, 1) := by decide +kernel
theorem dX6_slide_59 : decode cX6_slide 59 = .ok (.invokevirtual 75, 3) := by decide +kernel
theorem dX6_slide_62 : decode cX6_slide 62 = .ok (.iconst 1, 1) := by decide +kernel
theorem dX6_slide_63 : decode cX6_slide 63 = .ok (.ireturn, 1) := by decide +kernel
theorem dX6_minuteOn_0 : decode cX6_minuteOn 0 = .ok (.aload_n 1, 1) := by decide +kernel
theorem dX6_minuteOn_1 : decode cX6_minuteOn 1 = .ok (.invokevirtual 79, 3) := by decide +kernel
theorem dX6_minuteOn_4 : decode cX6_minuteOn 4 = .ok (.aload_n 0, 1) := by decide +kernel
theorem dX6_minuteOn_5 : decode cX6_minuteOn 5 = .ok (.aload_n 1, 1) := by decide +kernel
theorem dX6_minuteOn_6 : decode cX6_minuteOn 6 = .ok (.invokevirtual 82, 3) := by decide +kernel
theorem dX6_minuteOn_9 : decode cX6_minuteOn 9 = .ok (.iconst 0, 1) := by decide +kernel
theorem dX6_minuteOn_10 : decode cX6_minuteOn 10 = .ok (.istore_n 2, 1) := by decide +kernel
theorem dX6_minuteOn_11 : decode cX6_minuteOn 11 = .ok (.iconst 0, 1) := by decide +kernel
theorem dX6_minuteOn_12 : decode cX6_minuteOn 12 = .ok (.istore_n 3, 1) := by decide +kernel
theorem dX6_minuteOn_13 : decode cX6_minuteOn 13 = .ok (.iload_n 3, 1) := by decide +kernel
theorem dX6_minuteOn_14 : decode cX6_minuteOn 14 = .ok (.iconst 4, 1) := by decide +kernel
theorem dX6_minuteOn_15 : decode cX6_minuteOn 15 = .ok (.if_icmp .ge 18, 3) := by decide +kernel
theorem dX6_minuteOn_18 : decode cX6_minuteOn 18 = .ok (.iload_n 2, 1) := by decide +kernel
theorem dX6_minuteOn_19 : decode cX6_minuteOn 19 = .ok (.aload_n 0, 1) := by decide +kernel
theorem dX6_minuteOn_20 : decode cX6_minuteOn 20 = .ok (.aload_n 1, 1) := by decide +kernel
theorem dX6_minuteOn_21 : decode cX6_minuteOn 21 = .ok (.iload_n 3, 1) := by decide +kernel
theorem dX6_minuteOn_22 : decode cX6_minuteOn 22 = .ok (.invokevirtual 86, 3) := by decide +kernel
theorem dX6_minuteOn_25 : decode cX6_minuteOn 25 = .ok (.iadd, 1) := by decide +kernel
theorem dX6_minuteOn_26 : decode cX6_minuteOn 26 = .ok (.istore_n 2, 1) := by decide +kernel
theorem dX6_minuteOn_27 : decode cX6_minuteOn 27 = .ok (.iinc 3 1, 3) := by decide +kernel
theorem dX6_minuteOn_30 : decode cX6_minuteOn 30 = .ok (.goto (-17), 3) := by decide +kernel
theorem dX6_minuteOn_33 : decode cX6_minuteOn 33 = .ok (.aload_n 1, 1) := by decide +kernel
theorem dX6_minuteOn_34 : decode cX6_minuteOn 34 = .ok (.getfield 59, 3) := by decide +kernel
theorem dX6_minuteOn_37 : decode cX6_minuteOn 37 = .ok (.iconst 0, 1) := by decide +kernel
theorem dX6_minuteOn_38 : decode cX6_minuteOn 38 = .ok (.iaload, 1) := by decide +kernel
theorem dX6_minuteOn_39 : decode cX6_minuteOn 39 = .ok (.iconst (-1), 1) := by decide +kernel
theorem dX6_minuteOn_40 : decode cX6_minuteOn 40 = .ok (.if_icmp .ne 29, 3) := by decide +kernel
theorem dX6_minuteOn_43 : decode cX6_minuteOn 43 = .ok (.aload_n 1, 1) := by decide +kernel
theorem dX6_minuteOn_44 : decode cX6_minuteOn 44 = .ok (.getfield 90, 3) := by decide +kernel
theorem dX6_minuteOn_47 : decode cX6_minuteOn 47 = .ok (.ifCond .le 22, 3) := by decide +kernel
theorem dX6_minuteOn_50 : decode cX6_minuteOn 50 = .ok (.aload_n 1, 1) := by decide +kernel
theorem dX6_minuteOn_51 : decode cX6_minuteOn 51 = .ok (.invokevirtual 93, 3) := by decide +kernel
theorem dX6_minuteOn_54 : decode cX6_minuteOn 54 = .ok (.istore_n 3, 1) := by decide +kernel
theorem dX6_minuteOn_55 : decode cX6_minuteOn 55 = .ok (.aload_n 1, 1) := by decide +kernel
theorem dX6_minuteOn_56 : decode cX6_minuteOn 56 = .ok (.getfield 59, 3) := by decide +kernel
theorem dX6_minuteOn_59 : decode cX6_minuteOn 59 = .ok (.iconst 0, 1) := by decide +kernel
theorem dX6_minuteOn_60 : decode cX6_minuteOn 60 = .ok (.iload_n 3, 1) := by decide +kernel
theorem dX6_minuteOn_61 : decode cX6_minuteOn 61 = .ok (.iastore, 1) := by decide +kernel
theorem dX6_minuteOn_62 : decode cX6_minuteOn 62 = .ok (.aload_n 1, 1) := by decide +kernel
theorem dX6_minuteOn_63 : decode cX6_minuteOn 63 = .ok (.iload_n 3, 1) := by decide +kernel
theorem dX6_minuteOn_64 : decode cX6_minuteOn 64 = .ok (.iconst 1, 1) := by decide +kernel
theorem dX6_minuteOn_65 : decode cX6_minuteOn 65 = .ok (.iconst 0, 1) := by decide +kernel
theorem dX6_minuteOn_66 : decode cX6_minuteOn 66 = .ok (.invokevirtual 68, 3) := by decide +kernel
theorem dX6_minuteOn_69 : decode cX6_minuteOn 69 = .ok (.aload_n 1, 1) := by decide +kernel
theorem dX6_minuteOn_70 : decode cX6_minuteOn 70 = .ok (.dup, 1) := by decide +kernel
theorem dX6_minuteOn_71 : decode cX6_minuteOn 71 = .ok (.getfield 97, 3) := by decide +kernel
theorem dX6_minuteOn_74 : decode cX6_minuteOn 74 = .ok (.iconst 1, 1) := by decide +kernel
theorem dX6_minuteOn_75 : decode cX6_minuteOn 75 = .ok (.iadd, 1) := by decide +kernel
theorem dX6_minuteOn_76 : decode cX6_minuteOn 76 = .ok (.putfield 97, 3) := by decide +kernel
theorem dX6_minuteOn_79 : decode cX6_minuteOn 79 = .ok (.iload_n 2, 1) := by decide +kernel
theorem dX6_minuteOn_80 : decode cX6_minuteOn 80 = .ok (.ireturn, 1) := by decide +kernel
theorem dX6_minutesOn_0 : decode cX6_minutesOn 0 = .ok (.iconst 0, 1) := by decide +kernel
theorem dX6_minutesOn_1 : decode cX6_minutesOn 1 = .ok (.istore_n 3, 1) := by decide +kernel
theorem dX6_minutesOn_2 : decode cX6_minutesOn 2 = .ok (.iconst 0, 1) := by decide +kernel
theorem dX6_minutesOn_3 : decode cX6_minutesOn 3 = .ok (.istore 4, 2) := by decide +kernel
theorem dX6_minutesOn_5 : decode cX6_minutesOn 5 = .ok (.iload 4, 2) := by decide +kernel
theorem dX6_minutesOn_7 : decode cX6_minutesOn 7 = .ok (.iload_n 2, 1) := by decide +kernel
theorem dX6_minutesOn_8 : decode cX6_minutesOn 8 = .ok (.if_icmp .ge 17, 3) := by decide +kernel
theorem dX6_minutesOn_11 : decode cX6_minutesOn 11 = .ok (.iload_n 3, 1) := by decide +kernel
theorem dX6_minutesOn_12 : decode cX6_minutesOn 12 = .ok (.aload_n 0, 1) := by decide +kernel
theorem dX6_minutesOn_13 : decode cX6_minutesOn 13 = .ok (.aload_n 1, 1) := by decide +kernel
theorem dX6_minutesOn_14 : decode cX6_minutesOn 14 = .ok (.invokevirtual 100, 3) := by decide +kernel
theorem dX6_minutesOn_17 : decode cX6_minutesOn 17 = .ok (.iadd, 1) := by decide +kernel
theorem dX6_minutesOn_18 : decode cX6_minutesOn 18 = .ok (.istore_n 3, 1) := by decide +kernel
theorem dX6_minutesOn_19 : decode cX6_minutesOn 19 = .ok (.iinc 4 1, 3) := by decide +kernel
theorem dX6_minutesOn_22 : decode cX6_minutesOn 22 = .ok (.goto (-17), 3) := by decide +kernel
theorem dX6_minutesOn_25 : decode cX6_minutesOn 25 = .ok (.iload_n 3, 1) := by decide +kernel
theorem dX6_minutesOn_26 : decode cX6_minutesOn 26 = .ok (.ireturn, 1) := by decide +kernel
theorem dX6_misrouted_0 : decode cX6_misrouted 0 = .ok (.aload_n 0, 1) := by decide +kernel
theorem dX6_misrouted_1 : decode cX6_misrouted 1 = .ok (.getfield 39, 3) := by decide +kernel
theorem dX6_misrouted_4 : decode cX6_misrouted 4 = .ok (.getfield 104, 3) := by decide +kernel
theorem dX6_misrouted_7 : decode cX6_misrouted 7 = .ok (.iload_n 1, 1) := by decide +kernel
theorem dX6_misrouted_8 : decode cX6_misrouted 8 = .ok (.iaload, 1) := by decide +kernel
theorem dX6_misrouted_9 : decode cX6_misrouted 9 = .ok (.iconst 2, 1) := by decide +kernel
theorem dX6_misrouted_10 : decode cX6_misrouted 10 = .ok (.if_icmp .ne 44, 3) := by decide +kernel
theorem dX6_misrouted_13 : decode cX6_misrouted 13 = .ok (.aload_n 0, 1) := by decide +kernel
theorem dX6_misrouted_14 : decode cX6_misrouted 14 = .ok (.getfield 13, 3) := by decide +kernel
theorem dX6_misrouted_17 : decode cX6_misrouted 17 = .ok (.aload_n 0, 1) := by decide +kernel
theorem dX6_misrouted_18 : decode cX6_misrouted 18 = .ok (.getfield 24, 3) := by decide +kernel
theorem dX6_misrouted_21 : decode cX6_misrouted 21 = .ok (.iload_n 1, 1) := by decide +kernel
theorem dX6_misrouted_22 : decode cX6_misrouted 22 = .ok (.iaload, 1) := by decide +kernel
theorem dX6_misrouted_23 : decode cX6_misrouted 23 = .ok (.baload, 1) := by decide +kernel
theorem dX6_misrouted_24 : decode cX6_misrouted 24 = .ok (.ifCond .ne 26, 3) := by decide +kernel
theorem dX6_misrouted_27 : decode cX6_misrouted 27 = .ok (.aload_n 0, 1) := by decide +kernel
theorem dX6_misrouted_28 : decode cX6_misrouted 28 = .ok (.getfield 9, 3) := by decide +kernel
theorem dX6_misrouted_31 : decode cX6_misrouted 31 = .ok (.aload_n 0, 1) := by decide +kernel
theorem dX6_misrouted_32 : decode cX6_misrouted 32 = .ok (.getfield 24, 3) := by decide +kernel
theorem dX6_misrouted_35 : decode cX6_misrouted 35 = .ok (.iload_n 1, 1) := by decide +kernel
theorem dX6_misrouted_36 : decode cX6_misrouted 36 = .ok (.iaload, 1) := by decide +kernel
theorem dX6_misrouted_37 : decode cX6_misrouted 37 = .ok (.iaload, 1) := by decide +kernel
theorem dX6_misrouted_38 : decode cX6_misrouted 38 = .ok (.aload_n 0, 1) := by decide +kernel
theorem dX6_misrouted_39 : decode cX6_misrouted 39 = .ok (.getfield 39, 3) := by decide +kernel
theorem dX6_misrouted_42 : decode cX6_misrouted 42 = .ok (.getfield 107, 3) := by decide +kernel
theorem dX6_misrouted_45 : decode cX6_misrouted 45 = .ok (.iload_n 1, 1) := by decide +kernel
theorem dX6_misrouted_46 : decode cX6_misrouted 46 = .ok (.iaload, 1) := by decide +kernel
theorem dX6_misrouted_47 : decode cX6_misrouted 47 = .ok (.if_icmp .eq 7, 3) := by decide +kernel
theorem dX6_misrouted_50 : decode cX6_misrouted 50 = .ok (.iconst 1, 1) := by decide +kernel
theorem dX6_misrouted_51 : decode cX6_misrouted 51 = .ok (.goto 4, 3) := by decide +kernel
theorem dX6_misrouted_54 : decode cX6_misrouted 54 = .ok (.iconst 0, 1) := by decide +kernel
theorem dX6_misrouted_55 : decode cX6_misrouted 55 = .ok (.ireturn, 1) := by decide +kernel
theorem dX6_addFlight_0 : decode cX6_addFlight 0 = .ok (.aload_n 0, 1) := by decide +kernel
theorem dX6_addFlight_1 : decode cX6_addFlight 1 = .ok (.iconst 0, 1) := by decide +kernel
theorem dX6_addFlight_2 : decode cX6_addFlight 2 = .ok (.putfield 46, 3) := by decide +kernel
theorem dX6_addFlight_5 : decode cX6_addFlight 5 = .ok (.aload_n 0, 1) := by decide +kernel
theorem dX6_addFlight_6 : decode cX6_addFlight 6 = .ok (.getfield 56, 3) := by decide +kernel
theorem dX6_addFlight_9 : decode cX6_addFlight 9 = .ok (.bipush 6, 2) := by decide +kernel
theorem dX6_addFlight_11 : decode cX6_addFlight 11 = .ok (.if_icmp .ne 9, 3) := by decide +kernel
theorem dX6_addFlight_14 : decode cX6_addFlight 14 = .ok (.aload_n 0, 1) := by decide +kernel
theorem dX6_addFlight_15 : decode cX6_addFlight 15 = .ok (.iconst 1, 1) := by decide +kernel
theorem dX6_addFlight_16 : decode cX6_addFlight 16 = .ok (.invokevirtual 110, 3) := by decide +kernel
theorem dX6_addFlight_19 : decode cX6_addFlight 19 = .ok (.ireturn, 1) := by decide +kernel
theorem dX6_addFlight_20 : decode cX6_addFlight 20 = .ok (.aload_n 0, 1) := by decide +kernel
theorem dX6_addFlight_21 : decode cX6_addFlight 21 = .ok (.dup, 1) := by decide +kernel
theorem dX6_addFlight_22 : decode cX6_addFlight 22 = .ok (.getfield 56, 3) := by decide +kernel
theorem dX6_addFlight_25 : decode cX6_addFlight 25 = .ok (.iconst 1, 1) := by decide +kernel
theorem dX6_addFlight_26 : decode cX6_addFlight 26 = .ok (.iadd, 1) := by decide +kernel
theorem dX6_addFlight_27 : decode cX6_addFlight 27 = .ok (.putfield 56, 3) := by decide +kernel
theorem dX6_addFlight_30 : decode cX6_addFlight 30 = .ok (.aload_n 0, 1) := by decide +kernel
theorem dX6_addFlight_31 : decode cX6_addFlight 31 = .ok (.getfield 56, 3) := by decide +kernel
theorem dX6_addFlight_34 : decode cX6_addFlight 34 = .ok (.iconst 1, 1) := by decide +kernel
theorem dX6_addFlight_35 : decode cX6_addFlight 35 = .ok (.isub, 1) := by decide +kernel
theorem dX6_addFlight_36 : decode cX6_addFlight 36 = .ok (.ireturn, 1) := by decide +kernel
theorem dX6_giveChute_0 : decode cX6_giveChute 0 = .ok (.aload_n 0, 1) := by decide +kernel
theorem dX6_giveChute_1 : decode cX6_giveChute 1 = .ok (.iconst 0, 1) := by decide +kernel
theorem dX6_giveChute_2 : decode cX6_giveChute 2 = .ok (.putfield 46, 3) := by decide +kernel
theorem dX6_giveChute_5 : decode cX6_giveChute 5 = .ok (.aload_n 0, 1) := by decide +kernel
theorem dX6_giveChute_6 : decode cX6_giveChute 6 = .ok (.iload_n 1, 1) := by decide +kernel
theorem dX6_giveChute_7 : decode cX6_giveChute 7 = .ok (.invokevirtual 114, 3) := by decide +kernel
theorem dX6_giveChute_10 : decode cX6_giveChute 10 = .ok (.ifCond .eq 10, 3) := by decide +kernel
theorem dX6_giveChute_13 : decode cX6_giveChute 13 = .ok (.iload_n 2, 1) := by decide +kernel
theorem dX6_giveChute_14 : decode cX6_giveChute 14 = .ok (.invokestatic 118, 3) := by decide +kernel
theorem dX6_giveChute_17 : decode cX6_giveChute 17 = .ok (.ifCond .ne 9, 3) := by decide +kernel
theorem dX6_giveChute_20 : decode cX6_giveChute 20 = .ok (.aload_n 0, 1) := by decide +kernel
theorem dX6_giveChute_21 : decode cX6_giveChute 21 = .ok (.iconst 1, 1) := by decide +kernel
theorem dX6_giveChute_22 : decode cX6_giveChute 22 = .ok (.invokevirtual 110, 3) := by decide +kernel
theorem dX6_giveChute_25 : decode cX6_giveChute 25 = .ok (.ireturn, 1) := by decide +kernel
theorem dX6_giveChute_26 : decode cX6_giveChute 26 = .ok (.aload_n 0, 1) := by decide +kernel
theorem dX6_giveChute_27 : decode cX6_giveChute 27 = .ok (.getfield 13, 3) := by decide +kernel
theorem dX6_giveChute_30 : decode cX6_giveChute 30 = .ok (.iload_n 1, 1) := by decide +kernel
theorem dX6_giveChute_31 : decode cX6_giveChute 31 = .ok (.baload, 1) := by decide +kernel
theorem dX6_giveChute_32 : decode cX6_giveChute 32 = .ok (.ifCond .eq 9, 3) := by decide +kernel
theorem dX6_giveChute_35 : decode cX6_giveChute 35 = .ok (.aload_n 0, 1) := by decide +kernel
theorem dX6_giveChute_36 : decode cX6_giveChute 36 = .ok (.iconst 2, 1) := by decide +kernel
theorem dX6_giveChute_37 : decode cX6_giveChute 37 = .ok (.invokevirtual 110, 3) := by decide +kernel
theorem dX6_giveChute_40 : decode cX6_giveChute 40 = .ok (.ireturn, 1) := by decide +kernel
theorem dX6_giveChute_41 : decode cX6_giveChute 41 = .ok (.iconst 0, 1) := by decide +kernel
theorem dX6_giveChute_42 : decode cX6_giveChute 42 = .ok (.istore_n 3, 1) := by decide +kernel
theorem dX6_giveChute_43 : decode cX6_giveChute 43 = .ok (.iconst 0, 1) := by decide +kernel
theorem dX6_giveChute_44 : decode cX6_giveChute 44 = .ok (.istore 4, 2) := by decide +kernel
theorem dX6_giveChute_46 : decode cX6_giveChute 46 = .ok (.iload 4, 2) := by decide +kernel
theorem dX6_giveChute_48 : decode cX6_giveChute 48 = .ok (.aload_n 0, 1) := by decide +kernel
theorem dX6_giveChute_49 : decode cX6_giveChute 49 = .ok (.getfield 49, 3) := by decide +kernel
theorem dX6_giveChute_52 : decode cX6_giveChute 52 = .ok (.if_icmp .ge 71, 3) := by decide +kernel
theorem dX6_giveChute_55 : decode cX6_giveChute 55 = .ok (.iload_n 3, 1) := by decide +kernel
theorem dX6_giveChute_56 : decode cX6_giveChute 56 = .ok (.aload_n 0, 1) := by decide +kernel
theorem dX6_giveChute_57 : decode cX6_giveChute 57 = .ok (.getfield 24, 3) := by decide +kernel
theorem dX6_giveChute_60 : decode cX6_giveChute 60 = .ok (.iload 4, 2) := by decide +kernel
theorem dX6_giveChute_62 : decode cX6_giveChute 62 = .ok (.iaload, 1) := by decide +kernel
theorem dX6_giveChute_63 : decode cX6_giveChute 63 = .ok (.iload_n 1, 1) := by decide +kernel
theorem dX6_giveChute_64 : decode cX6_giveChute 64 = .ok (.if_icmp .ne 50, 3) := by decide +kernel
theorem dX6_giveChute_67 : decode cX6_giveChute 67 = .ok (.aload_n 0, 1) := by decide +kernel
theorem dX6_giveChute_68 : decode cX6_giveChute 68 = .ok (.getfield 39, 3) := by decide +kernel
theorem dX6_giveChute_71 : decode cX6_giveChute 71 = .ok (.getfield 104, 3) := by decide +kernel
theorem dX6_giveChute_74 : decode cX6_giveChute 74 = .ok (.iload 4, 2) := by decide +kernel
theorem dX6_giveChute_76 : decode cX6_giveChute 76 = .ok (.iaload, 1) := by decide +kernel
theorem dX6_giveChute_77 : decode cX6_giveChute 77 = .ok (.iconst 2, 1) := by decide +kernel
theorem dX6_giveChute_78 : decode cX6_giveChute 78 = .ok (.if_icmp .ne 36, 3) := by decide +kernel
theorem dX6_giveChute_81 : decode cX6_giveChute 81 = .ok (.aload_n 0, 1) := by decide +kernel
theorem dX6_giveChute_82 : decode cX6_giveChute 82 = .ok (.getfield 39, 3) := by decide +kernel
theorem dX6_giveChute_85 : decode cX6_giveChute 85 = .ok (.getfield 107, 3) := by decide +kernel
theorem dX6_giveChute_88 : decode cX6_giveChute 88 = .ok (.iload 4, 2) := by decide +kernel
theorem dX6_giveChute_90 : decode cX6_giveChute 90 = .ok (.iaload, 1) := by decide +kernel
theorem dX6_giveChute_91 : decode cX6_giveChute 91 = .ok (.aload_n 0, 1) := by decide +kernel
theorem dX6_giveChute_92 : decode cX6_giveChute 92 = .ok (.getfield 9, 3) := by decide +kernel
theorem dX6_giveChute_95 : decode cX6_giveChute 95 = .ok (.iload_n 1, 1) := by decide +kernel
theorem dX6_giveChute_96 : decode cX6_giveChute 96 = .ok (.iaload, 1) := by decide +kernel
theorem dX6_giveChute_97 : decode cX6_giveChute 97 = .ok (.if_icmp .ne 17, 3) := by decide +kernel
theorem dX6_giveChute_100 : decode cX6_giveChute 100 = .ok (.iload_n 2, 1) := by decide +kernel
theorem dX6_giveChute_101 : decode cX6_giveChute 101 = .ok (.aload_n 0, 1) := by decide +kernel
theorem dX6_giveChute_102 : decode cX6_giveChute 102 = .ok (.getfield 9, 3) := by decide +kernel
theorem dX6_giveChute_105 : decode cX6_giveChute 105 = .ok (.iload_n 1, 1) := by decide +kernel
theorem dX6_giveChute_106 : decode cX6_giveChute 106 = .ok (.iaload, 1) := by decide +kernel
theorem dX6_giveChute_107 : decode cX6_giveChute 107 = .ok (.if_icmp .eq 7, 3) := by decide +kernel
theorem dX6_giveChute_110 : decode cX6_giveChute 110 = .ok (.iconst 1, 1) := by decide +kernel
theorem dX6_giveChute_111 : decode cX6_giveChute 111 = .ok (.goto 4, 3) := by decide +kernel
theorem dX6_giveChute_114 : decode cX6_giveChute 114 = .ok (.iconst 0, 1) := by decide +kernel
theorem dX6_giveChute_115 : decode cX6_giveChute 115 = .ok (.iadd, 1) := by decide +kernel
theorem dX6_giveChute_116 : decode cX6_giveChute 116 = .ok (.istore_n 3, 1) := by decide +kernel
theorem dX6_giveChute_117 : decode cX6_giveChute 117 = .ok (.iinc 4 1, 3) := by decide +kernel
theorem dX6_giveChute_120 : decode cX6_giveChute 120 = .ok (.goto (-74), 3) := by decide +kernel
theorem dX6_giveChute_123 : decode cX6_giveChute 123 = .ok (.aload_n 0, 1) := by decide +kernel
theorem dX6_giveChute_124 : decode cX6_giveChute 124 = .ok (.getfield 9, 3) := by decide +kernel
theorem dX6_giveChute_127 : decode cX6_giveChute 127 = .ok (.iload_n 1, 1) := by decide +kernel
theorem dX6_giveChute_128 : decode cX6_giveChute 128 = .ok (.iload_n 2, 1) := by decide +kernel
theorem dX6_giveChute_129 : decode cX6_giveChute 129 = .ok (.iastore, 1) := by decide +kernel
theorem dX6_giveChute_130 : decode cX6_giveChute 130 = .ok (.iload_n 3, 1) := by decide +kernel
theorem dX6_giveChute_131 : decode cX6_giveChute 131 = .ok (.ireturn, 1) := by decide +kernel
theorem dX6_setReader_0 : decode cX6_setReader 0 = .ok (.aload_n 0, 1) := by decide +kernel
theorem dX6_setReader_1 : decode cX6_setReader 1 = .ok (.iconst 0, 1) := by decide +kernel
theorem dX6_setReader_2 : decode cX6_setReader 2 = .ok (.putfield 46, 3) := by decide +kernel
theorem dX6_setReader_5 : decode cX6_setReader 5 = .ok (.iload_n 1, 1) := by decide +kernel
theorem dX6_setReader_6 : decode cX6_setReader 6 = .ok (.iconst 0, 1) := by decide +kernel
theorem dX6_setReader_7 : decode cX6_setReader 7 = .ok (.bipush 9, 2) := by decide +kernel
theorem dX6_setReader_9 : decode cX6_setReader 9 = .ok (.invokestatic 52, 3) := by decide +kernel
theorem dX6_setReader_12 : decode cX6_setReader 12 = .ok (.ifCond .ne 9, 3) := by decide +kernel
theorem dX6_setReader_15 : decode cX6_setReader 15 = .ok (.aload_n 0, 1) := by decide +kernel
theorem dX6_setReader_16 : decode cX6_setReader 16 = .ok (.iconst 1, 1) := by decide +kernel
theorem dX6_setReader_17 : decode cX6_setReader 17 = .ok (.invokevirtual 110, 3) := by decide +kernel
theorem dX6_setReader_20 : decode cX6_setReader 20 = .ok (.ireturn, 1) := by decide +kernel
theorem dX6_setReader_21 : decode cX6_setReader 21 = .ok (.aload_n 0, 1) := by decide +kernel
theorem dX6_setReader_22 : decode cX6_setReader 22 = .ok (.getfield 20, 3) := by decide +kernel
theorem dX6_setReader_25 : decode cX6_setReader 25 = .ok (.istore_n 2, 1) := by decide +kernel
theorem dX6_setReader_26 : decode cX6_setReader 26 = .ok (.aload_n 0, 1) := by decide +kernel
theorem dX6_setReader_27 : decode cX6_setReader 27 = .ok (.iload_n 1, 1) := by decide +kernel
theorem dX6_setReader_28 : decode cX6_setReader 28 = .ok (.putfield 20, 3) := by decide +kernel
theorem dX6_setReader_31 : decode cX6_setReader 31 = .ok (.iload_n 2, 1) := by decide +kernel
theorem dX6_setReader_32 : decode cX6_setReader 32 = .ok (.ireturn, 1) := by decide +kernel
theorem dX6_setRoom_0 : decode cX6_setRoom 0 = .ok (.aload_n 0, 1) := by decide +kernel
theorem dX6_setRoom_1 : decode cX6_setRoom 1 = .ok (.iconst 0, 1) := by decide +kernel
theorem dX6_setRoom_2 : decode cX6_setRoom 2 = .ok (.putfield 46, 3) := by decide +kernel
theorem dX6_setRoom_5 : decode cX6_setRoom 5 = .ok (.iload_n 1, 1) := by decide +kernel
theorem dX6_setRoom_6 : decode cX6_setRoom 6 = .ok (.invokestatic 118, 3) := by decide +kernel
theorem dX6_setRoom_9 : decode cX6_setRoom 9 = .ok (.ifCond .ne 9, 3) := by decide +kernel
theorem dX6_setRoom_12 : decode cX6_setRoom 12 = .ok (.aload_n 0, 1) := by decide +kernel
theorem dX6_setRoom_13 : decode cX6_setRoom 13 = .ok (.iconst 1, 1) := by decide +kernel
theorem dX6_setRoom_14 : decode cX6_setRoom 14 = .ok (.invokevirtual 110, 3) := by decide +kernel
theorem dX6_setRoom_17 : decode cX6_setRoom 17 = .ok (.ireturn, 1) := by decide +kernel
theorem dX6_setRoom_18 : decode cX6_setRoom 18 = .ok (.iload_n 2, 1) := by decide +kernel
theorem dX6_setRoom_19 : decode cX6_setRoom 19 = .ok (.iconst 1, 1) := by decide +kernel
theorem dX6_setRoom_20 : decode cX6_setRoom 20 = .ok (.bipush 20, 2) := by decide +kernel
theorem dX6_setRoom_22 : decode cX6_setRoom 22 = .ok (.invokestatic 52, 3) := by decide +kernel
theorem dX6_setRoom_25 : decode cX6_setRoom 25 = .ok (.ifCond .ne 9, 3) := by decide +kernel
theorem dX6_setRoom_28 : decode cX6_setRoom 28 = .ok (.aload_n 0, 1) := by decide +kernel
theorem dX6_setRoom_29 : decode cX6_setRoom 29 = .ok (.iconst 2, 1) := by decide +kernel
theorem dX6_setRoom_30 : decode cX6_setRoom 30 = .ok (.invokevirtual 110, 3) := by decide +kernel
theorem dX6_setRoom_33 : decode cX6_setRoom 33 = .ok (.ireturn, 1) := by decide +kernel
theorem dX6_setRoom_34 : decode cX6_setRoom 34 = .ok (.aload_n 0, 1) := by decide +kernel
theorem dX6_setRoom_35 : decode cX6_setRoom 35 = .ok (.getfield 17, 3) := by decide +kernel
theorem dX6_setRoom_38 : decode cX6_setRoom 38 = .ok (.iload_n 1, 1) := by decide +kernel
theorem dX6_setRoom_39 : decode cX6_setRoom 39 = .ok (.iaload, 1) := by decide +kernel
theorem dX6_setRoom_40 : decode cX6_setRoom 40 = .ok (.istore_n 3, 1) := by decide +kernel
theorem dX6_setRoom_41 : decode cX6_setRoom 41 = .ok (.aload_n 0, 1) := by decide +kernel
theorem dX6_setRoom_42 : decode cX6_setRoom 42 = .ok (.getfield 17, 3) := by decide +kernel
theorem dX6_setRoom_45 : decode cX6_setRoom 45 = .ok (.iload_n 1, 1) := by decide +kernel
theorem dX6_setRoom_46 : decode cX6_setRoom 46 = .ok (.iload_n 2, 1) := by decide +kernel
theorem dX6_setRoom_47 : decode cX6_setRoom 47 = .ok (.iastore, 1) := by decide +kernel
theorem dX6_setRoom_48 : decode cX6_setRoom 48 = .ok (.iload_n 3, 1) := by decide +kernel
theorem dX6_setRoom_49 : decode cX6_setRoom 49 = .ok (.ireturn, 1) := by decide +kernel
theorem dX6_begin_0 : decode cX6_begin 0 = .ok (.aload_n 0, 1) := by decide +kernel
theorem dX6_begin_1 : decode cX6_begin 1 = .ok (.getfield 39, 3) := by decide +kernel
theorem dX6_begin_4 : decode cX6_begin 4 = .ok (.getfield 62, 3) := by decide +kernel
theorem dX6_begin_7 : decode cX6_begin 7 = .ok (.iload_n 1, 1) := by decide +kernel
theorem dX6_begin_8 : decode cX6_begin 8 = .ok (.iconst (-1), 1) := by decide +kernel
theorem dX6_begin_9 : decode cX6_begin 9 = .ok (.iastore, 1) := by decide +kernel
theorem dX6_begin_10 : decode cX6_begin 10 = .ok (.aload_n 0, 1) := by decide +kernel
theorem dX6_begin_11 : decode cX6_begin 11 = .ok (.getfield 39, 3) := by decide +kernel
theorem dX6_begin_14 : decode cX6_begin 14 = .ok (.getfield 65, 3) := by decide +kernel
theorem dX6_begin_17 : decode cX6_begin 17 = .ok (.iload_n 1, 1) := by decide +kernel
theorem dX6_begin_18 : decode cX6_begin 18 = .ok (.iconst 0, 1) := by decide +kernel
theorem dX6_begin_19 : decode cX6_begin 19 = .ok (.iastore, 1) := by decide +kernel
theorem dX6_begin_20 : decode cX6_begin 20 = .ok (.aload_n 0, 1) := by decide +kernel
theorem dX6_begin_21 : decode cX6_begin 21 = .ok (.getfield 27, 3) := by decide +kernel
theorem dX6_begin_24 : decode cX6_begin 24 = .ok (.iload_n 1, 1) := by decide +kernel
theorem dX6_begin_25 : decode cX6_begin 25 = .ok (.iaload, 1) := by decide +kernel
theorem dX6_begin_26 : decode cX6_begin 26 = .ok (.bipush 7, 2) := by decide +kernel
theorem dX6_begin_28 : decode cX6_begin 28 = .ok (.if_icmp .le 16, 3) := by decide +kernel
theorem dX6_begin_31 : decode cX6_begin 31 = .ok (.aload_n 0, 1) := by decide +kernel
theorem dX6_begin_32 : decode cX6_begin 32 = .ok (.getfield 39, 3) := by decide +kernel
theorem dX6_begin_35 : decode cX6_begin 35 = .ok (.iload_n 1, 1) := by decide +kernel
theorem dX6_begin_36 : decode cX6_begin 36 = .ok (.iconst 4, 1) := by decide +kernel
theorem dX6_begin_37 : decode cX6_begin 37 = .ok (.iconst (-1), 1) := by decide +kernel
theorem dX6_begin_38 : decode cX6_begin 38 = .ok (.invokevirtual 68, 3) := by decide +kernel
theorem dX6_begin_41 : decode cX6_begin 41 = .ok (.goto 11, 3) := by decide +kernel
theorem dX6_begin_44 : decode cX6_begin 44 = .ok (.aload_n 0, 1) := by decide +kernel
theorem dX6_begin_45 : decode cX6_begin 45 = .ok (.getfield 39, 3) := by decide +kernel
theorem dX6_begin_48 : decode cX6_begin 48 = .ok (.iload_n 1, 1) := by decide +kernel
theorem dX6_begin_49 : decode cX6_begin 49 = .ok (.invokevirtual 121, 3) := by decide +kernel
theorem dX6_begin_52 : decode cX6_begin 52 = .ok (.return_, 1) := by decide +kernel
theorem dX6_checkIn_0 : decode cX6_checkIn 0 = .ok (.aload_n 0, 1) := by decide +kernel
theorem dX6_checkIn_1 : decode cX6_checkIn 1 = .ok (.iconst 0, 1) := by decide +kernel
theorem dX6_checkIn_2 : decode cX6_checkIn 2 = .ok (.putfield 46, 3) := by decide +kernel
theorem dX6_checkIn_5 : decode cX6_checkIn 5 = .ok (.aload_n 0, 1) := by decide +kernel
theorem dX6_checkIn_6 : decode cX6_checkIn 6 = .ok (.iload_n 1, 1) := by decide +kernel
theorem dX6_checkIn_7 : decode cX6_checkIn 7 = .ok (.invokevirtual 114, 3) := by decide +kernel
theorem dX6_checkIn_10 : decode cX6_checkIn 10 = .ok (.ifCond .ne 9, 3) := by decide +kernel
theorem dX6_checkIn_13 : decode cX6_checkIn 13 = .ok (.aload_n 0, 1) := by decide +kernel
theorem dX6_checkIn_14 : decode cX6_checkIn 14 = .ok (.iconst 1, 1) := by decide +kernel
theorem dX6_checkIn_15 : decode cX6_checkIn 15 = .ok (.invokevirtual 110, 3) := by decide +kernel
theorem dX6_checkIn_18 : decode cX6_checkIn 18 = .ok (.ireturn, 1) := by decide +kernel
theorem dX6_checkIn_19 : decode cX6_checkIn 19 = .ok (.iload_n 2, 1) := by decide +kernel
theorem dX6_checkIn_20 : decode cX6_checkIn 20 = .ok (.iconst 1, 1) := by decide +kernel
theorem dX6_checkIn_21 : decode cX6_checkIn 21 = .ok (.bipush 9, 2) := by decide +kernel
theorem dX6_checkIn_23 : decode cX6_checkIn 23 = .ok (.invokestatic 52, 3) := by decide +kernel
theorem dX6_checkIn_26 : decode cX6_checkIn 26 = .ok (.ifCond .eq 13, 3) := by decide +kernel
theorem dX6_checkIn_29 : decode cX6_checkIn 29 = .ok (.iload_n 3, 1) := by decide +kernel
theorem dX6_checkIn_30 : decode cX6_checkIn 30 = .ok (.iconst 0, 1) := by decide +kernel
theorem dX6_checkIn_31 : decode cX6_checkIn 31 = .ok (.bipush 9, 2) := by decide +kernel
theorem dX6_checkIn_33 : decode cX6_checkIn 33 = .ok (.invokestatic 52, 3) := by decide +kernel
theorem dX6_checkIn_36 : decode cX6_checkIn 36 = .ok (.ifCond .ne 9, 3) := by decide +kernel
theorem dX6_checkIn_39 : decode cX6_checkIn 39 = .ok (.aload_n 0, 1) := by decide +kernel
theorem dX6_checkIn_40 : decode cX6_checkIn 40 = .ok (.iconst 2, 1) := by decide +kernel
theorem dX6_checkIn_41 : decode cX6_checkIn 41 = .ok (.invokevirtual 110, 3) := by decide +kernel
theorem dX6_checkIn_44 : decode cX6_checkIn 44 = .ok (.ireturn, 1) := by decide +kernel
theorem dX6_checkIn_45 : decode cX6_checkIn 45 = .ok (.aload_n 0, 1) := by decide +kernel
theorem dX6_checkIn_46 : decode cX6_checkIn 46 = .ok (.getfield 49, 3) := by decide +kernel
theorem dX6_checkIn_49 : decode cX6_checkIn 49 = .ok (.bipush 40, 2) := by decide +kernel
theorem dX6_checkIn_51 : decode cX6_checkIn 51 = .ok (.if_icmp .eq 12, 3) := by decide +kernel
theorem dX6_checkIn_54 : decode cX6_checkIn 54 = .ok (.aload_n 0, 1) := by decide +kernel
theorem dX6_checkIn_55 : decode cX6_checkIn 55 = .ok (.getfield 13, 3) := by decide +kernel
theorem dX6_checkIn_58 : decode cX6_checkIn 58 = .ok (.iload_n 1, 1) := by decide +kernel
theorem dX6_checkIn_59 : decode cX6_checkIn 59 = .ok (.baload, 1) := by decide +kernel
theorem dX6_checkIn_60 : decode cX6_checkIn 60 = .ok (.ifCond .eq 9, 3) := by decide +kernel
theorem dX6_checkIn_63 : decode cX6_checkIn 63 = .ok (.aload_n 0, 1) := by decide +kernel
theorem dX6_checkIn_64 : decode cX6_checkIn 64 = .ok (.iconst 3, 1) := by decide +kernel
theorem dX6_checkIn_65 : decode cX6_checkIn 65 = .ok (.invokevirtual 110, 3) := by decide +kernel
theorem dX6_checkIn_68 : decode cX6_checkIn 68 = .ok (.ireturn, 1) := by decide +kernel
theorem dX6_checkIn_69 : decode cX6_checkIn 69 = .ok (.aload_n 0, 1) := by decide +kernel
theorem dX6_checkIn_70 : decode cX6_checkIn 70 = .ok (.getfield 24, 3) := by decide +kernel
theorem dX6_checkIn_73 : decode cX6_checkIn 73 = .ok (.aload_n 0, 1) := by decide +kernel
theorem dX6_checkIn_74 : decode cX6_checkIn 74 = .ok (.getfield 49, 3) := by decide +kernel
theorem dX6_checkIn_77 : decode cX6_checkIn 77 = .ok (.iload_n 1, 1) := by decide +kernel
theorem dX6_checkIn_78 : decode cX6_checkIn 78 = .ok (.iastore, 1) := by decide +kernel
theorem dX6_checkIn_79 : decode cX6_checkIn 79 = .ok (.aload_n 0, 1) := by decide +kernel
theorem dX6_checkIn_80 : decode cX6_checkIn 80 = .ok (.getfield 27, 3) := by decide +kernel
theorem dX6_checkIn_83 : decode cX6_checkIn 83 = .ok (.aload_n 0, 1) := by decide +kernel
theorem dX6_checkIn_84 : decode cX6_checkIn 84 = .ok (.getfield 49, 3) := by decide +kernel
theorem dX6_checkIn_87 : decode cX6_checkIn 87 = .ok (.iload_n 2, 1) := by decide +kernel
theorem dX6_checkIn_88 : decode cX6_checkIn 88 = .ok (.iastore, 1) := by decide +kernel
theorem dX6_checkIn_89 : decode cX6_checkIn 89 = .ok (.aload_n 0, 1) := by decide +kernel
theorem dX6_checkIn_90 : decode cX6_checkIn 90 = .ok (.getfield 30, 3) := by decide +kernel
theorem dX6_checkIn_93 : decode cX6_checkIn 93 = .ok (.aload_n 0, 1) := by decide +kernel
theorem dX6_checkIn_94 : decode cX6_checkIn 94 = .ok (.getfield 49, 3) := by decide +kernel
theorem dX6_checkIn_97 : decode cX6_checkIn 97 = .ok (.iload_n 3, 1) := by decide +kernel
theorem dX6_checkIn_98 : decode cX6_checkIn 98 = .ok (.iastore, 1) := by decide +kernel
theorem dX6_checkIn_99 : decode cX6_checkIn 99 = .ok (.aload_n 0, 1) := by decide +kernel
theorem dX6_checkIn_100 : decode cX6_checkIn 100 = .ok (.getfield 33, 3) := by decide +kernel
theorem dX6_checkIn_103 : decode cX6_checkIn 103 = .ok (.aload_n 0, 1) := by decide +kernel
theorem dX6_checkIn_104 : decode cX6_checkIn 104 = .ok (.getfield 49, 3) := by decide +kernel
theorem dX6_checkIn_107 : decode cX6_checkIn 107 = .ok (.iconst 0, 1) := by decide +kernel
theorem dX6_checkIn_108 : decode cX6_checkIn 108 = .ok (.iastore, 1) := by decide +kernel
theorem dX6_checkIn_109 : decode cX6_checkIn 109 = .ok (.aload_n 0, 1) := by decide +kernel
theorem dX6_checkIn_110 : decode cX6_checkIn 110 = .ok (.aload_n 0, 1) := by decide +kernel
theorem dX6_checkIn_111 : decode cX6_checkIn 111 = .ok (.getfield 49, 3) := by decide +kernel
theorem dX6_checkIn_114 : decode cX6_checkIn 114 = .ok (.invokevirtual 125, 3) := by decide +kernel
theorem dX6_checkIn_117 : decode cX6_checkIn 117 = .ok (.aload_n 0, 1) := by decide +kernel
theorem dX6_checkIn_118 : decode cX6_checkIn 118 = .ok (.dup, 1) := by decide +kernel
theorem dX6_checkIn_119 : decode cX6_checkIn 119 = .ok (.getfield 49, 3) := by decide +kernel
theorem dX6_checkIn_122 : decode cX6_checkIn 122 = .ok (.iconst 1, 1) := by decide +kernel
theorem dX6_checkIn_123 : decode cX6_checkIn 123 = .ok (.iadd, 1) := by decide +kernel
theorem dX6_checkIn_124 : decode cX6_checkIn 124 = .ok (.putfield 49, 3) := by decide +kernel
theorem dX6_checkIn_127 : decode cX6_checkIn 127 = .ok (.aload_n 0, 1) := by decide +kernel
theorem dX6_checkIn_128 : decode cX6_checkIn 128 = .ok (.getfield 49, 3) := by decide +kernel
theorem dX6_checkIn_131 : decode cX6_checkIn 131 = .ok (.iconst 1, 1) := by decide +kernel
theorem dX6_checkIn_132 : decode cX6_checkIn 132 = .ok (.isub, 1) := by decide +kernel
theorem dX6_checkIn_133 : decode cX6_checkIn 133 = .ok (.ireturn, 1) := by decide +kernel
theorem dX6_isAside_0 : decode cX6_isAside 0 = .ok (.aload_n 0, 1) := by decide +kernel
theorem dX6_isAside_1 : decode cX6_isAside 1 = .ok (.getfield 39, 3) := by decide +kernel
theorem dX6_isAside_4 : decode cX6_isAside 4 = .ok (.getfield 104, 3) := by decide +kernel
theorem dX6_isAside_7 : decode cX6_isAside 7 = .ok (.iload_n 1, 1) := by decide +kernel
theorem dX6_isAside_8 : decode cX6_isAside 8 = .ok (.iaload, 1) := by decide +kernel
theorem dX6_isAside_9 : decode cX6_isAside 9 = .ok (.iconst 3, 1) := by decide +kernel
theorem dX6_isAside_10 : decode cX6_isAside 10 = .ok (.if_icmp .eq 16, 3) := by decide +kernel
theorem dX6_isAside_13 : decode cX6_isAside 13 = .ok (.aload_n 0, 1) := by decide +kernel
theorem dX6_isAside_14 : decode cX6_isAside 14 = .ok (.getfield 39, 3) := by decide +kernel
theorem dX6_isAside_17 : decode cX6_isAside 17 = .ok (.getfield 104, 3) := by decide +kernel
theorem dX6_isAside_20 : decode cX6_isAside 20 = .ok (.iload_n 1, 1) := by decide +kernel
theorem dX6_isAside_21 : decode cX6_isAside 21 = .ok (.iaload, 1) := by decide +kernel
theorem dX6_isAside_22 : decode cX6_isAside 22 = .ok (.iconst 4, 1) := by decide +kernel
theorem dX6_isAside_23 : decode cX6_isAside 23 = .ok (.if_icmp .ne 7, 3) := by decide +kernel
theorem dX6_isAside_26 : decode cX6_isAside 26 = .ok (.iconst 1, 1) := by decide +kernel
theorem dX6_isAside_27 : decode cX6_isAside 27 = .ok (.goto 4, 3) := by decide +kernel
theorem dX6_isAside_30 : decode cX6_isAside 30 = .ok (.iconst 0, 1) := by decide +kernel
theorem dX6_isAside_31 : decode cX6_isAside 31 = .ok (.ireturn, 1) := by decide +kernel
theorem dX6_carry_0 : decode cX6_carry 0 = .ok (.aload_n 0, 1) := by decide +kernel
theorem dX6_carry_1 : decode cX6_carry 1 = .ok (.iconst 0, 1) := by decide +kernel
theorem dX6_carry_2 : decode cX6_carry 2 = .ok (.putfield 46, 3) := by decide +kernel
theorem dX6_carry_5 : decode cX6_carry 5 = .ok (.aload_n 0, 1) := by decide +kernel
theorem dX6_carry_6 : decode cX6_carry 6 = .ok (.iload_n 1, 1) := by decide +kernel
theorem dX6_carry_7 : decode cX6_carry 7 = .ok (.invokevirtual 128, 3) := by decide +kernel
theorem dX6_carry_10 : decode cX6_carry 10 = .ok (.ifCond .ne 9, 3) := by decide +kernel
theorem dX6_carry_13 : decode cX6_carry 13 = .ok (.aload_n 0, 1) := by decide +kernel
theorem dX6_carry_14 : decode cX6_carry 14 = .ok (.iconst 1, 1) := by decide +kernel
theorem dX6_carry_15 : decode cX6_carry 15 = .ok (.invokevirtual 110, 3) := by decide +kernel
theorem dX6_carry_18 : decode cX6_carry 18 = .ok (.ireturn, 1) := by decide +kernel
theorem dX6_carry_19 : decode cX6_carry 19 = .ok (.aload_n 0, 1) := by decide +kernel
theorem dX6_carry_20 : decode cX6_carry 20 = .ok (.getfield 24, 3) := by decide +kernel
theorem dX6_carry_23 : decode cX6_carry 23 = .ok (.iload_n 1, 1) := by decide +kernel
theorem dX6_carry_24 : decode cX6_carry 24 = .ok (.iaload, 1) := by decide +kernel
theorem dX6_carry_25 : decode cX6_carry 25 = .ok (.istore_n 2, 1) := by decide +kernel
theorem dX6_carry_26 : decode cX6_carry 26 = .ok (.aload_n 0, 1) := by decide +kernel
theorem dX6_carry_27 : decode cX6_carry 27 = .ok (.getfield 9, 3) := by decide +kernel
theorem dX6_carry_30 : decode cX6_carry 30 = .ok (.iload_n 2, 1) := by decide +kernel
theorem dX6_carry_31 : decode cX6_carry 31 = .ok (.iaload, 1) := by decide +kernel
theorem dX6_carry_32 : decode cX6_carry 32 = .ok (.istore_n 3, 1) := by decide +kernel
theorem dX6_carry_33 : decode cX6_carry 33 = .ok (.aload_n 0, 1) := by decide +kernel
theorem dX6_carry_34 : decode cX6_carry 34 = .ok (.iload_n 1, 1) := by decide +kernel
theorem dX6_carry_35 : decode cX6_carry 35 = .ok (.invokevirtual 131, 3) := by decide +kernel
theorem dX6_carry_38 : decode cX6_carry 38 = .ok (.ifCond .eq 35, 3) := by decide +kernel
theorem dX6_carry_41 : decode cX6_carry 41 = .ok (.aload_n 0, 1) := by decide +kernel
theorem dX6_carry_42 : decode cX6_carry 42 = .ok (.getfield 13, 3) := by decide +kernel
theorem dX6_carry_45 : decode cX6_carry 45 = .ok (.iload_n 2, 1) := by decide +kernel
theorem dX6_carry_46 : decode cX6_carry 46 = .ok (.baload, 1) := by decide +kernel
theorem dX6_carry_47 : decode cX6_carry 47 = .ok (.ifCond .ne 26, 3) := by decide +kernel
theorem dX6_carry_50 : decode cX6_carry 50 = .ok (.iload_n 3, 1) := by decide +kernel
theorem dX6_carry_51 : decode cX6_carry 51 = .ok (.iconst (-1), 1) := by decide +kernel
theorem dX6_carry_52 : decode cX6_carry 52 = .ok (.if_icmp .eq 21, 3) := by decide +kernel
theorem dX6_carry_55 : decode cX6_carry 55 = .ok (.aload_n 0, 1) := by decide +kernel
theorem dX6_carry_56 : decode cX6_carry 56 = .ok (.getfield 39, 3) := by decide +kernel
theorem dX6_carry_59 : decode cX6_carry 59 = .ok (.getfield 72, 3) := by decide +kernel
theorem dX6_carry_62 : decode cX6_carry 62 = .ok (.iload_n 3, 1) := by decide +kernel
theorem dX6_carry_63 : decode cX6_carry 63 = .ok (.iaload, 1) := by decide +kernel
theorem dX6_carry_64 : decode cX6_carry 64 = .ok (.aload_n 0, 1) := by decide +kernel
theorem dX6_carry_65 : decode cX6_carry 65 = .ok (.getfield 17, 3) := by decide +kernel
theorem dX6_carry_68 : decode cX6_carry 68 = .ok (.iload_n 3, 1) := by decide +kernel
theorem dX6_carry_69 : decode cX6_carry 69 = .ok (.iaload, 1) := by decide +kernel
theorem dX6_carry_70 : decode cX6_carry 70 = .ok (.if_icmp .lt 9, 3) := by decide +kernel
theorem dX6_carry_73 : decode cX6_carry 73 = .ok (.aload_n 0, 1) := by decide +kernel
theorem dX6_carry_74 : decode cX6_carry 74 = .ok (.iconst 2, 1) := by decide +kernel
theorem dX6_carry_75 : decode cX6_carry 75 = .ok (.invokevirtual 110, 3) := by decide +kernel
theorem dX6_carry_78 : decode cX6_carry 78 = .ok (.ireturn, 1) := by decide +kernel
theorem dX6_carry_79 : decode cX6_carry 79 = .ok (.aload_n 0, 1) := by decide +kernel
theorem dX6_carry_80 : decode cX6_carry 80 = .ok (.getfield 39, 3) := by decide +kernel
theorem dX6_carry_83 : decode cX6_carry 83 = .ok (.iload_n 1, 1) := by decide +kernel
theorem dX6_carry_84 : decode cX6_carry 84 = .ok (.iload_n 3, 1) := by decide +kernel
theorem dX6_carry_85 : decode cX6_carry 85 = .ok (.invokevirtual 75, 3) := by decide +kernel
theorem dX6_carry_88 : decode cX6_carry 88 = .ok (.iload_n 3, 1) := by decide +kernel
theorem dX6_carry_89 : decode cX6_carry 89 = .ok (.ireturn, 1) := by decide +kernel
theorem dX6_close_0 : decode cX6_close 0 = .ok (.aload_n 0, 1) := by decide +kernel
theorem dX6_close_1 : decode cX6_close 1 = .ok (.getfield 33, 3) := by decide +kernel
theorem dX6_close_4 : decode cX6_close 4 = .ok (.iload_n 1, 1) := by decide +kernel
theorem dX6_close_5 : decode cX6_close 5 = .ok (.iaload, 1) := by decide +kernel
theorem dX6_close_6 : decode cX6_close 6 = .ok (.iconst 1, 1) := by decide +kernel
theorem dX6_close_7 : decode cX6_close 7 = .ok (.if_icmp .ne 10, 3) := by decide +kernel
theorem dX6_close_10 : decode cX6_close 10 = .ok (.aload_n 0, 1) := by decide +kernel
theorem dX6_close_11 : decode cX6_close 11 = .ok (.getfield 33, 3) := by decide +kernel
theorem dX6_close_14 : decode cX6_close 14 = .ok (.iload_n 1, 1) := by decide +kernel
theorem dX6_close_15 : decode cX6_close 15 = .ok (.iconst 2, 1) := by decide +kernel
theorem dX6_close_16 : decode cX6_close 16 = .ok (.iastore, 1) := by decide +kernel
theorem dX6_close_17 : decode cX6_close 17 = .ok (.return_, 1) := by decide +kernel
theorem dX6_forward_0 : decode cX6_forward 0 = .ok (.aload_n 0, 1) := by decide +kernel
theorem dX6_forward_1 : decode cX6_forward 1 = .ok (.iconst 0, 1) := by decide +kernel
theorem dX6_forward_2 : decode cX6_forward 2 = .ok (.putfield 46, 3) := by decide +kernel
theorem dX6_forward_5 : decode cX6_forward 5 = .ok (.aload_n 0, 1) := by decide +kernel
theorem dX6_forward_6 : decode cX6_forward 6 = .ok (.iload_n 1, 1) := by decide +kernel
theorem dX6_forward_7 : decode cX6_forward 7 = .ok (.invokevirtual 128, 3) := by decide +kernel
theorem dX6_forward_10 : decode cX6_forward 10 = .ok (.ifCond .eq 11, 3) := by decide +kernel
theorem dX6_forward_13 : decode cX6_forward 13 = .ok (.aload_n 0, 1) := by decide +kernel
theorem dX6_forward_14 : decode cX6_forward 14 = .ok (.iload_n 2, 1) := by decide +kernel
theorem dX6_forward_15 : decode cX6_forward 15 = .ok (.invokevirtual 114, 3) := by decide +kernel
theorem dX6_forward_18 : decode cX6_forward 18 = .ok (.ifCond .ne 9, 3) := by decide +kernel
theorem dX6_forward_21 : decode cX6_forward 21 = .ok (.aload_n 0, 1) := by decide +kernel
theorem dX6_forward_22 : decode cX6_forward 22 = .ok (.iconst 1, 1) := by decide +kernel
theorem dX6_forward_23 : decode cX6_forward 23 = .ok (.invokevirtual 110, 3) := by decide +kernel
theorem dX6_forward_26 : decode cX6_forward 26 = .ok (.ireturn, 1) := by decide +kernel
theorem dX6_forward_27 : decode cX6_forward 27 = .ok (.aload_n 0, 1) := by decide +kernel
theorem dX6_forward_28 : decode cX6_forward 28 = .ok (.iload_n 1, 1) := by decide +kernel
theorem dX6_forward_29 : decode cX6_forward 29 = .ok (.invokevirtual 131, 3) := by decide +kernel
theorem dX6_forward_32 : decode cX6_forward 32 = .ok (.ifCond .eq 26, 3) := by decide +kernel
theorem dX6_forward_35 : decode cX6_forward 35 = .ok (.aload_n 0, 1) := by decide +kernel
theorem dX6_forward_36 : decode cX6_forward 36 = .ok (.getfield 13, 3) := by decide +kernel
theorem dX6_forward_39 : decode cX6_forward 39 = .ok (.aload_n 0, 1) := by decide +kernel
theorem dX6_forward_40 : decode cX6_forward 40 = .ok (.getfield 24, 3) := by decide +kernel
theorem dX6_forward_43 : decode cX6_forward 43 = .ok (.iload_n 1, 1) := by decide +kernel
theorem dX6_forward_44 : decode cX6_forward 44 = .ok (.iaload, 1) := by decide +kernel
theorem dX6_forward_45 : decode cX6_forward 45 = .ok (.baload, 1) := by decide +kernel
theorem dX6_forward_46 : decode cX6_forward 46 = .ok (.ifCond .eq 12, 3) := by decide +kernel
theorem dX6_forward_49 : decode cX6_forward 49 = .ok (.aload_n 0, 1) := by decide +kernel
theorem dX6_forward_50 : decode cX6_forward 50 = .ok (.getfield 13, 3) := by decide +kernel
theorem dX6_forward_53 : decode cX6_forward 53 = .ok (.iload_n 2, 1) := by decide +kernel
theorem dX6_forward_54 : decode cX6_forward 54 = .ok (.baload, 1) := by decide +kernel
theorem dX6_forward_55 : decode cX6_forward 55 = .ok (.ifCond .eq 9, 3) := by decide +kernel
theorem dX6_forward_58 : decode cX6_forward 58 = .ok (.aload_n 0, 1) := by decide +kernel
theorem dX6_forward_59 : decode cX6_forward 59 = .ok (.iconst 2, 1) := by decide +kernel
theorem dX6_forward_60 : decode cX6_forward 60 = .ok (.invokevirtual 110, 3) := by decide +kernel
theorem dX6_forward_63 : decode cX6_forward 63 = .ok (.ireturn, 1) := by decide +kernel
theorem dX6_forward_64 : decode cX6_forward 64 = .ok (.aload_n 0, 1) := by decide +kernel
theorem dX6_forward_65 : decode cX6_forward 65 = .ok (.getfield 24, 3) := by decide +kernel
theorem dX6_forward_68 : decode cX6_forward 68 = .ok (.iload_n 1, 1) := by decide +kernel
theorem dX6_forward_69 : decode cX6_forward 69 = .ok (.iload_n 2, 1) := by decide +kernel
theorem dX6_forward_70 : decode cX6_forward 70 = .ok (.iastore, 1) := by decide +kernel
theorem dX6_forward_71 : decode cX6_forward 71 = .ok (.aload_n 0, 1) := by decide +kernel
theorem dX6_forward_72 : decode cX6_forward 72 = .ok (.iload_n 1, 1) := by decide +kernel
theorem dX6_forward_73 : decode cX6_forward 73 = .ok (.invokevirtual 125, 3) := by decide +kernel
theorem dX6_forward_76 : decode cX6_forward 76 = .ok (.aload_n 0, 1) := by decide +kernel
theorem dX6_forward_77 : decode cX6_forward 77 = .ok (.iload_n 1, 1) := by decide +kernel
theorem dX6_forward_78 : decode cX6_forward 78 = .ok (.invokevirtual 134, 3) := by decide +kernel
theorem dX6_forward_81 : decode cX6_forward 81 = .ok (.aload_n 0, 1) := by decide +kernel
theorem dX6_forward_82 : decode cX6_forward 82 = .ok (.getfield 39, 3) := by decide +kernel
theorem dX6_forward_85 : decode cX6_forward 85 = .ok (.getfield 90, 3) := by decide +kernel
theorem dX6_forward_88 : decode cX6_forward 88 = .ok (.ireturn, 1) := by decide +kernel
theorem dX6_sweep_0 : decode cX6_sweep 0 = .ok (.aload_n 0, 1) := by decide +kernel
theorem dX6_sweep_1 : decode cX6_sweep 1 = .ok (.iconst 0, 1) := by decide +kernel
theorem dX6_sweep_2 : decode cX6_sweep 2 = .ok (.putfield 46, 3) := by decide +kernel
theorem dX6_sweep_5 : decode cX6_sweep 5 = .ok (.iload_n 1, 1) := by decide +kernel
theorem dX6_sweep_6 : decode cX6_sweep 6 = .ok (.invokestatic 118, 3) := by decide +kernel
theorem dX6_sweep_9 : decode cX6_sweep 9 = .ok (.ifCond .ne 9, 3) := by decide +kernel
theorem dX6_sweep_12 : decode cX6_sweep 12 = .ok (.aload_n 0, 1) := by decide +kernel
theorem dX6_sweep_13 : decode cX6_sweep 13 = .ok (.iconst 1, 1) := by decide +kernel
theorem dX6_sweep_14 : decode cX6_sweep 14 = .ok (.invokevirtual 110, 3) := by decide +kernel
theorem dX6_sweep_17 : decode cX6_sweep 17 = .ok (.ireturn, 1) := by decide +kernel
theorem dX6_sweep_18 : decode cX6_sweep 18 = .ok (.iconst 0, 1) := by decide +kernel
theorem dX6_sweep_19 : decode cX6_sweep 19 = .ok (.istore_n 2, 1) := by decide +kernel
theorem dX6_sweep_20 : decode cX6_sweep 20 = .ok (.iconst 0, 1) := by decide +kernel
theorem dX6_sweep_21 : decode cX6_sweep 21 = .ok (.istore_n 3, 1) := by decide +kernel
theorem dX6_sweep_22 : decode cX6_sweep 22 = .ok (.iload_n 3, 1) := by decide +kernel
theorem dX6_sweep_23 : decode cX6_sweep 23 = .ok (.aload_n 0, 1) := by decide +kernel
theorem dX6_sweep_24 : decode cX6_sweep 24 = .ok (.getfield 49, 3) := by decide +kernel
theorem dX6_sweep_27 : decode cX6_sweep 27 = .ok (.if_icmp .ge 64, 3) := by decide +kernel
theorem dX6_sweep_30 : decode cX6_sweep 30 = .ok (.aload_n 0, 1) := by decide +kernel
theorem dX6_sweep_31 : decode cX6_sweep 31 = .ok (.iload_n 3, 1) := by decide +kernel
theorem dX6_sweep_32 : decode cX6_sweep 32 = .ok (.invokevirtual 137, 3) := by decide +kernel
theorem dX6_sweep_35 : decode cX6_sweep 35 = .ok (.ifCond .eq 50, 3) := by decide +kernel
theorem dX6_sweep_38 : decode cX6_sweep 38 = .ok (.aload_n 0, 1) := by decide +kernel
theorem dX6_sweep_39 : decode cX6_sweep 39 = .ok (.getfield 39, 3) := by decide +kernel
theorem dX6_sweep_42 : decode cX6_sweep 42 = .ok (.getfield 107, 3) := by decide +kernel
theorem dX6_sweep_45 : decode cX6_sweep 45 = .ok (.iload_n 3, 1) := by decide +kernel
theorem dX6_sweep_46 : decode cX6_sweep 46 = .ok (.iaload, 1) := by decide +kernel
theorem dX6_sweep_47 : decode cX6_sweep 47 = .ok (.iload_n 1, 1) := by decide +kernel
theorem dX6_sweep_48 : decode cX6_sweep 48 = .ok (.if_icmp .eq 6, 3) := by decide +kernel
theorem dX6_sweep_51 : decode cX6_sweep 51 = .ok (.goto 34, 3) := by decide +kernel
theorem dX6_sweep_54 : decode cX6_sweep 54 = .ok (.aload_n 0, 1) := by decide +kernel
theorem dX6_sweep_55 : decode cX6_sweep 55 = .ok (.getfield 39, 3) := by decide +kernel
theorem dX6_sweep_58 : decode cX6_sweep 58 = .ok (.iload_n 3, 1) := by decide +kernel
theorem dX6_sweep_59 : decode cX6_sweep 59 = .ok (.iconst 3, 1) := by decide +kernel
theorem dX6_sweep_60 : decode cX6_sweep 60 = .ok (.iconst (-1), 1) := by decide +kernel
theorem dX6_sweep_61 : decode cX6_sweep 61 = .ok (.invokevirtual 68, 3) := by decide +kernel
theorem dX6_sweep_64 : decode cX6_sweep 64 = .ok (.aload_n 0, 1) := by decide +kernel
theorem dX6_sweep_65 : decode cX6_sweep 65 = .ok (.getfield 39, 3) := by decide +kernel
theorem dX6_sweep_68 : decode cX6_sweep 68 = .ok (.getfield 72, 3) := by decide +kernel
theorem dX6_sweep_71 : decode cX6_sweep 71 = .ok (.iload_n 1, 1) := by decide +kernel
theorem dX6_sweep_72 : decode cX6_sweep 72 = .ok (.dup2, 1) := by decide +kernel
theorem dX6_sweep_73 : decode cX6_sweep 73 = .ok (.iaload, 1) := by decide +kernel
theorem dX6_sweep_74 : decode cX6_sweep 74 = .ok (.iconst 1, 1) := by decide +kernel
theorem dX6_sweep_75 : decode cX6_sweep 75 = .ok (.isub, 1) := by decide +kernel
theorem dX6_sweep_76 : decode cX6_sweep 76 = .ok (.iastore, 1) := by decide +kernel
theorem dX6_sweep_77 : decode cX6_sweep 77 = .ok (.aload_n 0, 1) := by decide +kernel
theorem dX6_sweep_78 : decode cX6_sweep 78 = .ok (.iload_n 3, 1) := by decide +kernel
theorem dX6_sweep_79 : decode cX6_sweep 79 = .ok (.invokevirtual 134, 3) := by decide +kernel
theorem dX6_sweep_82 : decode cX6_sweep 82 = .ok (.iinc 2 1, 3) := by decide +kernel
theorem dX6_sweep_85 : decode cX6_sweep 85 = .ok (.iinc 3 1, 3) := by decide +kernel
theorem dX6_sweep_88 : decode cX6_sweep 88 = .ok (.goto (-66), 3) := by decide +kernel
theorem dX6_sweep_91 : decode cX6_sweep 91 = .ok (.iload_n 2, 1) := by decide +kernel
theorem dX6_sweep_92 : decode cX6_sweep 92 = .ok (.ireturn, 1) := by decide +kernel
theorem dX6_isInItsChute_0 : decode cX6_isInItsChute 0 = .ok (.aload_n 0, 1) := by decide +kernel
theorem dX6_isInItsChute_1 : decode cX6_isInItsChute 1 = .ok (.getfield 39, 3) := by decide +kernel
theorem dX6_isInItsChute_4 : decode cX6_isInItsChute 4 = .ok (.getfield 104, 3) := by decide +kernel
theorem dX6_isInItsChute_7 : decode cX6_isInItsChute 7 = .ok (.iload_n 1, 1) := by decide +kernel
theorem dX6_isInItsChute_8 : decode cX6_isInItsChute 8 = .ok (.iaload, 1) := by decide +kernel
theorem dX6_isInItsChute_9 : decode cX6_isInItsChute 9 = .ok (.iconst 2, 1) := by decide +kernel
theorem dX6_isInItsChute_10 : decode cX6_isInItsChute 10 = .ok (.if_icmp .ne 30, 3) := by decide +kernel
theorem dX6_isInItsChute_13 : decode cX6_isInItsChute 13 = .ok (.aload_n 0, 1) := by decide +kernel
theorem dX6_isInItsChute_14 : decode cX6_isInItsChute 14 = .ok (.getfield 39, 3) := by decide +kernel
theorem dX6_isInItsChute_17 : decode cX6_isInItsChute 17 = .ok (.getfield 107, 3) := by decide +kernel
theorem dX6_isInItsChute_20 : decode cX6_isInItsChute 20 = .ok (.iload_n 1, 1) := by decide +kernel
theorem dX6_isInItsChute_21 : decode cX6_isInItsChute 21 = .ok (.iaload, 1) := by decide +kernel
theorem dX6_isInItsChute_22 : decode cX6_isInItsChute 22 = .ok (.aload_n 0, 1) := by decide +kernel
theorem dX6_isInItsChute_23 : decode cX6_isInItsChute 23 = .ok (.getfield 9, 3) := by decide +kernel
theorem dX6_isInItsChute_26 : decode cX6_isInItsChute 26 = .ok (.aload_n 0, 1) := by decide +kernel
theorem dX6_isInItsChute_27 : decode cX6_isInItsChute 27 = .ok (.getfield 24, 3) := by decide +kernel
theorem dX6_isInItsChute_30 : decode cX6_isInItsChute 30 = .ok (.iload_n 1, 1) := by decide +kernel
theorem dX6_isInItsChute_31 : decode cX6_isInItsChute 31 = .ok (.iaload, 1) := by decide +kernel
theorem dX6_isInItsChute_32 : decode cX6_isInItsChute 32 = .ok (.iaload, 1) := by decide +kernel
theorem dX6_isInItsChute_33 : decode cX6_isInItsChute 33 = .ok (.if_icmp .ne 7, 3) := by decide +kernel
theorem dX6_isInItsChute_36 : decode cX6_isInItsChute 36 = .ok (.iconst 1, 1) := by decide +kernel
theorem dX6_isInItsChute_37 : decode cX6_isInItsChute 37 = .ok (.goto 4, 3) := by decide +kernel
theorem dX6_isInItsChute_40 : decode cX6_isInItsChute 40 = .ok (.iconst 0, 1) := by decide +kernel
theorem dX6_isInItsChute_41 : decode cX6_isInItsChute 41 = .ok (.ireturn, 1) := by decide +kernel
theorem dX6_depart_0 : decode cX6_depart 0 = .ok (.aload_n 0, 1) := by decide +kernel
theorem dX6_depart_1 : decode cX6_depart 1 = .ok (.iconst 0, 1) := by decide +kernel
theorem dX6_depart_2 : decode cX6_depart 2 = .ok (.putfield 46, 3) := by decide +kernel
theorem dX6_depart_5 : decode cX6_depart 5 = .ok (.aload_n 0, 1) := by decide +kernel
theorem dX6_depart_6 : decode cX6_depart 6 = .ok (.iload_n 1, 1) := by decide +kernel
theorem dX6_depart_7 : decode cX6_depart 7 = .ok (.invokevirtual 114, 3) := by decide +kernel
theorem dX6_depart_10 : decode cX6_depart 10 = .ok (.ifCond .ne 9, 3) := by decide +kernel
theorem dX6_depart_13 : decode cX6_depart 13 = .ok (.aload_n 0, 1) := by decide +kernel
theorem dX6_depart_14 : decode cX6_depart 14 = .ok (.iconst 1, 1) := by decide +kernel
theorem dX6_depart_15 : decode cX6_depart 15 = .ok (.invokevirtual 110, 3) := by decide +kernel
theorem dX6_depart_18 : decode cX6_depart 18 = .ok (.ireturn, 1) := by decide +kernel
theorem dX6_depart_19 : decode cX6_depart 19 = .ok (.aload_n 0, 1) := by decide +kernel
theorem dX6_depart_20 : decode cX6_depart 20 = .ok (.getfield 13, 3) := by decide +kernel
theorem dX6_depart_23 : decode cX6_depart 23 = .ok (.iload_n 1, 1) := by decide +kernel
theorem dX6_depart_24 : decode cX6_depart 24 = .ok (.baload, 1) := by decide +kernel
theorem dX6_depart_25 : decode cX6_depart 25 = .ok (.ifCond .eq 9, 3) := by decide +kernel
theorem dX6_depart_28 : decode cX6_depart 28 = .ok (.aload_n 0, 1) := by decide +kernel
theorem dX6_depart_29 : decode cX6_depart 29 = .ok (.iconst 2, 1) := by decide +kernel
theorem dX6_depart_30 : decode cX6_depart 30 = .ok (.invokevirtual 110, 3) := by decide +kernel
theorem dX6_depart_33 : decode cX6_depart 33 = .ok (.ireturn, 1) := by decide +kernel
theorem dX6_depart_34 : decode cX6_depart 34 = .ok (.iconst 0, 1) := by decide +kernel
theorem dX6_depart_35 : decode cX6_depart 35 = .ok (.istore_n 2, 1) := by decide +kernel
theorem dX6_depart_36 : decode cX6_depart 36 = .ok (.iconst 0, 1) := by decide +kernel
theorem dX6_depart_37 : decode cX6_depart 37 = .ok (.istore_n 3, 1) := by decide +kernel
theorem dX6_depart_38 : decode cX6_depart 38 = .ok (.iload_n 3, 1) := by decide +kernel
theorem dX6_depart_39 : decode cX6_depart 39 = .ok (.aload_n 0, 1) := by decide +kernel
theorem dX6_depart_40 : decode cX6_depart 40 = .ok (.getfield 49, 3) := by decide +kernel
theorem dX6_depart_43 : decode cX6_depart 43 = .ok (.if_icmp .ge 74, 3) := by decide +kernel
theorem dX6_depart_46 : decode cX6_depart 46 = .ok (.aload_n 0, 1) := by decide +kernel
theorem dX6_depart_47 : decode cX6_depart 47 = .ok (.getfield 24, 3) := by decide +kernel
theorem dX6_depart_50 : decode cX6_depart 50 = .ok (.iload_n 3, 1) := by decide +kernel
theorem dX6_depart_51 : decode cX6_depart 51 = .ok (.iaload, 1) := by decide +kernel
theorem dX6_depart_52 : decode cX6_depart 52 = .ok (.iload_n 1, 1) := by decide +kernel
theorem dX6_depart_53 : decode cX6_depart 53 = .ok (.if_icmp .eq 6, 3) := by decide +kernel
theorem dX6_depart_56 : decode cX6_depart 56 = .ok (.goto 55, 3) := by decide +kernel
theorem dX6_depart_59 : decode cX6_depart 59 = .ok (.aload_n 0, 1) := by decide +kernel
theorem dX6_depart_60 : decode cX6_depart 60 = .ok (.iload_n 3, 1) := by decide +kernel
theorem dX6_depart_61 : decode cX6_depart 61 = .ok (.invokevirtual 140, 3) := by decide +kernel
theorem dX6_depart_64 : decode cX6_depart 64 = .ok (.ifCond .eq 40, 3) := by decide +kernel
theorem dX6_depart_67 : decode cX6_depart 67 = .ok (.aload_n 0, 1) := by decide +kernel
theorem dX6_depart_68 : decode cX6_depart 68 = .ok (.getfield 39, 3) := by decide +kernel
theorem dX6_depart_71 : decode cX6_depart 71 = .ok (.getfield 72, 3) := by decide +kernel
theorem dX6_depart_74 : decode cX6_depart 74 = .ok (.aload_n 0, 1) := by decide +kernel
theorem dX6_depart_75 : decode cX6_depart 75 = .ok (.getfield 39, 3) := by decide +kernel
theorem dX6_depart_78 : decode cX6_depart 78 = .ok (.getfield 107, 3) := by decide +kernel
theorem dX6_depart_81 : decode cX6_depart 81 = .ok (.iload_n 3, 1) := by decide +kernel
theorem dX6_depart_82 : decode cX6_depart 82 = .ok (.iaload, 1) := by decide +kernel
theorem dX6_depart_83 : decode cX6_depart 83 = .ok (.dup2, 1) := by decide +kernel
theorem dX6_depart_84 : decode cX6_depart 84 = .ok (.iaload, 1) := by decide +kernel
theorem dX6_depart_85 : decode cX6_depart 85 = .ok (.iconst 1, 1) := by decide +kernel
theorem dX6_depart_86 : decode cX6_depart 86 = .ok (.isub, 1) := by decide +kernel
theorem dX6_depart_87 : decode cX6_depart 87 = .ok (.iastore, 1) := by decide +kernel
theorem dX6_depart_88 : decode cX6_depart 88 = .ok (.aload_n 0, 1) := by decide +kernel
theorem dX6_depart_89 : decode cX6_depart 89 = .ok (.getfield 39, 3) := by decide +kernel
theorem dX6_depart_92 : decode cX6_depart 92 = .ok (.iload_n 3, 1) := by decide +kernel
theorem dX6_depart_93 : decode cX6_depart 93 = .ok (.iconst 5, 1) := by decide +kernel
theorem dX6_depart_94 : decode cX6_depart 94 = .ok (.iconst (-1), 1) := by decide +kernel
theorem dX6_depart_95 : decode cX6_depart 95 = .ok (.invokevirtual 68, 3) := by decide +kernel
theorem dX6_depart_98 : decode cX6_depart 98 = .ok (.iinc 2 1, 3) := by decide +kernel
theorem dX6_depart_101 : decode cX6_depart 101 = .ok (.goto 10, 3) := by decide +kernel
theorem dX6_depart_104 : decode cX6_depart 104 = .ok (.aload_n 0, 1) := by decide +kernel
theorem dX6_depart_105 : decode cX6_depart 105 = .ok (.getfield 33, 3) := by decide +kernel
theorem dX6_depart_108 : decode cX6_depart 108 = .ok (.iload_n 3, 1) := by decide +kernel
theorem dX6_depart_109 : decode cX6_depart 109 = .ok (.iconst 1, 1) := by decide +kernel
theorem dX6_depart_110 : decode cX6_depart 110 = .ok (.iastore, 1) := by decide +kernel
theorem dX6_depart_111 : decode cX6_depart 111 = .ok (.iinc 3 1, 3) := by decide +kernel
theorem dX6_depart_114 : decode cX6_depart 114 = .ok (.goto (-76), 3) := by decide +kernel
theorem dX6_depart_117 : decode cX6_depart 117 = .ok (.aload_n 0, 1) := by decide +kernel
theorem dX6_depart_118 : decode cX6_depart 118 = .ok (.getfield 13, 3) := by decide +kernel
theorem dX6_depart_121 : decode cX6_depart 121 = .ok (.iload_n 1, 1) := by decide +kernel
theorem dX6_depart_122 : decode cX6_depart 122 = .ok (.iconst 1, 1) := by decide +kernel
theorem dX6_depart_123 : decode cX6_depart 123 = .ok (.bastore, 1) := by decide +kernel
theorem dX6_depart_124 : decode cX6_depart 124 = .ok (.iload_n 2, 1) := by decide +kernel
theorem dX6_depart_125 : decode cX6_depart 125 = .ok (.ireturn, 1) := by decide +kernel
theorem dX6_pass_0 : decode cX6_pass 0 = .ok (.aload_n 0, 1) := by decide +kernel
theorem dX6_pass_1 : decode cX6_pass 1 = .ok (.iconst 0, 1) := by decide +kernel
theorem dX6_pass_2 : decode cX6_pass 2 = .ok (.putfield 46, 3) := by decide +kernel
theorem dX6_pass_5 : decode cX6_pass 5 = .ok (.iload_n 1, 1) := by decide +kernel
theorem dX6_pass_6 : decode cX6_pass 6 = .ok (.iconst 1, 1) := by decide +kernel
theorem dX6_pass_7 : decode cX6_pass 7 = .ok (.bipush 60, 2) := by decide +kernel
theorem dX6_pass_9 : decode cX6_pass 9 = .ok (.invokestatic 52, 3) := by decide +kernel
theorem dX6_pass_12 : decode cX6_pass 12 = .ok (.ifCond .eq 15, 3) := by decide +kernel
theorem dX6_pass_15 : decode cX6_pass 15 = .ok (.aload_n 0, 1) := by decide +kernel
theorem dX6_pass_16 : decode cX6_pass 16 = .ok (.aload_n 0, 1) := by decide +kernel
theorem dX6_pass_17 : decode cX6_pass 17 = .ok (.getfield 39, 3) := by decide +kernel
theorem dX6_pass_20 : decode cX6_pass 20 = .ok (.iload_n 1, 1) := by decide +kernel
theorem dX6_pass_21 : decode cX6_pass 21 = .ok (.invokevirtual 143, 3) := by decide +kernel
theorem dX6_pass_24 : decode cX6_pass 24 = .ok (.goto 8, 3) := by decide +kernel
theorem dX6_pass_27 : decode cX6_pass 27 = .ok (.aload_n 0, 1) := by decide +kernel
theorem dX6_pass_28 : decode cX6_pass 28 = .ok (.iconst 1, 1) := by decide +kernel
theorem dX6_pass_29 : decode cX6_pass 29 = .ok (.invokevirtual 110, 3) := by decide +kernel
theorem dX6_pass_32 : decode cX6_pass 32 = .ok (.ireturn, 1) := by decide +kernel
theorem dX6_placed_0 : decode cX6_placed 0 = .ok (.aload_n 0, 1) := by decide +kernel
theorem dX6_placed_1 : decode cX6_placed 1 = .ok (.getfield 39, 3) := by decide +kernel
theorem dX6_placed_4 : decode cX6_placed 4 = .ok (.getfield 104, 3) := by decide +kernel
theorem dX6_placed_7 : decode cX6_placed 7 = .ok (.iload_n 1, 1) := by decide +kernel
theorem dX6_placed_8 : decode cX6_placed 8 = .ok (.iaload, 1) := by decide +kernel
theorem dX6_placed_9 : decode cX6_placed 9 = .ok (.iload_n 2, 1) := by decide +kernel
theorem dX6_placed_10 : decode cX6_placed 10 = .ok (.if_icmp .ne 15, 3) := by decide +kernel
theorem dX6_placed_13 : decode cX6_placed 13 = .ok (.aload_n 0, 1) := by decide +kernel
theorem dX6_placed_14 : decode cX6_placed 14 = .ok (.getfield 39, 3) := by decide +kernel
theorem dX6_placed_17 : decode cX6_placed 17 = .ok (.getfield 107, 3) := by decide +kernel
theorem dX6_placed_20 : decode cX6_placed 20 = .ok (.iload_n 1, 1) := by decide +kernel
theorem dX6_placed_21 : decode cX6_placed 21 = .ok (.iaload, 1) := by decide +kernel
theorem dX6_placed_22 : decode cX6_placed 22 = .ok (.goto 4, 3) := by decide +kernel
theorem dX6_placed_25 : decode cX6_placed 25 = .ok (.iconst (-1), 1) := by decide +kernel
theorem dX6_placed_26 : decode cX6_placed 26 = .ok (.ireturn, 1) := by decide +kernel
theorem dX6_flightOf_0 : decode cX6_flightOf 0 = .ok (.aload_n 0, 1) := by decide +kernel
theorem dX6_flightOf_1 : decode cX6_flightOf 1 = .ok (.iconst 0, 1) := by decide +kernel
theorem dX6_flightOf_2 : decode cX6_flightOf 2 = .ok (.putfield 46, 3) := by decide +kernel
theorem dX6_flightOf_5 : decode cX6_flightOf 5 = .ok (.aload_n 0, 1) := by decide +kernel
theorem dX6_flightOf_6 : decode cX6_flightOf 6 = .ok (.iload_n 1, 1) := by decide +kernel
theorem dX6_flightOf_7 : decode cX6_flightOf 7 = .ok (.invokevirtual 128, 3) := by decide +kernel
theorem dX6_flightOf_10 : decode cX6_flightOf 10 = .ok (.ifCond .eq 12, 3) := by decide +kernel
theorem dX6_flightOf_13 : decode cX6_flightOf 13 = .ok (.aload_n 0, 1) := by decide +kernel
theorem dX6_flightOf_14 : decode cX6_flightOf 14 = .ok (.getfield 24, 3) := by decide +kernel
theorem dX6_flightOf_17 : decode cX6_flightOf 17 = .ok (.iload_n 1, 1) := by decide +kernel
theorem dX6_flightOf_18 : decode cX6_flightOf 18 = .ok (.iaload, 1) := by decide +kernel
theorem dX6_flightOf_19 : decode cX6_flightOf 19 = .ok (.goto 8, 3) := by decide +kernel
theorem dX6_flightOf_22 : decode cX6_flightOf 22 = .ok (.aload_n 0, 1) := by decide +kernel
theorem dX6_flightOf_23 : decode cX6_flightOf 23 = .ok (.iconst 1, 1) := by decide +kernel
theorem dX6_flightOf_24 : decode cX6_flightOf 24 = .ok (.invokevirtual 110, 3) := by decide +kernel
theorem dX6_flightOf_27 : decode cX6_flightOf 27 = .ok (.ireturn, 1) := by decide +kernel
theorem dX6_whereIs_0 : decode cX6_whereIs 0 = .ok (.aload_n 0, 1) := by decide +kernel
theorem dX6_whereIs_1 : decode cX6_whereIs 1 = .ok (.iconst 0, 1) := by decide +kernel
theorem dX6_whereIs_2 : decode cX6_whereIs 2 = .ok (.putfield 46, 3) := by decide +kernel
theorem dX6_whereIs_5 : decode cX6_whereIs 5 = .ok (.aload_n 0, 1) := by decide +kernel
theorem dX6_whereIs_6 : decode cX6_whereIs 6 = .ok (.iload_n 1, 1) := by decide +kernel
theorem dX6_whereIs_7 : decode cX6_whereIs 7 = .ok (.invokevirtual 128, 3) := by decide +kernel
theorem dX6_whereIs_10 : decode cX6_whereIs 10 = .ok (.ifCond .eq 15, 3) := by decide +kernel
theorem dX6_whereIs_13 : decode cX6_whereIs 13 = .ok (.aload_n 0, 1) := by decide +kernel
theorem dX6_whereIs_14 : decode cX6_whereIs 14 = .ok (.getfield 39, 3) := by decide +kernel
theorem dX6_whereIs_17 : decode cX6_whereIs 17 = .ok (.getfield 104, 3) := by decide +kernel
theorem dX6_whereIs_20 : decode cX6_whereIs 20 = .ok (.iload_n 1, 1) := by decide +kernel
theorem dX6_whereIs_21 : decode cX6_whereIs 21 = .ok (.iaload, 1) := by decide +kernel
theorem dX6_whereIs_22 : decode cX6_whereIs 22 = .ok (.goto 8, 3) := by decide +kernel
theorem dX6_whereIs_25 : decode cX6_whereIs 25 = .ok (.aload_n 0, 1) := by decide +kernel
theorem dX6_whereIs_26 : decode cX6_whereIs 26 = .ok (.iconst 1, 1) := by decide +kernel
theorem dX6_whereIs_27 : decode cX6_whereIs 27 = .ok (.invokevirtual 110, 3) := by decide +kernel
theorem dX6_whereIs_30 : decode cX6_whereIs 30 = .ok (.ireturn, 1) := by decide +kernel
theorem dX6_placeOf_0 : decode cX6_placeOf 0 = .ok (.aload_n 0, 1) := by decide +kernel
theorem dX6_placeOf_1 : decode cX6_placeOf 1 = .ok (.iconst 0, 1) := by decide +kernel
theorem dX6_placeOf_2 : decode cX6_placeOf 2 = .ok (.putfield 46, 3) := by decide +kernel
theorem dX6_placeOf_5 : decode cX6_placeOf 5 = .ok (.aload_n 0, 1) := by decide +kernel
theorem dX6_placeOf_6 : decode cX6_placeOf 6 = .ok (.iload_n 1, 1) := by decide +kernel
theorem dX6_placeOf_7 : decode cX6_placeOf 7 = .ok (.invokevirtual 128, 3) := by decide +kernel
theorem dX6_placeOf_10 : decode cX6_placeOf 10 = .ok (.ifCond .eq 12, 3) := by decide +kernel
theorem dX6_placeOf_13 : decode cX6_placeOf 13 = .ok (.aload_n 0, 1) := by decide +kernel
theorem dX6_placeOf_14 : decode cX6_placeOf 14 = .ok (.iload_n 1, 1) := by decide +kernel
theorem dX6_placeOf_15 : decode cX6_placeOf 15 = .ok (.iconst 1, 1) := by decide +kernel
theorem dX6_placeOf_16 : decode cX6_placeOf 16 = .ok (.invokevirtual 146, 3) := by decide +kernel
theorem dX6_placeOf_19 : decode cX6_placeOf 19 = .ok (.goto 8, 3) := by decide +kernel
theorem dX6_placeOf_22 : decode cX6_placeOf 22 = .ok (.aload_n 0, 1) := by decide +kernel
theorem dX6_placeOf_23 : decode cX6_placeOf 23 = .ok (.iconst 1, 1) := by decide +kernel
theorem dX6_placeOf_24 : decode cX6_placeOf 24 = .ok (.invokevirtual 110, 3) := by decide +kernel
theorem dX6_placeOf_27 : decode cX6_placeOf 27 = .ok (.ireturn, 1) := by decide +kernel
theorem dX6_chuteOf_0 : decode cX6_chuteOf 0 = .ok (.aload_n 0, 1) := by decide +kernel
theorem dX6_chuteOf_1 : decode cX6_chuteOf 1 = .ok (.iconst 0, 1) := by decide +kernel
theorem dX6_chuteOf_2 : decode cX6_chuteOf 2 = .ok (.putfield 46, 3) := by decide +kernel
theorem dX6_chuteOf_5 : decode cX6_chuteOf 5 = .ok (.aload_n 0, 1) := by decide +kernel
theorem dX6_chuteOf_6 : decode cX6_chuteOf 6 = .ok (.iload_n 1, 1) := by decide +kernel
theorem dX6_chuteOf_7 : decode cX6_chuteOf 7 = .ok (.invokevirtual 128, 3) := by decide +kernel
theorem dX6_chuteOf_10 : decode cX6_chuteOf 10 = .ok (.ifCond .eq 12, 3) := by decide +kernel
theorem dX6_chuteOf_13 : decode cX6_chuteOf 13 = .ok (.aload_n 0, 1) := by decide +kernel
theorem dX6_chuteOf_14 : decode cX6_chuteOf 14 = .ok (.iload_n 1, 1) := by decide +kernel
theorem dX6_chuteOf_15 : decode cX6_chuteOf 15 = .ok (.iconst 2, 1) := by decide +kernel
theorem dX6_chuteOf_16 : decode cX6_chuteOf 16 = .ok (.invokevirtual 146, 3) := by decide +kernel
theorem dX6_chuteOf_19 : decode cX6_chuteOf 19 = .ok (.goto 8, 3) := by decide +kernel
theorem dX6_chuteOf_22 : decode cX6_chuteOf 22 = .ok (.aload_n 0, 1) := by decide +kernel
theorem dX6_chuteOf_23 : decode cX6_chuteOf 23 = .ok (.iconst 1, 1) := by decide +kernel
theorem dX6_chuteOf_24 : decode cX6_chuteOf 24 = .ok (.invokevirtual 110, 3) := by decide +kernel
theorem dX6_chuteOf_27 : decode cX6_chuteOf 27 = .ok (.ireturn, 1) := by decide +kernel
theorem dX6_readFor_0 : decode cX6_readFor 0 = .ok (.aload_n 0, 1) := by decide +kernel
theorem dX6_readFor_1 : decode cX6_readFor 1 = .ok (.iconst 0, 1) := by decide +kernel
theorem dX6_readFor_2 : decode cX6_readFor 2 = .ok (.putfield 46, 3) := by decide +kernel
theorem dX6_readFor_5 : decode cX6_readFor 5 = .ok (.aload_n 0, 1) := by decide +kernel
theorem dX6_readFor_6 : decode cX6_readFor 6 = .ok (.iload_n 1, 1) := by decide +kernel
theorem dX6_readFor_7 : decode cX6_readFor 7 = .ok (.invokevirtual 128, 3) := by decide +kernel
theorem dX6_readFor_10 : decode cX6_readFor 10 = .ok (.ifCond .eq 15, 3) := by decide +kernel
theorem dX6_readFor_13 : decode cX6_readFor 13 = .ok (.aload_n 0, 1) := by decide +kernel
theorem dX6_readFor_14 : decode cX6_readFor 14 = .ok (.getfield 39, 3) := by decide +kernel
theorem dX6_readFor_17 : decode cX6_readFor 17 = .ok (.getfield 62, 3) := by decide +kernel
theorem dX6_readFor_20 : decode cX6_readFor 20 = .ok (.iload_n 1, 1) := by decide +kernel
theorem dX6_readFor_21 : decode cX6_readFor 21 = .ok (.iaload, 1) := by decide +kernel
theorem dX6_readFor_22 : decode cX6_readFor 22 = .ok (.goto 8, 3) := by decide +kernel
theorem dX6_readFor_25 : decode cX6_readFor 25 = .ok (.aload_n 0, 1) := by decide +kernel
theorem dX6_readFor_26 : decode cX6_readFor 26 = .ok (.iconst 1, 1) := by decide +kernel
theorem dX6_readFor_27 : decode cX6_readFor 27 = .ok (.invokevirtual 110, 3) := by decide +kernel
theorem dX6_readFor_30 : decode cX6_readFor 30 = .ok (.ireturn, 1) := by decide +kernel
theorem dX6_missesOf_0 : decode cX6_missesOf 0 = .ok (.aload_n 0, 1) := by decide +kernel
theorem dX6_missesOf_1 : decode cX6_missesOf 1 = .ok (.iconst 0, 1) := by decide +kernel
theorem dX6_missesOf_2 : decode cX6_missesOf 2 = .ok (.putfield 46, 3) := by decide +kernel
theorem dX6_missesOf_5 : decode cX6_missesOf 5 = .ok (.aload_n 0, 1) := by decide +kernel
theorem dX6_missesOf_6 : decode cX6_missesOf 6 = .ok (.iload_n 1, 1) := by decide +kernel
theorem dX6_missesOf_7 : decode cX6_missesOf 7 = .ok (.invokevirtual 128, 3) := by decide +kernel
theorem dX6_missesOf_10 : decode cX6_missesOf 10 = .ok (.ifCond .eq 15, 3) := by decide +kernel
theorem dX6_missesOf_13 : decode cX6_missesOf 13 = .ok (.aload_n 0, 1) := by decide +kernel
theorem dX6_missesOf_14 : decode cX6_missesOf 14 = .ok (.getfield 39, 3) := by decide +kernel
theorem dX6_missesOf_17 : decode cX6_missesOf 17 = .ok (.getfield 65, 3) := by decide +kernel
theorem dX6_missesOf_20 : decode cX6_missesOf 20 = .ok (.iload_n 1, 1) := by decide +kernel
theorem dX6_missesOf_21 : decode cX6_missesOf 21 = .ok (.iaload, 1) := by decide +kernel
theorem dX6_missesOf_22 : decode cX6_missesOf 22 = .ok (.goto 8, 3) := by decide +kernel
theorem dX6_missesOf_25 : decode cX6_missesOf 25 = .ok (.aload_n 0, 1) := by decide +kernel
theorem dX6_missesOf_26 : decode cX6_missesOf 26 = .ok (.iconst 1, 1) := by decide +kernel
theorem dX6_missesOf_27 : decode cX6_missesOf 27 = .ok (.invokevirtual 110, 3) := by decide +kernel
theorem dX6_missesOf_30 : decode cX6_missesOf 30 = .ok (.ireturn, 1) := by decide +kernel
theorem dX6_isMisrouted_0 : decode cX6_isMisrouted 0 = .ok (.aload_n 0, 1) := by decide +kernel
theorem dX6_isMisrouted_1 : decode cX6_isMisrouted 1 = .ok (.iconst 0, 1) := by decide +kernel
theorem dX6_isMisrouted_2 : decode cX6_isMisrouted 2 = .ok (.putfield 46, 3) := by decide +kernel
theorem dX6_isMisrouted_5 : decode cX6_isMisrouted 5 = .ok (.aload_n 0, 1) := by decide +kernel
theorem dX6_isMisrouted_6 : decode cX6_isMisrouted 6 = .ok (.iload_n 1, 1) := by decide +kernel
theorem dX6_isMisrouted_7 : decode cX6_isMisrouted 7 = .ok (.invokevirtual 128, 3) := by decide +kernel
theorem dX6_isMisrouted_10 : decode cX6_isMisrouted 10 = .ok (.ifCond .eq 11, 3) := by decide +kernel
theorem dX6_isMisrouted_13 : decode cX6_isMisrouted 13 = .ok (.aload_n 0, 1) := by decide +kernel
theorem dX6_isMisrouted_14 : decode cX6_isMisrouted 14 = .ok (.iload_n 1, 1) := by decide +kernel
theorem dX6_isMisrouted_15 : decode cX6_isMisrouted 15 = .ok (.invokevirtual 137, 3) := by decide +kernel
theorem dX6_isMisrouted_18 : decode cX6_isMisrouted 18 = .ok (.goto 8, 3) := by decide +kernel
theorem dX6_isMisrouted_21 : decode cX6_isMisrouted 21 = .ok (.aload_n 0, 1) := by decide +kernel
theorem dX6_isMisrouted_22 : decode cX6_isMisrouted 22 = .ok (.iconst 1, 1) := by decide +kernel
theorem dX6_isMisrouted_23 : decode cX6_isMisrouted 23 = .ok (.invokevirtual 150, 3) := by decide +kernel
theorem dX6_isMisrouted_26 : decode cX6_isMisrouted 26 = .ok (.ireturn, 1) := by decide +kernel
theorem dX6_hasOpenFile_0 : decode cX6_hasOpenFile 0 = .ok (.aload_n 0, 1) := by decide +kernel
theorem dX6_hasOpenFile_1 : decode cX6_hasOpenFile 1 = .ok (.iconst 0, 1) := by decide +kernel
theorem dX6_hasOpenFile_2 : decode cX6_hasOpenFile 2 = .ok (.putfield 46, 3) := by decide +kernel
theorem dX6_hasOpenFile_5 : decode cX6_hasOpenFile 5 = .ok (.aload_n 0, 1) := by decide +kernel
theorem dX6_hasOpenFile_6 : decode cX6_hasOpenFile 6 = .ok (.iload_n 1, 1) := by decide +kernel
theorem dX6_hasOpenFile_7 : decode cX6_hasOpenFile 7 = .ok (.invokevirtual 128, 3) := by decide +kernel
theorem dX6_hasOpenFile_10 : decode cX6_hasOpenFile 10 = .ok (.ifCond .eq 21, 3) := by decide +kernel
theorem dX6_hasOpenFile_13 : decode cX6_hasOpenFile 13 = .ok (.aload_n 0, 1) := by decide +kernel
theorem dX6_hasOpenFile_14 : decode cX6_hasOpenFile 14 = .ok (.getfield 33, 3) := by decide +kernel
theorem dX6_hasOpenFile_17 : decode cX6_hasOpenFile 17 = .ok (.iload_n 1, 1) := by decide +kernel
theorem dX6_hasOpenFile_18 : decode cX6_hasOpenFile 18 = .ok (.iaload, 1) := by decide +kernel
theorem dX6_hasOpenFile_19 : decode cX6_hasOpenFile 19 = .ok (.iconst 1, 1) := by decide +kernel
theorem dX6_hasOpenFile_20 : decode cX6_hasOpenFile 20 = .ok (.if_icmp .ne 7, 3) := by decide +kernel
theorem dX6_hasOpenFile_23 : decode cX6_hasOpenFile 23 = .ok (.iconst 1, 1) := by decide +kernel
theorem dX6_hasOpenFile_24 : decode cX6_hasOpenFile 24 = .ok (.goto 12, 3) := by decide +kernel
theorem dX6_hasOpenFile_27 : decode cX6_hasOpenFile 27 = .ok (.iconst 0, 1) := by decide +kernel
theorem dX6_hasOpenFile_28 : decode cX6_hasOpenFile 28 = .ok (.goto 8, 3) := by decide +kernel
theorem dX6_hasOpenFile_31 : decode cX6_hasOpenFile 31 = .ok (.aload_n 0, 1) := by decide +kernel
theorem dX6_hasOpenFile_32 : decode cX6_hasOpenFile 32 = .ok (.iconst 1, 1) := by decide +kernel
theorem dX6_hasOpenFile_33 : decode cX6_hasOpenFile 33 = .ok (.invokevirtual 150, 3) := by decide +kernel
theorem dX6_hasOpenFile_36 : decode cX6_hasOpenFile 36 = .ok (.ireturn, 1) := by decide +kernel
theorem dX6_bagAt_0 : decode cX6_bagAt 0 = .ok (.aload_n 0, 1) := by decide +kernel
theorem dX6_bagAt_1 : decode cX6_bagAt 1 = .ok (.iconst 0, 1) := by decide +kernel
theorem dX6_bagAt_2 : decode cX6_bagAt 2 = .ok (.putfield 46, 3) := by decide +kernel
theorem dX6_bagAt_5 : decode cX6_bagAt 5 = .ok (.iload_n 1, 1) := by decide +kernel
theorem dX6_bagAt_6 : decode cX6_bagAt 6 = .ok (.iconst 0, 1) := by decide +kernel
theorem dX6_bagAt_7 : decode cX6_bagAt 7 = .ok (.bipush 11, 2) := by decide +kernel
theorem dX6_bagAt_9 : decode cX6_bagAt 9 = .ok (.invokestatic 52, 3) := by decide +kernel
theorem dX6_bagAt_12 : decode cX6_bagAt 12 = .ok (.ifCond .eq 15, 3) := by decide +kernel
theorem dX6_bagAt_15 : decode cX6_bagAt 15 = .ok (.aload_n 0, 1) := by decide +kernel
theorem dX6_bagAt_16 : decode cX6_bagAt 16 = .ok (.getfield 39, 3) := by decide +kernel
theorem dX6_bagAt_19 : decode cX6_bagAt 19 = .ok (.getfield 59, 3) := by decide +kernel
theorem dX6_bagAt_22 : decode cX6_bagAt 22 = .ok (.iload_n 1, 1) := by decide +kernel
theorem dX6_bagAt_23 : decode cX6_bagAt 23 = .ok (.iaload, 1) := by decide +kernel
theorem dX6_bagAt_24 : decode cX6_bagAt 24 = .ok (.goto 8, 3) := by decide +kernel
theorem dX6_bagAt_27 : decode cX6_bagAt 27 = .ok (.aload_n 0, 1) := by decide +kernel
theorem dX6_bagAt_28 : decode cX6_bagAt 28 = .ok (.iconst 1, 1) := by decide +kernel
theorem dX6_bagAt_29 : decode cX6_bagAt 29 = .ok (.invokevirtual 110, 3) := by decide +kernel
theorem dX6_bagAt_32 : decode cX6_bagAt 32 = .ok (.ireturn, 1) := by decide +kernel
theorem dX6_bagsIn_0 : decode cX6_bagsIn 0 = .ok (.aload_n 0, 1) := by decide +kernel
theorem dX6_bagsIn_1 : decode cX6_bagsIn 1 = .ok (.iconst 0, 1) := by decide +kernel
theorem dX6_bagsIn_2 : decode cX6_bagsIn 2 = .ok (.putfield 46, 3) := by decide +kernel
theorem dX6_bagsIn_5 : decode cX6_bagsIn 5 = .ok (.iload_n 1, 1) := by decide +kernel
theorem dX6_bagsIn_6 : decode cX6_bagsIn 6 = .ok (.invokestatic 118, 3) := by decide +kernel
theorem dX6_bagsIn_9 : decode cX6_bagsIn 9 = .ok (.ifCond .eq 15, 3) := by decide +kernel
theorem dX6_bagsIn_12 : decode cX6_bagsIn 12 = .ok (.aload_n 0, 1) := by decide +kernel
theorem dX6_bagsIn_13 : decode cX6_bagsIn 13 = .ok (.getfield 39, 3) := by decide +kernel
theorem dX6_bagsIn_16 : decode cX6_bagsIn 16 = .ok (.getfield 72, 3) := by decide +kernel
theorem dX6_bagsIn_19 : decode cX6_bagsIn 19 = .ok (.iload_n 1, 1) := by decide +kernel
theorem dX6_bagsIn_20 : decode cX6_bagsIn 20 = .ok (.iaload, 1) := by decide +kernel
theorem dX6_bagsIn_21 : decode cX6_bagsIn 21 = .ok (.goto 8, 3) := by decide +kernel
theorem dX6_bagsIn_24 : decode cX6_bagsIn 24 = .ok (.aload_n 0, 1) := by decide +kernel
theorem dX6_bagsIn_25 : decode cX6_bagsIn 25 = .ok (.iconst 1, 1) := by decide +kernel
theorem dX6_bagsIn_26 : decode cX6_bagsIn 26 = .ok (.invokevirtual 110, 3) := by decide +kernel
theorem dX6_bagsIn_29 : decode cX6_bagsIn 29 = .ok (.ireturn, 1) := by decide +kernel
theorem dX6_badIn_0 : decode cX6_badIn 0 = .ok (.iconst 0, 1) := by decide +kernel
theorem dX6_badIn_1 : decode cX6_badIn 1 = .ok (.istore_n 2, 1) := by decide +kernel
theorem dX6_badIn_2 : decode cX6_badIn 2 = .ok (.iconst 0, 1) := by decide +kernel
theorem dX6_badIn_3 : decode cX6_badIn 3 = .ok (.istore_n 3, 1) := by decide +kernel
theorem dX6_badIn_4 : decode cX6_badIn 4 = .ok (.iload_n 3, 1) := by decide +kernel
theorem dX6_badIn_5 : decode cX6_badIn 5 = .ok (.aload_n 0, 1) := by decide +kernel
theorem dX6_badIn_6 : decode cX6_badIn 6 = .ok (.getfield 49, 3) := by decide +kernel
theorem dX6_badIn_9 : decode cX6_badIn 9 = .ok (.if_icmp .ge 38, 3) := by decide +kernel
theorem dX6_badIn_12 : decode cX6_badIn 12 = .ok (.iload_n 2, 1) := by decide +kernel
theorem dX6_badIn_13 : decode cX6_badIn 13 = .ok (.aload_n 0, 1) := by decide +kernel
theorem dX6_badIn_14 : decode cX6_badIn 14 = .ok (.iload_n 3, 1) := by decide +kernel
theorem dX6_badIn_15 : decode cX6_badIn 15 = .ok (.invokevirtual 137, 3) := by decide +kernel
theorem dX6_badIn_18 : decode cX6_badIn 18 = .ok (.ifCond .eq 20, 3) := by decide +kernel
theorem dX6_badIn_21 : decode cX6_badIn 21 = .ok (.aload_n 0, 1) := by decide +kernel
theorem dX6_badIn_22 : decode cX6_badIn 22 = .ok (.getfield 39, 3) := by decide +kernel
theorem dX6_badIn_25 : decode cX6_badIn 25 = .ok (.getfield 107, 3) := by decide +kernel
theorem dX6_badIn_28 : decode cX6_badIn 28 = .ok (.iload_n 3, 1) := by decide +kernel
theorem dX6_badIn_29 : decode cX6_badIn 29 = .ok (.iaload, 1) := by decide +kernel
theorem dX6_badIn_30 : decode cX6_badIn 30 = .ok (.iload_n 1, 1) := by decide +kernel
theorem dX6_badIn_31 : decode cX6_badIn 31 = .ok (.if_icmp .ne 7, 3) := by decide +kernel
theorem dX6_badIn_34 : decode cX6_badIn 34 = .ok (.iconst 1, 1) := by decide +kernel
theorem dX6_badIn_35 : decode cX6_badIn 35 = .ok (.goto 4, 3) := by decide +kernel
theorem dX6_badIn_38 : decode cX6_badIn 38 = .ok (.iconst 0, 1) := by decide +kernel
theorem dX6_badIn_39 : decode cX6_badIn 39 = .ok (.iadd, 1) := by decide +kernel
theorem dX6_badIn_40 : decode cX6_badIn 40 = .ok (.istore_n 2, 1) := by decide +kernel
theorem dX6_badIn_41 : decode cX6_badIn 41 = .ok (.iinc 3 1, 3) := by decide +kernel
theorem dX6_badIn_44 : decode cX6_badIn 44 = .ok (.goto (-40), 3) := by decide +kernel
theorem dX6_badIn_47 : decode cX6_badIn 47 = .ok (.iload_n 2, 1) := by decide +kernel
theorem dX6_badIn_48 : decode cX6_badIn 48 = .ok (.ireturn, 1) := by decide +kernel
theorem dX6_misroutedIn_0 : decode cX6_misroutedIn 0 = .ok (.aload_n 0, 1) := by decide +kernel
theorem dX6_misroutedIn_1 : decode cX6_misroutedIn 1 = .ok (.iconst 0, 1) := by decide +kernel
theorem dX6_misroutedIn_2 : decode cX6_misroutedIn 2 = .ok (.putfield 46, 3) := by decide +kernel
theorem dX6_misroutedIn_5 : decode cX6_misroutedIn 5 = .ok (.iload_n 1, 1) := by decide +kernel
theorem dX6_misroutedIn_6 : decode cX6_misroutedIn 6 = .ok (.invokestatic 118, 3) := by decide +kernel
theorem dX6_misroutedIn_9 : decode cX6_misroutedIn 9 = .ok (.ifCond .eq 11, 3) := by decide +kernel
theorem dX6_misroutedIn_12 : decode cX6_misroutedIn 12 = .ok (.aload_n 0, 1) := by decide +kernel
theorem dX6_misroutedIn_13 : decode cX6_misroutedIn 13 = .ok (.iload_n 1, 1) := by decide +kernel
theorem dX6_misroutedIn_14 : decode cX6_misroutedIn 14 = .ok (.invokevirtual 153, 3) := by decide +kernel
theorem dX6_misroutedIn_17 : decode cX6_misroutedIn 17 = .ok (.goto 8, 3) := by decide +kernel
theorem dX6_misroutedIn_20 : decode cX6_misroutedIn 20 = .ok (.aload_n 0, 1) := by decide +kernel
theorem dX6_misroutedIn_21 : decode cX6_misroutedIn 21 = .ok (.iconst 1, 1) := by decide +kernel
theorem dX6_misroutedIn_22 : decode cX6_misroutedIn 22 = .ok (.invokevirtual 110, 3) := by decide +kernel
theorem dX6_misroutedIn_25 : decode cX6_misroutedIn 25 = .ok (.ireturn, 1) := by decide +kernel
theorem dX6_roomOf_0 : decode cX6_roomOf 0 = .ok (.aload_n 0, 1) := by decide +kernel
theorem dX6_roomOf_1 : decode cX6_roomOf 1 = .ok (.iconst 0, 1) := by decide +kernel
theorem dX6_roomOf_2 : decode cX6_roomOf 2 = .ok (.putfield 46, 3) := by decide +kernel
theorem dX6_roomOf_5 : decode cX6_roomOf 5 = .ok (.iload_n 1, 1) := by decide +kernel
theorem dX6_roomOf_6 : decode cX6_roomOf 6 = .ok (.invokestatic 118, 3) := by decide +kernel
theorem dX6_roomOf_9 : decode cX6_roomOf 9 = .ok (.ifCond .eq 12, 3) := by decide +kernel
theorem dX6_roomOf_12 : decode cX6_roomOf 12 = .ok (.aload_n 0, 1) := by decide +kernel
theorem dX6_roomOf_13 : decode cX6_roomOf 13 = .ok (.getfield 17, 3) := by decide +kernel
theorem dX6_roomOf_16 : decode cX6_roomOf 16 = .ok (.iload_n 1, 1) := by decide +kernel
theorem dX6_roomOf_17 : decode cX6_roomOf 17 = .ok (.iaload, 1) := by decide +kernel
theorem dX6_roomOf_18 : decode cX6_roomOf 18 = .ok (.goto 8, 3) := by decide +kernel
theorem dX6_roomOf_21 : decode cX6_roomOf 21 = .ok (.aload_n 0, 1) := by decide +kernel
theorem dX6_roomOf_22 : decode cX6_roomOf 22 = .ok (.iconst 1, 1) := by decide +kernel
theorem dX6_roomOf_23 : decode cX6_roomOf 23 = .ok (.invokevirtual 110, 3) := by decide +kernel
theorem dX6_roomOf_26 : decode cX6_roomOf 26 = .ok (.ireturn, 1) := by decide +kernel
theorem dX6_chuteOfFlight_0 : decode cX6_chuteOfFlight 0 = .ok (.aload_n 0, 1) := by decide +kernel
theorem dX6_chuteOfFlight_1 : decode cX6_chuteOfFlight 1 = .ok (.iconst 0, 1) := by decide +kernel
theorem dX6_chuteOfFlight_2 : decode cX6_chuteOfFlight 2 = .ok (.putfield 46, 3) := by decide +kernel
theorem dX6_chuteOfFlight_5 : decode cX6_chuteOfFlight 5 = .ok (.aload_n 0, 1) := by decide +kernel
theorem dX6_chuteOfFlight_6 : decode cX6_chuteOfFlight 6 = .ok (.iload_n 1, 1) := by decide +kernel
theorem dX6_chuteOfFlight_7 : decode cX6_chuteOfFlight 7 = .ok (.invokevirtual 114, 3) := by decide +kernel
theorem dX6_chuteOfFlight_10 : decode cX6_chuteOfFlight 10 = .ok (.ifCond .eq 12, 3) := by decide +kernel
theorem dX6_chuteOfFlight_13 : decode cX6_chuteOfFlight 13 = .ok (.aload_n 0, 1) := by decide +kernel
theorem dX6_chuteOfFlight_14 : decode cX6_chuteOfFlight 14 = .ok (.getfield 9, 3) := by decide +kernel
theorem dX6_chuteOfFlight_17 : decode cX6_chuteOfFlight 17 = .ok (.iload_n 1, 1) := by decide +kernel
theorem dX6_chuteOfFlight_18 : decode cX6_chuteOfFlight 18 = .ok (.iaload, 1) := by decide +kernel
theorem dX6_chuteOfFlight_19 : decode cX6_chuteOfFlight 19 = .ok (.goto 8, 3) := by decide +kernel
theorem dX6_chuteOfFlight_22 : decode cX6_chuteOfFlight 22 = .ok (.aload_n 0, 1) := by decide +kernel
theorem dX6_chuteOfFlight_23 : decode cX6_chuteOfFlight 23 = .ok (.iconst 1, 1) := by decide +kernel
theorem dX6_chuteOfFlight_24 : decode cX6_chuteOfFlight 24 = .ok (.invokevirtual 110, 3) := by decide +kernel
theorem dX6_chuteOfFlight_27 : decode cX6_chuteOfFlight 27 = .ok (.ireturn, 1) := by decide +kernel
theorem dX6_isGone_0 : decode cX6_isGone 0 = .ok (.aload_n 0, 1) := by decide +kernel
theorem dX6_isGone_1 : decode cX6_isGone 1 = .ok (.iconst 0, 1) := by decide +kernel
theorem dX6_isGone_2 : decode cX6_isGone 2 = .ok (.putfield 46, 3) := by decide +kernel
theorem dX6_isGone_5 : decode cX6_isGone 5 = .ok (.aload_n 0, 1) := by decide +kernel
theorem dX6_isGone_6 : decode cX6_isGone 6 = .ok (.iload_n 1, 1) := by decide +kernel
theorem dX6_isGone_7 : decode cX6_isGone 7 = .ok (.invokevirtual 114, 3) := by decide +kernel
theorem dX6_isGone_10 : decode cX6_isGone 10 = .ok (.ifCond .eq 12, 3) := by decide +kernel
theorem dX6_isGone_13 : decode cX6_isGone 13 = .ok (.aload_n 0, 1) := by decide +kernel
theorem dX6_isGone_14 : decode cX6_isGone 14 = .ok (.getfield 13, 3) := by decide +kernel
theorem dX6_isGone_17 : decode cX6_isGone 17 = .ok (.iload_n 1, 1) := by decide +kernel
theorem dX6_isGone_18 : decode cX6_isGone 18 = .ok (.baload, 1) := by decide +kernel
theorem dX6_isGone_19 : decode cX6_isGone 19 = .ok (.goto 8, 3) := by decide +kernel
theorem dX6_isGone_22 : decode cX6_isGone 22 = .ok (.aload_n 0, 1) := by decide +kernel
theorem dX6_isGone_23 : decode cX6_isGone 23 = .ok (.iconst 1, 1) := by decide +kernel
theorem dX6_isGone_24 : decode cX6_isGone 24 = .ok (.invokevirtual 150, 3) := by decide +kernel
theorem dX6_isGone_27 : decode cX6_isGone 27 = .ok (.ireturn, 1) := by decide +kernel
theorem dX6_readyIn_0 : decode cX6_readyIn 0 = .ok (.iconst 0, 1) := by decide +kernel
theorem dX6_readyIn_1 : decode cX6_readyIn 1 = .ok (.istore_n 3, 1) := by decide +kernel
theorem dX6_readyIn_2 : decode cX6_readyIn 2 = .ok (.iconst 0, 1) := by decide +kernel
theorem dX6_readyIn_3 : decode cX6_readyIn 3 = .ok (.istore 4, 2) := by decide +kernel
theorem dX6_readyIn_5 : decode cX6_readyIn 5 = .ok (.iload 4, 2) := by decide +kernel
theorem dX6_readyIn_7 : decode cX6_readyIn 7 = .ok (.aload_n 0, 1) := by decide +kernel
theorem dX6_readyIn_8 : decode cX6_readyIn 8 = .ok (.getfield 49, 3) := by decide +kernel
theorem dX6_readyIn_11 : decode cX6_readyIn 11 = .ok (.if_icmp .ge 78, 3) := by decide +kernel
theorem dX6_readyIn_14 : decode cX6_readyIn 14 = .ok (.aload_n 0, 1) := by decide +kernel
theorem dX6_readyIn_15 : decode cX6_readyIn 15 = .ok (.getfield 24, 3) := by decide +kernel
theorem dX6_readyIn_18 : decode cX6_readyIn 18 = .ok (.iload 4, 2) := by decide +kernel
theorem dX6_readyIn_20 : decode cX6_readyIn 20 = .ok (.iaload, 1) := by decide +kernel
theorem dX6_readyIn_21 : decode cX6_readyIn 21 = .ok (.iload_n 2, 1) := by decide +kernel
theorem dX6_readyIn_22 : decode cX6_readyIn 22 = .ok (.if_icmp .eq 6, 3) := by decide +kernel
theorem dX6_readyIn_25 : decode cX6_readyIn 25 = .ok (.goto 58, 3) := by decide +kernel
theorem dX6_readyIn_28 : decode cX6_readyIn 28 = .ok (.iload_n 3, 1) := by decide +kernel
theorem dX6_readyIn_29 : decode cX6_readyIn 29 = .ok (.aload_n 1, 1) := by decide +kernel
theorem dX6_readyIn_30 : decode cX6_readyIn 30 = .ok (.getfield 104, 3) := by decide +kernel
theorem dX6_readyIn_33 : decode cX6_readyIn 33 = .ok (.iload 4, 2) := by decide +kernel
theorem dX6_readyIn_35 : decode cX6_readyIn 35 = .ok (.iaload, 1) := by decide +kernel
theorem dX6_readyIn_36 : decode cX6_readyIn 36 = .ok (.iconst 5, 1) := by decide +kernel
theorem dX6_readyIn_37 : decode cX6_readyIn 37 = .ok (.if_icmp .eq 39, 3) := by decide +kernel
theorem dX6_readyIn_40 : decode cX6_readyIn 40 = .ok (.aload_n 0, 1) := by decide +kernel
theorem dX6_readyIn_41 : decode cX6_readyIn 41 = .ok (.getfield 13, 3) := by decide +kernel
theorem dX6_readyIn_44 : decode cX6_readyIn 44 = .ok (.iload_n 2, 1) := by decide +kernel
theorem dX6_readyIn_45 : decode cX6_readyIn 45 = .ok (.baload, 1) := by decide +kernel
theorem dX6_readyIn_46 : decode cX6_readyIn 46 = .ok (.ifCond .ne 34, 3) := by decide +kernel
theorem dX6_readyIn_49 : decode cX6_readyIn 49 = .ok (.aload_n 1, 1) := by decide +kernel
theorem dX6_readyIn_50 : decode cX6_readyIn 50 = .ok (.getfield 104, 3) := by decide +kernel
theorem dX6_readyIn_53 : decode cX6_readyIn 53 = .ok (.iload 4, 2) := by decide +kernel
theorem dX6_readyIn_55 : decode cX6_readyIn 55 = .ok (.iaload, 1) := by decide +kernel
theorem dX6_readyIn_56 : decode cX6_readyIn 56 = .ok (.iconst 2, 1) := by decide +kernel
theorem dX6_readyIn_57 : decode cX6_readyIn 57 = .ok (.if_icmp .ne 23, 3) := by decide +kernel
theorem dX6_readyIn_60 : decode cX6_readyIn 60 = .ok (.aload_n 1, 1) := by decide +kernel
theorem dX6_readyIn_61 : decode cX6_readyIn 61 = .ok (.getfield 107, 3) := by decide +kernel
theorem dX6_readyIn_64 : decode cX6_readyIn 64 = .ok (.iload 4, 2) := by decide +kernel
theorem dX6_readyIn_66 : decode cX6_readyIn 66 = .ok (.iaload, 1) := by decide +kernel
theorem dX6_readyIn_67 : decode cX6_readyIn 67 = .ok (.aload_n 0, 1) := by decide +kernel
theorem dX6_readyIn_68 : decode cX6_readyIn 68 = .ok (.getfield 9, 3) := by decide +kernel
theorem dX6_readyIn_71 : decode cX6_readyIn 71 = .ok (.iload_n 2, 1) := by decide +kernel
theorem dX6_readyIn_72 : decode cX6_readyIn 72 = .ok (.iaload, 1) := by decide +kernel
theorem dX6_readyIn_73 : decode cX6_readyIn 73 = .ok (.if_icmp .ne 7, 3) := by decide +kernel
theorem dX6_readyIn_76 : decode cX6_readyIn 76 = .ok (.iconst 1, 1) := by decide +kernel
theorem dX6_readyIn_77 : decode cX6_readyIn 77 = .ok (.goto 4, 3) := by decide +kernel
theorem dX6_readyIn_80 : decode cX6_readyIn 80 = .ok (.iconst 0, 1) := by decide +kernel
theorem dX6_readyIn_81 : decode cX6_readyIn 81 = .ok (.iadd, 1) := by decide +kernel
theorem dX6_readyIn_82 : decode cX6_readyIn 82 = .ok (.istore_n 3, 1) := by decide +kernel
theorem dX6_readyIn_83 : decode cX6_readyIn 83 = .ok (.iinc 4 1, 3) := by decide +kernel
theorem dX6_readyIn_86 : decode cX6_readyIn 86 = .ok (.goto (-81), 3) := by decide +kernel
theorem dX6_readyIn_89 : decode cX6_readyIn 89 = .ok (.iload_n 3, 1) := by decide +kernel
theorem dX6_readyIn_90 : decode cX6_readyIn 90 = .ok (.ireturn, 1) := by decide +kernel
theorem dX6_missing_0 : decode cX6_missing 0 = .ok (.iconst 0, 1) := by decide +kernel
theorem dX6_missing_1 : decode cX6_missing 1 = .ok (.istore_n 2, 1) := by decide +kernel
theorem dX6_missing_2 : decode cX6_missing 2 = .ok (.iconst 0, 1) := by decide +kernel
theorem dX6_missing_3 : decode cX6_missing 3 = .ok (.istore_n 3, 1) := by decide +kernel
theorem dX6_missing_4 : decode cX6_missing 4 = .ok (.iload_n 3, 1) := by decide +kernel
theorem dX6_missing_5 : decode cX6_missing 5 = .ok (.aload_n 0, 1) := by decide +kernel
theorem dX6_missing_6 : decode cX6_missing 6 = .ok (.getfield 49, 3) := by decide +kernel
theorem dX6_missing_9 : decode cX6_missing 9 = .ok (.if_icmp .ge 27, 3) := by decide +kernel
theorem dX6_missing_12 : decode cX6_missing 12 = .ok (.iload_n 2, 1) := by decide +kernel
theorem dX6_missing_13 : decode cX6_missing 13 = .ok (.aload_n 0, 1) := by decide +kernel
theorem dX6_missing_14 : decode cX6_missing 14 = .ok (.getfield 24, 3) := by decide +kernel
theorem dX6_missing_17 : decode cX6_missing 17 = .ok (.iload_n 3, 1) := by decide +kernel
theorem dX6_missing_18 : decode cX6_missing 18 = .ok (.iaload, 1) := by decide +kernel
theorem dX6_missing_19 : decode cX6_missing 19 = .ok (.iload_n 1, 1) := by decide +kernel
theorem dX6_missing_20 : decode cX6_missing 20 = .ok (.if_icmp .ne 7, 3) := by decide +kernel
theorem dX6_missing_23 : decode cX6_missing 23 = .ok (.iconst 1, 1) := by decide +kernel
theorem dX6_missing_24 : decode cX6_missing 24 = .ok (.goto 4, 3) := by decide +kernel
theorem dX6_missing_27 : decode cX6_missing 27 = .ok (.iconst 0, 1) := by decide +kernel
theorem dX6_missing_28 : decode cX6_missing 28 = .ok (.iadd, 1) := by decide +kernel
theorem dX6_missing_29 : decode cX6_missing 29 = .ok (.istore_n 2, 1) := by decide +kernel
theorem dX6_missing_30 : decode cX6_missing 30 = .ok (.iinc 3 1, 3) := by decide +kernel
theorem dX6_missing_33 : decode cX6_missing 33 = .ok (.goto (-29), 3) := by decide +kernel
theorem dX6_missing_36 : decode cX6_missing 36 = .ok (.iload_n 2, 1) := by decide +kernel
theorem dX6_missing_37 : decode cX6_missing 37 = .ok (.aload_n 0, 1) := by decide +kernel
theorem dX6_missing_38 : decode cX6_missing 38 = .ok (.aload_n 0, 1) := by decide +kernel
theorem dX6_missing_39 : decode cX6_missing 39 = .ok (.getfield 39, 3) := by decide +kernel
theorem dX6_missing_42 : decode cX6_missing 42 = .ok (.iload_n 1, 1) := by decide +kernel
theorem dX6_missing_43 : decode cX6_missing 43 = .ok (.invokevirtual 156, 3) := by decide +kernel
theorem dX6_missing_46 : decode cX6_missing 46 = .ok (.isub, 1) := by decide +kernel
theorem dX6_missing_47 : decode cX6_missing 47 = .ok (.ireturn, 1) := by decide +kernel
theorem dX6_readyOf_0 : decode cX6_readyOf 0 = .ok (.aload_n 0, 1) := by decide +kernel
theorem dX6_readyOf_1 : decode cX6_readyOf 1 = .ok (.iconst 0, 1) := by decide +kernel
theorem dX6_readyOf_2 : decode cX6_readyOf 2 = .ok (.putfield 46, 3) := by decide +kernel
theorem dX6_readyOf_5 : decode cX6_readyOf 5 = .ok (.aload_n 0, 1) := by decide +kernel
theorem dX6_readyOf_6 : decode cX6_readyOf 6 = .ok (.iload_n 1, 1) := by decide +kernel
theorem dX6_readyOf_7 : decode cX6_readyOf 7 = .ok (.invokevirtual 114, 3) := by decide +kernel
theorem dX6_readyOf_10 : decode cX6_readyOf 10 = .ok (.ifCond .eq 15, 3) := by decide +kernel
theorem dX6_readyOf_13 : decode cX6_readyOf 13 = .ok (.aload_n 0, 1) := by decide +kernel
theorem dX6_readyOf_14 : decode cX6_readyOf 14 = .ok (.aload_n 0, 1) := by decide +kernel
theorem dX6_readyOf_15 : decode cX6_readyOf 15 = .ok (.getfield 39, 3) := by decide +kernel
theorem dX6_readyOf_18 : decode cX6_readyOf 18 = .ok (.iload_n 1, 1) := by decide +kernel
theorem dX6_readyOf_19 : decode cX6_readyOf 19 = .ok (.invokevirtual 156, 3) := by decide +kernel
theorem dX6_readyOf_22 : decode cX6_readyOf 22 = .ok (.goto 8, 3) := by decide +kernel
theorem dX6_readyOf_25 : decode cX6_readyOf 25 = .ok (.aload_n 0, 1) := by decide +kernel
theorem dX6_readyOf_26 : decode cX6_readyOf 26 = .ok (.iconst 1, 1) := by decide +kernel
theorem dX6_readyOf_27 : decode cX6_readyOf 27 = .ok (.invokevirtual 110, 3) := by decide +kernel
theorem dX6_readyOf_30 : decode cX6_readyOf 30 = .ok (.ireturn, 1) := by decide +kernel
theorem dX6_missingOf_0 : decode cX6_missingOf 0 = .ok (.aload_n 0, 1) := by decide +kernel
theorem dX6_missingOf_1 : decode cX6_missingOf 1 = .ok (.iconst 0, 1) := by decide +kernel
theorem dX6_missingOf_2 : decode cX6_missingOf 2 = .ok (.putfield 46, 3) := by decide +kernel
theorem dX6_missingOf_5 : decode cX6_missingOf 5 = .ok (.aload_n 0, 1) := by decide +kernel
theorem dX6_missingOf_6 : decode cX6_missingOf 6 = .ok (.iload_n 1, 1) := by decide +kernel
theorem dX6_missingOf_7 : decode cX6_missingOf 7 = .ok (.invokevirtual 114, 3) := by decide +kernel
theorem dX6_missingOf_10 : decode cX6_missingOf 10 = .ok (.ifCond .eq 11, 3) := by decide +kernel
theorem dX6_missingOf_13 : decode cX6_missingOf 13 = .ok (.aload_n 0, 1) := by decide +kernel
theorem dX6_missingOf_14 : decode cX6_missingOf 14 = .ok (.iload_n 1, 1) := by decide +kernel
theorem dX6_missingOf_15 : decode cX6_missingOf 15 = .ok (.invokevirtual 159, 3) := by decide +kernel
theorem dX6_missingOf_18 : decode cX6_missingOf 18 = .ok (.goto 8, 3) := by decide +kernel
theorem dX6_missingOf_21 : decode cX6_missingOf 21 = .ok (.aload_n 0, 1) := by decide +kernel
theorem dX6_missingOf_22 : decode cX6_missingOf 22 = .ok (.iconst 1, 1) := by decide +kernel
theorem dX6_missingOf_23 : decode cX6_missingOf 23 = .ok (.invokevirtual 110, 3) := by decide +kernel
theorem dX6_missingOf_26 : decode cX6_missingOf 26 = .ok (.ireturn, 1) := by decide +kernel
theorem dX6_counted_0 : decode cX6_counted 0 = .ok (.iconst 0, 1) := by decide +kernel
theorem dX6_counted_1 : decode cX6_counted 1 = .ok (.istore_n 2, 1) := by decide +kernel
theorem dX6_counted_2 : decode cX6_counted 2 = .ok (.iconst 0, 1) := by decide +kernel
theorem dX6_counted_3 : decode cX6_counted 3 = .ok (.istore_n 3, 1) := by decide +kernel
theorem dX6_counted_4 : decode cX6_counted 4 = .ok (.iload_n 3, 1) := by decide +kernel
theorem dX6_counted_5 : decode cX6_counted 5 = .ok (.aload_n 0, 1) := by decide +kernel
theorem dX6_counted_6 : decode cX6_counted 6 = .ok (.getfield 49, 3) := by decide +kernel
theorem dX6_counted_9 : decode cX6_counted 9 = .ok (.if_icmp .ge 30, 3) := by decide +kernel
theorem dX6_counted_12 : decode cX6_counted 12 = .ok (.iload_n 2, 1) := by decide +kernel
theorem dX6_counted_13 : decode cX6_counted 13 = .ok (.aload_n 0, 1) := by decide +kernel
theorem dX6_counted_14 : decode cX6_counted 14 = .ok (.getfield 39, 3) := by decide +kernel
theorem dX6_counted_17 : decode cX6_counted 17 = .ok (.getfield 104, 3) := by decide +kernel
theorem dX6_counted_20 : decode cX6_counted 20 = .ok (.iload_n 3, 1) := by decide +kernel
theorem dX6_counted_21 : decode cX6_counted 21 = .ok (.iaload, 1) := by decide +kernel
theorem dX6_counted_22 : decode cX6_counted 22 = .ok (.iload_n 1, 1) := by decide +kernel
theorem dX6_counted_23 : decode cX6_counted 23 = .ok (.if_icmp .ne 7, 3) := by decide +kernel
theorem dX6_counted_26 : decode cX6_counted 26 = .ok (.iconst 1, 1) := by decide +kernel
theorem dX6_counted_27 : decode cX6_counted 27 = .ok (.goto 4, 3) := by decide +kernel
theorem dX6_counted_30 : decode cX6_counted 30 = .ok (.iconst 0, 1) := by decide +kernel
theorem dX6_counted_31 : decode cX6_counted 31 = .ok (.iadd, 1) := by decide +kernel
theorem dX6_counted_32 : decode cX6_counted 32 = .ok (.istore_n 2, 1) := by decide +kernel
theorem dX6_counted_33 : decode cX6_counted 33 = .ok (.iinc 3 1, 3) := by decide +kernel
theorem dX6_counted_36 : decode cX6_counted 36 = .ok (.goto (-32), 3) := by decide +kernel
theorem dX6_counted_39 : decode cX6_counted 39 = .ok (.iload_n 2, 1) := by decide +kernel
theorem dX6_counted_40 : decode cX6_counted 40 = .ok (.ireturn, 1) := by decide +kernel
theorem dX6_files_0 : decode cX6_files 0 = .ok (.iconst 0, 1) := by decide +kernel
theorem dX6_files_1 : decode cX6_files 1 = .ok (.istore_n 2, 1) := by decide +kernel
theorem dX6_files_2 : decode cX6_files 2 = .ok (.iconst 0, 1) := by decide +kernel
theorem dX6_files_3 : decode cX6_files 3 = .ok (.istore_n 3, 1) := by decide +kernel
theorem dX6_files_4 : decode cX6_files 4 = .ok (.iload_n 3, 1) := by decide +kernel
theorem dX6_files_5 : decode cX6_files 5 = .ok (.aload_n 0, 1) := by decide +kernel
theorem dX6_files_6 : decode cX6_files 6 = .ok (.getfield 49, 3) := by decide +kernel
theorem dX6_files_9 : decode cX6_files 9 = .ok (.if_icmp .ge 27, 3) := by decide +kernel
theorem dX6_files_12 : decode cX6_files 12 = .ok (.iload_n 2, 1) := by decide +kernel
theorem dX6_files_13 : decode cX6_files 13 = .ok (.aload_n 0, 1) := by decide +kernel
theorem dX6_files_14 : decode cX6_files 14 = .ok (.getfield 33, 3) := by decide +kernel
theorem dX6_files_17 : decode cX6_files 17 = .ok (.iload_n 3, 1) := by decide +kernel
theorem dX6_files_18 : decode cX6_files 18 = .ok (.iaload, 1) := by decide +kernel
theorem dX6_files_19 : decode cX6_files 19 = .ok (.iload_n 1, 1) := by decide +kernel
theorem dX6_files_20 : decode cX6_files 20 = .ok (.if_icmp .ne 7, 3) := by decide +kernel
theorem dX6_files_23 : decode cX6_files 23 = .ok (.iconst 1, 1) := by decide +kernel
theorem dX6_files_24 : decode cX6_files 24 = .ok (.goto 4, 3) := by decide +kernel
theorem dX6_files_27 : decode cX6_files 27 = .ok (.iconst 0, 1) := by decide +kernel
theorem dX6_files_28 : decode cX6_files 28 = .ok (.iadd, 1) := by decide +kernel
theorem dX6_files_29 : decode cX6_files 29 = .ok (.istore_n 2, 1) := by decide +kernel
theorem dX6_files_30 : decode cX6_files 30 = .ok (.iinc 3 1, 3) := by decide +kernel
theorem dX6_files_33 : decode cX6_files 33 = .ok (.goto (-29), 3) := by decide +kernel
theorem dX6_files_36 : decode cX6_files 36 = .ok (.iload_n 2, 1) := by decide +kernel
theorem dX6_files_37 : decode cX6_files 37 = .ok (.ireturn, 1) := by decide +kernel
theorem dX6_ok_0 : decode cX6_ok 0 = .ok (.aload_n 0, 1) := by decide +kernel
theorem dX6_ok_1 : decode cX6_ok 1 = .ok (.iconst 0, 1) := by decide +kernel
theorem dX6_ok_2 : decode cX6_ok 2 = .ok (.putfield 46, 3) := by decide +kernel
theorem dX6_ok_5 : decode cX6_ok 5 = .ok (.iload_n 1, 1) := by decide +kernel
theorem dX6_ok_6 : decode cX6_ok 6 = .ok (.ireturn, 1) := by decide +kernel
theorem dX6_minute_0 : decode cX6_minute 0 = .ok (.aload_n 0, 1) := by decide +kernel
theorem dX6_minute_1 : decode cX6_minute 1 = .ok (.aload_n 0, 1) := by decide +kernel
theorem dX6_minute_2 : decode cX6_minute 2 = .ok (.getfield 39, 3) := by decide +kernel
theorem dX6_minute_5 : decode cX6_minute 5 = .ok (.getfield 97, 3) := by decide +kernel
theorem dX6_minute_8 : decode cX6_minute 8 = .ok (.invokevirtual 162, 3) := by decide +kernel
theorem dX6_minute_11 : decode cX6_minute 11 = .ok (.ireturn, 1) := by decide +kernel
theorem dX6_flights_0 : decode cX6_flights 0 = .ok (.aload_n 0, 1) := by decide +kernel
theorem dX6_flights_1 : decode cX6_flights 1 = .ok (.aload_n 0, 1) := by decide +kernel
theorem dX6_flights_2 : decode cX6_flights 2 = .ok (.getfield 56, 3) := by decide +kernel
theorem dX6_flights_5 : decode cX6_flights 5 = .ok (.invokevirtual 162, 3) := by decide +kernel
theorem dX6_flights_8 : decode cX6_flights 8 = .ok (.ireturn, 1) := by decide +kernel
theorem dX6_bags_0 : decode cX6_bags 0 = .ok (.aload_n 0, 1) := by decide +kernel
theorem dX6_bags_1 : decode cX6_bags 1 = .ok (.aload_n 0, 1) := by decide +kernel
theorem dX6_bags_2 : decode cX6_bags 2 = .ok (.getfield 49, 3) := by decide +kernel
theorem dX6_bags_5 : decode cX6_bags 5 = .ok (.invokevirtual 162, 3) := by decide +kernel
theorem dX6_bags_8 : decode cX6_bags 8 = .ok (.ireturn, 1) := by decide +kernel
theorem dX6_inLine_0 : decode cX6_inLine 0 = .ok (.aload_n 0, 1) := by decide +kernel
theorem dX6_inLine_1 : decode cX6_inLine 1 = .ok (.aload_n 0, 1) := by decide +kernel
theorem dX6_inLine_2 : decode cX6_inLine 2 = .ok (.getfield 39, 3) := by decide +kernel
theorem dX6_inLine_5 : decode cX6_inLine 5 = .ok (.getfield 90, 3) := by decide +kernel
theorem dX6_inLine_8 : decode cX6_inLine 8 = .ok (.invokevirtual 162, 3) := by decide +kernel
theorem dX6_inLine_11 : decode cX6_inLine 11 = .ok (.ireturn, 1) := by decide +kernel
theorem dX6_onBelt_0 : decode cX6_onBelt 0 = .ok (.aload_n 0, 1) := by decide +kernel
theorem dX6_onBelt_1 : decode cX6_onBelt 1 = .ok (.aload_n 0, 1) := by decide +kernel
theorem dX6_onBelt_2 : decode cX6_onBelt 2 = .ok (.iconst 1, 1) := by decide +kernel
theorem dX6_onBelt_3 : decode cX6_onBelt 3 = .ok (.invokevirtual 165, 3) := by decide +kernel
theorem dX6_onBelt_6 : decode cX6_onBelt 6 = .ok (.invokevirtual 162, 3) := by decide +kernel
theorem dX6_onBelt_9 : decode cX6_onBelt 9 = .ok (.ireturn, 1) := by decide +kernel
theorem dX6_atDesk_0 : decode cX6_atDesk 0 = .ok (.aload_n 0, 1) := by decide +kernel
theorem dX6_atDesk_1 : decode cX6_atDesk 1 = .ok (.aload_n 0, 1) := by decide +kernel
theorem dX6_atDesk_2 : decode cX6_atDesk 2 = .ok (.iconst 3, 1) := by decide +kernel
theorem dX6_atDesk_3 : decode cX6_atDesk 3 = .ok (.invokevirtual 165, 3) := by decide +kernel
theorem dX6_atDesk_6 : decode cX6_atDesk 6 = .ok (.invokevirtual 162, 3) := by decide +kernel
theorem dX6_atDesk_9 : decode cX6_atDesk 9 = .ok (.ireturn, 1) := by decide +kernel
theorem dX6_openFiles_0 : decode cX6_openFiles 0 = .ok (.aload_n 0, 1) := by decide +kernel
theorem dX6_openFiles_1 : decode cX6_openFiles 1 = .ok (.aload_n 0, 1) := by decide +kernel
theorem dX6_openFiles_2 : decode cX6_openFiles 2 = .ok (.iconst 1, 1) := by decide +kernel
theorem dX6_openFiles_3 : decode cX6_openFiles 3 = .ok (.invokevirtual 168, 3) := by decide +kernel
theorem dX6_openFiles_6 : decode cX6_openFiles 6 = .ok (.invokevirtual 162, 3) := by decide +kernel
theorem dX6_openFiles_9 : decode cX6_openFiles 9 = .ok (.ireturn, 1) := by decide +kernel
theorem dX6_closedFiles_0 : decode cX6_closedFiles 0 = .ok (.aload_n 0, 1) := by decide +kernel
theorem dX6_closedFiles_1 : decode cX6_closedFiles 1 = .ok (.aload_n 0, 1) := by decide +kernel
theorem dX6_closedFiles_2 : decode cX6_closedFiles 2 = .ok (.iconst 2, 1) := by decide +kernel
theorem dX6_closedFiles_3 : decode cX6_closedFiles 3 = .ok (.invokevirtual 168, 3) := by decide +kernel
theorem dX6_closedFiles_6 : decode cX6_closedFiles 6 = .ok (.invokevirtual 162, 3) := by decide +kernel
theorem dX6_closedFiles_9 : decode cX6_closedFiles 9 = .ok (.ireturn, 1) := by decide +kernel
theorem dX6_reader_0 : decode cX6_reader 0 = .ok (.aload_n 0, 1) := by decide +kernel
theorem dX6_reader_1 : decode cX6_reader 1 = .ok (.aload_n 0, 1) := by decide +kernel
theorem dX6_reader_2 : decode cX6_reader 2 = .ok (.getfield 20, 3) := by decide +kernel
theorem dX6_reader_5 : decode cX6_reader 5 = .ok (.invokevirtual 162, 3) := by decide +kernel
theorem dX6_reader_8 : decode cX6_reader 8 = .ok (.ireturn, 1) := by decide +kernel
theorem dX6_untilChute_0 : decode cX6_untilChute 0 = .ok (.aload_n 0, 1) := by decide +kernel
theorem dX6_untilChute_1 : decode cX6_untilChute 1 = .ok (.getfield 43, 3) := by decide +kernel
theorem dX6_untilChute_4 : decode cX6_untilChute 4 = .ok (.aload_n 0, 1) := by decide +kernel
theorem dX6_untilChute_5 : decode cX6_untilChute 5 = .ok (.getfield 39, 3) := by decide +kernel
theorem dX6_untilChute_8 : decode cX6_untilChute 8 = .ok (.invokevirtual 171, 3) := by decide +kernel
theorem dX6_untilChute_11 : decode cX6_untilChute 11 = .ok (.iconst 0, 1) := by decide +kernel
theorem dX6_untilChute_12 : decode cX6_untilChute 12 = .ok (.istore_n 2, 1) := by decide +kernel
theorem dX6_untilChute_13 : decode cX6_untilChute 13 = .ok (.iload_n 2, 1) := by decide +kernel
theorem dX6_untilChute_14 : decode cX6_untilChute 14 = .ok (.bipush 120, 2) := by decide +kernel
theorem dX6_untilChute_16 : decode cX6_untilChute 16 = .ok (.if_icmp .gt 33, 3) := by decide +kernel
theorem dX6_untilChute_19 : decode cX6_untilChute 19 = .ok (.aload_n 0, 1) := by decide +kernel
theorem dX6_untilChute_20 : decode cX6_untilChute 20 = .ok (.getfield 43, 3) := by decide +kernel
theorem dX6_untilChute_23 : decode cX6_untilChute 23 = .ok (.getfield 104, 3) := by decide +kernel
theorem dX6_untilChute_26 : decode cX6_untilChute 26 = .ok (.iload_n 1, 1) := by decide +kernel
theorem dX6_untilChute_27 : decode cX6_untilChute 27 = .ok (.iaload, 1) := by decide +kernel
theorem dX6_untilChute_28 : decode cX6_untilChute 28 = .ok (.iconst 2, 1) := by decide +kernel
theorem dX6_untilChute_29 : decode cX6_untilChute 29 = .ok (.if_icmp .ne 5, 3) := by decide +kernel
theorem dX6_untilChute_32 : decode cX6_untilChute 32 = .ok (.iload_n 2, 1) := by decide +kernel
theorem dX6_untilChute_33 : decode cX6_untilChute 33 = .ok (.ireturn, 1) := by decide +kernel
theorem dX6_untilChute_34 : decode cX6_untilChute 34 = .ok (.aload_n 0, 1) := by decide +kernel
theorem dX6_untilChute_35 : decode cX6_untilChute 35 = .ok (.aload_n 0, 1) := by decide +kernel
theorem dX6_untilChute_36 : decode cX6_untilChute 36 = .ok (.getfield 43, 3) := by decide +kernel
theorem dX6_untilChute_39 : decode cX6_untilChute 39 = .ok (.invokevirtual 100, 3) := by decide +kernel
theorem dX6_untilChute_42 : decode cX6_untilChute 42 = .ok (.pop, 1) := by decide +kernel
theorem dX6_untilChute_43 : decode cX6_untilChute 43 = .ok (.iinc 2 1, 3) := by decide +kernel
theorem dX6_untilChute_46 : decode cX6_untilChute 46 = .ok (.goto (-33), 3) := by decide +kernel
theorem dX6_untilChute_49 : decode cX6_untilChute 49 = .ok (.iconst (-1), 1) := by decide +kernel
theorem dX6_untilChute_50 : decode cX6_untilChute 50 = .ok (.ireturn, 1) := by decide +kernel
theorem dX6_minutesUntilChute_0 : decode cX6_minutesUntilChute 0 = .ok (.aload_n 0, 1) := by decide +kernel
theorem dX6_minutesUntilChute_1 : decode cX6_minutesUntilChute 1 = .ok (.iconst 0, 1) := by decide +kernel
theorem dX6_minutesUntilChute_2 : decode cX6_minutesUntilChute 2 = .ok (.putfield 46, 3) := by decide +kernel
theorem dX6_minutesUntilChute_5 : decode cX6_minutesUntilChute 5 = .ok (.aload_n 0, 1) := by decide +kernel
theorem dX6_minutesUntilChute_6 : decode cX6_minutesUntilChute 6 = .ok (.iload_n 1, 1) := by decide +kernel
theorem dX6_minutesUntilChute_7 : decode cX6_minutesUntilChute 7 = .ok (.invokevirtual 128, 3) := by decide +kernel
theorem dX6_minutesUntilChute_10 : decode cX6_minutesUntilChute 10 = .ok (.ifCond .eq 11, 3) := by decide +kernel
theorem dX6_minutesUntilChute_13 : decode cX6_minutesUntilChute 13 = .ok (.aload_n 0, 1) := by decide +kernel
theorem dX6_minutesUntilChute_14 : decode cX6_minutesUntilChute 14 = .ok (.iload_n 1, 1) := by decide +kernel
theorem dX6_minutesUntilChute_15 : decode cX6_minutesUntilChute 15 = .ok (.invokevirtual 174, 3) := by decide +kernel
theorem dX6_minutesUntilChute_18 : decode cX6_minutesUntilChute 18 = .ok (.goto 8, 3) := by decide +kernel
theorem dX6_minutesUntilChute_21 : decode cX6_minutesUntilChute 21 = .ok (.aload_n 0, 1) := by decide +kernel
theorem dX6_minutesUntilChute_22 : decode cX6_minutesUntilChute 22 = .ok (.iconst 1, 1) := by decide +kernel
theorem dX6_minutesUntilChute_23 : decode cX6_minutesUntilChute 23 = .ok (.invokevirtual 110, 3) := by decide +kernel
theorem dX6_minutesUntilChute_26 : decode cX6_minutesUntilChute 26 = .ok (.ireturn, 1) := by decide +kernel
theorem dX6_readyBehind_0 : decode cX6_readyBehind 0 = .ok (.aload_n 0, 1) := by decide +kernel
theorem dX6_readyBehind_1 : decode cX6_readyBehind 1 = .ok (.getfield 43, 3) := by decide +kernel
theorem dX6_readyBehind_4 : decode cX6_readyBehind 4 = .ok (.aload_n 0, 1) := by decide +kernel
theorem dX6_readyBehind_5 : decode cX6_readyBehind 5 = .ok (.getfield 39, 3) := by decide +kernel
theorem dX6_readyBehind_8 : decode cX6_readyBehind 8 = .ok (.invokevirtual 171, 3) := by decide +kernel
theorem dX6_readyBehind_11 : decode cX6_readyBehind 11 = .ok (.aload_n 0, 1) := by decide +kernel
theorem dX6_readyBehind_12 : decode cX6_readyBehind 12 = .ok (.aload_n 0, 1) := by decide +kernel
theorem dX6_readyBehind_13 : decode cX6_readyBehind 13 = .ok (.getfield 43, 3) := by decide +kernel
theorem dX6_readyBehind_16 : decode cX6_readyBehind 16 = .ok (.iload_n 2, 1) := by decide +kernel
theorem dX6_readyBehind_17 : decode cX6_readyBehind 17 = .ok (.invokevirtual 143, 3) := by decide +kernel
theorem dX6_readyBehind_20 : decode cX6_readyBehind 20 = .ok (.pop, 1) := by decide +kernel
theorem dX6_readyBehind_21 : decode cX6_readyBehind 21 = .ok (.aload_n 0, 1) := by decide +kernel
theorem dX6_readyBehind_22 : decode cX6_readyBehind 22 = .ok (.aload_n 0, 1) := by decide +kernel
theorem dX6_readyBehind_23 : decode cX6_readyBehind 23 = .ok (.getfield 43, 3) := by decide +kernel
theorem dX6_readyBehind_26 : decode cX6_readyBehind 26 = .ok (.iload_n 1, 1) := by decide +kernel
theorem dX6_readyBehind_27 : decode cX6_readyBehind 27 = .ok (.invokevirtual 156, 3) := by decide +kernel
theorem dX6_readyBehind_30 : decode cX6_readyBehind 30 = .ok (.ireturn, 1) := by decide +kernel
theorem dX6_readyAfter_0 : decode cX6_readyAfter 0 = .ok (.aload_n 0, 1) := by decide +kernel
theorem dX6_readyAfter_1 : decode cX6_readyAfter 1 = .ok (.iconst 0, 1) := by decide +kernel
theorem dX6_readyAfter_2 : decode cX6_readyAfter 2 = .ok (.putfield 46, 3) := by decide +kernel
theorem dX6_readyAfter_5 : decode cX6_readyAfter 5 = .ok (.aload_n 0, 1) := by decide +kernel
theorem dX6_readyAfter_6 : decode cX6_readyAfter 6 = .ok (.iload_n 1, 1) := by decide +kernel
theorem dX6_readyAfter_7 : decode cX6_readyAfter 7 = .ok (.invokevirtual 114, 3) := by decide +kernel
theorem dX6_readyAfter_10 : decode cX6_readyAfter 10 = .ok (.ifCond .ne 9, 3) := by decide +kernel
theorem dX6_readyAfter_13 : decode cX6_readyAfter 13 = .ok (.aload_n 0, 1) := by decide +kernel
theorem dX6_readyAfter_14 : decode cX6_readyAfter 14 = .ok (.iconst 1, 1) := by decide +kernel
theorem dX6_readyAfter_15 : decode cX6_readyAfter 15 = .ok (.invokevirtual 110, 3) := by decide +kernel
theorem dX6_readyAfter_18 : decode cX6_readyAfter 18 = .ok (.ireturn, 1) := by decide +kernel
theorem dX6_readyAfter_19 : decode cX6_readyAfter 19 = .ok (.iload_n 2, 1) := by decide +kernel
theorem dX6_readyAfter_20 : decode cX6_readyAfter 20 = .ok (.iconst 1, 1) := by decide +kernel
theorem dX6_readyAfter_21 : decode cX6_readyAfter 21 = .ok (.bipush 60, 2) := by decide +kernel
theorem dX6_readyAfter_23 : decode cX6_readyAfter 23 = .ok (.invokestatic 52, 3) := by decide +kernel
theorem dX6_readyAfter_26 : decode cX6_readyAfter 26 = .ok (.ifCond .eq 12, 3) := by decide +kernel
theorem dX6_readyAfter_29 : decode cX6_readyAfter 29 = .ok (.aload_n 0, 1) := by decide +kernel
theorem dX6_readyAfter_30 : decode cX6_readyAfter 30 = .ok (.iload_n 1, 1) := by decide +kernel
theorem dX6_readyAfter_31 : decode cX6_readyAfter 31 = .ok (.iload_n 2, 1) := by decide +kernel
theorem dX6_readyAfter_32 : decode cX6_readyAfter 32 = .ok (.invokevirtual 177, 3) := by decide +kernel
theorem dX6_readyAfter_35 : decode cX6_readyAfter 35 = .ok (.goto 8, 3) := by decide +kernel
theorem dX6_readyAfter_38 : decode cX6_readyAfter 38 = .ok (.aload_n 0, 1) := by decide +kernel
theorem dX6_readyAfter_39 : decode cX6_readyAfter 39 = .ok (.iconst 2, 1) := by decide +kernel
theorem dX6_readyAfter_40 : decode cX6_readyAfter 40 = .ok (.invokevirtual 110, 3) := by decide +kernel
theorem dX6_readyAfter_43 : decode cX6_readyAfter 43 = .ok (.ireturn, 1) := by decide +kernel
theorem dX6_best_0 : decode cX6_best 0 = .ok (.aload_n 0, 1) := by decide +kernel
theorem dX6_best_1 : decode cX6_best 1 = .ok (.getfield 9, 3) := by decide +kernel
theorem dX6_best_4 : decode cX6_best 4 = .ok (.iload_n 1, 1) := by decide +kernel
theorem dX6_best_5 : decode cX6_best 5 = .ok (.iaload, 1) := by decide +kernel
theorem dX6_best_6 : decode cX6_best 6 = .ok (.istore_n 3, 1) := by decide +kernel
theorem dX6_best_7 : decode cX6_best 7 = .ok (.iconst (-1), 1) := by decide +kernel
theorem dX6_best_8 : decode cX6_best 8 = .ok (.istore 4, 2) := by decide +kernel
theorem dX6_best_10 : decode cX6_best 10 = .ok (.iconst (-1), 1) := by decide +kernel
theorem dX6_best_11 : decode cX6_best 11 = .ok (.istore 5, 2) := by decide +kernel
theorem dX6_best_13 : decode cX6_best 13 = .ok (.iconst 0, 1) := by decide +kernel
theorem dX6_best_14 : decode cX6_best 14 = .ok (.istore 6, 2) := by decide +kernel
theorem dX6_best_16 : decode cX6_best 16 = .ok (.iload 6, 2) := by decide +kernel
theorem dX6_best_18 : decode cX6_best 18 = .ok (.iconst 4, 1) := by decide +kernel
theorem dX6_best_19 : decode cX6_best 19 = .ok (.if_icmp .ge 43, 3) := by decide +kernel
theorem dX6_best_22 : decode cX6_best 22 = .ok (.aload_n 0, 1) := by decide +kernel
theorem dX6_best_23 : decode cX6_best 23 = .ok (.getfield 9, 3) := by decide +kernel
theorem dX6_best_26 : decode cX6_best 26 = .ok (.iload_n 1, 1) := by decide +kernel
theorem dX6_best_27 : decode cX6_best 27 = .ok (.iload 6, 2) := by decide +kernel
theorem dX6_best_29 : decode cX6_best 29 = .ok (.iastore, 1) := by decide +kernel
theorem dX6_best_30 : decode cX6_best 30 = .ok (.aload_n 0, 1) := by decide +kernel
theorem dX6_best_31 : decode cX6_best 31 = .ok (.iload_n 1, 1) := by decide +kernel
theorem dX6_best_32 : decode cX6_best 32 = .ok (.iload_n 2, 1) := by decide +kernel
theorem dX6_best_33 : decode cX6_best 33 = .ok (.invokevirtual 177, 3) := by decide +kernel
theorem dX6_best_36 : decode cX6_best 36 = .ok (.istore 7, 2) := by decide +kernel
theorem dX6_best_38 : decode cX6_best 38 = .ok (.iload 7, 2) := by decide +kernel
theorem dX6_best_40 : decode cX6_best 40 = .ok (.iload 5, 2) := by decide +kernel
theorem dX6_best_42 : decode cX6_best 42 = .ok (.if_icmp .gt 6, 3) := by decide +kernel
theorem dX6_best_45 : decode cX6_best 45 = .ok (.goto 11, 3) := by decide +kernel
theorem dX6_best_48 : decode cX6_best 48 = .ok (.iload 6, 2) := by decide +kernel
theorem dX6_best_50 : decode cX6_best 50 = .ok (.istore 4, 2) := by decide +kernel
theorem dX6_best_52 : decode cX6_best 52 = .ok (.iload 7, 2) := by decide +kernel
theorem dX6_best_54 : decode cX6_best 54 = .ok (.istore 5, 2) := by decide +kernel
theorem dX6_best_56 : decode cX6_best 56 = .ok (.iinc 6 1, 3) := by decide +kernel
theorem dX6_best_59 : decode cX6_best 59 = .ok (.goto (-43), 3) := by decide +kernel
theorem dX6_best_62 : decode cX6_best 62 = .ok (.aload_n 0, 1) := by decide +kernel
theorem dX6_best_63 : decode cX6_best 63 = .ok (.getfield 9, 3) := by decide +kernel
theorem dX6_best_66 : decode cX6_best 66 = .ok (.iload_n 1, 1) := by decide +kernel
theorem dX6_best_67 : decode cX6_best 67 = .ok (.iload_n 3, 1) := by decide +kernel
theorem dX6_best_68 : decode cX6_best 68 = .ok (.iastore, 1) := by decide +kernel
theorem dX6_best_69 : decode cX6_best 69 = .ok (.iload 4, 2) := by decide +kernel
theorem dX6_best_71 : decode cX6_best 71 = .ok (.ireturn, 1) := by decide +kernel
theorem dX6_bestChute_0 : decode cX6_bestChute 0 = .ok (.aload_n 0, 1) := by decide +kernel
theorem dX6_bestChute_1 : decode cX6_bestChute 1 = .ok (.iconst 0, 1) := by decide +kernel
theorem dX6_bestChute_2 : decode cX6_bestChute 2 = .ok (.putfield 46, 3) := by decide +kernel
theorem dX6_bestChute_5 : decode cX6_bestChute 5 = .ok (.aload_n 0, 1) := by decide +kernel
theorem dX6_bestChute_6 : decode cX6_bestChute 6 = .ok (.iload_n 1, 1) := by decide +kernel
theorem dX6_bestChute_7 : decode cX6_bestChute 7 = .ok (.invokevirtual 114, 3) := by decide +kernel
theorem dX6_bestChute_10 : decode cX6_bestChute 10 = .ok (.ifCond .ne 9, 3) := by decide +kernel
theorem dX6_bestChute_13 : decode cX6_bestChute 13 = .ok (.aload_n 0, 1) := by decide +kernel
theorem dX6_bestChute_14 : decode cX6_bestChute 14 = .ok (.iconst 1, 1) := by decide +kernel
theorem dX6_bestChute_15 : decode cX6_bestChute 15 = .ok (.invokevirtual 110, 3) := by decide +kernel
theorem dX6_bestChute_18 : decode cX6_bestChute 18 = .ok (.ireturn, 1) := by decide +kernel
theorem dX6_bestChute_19 : decode cX6_bestChute 19 = .ok (.iload_n 2, 1) := by decide +kernel
theorem dX6_bestChute_20 : decode cX6_bestChute 20 = .ok (.iconst 1, 1) := by decide +kernel
theorem dX6_bestChute_21 : decode cX6_bestChute 21 = .ok (.bipush 60, 2) := by decide +kernel
theorem dX6_bestChute_23 : decode cX6_bestChute 23 = .ok (.invokestatic 52, 3) := by decide +kernel
theorem dX6_bestChute_26 : decode cX6_bestChute 26 = .ok (.ifCond .ne 9, 3) := by decide +kernel
theorem dX6_bestChute_29 : decode cX6_bestChute 29 = .ok (.aload_n 0, 1) := by decide +kernel
theorem dX6_bestChute_30 : decode cX6_bestChute 30 = .ok (.iconst 2, 1) := by decide +kernel
theorem dX6_bestChute_31 : decode cX6_bestChute 31 = .ok (.invokevirtual 110, 3) := by decide +kernel
theorem dX6_bestChute_34 : decode cX6_bestChute 34 = .ok (.ireturn, 1) := by decide +kernel
theorem dX6_bestChute_35 : decode cX6_bestChute 35 = .ok (.aload_n 0, 1) := by decide +kernel
theorem dX6_bestChute_36 : decode cX6_bestChute 36 = .ok (.getfield 13, 3) := by decide +kernel
theorem dX6_bestChute_39 : decode cX6_bestChute 39 = .ok (.iload_n 1, 1) := by decide +kernel
theorem dX6_bestChute_40 : decode cX6_bestChute 40 = .ok (.baload, 1) := by decide +kernel
theorem dX6_bestChute_41 : decode cX6_bestChute 41 = .ok (.ifCond .eq 11, 3) := by decide +kernel
theorem dX6_bestChute_44 : decode cX6_bestChute 44 = .ok (.aload_n 0, 1) := by decide +kernel
theorem dX6_bestChute_45 : decode cX6_bestChute 45 = .ok (.iconst 3, 1) := by decide +kernel
theorem dX6_bestChute_46 : decode cX6_bestChute 46 = .ok (.invokevirtual 110, 3) := by decide +kernel
theorem dX6_bestChute_49 : decode cX6_bestChute 49 = .ok (.goto 9, 3) := by decide +kernel
theorem dX6_bestChute_52 : decode cX6_bestChute 52 = .ok (.aload_n 0, 1) := by decide +kernel
theorem dX6_bestChute_53 : decode cX6_bestChute 53 = .ok (.iload_n 1, 1) := by decide +kernel
theorem dX6_bestChute_54 : decode cX6_bestChute 54 = .ok (.iload_n 2, 1) := by decide +kernel
theorem dX6_bestChute_55 : decode cX6_bestChute 55 = .ok (.invokevirtual 180, 3) := by decide +kernel
theorem dX6_bestChute_58 : decode cX6_bestChute 58 = .ok (.ireturn, 1) := by decide +kernel
theorem dX6_meanMisses_0 : decode cX6_meanMisses 0 = .ok (.aload_n 0, 1) := by decide +kernel
theorem dX6_meanMisses_1 : decode cX6_meanMisses 1 = .ok (.iconst 0, 1) := by decide +kernel
theorem dX6_meanMisses_2 : decode cX6_meanMisses 2 = .ok (.putfield 46, 3) := by decide +kernel
theorem dX6_meanMisses_5 : decode cX6_meanMisses 5 = .ok (.iconst 0, 1) := by decide +kernel
theorem dX6_meanMisses_6 : decode cX6_meanMisses 6 = .ok (.istore_n 1, 1) := by decide +kernel
theorem dX6_meanMisses_7 : decode cX6_meanMisses 7 = .ok (.iconst 0, 1) := by decide +kernel
theorem dX6_meanMisses_8 : decode cX6_meanMisses 8 = .ok (.istore_n 2, 1) := by decide +kernel
theorem dX6_meanMisses_9 : decode cX6_meanMisses 9 = .ok (.iload_n 2, 1) := by decide +kernel
theorem dX6_meanMisses_10 : decode cX6_meanMisses 10 = .ok (.aload_n 0, 1) := by decide +kernel
theorem dX6_meanMisses_11 : decode cX6_meanMisses 11 = .ok (.getfield 49, 3) := by decide +kernel
theorem dX6_meanMisses_14 : decode cX6_meanMisses 14 = .ok (.if_icmp .ge 21, 3) := by decide +kernel
theorem dX6_meanMisses_17 : decode cX6_meanMisses 17 = .ok (.iload_n 1, 1) := by decide +kernel
theorem dX6_meanMisses_18 : decode cX6_meanMisses 18 = .ok (.aload_n 0, 1) := by decide +kernel
theorem dX6_meanMisses_19 : decode cX6_meanMisses 19 = .ok (.getfield 39, 3) := by decide +kernel
theorem dX6_meanMisses_22 : decode cX6_meanMisses 22 = .ok (.getfield 65, 3) := by decide +kernel
theorem dX6_meanMisses_25 : decode cX6_meanMisses 25 = .ok (.iload_n 2, 1) := by decide +kernel
theorem dX6_meanMisses_26 : decode cX6_meanMisses 26 = .ok (.iaload, 1) := by decide +kernel
theorem dX6_meanMisses_27 : decode cX6_meanMisses 27 = .ok (.iadd, 1) := by decide +kernel
theorem dX6_meanMisses_28 : decode cX6_meanMisses 28 = .ok (.istore_n 1, 1) := by decide +kernel
theorem dX6_meanMisses_29 : decode cX6_meanMisses 29 = .ok (.iinc 2 1, 3) := by decide +kernel
theorem dX6_meanMisses_32 : decode cX6_meanMisses 32 = .ok (.goto (-23), 3) := by decide +kernel
theorem dX6_meanMisses_35 : decode cX6_meanMisses 35 = .ok (.aload_n 0, 1) := by decide +kernel
theorem dX6_meanMisses_36 : decode cX6_meanMisses 36 = .ok (.getfield 49, 3) := by decide +kernel
theorem dX6_meanMisses_39 : decode cX6_meanMisses 39 = .ok (.ifCond .ne 7, 3) := by decide +kernel
theorem dX6_meanMisses_42 : decode cX6_meanMisses 42 = .ok (.dconst 0, 1) := by decide +kernel
theorem dX6_meanMisses_43 : decode cX6_meanMisses 43 = .ok (.goto 11, 3) := by decide +kernel
theorem dX6_meanMisses_46 : decode cX6_meanMisses 46 = .ok (.iload_n 1, 1) := by decide +kernel
theorem dX6_meanMisses_47 : decode cX6_meanMisses 47 = .ok (.i2d, 1) := by decide +kernel
theorem dX6_meanMisses_48 : decode cX6_meanMisses 48 = .ok (.aload_n 0, 1) := by decide +kernel
theorem dX6_meanMisses_49 : decode cX6_meanMisses 49 = .ok (.getfield 49, 3) := by decide +kernel
theorem dX6_meanMisses_52 : decode cX6_meanMisses 52 = .ok (.i2d, 1) := by decide +kernel
theorem dX6_meanMisses_53 : decode cX6_meanMisses 53 = .ok (.ddiv, 1) := by decide +kernel
theorem dX6_meanMisses_54 : decode cX6_meanMisses 54 = .ok (.dreturn, 1) := by decide +kernel
theorem dX6_one_0 : decode cX6_one 0 = .ok (.iload_n 0, 1) := by decide +kernel
theorem dX6_one_1 : decode cX6_one 1 = .ok (.ifCond .eq 7, 3) := by decide +kernel
theorem dX6_one_4 : decode cX6_one 4 = .ok (.iconst 1, 1) := by decide +kernel
theorem dX6_one_5 : decode cX6_one 5 = .ok (.goto 4, 3) := by decide +kernel
theorem dX6_one_8 : decode cX6_one 8 = .ok (.iconst 0, 1) := by decide +kernel
theorem dX6_one_9 : decode cX6_one 9 = .ok (.ireturn, 1) := by decide +kernel
theorem dX6_on_0 : decode cX6_on 0 = .ok (.lload_n 0, 1) := by decide +kernel
theorem dX6_on_1 : decode cX6_on 1 = .ok (.ldc2_w 183, 3) := by decide +kernel
theorem dX6_on_4 : decode cX6_on 4 = .ok (.lmul, 1) := by decide +kernel
theorem dX6_on_5 : decode cX6_on 5 = .ok (.iload_n 2, 1) := by decide +kernel
theorem dX6_on_6 : decode cX6_on 6 = .ok (.i2l, 1) := by decide +kernel
theorem dX6_on_7 : decode cX6_on 7 = .ok (.ladd, 1) := by decide +kernel
theorem dX6_on_8 : decode cX6_on 8 = .ok (.lreturn, 1) := by decide +kernel
theorem dX6_digest_0 : decode cX6_digest 0 = .ok (.aload_n 0, 1) := by decide +kernel
theorem dX6_digest_1 : decode cX6_digest 1 = .ok (.iconst 0, 1) := by decide +kernel
theorem dX6_digest_2 : decode cX6_digest 2 = .ok (.putfield 46, 3) := by decide +kernel
theorem dX6_digest_5 : decode cX6_digest 5 = .ok (.ldc2_w 185, 3) := by decide +kernel
theorem dX6_digest_8 : decode cX6_digest 8 = .ok (.aload_n 0, 1) := by decide +kernel
theorem dX6_digest_9 : decode cX6_digest 9 = .ok (.getfield 39, 3) := by decide +kernel
theorem dX6_digest_12 : decode cX6_digest 12 = .ok (.getfield 97, 3) := by decide +kernel
theorem dX6_digest_15 : decode cX6_digest 15 = .ok (.invokestatic 187, 3) := by decide +kernel
theorem dX6_digest_18 : decode cX6_digest 18 = .ok (.aload_n 0, 1) := by decide +kernel
theorem dX6_digest_19 : decode cX6_digest 19 = .ok (.getfield 56, 3) := by decide +kernel
theorem dX6_digest_22 : decode cX6_digest 22 = .ok (.invokestatic 187, 3) := by decide +kernel
theorem dX6_digest_25 : decode cX6_digest 25 = .ok (.aload_n 0, 1) := by decide +kernel
theorem dX6_digest_26 : decode cX6_digest 26 = .ok (.getfield 49, 3) := by decide +kernel
theorem dX6_digest_29 : decode cX6_digest 29 = .ok (.invokestatic 187, 3) := by decide +kernel
theorem dX6_digest_32 : decode cX6_digest 32 = .ok (.aload_n 0, 1) := by decide +kernel
theorem dX6_digest_33 : decode cX6_digest 33 = .ok (.getfield 39, 3) := by decide +kernel
theorem dX6_digest_36 : decode cX6_digest 36 = .ok (.getfield 90, 3) := by decide +kernel
theorem dX6_digest_39 : decode cX6_digest 39 = .ok (.invokestatic 187, 3) := by decide +kernel
theorem dX6_digest_42 : decode cX6_digest 42 = .ok (.lstore_n 1, 1) := by decide +kernel
theorem dX6_digest_43 : decode cX6_digest 43 = .ok (.lload_n 1, 1) := by decide +kernel
theorem dX6_digest_44 : decode cX6_digest 44 = .ok (.aload_n 0, 1) := by decide +kernel
theorem dX6_digest_45 : decode cX6_digest 45 = .ok (.iconst 1, 1) := by decide +kernel
theorem dX6_digest_46 : decode cX6_digest 46 = .ok (.invokevirtual 165, 3) := by decide +kernel
theorem dX6_digest_49 : decode cX6_digest 49 = .ok (.invokestatic 187, 3) := by decide +kernel
theorem dX6_digest_52 : decode cX6_digest 52 = .ok (.aload_n 0, 1) := by decide +kernel
theorem dX6_digest_53 : decode cX6_digest 53 = .ok (.iconst 3, 1) := by decide +kernel
theorem dX6_digest_54 : decode cX6_digest 54 = .ok (.invokevirtual 165, 3) := by decide +kernel
theorem dX6_digest_57 : decode cX6_digest 57 = .ok (.invokestatic 187, 3) := by decide +kernel
theorem dX6_digest_60 : decode cX6_digest 60 = .ok (.aload_n 0, 1) := by decide +kernel
theorem dX6_digest_61 : decode cX6_digest 61 = .ok (.iconst 1, 1) := by decide +kernel
theorem dX6_digest_62 : decode cX6_digest 62 = .ok (.invokevirtual 168, 3) := by decide +kernel
theorem dX6_digest_65 : decode cX6_digest 65 = .ok (.invokestatic 187, 3) := by decide +kernel
theorem dX6_digest_68 : decode cX6_digest 68 = .ok (.aload_n 0, 1) := by decide +kernel
theorem dX6_digest_69 : decode cX6_digest 69 = .ok (.iconst 2, 1) := by decide +kernel
theorem dX6_digest_70 : decode cX6_digest 70 = .ok (.invokevirtual 168, 3) := by decide +kernel
theorem dX6_digest_73 : decode cX6_digest 73 = .ok (.invokestatic 187, 3) := by decide +kernel
theorem dX6_digest_76 : decode cX6_digest 76 = .ok (.aload_n 0, 1) := by decide +kernel
theorem dX6_digest_77 : decode cX6_digest 77 = .ok (.getfield 20, 3) := by decide +kernel
theorem dX6_digest_80 : decode cX6_digest 80 = .ok (.invokestatic 187, 3) := by decide +kernel
theorem dX6_digest_83 : decode cX6_digest 83 = .ok (.lstore_n 1, 1) := by decide +kernel
theorem dX6_digest_84 : decode cX6_digest 84 = .ok (.iconst 0, 1) := by decide +kernel
theorem dX6_digest_85 : decode cX6_digest 85 = .ok (.istore_n 3, 1) := by decide +kernel
theorem dX6_digest_86 : decode cX6_digest 86 = .ok (.iload_n 3, 1) := by decide +kernel
theorem dX6_digest_87 : decode cX6_digest 87 = .ok (.aload_n 0, 1) := by decide +kernel
theorem dX6_digest_88 : decode cX6_digest 88 = .ok (.getfield 49, 3) := by decide +kernel
theorem dX6_digest_91 : decode cX6_digest 91 = .ok (.if_icmp .ge 108, 3) := by decide +kernel
theorem dX6_digest_94 : decode cX6_digest 94 = .ok (.lload_n 1, 1) := by decide +kernel
theorem dX6_digest_95 : decode cX6_digest 95 = .ok (.aload_n 0, 1) := by decide +kernel
theorem dX6_digest_96 : decode cX6_digest 96 = .ok (.getfield 24, 3) := by decide +kernel
theorem dX6_digest_99 : decode cX6_digest 99 = .ok (.iload_n 3, 1) := by decide +kernel
theorem dX6_digest_100 : decode cX6_digest 100 = .ok (.iaload, 1) := by decide +kernel
theorem dX6_digest_101 : decode cX6_digest 101 = .ok (.invokestatic 187, 3) := by decide +kernel
theorem dX6_digest_104 : decode cX6_digest 104 = .ok (.aload_n 0, 1) := by decide +kernel
theorem dX6_digest_105 : decode cX6_digest 105 = .ok (.getfield 39, 3) := by decide +kernel
theorem dX6_digest_108 : decode cX6_digest 108 = .ok (.getfield 104, 3) := by decide +kernel
theorem dX6_digest_111 : decode cX6_digest 111 = .ok (.iload_n 3, 1) := by decide +kernel
theorem dX6_digest_112 : decode cX6_digest 112 = .ok (.iaload, 1) := by decide +kernel
theorem dX6_digest_113 : decode cX6_digest 113 = .ok (.invokestatic 187, 3) := by decide +kernel
theorem dX6_digest_116 : decode cX6_digest 116 = .ok (.aload_n 0, 1) := by decide +kernel
theorem dX6_digest_117 : decode cX6_digest 117 = .ok (.iload_n 3, 1) := by decide +kernel
theorem dX6_digest_118 : decode cX6_digest 118 = .ok (.iconst 1, 1) := by decide +kernel
theorem dX6_digest_119 : decode cX6_digest 119 = .ok (.invokevirtual 146, 3) := by decide +kernel
theorem dX6_digest_122 : decode cX6_digest 122 = .ok (.invokestatic 187, 3) := by decide +kernel
theorem dX6_digest_125 : decode cX6_digest 125 = .ok (.aload_n 0, 1) := by decide +kernel
theorem dX6_digest_126 : decode cX6_digest 126 = .ok (.iload_n 3, 1) := by decide +kernel
theorem dX6_digest_127 : decode cX6_digest 127 = .ok (.iconst 2, 1) := by decide +kernel
theorem dX6_digest_128 : decode cX6_digest 128 = .ok (.invokevirtual 146, 3) := by decide +kernel
theorem dX6_digest_131 : decode cX6_digest 131 = .ok (.invokestatic 187, 3) := by decide +kernel
theorem dX6_digest_134 : decode cX6_digest 134 = .ok (.lstore_n 1, 1) := by decide +kernel
theorem dX6_digest_135 : decode cX6_digest 135 = .ok (.lload_n 1, 1) := by decide +kernel
theorem dX6_digest_136 : decode cX6_digest 136 = .ok (.aload_n 0, 1) := by decide +kernel
theorem dX6_digest_137 : decode cX6_digest 137 = .ok (.getfield 39, 3) := by decide +kernel
theorem dX6_digest_140 : decode cX6_digest 140 = .ok (.getfield 62, 3) := by decide +kernel
theorem dX6_digest_143 : decode cX6_digest 143 = .ok (.iload_n 3, 1) := by decide +kernel
theorem dX6_digest_144 : decode cX6_digest 144 = .ok (.iaload, 1) := by decide +kernel
theorem dX6_digest_145 : decode cX6_digest 145 = .ok (.invokestatic 187, 3) := by decide +kernel
theorem dX6_digest_148 : decode cX6_digest 148 = .ok (.aload_n 0, 1) := by decide +kernel
theorem dX6_digest_149 : decode cX6_digest 149 = .ok (.getfield 39, 3) := by decide +kernel
theorem dX6_digest_152 : decode cX6_digest 152 = .ok (.getfield 65, 3) := by decide +kernel
theorem dX6_digest_155 : decode cX6_digest 155 = .ok (.iload_n 3, 1) := by decide +kernel
theorem dX6_digest_156 : decode cX6_digest 156 = .ok (.iaload, 1) := by decide +kernel
theorem dX6_digest_157 : decode cX6_digest 157 = .ok (.invokestatic 187, 3) := by decide +kernel
theorem dX6_digest_160 : decode cX6_digest 160 = .ok (.aload_n 0, 1) := by decide +kernel
theorem dX6_digest_161 : decode cX6_digest 161 = .ok (.iload_n 3, 1) := by decide +kernel
theorem dX6_digest_162 : decode cX6_digest 162 = .ok (.invokevirtual 137, 3) := by decide +kernel
theorem dX6_digest_165 : decode cX6_digest 165 = .ok (.invokestatic 191, 3) := by decide +kernel
theorem dX6_digest_168 : decode cX6_digest 168 = .ok (.invokestatic 187, 3) := by decide +kernel
theorem dX6_digest_171 : decode cX6_digest 171 = .ok (.aload_n 0, 1) := by decide +kernel
theorem dX6_digest_172 : decode cX6_digest 172 = .ok (.getfield 33, 3) := by decide +kernel
theorem dX6_digest_175 : decode cX6_digest 175 = .ok (.iload_n 3, 1) := by decide +kernel
theorem dX6_digest_176 : decode cX6_digest 176 = .ok (.iaload, 1) := by decide +kernel
theorem dX6_digest_177 : decode cX6_digest 177 = .ok (.iconst 1, 1) := by decide +kernel
theorem dX6_digest_178 : decode cX6_digest 178 = .ok (.if_icmp .ne 7, 3) := by decide +kernel
theorem dX6_digest_181 : decode cX6_digest 181 = .ok (.iconst 1, 1) := by decide +kernel
theorem dX6_digest_182 : decode cX6_digest 182 = .ok (.goto 4, 3) := by decide +kernel
theorem dX6_digest_185 : decode cX6_digest 185 = .ok (.iconst 0, 1) := by decide +kernel
theorem dX6_digest_186 : decode cX6_digest 186 = .ok (.invokestatic 191, 3) := by decide +kernel
theorem dX6_digest_189 : decode cX6_digest 189 = .ok (.invokestatic 187, 3) := by decide +kernel
theorem dX6_digest_192 : decode cX6_digest 192 = .ok (.lstore_n 1, 1) := by decide +kernel
theorem dX6_digest_193 : decode cX6_digest 193 = .ok (.iinc 3 1, 3) := by decide +kernel
theorem dX6_digest_196 : decode cX6_digest 196 = .ok (.goto (-110), 3) := by decide +kernel
theorem dX6_digest_199 : decode cX6_digest 199 = .ok (.iconst 0, 1) := by decide +kernel
theorem dX6_digest_200 : decode cX6_digest 200 = .ok (.istore_n 3, 1) := by decide +kernel
theorem dX6_digest_201 : decode cX6_digest 201 = .ok (.iload_n 3, 1) := by decide +kernel
theorem dX6_digest_202 : decode cX6_digest 202 = .ok (.iconst 4, 1) := by decide +kernel
theorem dX6_digest_203 : decode cX6_digest 203 = .ok (.if_icmp .ge 40, 3) := by decide +kernel
theorem dX6_digest_206 : decode cX6_digest 206 = .ok (.lload_n 1, 1) := by decide +kernel
theorem dX6_digest_207 : decode cX6_digest 207 = .ok (.aload_n 0, 1) := by decide +kernel
theorem dX6_digest_208 : decode cX6_digest 208 = .ok (.getfield 39, 3) := by decide +kernel
theorem dX6_digest_211 : decode cX6_digest 211 = .ok (.getfield 72, 3) := by decide +kernel
theorem dX6_digest_214 : decode cX6_digest 214 = .ok (.iload_n 3, 1) := by decide +kernel
theorem dX6_digest_215 : decode cX6_digest 215 = .ok (.iaload, 1) := by decide +kernel
theorem dX6_digest_216 : decode cX6_digest 216 = .ok (.invokestatic 187, 3) := by decide +kernel
theorem dX6_digest_219 : decode cX6_digest 219 = .ok (.aload_n 0, 1) := by decide +kernel
theorem dX6_digest_220 : decode cX6_digest 220 = .ok (.iload_n 3, 1) := by decide +kernel
theorem dX6_digest_221 : decode cX6_digest 221 = .ok (.invokevirtual 153, 3) := by decide +kernel
theorem dX6_digest_224 : decode cX6_digest 224 = .ok (.invokestatic 187, 3) := by decide +kernel
theorem dX6_digest_227 : decode cX6_digest 227 = .ok (.aload_n 0, 1) := by decide +kernel
theorem dX6_digest_228 : decode cX6_digest 228 = .ok (.getfield 17, 3) := by decide +kernel
theorem dX6_digest_231 : decode cX6_digest 231 = .ok (.iload_n 3, 1) := by decide +kernel
theorem dX6_digest_232 : decode cX6_digest 232 = .ok (.iaload, 1) := by decide +kernel
theorem dX6_digest_233 : decode cX6_digest 233 = .ok (.invokestatic 187, 3) := by decide +kernel
theorem dX6_digest_236 : decode cX6_digest 236 = .ok (.lstore_n 1, 1) := by decide +kernel
theorem dX6_digest_237 : decode cX6_digest 237 = .ok (.iinc 3 1, 3) := by decide +kernel
theorem dX6_digest_240 : decode cX6_digest 240 = .ok (.goto (-39), 3) := by decide +kernel
theorem dX6_digest_243 : decode cX6_digest 243 = .ok (.iconst 0, 1) := by decide +kernel
theorem dX6_digest_244 : decode cX6_digest 244 = .ok (.istore_n 3, 1) := by decide +kernel
theorem dX6_digest_245 : decode cX6_digest 245 = .ok (.iload_n 3, 1) := by decide +kernel
theorem dX6_digest_246 : decode cX6_digest 246 = .ok (.aload_n 0, 1) := by decide +kernel
theorem dX6_digest_247 : decode cX6_digest 247 = .ok (.getfield 56, 3) := by decide +kernel
theorem dX6_digest_250 : decode cX6_digest 250 = .ok (.if_icmp .ge 52, 3) := by decide +kernel
theorem dX6_digest_253 : decode cX6_digest 253 = .ok (.lload_n 1, 1) := by decide +kernel
theorem dX6_digest_254 : decode cX6_digest 254 = .ok (.aload_n 0, 1) := by decide +kernel
theorem dX6_digest_255 : decode cX6_digest 255 = .ok (.getfield 9, 3) := by decide +kernel
theorem dX6_digest_258 : decode cX6_digest 258 = .ok (.iload_n 3, 1) := by decide +kernel
theorem dX6_digest_259 : decode cX6_digest 259 = .ok (.iaload, 1) := by decide +kernel
theorem dX6_digest_260 : decode cX6_digest 260 = .ok (.invokestatic 187, 3) := by decide +kernel
theorem dX6_digest_263 : decode cX6_digest 263 = .ok (.aload_n 0, 1) := by decide +kernel
theorem dX6_digest_264 : decode cX6_digest 264 = .ok (.getfield 13, 3) := by decide +kernel
theorem dX6_digest_267 : decode cX6_digest 267 = .ok (.iload_n 3, 1) := by decide +kernel
theorem dX6_digest_268 : decode cX6_digest 268 = .ok (.baload, 1) := by decide +kernel
theorem dX6_digest_269 : decode cX6_digest 269 = .ok (.invokestatic 191, 3) := by decide +kernel
theorem dX6_digest_272 : decode cX6_digest 272 = .ok (.invokestatic 187, 3) := by decide +kernel
theorem dX6_digest_275 : decode cX6_digest 275 = .ok (.aload_n 0, 1) := by decide +kernel
theorem dX6_digest_276 : decode cX6_digest 276 = .ok (.aload_n 0, 1) := by decide +kernel
theorem dX6_digest_277 : decode cX6_digest 277 = .ok (.getfield 39, 3) := by decide +kernel
theorem dX6_digest_280 : decode cX6_digest 280 = .ok (.iload_n 3, 1) := by decide +kernel
theorem dX6_digest_281 : decode cX6_digest 281 = .ok (.invokevirtual 156, 3) := by decide +kernel
theorem dX6_digest_284 : decode cX6_digest 284 = .ok (.invokestatic 187, 3) := by decide +kernel
theorem dX6_digest_287 : decode cX6_digest 287 = .ok (.aload_n 0, 1) := by decide +kernel
theorem dX6_digest_288 : decode cX6_digest 288 = .ok (.iload_n 3, 1) := by decide +kernel
theorem dX6_digest_289 : decode cX6_digest 289 = .ok (.invokevirtual 159, 3) := by decide +kernel
theorem dX6_digest_292 : decode cX6_digest 292 = .ok (.invokestatic 187, 3) := by decide +kernel
theorem dX6_digest_295 : decode cX6_digest 295 = .ok (.lstore_n 1, 1) := by decide +kernel
theorem dX6_digest_296 : decode cX6_digest 296 = .ok (.iinc 3 1, 3) := by decide +kernel
theorem dX6_digest_299 : decode cX6_digest 299 = .ok (.goto (-54), 3) := by decide +kernel
theorem dX6_digest_302 : decode cX6_digest 302 = .ok (.lload_n 1, 1) := by decide +kernel
theorem dX6_digest_303 : decode cX6_digest 303 = .ok (.lreturn, 1) := by decide +kernel
