theorem dX5_init_0 : decode cX5_init 0 = .ok (.aload_n 0, 1) := by decide +kernel
theorem dX5_init_1 : decode cX5_init 1 = .ok (.invokespecial 1, 3) := by decide +kernel
theorem dX5_init_4 : decode cX5_init 4 = .ok (.aload_n 0, 1) := by decide +kernel
theorem dX5_init_5 : decode cX5_init 5 = .ok (.iconst 5, 1) := by decide +kernel
theorem dX5_init_6 : decode cX5_init 6 = .ok (.putfield 7, 3) := by decide +kernel
theorem dX5_init_9 : decode cX5_init 9 = .ok (.aload_n 0, 1) := by decide +kernel
theorem dX5_init_10 : decode cX5_init 10 = .ok (.iconst 4, 1) := by decide +kernel
theorem dX5_init_11 : decode cX5_init 11 = .ok (.newarray .int, 2) := by decide +kernel
theorem dX5_init_13 : decode cX5_init 13 = .ok (.dup, 1) := by decide +kernel
theorem dX5_init_14 : decode cX5_init 14 = .ok (.iconst 0, 1) := by decide +kernel
theorem dX5_init_15 : decode cX5_init 15 = .ok (.iconst 5, 1) := by decide +kernel
theorem dX5_init_16 : decode cX5_init 16 = .ok (.iastore, 1) := by decide +kernel
theorem dX5_init_17 : decode cX5_init 17 = .ok (.dup, 1) := by decide +kernel
theorem dX5_init_18 : decode cX5_init 18 = .ok (.iconst 1, 1) := by decide +kernel
theorem dX5_init_19 : decode cX5_init 19 = .ok (.iconst 5, 1) := by decide +kernel
theorem dX5_init_20 : decode cX5_init 20 = .ok (.iastore, 1) := by decide +kernel
theorem dX5_init_21 : decode cX5_init 21 = .ok (.dup, 1) := by decide +kernel
theorem dX5_init_22 : decode cX5_init 22 = .ok (.iconst 2, 1) := by decide +kernel
theorem dX5_init_23 : decode cX5_init 23 = .ok (.iconst 5, 1) := by decide +kernel
theorem dX5_init_24 : decode cX5_init 24 = .ok (.iastore, 1) := by decide +kernel
theorem dX5_init_25 : decode cX5_init 25 = .ok (.dup, 1) := by decide +kernel
theorem dX5_init_26 : decode cX5_init 26 = .ok (.iconst 3, 1) := by decide +kernel
theorem dX5_init_27 : decode cX5_init 27 = .ok (.iconst 5, 1) := by decide +kernel
theorem dX5_init_28 : decode cX5_init 28 = .ok (.iastore, 1) := by decide +kernel
theorem dX5_init_29 : decode cX5_init 29 = .ok (.putfield 13, 3) := by decide +kernel
theorem dX5_init_32 : decode cX5_init 32 = .ok (.aload_n 0, 1) := by decide +kernel
theorem dX5_init_33 : decode cX5_init 33 = .ok (.iconst 0, 1) := by decide +kernel
theorem dX5_init_34 : decode cX5_init 34 = .ok (.anewarray 17, 3) := by decide +kernel
theorem dX5_init_37 : decode cX5_init 37 = .ok (.putfield 18, 3) := by decide +kernel
theorem dX5_init_40 : decode cX5_init 40 = .ok (.aload_n 0, 1) := by decide +kernel
theorem dX5_init_41 : decode cX5_init 41 = .ok (.iconst 0, 1) := by decide +kernel
theorem dX5_init_42 : decode cX5_init 42 = .ok (.anewarray 17, 3) := by decide +kernel
theorem dX5_init_45 : decode cX5_init 45 = .ok (.putfield 22, 3) := by decide +kernel
theorem dX5_init_48 : decode cX5_init 48 = .ok (.aload_n 0, 1) := by decide +kernel
theorem dX5_init_49 : decode cX5_init 49 = .ok (.iconst 0, 1) := by decide +kernel
theorem dX5_init_50 : decode cX5_init 50 = .ok (.newarray .int, 2) := by decide +kernel
theorem dX5_init_52 : decode cX5_init 52 = .ok (.putfield 25, 3) := by decide +kernel
theorem dX5_init_55 : decode cX5_init 55 = .ok (.return_, 1) := by decide +kernel
theorem dX5_more_0 : decode cX5_more 0 = .ok (.aload_n 0, 1) := by decide +kernel
theorem dX5_more_1 : decode cX5_more 1 = .ok (.arraylength, 1) := by decide +kernel
theorem dX5_more_2 : decode cX5_more 2 = .ok (.iconst 1, 1) := by decide +kernel
theorem dX5_more_3 : decode cX5_more 3 = .ok (.iadd, 1) := by decide +kernel
theorem dX5_more_4 : decode cX5_more 4 = .ok (.anewarray 17, 3) := by decide +kernel
theorem dX5_more_7 : decode cX5_more 7 = .ok (.astore_n 2, 1) := by decide +kernel
theorem dX5_more_8 : decode cX5_more 8 = .ok (.iconst 0, 1) := by decide +kernel
theorem dX5_more_9 : decode cX5_more 9 = .ok (.istore_n 3, 1) := by decide +kernel
theorem dX5_more_10 : decode cX5_more 10 = .ok (.iload_n 3, 1) := by decide +kernel
theorem dX5_more_11 : decode cX5_more 11 = .ok (.aload_n 0, 1) := by decide +kernel
theorem dX5_more_12 : decode cX5_more 12 = .ok (.arraylength, 1) := by decide +kernel
theorem dX5_more_13 : decode cX5_more 13 = .ok (.if_icmp .ge 15, 3) := by decide +kernel
theorem dX5_more_16 : decode cX5_more 16 = .ok (.aload_n 2, 1) := by decide +kernel
theorem dX5_more_17 : decode cX5_more 17 = .ok (.iload_n 3, 1) := by decide +kernel
theorem dX5_more_18 : decode cX5_more 18 = .ok (.aload_n 0, 1) := by decide +kernel
theorem dX5_more_19 : decode cX5_more 19 = .ok (.iload_n 3, 1) := by decide +kernel
theorem dX5_more_20 : decode cX5_more 20 = .ok (.aaload, 1) := by decide +kernel
theorem dX5_more_21 : decode cX5_more 21 = .ok (.aastore, 1) := by decide +kernel
theorem dX5_more_22 : decode cX5_more 22 = .ok (.iinc 3 1, 3) := by decide +kernel
theorem dX5_more_25 : decode cX5_more 25 = .ok (.goto (-15), 3) := by decide +kernel
theorem dX5_more_28 : decode cX5_more 28 = .ok (.aload_n 2, 1) := by decide +kernel
theorem dX5_more_29 : decode cX5_more 29 = .ok (.aload_n 0, 1) := by decide +kernel
theorem dX5_more_30 : decode cX5_more 30 = .ok (.arraylength, 1) := by decide +kernel
theorem dX5_more_31 : decode cX5_more 31 = .ok (.aload_n 1, 1) := by decide +kernel
theorem dX5_more_32 : decode cX5_more 32 = .ok (.aastore, 1) := by decide +kernel
theorem dX5_more_33 : decode cX5_more 33 = .ok (.aload_n 2, 1) := by decide +kernel
theorem dX5_more_34 : decode cX5_more 34 = .ok (.areturn, 1) := by decide +kernel
theorem dX5_put_0 : decode cX5_put 0 = .ok (.aload_n 0, 1) := by decide +kernel
theorem dX5_put_1 : decode cX5_put 1 = .ok (.getfield 22, 3) := by decide +kernel
theorem dX5_put_4 : decode cX5_put 4 = .ok (.iload_n 1, 1) := by decide +kernel
theorem dX5_put_5 : decode cX5_put 5 = .ok (.aaload, 1) := by decide +kernel
theorem dX5_put_6 : decode cX5_put 6 = .ok (.iconst 3, 1) := by decide +kernel
theorem dX5_put_7 : decode cX5_put 7 = .ok (.iload_n 2, 1) := by decide +kernel
theorem dX5_put_8 : decode cX5_put 8 = .ok (.iastore, 1) := by decide +kernel
theorem dX5_put_9 : decode cX5_put 9 = .ok (.aload_n 0, 1) := by decide +kernel
theorem dX5_put_10 : decode cX5_put 10 = .ok (.getfield 22, 3) := by decide +kernel
theorem dX5_put_13 : decode cX5_put 13 = .ok (.iload_n 1, 1) := by decide +kernel
theorem dX5_put_14 : decode cX5_put 14 = .ok (.aaload, 1) := by decide +kernel
theorem dX5_put_15 : decode cX5_put 15 = .ok (.iconst 4, 1) := by decide +kernel
theorem dX5_put_16 : decode cX5_put 16 = .ok (.iload_n 3, 1) := by decide +kernel
theorem dX5_put_17 : decode cX5_put 17 = .ok (.iastore, 1) := by decide +kernel
theorem dX5_put_18 : decode cX5_put 18 = .ok (.return_, 1) := by decide +kernel
theorem dX5_begin_0 : decode cX5_begin 0 = .ok (.aload_n 0, 1) := by decide +kernel
theorem dX5_begin_1 : decode cX5_begin 1 = .ok (.getfield 22, 3) := by decide +kernel
theorem dX5_begin_4 : decode cX5_begin 4 = .ok (.iload_n 1, 1) := by decide +kernel
theorem dX5_begin_5 : decode cX5_begin 5 = .ok (.aaload, 1) := by decide +kernel
theorem dX5_begin_6 : decode cX5_begin 6 = .ok (.iconst 5, 1) := by decide +kernel
theorem dX5_begin_7 : decode cX5_begin 7 = .ok (.iconst (-1), 1) := by decide +kernel
theorem dX5_begin_8 : decode cX5_begin 8 = .ok (.iastore, 1) := by decide +kernel
theorem dX5_begin_9 : decode cX5_begin 9 = .ok (.aload_n 0, 1) := by decide +kernel
theorem dX5_begin_10 : decode cX5_begin 10 = .ok (.getfield 22, 3) := by decide +kernel
theorem dX5_begin_13 : decode cX5_begin 13 = .ok (.iload_n 1, 1) := by decide +kernel
theorem dX5_begin_14 : decode cX5_begin 14 = .ok (.aaload, 1) := by decide +kernel
theorem dX5_begin_15 : decode cX5_begin 15 = .ok (.bipush 6, 2) := by decide +kernel
theorem dX5_begin_17 : decode cX5_begin 17 = .ok (.iconst 0, 1) := by decide +kernel
theorem dX5_begin_18 : decode cX5_begin 18 = .ok (.iastore, 1) := by decide +kernel
theorem dX5_begin_19 : decode cX5_begin 19 = .ok (.aload_n 0, 1) := by decide +kernel
theorem dX5_begin_20 : decode cX5_begin 20 = .ok (.getfield 22, 3) := by decide +kernel
theorem dX5_begin_23 : decode cX5_begin 23 = .ok (.iload_n 1, 1) := by decide +kernel
theorem dX5_begin_24 : decode cX5_begin 24 = .ok (.aaload, 1) := by decide +kernel
theorem dX5_begin_25 : decode cX5_begin 25 = .ok (.iconst 1, 1) := by decide +kernel
theorem dX5_begin_26 : decode cX5_begin 26 = .ok (.iaload, 1) := by decide +kernel
theorem dX5_begin_27 : decode cX5_begin 27 = .ok (.bipush 7, 2) := by decide +kernel
theorem dX5_begin_29 : decode cX5_begin 29 = .ok (.if_icmp .le 11, 3) := by decide +kernel
theorem dX5_begin_32 : decode cX5_begin 32 = .ok (.aload_n 0, 1) := by decide +kernel
theorem dX5_begin_33 : decode cX5_begin 33 = .ok (.iload_n 1, 1) := by decide +kernel
theorem dX5_begin_34 : decode cX5_begin 34 = .ok (.iconst 4, 1) := by decide +kernel
theorem dX5_begin_35 : decode cX5_begin 35 = .ok (.iconst (-1), 1) := by decide +kernel
theorem dX5_begin_36 : decode cX5_begin 36 = .ok (.invokevirtual 36, 3) := by decide +kernel
theorem dX5_begin_39 : decode cX5_begin 39 = .ok (.return_, 1) := by decide +kernel
theorem dX5_begin_40 : decode cX5_begin 40 = .ok (.aload_n 0, 1) := by decide +kernel
theorem dX5_begin_41 : decode cX5_begin 41 = .ok (.iload_n 1, 1) := by decide +kernel
theorem dX5_begin_42 : decode cX5_begin 42 = .ok (.iconst 0, 1) := by decide +kernel
theorem dX5_begin_43 : decode cX5_begin 43 = .ok (.iconst (-1), 1) := by decide +kernel
theorem dX5_begin_44 : decode cX5_begin 44 = .ok (.invokevirtual 36, 3) := by decide +kernel
theorem dX5_begin_47 : decode cX5_begin 47 = .ok (.aload_n 0, 1) := by decide +kernel
theorem dX5_begin_48 : decode cX5_begin 48 = .ok (.getfield 25, 3) := by decide +kernel
theorem dX5_begin_51 : decode cX5_begin 51 = .ok (.arraylength, 1) := by decide +kernel
theorem dX5_begin_52 : decode cX5_begin 52 = .ok (.iconst 1, 1) := by decide +kernel
theorem dX5_begin_53 : decode cX5_begin 53 = .ok (.iadd, 1) := by decide +kernel
theorem dX5_begin_54 : decode cX5_begin 54 = .ok (.newarray .int, 2) := by decide +kernel
theorem dX5_begin_56 : decode cX5_begin 56 = .ok (.astore_n 2, 1) := by decide +kernel
theorem dX5_begin_57 : decode cX5_begin 57 = .ok (.iconst 0, 1) := by decide +kernel
theorem dX5_begin_58 : decode cX5_begin 58 = .ok (.istore_n 3, 1) := by decide +kernel
theorem dX5_begin_59 : decode cX5_begin 59 = .ok (.iload_n 3, 1) := by decide +kernel
theorem dX5_begin_60 : decode cX5_begin 60 = .ok (.aload_n 0, 1) := by decide +kernel
theorem dX5_begin_61 : decode cX5_begin 61 = .ok (.getfield 25, 3) := by decide +kernel
theorem dX5_begin_64 : decode cX5_begin 64 = .ok (.arraylength, 1) := by decide +kernel
theorem dX5_begin_65 : decode cX5_begin 65 = .ok (.if_icmp .ge 18, 3) := by decide +kernel
theorem dX5_begin_68 : decode cX5_begin 68 = .ok (.aload_n 2, 1) := by decide +kernel
theorem dX5_begin_69 : decode cX5_begin 69 = .ok (.iload_n 3, 1) := by decide +kernel
theorem dX5_begin_70 : decode cX5_begin 70 = .ok (.aload_n 0, 1) := by decide +kernel
theorem dX5_begin_71 : decode cX5_begin 71 = .ok (.getfield 25, 3) := by decide +kernel
theorem dX5_begin_74 : decode cX5_begin 74 = .ok (.iload_n 3, 1) := by decide +kernel
theorem dX5_begin_75 : decode cX5_begin 75 = .ok (.iaload, 1) := by decide +kernel
theorem dX5_begin_76 : decode cX5_begin 76 = .ok (.iastore, 1) := by decide +kernel
theorem dX5_begin_77 : decode cX5_begin 77 = .ok (.iinc 3 1, 3) := by decide +kernel
theorem dX5_begin_80 : decode cX5_begin 80 = .ok (.goto (-21), 3) := by decide +kernel
theorem dX5_begin_83 : decode cX5_begin 83 = .ok (.aload_n 2, 1) := by decide +kernel
theorem dX5_begin_84 : decode cX5_begin 84 = .ok (.aload_n 0, 1) := by decide +kernel
theorem dX5_begin_85 : decode cX5_begin 85 = .ok (.getfield 25, 3) := by decide +kernel
theorem dX5_begin_88 : decode cX5_begin 88 = .ok (.arraylength, 1) := by decide +kernel
theorem dX5_begin_89 : decode cX5_begin 89 = .ok (.iload_n 1, 1) := by decide +kernel
theorem dX5_begin_90 : decode cX5_begin 90 = .ok (.iastore, 1) := by decide +kernel
theorem dX5_begin_91 : decode cX5_begin 91 = .ok (.aload_n 0, 1) := by decide +kernel
theorem dX5_begin_92 : decode cX5_begin 92 = .ok (.aload_n 2, 1) := by decide +kernel
theorem dX5_begin_93 : decode cX5_begin 93 = .ok (.putfield 25, 3) := by decide +kernel
theorem dX5_begin_96 : decode cX5_begin 96 = .ok (.return_, 1) := by decide +kernel
theorem dX5_on_0 : decode cX5_on 0 = .ok (.iconst 0, 1) := by decide +kernel
theorem dX5_on_1 : decode cX5_on 1 = .ok (.istore_n 2, 1) := by decide +kernel
theorem dX5_on_2 : decode cX5_on 2 = .ok (.iload_n 2, 1) := by decide +kernel
theorem dX5_on_3 : decode cX5_on 3 = .ok (.aload_n 0, 1) := by decide +kernel
theorem dX5_on_4 : decode cX5_on 4 = .ok (.getfield 22, 3) := by decide +kernel
theorem dX5_on_7 : decode cX5_on 7 = .ok (.arraylength, 1) := by decide +kernel
theorem dX5_on_8 : decode cX5_on 8 = .ok (.if_icmp .ge 35, 3) := by decide +kernel
theorem dX5_on_11 : decode cX5_on 11 = .ok (.aload_n 0, 1) := by decide +kernel
theorem dX5_on_12 : decode cX5_on 12 = .ok (.getfield 22, 3) := by decide +kernel
theorem dX5_on_15 : decode cX5_on 15 = .ok (.iload_n 2, 1) := by decide +kernel
theorem dX5_on_16 : decode cX5_on 16 = .ok (.aaload, 1) := by decide +kernel
theorem dX5_on_17 : decode cX5_on 17 = .ok (.iconst 3, 1) := by decide +kernel
theorem dX5_on_18 : decode cX5_on 18 = .ok (.iaload, 1) := by decide +kernel
theorem dX5_on_19 : decode cX5_on 19 = .ok (.iconst 1, 1) := by decide +kernel
theorem dX5_on_20 : decode cX5_on 20 = .ok (.if_icmp .ne 17, 3) := by decide +kernel
theorem dX5_on_23 : decode cX5_on 23 = .ok (.aload_n 0, 1) := by decide +kernel
theorem dX5_on_24 : decode cX5_on 24 = .ok (.getfield 22, 3) := by decide +kernel
theorem dX5_on_27 : decode cX5_on 27 = .ok (.iload_n 2, 1) := by decide +kernel
theorem dX5_on_28 : decode cX5_on 28 = .ok (.aaload, 1) := by decide +kernel
theorem dX5_on_29 : decode cX5_on 29 = .ok (.iconst 4, 1) := by decide +kernel
theorem dX5_on_30 : decode cX5_on 30 = .ok (.iaload, 1) := by decide +kernel
theorem dX5_on_31 : decode cX5_on 31 = .ok (.iload_n 1, 1) := by decide +kernel
theorem dX5_on_32 : decode cX5_on 32 = .ok (.if_icmp .ne 5, 3) := by decide +kernel
theorem dX5_on_35 : decode cX5_on 35 = .ok (.iload_n 2, 1) := by decide +kernel
theorem dX5_on_36 : decode cX5_on 36 = .ok (.ireturn, 1) := by decide +kernel
theorem dX5_on_37 : decode cX5_on 37 = .ok (.iinc 2 1, 3) := by decide +kernel
theorem dX5_on_40 : decode cX5_on 40 = .ok (.goto (-38), 3) := by decide +kernel
theorem dX5_on_43 : decode cX5_on 43 = .ok (.iconst (-1), 1) := by decide +kernel
theorem dX5_on_44 : decode cX5_on 44 = .ok (.ireturn, 1) := by decide +kernel
theorem dX5_in_0 : decode cX5_in 0 = .ok (.iconst 0, 1) := by decide +kernel
theorem dX5_in_1 : decode cX5_in 1 = .ok (.istore_n 2, 1) := by decide +kernel
theorem dX5_in_2 : decode cX5_in 2 = .ok (.aload_n 0, 1) := by decide +kernel
theorem dX5_in_3 : decode cX5_in 3 = .ok (.getfield 22, 3) := by decide +kernel
theorem dX5_in_6 : decode cX5_in 6 = .ok (.astore_n 3, 1) := by decide +kernel
theorem dX5_in_7 : decode cX5_in 7 = .ok (.aload_n 3, 1) := by decide +kernel
theorem dX5_in_8 : decode cX5_in 8 = .ok (.arraylength, 1) := by decide +kernel
theorem dX5_in_9 : decode cX5_in 9 = .ok (.istore 4, 2) := by decide +kernel
theorem dX5_in_11 : decode cX5_in 11 = .ok (.iconst 0, 1) := by decide +kernel
theorem dX5_in_12 : decode cX5_in 12 = .ok (.istore 5, 2) := by decide +kernel
theorem dX5_in_14 : decode cX5_in 14 = .ok (.iload 5, 2) := by decide +kernel
theorem dX5_in_16 : decode cX5_in 16 = .ok (.iload 4, 2) := by decide +kernel
theorem dX5_in_18 : decode cX5_in 18 = .ok (.if_icmp .ge 39, 3) := by decide +kernel
theorem dX5_in_21 : decode cX5_in 21 = .ok (.aload_n 3, 1) := by decide +kernel
theorem dX5_in_22 : decode cX5_in 22 = .ok (.iload 5, 2) := by decide +kernel
theorem dX5_in_24 : decode cX5_in 24 = .ok (.aaload, 1) := by decide +kernel
theorem dX5_in_25 : decode cX5_in 25 = .ok (.astore 6, 2) := by decide +kernel
theorem dX5_in_27 : decode cX5_in 27 = .ok (.iload_n 2, 1) := by decide +kernel
theorem dX5_in_28 : decode cX5_in 28 = .ok (.aload 6, 2) := by decide +kernel
theorem dX5_in_30 : decode cX5_in 30 = .ok (.iconst 3, 1) := by decide +kernel
theorem dX5_in_31 : decode cX5_in 31 = .ok (.iaload, 1) := by decide +kernel
theorem dX5_in_32 : decode cX5_in 32 = .ok (.iconst 2, 1) := by decide +kernel
theorem dX5_in_33 : decode cX5_in 33 = .ok (.if_icmp .ne 15, 3) := by decide +kernel
theorem dX5_in_36 : decode cX5_in 36 = .ok (.aload 6, 2) := by decide +kernel
theorem dX5_in_38 : decode cX5_in 38 = .ok (.iconst 4, 1) := by decide +kernel
theorem dX5_in_39 : decode cX5_in 39 = .ok (.iaload, 1) := by decide +kernel
theorem dX5_in_40 : decode cX5_in 40 = .ok (.iload_n 1, 1) := by decide +kernel
theorem dX5_in_41 : decode cX5_in 41 = .ok (.if_icmp .ne 7, 3) := by decide +kernel
theorem dX5_in_44 : decode cX5_in 44 = .ok (.iconst 1, 1) := by decide +kernel
theorem dX5_in_45 : decode cX5_in 45 = .ok (.goto 4, 3) := by decide +kernel
theorem dX5_in_48 : decode cX5_in 48 = .ok (.iconst 0, 1) := by decide +kernel
theorem dX5_in_49 : decode cX5_in 49 = .ok (.iadd, 1) := by decide +kernel
theorem dX5_in_50 : decode cX5_in 50 = .ok (.istore_n 2, 1) := by decide +kernel
theorem dX5_in_51 : decode cX5_in 51 = .ok (.iinc 5 1, 3) := by decide +kernel
theorem dX5_in_54 : decode cX5_in 54 = .ok (.goto (-40), 3) := by decide +kernel
theorem dX5_in_57 : decode cX5_in 57 = .ok (.iload_n 2, 1) := by decide +kernel
theorem dX5_in_58 : decode cX5_in 58 = .ok (.ireturn, 1) := by decide +kernel
theorem dX5_go_0 : decode cX5_go 0 = .ok (.aload_n 0, 1) := by decide +kernel
theorem dX5_go_1 : decode cX5_go 1 = .ok (.getfield 22, 3) := by decide +kernel
theorem dX5_go_4 : decode cX5_go 4 = .ok (.astore_n 1, 1) := by decide +kernel
theorem dX5_go_5 : decode cX5_go 5 = .ok (.aload_n 1, 1) := by decide +kernel
theorem dX5_go_6 : decode cX5_go 6 = .ok (.arraylength, 1) := by decide +kernel
theorem dX5_go_7 : decode cX5_go 7 = .ok (.istore_n 2, 1) := by decide +kernel
theorem dX5_go_8 : decode cX5_go 8 = .ok (.iconst 0, 1) := by decide +kernel
theorem dX5_go_9 : decode cX5_go 9 = .ok (.istore_n 3, 1) := by decide +kernel
theorem dX5_go_10 : decode cX5_go 10 = .ok (.iload_n 3, 1) := by decide +kernel
theorem dX5_go_11 : decode cX5_go 11 = .ok (.iload_n 2, 1) := by decide +kernel
theorem dX5_go_12 : decode cX5_go 12 = .ok (.if_icmp .ge 35, 3) := by decide +kernel
theorem dX5_go_15 : decode cX5_go 15 = .ok (.aload_n 1, 1) := by decide +kernel
theorem dX5_go_16 : decode cX5_go 16 = .ok (.iload_n 3, 1) := by decide +kernel
theorem dX5_go_17 : decode cX5_go 17 = .ok (.aaload, 1) := by decide +kernel
theorem dX5_go_18 : decode cX5_go 18 = .ok (.astore 4, 2) := by decide +kernel
theorem dX5_go_20 : decode cX5_go 20 = .ok (.aload 4, 2) := by decide +kernel
theorem dX5_go_22 : decode cX5_go 22 = .ok (.iconst 3, 1) := by decide +kernel
theorem dX5_go_23 : decode cX5_go 23 = .ok (.iaload, 1) := by decide +kernel
theorem dX5_go_24 : decode cX5_go 24 = .ok (.iconst 1, 1) := by decide +kernel
theorem dX5_go_25 : decode cX5_go 25 = .ok (.if_icmp .ne 16, 3) := by decide +kernel
theorem dX5_go_28 : decode cX5_go 28 = .ok (.aload 4, 2) := by decide +kernel
theorem dX5_go_30 : decode cX5_go 30 = .ok (.iconst 4, 1) := by decide +kernel
theorem dX5_go_31 : decode cX5_go 31 = .ok (.aload 4, 2) := by decide +kernel
theorem dX5_go_33 : decode cX5_go 33 = .ok (.iconst 4, 1) := by decide +kernel
theorem dX5_go_34 : decode cX5_go 34 = .ok (.iaload, 1) := by decide +kernel
theorem dX5_go_35 : decode cX5_go 35 = .ok (.iconst 1, 1) := by decide +kernel
theorem dX5_go_36 : decode cX5_go 36 = .ok (.iadd, 1) := by decide +kernel
theorem dX5_go_37 : decode cX5_go 37 = .ok (.bipush 12, 2) := by decide +kernel
theorem dX5_go_39 : decode cX5_go 39 = .ok (.irem, 1) := by decide +kernel
theorem dX5_go_40 : decode cX5_go 40 = .ok (.iastore, 1) := by decide +kernel
theorem dX5_go_41 : decode cX5_go 41 = .ok (.iinc 3 1, 3) := by decide +kernel
theorem dX5_go_44 : decode cX5_go 44 = .ok (.goto (-34), 3) := by decide +kernel
theorem dX5_go_47 : decode cX5_go 47 = .ok (.aload_n 0, 1) := by decide +kernel
theorem dX5_go_48 : decode cX5_go 48 = .ok (.iconst 2, 1) := by decide +kernel
theorem dX5_go_49 : decode cX5_go 49 = .ok (.invokevirtual 40, 3) := by decide +kernel
theorem dX5_go_52 : decode cX5_go 52 = .ok (.istore_n 1, 1) := by decide +kernel
theorem dX5_go_53 : decode cX5_go 53 = .ok (.iload_n 1, 1) := by decide +kernel
theorem dX5_go_54 : decode cX5_go 54 = .ok (.ifCond .lt 76, 3) := by decide +kernel
theorem dX5_go_57 : decode cX5_go 57 = .ok (.aload_n 0, 1) := by decide +kernel
theorem dX5_go_58 : decode cX5_go 58 = .ok (.getfield 22, 3) := by decide +kernel
theorem dX5_go_61 : decode cX5_go 61 = .ok (.iload_n 1, 1) := by decide +kernel
theorem dX5_go_62 : decode cX5_go 62 = .ok (.aaload, 1) := by decide +kernel
theorem dX5_go_63 : decode cX5_go 63 = .ok (.iconst 5, 1) := by decide +kernel
theorem dX5_go_64 : decode cX5_go 64 = .ok (.iaload, 1) := by decide +kernel
theorem dX5_go_65 : decode cX5_go 65 = .ok (.ifCond .ge 65, 3) := by decide +kernel
theorem dX5_go_68 : decode cX5_go 68 = .ok (.aload_n 0, 1) := by decide +kernel
theorem dX5_go_69 : decode cX5_go 69 = .ok (.getfield 22, 3) := by decide +kernel
theorem dX5_go_72 : decode cX5_go 72 = .ok (.iload_n 1, 1) := by decide +kernel
theorem dX5_go_73 : decode cX5_go 73 = .ok (.aaload, 1) := by decide +kernel
theorem dX5_go_74 : decode cX5_go 74 = .ok (.astore_n 2, 1) := by decide +kernel
theorem dX5_go_75 : decode cX5_go 75 = .ok (.aload_n 0, 1) := by decide +kernel
theorem dX5_go_76 : decode cX5_go 76 = .ok (.getfield 18, 3) := by decide +kernel
theorem dX5_go_79 : decode cX5_go 79 = .ok (.aload_n 2, 1) := by decide +kernel
theorem dX5_go_80 : decode cX5_go 80 = .ok (.iconst 0, 1) := by decide +kernel
theorem dX5_go_81 : decode cX5_go 81 = .ok (.iaload, 1) := by decide +kernel
theorem dX5_go_82 : decode cX5_go 82 = .ok (.aaload, 1) := by decide +kernel
theorem dX5_go_83 : decode cX5_go 83 = .ok (.iconst 0, 1) := by decide +kernel
theorem dX5_go_84 : decode cX5_go 84 = .ok (.iaload, 1) := by decide +kernel
theorem dX5_go_85 : decode cX5_go 85 = .ok (.istore_n 3, 1) := by decide +kernel
theorem dX5_go_86 : decode cX5_go 86 = .ok (.aload_n 2, 1) := by decide +kernel
theorem dX5_go_87 : decode cX5_go 87 = .ok (.iconst 2, 1) := by decide +kernel
theorem dX5_go_88 : decode cX5_go 88 = .ok (.iaload, 1) := by decide +kernel
theorem dX5_go_89 : decode cX5_go 89 = .ok (.aload_n 0, 1) := by decide +kernel
theorem dX5_go_90 : decode cX5_go 90 = .ok (.getfield 7, 3) := by decide +kernel
theorem dX5_go_93 : decode cX5_go 93 = .ok (.if_icmp .gt 14, 3) := by decide +kernel
theorem dX5_go_96 : decode cX5_go 96 = .ok (.iload_n 3, 1) := by decide +kernel
theorem dX5_go_97 : decode cX5_go 97 = .ok (.ifCond .lt 10, 3) := by decide +kernel
theorem dX5_go_100 : decode cX5_go 100 = .ok (.aload_n 2, 1) := by decide +kernel
theorem dX5_go_101 : decode cX5_go 101 = .ok (.iconst 5, 1) := by decide +kernel
theorem dX5_go_102 : decode cX5_go 102 = .ok (.iload_n 3, 1) := by decide +kernel
theorem dX5_go_103 : decode cX5_go 103 = .ok (.iastore, 1) := by decide +kernel
theorem dX5_go_104 : decode cX5_go 104 = .ok (.goto 26, 3) := by decide +kernel
theorem dX5_go_107 : decode cX5_go 107 = .ok (.aload_n 2, 1) := by decide +kernel
theorem dX5_go_108 : decode cX5_go 108 = .ok (.bipush 6, 2) := by decide +kernel
theorem dX5_go_110 : decode cX5_go 110 = .ok (.dup2, 1) := by decide +kernel
theorem dX5_go_111 : decode cX5_go 111 = .ok (.iaload, 1) := by decide +kernel
theorem dX5_go_112 : decode cX5_go 112 = .ok (.iconst 1, 1) := by decide +kernel
theorem dX5_go_113 : decode cX5_go 113 = .ok (.iadd, 1) := by decide +kernel
theorem dX5_go_114 : decode cX5_go 114 = .ok (.iastore, 1) := by decide +kernel
theorem dX5_go_115 : decode cX5_go 115 = .ok (.aload_n 2, 1) := by decide +kernel
theorem dX5_go_116 : decode cX5_go 116 = .ok (.bipush 6, 2) := by decide +kernel
theorem dX5_go_118 : decode cX5_go 118 = .ok (.iaload, 1) := by decide +kernel
theorem dX5_go_119 : decode cX5_go 119 = .ok (.iconst 3, 1) := by decide +kernel
theorem dX5_go_120 : decode cX5_go 120 = .ok (.if_icmp .ne 10, 3) := by decide +kernel
theorem dX5_go_123 : decode cX5_go 123 = .ok (.aload_n 0, 1) := by decide +kernel
theorem dX5_go_124 : decode cX5_go 124 = .ok (.iload_n 1, 1) := by decide +kernel
theorem dX5_go_125 : decode cX5_go 125 = .ok (.iconst 3, 1) := by decide +kernel
theorem dX5_go_126 : decode cX5_go 126 = .ok (.iconst (-1), 1) := by decide +kernel
theorem dX5_go_127 : decode cX5_go 127 = .ok (.invokevirtual 36, 3) := by decide +kernel
theorem dX5_go_130 : decode cX5_go 130 = .ok (.iconst 0, 1) := by decide +kernel
theorem dX5_go_131 : decode cX5_go 131 = .ok (.istore_n 2, 1) := by decide +kernel
theorem dX5_go_132 : decode cX5_go 132 = .ok (.iconst 0, 1) := by decide +kernel
theorem dX5_go_133 : decode cX5_go 133 = .ok (.istore_n 3, 1) := by decide +kernel
theorem dX5_go_134 : decode cX5_go 134 = .ok (.iload_n 3, 1) := by decide +kernel
theorem dX5_go_135 : decode cX5_go 135 = .ok (.iconst 4, 1) := by decide +kernel
theorem dX5_go_136 : decode cX5_go 136 = .ok (.if_icmp .ge 66, 3) := by decide +kernel
theorem dX5_go_139 : decode cX5_go 139 = .ok (.aload_n 0, 1) := by decide +kernel
theorem dX5_go_140 : decode cX5_go 140 = .ok (.iconst 4, 1) := by decide +kernel
theorem dX5_go_141 : decode cX5_go 141 = .ok (.iconst 2, 1) := by decide +kernel
theorem dX5_go_142 : decode cX5_go 142 = .ok (.iload_n 3, 1) := by decide +kernel
theorem dX5_go_143 : decode cX5_go 143 = .ok (.imul, 1) := by decide +kernel
theorem dX5_go_144 : decode cX5_go 144 = .ok (.iadd, 1) := by decide +kernel
theorem dX5_go_145 : decode cX5_go 145 = .ok (.invokevirtual 40, 3) := by decide +kernel
theorem dX5_go_148 : decode cX5_go 148 = .ok (.istore 4, 2) := by decide +kernel
theorem dX5_go_150 : decode cX5_go 150 = .ok (.iload 4, 2) := by decide +kernel
theorem dX5_go_152 : decode cX5_go 152 = .ok (.ifCond .lt 44, 3) := by decide +kernel
theorem dX5_go_155 : decode cX5_go 155 = .ok (.aload_n 0, 1) := by decide +kernel
theorem dX5_go_156 : decode cX5_go 156 = .ok (.getfield 22, 3) := by decide +kernel
theorem dX5_go_159 : decode cX5_go 159 = .ok (.iload 4, 2) := by decide +kernel
theorem dX5_go_161 : decode cX5_go 161 = .ok (.aaload, 1) := by decide +kernel
theorem dX5_go_162 : decode cX5_go 162 = .ok (.iconst 5, 1) := by decide +kernel
theorem dX5_go_163 : decode cX5_go 163 = .ok (.iaload, 1) := by decide +kernel
theorem dX5_go_164 : decode cX5_go 164 = .ok (.iload_n 3, 1) := by decide +kernel
theorem dX5_go_165 : decode cX5_go 165 = .ok (.if_icmp .ne 31, 3) := by decide +kernel
theorem dX5_go_168 : decode cX5_go 168 = .ok (.aload_n 0, 1) := by decide +kernel
theorem dX5_go_169 : decode cX5_go 169 = .ok (.iload_n 3, 1) := by decide +kernel
theorem dX5_go_170 : decode cX5_go 170 = .ok (.invokevirtual 44, 3) := by decide +kernel
theorem dX5_go_173 : decode cX5_go 173 = .ok (.aload_n 0, 1) := by decide +kernel
theorem dX5_go_174 : decode cX5_go 174 = .ok (.getfield 13, 3) := by decide +kernel
theorem dX5_go_177 : decode cX5_go 177 = .ok (.iload_n 3, 1) := by decide +kernel
theorem dX5_go_178 : decode cX5_go 178 = .ok (.iaload, 1) := by decide +kernel
theorem dX5_go_179 : decode cX5_go 179 = .ok (.if_icmp .lt 6, 3) := by decide +kernel
theorem dX5_go_182 : decode cX5_go 182 = .ok (.goto 14, 3) := by decide +kernel
theorem dX5_go_185 : decode cX5_go 185 = .ok (.aload_n 0, 1) := by decide +kernel
theorem dX5_go_186 : decode cX5_go 186 = .ok (.iload 4, 2) := by decide +kernel
theorem dX5_go_188 : decode cX5_go 188 = .ok (.iconst 2, 1) := by decide +kernel
theorem dX5_go_189 : decode cX5_go 189 = .ok (.iload_n 3, 1) := by decide +kernel
theorem dX5_go_190 : decode cX5_go 190 = .ok (.invokevirtual 36, 3) := by decide +kernel
theorem dX5_go_193 : decode cX5_go 193 = .ok (.iinc 2 1, 3) := by decide +kernel
theorem dX5_go_196 : decode cX5_go 196 = .ok (.iinc 3 1, 3) := by decide +kernel
theorem dX5_go_199 : decode cX5_go 199 = .ok (.goto (-65), 3) := by decide +kernel
theorem dX5_go_202 : decode cX5_go 202 = .ok (.aload_n 0, 1) := by decide +kernel
theorem dX5_go_203 : decode cX5_go 203 = .ok (.iconst 0, 1) := by decide +kernel
theorem dX5_go_204 : decode cX5_go 204 = .ok (.invokevirtual 40, 3) := by decide +kernel
theorem dX5_go_207 : decode cX5_go 207 = .ok (.ifCond .ge 67, 3) := by decide +kernel
theorem dX5_go_210 : decode cX5_go 210 = .ok (.aload_n 0, 1) := by decide +kernel
theorem dX5_go_211 : decode cX5_go 211 = .ok (.getfield 25, 3) := by decide +kernel
theorem dX5_go_214 : decode cX5_go 214 = .ok (.arraylength, 1) := by decide +kernel
theorem dX5_go_215 : decode cX5_go 215 = .ok (.ifCond .le 59, 3) := by decide +kernel
theorem dX5_go_218 : decode cX5_go 218 = .ok (.aload_n 0, 1) := by decide +kernel
theorem dX5_go_219 : decode cX5_go 219 = .ok (.aload_n 0, 1) := by decide +kernel
theorem dX5_go_220 : decode cX5_go 220 = .ok (.getfield 25, 3) := by decide +kernel
theorem dX5_go_223 : decode cX5_go 223 = .ok (.iconst 0, 1) := by decide +kernel
theorem dX5_go_224 : decode cX5_go 224 = .ok (.iaload, 1) := by decide +kernel
theorem dX5_go_225 : decode cX5_go 225 = .ok (.iconst 1, 1) := by decide +kernel
theorem dX5_go_226 : decode cX5_go 226 = .ok (.iconst 0, 1) := by decide +kernel
theorem dX5_go_227 : decode cX5_go 227 = .ok (.invokevirtual 36, 3) := by decide +kernel
theorem dX5_go_230 : decode cX5_go 230 = .ok (.aload_n 0, 1) := by decide +kernel
theorem dX5_go_231 : decode cX5_go 231 = .ok (.getfield 25, 3) := by decide +kernel
theorem dX5_go_234 : decode cX5_go 234 = .ok (.arraylength, 1) := by decide +kernel
theorem dX5_go_235 : decode cX5_go 235 = .ok (.iconst 1, 1) := by decide +kernel
theorem dX5_go_236 : decode cX5_go 236 = .ok (.isub, 1) := by decide +kernel
theorem dX5_go_237 : decode cX5_go 237 = .ok (.newarray .int, 2) := by decide +kernel
theorem dX5_go_239 : decode cX5_go 239 = .ok (.astore_n 3, 1) := by decide +kernel
theorem dX5_go_240 : decode cX5_go 240 = .ok (.iconst 0, 1) := by decide +kernel
theorem dX5_go_241 : decode cX5_go 241 = .ok (.istore 4, 2) := by decide +kernel
theorem dX5_go_243 : decode cX5_go 243 = .ok (.iload 4, 2) := by decide +kernel
theorem dX5_go_245 : decode cX5_go 245 = .ok (.aload_n 3, 1) := by decide +kernel
theorem dX5_go_246 : decode cX5_go 246 = .ok (.arraylength, 1) := by decide +kernel
theorem dX5_go_247 : decode cX5_go 247 = .ok (.if_icmp .ge 22, 3) := by decide +kernel
theorem dX5_go_250 : decode cX5_go 250 = .ok (.aload_n 3, 1) := by decide +kernel
theorem dX5_go_251 : decode cX5_go 251 = .ok (.iload 4, 2) := by decide +kernel
theorem dX5_go_253 : decode cX5_go 253 = .ok (.aload_n 0, 1) := by decide +kernel
theorem dX5_go_254 : decode cX5_go 254 = .ok (.getfield 25, 3) := by decide +kernel
theorem dX5_go_257 : decode cX5_go 257 = .ok (.iload 4, 2) := by decide +kernel
theorem dX5_go_259 : decode cX5_go 259 = .ok (.iconst 1, 1) := by decide +kernel
theorem dX5_go_260 : decode cX5_go 260 = .ok (.iadd, 1) := by decide +kernel
theorem dX5_go_261 : decode cX5_go 261 = .ok (.iaload, 1) := by decide +kernel
theorem dX5_go_262 : decode cX5_go 262 = .ok (.iastore, 1) := by decide +kernel
theorem dX5_go_263 : decode cX5_go 263 = .ok (.iinc 4 1, 3) := by decide +kernel
theorem dX5_go_266 : decode cX5_go 266 = .ok (.goto (-23), 3) := by decide +kernel
theorem dX5_go_269 : decode cX5_go 269 = .ok (.aload_n 0, 1) := by decide +kernel
theorem dX5_go_270 : decode cX5_go 270 = .ok (.aload_n 3, 1) := by decide +kernel
theorem dX5_go_271 : decode cX5_go 271 = .ok (.putfield 25, 3) := by decide +kernel
theorem dX5_go_274 : decode cX5_go 274 = .ok (.aload_n 0, 1) := by decide +kernel
theorem dX5_go_275 : decode cX5_go 275 = .ok (.dup, 1) := by decide +kernel
theorem dX5_go_276 : decode cX5_go 276 = .ok (.getfield 29, 3) := by decide +kernel
theorem dX5_go_279 : decode cX5_go 279 = .ok (.iconst 1, 1) := by decide +kernel
theorem dX5_go_280 : decode cX5_go 280 = .ok (.iadd, 1) := by decide +kernel
theorem dX5_go_281 : decode cX5_go 281 = .ok (.putfield 29, 3) := by decide +kernel
theorem dX5_go_284 : decode cX5_go 284 = .ok (.iload_n 2, 1) := by decide +kernel
theorem dX5_go_285 : decode cX5_go 285 = .ok (.ireturn, 1) := by decide +kernel
theorem dX5_go__0 : decode cX5_go_ 0 = .ok (.iconst 0, 1) := by decide +kernel
theorem dX5_go__1 : decode cX5_go_ 1 = .ok (.istore_n 2, 1) := by decide +kernel
theorem dX5_go__2 : decode cX5_go_ 2 = .ok (.iconst 0, 1) := by decide +kernel
theorem dX5_go__3 : decode cX5_go_ 3 = .ok (.istore_n 3, 1) := by decide +kernel
theorem dX5_go__4 : decode cX5_go_ 4 = .ok (.iload_n 3, 1) := by decide +kernel
theorem dX5_go__5 : decode cX5_go_ 5 = .ok (.iload_n 1, 1) := by decide +kernel
theorem dX5_go__6 : decode cX5_go_ 6 = .ok (.if_icmp .ge 16, 3) := by decide +kernel
theorem dX5_go__9 : decode cX5_go_ 9 = .ok (.iload_n 2, 1) := by decide +kernel
theorem dX5_go__10 : decode cX5_go_ 10 = .ok (.aload_n 0, 1) := by decide +kernel
theorem dX5_go__11 : decode cX5_go_ 11 = .ok (.invokevirtual 47, 3) := by decide +kernel
theorem dX5_go__14 : decode cX5_go_ 14 = .ok (.iadd, 1) := by decide +kernel
theorem dX5_go__15 : decode cX5_go_ 15 = .ok (.istore_n 2, 1) := by decide +kernel
theorem dX5_go__16 : decode cX5_go_ 16 = .ok (.iinc 3 1, 3) := by decide +kernel
theorem dX5_go__19 : decode cX5_go_ 19 = .ok (.goto (-15), 3) := by decide +kernel
theorem dX5_go__22 : decode cX5_go_ 22 = .ok (.iload_n 2, 1) := by decide +kernel
theorem dX5_go__23 : decode cX5_go_ 23 = .ok (.ireturn, 1) := by decide +kernel
theorem dX5_isMisrouted_0 : decode cX5_isMisrouted 0 = .ok (.aload_n 0, 1) := by decide +kernel
theorem dX5_isMisrouted_1 : decode cX5_isMisrouted 1 = .ok (.getfield 18, 3) := by decide +kernel
theorem dX5_isMisrouted_4 : decode cX5_isMisrouted 4 = .ok (.aload_n 0, 1) := by decide +kernel
theorem dX5_isMisrouted_5 : decode cX5_isMisrouted 5 = .ok (.getfield 22, 3) := by decide +kernel
theorem dX5_isMisrouted_8 : decode cX5_isMisrouted 8 = .ok (.iload_n 1, 1) := by decide +kernel
theorem dX5_isMisrouted_9 : decode cX5_isMisrouted 9 = .ok (.aaload, 1) := by decide +kernel
theorem dX5_isMisrouted_10 : decode cX5_isMisrouted 10 = .ok (.iconst 0, 1) := by decide +kernel
theorem dX5_isMisrouted_11 : decode cX5_isMisrouted 11 = .ok (.iaload, 1) := by decide +kernel
theorem dX5_isMisrouted_12 : decode cX5_isMisrouted 12 = .ok (.aaload, 1) := by decide +kernel
theorem dX5_isMisrouted_13 : decode cX5_isMisrouted 13 = .ok (.astore_n 2, 1) := by decide +kernel
theorem dX5_isMisrouted_14 : decode cX5_isMisrouted 14 = .ok (.aload_n 0, 1) := by decide +kernel
theorem dX5_isMisrouted_15 : decode cX5_isMisrouted 15 = .ok (.getfield 22, 3) := by decide +kernel
theorem dX5_isMisrouted_18 : decode cX5_isMisrouted 18 = .ok (.iload_n 1, 1) := by decide +kernel
theorem dX5_isMisrouted_19 : decode cX5_isMisrouted 19 = .ok (.aaload, 1) := by decide +kernel
theorem dX5_isMisrouted_20 : decode cX5_isMisrouted 20 = .ok (.iconst 3, 1) := by decide +kernel
theorem dX5_isMisrouted_21 : decode cX5_isMisrouted 21 = .ok (.iaload, 1) := by decide +kernel
theorem dX5_isMisrouted_22 : decode cX5_isMisrouted 22 = .ok (.iconst 2, 1) := by decide +kernel
theorem dX5_isMisrouted_23 : decode cX5_isMisrouted 23 = .ok (.if_icmp .ne 28, 3) := by decide +kernel
theorem dX5_isMisrouted_26 : decode cX5_isMisrouted 26 = .ok (.aload_n 2, 1) := by decide +kernel
theorem dX5_isMisrouted_27 : decode cX5_isMisrouted 27 = .ok (.iconst 1, 1) := by decide +kernel
theorem dX5_isMisrouted_28 : decode cX5_isMisrouted 28 = .ok (.iaload, 1) := by decide +kernel
theorem dX5_isMisrouted_29 : decode cX5_isMisrouted 29 = .ok (.iconst 1, 1) := by decide +kernel
theorem dX5_isMisrouted_30 : decode cX5_isMisrouted 30 = .ok (.if_icmp .eq 17, 3) := by decide +kernel
theorem dX5_isMisrouted_33 : decode cX5_isMisrouted 33 = .ok (.aload_n 2, 1) := by decide +kernel
theorem dX5_isMisrouted_34 : decode cX5_isMisrouted 34 = .ok (.iconst 0, 1) := by decide +kernel
theorem dX5_isMisrouted_35 : decode cX5_isMisrouted 35 = .ok (.iaload, 1) := by decide +kernel
theorem dX5_isMisrouted_36 : decode cX5_isMisrouted 36 = .ok (.aload_n 0, 1) := by decide +kernel
theorem dX5_isMisrouted_37 : decode cX5_isMisrouted 37 = .ok (.getfield 22, 3) := by decide +kernel
theorem dX5_isMisrouted_40 : decode cX5_isMisrouted 40 = .ok (.iload_n 1, 1) := by decide +kernel
theorem dX5_isMisrouted_41 : decode cX5_isMisrouted 41 = .ok (.aaload, 1) := by decide +kernel
theorem dX5_isMisrouted_42 : decode cX5_isMisrouted 42 = .ok (.iconst 4, 1) := by decide +kernel
theorem dX5_isMisrouted_43 : decode cX5_isMisrouted 43 = .ok (.iaload, 1) := by decide +kernel
theorem dX5_isMisrouted_44 : decode cX5_isMisrouted 44 = .ok (.if_icmp .eq 7, 3) := by decide +kernel
theorem dX5_isMisrouted_47 : decode cX5_isMisrouted 47 = .ok (.iconst 1, 1) := by decide +kernel
theorem dX5_isMisrouted_48 : decode cX5_isMisrouted 48 = .ok (.goto 4, 3) := by decide +kernel
theorem dX5_isMisrouted_51 : decode cX5_isMisrouted 51 = .ok (.iconst 0, 1) := by decide +kernel
theorem dX5_isMisrouted_52 : decode cX5_isMisrouted 52 = .ok (.ireturn, 1) := by decide +kernel
theorem dX5_ready_0 : decode cX5_ready 0 = .ok (.iconst 0, 1) := by decide +kernel
theorem dX5_ready_1 : decode cX5_ready 1 = .ok (.istore_n 2, 1) := by decide +kernel
theorem dX5_ready_2 : decode cX5_ready 2 = .ok (.aload_n 0, 1) := by decide +kernel
theorem dX5_ready_3 : decode cX5_ready 3 = .ok (.getfield 22, 3) := by decide +kernel
theorem dX5_ready_6 : decode cX5_ready 6 = .ok (.astore_n 3, 1) := by decide +kernel
theorem dX5_ready_7 : decode cX5_ready 7 = .ok (.aload_n 3, 1) := by decide +kernel
theorem dX5_ready_8 : decode cX5_ready 8 = .ok (.arraylength, 1) := by decide +kernel
theorem dX5_ready_9 : decode cX5_ready 9 = .ok (.istore 4, 2) := by decide +kernel
theorem dX5_ready_11 : decode cX5_ready 11 = .ok (.iconst 0, 1) := by decide +kernel
theorem dX5_ready_12 : decode cX5_ready 12 = .ok (.istore 5, 2) := by decide +kernel
theorem dX5_ready_14 : decode cX5_ready 14 = .ok (.iload 5, 2) := by decide +kernel
theorem dX5_ready_16 : decode cX5_ready 16 = .ok (.iload 4, 2) := by decide +kernel
theorem dX5_ready_18 : decode cX5_ready 18 = .ok (.if_icmp .ge 73, 3) := by decide +kernel
theorem dX5_ready_21 : decode cX5_ready 21 = .ok (.aload_n 3, 1) := by decide +kernel
theorem dX5_ready_22 : decode cX5_ready 22 = .ok (.iload 5, 2) := by decide +kernel
theorem dX5_ready_24 : decode cX5_ready 24 = .ok (.aaload, 1) := by decide +kernel
theorem dX5_ready_25 : decode cX5_ready 25 = .ok (.astore 6, 2) := by decide +kernel
theorem dX5_ready_27 : decode cX5_ready 27 = .ok (.aload 6, 2) := by decide +kernel
theorem dX5_ready_29 : decode cX5_ready 29 = .ok (.iconst 0, 1) := by decide +kernel
theorem dX5_ready_30 : decode cX5_ready 30 = .ok (.iaload, 1) := by decide +kernel
theorem dX5_ready_31 : decode cX5_ready 31 = .ok (.iload_n 1, 1) := by decide +kernel
theorem dX5_ready_32 : decode cX5_ready 32 = .ok (.if_icmp .ne 53, 3) := by decide +kernel
theorem dX5_ready_35 : decode cX5_ready 35 = .ok (.iload_n 2, 1) := by decide +kernel
theorem dX5_ready_36 : decode cX5_ready 36 = .ok (.aload 6, 2) := by decide +kernel
theorem dX5_ready_38 : decode cX5_ready 38 = .ok (.iconst 3, 1) := by decide +kernel
theorem dX5_ready_39 : decode cX5_ready 39 = .ok (.iaload, 1) := by decide +kernel
theorem dX5_ready_40 : decode cX5_ready 40 = .ok (.iconst 5, 1) := by decide +kernel
theorem dX5_ready_41 : decode cX5_ready 41 = .ok (.if_icmp .eq 37, 3) := by decide +kernel
theorem dX5_ready_44 : decode cX5_ready 44 = .ok (.aload 6, 2) := by decide +kernel
theorem dX5_ready_46 : decode cX5_ready 46 = .ok (.iconst 3, 1) := by decide +kernel
theorem dX5_ready_47 : decode cX5_ready 47 = .ok (.iaload, 1) := by decide +kernel
theorem dX5_ready_48 : decode cX5_ready 48 = .ok (.iconst 2, 1) := by decide +kernel
theorem dX5_ready_49 : decode cX5_ready 49 = .ok (.if_icmp .ne 33, 3) := by decide +kernel
theorem dX5_ready_52 : decode cX5_ready 52 = .ok (.aload_n 0, 1) := by decide +kernel
theorem dX5_ready_53 : decode cX5_ready 53 = .ok (.getfield 18, 3) := by decide +kernel
theorem dX5_ready_56 : decode cX5_ready 56 = .ok (.iload_n 1, 1) := by decide +kernel
theorem dX5_ready_57 : decode cX5_ready 57 = .ok (.aaload, 1) := by decide +kernel
theorem dX5_ready_58 : decode cX5_ready 58 = .ok (.iconst 1, 1) := by decide +kernel
theorem dX5_ready_59 : decode cX5_ready 59 = .ok (.iaload, 1) := by decide +kernel
theorem dX5_ready_60 : decode cX5_ready 60 = .ok (.ifCond .ne 22, 3) := by decide +kernel
theorem dX5_ready_63 : decode cX5_ready 63 = .ok (.aload 6, 2) := by decide +kernel
theorem dX5_ready_65 : decode cX5_ready 65 = .ok (.iconst 4, 1) := by decide +kernel
theorem dX5_ready_66 : decode cX5_ready 66 = .ok (.iaload, 1) := by decide +kernel
theorem dX5_ready_67 : decode cX5_ready 67 = .ok (.aload_n 0, 1) := by decide +kernel
theorem dX5_ready_68 : decode cX5_ready 68 = .ok (.getfield 18, 3) := by decide +kernel
theorem dX5_ready_71 : decode cX5_ready 71 = .ok (.iload_n 1, 1) := by decide +kernel
theorem dX5_ready_72 : decode cX5_ready 72 = .ok (.aaload, 1) := by decide +kernel
theorem dX5_ready_73 : decode cX5_ready 73 = .ok (.iconst 0, 1) := by decide +kernel
theorem dX5_ready_74 : decode cX5_ready 74 = .ok (.iaload, 1) := by decide +kernel
theorem dX5_ready_75 : decode cX5_ready 75 = .ok (.if_icmp .ne 7, 3) := by decide +kernel
theorem dX5_ready_78 : decode cX5_ready 78 = .ok (.iconst 1, 1) := by decide +kernel
theorem dX5_ready_79 : decode cX5_ready 79 = .ok (.goto 4, 3) := by decide +kernel
theorem dX5_ready_82 : decode cX5_ready 82 = .ok (.iconst 0, 1) := by decide +kernel
theorem dX5_ready_83 : decode cX5_ready 83 = .ok (.iadd, 1) := by decide +kernel
theorem dX5_ready_84 : decode cX5_ready 84 = .ok (.istore_n 2, 1) := by decide +kernel
theorem dX5_ready_85 : decode cX5_ready 85 = .ok (.iinc 5 1, 3) := by decide +kernel
theorem dX5_ready_88 : decode cX5_ready 88 = .ok (.goto (-74), 3) := by decide +kernel
theorem dX5_ready_91 : decode cX5_ready 91 = .ok (.iload_n 2, 1) := by decide +kernel
theorem dX5_ready_92 : decode cX5_ready 92 = .ok (.ireturn, 1) := by decide +kernel
theorem dX5_of_0 : decode cX5_of 0 = .ok (.iconst 0, 1) := by decide +kernel
theorem dX5_of_1 : decode cX5_of 1 = .ok (.istore_n 2, 1) := by decide +kernel
theorem dX5_of_2 : decode cX5_of 2 = .ok (.aload_n 0, 1) := by decide +kernel
theorem dX5_of_3 : decode cX5_of 3 = .ok (.getfield 22, 3) := by decide +kernel
theorem dX5_of_6 : decode cX5_of 6 = .ok (.astore_n 3, 1) := by decide +kernel
theorem dX5_of_7 : decode cX5_of 7 = .ok (.aload_n 3, 1) := by decide +kernel
theorem dX5_of_8 : decode cX5_of 8 = .ok (.arraylength, 1) := by decide +kernel
theorem dX5_of_9 : decode cX5_of 9 = .ok (.istore 4, 2) := by decide +kernel
theorem dX5_of_11 : decode cX5_of 11 = .ok (.iconst 0, 1) := by decide +kernel
theorem dX5_of_12 : decode cX5_of 12 = .ok (.istore 5, 2) := by decide +kernel
theorem dX5_of_14 : decode cX5_of 14 = .ok (.iload 5, 2) := by decide +kernel
theorem dX5_of_16 : decode cX5_of 16 = .ok (.iload 4, 2) := by decide +kernel
theorem dX5_of_18 : decode cX5_of 18 = .ok (.if_icmp .ge 31, 3) := by decide +kernel
theorem dX5_of_21 : decode cX5_of 21 = .ok (.aload_n 3, 1) := by decide +kernel
theorem dX5_of_22 : decode cX5_of 22 = .ok (.iload 5, 2) := by decide +kernel
theorem dX5_of_24 : decode cX5_of 24 = .ok (.aaload, 1) := by decide +kernel
theorem dX5_of_25 : decode cX5_of 25 = .ok (.astore 6, 2) := by decide +kernel
theorem dX5_of_27 : decode cX5_of 27 = .ok (.iload_n 2, 1) := by decide +kernel
theorem dX5_of_28 : decode cX5_of 28 = .ok (.aload 6, 2) := by decide +kernel
theorem dX5_of_30 : decode cX5_of 30 = .ok (.iconst 0, 1) := by decide +kernel
theorem dX5_of_31 : decode cX5_of 31 = .ok (.iaload, 1) := by decide +kernel
theorem dX5_of_32 : decode cX5_of 32 = .ok (.iload_n 1, 1) := by decide +kernel
theorem dX5_of_33 : decode cX5_of 33 = .ok (.if_icmp .ne 7, 3) := by decide +kernel
theorem dX5_of_36 : decode cX5_of 36 = .ok (.iconst 1, 1) := by decide +kernel
theorem dX5_of_37 : decode cX5_of 37 = .ok (.goto 4, 3) := by decide +kernel
theorem dX5_of_40 : decode cX5_of 40 = .ok (.iconst 0, 1) := by decide +kernel
theorem dX5_of_41 : decode cX5_of 41 = .ok (.iadd, 1) := by decide +kernel
theorem dX5_of_42 : decode cX5_of 42 = .ok (.istore_n 2, 1) := by decide +kernel
theorem dX5_of_43 : decode cX5_of 43 = .ok (.iinc 5 1, 3) := by decide +kernel
theorem dX5_of_46 : decode cX5_of 46 = .ok (.goto (-32), 3) := by decide +kernel
theorem dX5_of_49 : decode cX5_of 49 = .ok (.iload_n 2, 1) := by decide +kernel
theorem dX5_of_50 : decode cX5_of 50 = .ok (.ireturn, 1) := by decide +kernel
theorem dX5_isSame_0 : decode cX5_isSame 0 = .ok (.bipush 6, 2) := by decide +kernel
theorem dX5_isSame_2 : decode cX5_isSame 2 = .ok (.newarray .int, 2) := by decide +kernel
theorem dX5_isSame_4 : decode cX5_isSame 4 = .ok (.astore_n 2, 1) := by decide +kernel
theorem dX5_isSame_5 : decode cX5_isSame 5 = .ok (.iconst 3, 1) := by decide +kernel
theorem dX5_isSame_6 : decode cX5_isSame 6 = .ok (.newarray .int, 2) := by decide +kernel
theorem dX5_isSame_8 : decode cX5_isSame 8 = .ok (.astore_n 3, 1) := by decide +kernel
theorem dX5_isSame_9 : decode cX5_isSame 9 = .ok (.iconst 0, 1) := by decide +kernel
theorem dX5_isSame_10 : decode cX5_isSame 10 = .ok (.istore 4, 2) := by decide +kernel
theorem dX5_isSame_12 : decode cX5_isSame 12 = .ok (.iconst 0, 1) := by decide +kernel
theorem dX5_isSame_13 : decode cX5_isSame 13 = .ok (.istore 5, 2) := by decide +kernel
theorem dX5_isSame_15 : decode cX5_isSame 15 = .ok (.iload 5, 2) := by decide +kernel
theorem dX5_isSame_17 : decode cX5_isSame 17 = .ok (.aload_n 0, 1) := by decide +kernel
theorem dX5_isSame_18 : decode cX5_isSame 18 = .ok (.getfield 22, 3) := by decide +kernel
theorem dX5_isSame_21 : decode cX5_isSame 21 = .ok (.arraylength, 1) := by decide +kernel
theorem dX5_isSame_22 : decode cX5_isSame 22 = .ok (.if_icmp .ge 192, 3) := by decide +kernel
theorem dX5_isSame_25 : decode cX5_isSame 25 = .ok (.aload_n 0, 1) := by decide +kernel
theorem dX5_isSame_26 : decode cX5_isSame 26 = .ok (.getfield 22, 3) := by decide +kernel
theorem dX5_isSame_29 : decode cX5_isSame 29 = .ok (.iload 5, 2) := by decide +kernel
theorem dX5_isSame_31 : decode cX5_isSame 31 = .ok (.aaload, 1) := by decide +kernel
theorem dX5_isSame_32 : decode cX5_isSame 32 = .ok (.astore 6, 2) := by decide +kernel
theorem dX5_isSame_34 : decode cX5_isSame 34 = .ok (.aload_n 1, 1) := by decide +kernel
theorem dX5_isSame_35 : decode cX5_isSame 35 = .ok (.iload 5, 2) := by decide +kernel
theorem dX5_isSame_37 : decode cX5_isSame 37 = .ok (.invokevirtual 51, 3) := by decide +kernel
theorem dX5_isSame_40 : decode cX5_isSame 40 = .ok (.aload 6, 2) := by decide +kernel
theorem dX5_isSame_42 : decode cX5_isSame 42 = .ok (.iconst 0, 1) := by decide +kernel
theorem dX5_isSame_43 : decode cX5_isSame 43 = .ok (.iaload, 1) := by decide +kernel
theorem dX5_isSame_44 : decode cX5_isSame 44 = .ok (.if_icmp .ne 131, 3) := by decide +kernel
theorem dX5_isSame_47 : decode cX5_isSame 47 = .ok (.aload_n 1, 1) := by decide +kernel
theorem dX5_isSame_48 : decode cX5_isSame 48 = .ok (.iload 5, 2) := by decide +kernel
theorem dX5_isSame_50 : decode cX5_isSame 50 = .ok (.invokevirtual 56, 3) := by decide +kernel
theorem dX5_isSame_53 : decode cX5_isSame 53 = .ok (.aload 6, 2) := by decide +kernel
theorem dX5_isSame_55 : decode cX5_isSame 55 = .ok (.iconst 3, 1) := by decide +kernel
theorem dX5_isSame_56 : decode cX5_isSame 56 = .ok (.iaload, 1) := by decide +kernel
theorem dX5_isSame_57 : decode cX5_isSame 57 = .ok (.if_icmp .ne 118, 3) := by decide +kernel
theorem dX5_isSame_60 : decode cX5_isSame 60 = .ok (.aload_n 1, 1) := by decide +kernel
theorem dX5_isSame_61 : decode cX5_isSame 61 = .ok (.iload 5, 2) := by decide +kernel
theorem dX5_isSame_63 : decode cX5_isSame 63 = .ok (.invokevirtual 59, 3) := by decide +kernel
theorem dX5_isSame_66 : decode cX5_isSame 66 = .ok (.aload 6, 2) := by decide +kernel
theorem dX5_isSame_68 : decode cX5_isSame 68 = .ok (.iconst 3, 1) := by decide +kernel
theorem dX5_isSame_69 : decode cX5_isSame 69 = .ok (.iaload, 1) := by decide +kernel
theorem dX5_isSame_70 : decode cX5_isSame 70 = .ok (.iconst 1, 1) := by decide +kernel
theorem dX5_isSame_71 : decode cX5_isSame 71 = .ok (.if_icmp .ne 10, 3) := by decide +kernel
theorem dX5_isSame_74 : decode cX5_isSame 74 = .ok (.aload 6, 2) := by decide +kernel
theorem dX5_isSame_76 : decode cX5_isSame 76 = .ok (.iconst 4, 1) := by decide +kernel
theorem dX5_isSame_77 : decode cX5_isSame 77 = .ok (.iaload, 1) := by decide +kernel
theorem dX5_isSame_78 : decode cX5_isSame 78 = .ok (.goto 4, 3) := by decide +kernel
theorem dX5_isSame_81 : decode cX5_isSame 81 = .ok (.iconst (-1), 1) := by decide +kernel
theorem dX5_isSame_82 : decode cX5_isSame 82 = .ok (.if_icmp .ne 93, 3) := by decide +kernel
theorem dX5_isSame_85 : decode cX5_isSame 85 = .ok (.aload_n 1, 1) := by decide +kernel
theorem dX5_isSame_86 : decode cX5_isSame 86 = .ok (.iload 5, 2) := by decide +kernel
theorem dX5_isSame_88 : decode cX5_isSame 88 = .ok (.invokevirtual 62, 3) := by decide +kernel
theorem dX5_isSame_91 : decode cX5_isSame 91 = .ok (.aload 6, 2) := by decide +kernel
theorem dX5_isSame_93 : decode cX5_isSame 93 = .ok (.iconst 3, 1) := by decide +kernel
theorem dX5_isSame_94 : decode cX5_isSame 94 = .ok (.iaload, 1) := by decide +kernel
theorem dX5_isSame_95 : decode cX5_isSame 95 = .ok (.iconst 2, 1) := by decide +kernel
theorem dX5_isSame_96 : decode cX5_isSame 96 = .ok (.if_icmp .ne 10, 3) := by decide +kernel
theorem dX5_isSame_99 : decode cX5_isSame 99 = .ok (.aload 6, 2) := by decide +kernel
theorem dX5_isSame_101 : decode cX5_isSame 101 = .ok (.iconst 4, 1) := by decide +kernel
theorem dX5_isSame_102 : decode cX5_isSame 102 = .ok (.iaload, 1) := by decide +kernel
theorem dX5_isSame_103 : decode cX5_isSame 103 = .ok (.goto 4, 3) := by decide +kernel
theorem dX5_isSame_106 : decode cX5_isSame 106 = .ok (.iconst (-1), 1) := by decide +kernel
theorem dX5_isSame_107 : decode cX5_isSame 107 = .ok (.if_icmp .ne 68, 3) := by decide +kernel
theorem dX5_isSame_110 : decode cX5_isSame 110 = .ok (.aload_n 1, 1) := by decide +kernel
theorem dX5_isSame_111 : decode cX5_isSame 111 = .ok (.iload 5, 2) := by decide +kernel
theorem dX5_isSame_113 : decode cX5_isSame 113 = .ok (.invokevirtual 65, 3) := by decide +kernel
theorem dX5_isSame_116 : decode cX5_isSame 116 = .ok (.aload 6, 2) := by decide +kernel
theorem dX5_isSame_118 : decode cX5_isSame 118 = .ok (.iconst 5, 1) := by decide +kernel
theorem dX5_isSame_119 : decode cX5_isSame 119 = .ok (.iaload, 1) := by decide +kernel
theorem dX5_isSame_120 : decode cX5_isSame 120 = .ok (.if_icmp .ne 55, 3) := by decide +kernel
theorem dX5_isSame_123 : decode cX5_isSame 123 = .ok (.aload_n 1, 1) := by decide +kernel
theorem dX5_isSame_124 : decode cX5_isSame 124 = .ok (.iload 5, 2) := by decide +kernel
theorem dX5_isSame_126 : decode cX5_isSame 126 = .ok (.invokevirtual 68, 3) := by decide +kernel
theorem dX5_isSame_129 : decode cX5_isSame 129 = .ok (.aload 6, 2) := by decide +kernel
theorem dX5_isSame_131 : decode cX5_isSame 131 = .ok (.bipush 6, 2) := by decide +kernel
theorem dX5_isSame_133 : decode cX5_isSame 133 = .ok (.iaload, 1) := by decide +kernel
theorem dX5_isSame_134 : decode cX5_isSame 134 = .ok (.if_icmp .ne 41, 3) := by decide +kernel
theorem dX5_isSame_137 : decode cX5_isSame 137 = .ok (.aload_n 1, 1) := by decide +kernel
theorem dX5_isSame_138 : decode cX5_isSame 138 = .ok (.iload 5, 2) := by decide +kernel
theorem dX5_isSame_140 : decode cX5_isSame 140 = .ok (.invokevirtual 71, 3) := by decide +kernel
theorem dX5_isSame_143 : decode cX5_isSame 143 = .ok (.aload_n 0, 1) := by decide +kernel
theorem dX5_isSame_144 : decode cX5_isSame 144 = .ok (.iload 5, 2) := by decide +kernel
theorem dX5_isSame_146 : decode cX5_isSame 146 = .ok (.invokevirtual 75, 3) := by decide +kernel
theorem dX5_isSame_149 : decode cX5_isSame 149 = .ok (.if_icmp .ne 26, 3) := by decide +kernel
theorem dX5_isSame_152 : decode cX5_isSame 152 = .ok (.aload_n 1, 1) := by decide +kernel
theorem dX5_isSame_153 : decode cX5_isSame 153 = .ok (.iload 5, 2) := by decide +kernel
theorem dX5_isSame_155 : decode cX5_isSame 155 = .ok (.invokevirtual 76, 3) := by decide +kernel
theorem dX5_isSame_158 : decode cX5_isSame 158 = .ok (.aload 6, 2) := by decide +kernel
theorem dX5_isSame_160 : decode cX5_isSame 160 = .ok (.bipush 7, 2) := by decide +kernel
theorem dX5_isSame_162 : decode cX5_isSame 162 = .ok (.iaload, 1) := by decide +kernel
theorem dX5_isSame_163 : decode cX5_isSame 163 = .ok (.iconst 1, 1) := by decide +kernel
theorem dX5_isSame_164 : decode cX5_isSame 164 = .ok (.if_icmp .ne 7, 3) := by decide +kernel
theorem dX5_isSame_167 : decode cX5_isSame 167 = .ok (.iconst 1, 1) := by decide +kernel
theorem dX5_isSame_168 : decode cX5_isSame 168 = .ok (.goto 4, 3) := by decide +kernel
theorem dX5_isSame_171 : decode cX5_isSame 171 = .ok (.iconst 0, 1) := by decide +kernel
theorem dX5_isSame_172 : decode cX5_isSame 172 = .ok (.if_icmp .eq 5, 3) := by decide +kernel
theorem dX5_isSame_175 : decode cX5_isSame 175 = .ok (.iconst 0, 1) := by decide +kernel
theorem dX5_isSame_176 : decode cX5_isSame 176 = .ok (.ireturn, 1) := by decide +kernel
theorem dX5_isSame_177 : decode cX5_isSame 177 = .ok (.aload_n 2, 1) := by decide +kernel
theorem dX5_isSame_178 : decode cX5_isSame 178 = .ok (.aload 6, 2) := by decide +kernel
theorem dX5_isSame_180 : decode cX5_isSame 180 = .ok (.iconst 3, 1) := by decide +kernel
theorem dX5_isSame_181 : decode cX5_isSame 181 = .ok (.iaload, 1) := by decide +kernel
theorem dX5_isSame_182 : decode cX5_isSame 182 = .ok (.dup2, 1) := by decide +kernel
theorem dX5_isSame_183 : decode cX5_isSame 183 = .ok (.iaload, 1) := by decide +kernel
theorem dX5_isSame_184 : decode cX5_isSame 184 = .ok (.iconst 1, 1) := by decide +kernel
theorem dX5_isSame_185 : decode cX5_isSame 185 = .ok (.iadd, 1) := by decide +kernel
theorem dX5_isSame_186 : decode cX5_isSame 186 = .ok (.iastore, 1) := by decide +kernel
theorem dX5_isSame_187 : decode cX5_isSame 187 = .ok (.aload_n 3, 1) := by decide +kernel
theorem dX5_isSame_188 : decode cX5_isSame 188 = .ok (.aload 6, 2) := by decide +kernel
theorem dX5_isSame_190 : decode cX5_isSame 190 = .ok (.bipush 7, 2) := by decide +kernel
theorem dX5_isSame_192 : decode cX5_isSame 192 = .ok (.iaload, 1) := by decide +kernel
theorem dX5_isSame_193 : decode cX5_isSame 193 = .ok (.dup2, 1) := by decide +kernel
theorem dX5_isSame_194 : decode cX5_isSame 194 = .ok (.iaload, 1) := by decide +kernel
theorem dX5_isSame_195 : decode cX5_isSame 195 = .ok (.iconst 1, 1) := by decide +kernel
theorem dX5_isSame_196 : decode cX5_isSame 196 = .ok (.iadd, 1) := by decide +kernel
theorem dX5_isSame_197 : decode cX5_isSame 197 = .ok (.iastore, 1) := by decide +kernel
theorem dX5_isSame_198 : decode cX5_isSame 198 = .ok (.iload 4, 2) := by decide +kernel
theorem dX5_isSame_200 : decode cX5_isSame 200 = .ok (.aload 6, 2) := by decide +kernel
theorem dX5_isSame_202 : decode cX5_isSame 202 = .ok (.bipush 6, 2) := by decide +kernel
theorem dX5_isSame_204 : decode cX5_isSame 204 = .ok (.iaload, 1) := by decide +kernel
theorem dX5_isSame_205 : decode cX5_isSame 205 = .ok (.iadd, 1) := by decide +kernel
theorem dX5_isSame_206 : decode cX5_isSame 206 = .ok (.istore 4, 2) := by decide +kernel
theorem dX5_isSame_208 : decode cX5_isSame 208 = .ok (.iinc 5 1, 3) := by decide +kernel
theorem dX5_isSame_211 : decode cX5_isSame 211 = .ok (.goto (-196), 3) := by decide +kernel
theorem dX5_isSame_214 : decode cX5_isSame 214 = .ok (.aload_n 1, 1) := by decide +kernel
theorem dX5_isSame_215 : decode cX5_isSame 215 = .ok (.invokevirtual 79, 3) := by decide +kernel
theorem dX5_isSame_218 : decode cX5_isSame 218 = .ok (.aload_n 0, 1) := by decide +kernel
theorem dX5_isSame_219 : decode cX5_isSame 219 = .ok (.getfield 29, 3) := by decide +kernel
theorem dX5_isSame_222 : decode cX5_isSame 222 = .ok (.if_icmp .ne 88, 3) := by decide +kernel
theorem dX5_isSame_225 : decode cX5_isSame 225 = .ok (.aload_n 1, 1) := by decide +kernel
theorem dX5_isSame_226 : decode cX5_isSame 226 = .ok (.invokevirtual 81, 3) := by decide +kernel
theorem dX5_isSame_229 : decode cX5_isSame 229 = .ok (.aload_n 0, 1) := by decide +kernel
theorem dX5_isSame_230 : decode cX5_isSame 230 = .ok (.getfield 18, 3) := by decide +kernel
theorem dX5_isSame_233 : decode cX5_isSame 233 = .ok (.arraylength, 1) := by decide +kernel
theorem dX5_isSame_234 : decode cX5_isSame 234 = .ok (.if_icmp .ne 76, 3) := by decide +kernel
theorem dX5_isSame_237 : decode cX5_isSame 237 = .ok (.aload_n 1, 1) := by decide +kernel
theorem dX5_isSame_238 : decode cX5_isSame 238 = .ok (.invokevirtual 83, 3) := by decide +kernel
theorem dX5_isSame_241 : decode cX5_isSame 241 = .ok (.aload_n 0, 1) := by decide +kernel
theorem dX5_isSame_242 : decode cX5_isSame 242 = .ok (.getfield 22, 3) := by decide +kernel
theorem dX5_isSame_245 : decode cX5_isSame 245 = .ok (.arraylength, 1) := by decide +kernel
theorem dX5_isSame_246 : decode cX5_isSame 246 = .ok (.if_icmp .ne 64, 3) := by decide +kernel
theorem dX5_isSame_249 : decode cX5_isSame 249 = .ok (.aload_n 1, 1) := by decide +kernel
theorem dX5_isSame_250 : decode cX5_isSame 250 = .ok (.invokevirtual 85, 3) := by decide +kernel
theorem dX5_isSame_253 : decode cX5_isSame 253 = .ok (.aload_n 2, 1) := by decide +kernel
theorem dX5_isSame_254 : decode cX5_isSame 254 = .ok (.iconst 0, 1) := by decide +kernel
theorem dX5_isSame_255 : decode cX5_isSame 255 = .ok (.iaload, 1) := by decide +kernel
theorem dX5_isSame_256 : decode cX5_isSame 256 = .ok (.if_icmp .ne 54, 3) := by decide +kernel
theorem dX5_isSame_259 : decode cX5_isSame 259 = .ok (.aload_n 1, 1) := by decide +kernel
theorem dX5_isSame_260 : decode cX5_isSame 260 = .ok (.invokevirtual 88, 3) := by decide +kernel
theorem dX5_isSame_263 : decode cX5_isSame 263 = .ok (.aload_n 2, 1) := by decide +kernel
theorem dX5_isSame_264 : decode cX5_isSame 264 = .ok (.iconst 1, 1) := by decide +kernel
theorem dX5_isSame_265 : decode cX5_isSame 265 = .ok (.iaload, 1) := by decide +kernel
theorem dX5_isSame_266 : decode cX5_isSame 266 = .ok (.if_icmp .ne 44, 3) := by decide +kernel
theorem dX5_isSame_269 : decode cX5_isSame 269 = .ok (.aload_n 1, 1) := by decide +kernel
theorem dX5_isSame_270 : decode cX5_isSame 270 = .ok (.invokevirtual 91, 3) := by decide +kernel
theorem dX5_isSame_273 : decode cX5_isSame 273 = .ok (.aload_n 2, 1) := by decide +kernel
theorem dX5_isSame_274 : decode cX5_isSame 274 = .ok (.iconst 3, 1) := by decide +kernel
theorem dX5_isSame_275 : decode cX5_isSame 275 = .ok (.iaload, 1) := by decide +kernel
theorem dX5_isSame_276 : decode cX5_isSame 276 = .ok (.if_icmp .ne 34, 3) := by decide +kernel
theorem dX5_isSame_279 : decode cX5_isSame 279 = .ok (.aload_n 1, 1) := by decide +kernel
theorem dX5_isSame_280 : decode cX5_isSame 280 = .ok (.invokevirtual 94, 3) := by decide +kernel
theorem dX5_isSame_283 : decode cX5_isSame 283 = .ok (.aload_n 3, 1) := by decide +kernel
theorem dX5_isSame_284 : decode cX5_isSame 284 = .ok (.iconst 1, 1) := by decide +kernel
theorem dX5_isSame_285 : decode cX5_isSame 285 = .ok (.iaload, 1) := by decide +kernel
theorem dX5_isSame_286 : decode cX5_isSame 286 = .ok (.if_icmp .ne 24, 3) := by decide +kernel
theorem dX5_isSame_289 : decode cX5_isSame 289 = .ok (.aload_n 1, 1) := by decide +kernel
theorem dX5_isSame_290 : decode cX5_isSame 290 = .ok (.invokevirtual 97, 3) := by decide +kernel
theorem dX5_isSame_293 : decode cX5_isSame 293 = .ok (.aload_n 3, 1) := by decide +kernel
theorem dX5_isSame_294 : decode cX5_isSame 294 = .ok (.iconst 2, 1) := by decide +kernel
theorem dX5_isSame_295 : decode cX5_isSame 295 = .ok (.iaload, 1) := by decide +kernel
theorem dX5_isSame_296 : decode cX5_isSame 296 = .ok (.if_icmp .ne 14, 3) := by decide +kernel
theorem dX5_isSame_299 : decode cX5_isSame 299 = .ok (.aload_n 1, 1) := by decide +kernel
theorem dX5_isSame_300 : decode cX5_isSame 300 = .ok (.invokevirtual 100, 3) := by decide +kernel
theorem dX5_isSame_303 : decode cX5_isSame 303 = .ok (.aload_n 0, 1) := by decide +kernel
theorem dX5_isSame_304 : decode cX5_isSame 304 = .ok (.getfield 7, 3) := by decide +kernel
theorem dX5_isSame_307 : decode cX5_isSame 307 = .ok (.if_icmp .eq 5, 3) := by decide +kernel
theorem dX5_isSame_310 : decode cX5_isSame 310 = .ok (.iconst 0, 1) := by decide +kernel
theorem dX5_isSame_311 : decode cX5_isSame 311 = .ok (.ireturn, 1) := by decide +kernel
theorem dX5_isSame_312 : decode cX5_isSame 312 = .ok (.iconst 0, 1) := by decide +kernel
theorem dX5_isSame_313 : decode cX5_isSame 313 = .ok (.istore 5, 2) := by decide +kernel
theorem dX5_isSame_315 : decode cX5_isSame 315 = .ok (.iload 5, 2) := by decide +kernel
theorem dX5_isSame_317 : decode cX5_isSame 317 = .ok (.bipush 12, 2) := by decide +kernel
theorem dX5_isSame_319 : decode cX5_isSame 319 = .ok (.if_icmp .ge 26, 3) := by decide +kernel
theorem dX5_isSame_322 : decode cX5_isSame 322 = .ok (.aload_n 1, 1) := by decide +kernel
theorem dX5_isSame_323 : decode cX5_isSame 323 = .ok (.iload 5, 2) := by decide +kernel
theorem dX5_isSame_325 : decode cX5_isSame 325 = .ok (.invokevirtual 103, 3) := by decide +kernel
theorem dX5_isSame_328 : decode cX5_isSame 328 = .ok (.aload_n 0, 1) := by decide +kernel
theorem dX5_isSame_329 : decode cX5_isSame 329 = .ok (.iload 5, 2) := by decide +kernel
theorem dX5_isSame_331 : decode cX5_isSame 331 = .ok (.invokevirtual 40, 3) := by decide +kernel
theorem dX5_isSame_334 : decode cX5_isSame 334 = .ok (.if_icmp .eq 5, 3) := by decide +kernel
theorem dX5_isSame_337 : decode cX5_isSame 337 = .ok (.iconst 0, 1) := by decide +kernel
theorem dX5_isSame_338 : decode cX5_isSame 338 = .ok (.ireturn, 1) := by decide +kernel
theorem dX5_isSame_339 : decode cX5_isSame 339 = .ok (.iinc 5 1, 3) := by decide +kernel
theorem dX5_isSame_342 : decode cX5_isSame 342 = .ok (.goto (-27), 3) := by decide +kernel
theorem dX5_isSame_345 : decode cX5_isSame 345 = .ok (.iconst 0, 1) := by decide +kernel
theorem dX5_isSame_346 : decode cX5_isSame 346 = .ok (.istore 5, 2) := by decide +kernel
theorem dX5_isSame_348 : decode cX5_isSame 348 = .ok (.iload 5, 2) := by decide +kernel
theorem dX5_isSame_350 : decode cX5_isSame 350 = .ok (.iconst 4, 1) := by decide +kernel
theorem dX5_isSame_351 : decode cX5_isSame 351 = .ok (.if_icmp .ge 108, 3) := by decide +kernel
theorem dX5_isSame_354 : decode cX5_isSame 354 = .ok (.iconst 0, 1) := by decide +kernel
theorem dX5_isSame_355 : decode cX5_isSame 355 = .ok (.istore 6, 2) := by decide +kernel
theorem dX5_isSame_357 : decode cX5_isSame 357 = .ok (.iconst 0, 1) := by decide +kernel
theorem dX5_isSame_358 : decode cX5_isSame 358 = .ok (.istore 7, 2) := by decide +kernel
theorem dX5_isSame_360 : decode cX5_isSame 360 = .ok (.iload 7, 2) := by decide +kernel
theorem dX5_isSame_362 : decode cX5_isSame 362 = .ok (.aload_n 0, 1) := by decide +kernel
theorem dX5_isSame_363 : decode cX5_isSame 363 = .ok (.getfield 22, 3) := by decide +kernel
theorem dX5_isSame_366 : decode cX5_isSame 366 = .ok (.arraylength, 1) := by decide +kernel
theorem dX5_isSame_367 : decode cX5_isSame 367 = .ok (.if_icmp .ge 42, 3) := by decide +kernel
theorem dX5_isSame_370 : decode cX5_isSame 370 = .ok (.iload 6, 2) := by decide +kernel
theorem dX5_isSame_372 : decode cX5_isSame 372 = .ok (.aload_n 0, 1) := by decide +kernel
theorem dX5_isSame_373 : decode cX5_isSame 373 = .ok (.iload 7, 2) := by decide +kernel
theorem dX5_isSame_375 : decode cX5_isSame 375 = .ok (.invokevirtual 75, 3) := by decide +kernel
theorem dX5_isSame_378 : decode cX5_isSame 378 = .ok (.ifCond .eq 21, 3) := by decide +kernel
theorem dX5_isSame_381 : decode cX5_isSame 381 = .ok (.aload_n 0, 1) := by decide +kernel
theorem dX5_isSame_382 : decode cX5_isSame 382 = .ok (.getfield 22, 3) := by decide +kernel
theorem dX5_isSame_385 : decode cX5_isSame 385 = .ok (.iload 7, 2) := by decide +kernel
theorem dX5_isSame_387 : decode cX5_isSame 387 = .ok (.aaload, 1) := by decide +kernel
theorem dX5_isSame_388 : decode cX5_isSame 388 = .ok (.iconst 4, 1) := by decide +kernel
theorem dX5_isSame_389 : decode cX5_isSame 389 = .ok (.iaload, 1) := by decide +kernel
theorem dX5_isSame_390 : decode cX5_isSame 390 = .ok (.iload 5, 2) := by decide +kernel
theorem dX5_isSame_392 : decode cX5_isSame 392 = .ok (.if_icmp .ne 7, 3) := by decide +kernel
theorem dX5_isSame_395 : decode cX5_isSame 395 = .ok (.iconst 1, 1) := by decide +kernel
theorem dX5_isSame_396 : decode cX5_isSame 396 = .ok (.goto 4, 3) := by decide +kernel
theorem dX5_isSame_399 : decode cX5_isSame 399 = .ok (.iconst 0, 1) := by decide +kernel
theorem dX5_isSame_400 : decode cX5_isSame 400 = .ok (.iadd, 1) := by decide +kernel
theorem dX5_isSame_401 : decode cX5_isSame 401 = .ok (.istore 6, 2) := by decide +kernel
theorem dX5_isSame_403 : decode cX5_isSame 403 = .ok (.iinc 7 1, 3) := by decide +kernel
theorem dX5_isSame_406 : decode cX5_isSame 406 = .ok (.goto (-46), 3) := by decide +kernel
theorem dX5_isSame_409 : decode cX5_isSame 409 = .ok (.aload_n 1, 1) := by decide +kernel
theorem dX5_isSame_410 : decode cX5_isSame 410 = .ok (.iload 5, 2) := by decide +kernel
theorem dX5_isSame_412 : decode cX5_isSame 412 = .ok (.invokevirtual 106, 3) := by decide +kernel
theorem dX5_isSame_415 : decode cX5_isSame 415 = .ok (.aload_n 0, 1) := by decide +kernel
theorem dX5_isSame_416 : decode cX5_isSame 416 = .ok (.iload 5, 2) := by decide +kernel
theorem dX5_isSame_418 : decode cX5_isSame 418 = .ok (.invokevirtual 44, 3) := by decide +kernel
theorem dX5_isSame_421 : decode cX5_isSame 421 = .ok (.if_icmp .ne 30, 3) := by decide +kernel
theorem dX5_isSame_424 : decode cX5_isSame 424 = .ok (.aload_n 1, 1) := by decide +kernel
theorem dX5_isSame_425 : decode cX5_isSame 425 = .ok (.iload 5, 2) := by decide +kernel
theorem dX5_isSame_427 : decode cX5_isSame 427 = .ok (.invokevirtual 109, 3) := by decide +kernel
theorem dX5_isSame_430 : decode cX5_isSame 430 = .ok (.iload 6, 2) := by decide +kernel
theorem dX5_isSame_432 : decode cX5_isSame 432 = .ok (.if_icmp .ne 19, 3) := by decide +kernel
theorem dX5_isSame_435 : decode cX5_isSame 435 = .ok (.aload_n 1, 1) := by decide +kernel
theorem dX5_isSame_436 : decode cX5_isSame 436 = .ok (.iload 5, 2) := by decide +kernel
theorem dX5_isSame_438 : decode cX5_isSame 438 = .ok (.invokevirtual 112, 3) := by decide +kernel
theorem dX5_isSame_441 : decode cX5_isSame 441 = .ok (.aload_n 0, 1) := by decide +kernel
theorem dX5_isSame_442 : decode cX5_isSame 442 = .ok (.getfield 13, 3) := by decide +kernel
theorem dX5_isSame_445 : decode cX5_isSame 445 = .ok (.iload 5, 2) := by decide +kernel
theorem dX5_isSame_447 : decode cX5_isSame 447 = .ok (.iaload, 1) := by decide +kernel
theorem dX5_isSame_448 : decode cX5_isSame 448 = .ok (.if_icmp .eq 5, 3) := by decide +kernel
theorem dX5_isSame_451 : decode cX5_isSame 451 = .ok (.iconst 0, 1) := by decide +kernel
theorem dX5_isSame_452 : decode cX5_isSame 452 = .ok (.ireturn, 1) := by decide +kernel
theorem dX5_isSame_453 : decode cX5_isSame 453 = .ok (.iinc 5 1, 3) := by decide +kernel
theorem dX5_isSame_456 : decode cX5_isSame 456 = .ok (.goto (-108), 3) := by decide +kernel
theorem dX5_isSame_459 : decode cX5_isSame 459 = .ok (.iconst 0, 1) := by decide +kernel
theorem dX5_isSame_460 : decode cX5_isSame 460 = .ok (.istore 5, 2) := by decide +kernel
theorem dX5_isSame_462 : decode cX5_isSame 462 = .ok (.iload 5, 2) := by decide +kernel
theorem dX5_isSame_464 : decode cX5_isSame 464 = .ok (.aload_n 0, 1) := by decide +kernel
theorem dX5_isSame_465 : decode cX5_isSame 465 = .ok (.getfield 18, 3) := by decide +kernel
theorem dX5_isSame_468 : decode cX5_isSame 468 = .ok (.arraylength, 1) := by decide +kernel
theorem dX5_isSame_469 : decode cX5_isSame 469 = .ok (.if_icmp .ge 93, 3) := by decide +kernel
theorem dX5_isSame_472 : decode cX5_isSame 472 = .ok (.aload_n 1, 1) := by decide +kernel
theorem dX5_isSame_473 : decode cX5_isSame 473 = .ok (.iload 5, 2) := by decide +kernel
theorem dX5_isSame_475 : decode cX5_isSame 475 = .ok (.invokevirtual 115, 3) := by decide +kernel
theorem dX5_isSame_478 : decode cX5_isSame 478 = .ok (.aload_n 0, 1) := by decide +kernel
theorem dX5_isSame_479 : decode cX5_isSame 479 = .ok (.getfield 18, 3) := by decide +kernel
theorem dX5_isSame_482 : decode cX5_isSame 482 = .ok (.iload 5, 2) := by decide +kernel
theorem dX5_isSame_484 : decode cX5_isSame 484 = .ok (.aaload, 1) := by decide +kernel
theorem dX5_isSame_485 : decode cX5_isSame 485 = .ok (.iconst 0, 1) := by decide +kernel
theorem dX5_isSame_486 : decode cX5_isSame 486 = .ok (.iaload, 1) := by decide +kernel
theorem dX5_isSame_487 : decode cX5_isSame 487 = .ok (.if_icmp .ne 67, 3) := by decide +kernel
theorem dX5_isSame_490 : decode cX5_isSame 490 = .ok (.aload_n 1, 1) := by decide +kernel
theorem dX5_isSame_491 : decode cX5_isSame 491 = .ok (.iload 5, 2) := by decide +kernel
theorem dX5_isSame_493 : decode cX5_isSame 493 = .ok (.invokevirtual 118, 3) := by decide +kernel
theorem dX5_isSame_496 : decode cX5_isSame 496 = .ok (.aload_n 0, 1) := by decide +kernel
theorem dX5_isSame_497 : decode cX5_isSame 497 = .ok (.getfield 18, 3) := by decide +kernel
theorem dX5_isSame_500 : decode cX5_isSame 500 = .ok (.iload 5, 2) := by decide +kernel
theorem dX5_isSame_502 : decode cX5_isSame 502 = .ok (.aaload, 1) := by decide +kernel
theorem dX5_isSame_503 : decode cX5_isSame 503 = .ok (.iconst 1, 1) := by decide +kernel
theorem dX5_isSame_504 : decode cX5_isSame 504 = .ok (.iaload, 1) := by decide +kernel
theorem dX5_isSame_505 : decode cX5_isSame 505 = .ok (.iconst 1, 1) := by decide +kernel
theorem dX5_isSame_506 : decode cX5_isSame 506 = .ok (.if_icmp .ne 7, 3) := by decide +kernel
theorem dX5_isSame_509 : decode cX5_isSame 509 = .ok (.iconst 1, 1) := by decide +kernel
theorem dX5_isSame_510 : decode cX5_isSame 510 = .ok (.goto 4, 3) := by decide +kernel
theorem dX5_isSame_513 : decode cX5_isSame 513 = .ok (.iconst 0, 1) := by decide +kernel
theorem dX5_isSame_514 : decode cX5_isSame 514 = .ok (.if_icmp .ne 40, 3) := by decide +kernel
theorem dX5_isSame_517 : decode cX5_isSame 517 = .ok (.aload_n 1, 1) := by decide +kernel
theorem dX5_isSame_518 : decode cX5_isSame 518 = .ok (.iload 5, 2) := by decide +kernel
theorem dX5_isSame_520 : decode cX5_isSame 520 = .ok (.invokevirtual 121, 3) := by decide +kernel
theorem dX5_isSame_523 : decode cX5_isSame 523 = .ok (.aload_n 0, 1) := by decide +kernel
theorem dX5_isSame_524 : decode cX5_isSame 524 = .ok (.iload 5, 2) := by decide +kernel
theorem dX5_isSame_526 : decode cX5_isSame 526 = .ok (.invokevirtual 124, 3) := by decide +kernel
theorem dX5_isSame_529 : decode cX5_isSame 529 = .ok (.if_icmp .ne 25, 3) := by decide +kernel
theorem dX5_isSame_532 : decode cX5_isSame 532 = .ok (.aload_n 1, 1) := by decide +kernel
theorem dX5_isSame_533 : decode cX5_isSame 533 = .ok (.iload 5, 2) := by decide +kernel
theorem dX5_isSame_535 : decode cX5_isSame 535 = .ok (.invokevirtual 127, 3) := by decide +kernel
theorem dX5_isSame_538 : decode cX5_isSame 538 = .ok (.aload_n 0, 1) := by decide +kernel
theorem dX5_isSame_539 : decode cX5_isSame 539 = .ok (.iload 5, 2) := by decide +kernel
theorem dX5_isSame_541 : decode cX5_isSame 541 = .ok (.invokevirtual 130, 3) := by decide +kernel
theorem dX5_isSame_544 : decode cX5_isSame 544 = .ok (.aload_n 0, 1) := by decide +kernel
theorem dX5_isSame_545 : decode cX5_isSame 545 = .ok (.iload 5, 2) := by decide +kernel
theorem dX5_isSame_547 : decode cX5_isSame 547 = .ok (.invokevirtual 124, 3) := by decide +kernel
theorem dX5_isSame_550 : decode cX5_isSame 550 = .ok (.isub, 1) := by decide +kernel
theorem dX5_isSame_551 : decode cX5_isSame 551 = .ok (.if_icmp .eq 5, 3) := by decide +kernel
theorem dX5_isSame_554 : decode cX5_isSame 554 = .ok (.iconst 0, 1) := by decide +kernel
theorem dX5_isSame_555 : decode cX5_isSame 555 = .ok (.ireturn, 1) := by decide +kernel
theorem dX5_isSame_556 : decode cX5_isSame 556 = .ok (.iinc 5 1, 3) := by decide +kernel
theorem dX5_isSame_559 : decode cX5_isSame 559 = .ok (.goto (-97), 3) := by decide +kernel
theorem dX5_isSame_562 : decode cX5_isSame 562 = .ok (.aload_n 1, 1) := by decide +kernel
theorem dX5_isSame_563 : decode cX5_isSame 563 = .ok (.invokevirtual 133, 3) := by decide +kernel
theorem dX5_isSame_566 : decode cX5_isSame 566 = .ok (.aload_n 0, 1) := by decide +kernel
theorem dX5_isSame_567 : decode cX5_isSame 567 = .ok (.getfield 22, 3) := by decide +kernel
theorem dX5_isSame_570 : decode cX5_isSame 570 = .ok (.arraylength, 1) := by decide +kernel
theorem dX5_isSame_571 : decode cX5_isSame 571 = .ok (.ifCond .ne 7, 3) := by decide +kernel
theorem dX5_isSame_574 : decode cX5_isSame 574 = .ok (.dconst 0, 1) := by decide +kernel
theorem dX5_isSame_575 : decode cX5_isSame 575 = .ok (.goto 13, 3) := by decide +kernel
theorem dX5_isSame_578 : decode cX5_isSame 578 = .ok (.iload 4, 2) := by decide +kernel
theorem dX5_isSame_580 : decode cX5_isSame 580 = .ok (.i2d, 1) := by decide +kernel
theorem dX5_isSame_581 : decode cX5_isSame 581 = .ok (.aload_n 0, 1) := by decide +kernel
theorem dX5_isSame_582 : decode cX5_isSame 582 = .ok (.getfield 22, 3) := by decide +kernel
theorem dX5_isSame_585 : decode cX5_isSame 585 = .ok (.arraylength, 1) := by decide +kernel
theorem dX5_isSame_586 : decode cX5_isSame 586 = .ok (.i2d, 1) := by decide +kernel
theorem dX5_isSame_587 : decode cX5_isSame 587 = .ok (.ddiv, 1) := by decide +kernel
theorem dX5_isSame_588 : decode cX5_isSame 588 = .ok (.dcmp .l, 1) := by decide +kernel
theorem dX5_isSame_589 : decode cX5_isSame 589 = .ok (.ifCond .ne 7, 3) := by decide +kernel
theorem dX5_isSame_592 : decode cX5_isSame 592 = .ok (.iconst 1, 1) := by decide +kernel
theorem dX5_isSame_593 : decode cX5_isSame 593 = .ok (.goto 4, 3) := by decide +kernel
theorem dX5_isSame_596 : decode cX5_isSame 596 = .ok (.iconst 0, 1) := by decide +kernel
theorem dX5_isSame_597 : decode cX5_isSame 597 = .ok (.ireturn, 1) := by decide +kernel
