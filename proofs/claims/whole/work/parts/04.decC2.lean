theorem dX5_takeNumberHere_120 : decode cX5_takeNumberHere 120 = .ok (.goto 4, 3) := by decide +kernel
theorem dX5_takeNumberHere_123 : decode cX5_takeNumberHere 123 = .ok (.iconst 0, 1) := by decide +kernel
theorem dX5_takeNumberHere_124 : decode cX5_takeNumberHere 124 = .ok (.iload_n 3, 1) := by decide +kernel
theorem dX5_takeNumberHere_125 : decode cX5_takeNumberHere 125 = .ok (.iconst 0, 1) := by decide +kernel
theorem dX5_takeNumberHere_126 : decode cX5_takeNumberHere 126 = .ok (.invokevirtual 52, 3) := by decide +kernel
theorem dX5_takeNumberHere_129 : decode cX5_takeNumberHere 129 = .ok (.ifCond .eq 12, 3) := by decide +kernel
theorem dX5_takeNumberHere_132 : decode cX5_takeNumberHere 132 = .ok (.aload_n 0, 1) := by decide +kernel
theorem dX5_takeNumberHere_133 : decode cX5_takeNumberHere 133 = .ok (.iload 5, 2) := by decide +kernel
theorem dX5_takeNumberHere_135 : decode cX5_takeNumberHere 135 = .ok (.iload_n 3, 1) := by decide +kernel
theorem dX5_takeNumberHere_136 : decode cX5_takeNumberHere 136 = .ok (.iconst 1, 1) := by decide +kernel
theorem dX5_takeNumberHere_137 : decode cX5_takeNumberHere 137 = .ok (.invokevirtual 52, 3) := by decide +kernel
theorem dX5_takeNumberHere_140 : decode cX5_takeNumberHere 140 = .ok (.pop, 1) := by decide +kernel
theorem dX5_takeNumberHere_141 : decode cX5_takeNumberHere 141 = .ok (.iload 4, 2) := by decide +kernel
theorem dX5_takeNumberHere_143 : decode cX5_takeNumberHere 143 = .ok (.ireturn, 1) := by decide +kernel
theorem dX5_goesOn_0 : decode cX5_goesOn 0 = .ok (.aload_n 0, 1) := by decide +kernel
theorem dX5_goesOn_1 : decode cX5_goesOn 1 = .ok (.getfield 15, 3) := by decide +kernel
theorem dX5_goesOn_4 : decode cX5_goesOn 4 = .ok (.ifCond .ne 12, 3) := by decide +kernel
theorem dX5_goesOn_7 : decode cX5_goesOn 7 = .ok (.aload_n 0, 1) := by decide +kernel
theorem dX5_goesOn_8 : decode cX5_goesOn 8 = .ok (.bipush 59, 2) := by decide +kernel
theorem dX5_goesOn_10 : decode cX5_goesOn 10 = .ok (.invokevirtual 56, 3) := by decide +kernel
theorem dX5_goesOn_13 : decode cX5_goesOn 13 = .ok (.ifCond .eq 16, 3) := by decide +kernel
theorem dX5_goesOn_16 : decode cX5_goesOn 16 = .ok (.aload_n 0, 1) := by decide +kernel
theorem dX5_goesOn_17 : decode cX5_goesOn 17 = .ok (.getfield 15, 3) := by decide +kernel
theorem dX5_goesOn_20 : decode cX5_goesOn 20 = .ok (.ifCond .ne 7, 3) := by decide +kernel
theorem dX5_goesOn_23 : decode cX5_goesOn 23 = .ok (.iconst 1, 1) := by decide +kernel
theorem dX5_goesOn_24 : decode cX5_goesOn 24 = .ok (.goto 4, 3) := by decide +kernel
theorem dX5_goesOn_27 : decode cX5_goesOn 27 = .ok (.iconst 0, 1) := by decide +kernel
theorem dX5_goesOn_28 : decode cX5_goesOn 28 = .ok (.ireturn, 1) := by decide +kernel
theorem dX5_goesOn_29 : decode cX5_goesOn 29 = .ok (.aload_n 0, 1) := by decide +kernel
theorem dX5_goesOn_30 : decode cX5_goesOn 30 = .ok (.aload_n 0, 1) := by decide +kernel
theorem dX5_goesOn_31 : decode cX5_goesOn 31 = .ok (.getfield 9, 3) := by decide +kernel
theorem dX5_goesOn_34 : decode cX5_goesOn 34 = .ok (.aload_n 0, 1) := by decide +kernel
theorem dX5_goesOn_35 : decode cX5_goesOn 35 = .ok (.getfield 19, 3) := by decide +kernel
theorem dX5_goesOn_38 : decode cX5_goesOn 38 = .ok (.invokevirtual 22, 3) := by decide +kernel
theorem dX5_goesOn_41 : decode cX5_goesOn 41 = .ok (.iconst (-1), 1) := by decide +kernel
theorem dX5_goesOn_42 : decode cX5_goesOn 42 = .ok (.if_icmp .ne 7, 3) := by decide +kernel
theorem dX5_goesOn_45 : decode cX5_goesOn 45 = .ok (.iconst 1, 1) := by decide +kernel
theorem dX5_goesOn_46 : decode cX5_goesOn 46 = .ok (.goto 4, 3) := by decide +kernel
theorem dX5_goesOn_49 : decode cX5_goesOn 49 = .ok (.iconst 0, 1) := by decide +kernel
theorem dX5_goesOn_50 : decode cX5_goesOn 50 = .ok (.aload_n 0, 1) := by decide +kernel
theorem dX5_goesOn_51 : decode cX5_goesOn 51 = .ok (.getfield 19, 3) := by decide +kernel
theorem dX5_goesOn_54 : decode cX5_goesOn 54 = .ok (.iconst 0, 1) := by decide +kernel
theorem dX5_goesOn_55 : decode cX5_goesOn 55 = .ok (.invokevirtual 52, 3) := by decide +kernel
theorem dX5_goesOn_58 : decode cX5_goesOn 58 = .ok (.pop, 1) := by decide +kernel
theorem dX5_goesOn_59 : decode cX5_goesOn 59 = .ok (.iconst 0, 1) := by decide +kernel
theorem dX5_goesOn_60 : decode cX5_goesOn 60 = .ok (.ireturn, 1) := by decide +kernel
theorem dX6_init_0 : decode cX6_init 0 = .ok (.aload_n 0, 1) := by decide +kernel
theorem dX6_init_1 : decode cX6_init 1 = .ok (.invokespecial 3, 3) := by decide +kernel
theorem dX6_init_4 : decode cX6_init 4 = .ok (.aload_n 0, 1) := by decide +kernel
theorem dX6_init_5 : decode cX6_init 5 = .ok (.bipush 7, 2) := by decide +kernel
theorem dX6_init_7 : decode cX6_init 7 = .ok (.newarray .int, 2) := by decide +kernel
theorem dX6_init_9 : decode cX6_init 9 = .ok (.putfield 9, 3) := by decide +kernel
theorem dX6_init_12 : decode cX6_init 12 = .ok (.return_, 1) := by decide +kernel
theorem dX6_begin_0 : decode cX6_begin 0 = .ok (.aload_n 0, 1) := by decide +kernel
theorem dX6_begin_1 : decode cX6_begin 1 = .ok (.iconst 0, 1) := by decide +kernel
theorem dX6_begin_2 : decode cX6_begin 2 = .ok (.putfield 15, 3) := by decide +kernel
theorem dX6_begin_5 : decode cX6_begin 5 = .ok (.aload_n 0, 1) := by decide +kernel
theorem dX6_begin_6 : decode cX6_begin 6 = .ok (.iconst 0, 1) := by decide +kernel
theorem dX6_begin_7 : decode cX6_begin 7 = .ok (.putfield 19, 3) := by decide +kernel
theorem dX6_begin_10 : decode cX6_begin 10 = .ok (.aload_n 0, 1) := by decide +kernel
theorem dX6_begin_11 : decode cX6_begin 11 = .ok (.iconst 0, 1) := by decide +kernel
theorem dX6_begin_12 : decode cX6_begin 12 = .ok (.putfield 22, 3) := by decide +kernel
theorem dX6_begin_15 : decode cX6_begin 15 = .ok (.aload_n 0, 1) := by decide +kernel
theorem dX6_begin_16 : decode cX6_begin 16 = .ok (.iconst 0, 1) := by decide +kernel
theorem dX6_begin_17 : decode cX6_begin 17 = .ok (.putfield 25, 3) := by decide +kernel
theorem dX6_begin_20 : decode cX6_begin 20 = .ok (.aload_n 0, 1) := by decide +kernel
theorem dX6_begin_21 : decode cX6_begin 21 = .ok (.iconst 0, 1) := by decide +kernel
theorem dX6_begin_22 : decode cX6_begin 22 = .ok (.putfield 28, 3) := by decide +kernel
theorem dX6_begin_25 : decode cX6_begin 25 = .ok (.aload_n 1, 1) := by decide +kernel
theorem dX6_begin_26 : decode cX6_begin 26 = .ok (.getfield 31, 3) := by decide +kernel
theorem dX6_begin_29 : decode cX6_begin 29 = .ok (.iconst 0, 1) := by decide +kernel
theorem dX6_begin_30 : decode cX6_begin 30 = .ok (.aload_n 0, 1) := by decide +kernel
theorem dX6_begin_31 : decode cX6_begin 31 = .ok (.getfield 9, 3) := by decide +kernel
theorem dX6_begin_34 : decode cX6_begin 34 = .ok (.iconst 0, 1) := by decide +kernel
theorem dX6_begin_35 : decode cX6_begin 35 = .ok (.bipush 7, 2) := by decide +kernel
theorem dX6_begin_37 : decode cX6_begin 37 = .ok (.invokestatic 34, 3) := by decide +kernel
theorem dX6_begin_40 : decode cX6_begin 40 = .ok (.return_, 1) := by decide +kernel
theorem dX6_copyFrom_0 : decode cX6_copyFrom 0 = .ok (.aload_n 0, 1) := by decide +kernel
theorem dX6_copyFrom_1 : decode cX6_copyFrom 1 = .ok (.aload_n 1, 1) := by decide +kernel
theorem dX6_copyFrom_2 : decode cX6_copyFrom 2 = .ok (.getfield 15, 3) := by decide +kernel
theorem dX6_copyFrom_5 : decode cX6_copyFrom 5 = .ok (.putfield 15, 3) := by decide +kernel
theorem dX6_copyFrom_8 : decode cX6_copyFrom 8 = .ok (.aload_n 0, 1) := by decide +kernel
theorem dX6_copyFrom_9 : decode cX6_copyFrom 9 = .ok (.aload_n 1, 1) := by decide +kernel
theorem dX6_copyFrom_10 : decode cX6_copyFrom 10 = .ok (.getfield 19, 3) := by decide +kernel
theorem dX6_copyFrom_13 : decode cX6_copyFrom 13 = .ok (.putfield 19, 3) := by decide +kernel
theorem dX6_copyFrom_16 : decode cX6_copyFrom 16 = .ok (.aload_n 0, 1) := by decide +kernel
theorem dX6_copyFrom_17 : decode cX6_copyFrom 17 = .ok (.aload_n 1, 1) := by decide +kernel
theorem dX6_copyFrom_18 : decode cX6_copyFrom 18 = .ok (.getfield 22, 3) := by decide +kernel
theorem dX6_copyFrom_21 : decode cX6_copyFrom 21 = .ok (.putfield 22, 3) := by decide +kernel
theorem dX6_copyFrom_24 : decode cX6_copyFrom 24 = .ok (.aload_n 0, 1) := by decide +kernel
theorem dX6_copyFrom_25 : decode cX6_copyFrom 25 = .ok (.aload_n 1, 1) := by decide +kernel
theorem dX6_copyFrom_26 : decode cX6_copyFrom 26 = .ok (.getfield 25, 3) := by decide +kernel
theorem dX6_copyFrom_29 : decode cX6_copyFrom 29 = .ok (.putfield 25, 3) := by decide +kernel
theorem dX6_copyFrom_32 : decode cX6_copyFrom 32 = .ok (.aload_n 0, 1) := by decide +kernel
theorem dX6_copyFrom_33 : decode cX6_copyFrom 33 = .ok (.aload_n 1, 1) := by decide +kernel
theorem dX6_copyFrom_34 : decode cX6_copyFrom 34 = .ok (.getfield 28, 3) := by decide +kernel
theorem dX6_copyFrom_37 : decode cX6_copyFrom 37 = .ok (.putfield 28, 3) := by decide +kernel
theorem dX6_copyFrom_40 : decode cX6_copyFrom 40 = .ok (.aload_n 1, 1) := by decide +kernel
theorem dX6_copyFrom_41 : decode cX6_copyFrom 41 = .ok (.getfield 9, 3) := by decide +kernel
theorem dX6_copyFrom_44 : decode cX6_copyFrom 44 = .ok (.iconst 0, 1) := by decide +kernel
theorem dX6_copyFrom_45 : decode cX6_copyFrom 45 = .ok (.aload_n 0, 1) := by decide +kernel
theorem dX6_copyFrom_46 : decode cX6_copyFrom 46 = .ok (.getfield 9, 3) := by decide +kernel
theorem dX6_copyFrom_49 : decode cX6_copyFrom 49 = .ok (.iconst 0, 1) := by decide +kernel
theorem dX6_copyFrom_50 : decode cX6_copyFrom 50 = .ok (.bipush 7, 2) := by decide +kernel
theorem dX6_copyFrom_52 : decode cX6_copyFrom 52 = .ok (.invokestatic 34, 3) := by decide +kernel
theorem dX6_copyFrom_55 : decode cX6_copyFrom 55 = .ok (.return_, 1) := by decide +kernel
theorem dX6_sideOf_0 : decode cX6_sideOf 0 = .ok (.aload_n 0, 1) := by decide +kernel
theorem dX6_sideOf_1 : decode cX6_sideOf 1 = .ok (.getfield 22, 3) := by decide +kernel
theorem dX6_sideOf_4 : decode cX6_sideOf 4 = .ok (.iload_n 1, 1) := by decide +kernel
theorem dX6_sideOf_5 : decode cX6_sideOf 5 = .ok (.ishr, 1) := by decide +kernel
theorem dX6_sideOf_6 : decode cX6_sideOf 6 = .ok (.iconst 1, 1) := by decide +kernel
theorem dX6_sideOf_7 : decode cX6_sideOf 7 = .ok (.iand, 1) := by decide +kernel
theorem dX6_sideOf_8 : decode cX6_sideOf 8 = .ok (.ireturn, 1) := by decide +kernel
theorem dX6_here_0 : decode cX6_here 0 = .ok (.aload_n 0, 1) := by decide +kernel
theorem dX6_here_1 : decode cX6_here 1 = .ok (.getfield 19, 3) := by decide +kernel
theorem dX6_here_4 : decode cX6_here 4 = .ok (.iconst 1, 1) := by decide +kernel
theorem dX6_here_5 : decode cX6_here 5 = .ok (.if_icmp .ne 10, 3) := by decide +kernel
theorem dX6_here_8 : decode cX6_here 8 = .ok (.aload_n 0, 1) := by decide +kernel
theorem dX6_here_9 : decode cX6_here 9 = .ok (.getfield 22, 3) := by decide +kernel
theorem dX6_here_12 : decode cX6_here 12 = .ok (.goto 14, 3) := by decide +kernel
theorem dX6_here_15 : decode cX6_here 15 = .ok (.aload_n 1, 1) := by decide +kernel
theorem dX6_here_16 : decode cX6_here 16 = .ok (.invokevirtual 40, 3) := by decide +kernel
theorem dX6_here_19 : decode cX6_here 19 = .ok (.aload_n 0, 1) := by decide +kernel
theorem dX6_here_20 : decode cX6_here 20 = .ok (.getfield 22, 3) := by decide +kernel
theorem dX6_here_23 : decode cX6_here 23 = .ok (.iconst (-1), 1) := by decide +kernel
theorem dX6_here_24 : decode cX6_here 24 = .ok (.ixor, 1) := by decide +kernel
theorem dX6_here_25 : decode cX6_here 25 = .ok (.iand, 1) := by decide +kernel
theorem dX6_here_26 : decode cX6_here 26 = .ok (.ireturn, 1) := by decide +kernel
theorem dX6_areHere_0 : decode cX6_areHere 0 = .ok (.iload_n 2, 1) := by decide +kernel
theorem dX6_areHere_1 : decode cX6_areHere 1 = .ok (.aload_n 0, 1) := by decide +kernel
theorem dX6_areHere_2 : decode cX6_areHere 2 = .ok (.aload_n 1, 1) := by decide +kernel
theorem dX6_areHere_3 : decode cX6_areHere 3 = .ok (.invokevirtual 44, 3) := by decide +kernel
theorem dX6_areHere_6 : decode cX6_areHere 6 = .ok (.iconst (-1), 1) := by decide +kernel
theorem dX6_areHere_7 : decode cX6_areHere 7 = .ok (.ixor, 1) := by decide +kernel
theorem dX6_areHere_8 : decode cX6_areHere 8 = .ok (.iand, 1) := by decide +kernel
theorem dX6_areHere_9 : decode cX6_areHere 9 = .ok (.ifCond .ne 7, 3) := by decide +kernel
theorem dX6_areHere_12 : decode cX6_areHere 12 = .ok (.iconst 1, 1) := by decide +kernel
theorem dX6_areHere_13 : decode cX6_areHere 13 = .ok (.goto 4, 3) := by decide +kernel
theorem dX6_areHere_16 : decode cX6_areHere 16 = .ok (.iconst 0, 1) := by decide +kernel
theorem dX6_areHere_17 : decode cX6_areHere 17 = .ok (.ireturn, 1) := by decide +kernel
theorem dX6_allOver_0 : decode cX6_allOver 0 = .ok (.aload_n 0, 1) := by decide +kernel
theorem dX6_allOver_1 : decode cX6_allOver 1 = .ok (.getfield 22, 3) := by decide +kernel
theorem dX6_allOver_4 : decode cX6_allOver 4 = .ok (.aload_n 1, 1) := by decide +kernel
theorem dX6_allOver_5 : decode cX6_allOver 5 = .ok (.invokevirtual 40, 3) := by decide +kernel
theorem dX6_allOver_8 : decode cX6_allOver 8 = .ok (.if_icmp .ne 7, 3) := by decide +kernel
theorem dX6_allOver_11 : decode cX6_allOver 11 = .ok (.iconst 1, 1) := by decide +kernel
theorem dX6_allOver_12 : decode cX6_allOver 12 = .ok (.goto 4, 3) := by decide +kernel
theorem dX6_allOver_15 : decode cX6_allOver 15 = .ok (.iconst 0, 1) := by decide +kernel
theorem dX6_allOver_16 : decode cX6_allOver 16 = .ok (.ireturn, 1) := by decide +kernel
theorem dX6_fullWeight_0 : decode cX6_fullWeight 0 = .ok (.iconst 0, 1) := by decide +kernel
theorem dX6_fullWeight_1 : decode cX6_fullWeight 1 = .ok (.istore_n 3, 1) := by decide +kernel
theorem dX6_fullWeight_2 : decode cX6_fullWeight 2 = .ok (.iconst 0, 1) := by decide +kernel
theorem dX6_fullWeight_3 : decode cX6_fullWeight 3 = .ok (.istore 4, 2) := by decide +kernel
theorem dX6_fullWeight_5 : decode cX6_fullWeight 5 = .ok (.iload 4, 2) := by decide +kernel
theorem dX6_fullWeight_7 : decode cX6_fullWeight 7 = .ok (.aload_n 1, 1) := by decide +kernel
theorem dX6_fullWeight_8 : decode cX6_fullWeight 8 = .ok (.getfield 48, 3) := by decide +kernel
theorem dX6_fullWeight_11 : decode cX6_fullWeight 11 = .ok (.if_icmp .ge 48, 3) := by decide +kernel
theorem dX6_fullWeight_14 : decode cX6_fullWeight 14 = .ok (.iload_n 2, 1) := by decide +kernel
theorem dX6_fullWeight_15 : decode cX6_fullWeight 15 = .ok (.iload 4, 2) := by decide +kernel
theorem dX6_fullWeight_17 : decode cX6_fullWeight 17 = .ok (.ishr, 1) := by decide +kernel
theorem dX6_fullWeight_18 : decode cX6_fullWeight 18 = .ok (.iconst 1, 1) := by decide +kernel
theorem dX6_fullWeight_19 : decode cX6_fullWeight 19 = .ok (.iand, 1) := by decide +kernel
theorem dX6_fullWeight_20 : decode cX6_fullWeight 20 = .ok (.iconst 1, 1) := by decide +kernel
theorem dX6_fullWeight_21 : decode cX6_fullWeight 21 = .ok (.if_icmp .ne 32, 3) := by decide +kernel
theorem dX6_fullWeight_24 : decode cX6_fullWeight 24 = .ok (.iload_n 2, 1) := by decide +kernel
theorem dX6_fullWeight_25 : decode cX6_fullWeight 25 = .ok (.iconst 1, 1) := by decide +kernel
theorem dX6_fullWeight_26 : decode cX6_fullWeight 26 = .ok (.iload 4, 2) := by decide +kernel
theorem dX6_fullWeight_28 : decode cX6_fullWeight 28 = .ok (.ishl, 1) := by decide +kernel
theorem dX6_fullWeight_29 : decode cX6_fullWeight 29 = .ok (.iconst 1, 1) := by decide +kernel
theorem dX6_fullWeight_30 : decode cX6_fullWeight 30 = .ok (.isub, 1) := by decide +kernel
theorem dX6_fullWeight_31 : decode cX6_fullWeight 31 = .ok (.iand, 1) := by decide +kernel
theorem dX6_fullWeight_32 : decode cX6_fullWeight 32 = .ok (.istore 5, 2) := by decide +kernel
theorem dX6_fullWeight_34 : decode cX6_fullWeight 34 = .ok (.iload_n 3, 1) := by decide +kernel
theorem dX6_fullWeight_35 : decode cX6_fullWeight 35 = .ok (.aload_n 0, 1) := by decide +kernel
theorem dX6_fullWeight_36 : decode cX6_fullWeight 36 = .ok (.getfield 9, 3) := by decide +kernel
theorem dX6_fullWeight_39 : decode cX6_fullWeight 39 = .ok (.iload 4, 2) := by decide +kernel
theorem dX6_fullWeight_41 : decode cX6_fullWeight 41 = .ok (.iaload, 1) := by decide +kernel
theorem dX6_fullWeight_42 : decode cX6_fullWeight 42 = .ok (.aload_n 1, 1) := by decide +kernel
theorem dX6_fullWeight_43 : decode cX6_fullWeight 43 = .ok (.iload 4, 2) := by decide +kernel
theorem dX6_fullWeight_45 : decode cX6_fullWeight 45 = .ok (.iload 5, 2) := by decide +kernel
theorem dX6_fullWeight_47 : decode cX6_fullWeight 47 = .ok (.invokevirtual 51, 3) := by decide +kernel
theorem dX6_fullWeight_50 : decode cX6_fullWeight 50 = .ok (.iadd, 1) := by decide +kernel
theorem dX6_fullWeight_51 : decode cX6_fullWeight 51 = .ok (.iadd, 1) := by decide +kernel
theorem dX6_fullWeight_52 : decode cX6_fullWeight 52 = .ok (.istore_n 3, 1) := by decide +kernel
theorem dX6_fullWeight_53 : decode cX6_fullWeight 53 = .ok (.iinc 4 1, 3) := by decide +kernel
theorem dX6_fullWeight_56 : decode cX6_fullWeight 56 = .ok (.goto (-51), 3) := by decide +kernel
theorem dX6_fullWeight_59 : decode cX6_fullWeight 59 = .ok (.iload_n 3, 1) := by decide +kernel
theorem dX6_fullWeight_60 : decode cX6_fullWeight 60 = .ok (.ireturn, 1) := by decide +kernel
theorem dX6_weigh_0 : decode cX6_weigh 0 = .ok (.aload_n 1, 1) := by decide +kernel
theorem dX6_weigh_1 : decode cX6_weigh 1 = .ok (.aload_n 0, 1) := by decide +kernel
theorem dX6_weigh_2 : decode cX6_weigh 2 = .ok (.aload_n 1, 1) := by decide +kernel
theorem dX6_weigh_3 : decode cX6_weigh 3 = .ok (.iload_n 2, 1) := by decide +kernel
theorem dX6_weigh_4 : decode cX6_weigh 4 = .ok (.invokevirtual 55, 3) := by decide +kernel
theorem dX6_weigh_7 : decode cX6_weigh 7 = .ok (.aload_n 1, 1) := by decide +kernel
theorem dX6_weigh_8 : decode cX6_weigh 8 = .ok (.iload_n 2, 1) := by decide +kernel
theorem dX6_weigh_9 : decode cX6_weigh 9 = .ok (.invokevirtual 59, 3) := by decide +kernel
theorem dX6_weigh_12 : decode cX6_weigh 12 = .ok (.aload_n 0, 1) := by decide +kernel
theorem dX6_weigh_13 : decode cX6_weigh 13 = .ok (.getfield 19, 3) := by decide +kernel
theorem dX6_weigh_16 : decode cX6_weigh 16 = .ok (.iload_n 3, 1) := by decide +kernel
theorem dX6_weigh_17 : decode cX6_weigh 17 = .ok (.invokevirtual 63, 3) := by decide +kernel
theorem dX6_weigh_20 : decode cX6_weigh 20 = .ok (.ireturn, 1) := by decide +kernel
theorem dX6_canBoard_0 : decode cX6_canBoard 0 = .ok (.aload_n 0, 1) := by decide +kernel
theorem dX6_canBoard_1 : decode cX6_canBoard 1 = .ok (.aload_n 1, 1) := by decide +kernel
theorem dX6_canBoard_2 : decode cX6_canBoard 2 = .ok (.iload_n 2, 1) := by decide +kernel
theorem dX6_canBoard_3 : decode cX6_canBoard 3 = .ok (.invokevirtual 67, 3) := by decide +kernel
theorem dX6_canBoard_6 : decode cX6_canBoard 6 = .ok (.ifCond .eq 32, 3) := by decide +kernel
theorem dX6_canBoard_9 : decode cX6_canBoard 9 = .ok (.iload_n 2, 1) := by decide +kernel
theorem dX6_canBoard_10 : decode cX6_canBoard 10 = .ok (.invokestatic 71, 3) := by decide +kernel
theorem dX6_canBoard_13 : decode cX6_canBoard 13 = .ok (.aload_n 1, 1) := by decide +kernel
theorem dX6_canBoard_14 : decode cX6_canBoard 14 = .ok (.getfield 76, 3) := by decide +kernel
theorem dX6_canBoard_17 : decode cX6_canBoard 17 = .ok (.if_icmp .gt 21, 3) := by decide +kernel
theorem dX6_canBoard_20 : decode cX6_canBoard 20 = .ok (.aload_n 0, 1) := by decide +kernel
theorem dX6_canBoard_21 : decode cX6_canBoard 21 = .ok (.aload_n 1, 1) := by decide +kernel
theorem dX6_canBoard_22 : decode cX6_canBoard 22 = .ok (.iload_n 2, 1) := by decide +kernel
theorem dX6_canBoard_23 : decode cX6_canBoard 23 = .ok (.iload_n 3, 1) := by decide +kernel
theorem dX6_canBoard_24 : decode cX6_canBoard 24 = .ok (.invokevirtual 79, 3) := by decide +kernel
theorem dX6_canBoard_27 : decode cX6_canBoard 27 = .ok (.aload_n 1, 1) := by decide +kernel
theorem dX6_canBoard_28 : decode cX6_canBoard 28 = .ok (.getfield 83, 3) := by decide +kernel
theorem dX6_canBoard_31 : decode cX6_canBoard 31 = .ok (.if_icmp .gt 7, 3) := by decide +kernel
theorem dX6_canBoard_34 : decode cX6_canBoard 34 = .ok (.iconst 1, 1) := by decide +kernel
theorem dX6_canBoard_35 : decode cX6_canBoard 35 = .ok (.goto 4, 3) := by decide +kernel
theorem dX6_canBoard_38 : decode cX6_canBoard 38 = .ok (.iconst 0, 1) := by decide +kernel
theorem dX6_canBoard_39 : decode cX6_canBoard 39 = .ok (.ireturn, 1) := by decide +kernel
theorem dX6_grow_0 : decode cX6_grow 0 = .ok (.iconst 0, 1) := by decide +kernel
theorem dX6_grow_1 : decode cX6_grow 1 = .ok (.istore_n 3, 1) := by decide +kernel
theorem dX6_grow_2 : decode cX6_grow 2 = .ok (.iload_n 3, 1) := by decide +kernel
theorem dX6_grow_3 : decode cX6_grow 3 = .ok (.aload_n 1, 1) := by decide +kernel
theorem dX6_grow_4 : decode cX6_grow 4 = .ok (.getfield 48, 3) := by decide +kernel
theorem dX6_grow_7 : decode cX6_grow 7 = .ok (.if_icmp .ge 51, 3) := by decide +kernel
theorem dX6_grow_10 : decode cX6_grow 10 = .ok (.iload_n 2, 1) := by decide +kernel
theorem dX6_grow_11 : decode cX6_grow 11 = .ok (.iload_n 3, 1) := by decide +kernel
theorem dX6_grow_12 : decode cX6_grow 12 = .ok (.ishr, 1) := by decide +kernel
theorem dX6_grow_13 : decode cX6_grow 13 = .ok (.iconst 1, 1) := by decide +kernel
theorem dX6_grow_14 : decode cX6_grow 14 = .ok (.iand, 1) := by decide +kernel
theorem dX6_grow_15 : decode cX6_grow 15 = .ok (.iconst 1, 1) := by decide +kernel
theorem dX6_grow_16 : decode cX6_grow 16 = .ok (.if_icmp .ne 36, 3) := by decide +kernel
theorem dX6_grow_19 : decode cX6_grow 19 = .ok (.aload_n 0, 1) := by decide +kernel
theorem dX6_grow_20 : decode cX6_grow 20 = .ok (.getfield 9, 3) := by decide +kernel
theorem dX6_grow_23 : decode cX6_grow 23 = .ok (.iload_n 3, 1) := by decide +kernel
theorem dX6_grow_24 : decode cX6_grow 24 = .ok (.iaload, 1) := by decide +kernel
theorem dX6_grow_25 : decode cX6_grow 25 = .ok (.ifCond .le 27, 3) := by decide +kernel
theorem dX6_grow_28 : decode cX6_grow 28 = .ok (.aload_n 0, 1) := by decide +kernel
theorem dX6_grow_29 : decode cX6_grow 29 = .ok (.getfield 9, 3) := by decide +kernel
theorem dX6_grow_32 : decode cX6_grow 32 = .ok (.iload_n 3, 1) := by decide +kernel
theorem dX6_grow_33 : decode cX6_grow 33 = .ok (.bipush 99, 2) := by decide +kernel
theorem dX6_grow_35 : decode cX6_grow 35 = .ok (.aload_n 0, 1) := by decide +kernel
theorem dX6_grow_36 : decode cX6_grow 36 = .ok (.getfield 9, 3) := by decide +kernel
theorem dX6_grow_39 : decode cX6_grow 39 = .ok (.iload_n 3, 1) := by decide +kernel
theorem dX6_grow_40 : decode cX6_grow 40 = .ok (.iaload, 1) := by decide +kernel
theorem dX6_grow_41 : decode cX6_grow 41 = .ok (.aload_n 1, 1) := by decide +kernel
theorem dX6_grow_42 : decode cX6_grow 42 = .ok (.getfield 86, 3) := by decide +kernel
theorem dX6_grow_45 : decode cX6_grow 45 = .ok (.iload_n 3, 1) := by decide +kernel
theorem dX6_grow_46 : decode cX6_grow 46 = .ok (.iaload, 1) := by decide +kernel
theorem dX6_grow_47 : decode cX6_grow 47 = .ok (.iadd, 1) := by decide +kernel
theorem dX6_grow_48 : decode cX6_grow 48 = .ok (.invokestatic 89, 3) := by decide +kernel
theorem dX6_grow_51 : decode cX6_grow 51 = .ok (.iastore, 1) := by decide +kernel
theorem dX6_grow_52 : decode cX6_grow 52 = .ok (.iinc 3 1, 3) := by decide +kernel
theorem dX6_grow_55 : decode cX6_grow 55 = .ok (.goto (-53), 3) := by decide +kernel
theorem dX6_grow_58 : decode cX6_grow 58 = .ok (.return_, 1) := by decide +kernel
theorem dX6_carry_0 : decode cX6_carry 0 = .ok (.aload_n 0, 1) := by decide +kernel
theorem dX6_carry_1 : decode cX6_carry 1 = .ok (.aload_n 1, 1) := by decide +kernel
theorem dX6_carry_2 : decode cX6_carry 2 = .ok (.iload_n 2, 1) := by decide +kernel
theorem dX6_carry_3 : decode cX6_carry 3 = .ok (.invokevirtual 94, 3) := by decide +kernel
theorem dX6_carry_6 : decode cX6_carry 6 = .ok (.aload_n 0, 1) := by decide +kernel
theorem dX6_carry_7 : decode cX6_carry 7 = .ok (.aload_n 1, 1) := by decide +kernel
theorem dX6_carry_8 : decode cX6_carry 8 = .ok (.iload_n 2, 1) := by decide +kernel
theorem dX6_carry_9 : decode cX6_carry 9 = .ok (.iload_n 3, 1) := by decide +kernel
theorem dX6_carry_10 : decode cX6_carry 10 = .ok (.invokevirtual 79, 3) := by decide +kernel
theorem dX6_carry_13 : decode cX6_carry 13 = .ok (.aload_n 1, 1) := by decide +kernel
theorem dX6_carry_14 : decode cX6_carry 14 = .ok (.getfield 83, 3) := by decide +kernel
theorem dX6_carry_17 : decode cX6_carry 17 = .ok (.if_icmp .gt 7, 3) := by decide +kernel
theorem dX6_carry_20 : decode cX6_carry 20 = .ok (.iconst 1, 1) := by decide +kernel
theorem dX6_carry_21 : decode cX6_carry 21 = .ok (.goto 4, 3) := by decide +kernel
theorem dX6_carry_24 : decode cX6_carry 24 = .ok (.iconst 0, 1) := by decide +kernel
theorem dX6_carry_25 : decode cX6_carry 25 = .ok (.istore 4, 2) := by decide +kernel
theorem dX6_carry_27 : decode cX6_carry 27 = .ok (.iload 4, 2) := by decide +kernel
theorem dX6_carry_29 : decode cX6_carry 29 = .ok (.ifCond .eq 26, 3) := by decide +kernel
theorem dX6_carry_32 : decode cX6_carry 32 = .ok (.aload_n 0, 1) := by decide +kernel
theorem dX6_carry_33 : decode cX6_carry 33 = .ok (.dup, 1) := by decide +kernel
theorem dX6_carry_34 : decode cX6_carry 34 = .ok (.getfield 22, 3) := by decide +kernel
theorem dX6_carry_37 : decode cX6_carry 37 = .ok (.iload_n 2, 1) := by decide +kernel
theorem dX6_carry_38 : decode cX6_carry 38 = .ok (.ixor, 1) := by decide +kernel
theorem dX6_carry_39 : decode cX6_carry 39 = .ok (.putfield 22, 3) := by decide +kernel
theorem dX6_carry_42 : decode cX6_carry 42 = .ok (.aload_n 0, 1) := by decide +kernel
theorem dX6_carry_43 : decode cX6_carry 43 = .ok (.iconst 1, 1) := by decide +kernel
theorem dX6_carry_44 : decode cX6_carry 44 = .ok (.aload_n 0, 1) := by decide +kernel
theorem dX6_carry_45 : decode cX6_carry 45 = .ok (.getfield 19, 3) := by decide +kernel
theorem dX6_carry_48 : decode cX6_carry 48 = .ok (.isub, 1) := by decide +kernel
theorem dX6_carry_49 : decode cX6_carry 49 = .ok (.putfield 19, 3) := by decide +kernel
theorem dX6_carry_52 : decode cX6_carry 52 = .ok (.goto 13, 3) := by decide +kernel
theorem dX6_carry_55 : decode cX6_carry 55 = .ok (.aload_n 0, 1) := by decide +kernel
theorem dX6_carry_56 : decode cX6_carry 56 = .ok (.dup, 1) := by decide +kernel
theorem dX6_carry_57 : decode cX6_carry 57 = .ok (.getfield 25, 3) := by decide +kernel
theorem dX6_carry_60 : decode cX6_carry 60 = .ok (.iconst 1, 1) := by decide +kernel
theorem dX6_carry_61 : decode cX6_carry 61 = .ok (.iadd, 1) := by decide +kernel
theorem dX6_carry_62 : decode cX6_carry 62 = .ok (.putfield 25, 3) := by decide +kernel
theorem dX6_carry_65 : decode cX6_carry 65 = .ok (.aload_n 0, 1) := by decide +kernel
theorem dX6_carry_66 : decode cX6_carry 66 = .ok (.dup, 1) := by decide +kernel
theorem dX6_carry_67 : decode cX6_carry 67 = .ok (.getfield 15, 3) := by decide +kernel
theorem dX6_carry_70 : decode cX6_carry 70 = .ok (.iconst 1, 1) := by decide +kernel
theorem dX6_carry_71 : decode cX6_carry 71 = .ok (.iadd, 1) := by decide +kernel
theorem dX6_carry_72 : decode cX6_carry 72 = .ok (.putfield 15, 3) := by decide +kernel
theorem dX6_carry_75 : decode cX6_carry 75 = .ok (.iload 4, 2) := by decide +kernel
theorem dX6_carry_77 : decode cX6_carry 77 = .ok (.ireturn, 1) := by decide +kernel
theorem dX7_init_0 : decode cX7_init 0 = .ok (.aload_n 0, 1) := by decide +kernel
theorem dX7_init_1 : decode cX7_init 1 = .ok (.invokespecial 1, 3) := by decide +kernel
theorem dX7_init_4 : decode cX7_init 4 = .ok (.aload_n 0, 1) := by decide +kernel
theorem dX7_init_5 : decode cX7_init 5 = .ok (.aload_n 1, 1) := by decide +kernel
theorem dX7_init_6 : decode cX7_init 6 = .ok (.putfield 7, 3) := by decide +kernel
theorem dX7_init_9 : decode cX7_init 9 = .ok (.return_, 1) := by decide +kernel
theorem dX7_sumFor_0 : decode cX7_sumFor 0 = .ok (.iconst 0, 1) := by decide +kernel
theorem dX7_sumFor_1 : decode cX7_sumFor 1 = .ok (.istore_n 3, 1) := by decide +kernel
theorem dX7_sumFor_2 : decode cX7_sumFor 2 = .ok (.iconst 0, 1) := by decide +kernel
theorem dX7_sumFor_3 : decode cX7_sumFor 3 = .ok (.istore 4, 2) := by decide +kernel
theorem dX7_sumFor_5 : decode cX7_sumFor 5 = .ok (.iload 4, 2) := by decide +kernel
theorem dX7_sumFor_7 : decode cX7_sumFor 7 = .ok (.aload_n 0, 1) := by decide +kernel
theorem dX7_sumFor_8 : decode cX7_sumFor 8 = .ok (.getfield 7, 3) := by decide +kernel
theorem dX7_sumFor_11 : decode cX7_sumFor 11 = .ok (.arraylength, 1) := by decide +kernel
theorem dX7_sumFor_12 : decode cX7_sumFor 12 = .ok (.if_icmp .ge 174, 3) := by decide +kernel
theorem dX7_sumFor_15 : decode cX7_sumFor 15 = .ok (.aload_n 0, 1) := by decide +kernel
theorem dX7_sumFor_16 : decode cX7_sumFor 16 = .ok (.getfield 7, 3) := by decide +kernel
theorem dX7_sumFor_19 : decode cX7_sumFor 19 = .ok (.iload 4, 2) := by decide +kernel
theorem dX7_sumFor_21 : decode cX7_sumFor 21 = .ok (.iaload, 1) := by decide +kernel
theorem dX7_sumFor_22 : decode cX7_sumFor 22 = .ok (.bipush 32, 2) := by decide +kernel
theorem dX7_sumFor_24 : decode cX7_sumFor 24 = .ok (.irem, 1) := by decide +kernel
theorem dX7_sumFor_25 : decode cX7_sumFor 25 = .ok (.istore 5, 2) := by decide +kernel
theorem dX7_sumFor_27 : decode cX7_sumFor 27 = .ok (.aload_n 0, 1) := by decide +kernel
theorem dX7_sumFor_28 : decode cX7_sumFor 28 = .ok (.getfield 7, 3) := by decide +kernel
theorem dX7_sumFor_31 : decode cX7_sumFor 31 = .ok (.iload 4, 2) := by decide +kernel
theorem dX7_sumFor_33 : decode cX7_sumFor 33 = .ok (.iaload, 1) := by decide +kernel
theorem dX7_sumFor_34 : decode cX7_sumFor 34 = .ok (.bipush 32, 2) := by decide +kernel
theorem dX7_sumFor_36 : decode cX7_sumFor 36 = .ok (.idiv, 1) := by decide +kernel
theorem dX7_sumFor_37 : decode cX7_sumFor 37 = .ok (.istore 6, 2) := by decide +kernel
theorem dX7_sumFor_39 : decode cX7_sumFor 39 = .ok (.iload_n 3, 1) := by decide +kernel
theorem dX7_sumFor_40 : decode cX7_sumFor 40 = .ok (.iload 5, 2) := by decide +kernel
theorem dX7_sumFor_42 : decode cX7_sumFor 42 = .ok (.invokestatic 13, 3) := by decide +kernel
theorem dX7_sumFor_45 : decode cX7_sumFor 45 = .ok (.if_icmp .lt 9, 3) := by decide +kernel
theorem dX7_sumFor_48 : decode cX7_sumFor 48 = .ok (.iload_n 3, 1) := by decide +kernel
theorem dX7_sumFor_49 : decode cX7_sumFor 49 = .ok (.aload_n 2, 1) := by decide +kernel
theorem dX7_sumFor_50 : decode cX7_sumFor 50 = .ok (.arraylength, 1) := by decide +kernel
theorem dX7_sumFor_51 : decode cX7_sumFor 51 = .ok (.if_icmp .lt 5, 3) := by decide +kernel
theorem dX7_sumFor_54 : decode cX7_sumFor 54 = .ok (.lconst 0, 1) := by decide +kernel
theorem dX7_sumFor_55 : decode cX7_sumFor 55 = .ok (.lreturn, 1) := by decide +kernel
theorem dX7_sumFor_56 : decode cX7_sumFor 56 = .ok (.iload 5, 2) := by decide +kernel
theorem dX7_sumFor_58 : decode cX7_sumFor 58 = .ok (.ifCond .ne 15, 3) := by decide +kernel
theorem dX7_sumFor_61 : decode cX7_sumFor 61 = .ok (.aload_n 2, 1) := by decide +kernel
theorem dX7_sumFor_62 : decode cX7_sumFor 62 = .ok (.iload_n 3, 1) := by decide +kernel
theorem dX7_sumFor_63 : decode cX7_sumFor 63 = .ok (.iinc 3 1, 3) := by decide +kernel
theorem dX7_sumFor_66 : decode cX7_sumFor 66 = .ok (.iload 6, 2) := by decide +kernel
theorem dX7_sumFor_68 : decode cX7_sumFor 68 = .ok (.i2l, 1) := by decide +kernel
theorem dX7_sumFor_69 : decode cX7_sumFor 69 = .ok (.lastore, 1) := by decide +kernel
theorem dX7_sumFor_70 : decode cX7_sumFor 70 = .ok (.goto 110, 3) := by decide +kernel
theorem dX7_sumFor_73 : decode cX7_sumFor 73 = .ok (.iload 5, 2) := by decide +kernel
theorem dX7_sumFor_75 : decode cX7_sumFor 75 = .ok (.iconst 1, 1) := by decide +kernel
theorem dX7_sumFor_76 : decode cX7_sumFor 76 = .ok (.if_icmp .ne 27, 3) := by decide +kernel
theorem dX7_sumFor_79 : decode cX7_sumFor 79 = .ok (.aload_n 2, 1) := by decide +kernel
theorem dX7_sumFor_80 : decode cX7_sumFor 80 = .ok (.iload_n 3, 1) := by decide +kernel
theorem dX7_sumFor_81 : decode cX7_sumFor 81 = .ok (.iinc 3 1, 3) := by decide +kernel
theorem dX7_sumFor_84 : decode cX7_sumFor 84 = .ok (.iload 6, 2) := by decide +kernel
theorem dX7_sumFor_86 : decode cX7_sumFor 86 = .ok (.aload_n 1, 1) := by decide +kernel
theorem dX7_sumFor_87 : decode cX7_sumFor 87 = .ok (.arraylength, 1) := by decide +kernel
theorem dX7_sumFor_88 : decode cX7_sumFor 88 = .ok (.if_icmp .ge 10, 3) := by decide +kernel
theorem dX7_sumFor_91 : decode cX7_sumFor 91 = .ok (.aload_n 1, 1) := by decide +kernel
theorem dX7_sumFor_92 : decode cX7_sumFor 92 = .ok (.iload 6, 2) := by decide +kernel
theorem dX7_sumFor_94 : decode cX7_sumFor 94 = .ok (.laload, 1) := by decide +kernel
theorem dX7_sumFor_95 : decode cX7_sumFor 95 = .ok (.goto 4, 3) := by decide +kernel
theorem dX7_sumFor_98 : decode cX7_sumFor 98 = .ok (.lconst 0, 1) := by decide +kernel
theorem dX7_sumFor_99 : decode cX7_sumFor 99 = .ok (.lastore, 1) := by decide +kernel
theorem dX7_sumFor_100 : decode cX7_sumFor 100 = .ok (.goto 80, 3) := by decide +kernel
theorem dX7_sumFor_103 : decode cX7_sumFor 103 = .ok (.iload 5, 2) := by decide +kernel
theorem dX7_sumFor_105 : decode cX7_sumFor 105 = .ok (.iconst 2, 1) := by decide +kernel
theorem dX7_sumFor_106 : decode cX7_sumFor 106 = .ok (.if_icmp .ne 18, 3) := by decide +kernel
theorem dX7_sumFor_109 : decode cX7_sumFor 109 = .ok (.aload_n 2, 1) := by decide +kernel
theorem dX7_sumFor_110 : decode cX7_sumFor 110 = .ok (.iload_n 3, 1) := by decide +kernel
theorem dX7_sumFor_111 : decode cX7_sumFor 111 = .ok (.iconst 1, 1) := by decide +kernel
theorem dX7_sumFor_112 : decode cX7_sumFor 112 = .ok (.isub, 1) := by decide +kernel
theorem dX7_sumFor_113 : decode cX7_sumFor 113 = .ok (.lconst 1, 1) := by decide +kernel
theorem dX7_sumFor_114 : decode cX7_sumFor 114 = .ok (.aload_n 2, 1) := by decide +kernel
theorem dX7_sumFor_115 : decode cX7_sumFor 115 = .ok (.iload_n 3, 1) := by decide +kernel
theorem dX7_sumFor_116 : decode cX7_sumFor 116 = .ok (.iconst 1, 1) := by decide +kernel
theorem dX7_sumFor_117 : decode cX7_sumFor 117 = .ok (.isub, 1) := by decide +kernel
theorem dX7_sumFor_118 : decode cX7_sumFor 118 = .ok (.laload, 1) := by decide +kernel
theorem dX7_sumFor_119 : decode cX7_sumFor 119 = .ok (.lsub, 1) := by decide +kernel
theorem dX7_sumFor_120 : decode cX7_sumFor 120 = .ok (.lastore, 1) := by decide +kernel
theorem dX7_sumFor_121 : decode cX7_sumFor 121 = .ok (.goto 59, 3) := by decide +kernel
theorem dX7_sumFor_124 : decode cX7_sumFor 124 = .ok (.iload 5, 2) := by decide +kernel
theorem dX7_sumFor_126 : decode cX7_sumFor 126 = .ok (.iconst 3, 1) := by decide +kernel
theorem dX7_sumFor_127 : decode cX7_sumFor 127 = .ok (.if_icmp .ne 9, 3) := by decide +kernel
theorem dX7_sumFor_130 : decode cX7_sumFor 130 = .ok (.aload_n 2, 1) := by decide +kernel
theorem dX7_sumFor_131 : decode cX7_sumFor 131 = .ok (.iload_n 3, 1) := by decide +kernel
theorem dX7_sumFor_132 : decode cX7_sumFor 132 = .ok (.iconst 1, 1) := by decide +kernel
theorem dX7_sumFor_133 : decode cX7_sumFor 133 = .ok (.isub, 1) := by decide +kernel
theorem dX7_sumFor_134 : decode cX7_sumFor 134 = .ok (.laload, 1) := by decide +kernel
theorem dX7_sumFor_135 : decode cX7_sumFor 135 = .ok (.lreturn, 1) := by decide +kernel
theorem dX7_sumFor_136 : decode cX7_sumFor 136 = .ok (.iload 5, 2) := by decide +kernel
theorem dX7_sumFor_138 : decode cX7_sumFor 138 = .ok (.iconst 4, 1) := by decide +kernel
theorem dX7_sumFor_139 : decode cX7_sumFor 139 = .ok (.if_icmp .ne 20, 3) := by decide +kernel
theorem dX7_sumFor_142 : decode cX7_sumFor 142 = .ok (.iinc 3 (-2), 3) := by decide +kernel
theorem dX7_sumFor_145 : decode cX7_sumFor 145 = .ok (.aload_n 2, 1) := by decide +kernel
theorem dX7_sumFor_146 : decode cX7_sumFor 146 = .ok (.iload_n 3, 1) := by decide +kernel
theorem dX7_sumFor_147 : decode cX7_sumFor 147 = .ok (.iconst 1, 1) := by decide +kernel
theorem dX7_sumFor_148 : decode cX7_sumFor 148 = .ok (.iadd, 1) := by decide +kernel
theorem dX7_sumFor_149 : decode cX7_sumFor 149 = .ok (.laload, 1) := by decide +kernel
theorem dX7_sumFor_150 : decode cX7_sumFor 150 = .ok (.lconst 0, 1) := by decide +kernel
theorem dX7_sumFor_151 : decode cX7_sumFor 151 = .ok (.lcmp, 1) := by decide +kernel
theorem dX7_sumFor_152 : decode cX7_sumFor 152 = .ok (.ifCond .eq 28, 3) := by decide +kernel
theorem dX7_sumFor_155 : decode cX7_sumFor 155 = .ok (.aload_n 2, 1) := by decide +kernel
theorem dX7_sumFor_156 : decode cX7_sumFor 156 = .ok (.iload_n 3, 1) := by decide +kernel
theorem dX7_sumFor_157 : decode cX7_sumFor 157 = .ok (.laload, 1) := by decide +kernel
theorem dX7_sumFor_158 : decode cX7_sumFor 158 = .ok (.lreturn, 1) := by decide +kernel
theorem dX7_sumFor_159 : decode cX7_sumFor 159 = .ok (.iinc 3 (-1), 3) := by decide +kernel
theorem dX7_sumFor_162 : decode cX7_sumFor 162 = .ok (.aload_n 2, 1) := by decide +kernel
theorem dX7_sumFor_163 : decode cX7_sumFor 163 = .ok (.iload_n 3, 1) := by decide +kernel
theorem dX7_sumFor_164 : decode cX7_sumFor 164 = .ok (.iconst 1, 1) := by decide +kernel
theorem dX7_sumFor_165 : decode cX7_sumFor 165 = .ok (.isub, 1) := by decide +kernel
theorem dX7_sumFor_166 : decode cX7_sumFor 166 = .ok (.iload 5, 2) := by decide +kernel
theorem dX7_sumFor_168 : decode cX7_sumFor 168 = .ok (.aload_n 2, 1) := by decide +kernel
theorem dX7_sumFor_169 : decode cX7_sumFor 169 = .ok (.iload_n 3, 1) := by decide +kernel
theorem dX7_sumFor_170 : decode cX7_sumFor 170 = .ok (.iconst 1, 1) := by decide +kernel
theorem dX7_sumFor_171 : decode cX7_sumFor 171 = .ok (.isub, 1) := by decide +kernel
theorem dX7_sumFor_172 : decode cX7_sumFor 172 = .ok (.laload, 1) := by decide +kernel
theorem dX7_sumFor_173 : decode cX7_sumFor 173 = .ok (.aload_n 2, 1) := by decide +kernel
theorem dX7_sumFor_174 : decode cX7_sumFor 174 = .ok (.iload_n 3, 1) := by decide +kernel
theorem dX7_sumFor_175 : decode cX7_sumFor 175 = .ok (.laload, 1) := by decide +kernel
theorem dX7_sumFor_176 : decode cX7_sumFor 176 = .ok (.invokestatic 17, 3) := by decide +kernel
theorem dX7_sumFor_179 : decode cX7_sumFor 179 = .ok (.lastore, 1) := by decide +kernel
theorem dX7_sumFor_180 : decode cX7_sumFor 180 = .ok (.iinc 4 1, 3) := by decide +kernel
theorem dX7_sumFor_183 : decode cX7_sumFor 183 = .ok (.goto (-178), 3) := by decide +kernel
theorem dX7_sumFor_186 : decode cX7_sumFor 186 = .ok (.lconst 0, 1) := by decide +kernel
theorem dX7_sumFor_187 : decode cX7_sumFor 187 = .ok (.lreturn, 1) := by decide +kernel
theorem dX7_needs_0 : decode cX7_needs 0 = .ok (.iload_n 0, 1) := by decide +kernel
theorem dX7_needs_1 : decode cX7_needs 1 = .ok (.iconst 1, 1) := by decide +kernel
theorem dX7_needs_2 : decode cX7_needs 2 = .ok (.if_icmp .gt 5, 3) := by decide +kernel
theorem dX7_needs_5 : decode cX7_needs 5 = .ok (.iconst 0, 1) := by decide +kernel
theorem dX7_needs_6 : decode cX7_needs 6 = .ok (.ireturn, 1) := by decide +kernel
theorem dX7_needs_7 : decode cX7_needs 7 = .ok (.iload_n 0, 1) := by decide +kernel
theorem dX7_needs_8 : decode cX7_needs 8 = .ok (.iconst 3, 1) := by decide +kernel
theorem dX7_needs_9 : decode cX7_needs 9 = .ok (.if_icmp .gt 7, 3) := by decide +kernel
theorem dX7_needs_12 : decode cX7_needs 12 = .ok (.iconst 1, 1) := by decide +kernel
theorem dX7_needs_13 : decode cX7_needs 13 = .ok (.goto 4, 3) := by decide +kernel
theorem dX7_needs_16 : decode cX7_needs 16 = .ok (.iconst 2, 1) := by decide +kernel
theorem dX7_needs_17 : decode cX7_needs 17 = .ok (.ireturn, 1) := by decide +kernel
theorem dX7_joined_0 : decode cX7_joined 0 = .ok (.iload_n 0, 1) := by decide +kernel
theorem dX7_joined_1 : decode cX7_joined 1 = .ok (.tableswitch 163 5 15 #[59, 63, 67, 71, 85, 99, 111, 123, 135, 147, 159], 59) := by decide +kernel
theorem dX7_joined_60 : decode cX7_joined 60 = .ok (.lload_n 1, 1) := by decide +kernel
theorem dX7_joined_61 : decode cX7_joined 61 = .ok (.lload_n 3, 1) := by decide +kernel
theorem dX7_joined_62 : decode cX7_joined 62 = .ok (.ladd, 1) := by decide +kernel
theorem dX7_joined_63 : decode cX7_joined 63 = .ok (.lreturn, 1) := by decide +kernel
theorem dX7_joined_64 : decode cX7_joined 64 = .ok (.lload_n 1, 1) := by decide +kernel
theorem dX7_joined_65 : decode cX7_joined 65 = .ok (.lload_n 3, 1) := by decide +kernel
theorem dX7_joined_66 : decode cX7_joined 66 = .ok (.lsub, 1) := by decide +kernel
theorem dX7_joined_67 : decode cX7_joined 67 = .ok (.lreturn, 1) := by decide +kernel
theorem dX7_joined_68 : decode cX7_joined 68 = .ok (.lload_n 1, 1) := by decide +kernel
theorem dX7_joined_69 : decode cX7_joined 69 = .ok (.lload_n 3, 1) := by decide +kernel
theorem dX7_joined_70 : decode cX7_joined 70 = .ok (.lmul, 1) := by decide +kernel
theorem dX7_joined_71 : decode cX7_joined 71 = .ok (.lreturn, 1) := by decide +kernel
theorem dX7_joined_72 : decode cX7_joined 72 = .ok (.lload_n 3, 1) := by decide +kernel
theorem dX7_joined_73 : decode cX7_joined 73 = .ok (.lconst 0, 1) := by decide +kernel
theorem dX7_joined_74 : decode cX7_joined 74 = .ok (.lcmp, 1) := by decide +kernel
theorem dX7_joined_75 : decode cX7_joined 75 = .ok (.ifCond .ne 7, 3) := by decide +kernel
theorem dX7_joined_78 : decode cX7_joined 78 = .ok (.lconst 0, 1) := by decide +kernel
theorem dX7_joined_79 : decode cX7_joined 79 = .ok (.goto 6, 3) := by decide +kernel
theorem dX7_joined_82 : decode cX7_joined 82 = .ok (.lload_n 1, 1) := by decide +kernel
theorem dX7_joined_83 : decode cX7_joined 83 = .ok (.lload_n 3, 1) := by decide +kernel
theorem dX7_joined_84 : decode cX7_joined 84 = .ok (.ldiv, 1) := by decide +kernel
theorem dX7_joined_85 : decode cX7_joined 85 = .ok (.lreturn, 1) := by decide +kernel
theorem dX7_joined_86 : decode cX7_joined 86 = .ok (.lload_n 3, 1) := by decide +kernel
theorem dX7_joined_87 : decode cX7_joined 87 = .ok (.lconst 0, 1) := by decide +kernel
theorem dX7_joined_88 : decode cX7_joined 88 = .ok (.lcmp, 1) := by decide +kernel
theorem dX7_joined_89 : decode cX7_joined 89 = .ok (.ifCond .ne 7, 3) := by decide +kernel
theorem dX7_joined_92 : decode cX7_joined 92 = .ok (.lconst 0, 1) := by decide +kernel
theorem dX7_joined_93 : decode cX7_joined 93 = .ok (.goto 6, 3) := by decide +kernel
theorem dX7_joined_96 : decode cX7_joined 96 = .ok (.lload_n 1, 1) := by decide +kernel
theorem dX7_joined_97 : decode cX7_joined 97 = .ok (.lload_n 3, 1) := by decide +kernel
theorem dX7_joined_98 : decode cX7_joined 98 = .ok (.lrem, 1) := by decide +kernel
theorem dX7_joined_99 : decode cX7_joined 99 = .ok (.lreturn, 1) := by decide +kernel
theorem dX7_joined_100 : decode cX7_joined 100 = .ok (.lload_n 1, 1) := by decide +kernel
theorem dX7_joined_101 : decode cX7_joined 101 = .ok (.lload_n 3, 1) := by decide +kernel
theorem dX7_joined_102 : decode cX7_joined 102 = .ok (.lcmp, 1) := by decide +kernel
theorem dX7_joined_103 : decode cX7_joined 103 = .ok (.ifCond .ge 7, 3) := by decide +kernel
theorem dX7_joined_106 : decode cX7_joined 106 = .ok (.lconst 1, 1) := by decide +kernel
theorem dX7_joined_107 : decode cX7_joined 107 = .ok (.goto 4, 3) := by decide +kernel
theorem dX7_joined_110 : decode cX7_joined 110 = .ok (.lconst 0, 1) := by decide +kernel
theorem dX7_joined_111 : decode cX7_joined 111 = .ok (.lreturn, 1) := by decide +kernel
theorem dX7_joined_112 : decode cX7_joined 112 = .ok (.lload_n 1, 1) := by decide +kernel
theorem dX7_joined_113 : decode cX7_joined 113 = .ok (.lload_n 3, 1) := by decide +kernel
theorem dX7_joined_114 : decode cX7_joined 114 = .ok (.lcmp, 1) := by decide +kernel
theorem dX7_joined_115 : decode cX7_joined 115 = .ok (.ifCond .gt 7, 3) := by decide +kernel
theorem dX7_joined_118 : decode cX7_joined 118 = .ok (.lconst 1, 1) := by decide +kernel
theorem dX7_joined_119 : decode cX7_joined 119 = .ok (.goto 4, 3) := by decide +kernel
theorem dX7_joined_122 : decode cX7_joined 122 = .ok (.lconst 0, 1) := by decide +kernel
theorem dX7_joined_123 : decode cX7_joined 123 = .ok (.lreturn, 1) := by decide +kernel
theorem dX7_joined_124 : decode cX7_joined 124 = .ok (.lload_n 1, 1) := by decide +kernel
theorem dX7_joined_125 : decode cX7_joined 125 = .ok (.lload_n 3, 1) := by decide +kernel
theorem dX7_joined_126 : decode cX7_joined 126 = .ok (.lcmp, 1) := by decide +kernel
theorem dX7_joined_127 : decode cX7_joined 127 = .ok (.ifCond .ne 7, 3) := by decide +kernel
theorem dX7_joined_130 : decode cX7_joined 130 = .ok (.lconst 1, 1) := by decide +kernel
theorem dX7_joined_131 : decode cX7_joined 131 = .ok (.goto 4, 3) := by decide +kernel
theorem dX7_joined_134 : decode cX7_joined 134 = .ok (.lconst 0, 1) := by decide +kernel
theorem dX7_joined_135 : decode cX7_joined 135 = .ok (.lreturn, 1) := by decide +kernel
theorem dX7_joined_136 : decode cX7_joined 136 = .ok (.lload_n 1, 1) := by decide +kernel
theorem dX7_joined_137 : decode cX7_joined 137 = .ok (.lload_n 3, 1) := by decide +kernel
theorem dX7_joined_138 : decode cX7_joined 138 = .ok (.lcmp, 1) := by decide +kernel
theorem dX7_joined_139 : decode cX7_joined 139 = .ok (.ifCond .lt 7, 3) := by decide +kernel
theorem dX7_joined_142 : decode cX7_joined 142 = .ok (.lconst 1, 1) := by decide +kernel
theorem dX7_joined_143 : decode cX7_joined 143 = .ok (.goto 4, 3) := by decide +kernel
theorem dX7_joined_146 : decode cX7_joined 146 = .ok (.lconst 0, 1) := by decide +kernel
theorem dX7_joined_147 : decode cX7_joined 147 = .ok (.lreturn, 1) := by decide +kernel
theorem dX7_joined_148 : decode cX7_joined 148 = .ok (.lload_n 1, 1) := by decide +kernel
theorem dX7_joined_149 : decode cX7_joined 149 = .ok (.lload_n 3, 1) := by decide +kernel
theorem dX7_joined_150 : decode cX7_joined 150 = .ok (.lcmp, 1) := by decide +kernel
theorem dX7_joined_151 : decode cX7_joined 151 = .ok (.ifCond .le 7, 3) := by decide +kernel
theorem dX7_joined_154 : decode cX7_joined 154 = .ok (.lconst 1, 1) := by decide +kernel
theorem dX7_joined_155 : decode cX7_joined 155 = .ok (.goto 4, 3) := by decide +kernel
theorem dX7_joined_158 : decode cX7_joined 158 = .ok (.lconst 0, 1) := by decide +kernel
theorem dX7_joined_159 : decode cX7_joined 159 = .ok (.lreturn, 1) := by decide +kernel
theorem dX7_joined_160 : decode cX7_joined 160 = .ok (.lload_n 1, 1) := by decide +kernel
theorem dX7_joined_161 : decode cX7_joined 161 = .ok (.lload_n 3, 1) := by decide +kernel
theorem dX7_joined_162 : decode cX7_joined 162 = .ok (.land, 1) := by decide +kernel
theorem dX7_joined_163 : decode cX7_joined 163 = .ok (.lreturn, 1) := by decide +kernel
theorem dX7_joined_164 : decode cX7_joined 164 = .ok (.lload_n 1, 1) := by decide +kernel
theorem dX7_joined_165 : decode cX7_joined 165 = .ok (.lload_n 3, 1) := by decide +kernel
theorem dX7_joined_166 : decode cX7_joined 166 = .ok (.lor, 1) := by decide +kernel
theorem dX7_joined_167 : decode cX7_joined 167 = .ok (.lreturn, 1) := by decide +kernel
theorem dX8_init_0 : decode cX8_init 0 = .ok (.aload_n 0, 1) := by decide +kernel
theorem dX8_init_1 : decode cX8_init 1 = .ok (.aload_n 1, 1) := by decide +kernel
theorem dX8_init_2 : decode cX8_init 2 = .ok (.invokespecial 3, 3) := by decide +kernel
theorem dX8_init_5 : decode cX8_init 5 = .ok (.aload_n 0, 1) := by decide +kernel
theorem dX8_init_6 : decode cX8_init 6 = .ok (.sipush 512, 3) := by decide +kernel
theorem dX8_init_9 : decode cX8_init 9 = .ok (.newarray .int, 2) := by decide +kernel
theorem dX8_init_11 : decode cX8_init 11 = .ok (.putfield 11, 3) := by decide +kernel
theorem dX8_init_14 : decode cX8_init 14 = .ok (.return_, 1) := by decide +kernel
theorem dX8_read_0 : decode cX8_read 0 = .ok (.aload_n 0, 1) := by decide +kernel
theorem dX8_read_1 : decode cX8_read 1 = .ok (.iconst 0, 1) := by decide +kernel
theorem dX8_read_2 : decode cX8_read 2 = .ok (.putfield 15, 3) := by decide +kernel
theorem dX8_read_5 : decode cX8_read 5 = .ok (.aload_n 0, 1) := by decide +kernel
theorem dX8_read_6 : decode cX8_read 6 = .ok (.iconst 0, 1) := by decide +kernel
theorem dX8_read_7 : decode cX8_read 7 = .ok (.putfield 19, 3) := by decide +kernel
theorem dX8_read_10 : decode cX8_read 10 = .ok (.aload_n 0, 1) := by decide +kernel
theorem dX8_read_11 : decode cX8_read 11 = .ok (.iconst 0, 1) := by decide +kernel
theorem dX8_read_12 : decode cX8_read 12 = .ok (.putfield 22, 3) := by decide +kernel
theorem dX8_read_15 : decode cX8_read 15 = .ok (.aload_n 0, 1) := by decide +kernel
theorem dX8_read_16 : decode cX8_read 16 = .ok (.iconst 0, 1) := by decide +kernel
theorem dX8_read_17 : decode cX8_read 17 = .ok (.putfield 25, 3) := by decide +kernel
theorem dX8_read_20 : decode cX8_read 20 = .ok (.iconst 1, 1) := by decide +kernel
theorem dX8_read_21 : decode cX8_read 21 = .ok (.istore_n 1, 1) := by decide +kernel
theorem dX8_read_22 : decode cX8_read 22 = .ok (.iconst 0, 1) := by decide +kernel
theorem dX8_read_23 : decode cX8_read 23 = .ok (.istore_n 2, 1) := by decide +kernel
theorem dX8_read_24 : decode cX8_read 24 = .ok (.iload_n 1, 1) := by decide +kernel
theorem dX8_read_25 : decode cX8_read 25 = .ok (.ifCond .eq 25, 3) := by decide +kernel
theorem dX8_read_28 : decode cX8_read 28 = .ok (.iload_n 2, 1) := by decide +kernel
theorem dX8_read_29 : decode cX8_read 29 = .ok (.bipush 12, 2) := by decide +kernel
theorem dX8_read_31 : decode cX8_read 31 = .ok (.if_icmp .gt 19, 3) := by decide +kernel
theorem dX8_read_34 : decode cX8_read 34 = .ok (.aload_n 0, 1) := by decide +kernel
theorem dX8_read_35 : decode cX8_read 35 = .ok (.iload_n 2, 1) := by decide +kernel
theorem dX8_read_36 : decode cX8_read 36 = .ok (.invokevirtual 28, 3) := by decide +kernel
theorem dX8_read_39 : decode cX8_read 39 = .ok (.aload_n 0, 1) := by decide +kernel
theorem dX8_read_40 : decode cX8_read 40 = .ok (.invokevirtual 32, 3) := by decide +kernel
theorem dX8_read_43 : decode cX8_read 43 = .ok (.istore_n 1, 1) := by decide +kernel
theorem dX8_read_44 : decode cX8_read 44 = .ok (.iinc 2 1, 3) := by decide +kernel
theorem dX8_read_47 : decode cX8_read 47 = .ok (.goto (-23), 3) := by decide +kernel
theorem dX8_read_50 : decode cX8_read 50 = .ok (.aload_n 0, 1) := by decide +kernel
theorem dX8_read_51 : decode cX8_read 51 = .ok (.getfield 19, 3) := by decide +kernel
theorem dX8_read_54 : decode cX8_read 54 = .ok (.ireturn, 1) := by decide +kernel
theorem dX8_made_0 : decode cX8_made 0 = .ok (.new 36, 3) := by decide +kernel
theorem dX8_made_3 : decode cX8_made 3 = .ok (.dup, 1) := by decide +kernel
theorem dX8_made_4 : decode cX8_made 4 = .ok (.aload_n 0, 1) := by decide +kernel
theorem dX8_made_5 : decode cX8_made 5 = .ok (.getfield 11, 3) := by decide +kernel
theorem dX8_made_8 : decode cX8_made 8 = .ok (.aload_n 0, 1) := by decide +kernel
theorem dX8_made_9 : decode cX8_made 9 = .ok (.getfield 22, 3) := by decide +kernel
theorem dX8_made_12 : decode cX8_made 12 = .ok (.sipush 512, 3) := by decide +kernel
theorem dX8_made_15 : decode cX8_made 15 = .ok (.invokestatic 38, 3) := by decide +kernel
theorem dX8_made_18 : decode cX8_made 18 = .ok (.invokestatic 44, 3) := by decide +kernel
theorem dX8_made_21 : decode cX8_made 21 = .ok (.invokespecial 50, 3) := by decide +kernel
theorem dX8_made_24 : decode cX8_made 24 = .ok (.areturn, 1) := by decide +kernel
theorem dX8_put_0 : decode cX8_put 0 = .ok (.aload_n 0, 1) := by decide +kernel
theorem dX8_put_1 : decode cX8_put 1 = .ok (.getfield 22, 3) := by decide +kernel
theorem dX8_put_4 : decode cX8_put 4 = .ok (.sipush 512, 3) := by decide +kernel
theorem dX8_put_7 : decode cX8_put 7 = .ok (.if_icmp .ge 28, 3) := by decide +kernel
theorem dX8_put_10 : decode cX8_put 10 = .ok (.aload_n 0, 1) := by decide +kernel
theorem dX8_put_11 : decode cX8_put 11 = .ok (.getfield 11, 3) := by decide +kernel
theorem dX8_put_14 : decode cX8_put 14 = .ok (.aload_n 0, 1) := by decide +kernel
theorem dX8_put_15 : decode cX8_put 15 = .ok (.getfield 22, 3) := by decide +kernel
theorem dX8_put_18 : decode cX8_put 18 = .ok (.iload_n 2, 1) := by decide +kernel
theorem dX8_put_19 : decode cX8_put 19 = .ok (.bipush 32, 2) := by decide +kernel
theorem dX8_put_21 : decode cX8_put 21 = .ok (.imul, 1) := by decide +kernel
theorem dX8_put_22 : decode cX8_put 22 = .ok (.iload_n 1, 1) := by decide +kernel
theorem dX8_put_23 : decode cX8_put 23 = .ok (.iadd, 1) := by decide +kernel
theorem dX8_put_24 : decode cX8_put 24 = .ok (.iastore, 1) := by decide +kernel
theorem dX8_put_25 : decode cX8_put 25 = .ok (.aload_n 0, 1) := by decide +kernel
theorem dX8_put_26 : decode cX8_put 26 = .ok (.dup, 1) := by decide +kernel
theorem dX8_put_27 : decode cX8_put 27 = .ok (.getfield 22, 3) := by decide +kernel
theorem dX8_put_30 : decode cX8_put 30 = .ok (.iconst 1, 1) := by decide +kernel
theorem dX8_put_31 : decode cX8_put 31 = .ok (.iadd, 1) := by decide +kernel
theorem dX8_put_32 : decode cX8_put 32 = .ok (.putfield 22, 3) := by decide +kernel
theorem dX8_put_35 : decode cX8_put 35 = .ok (.return_, 1) := by decide +kernel
theorem dX8_countPart_0 : decode cX8_countPart 0 = .ok (.aload_n 0, 1) := by decide +kernel
theorem dX8_countPart_1 : decode cX8_countPart 1 = .ok (.dup, 1) := by decide +kernel
theorem dX8_countPart_2 : decode cX8_countPart 2 = .ok (.getfield 25, 3) := by decide +kernel
theorem dX8_countPart_5 : decode cX8_countPart 5 = .ok (.iconst 1, 1) := by decide +kernel
theorem dX8_countPart_6 : decode cX8_countPart 6 = .ok (.iadd, 1) := by decide +kernel
theorem dX8_countPart_7 : decode cX8_countPart 7 = .ok (.putfield 25, 3) := by decide +kernel
theorem dX8_countPart_10 : decode cX8_countPart 10 = .ok (.aload_n 0, 1) := by decide +kernel
theorem dX8_countPart_11 : decode cX8_countPart 11 = .ok (.aload_n 0, 1) := by decide +kernel
theorem dX8_countPart_12 : decode cX8_countPart 12 = .ok (.getfield 25, 3) := by decide +kernel
theorem dX8_countPart_15 : decode cX8_countPart 15 = .ok (.bipush 60, 2) := by decide +kernel
theorem dX8_countPart_17 : decode cX8_countPart 17 = .ok (.if_icmp .gt 7, 3) := by decide +kernel
theorem dX8_countPart_20 : decode cX8_countPart 20 = .ok (.iconst 1, 1) := by decide +kernel
theorem dX8_countPart_21 : decode cX8_countPart 21 = .ok (.goto 4, 3) := by decide +kernel
theorem dX8_countPart_24 : decode cX8_countPart 24 = .ok (.iconst 0, 1) := by decide +kernel
theorem dX8_countPart_25 : decode cX8_countPart 25 = .ok (.iload_n 1, 1) := by decide +kernel
theorem dX8_countPart_26 : decode cX8_countPart 26 = .ok (.iconst 3, 1) := by decide +kernel
theorem dX8_countPart_27 : decode cX8_countPart 27 = .ok (.invokevirtual 53, 3) := by decide +kernel
theorem dX8_countPart_30 : decode cX8_countPart 30 = .ok (.pop, 1) := by decide +kernel
theorem dX8_countPart_31 : decode cX8_countPart 31 = .ok (.return_, 1) := by decide +kernel
theorem dX8_readClause_0 : decode cX8_readClause 0 = .ok (.aload_n 0, 1) := by decide +kernel
theorem dX8_readClause_1 : decode cX8_readClause 1 = .ok (.invokevirtual 57, 3) := by decide +kernel
theorem dX8_readClause_4 : decode cX8_readClause 4 = .ok (.istore_n 2, 1) := by decide +kernel
theorem dX8_readClause_5 : decode cX8_readClause 5 = .ok (.aload_n 0, 1) := by decide +kernel
theorem dX8_readClause_6 : decode cX8_readClause 6 = .ok (.aload_n 0, 1) := by decide +kernel
theorem dX8_readClause_7 : decode cX8_readClause 7 = .ok (.ldc 61, 2) := by decide +kernel
theorem dX8_readClause_9 : decode cX8_readClause 9 = .ok (.invokevirtual 63, 3) := by decide +kernel
theorem dX8_readClause_12 : decode cX8_readClause 12 = .ok (.iload_n 2, 1) := by decide +kernel
theorem dX8_readClause_13 : decode cX8_readClause 13 = .ok (.iconst 0, 1) := by decide +kernel
theorem dX8_readClause_14 : decode cX8_readClause 14 = .ok (.invokevirtual 53, 3) := by decide +kernel
theorem dX8_readClause_17 : decode cX8_readClause 17 = .ok (.ifCond .eq 23, 3) := by decide +kernel
theorem dX8_readClause_20 : decode cX8_readClause 20 = .ok (.aload_n 0, 1) := by decide +kernel
theorem dX8_readClause_21 : decode cX8_readClause 21 = .ok (.iload_n 1, 1) := by decide +kernel
theorem dX8_readClause_22 : decode cX8_readClause 22 = .ok (.bipush 12, 2) := by decide +kernel
theorem dX8_readClause_24 : decode cX8_readClause 24 = .ok (.if_icmp .ge 7, 3) := by decide +kernel
theorem dX8_readClause_27 : decode cX8_readClause 27 = .ok (.iconst 1, 1) := by decide +kernel
theorem dX8_readClause_28 : decode cX8_readClause 28 = .ok (.goto 4, 3) := by decide +kernel
theorem dX8_readClause_31 : decode cX8_readClause 31 = .ok (.iconst 0, 1) := by decide +kernel
theorem dX8_readClause_32 : decode cX8_readClause 32 = .ok (.iload_n 2, 1) := by decide +kernel
theorem dX8_readClause_33 : decode cX8_readClause 33 = .ok (.iconst 4, 1) := by decide +kernel
theorem dX8_readClause_34 : decode cX8_readClause 34 = .ok (.invokevirtual 53, 3) := by decide +kernel
theorem dX8_readClause_37 : decode cX8_readClause 37 = .ok (.ifCond .ne 4, 3) := by decide +kernel
theorem dX8_readClause_40 : decode cX8_readClause 40 = .ok (.return_, 1) := by decide +kernel
theorem dX8_readClause_41 : decode cX8_readClause 41 = .ok (.aload_n 0, 1) := by decide +kernel
theorem dX8_readClause_42 : decode cX8_readClause 42 = .ok (.invokevirtual 67, 3) := by decide +kernel
theorem dX8_readClause_45 : decode cX8_readClause 45 = .ok (.aload_n 0, 1) := by decide +kernel
theorem dX8_readClause_46 : decode cX8_readClause 46 = .ok (.getfield 19, 3) := by decide +kernel
theorem dX8_readClause_49 : decode cX8_readClause 49 = .ok (.ifCond .ne 26, 3) := by decide +kernel
theorem dX8_readClause_52 : decode cX8_readClause 52 = .ok (.aload_n 0, 1) := by decide +kernel
theorem dX8_readClause_53 : decode cX8_readClause 53 = .ok (.ldc 71, 2) := by decide +kernel
theorem dX8_readClause_55 : decode cX8_readClause 55 = .ok (.invokevirtual 63, 3) := by decide +kernel
theorem dX8_readClause_58 : decode cX8_readClause 58 = .ok (.ifCond .eq 17, 3) := by decide +kernel
theorem dX8_readClause_61 : decode cX8_readClause 61 = .ok (.aload_n 0, 1) := by decide +kernel
theorem dX8_readClause_62 : decode cX8_readClause 62 = .ok (.iconst 0, 1) := by decide +kernel
theorem dX8_readClause_63 : decode cX8_readClause 63 = .ok (.invokevirtual 73, 3) := by decide +kernel
theorem dX8_readClause_66 : decode cX8_readClause 66 = .ok (.aload_n 0, 1) := by decide +kernel
theorem dX8_readClause_67 : decode cX8_readClause 67 = .ok (.iconst 4, 1) := by decide +kernel
theorem dX8_readClause_68 : decode cX8_readClause 68 = .ok (.iconst 0, 1) := by decide +kernel
theorem dX8_readClause_69 : decode cX8_readClause 69 = .ok (.invokevirtual 76, 3) := by decide +kernel
theorem dX8_readClause_72 : decode cX8_readClause 72 = .ok (.goto 9, 3) := by decide +kernel
theorem dX8_readClause_75 : decode cX8_readClause 75 = .ok (.aload_n 0, 1) := by decide +kernel
theorem dX8_readClause_76 : decode cX8_readClause 76 = .ok (.iconst 3, 1) := by decide +kernel
theorem dX8_readClause_77 : decode cX8_readClause 77 = .ok (.iconst 0, 1) := by decide +kernel
theorem dX8_readClause_78 : decode cX8_readClause 78 = .ok (.invokevirtual 76, 3) := by decide +kernel
theorem dX8_readClause_81 : decode cX8_readClause 81 = .ok (.return_, 1) := by decide +kernel
theorem dX8_readTest_0 : decode cX8_readTest 0 = .ok (.aload_n 0, 1) := by decide +kernel
theorem dX8_readTest_1 : decode cX8_readTest 1 = .ok (.iload_n 1, 1) := by decide +kernel
theorem dX8_readTest_2 : decode cX8_readTest 2 = .ok (.invokevirtual 80, 3) := by decide +kernel
theorem dX8_readTest_5 : decode cX8_readTest 5 = .ok (.iconst 0, 1) := by decide +kernel
theorem dX8_readTest_6 : decode cX8_readTest 6 = .ok (.istore_n 2, 1) := by decide +kernel
theorem dX8_readTest_7 : decode cX8_readTest 7 = .ok (.iload_n 2, 1) := by decide +kernel
theorem dX8_readTest_8 : decode cX8_readTest 8 = .ok (.sipush 400, 3) := by decide +kernel
theorem dX8_readTest_11 : decode cX8_readTest 11 = .ok (.if_icmp .ge 37, 3) := by decide +kernel
theorem dX8_readTest_14 : decode cX8_readTest 14 = .ok (.aload_n 0, 1) := by decide +kernel
theorem dX8_readTest_15 : decode cX8_readTest 15 = .ok (.getfield 19, 3) := by decide +kernel
theorem dX8_readTest_18 : decode cX8_readTest 18 = .ok (.ifCond .ne 30, 3) := by decide +kernel
theorem dX8_readTest_21 : decode cX8_readTest 21 = .ok (.aload_n 0, 1) := by decide +kernel
theorem dX8_readTest_22 : decode cX8_readTest 22 = .ok (.ldc 83, 2) := by decide +kernel
theorem dX8_readTest_24 : decode cX8_readTest 24 = .ok (.invokevirtual 63, 3) := by decide +kernel
theorem dX8_readTest_27 : decode cX8_readTest 27 = .ok (.ifCond .eq 21, 3) := by decide +kernel
theorem dX8_readTest_30 : decode cX8_readTest 30 = .ok (.aload_n 0, 1) := by decide +kernel
theorem dX8_readTest_31 : decode cX8_readTest 31 = .ok (.iload_n 1, 1) := by decide +kernel
theorem dX8_readTest_32 : decode cX8_readTest 32 = .ok (.invokevirtual 80, 3) := by decide +kernel
theorem dX8_readTest_35 : decode cX8_readTest 35 = .ok (.aload_n 0, 1) := by decide +kernel
theorem dX8_readTest_36 : decode cX8_readTest 36 = .ok (.bipush 16, 2) := by decide +kernel
theorem dX8_readTest_38 : decode cX8_readTest 38 = .ok (.iconst 0, 1) := by decide +kernel
theorem dX8_readTest_39 : decode cX8_readTest 39 = .ok (.invokevirtual 76, 3) := by decide +kernel
theorem dX8_readTest_42 : decode cX8_readTest 42 = .ok (.iinc 2 1, 3) := by decide +kernel
theorem dX8_readTest_45 : decode cX8_readTest 45 = .ok (.goto (-38), 3) := by decide +kernel
theorem dX8_readTest_48 : decode cX8_readTest 48 = .ok (.return_, 1) := by decide +kernel
theorem dX8_readPart_0 : decode cX8_readPart 0 = .ok (.aload_n 0, 1) := by decide +kernel
theorem dX8_readPart_1 : decode cX8_readPart 1 = .ok (.iload_n 1, 1) := by decide +kernel
theorem dX8_readPart_2 : decode cX8_readPart 2 = .ok (.invokevirtual 85, 3) := by decide +kernel
theorem dX8_readPart_5 : decode cX8_readPart 5 = .ok (.iconst 0, 1) := by decide +kernel
theorem dX8_readPart_6 : decode cX8_readPart 6 = .ok (.istore_n 2, 1) := by decide +kernel
theorem dX8_readPart_7 : decode cX8_readPart 7 = .ok (.iload_n 2, 1) := by decide +kernel
theorem dX8_readPart_8 : decode cX8_readPart 8 = .ok (.sipush 400, 3) := by decide +kernel
theorem dX8_readPart_11 : decode cX8_readPart 11 = .ok (.if_icmp .ge 37, 3) := by decide +kernel
theorem dX8_readPart_14 : decode cX8_readPart 14 = .ok (.aload_n 0, 1) := by decide +kernel
theorem dX8_readPart_15 : decode cX8_readPart 15 = .ok (.getfield 19, 3) := by decide +kernel
theorem dX8_readPart_18 : decode cX8_readPart 18 = .ok (.ifCond .ne 30, 3) := by decide +kernel
theorem dX8_readPart_21 : decode cX8_readPart 21 = .ok (.aload_n 0, 1) := by decide +kernel
theorem dX8_readPart_22 : decode cX8_readPart 22 = .ok (.ldc 88, 2) := by decide +kernel
theorem dX8_readPart_24 : decode cX8_readPart 24 = .ok (.invokevirtual 63, 3) := by decide +kernel
theorem dX8_readPart_27 : decode cX8_readPart 27 = .ok (.ifCond .eq 21, 3) := by decide +kernel
theorem dX8_readPart_30 : decode cX8_readPart 30 = .ok (.aload_n 0, 1) := by decide +kernel
theorem dX8_readPart_31 : decode cX8_readPart 31 = .ok (.iload_n 1, 1) := by decide +kernel
theorem dX8_readPart_32 : decode cX8_readPart 32 = .ok (.invokevirtual 85, 3) := by decide +kernel
theorem dX8_readPart_35 : decode cX8_readPart 35 = .ok (.aload_n 0, 1) := by decide +kernel
theorem dX8_readPart_36 : decode cX8_readPart 36 = .ok (.bipush 15, 2) := by decide +kernel
theorem dX8_readPart_38 : decode cX8_readPart 38 = .ok (.iconst 0, 1) := by decide +kernel
theorem dX8_readPart_39 : decode cX8_readPart 39 = .ok (.invokevirtual 76, 3) := by decide +kernel
theorem dX8_readPart_42 : decode cX8_readPart 42 = .ok (.iinc 2 1, 3) := by decide +kernel
theorem dX8_readPart_45 : decode cX8_readPart 45 = .ok (.goto (-38), 3) := by decide +kernel
theorem dX8_readPart_48 : decode cX8_readPart 48 = .ok (.return_, 1) := by decide +kernel
theorem dX8_readFact_0 : decode cX8_readFact 0 = .ok (.aload_n 0, 1) := by decide +kernel
theorem dX8_readFact_1 : decode cX8_readFact 1 = .ok (.invokevirtual 57, 3) := by decide +kernel
theorem dX8_readFact_4 : decode cX8_readFact 4 = .ok (.istore_n 2, 1) := by decide +kernel
theorem dX8_readFact_5 : decode cX8_readFact 5 = .ok (.aload_n 0, 1) := by decide +kernel
theorem dX8_readFact_6 : decode cX8_readFact 6 = .ok (.ldc 90, 2) := by decide +kernel
theorem dX8_readFact_8 : decode cX8_readFact 8 = .ok (.invokevirtual 63, 3) := by decide +kernel
theorem dX8_readFact_11 : decode cX8_readFact 11 = .ok (.ifCond .eq 39, 3) := by decide +kernel
theorem dX8_readFact_14 : decode cX8_readFact 14 = .ok (.aload_n 0, 1) := by decide +kernel
theorem dX8_readFact_15 : decode cX8_readFact 15 = .ok (.iload_n 1, 1) := by decide +kernel
theorem dX8_readFact_16 : decode cX8_readFact 16 = .ok (.bipush 10, 2) := by decide +kernel
theorem dX8_readFact_18 : decode cX8_readFact 18 = .ok (.if_icmp .ge 7, 3) := by decide +kernel
theorem dX8_readFact_21 : decode cX8_readFact 21 = .ok (.iconst 1, 1) := by decide +kernel
theorem dX8_readFact_22 : decode cX8_readFact 22 = .ok (.goto 4, 3) := by decide +kernel
theorem dX8_readFact_25 : decode cX8_readFact 25 = .ok (.iconst 0, 1) := by decide +kernel
theorem dX8_readFact_26 : decode cX8_readFact 26 = .ok (.iload_n 2, 1) := by decide +kernel
theorem dX8_readFact_27 : decode cX8_readFact 27 = .ok (.iconst 2, 1) := by decide +kernel
theorem dX8_readFact_28 : decode cX8_readFact 28 = .ok (.invokevirtual 53, 3) := by decide +kernel
theorem dX8_readFact_31 : decode cX8_readFact 31 = .ok (.ifCond .eq 127, 3) := by decide +kernel
theorem dX8_readFact_34 : decode cX8_readFact 34 = .ok (.aload_n 0, 1) := by decide +kernel
theorem dX8_readFact_35 : decode cX8_readFact 35 = .ok (.iload_n 1, 1) := by decide +kernel
theorem dX8_readFact_36 : decode cX8_readFact 36 = .ok (.iconst 1, 1) := by decide +kernel
theorem dX8_readFact_37 : decode cX8_readFact 37 = .ok (.iadd, 1) := by decide +kernel
theorem dX8_readFact_38 : decode cX8_readFact 38 = .ok (.invokevirtual 85, 3) := by decide +kernel
theorem dX8_readFact_41 : decode cX8_readFact 41 = .ok (.aload_n 0, 1) := by decide +kernel
theorem dX8_readFact_42 : decode cX8_readFact 42 = .ok (.iconst 2, 1) := by decide +kernel
theorem dX8_readFact_43 : decode cX8_readFact 43 = .ok (.iconst 0, 1) := by decide +kernel
theorem dX8_readFact_44 : decode cX8_readFact 44 = .ok (.invokevirtual 76, 3) := by decide +kernel
theorem dX8_readFact_47 : decode cX8_readFact 47 = .ok (.goto 111, 3) := by decide +kernel
theorem dX8_readFact_50 : decode cX8_readFact 50 = .ok (.aload_n 0, 1) := by decide +kernel
theorem dX8_readFact_51 : decode cX8_readFact 51 = .ok (.bipush 91, 2) := by decide +kernel
theorem dX8_readFact_53 : decode cX8_readFact 53 = .ok (.invokevirtual 92, 3) := by decide +kernel
theorem dX8_readFact_56 : decode cX8_readFact 56 = .ok (.ifCond .eq 64, 3) := by decide +kernel
theorem dX8_readFact_59 : decode cX8_readFact 59 = .ok (.aload_n 0, 1) := by decide +kernel
theorem dX8_readFact_60 : decode cX8_readFact 60 = .ok (.iload_n 1, 1) := by decide +kernel
theorem dX8_readFact_61 : decode cX8_readFact 61 = .ok (.bipush 10, 2) := by decide +kernel
theorem dX8_readFact_63 : decode cX8_readFact 63 = .ok (.if_icmp .ge 7, 3) := by decide +kernel
theorem dX8_readFact_66 : decode cX8_readFact 66 = .ok (.iconst 1, 1) := by decide +kernel
theorem dX8_readFact_67 : decode cX8_readFact 67 = .ok (.goto 4, 3) := by decide +kernel
theorem dX8_readFact_70 : decode cX8_readFact 70 = .ok (.iconst 0, 1) := by decide +kernel
theorem dX8_readFact_71 : decode cX8_readFact 71 = .ok (.iload_n 2, 1) := by decide +kernel
theorem dX8_readFact_72 : decode cX8_readFact 72 = .ok (.iconst 2, 1) := by decide +kernel
theorem dX8_readFact_73 : decode cX8_readFact 73 = .ok (.invokevirtual 53, 3) := by decide +kernel
theorem dX8_readFact_76 : decode cX8_readFact 76 = .ok (.ifCond .eq 82, 3) := by decide +kernel
theorem dX8_readFact_79 : decode cX8_readFact 79 = .ok (.aload_n 0, 1) := by decide +kernel
theorem dX8_readFact_80 : decode cX8_readFact 80 = .ok (.iload_n 1, 1) := by decide +kernel
theorem dX8_readFact_81 : decode cX8_readFact 81 = .ok (.iconst 1, 1) := by decide +kernel
theorem dX8_readFact_82 : decode cX8_readFact 82 = .ok (.iadd, 1) := by decide +kernel
theorem dX8_readFact_83 : decode cX8_readFact 83 = .ok (.invokevirtual 73, 3) := by decide +kernel
theorem dX8_readFact_86 : decode cX8_readFact 86 = .ok (.aload_n 0, 1) := by decide +kernel
theorem dX8_readFact_87 : decode cX8_readFact 87 = .ok (.aload_n 0, 1) := by decide +kernel
theorem dX8_readFact_88 : decode cX8_readFact 88 = .ok (.getfield 19, 3) := by decide +kernel
theorem dX8_readFact_91 : decode cX8_readFact 91 = .ok (.ifCond .ne 12, 3) := by decide +kernel
theorem dX8_readFact_94 : decode cX8_readFact 94 = .ok (.aload_n 0, 1) := by decide +kernel
theorem dX8_readFact_95 : decode cX8_readFact 95 = .ok (.bipush 93, 2) := by decide +kernel
theorem dX8_readFact_97 : decode cX8_readFact 97 = .ok (.invokevirtual 92, 3) := by decide +kernel
theorem dX8_readFact_100 : decode cX8_readFact 100 = .ok (.ifCond .eq 7, 3) := by decide +kernel
theorem dX8_readFact_103 : decode cX8_readFact 103 = .ok (.iconst 1, 1) := by decide +kernel
theorem dX8_readFact_104 : decode cX8_readFact 104 = .ok (.goto 4, 3) := by decide +kernel
theorem dX8_readFact_107 : decode cX8_readFact 107 = .ok (.iconst 0, 1) := by decide +kernel
theorem dX8_readFact_108 : decode cX8_readFact 108 = .ok (.aload_n 0, 1) := by decide +kernel
theorem dX8_readFact_109 : decode cX8_readFact 109 = .ok (.getfield 15, 3) := by decide +kernel
theorem dX8_readFact_112 : decode cX8_readFact 112 = .ok (.iconst 0, 1) := by decide +kernel
theorem dX8_readFact_113 : decode cX8_readFact 113 = .ok (.invokevirtual 53, 3) := by decide +kernel
theorem dX8_readFact_116 : decode cX8_readFact 116 = .ok (.pop, 1) := by decide +kernel
theorem dX8_readFact_117 : decode cX8_readFact 117 = .ok (.goto 41, 3) := by decide +kernel
theorem dX8_readFact_120 : decode cX8_readFact 120 = .ok (.aload_n 0, 1) := by decide +kernel
theorem dX8_readFact_121 : decode cX8_readFact 121 = .ok (.invokevirtual 67, 3) := by decide +kernel
theorem dX8_readFact_124 : decode cX8_readFact 124 = .ok (.aload_n 0, 1) := by decide +kernel
theorem dX8_readFact_125 : decode cX8_readFact 125 = .ok (.getfield 19, 3) := by decide +kernel
theorem dX8_readFact_128 : decode cX8_readFact 128 = .ok (.ifCond .ne 10, 3) := by decide +kernel
theorem dX8_readFact_131 : decode cX8_readFact 131 = .ok (.aload_n 0, 1) := by decide +kernel
theorem dX8_readFact_132 : decode cX8_readFact 132 = .ok (.invokevirtual 96, 3) := by decide +kernel
theorem dX8_readFact_135 : decode cX8_readFact 135 = .ok (.goto 5, 3) := by decide +kernel
theorem dX8_readFact_138 : decode cX8_readFact 138 = .ok (.bipush 12, 2) := by decide +kernel
theorem dX8_readFact_140 : decode cX8_readFact 140 = .ok (.istore_n 3, 1) := by decide +kernel
theorem dX8_readFact_141 : decode cX8_readFact 141 = .ok (.aload_n 0, 1) := by decide +kernel
theorem dX8_readFact_142 : decode cX8_readFact 142 = .ok (.getfield 19, 3) := by decide +kernel
theorem dX8_readFact_145 : decode cX8_readFact 145 = .ok (.ifCond .ne 13, 3) := by decide +kernel
theorem dX8_readFact_148 : decode cX8_readFact 148 = .ok (.aload_n 0, 1) := by decide +kernel
theorem dX8_readFact_149 : decode cX8_readFact 149 = .ok (.invokevirtual 67, 3) := by decide +kernel
theorem dX8_readFact_152 : decode cX8_readFact 152 = .ok (.aload_n 0, 1) := by decide +kernel
theorem dX8_readFact_153 : decode cX8_readFact 153 = .ok (.iload_n 3, 1) := by decide +kernel
theorem dX8_readFact_154 : decode cX8_readFact 154 = .ok (.iconst 0, 1) := by decide +kernel
theorem dX8_readFact_155 : decode cX8_readFact 155 = .ok (.invokevirtual 76, 3) := by decide +kernel
theorem dX8_readFact_158 : decode cX8_readFact 158 = .ok (.return_, 1) := by decide +kernel
theorem dX8_takeComparison_0 : decode cX8_takeComparison 0 = .ok (.aload_n 0, 1) := by decide +kernel
theorem dX8_takeComparison_1 : decode cX8_takeComparison 1 = .ok (.invokevirtual 57, 3) := by decide +kernel
theorem dX8_takeComparison_4 : decode cX8_takeComparison 4 = .ok (.istore_n 1, 1) := by decide +kernel
theorem dX8_takeComparison_5 : decode cX8_takeComparison 5 = .ok (.aload_n 0, 1) := by decide +kernel
theorem dX8_takeComparison_6 : decode cX8_takeComparison 6 = .ok (.getfield 99, 3) := by decide +kernel
theorem dX8_takeComparison_9 : decode cX8_takeComparison 9 = .ok (.iload_n 1, 1) := by decide +kernel
theorem dX8_takeComparison_10 : decode cX8_takeComparison 10 = .ok (.invokevirtual 103, 3) := by decide +kernel
theorem dX8_takeComparison_13 : decode cX8_takeComparison 13 = .ok (.istore_n 2, 1) := by decide +kernel
theorem dX8_takeComparison_14 : decode cX8_takeComparison 14 = .ok (.aload_n 0, 1) := by decide +kernel
theorem dX8_takeComparison_15 : decode cX8_takeComparison 15 = .ok (.iload_n 2, 1) := by decide +kernel
theorem dX8_takeComparison_16 : decode cX8_takeComparison 16 = .ok (.bipush 60, 2) := by decide +kernel
theorem dX8_takeComparison_18 : decode cX8_takeComparison 18 = .ok (.if_icmp .eq 15, 3) := by decide +kernel
theorem dX8_takeComparison_21 : decode cX8_takeComparison 21 = .ok (.iload_n 2, 1) := by decide +kernel
theorem dX8_takeComparison_22 : decode cX8_takeComparison 22 = .ok (.bipush 61, 2) := by decide +kernel
theorem dX8_takeComparison_24 : decode cX8_takeComparison 24 = .ok (.if_icmp .eq 9, 3) := by decide +kernel
theorem dX8_takeComparison_27 : decode cX8_takeComparison 27 = .ok (.iload_n 2, 1) := by decide +kernel
theorem dX8_takeComparison_28 : decode cX8_takeComparison 28 = .ok (.bipush 62, 2) := by decide +kernel
theorem dX8_takeComparison_30 : decode cX8_takeComparison 30 = .ok (.if_icmp .ne 7, 3) := by decide +kernel
theorem dX8_takeComparison_33 : decode cX8_takeComparison 33 = .ok (.iconst 1, 1) := by decide +kernel
theorem dX8_takeComparison_34 : decode cX8_takeComparison 34 = .ok (.goto 4, 3) := by decide +kernel
theorem dX8_takeComparison_37 : decode cX8_takeComparison 37 = .ok (.iconst 0, 1) := by decide +kernel
theorem dX8_takeComparison_38 : decode cX8_takeComparison 38 = .ok (.iload_n 1, 1) := by decide +kernel
theorem dX8_takeComparison_39 : decode cX8_takeComparison 39 = .ok (.iconst 0, 1) := by decide +kernel
theorem dX8_takeComparison_40 : decode cX8_takeComparison 40 = .ok (.invokevirtual 53, 3) := by decide +kernel
theorem dX8_takeComparison_43 : decode cX8_takeComparison 43 = .ok (.ifCond .ne 6, 3) := by decide +kernel
theorem dX8_takeComparison_46 : decode cX8_takeComparison 46 = .ok (.bipush 12, 2) := by decide +kernel
theorem dX8_takeComparison_48 : decode cX8_takeComparison 48 = .ok (.ireturn, 1) := by decide +kernel
theorem dX8_takeComparison_49 : decode cX8_takeComparison 49 = .ok (.aload_n 0, 1) := by decide +kernel
theorem dX8_takeComparison_50 : decode cX8_takeComparison 50 = .ok (.iload_n 1, 1) := by decide +kernel
theorem dX8_takeComparison_51 : decode cX8_takeComparison 51 = .ok (.invokevirtual 108, 3) := by decide +kernel
theorem dX8_takeComparison_54 : decode cX8_takeComparison 54 = .ok (.aload_n 0, 1) := by decide +kernel
theorem dX8_takeComparison_55 : decode cX8_takeComparison 55 = .ok (.dup, 1) := by decide +kernel
theorem dX8_takeComparison_56 : decode cX8_takeComparison 56 = .ok (.getfield 15, 3) := by decide +kernel
theorem dX8_takeComparison_59 : decode cX8_takeComparison 59 = .ok (.iconst 1, 1) := by decide +kernel
theorem dX8_takeComparison_60 : decode cX8_takeComparison 60 = .ok (.iadd, 1) := by decide +kernel
theorem dX8_takeComparison_61 : decode cX8_takeComparison 61 = .ok (.putfield 15, 3) := by decide +kernel
theorem dX8_takeComparison_64 : decode cX8_takeComparison 64 = .ok (.iload_n 2, 1) := by decide +kernel
theorem dX8_takeComparison_65 : decode cX8_takeComparison 65 = .ok (.bipush 61, 2) := by decide +kernel
theorem dX8_takeComparison_67 : decode cX8_takeComparison 67 = .ok (.if_icmp .eq 23, 3) := by decide +kernel
theorem dX8_takeComparison_70 : decode cX8_takeComparison 70 = .ok (.aload_n 0, 1) := by decide +kernel
theorem dX8_takeComparison_71 : decode cX8_takeComparison 71 = .ok (.getfield 99, 3) := by decide +kernel
theorem dX8_takeComparison_74 : decode cX8_takeComparison 74 = .ok (.aload_n 0, 1) := by decide +kernel
theorem dX8_takeComparison_75 : decode cX8_takeComparison 75 = .ok (.getfield 15, 3) := by decide +kernel
theorem dX8_takeComparison_78 : decode cX8_takeComparison 78 = .ok (.invokevirtual 103, 3) := by decide +kernel
theorem dX8_takeComparison_81 : decode cX8_takeComparison 81 = .ok (.bipush 61, 2) := by decide +kernel
theorem dX8_takeComparison_83 : decode cX8_takeComparison 83 = .ok (.if_icmp .ne 7, 3) := by decide +kernel
theorem dX8_takeComparison_86 : decode cX8_takeComparison 86 = .ok (.iconst 1, 1) := by decide +kernel
theorem dX8_takeComparison_87 : decode cX8_takeComparison 87 = .ok (.goto 4, 3) := by decide +kernel
theorem dX8_takeComparison_90 : decode cX8_takeComparison 90 = .ok (.iconst 0, 1) := by decide +kernel
theorem dX8_takeComparison_91 : decode cX8_takeComparison 91 = .ok (.istore_n 3, 1) := by decide +kernel
theorem dX8_takeComparison_92 : decode cX8_takeComparison 92 = .ok (.iload_n 3, 1) := by decide +kernel
theorem dX8_takeComparison_93 : decode cX8_takeComparison 93 = .ok (.ifCond .eq 13, 3) := by decide +kernel
theorem dX8_takeComparison_96 : decode cX8_takeComparison 96 = .ok (.aload_n 0, 1) := by decide +kernel
theorem dX8_takeComparison_97 : decode cX8_takeComparison 97 = .ok (.dup, 1) := by decide +kernel
theorem dX8_takeComparison_98 : decode cX8_takeComparison 98 = .ok (.getfield 15, 3) := by decide +kernel
theorem dX8_takeComparison_101 : decode cX8_takeComparison 101 = .ok (.iconst 1, 1) := by decide +kernel
theorem dX8_takeComparison_102 : decode cX8_takeComparison 102 = .ok (.iadd, 1) := by decide +kernel
theorem dX8_takeComparison_103 : decode cX8_takeComparison 103 = .ok (.putfield 15, 3) := by decide +kernel
theorem dX8_takeComparison_106 : decode cX8_takeComparison 106 = .ok (.iload_n 2, 1) := by decide +kernel
theorem dX8_takeComparison_107 : decode cX8_takeComparison 107 = .ok (.bipush 60, 2) := by decide +kernel
theorem dX8_takeComparison_109 : decode cX8_takeComparison 109 = .ok (.if_icmp .ne 15, 3) := by decide +kernel
theorem dX8_takeComparison_112 : decode cX8_takeComparison 112 = .ok (.iload_n 3, 1) := by decide +kernel
theorem dX8_takeComparison_113 : decode cX8_takeComparison 113 = .ok (.ifCond .eq 8, 3) := by decide +kernel
theorem dX8_takeComparison_116 : decode cX8_takeComparison 116 = .ok (.bipush 11, 2) := by decide +kernel
theorem dX8_takeComparison_118 : decode cX8_takeComparison 118 = .ok (.goto 5, 3) := by decide +kernel
theorem dX8_takeComparison_121 : decode cX8_takeComparison 121 = .ok (.bipush 10, 2) := by decide +kernel
theorem dX8_takeComparison_123 : decode cX8_takeComparison 123 = .ok (.ireturn, 1) := by decide +kernel
theorem dX8_takeComparison_124 : decode cX8_takeComparison 124 = .ok (.iload_n 2, 1) := by decide +kernel
theorem dX8_takeComparison_125 : decode cX8_takeComparison 125 = .ok (.bipush 62, 2) := by decide +kernel
theorem dX8_takeComparison_127 : decode cX8_takeComparison 127 = .ok (.if_icmp .ne 15, 3) := by decide +kernel
theorem dX8_takeComparison_130 : decode cX8_takeComparison 130 = .ok (.iload_n 3, 1) := by decide +kernel
theorem dX8_takeComparison_131 : decode cX8_takeComparison 131 = .ok (.ifCond .eq 8, 3) := by decide +kernel
theorem dX8_takeComparison_134 : decode cX8_takeComparison 134 = .ok (.bipush 13, 2) := by decide +kernel
theorem dX8_takeComparison_136 : decode cX8_takeComparison 136 = .ok (.goto 5, 3) := by decide +kernel
theorem dX8_takeComparison_139 : decode cX8_takeComparison 139 = .ok (.bipush 14, 2) := by decide +kernel
theorem dX8_takeComparison_141 : decode cX8_takeComparison 141 = .ok (.ireturn, 1) := by decide +kernel
theorem dX8_takeComparison_142 : decode cX8_takeComparison 142 = .ok (.bipush 12, 2) := by decide +kernel
theorem dX8_takeComparison_144 : decode cX8_takeComparison 144 = .ok (.ireturn, 1) := by decide +kernel
theorem dX8_readSum_0 : decode cX8_readSum 0 = .ok (.iconst (-1), 1) := by decide +kernel
theorem dX8_readSum_1 : decode cX8_readSum 1 = .ok (.istore_n 1, 1) := by decide +kernel
theorem dX8_readSum_2 : decode cX8_readSum 2 = .ok (.aload_n 0, 1) := by decide +kernel
theorem dX8_readSum_3 : decode cX8_readSum 3 = .ok (.invokevirtual 111, 3) := by decide +kernel
theorem dX8_readSum_6 : decode cX8_readSum 6 = .ok (.iconst 0, 1) := by decide +kernel
theorem dX8_readSum_7 : decode cX8_readSum 7 = .ok (.istore_n 2, 1) := by decide +kernel
theorem dX8_readSum_8 : decode cX8_readSum 8 = .ok (.iload_n 2, 1) := by decide +kernel
theorem dX8_readSum_9 : decode cX8_readSum 9 = .ok (.sipush 400, 3) := by decide +kernel
theorem dX8_readSum_12 : decode cX8_readSum 12 = .ok (.if_icmp .ge 91, 3) := by decide +kernel
theorem dX8_readSum_15 : decode cX8_readSum 15 = .ok (.aload_n 0, 1) := by decide +kernel
theorem dX8_readSum_16 : decode cX8_readSum 16 = .ok (.getfield 19, 3) := by decide +kernel
theorem dX8_readSum_19 : decode cX8_readSum 19 = .ok (.ifCond .ne 84, 3) := by decide +kernel
theorem dX8_readSum_22 : decode cX8_readSum 22 = .ok (.aload_n 0, 1) := by decide +kernel
theorem dX8_readSum_23 : decode cX8_readSum 23 = .ok (.aload_n 0, 1) := by decide +kernel
theorem dX8_readSum_24 : decode cX8_readSum 24 = .ok (.getfield 99, 3) := by decide +kernel
theorem dX8_readSum_27 : decode cX8_readSum 27 = .ok (.aload_n 0, 1) := by decide +kernel
theorem dX8_readSum_28 : decode cX8_readSum 28 = .ok (.invokevirtual 57, 3) := by decide +kernel
theorem dX8_readSum_31 : decode cX8_readSum 31 = .ok (.invokevirtual 103, 3) := by decide +kernel
theorem dX8_readSum_34 : decode cX8_readSum 34 = .ok (.invokevirtual 114, 3) := by decide +kernel
theorem dX8_readSum_37 : decode cX8_readSum 37 = .ok (.istore_n 3, 1) := by decide +kernel
theorem dX8_readSum_38 : decode cX8_readSum 38 = .ok (.iload_n 3, 1) := by decide +kernel
theorem dX8_readSum_39 : decode cX8_readSum 39 = .ok (.iconst (-1), 1) := by decide +kernel
theorem dX8_readSum_40 : decode cX8_readSum 40 = .ok (.if_icmp .ne 6, 3) := by decide +kernel
theorem dX8_readSum_43 : decode cX8_readSum 43 = .ok (.goto 60, 3) := by decide +kernel
theorem dX8_readSum_46 : decode cX8_readSum 46 = .ok (.aload_n 0, 1) := by decide +kernel
theorem dX8_readSum_47 : decode cX8_readSum 47 = .ok (.dup, 1) := by decide +kernel
theorem dX8_readSum_48 : decode cX8_readSum 48 = .ok (.getfield 15, 3) := by decide +kernel
theorem dX8_readSum_51 : decode cX8_readSum 51 = .ok (.iconst 1, 1) := by decide +kernel
theorem dX8_readSum_52 : decode cX8_readSum 52 = .ok (.iadd, 1) := by decide +kernel
theorem dX8_readSum_53 : decode cX8_readSum 53 = .ok (.putfield 15, 3) := by decide +kernel
theorem dX8_readSum_56 : decode cX8_readSum 56 = .ok (.iload_n 3, 1) := by decide +kernel
theorem dX8_readSum_57 : decode cX8_readSum 57 = .ok (.iconst 5, 1) := by decide +kernel
theorem dX8_readSum_58 : decode cX8_readSum 58 = .ok (.if_icmp .eq 9, 3) := by decide +kernel
theorem dX8_readSum_61 : decode cX8_readSum 61 = .ok (.iload_n 3, 1) := by decide +kernel
theorem dX8_readSum_62 : decode cX8_readSum 62 = .ok (.bipush 6, 2) := by decide +kernel
theorem dX8_readSum_64 : decode cX8_readSum 64 = .ok (.if_icmp .ne 23, 3) := by decide +kernel
theorem dX8_readSum_67 : decode cX8_readSum 67 = .ok (.iload_n 1, 1) := by decide +kernel
theorem dX8_readSum_68 : decode cX8_readSum 68 = .ok (.iconst (-1), 1) := by decide +kernel
theorem dX8_readSum_69 : decode cX8_readSum 69 = .ok (.if_icmp .eq 9, 3) := by decide +kernel
theorem dX8_readSum_72 : decode cX8_readSum 72 = .ok (.aload_n 0, 1) := by decide +kernel
theorem dX8_readSum_73 : decode cX8_readSum 73 = .ok (.iload_n 1, 1) := by decide +kernel
theorem dX8_readSum_74 : decode cX8_readSum 74 = .ok (.iconst 0, 1) := by decide +kernel
theorem dX8_readSum_75 : decode cX8_readSum 75 = .ok (.invokevirtual 76, 3) := by decide +kernel
theorem dX8_readSum_78 : decode cX8_readSum 78 = .ok (.iload_n 3, 1) := by decide +kernel
theorem dX8_readSum_79 : decode cX8_readSum 79 = .ok (.istore_n 1, 1) := by decide +kernel
theorem dX8_readSum_80 : decode cX8_readSum 80 = .ok (.aload_n 0, 1) := by decide +kernel
theorem dX8_readSum_81 : decode cX8_readSum 81 = .ok (.invokevirtual 111, 3) := by decide +kernel
theorem dX8_readSum_84 : decode cX8_readSum 84 = .ok (.goto 13, 3) := by decide +kernel
theorem dX8_readSum_87 : decode cX8_readSum 87 = .ok (.aload_n 0, 1) := by decide +kernel
theorem dX8_readSum_88 : decode cX8_readSum 88 = .ok (.invokevirtual 111, 3) := by decide +kernel
theorem dX8_readSum_91 : decode cX8_readSum 91 = .ok (.aload_n 0, 1) := by decide +kernel
theorem dX8_readSum_92 : decode cX8_readSum 92 = .ok (.iload_n 3, 1) := by decide +kernel
theorem dX8_readSum_93 : decode cX8_readSum 93 = .ok (.iconst 0, 1) := by decide +kernel
theorem dX8_readSum_94 : decode cX8_readSum 94 = .ok (.invokevirtual 76, 3) := by decide +kernel
theorem dX8_readSum_97 : decode cX8_readSum 97 = .ok (.iinc 2 1, 3) := by decide +kernel
theorem dX8_readSum_100 : decode cX8_readSum 100 = .ok (.goto (-92), 3) := by decide +kernel
theorem dX8_readSum_103 : decode cX8_readSum 103 = .ok (.iload_n 1, 1) := by decide +kernel
theorem dX8_readSum_104 : decode cX8_readSum 104 = .ok (.iconst (-1), 1) := by decide +kernel
theorem dX8_readSum_105 : decode cX8_readSum 105 = .ok (.if_icmp .eq 9, 3) := by decide +kernel
theorem dX8_readSum_108 : decode cX8_readSum 108 = .ok (.aload_n 0, 1) := by decide +kernel
theorem dX8_readSum_109 : decode cX8_readSum 109 = .ok (.iload_n 1, 1) := by decide +kernel
theorem dX8_readSum_110 : decode cX8_readSum 110 = .ok (.iconst 0, 1) := by decide +kernel
theorem dX8_readSum_111 : decode cX8_readSum 111 = .ok (.invokevirtual 76, 3) := by decide +kernel
theorem dX8_readSum_114 : decode cX8_readSum 114 = .ok (.return_, 1) := by decide +kernel
theorem dX8_operation_0 : decode cX8_operation 0 = .ok (.iload_n 1, 1) := by decide +kernel
theorem dX8_operation_1 : decode cX8_operation 1 = .ok (.tableswitch 73 37 47 #[70, 73, 73, 73, 73, 64, 59, 73, 61, 73, 67], 59) := by decide +kernel
theorem dX8_operation_60 : decode cX8_operation 60 = .ok (.iconst 5, 1) := by decide +kernel
theorem dX8_operation_61 : decode cX8_operation 61 = .ok (.ireturn, 1) := by decide +kernel
theorem dX8_operation_62 : decode cX8_operation 62 = .ok (.bipush 6, 2) := by decide +kernel
theorem dX8_operation_64 : decode cX8_operation 64 = .ok (.ireturn, 1) := by decide +kernel
theorem dX8_operation_65 : decode cX8_operation 65 = .ok (.bipush 7, 2) := by decide +kernel
theorem dX8_operation_67 : decode cX8_operation 67 = .ok (.ireturn, 1) := by decide +kernel
theorem dX8_operation_68 : decode cX8_operation 68 = .ok (.bipush 8, 2) := by decide +kernel
theorem dX8_operation_70 : decode cX8_operation 70 = .ok (.ireturn, 1) := by decide +kernel
theorem dX8_operation_71 : decode cX8_operation 71 = .ok (.bipush 9, 2) := by decide +kernel
theorem dX8_operation_73 : decode cX8_operation 73 = .ok (.ireturn, 1) := by decide +kernel
theorem dX8_operation_74 : decode cX8_operation 74 = .ok (.iconst (-1), 1) := by decide +kernel
theorem dX8_operation_75 : decode cX8_operation 75 = .ok (.ireturn, 1) := by decide +kernel
theorem dX8_readValue_0 : decode cX8_readValue 0 = .ok (.aload_n 0, 1) := by decide +kernel
theorem dX8_readValue_1 : decode cX8_readValue 1 = .ok (.invokevirtual 57, 3) := by decide +kernel
theorem dX8_readValue_4 : decode cX8_readValue 4 = .ok (.istore_n 1, 1) := by decide +kernel
theorem dX8_readValue_5 : decode cX8_readValue 5 = .ok (.aload_n 0, 1) := by decide +kernel
theorem dX8_readValue_6 : decode cX8_readValue 6 = .ok (.aload_n 0, 1) := by decide +kernel
theorem dX8_readValue_7 : decode cX8_readValue 7 = .ok (.getfield 99, 3) := by decide +kernel
theorem dX8_readValue_10 : decode cX8_readValue 10 = .ok (.iload_n 1, 1) := by decide +kernel
theorem dX8_readValue_11 : decode cX8_readValue 11 = .ok (.invokevirtual 103, 3) := by decide +kernel
theorem dX8_readValue_14 : decode cX8_readValue 14 = .ok (.invokevirtual 117, 3) := by decide +kernel
theorem dX8_readValue_17 : decode cX8_readValue 17 = .ok (.ifCond .eq 21, 3) := by decide +kernel
theorem dX8_readValue_20 : decode cX8_readValue 20 = .ok (.aload_n 0, 1) := by decide +kernel
theorem dX8_readValue_21 : decode cX8_readValue 21 = .ok (.iconst 0, 1) := by decide +kernel
theorem dX8_readValue_22 : decode cX8_readValue 22 = .ok (.aload_n 0, 1) := by decide +kernel
theorem dX8_readValue_23 : decode cX8_readValue 23 = .ok (.iconst 0, 1) := by decide +kernel
theorem dX8_readValue_24 : decode cX8_readValue 24 = .ok (.ldc 121, 2) := by decide +kernel
theorem dX8_readValue_26 : decode cX8_readValue 26 = .ok (.invokevirtual 122, 3) := by decide +kernel
theorem dX8_readValue_29 : decode cX8_readValue 29 = .ok (.invokevirtual 76, 3) := by decide +kernel
theorem dX8_readValue_32 : decode cX8_readValue 32 = .ok (.aload_n 0, 1) := by decide +kernel
theorem dX8_readValue_33 : decode cX8_readValue 33 = .ok (.iload_n 1, 1) := by decide +kernel
theorem dX8_readValue_34 : decode cX8_readValue 34 = .ok (.invokevirtual 108, 3) := by decide +kernel
theorem dX8_readValue_37 : decode cX8_readValue 37 = .ok (.return_, 1) := by decide +kernel
theorem dX8_readValue_38 : decode cX8_readValue 38 = .ok (.iconst 0, 1) := by decide +kernel
theorem dX8_readValue_39 : decode cX8_readValue 39 = .ok (.istore_n 2, 1) := by decide +kernel
theorem dX8_readValue_40 : decode cX8_readValue 40 = .ok (.iload_n 2, 1) := by decide +kernel
theorem dX8_readValue_41 : decode cX8_readValue 41 = .ok (.bipush 12, 2) := by decide +kernel
theorem dX8_readValue_43 : decode cX8_readValue 43 = .ok (.if_icmp .ge 33, 3) := by decide +kernel
theorem dX8_readValue_46 : decode cX8_readValue 46 = .ok (.aload_n 0, 1) := by decide +kernel
theorem dX8_readValue_47 : decode cX8_readValue 47 = .ok (.aload_n 0, 1) := by decide +kernel
theorem dX8_readValue_48 : decode cX8_readValue 48 = .ok (.iload_n 2, 1) := by decide +kernel
theorem dX8_readValue_49 : decode cX8_readValue 49 = .ok (.invokevirtual 125, 3) := by decide +kernel
theorem dX8_readValue_52 : decode cX8_readValue 52 = .ok (.invokevirtual 129, 3) := by decide +kernel
theorem dX8_readValue_55 : decode cX8_readValue 55 = .ok (.ifCond .eq 15, 3) := by decide +kernel
theorem dX8_readValue_58 : decode cX8_readValue 58 = .ok (.aload_n 0, 1) := by decide +kernel
theorem dX8_readValue_59 : decode cX8_readValue 59 = .ok (.iconst 1, 1) := by decide +kernel
theorem dX8_readValue_60 : decode cX8_readValue 60 = .ok (.iload_n 2, 1) := by decide +kernel
theorem dX8_readValue_61 : decode cX8_readValue 61 = .ok (.invokevirtual 76, 3) := by decide +kernel
theorem dX8_readValue_64 : decode cX8_readValue 64 = .ok (.aload_n 0, 1) := by decide +kernel
theorem dX8_readValue_65 : decode cX8_readValue 65 = .ok (.iload_n 1, 1) := by decide +kernel
theorem dX8_readValue_66 : decode cX8_readValue 66 = .ok (.invokevirtual 108, 3) := by decide +kernel
theorem dX8_readValue_69 : decode cX8_readValue 69 = .ok (.return_, 1) := by decide +kernel
theorem dX8_readValue_70 : decode cX8_readValue 70 = .ok (.iinc 2 1, 3) := by decide +kernel
theorem dX8_readValue_73 : decode cX8_readValue 73 = .ok (.goto (-33), 3) := by decide +kernel
theorem dX8_readValue_76 : decode cX8_readValue 76 = .ok (.aload_n 0, 1) := by decide +kernel
theorem dX8_readValue_77 : decode cX8_readValue 77 = .ok (.iconst 0, 1) := by decide +kernel
theorem dX8_readValue_78 : decode cX8_readValue 78 = .ok (.iload_n 1, 1) := by decide +kernel
theorem dX8_readValue_79 : decode cX8_readValue 79 = .ok (.iconst 0, 1) := by decide +kernel
theorem dX8_readValue_80 : decode cX8_readValue 80 = .ok (.invokevirtual 53, 3) := by decide +kernel
theorem dX8_readValue_83 : decode cX8_readValue 83 = .ok (.pop, 1) := by decide +kernel
theorem dX8_readValue_84 : decode cX8_readValue 84 = .ok (.return_, 1) := by decide +kernel
theorem dX8_valueWord_0 : decode cX8_valueWord 0 = .ok (.iload_n 1, 1) := by decide +kernel
theorem dX8_valueWord_1 : decode cX8_valueWord 1 = .ok (.tableswitch 92 0 10 #[59, 62, 65, 68, 71, 74, 77, 80, 83, 86, 89], 59) := by decide +kernel
theorem dX8_valueWord_60 : decode cX8_valueWord 60 = .ok (.ldc 132, 2) := by decide +kernel
theorem dX8_valueWord_62 : decode cX8_valueWord 62 = .ok (.areturn, 1) := by decide +kernel
theorem dX8_valueWord_63 : decode cX8_valueWord 63 = .ok (.ldc 134, 2) := by decide +kernel
theorem dX8_valueWord_65 : decode cX8_valueWord 65 = .ok (.areturn, 1) := by decide +kernel
theorem dX8_valueWord_66 : decode cX8_valueWord 66 = .ok (.ldc 136, 2) := by decide +kernel
theorem dX8_valueWord_68 : decode cX8_valueWord 68 = .ok (.areturn, 1) := by decide +kernel
theorem dX8_valueWord_69 : decode cX8_valueWord 69 = .ok (.ldc 138, 2) := by decide +kernel
theorem dX8_valueWord_71 : decode cX8_valueWord 71 = .ok (.areturn, 1) := by decide +kernel
theorem dX8_valueWord_72 : decode cX8_valueWord 72 = .ok (.ldc 140, 2) := by decide +kernel
theorem dX8_valueWord_74 : decode cX8_valueWord 74 = .ok (.areturn, 1) := by decide +kernel
theorem dX8_valueWord_75 : decode cX8_valueWord 75 = .ok (.ldc 142, 2) := by decide +kernel
theorem dX8_valueWord_77 : decode cX8_valueWord 77 = .ok (.areturn, 1) := by decide +kernel
theorem dX8_valueWord_78 : decode cX8_valueWord 78 = .ok (.ldc 144, 2) := by decide +kernel
theorem dX8_valueWord_80 : decode cX8_valueWord 80 = .ok (.areturn, 1) := by decide +kernel
theorem dX8_valueWord_81 : decode cX8_valueWord 81 = .ok (.ldc 146, 2) := by decide +kernel
theorem dX8_valueWord_83 : decode cX8_valueWord 83 = .ok (.areturn, 1) := by decide +kernel
theorem dX8_valueWord_84 : decode cX8_valueWord 84 = .ok (.ldc 148, 2) := by decide +kernel
theorem dX8_valueWord_86 : decode cX8_valueWord 86 = .ok (.areturn, 1) := by decide +kernel
theorem dX8_valueWord_87 : decode cX8_valueWord 87 = .ok (.ldc 150, 2) := by decide +kernel
theorem dX8_valueWord_89 : decode cX8_valueWord 89 = .ok (.areturn, 1) := by decide +kernel
theorem dX8_valueWord_90 : decode cX8_valueWord 90 = .ok (.ldc 152, 2) := by decide +kernel
theorem dX8_valueWord_92 : decode cX8_valueWord 92 = .ok (.areturn, 1) := by decide +kernel
theorem dX8_valueWord_93 : decode cX8_valueWord 93 = .ok (.ldc 154, 2) := by decide +kernel
theorem dX8_valueWord_95 : decode cX8_valueWord 95 = .ok (.areturn, 1) := by decide +kernel
theorem dX9_init_0 : decode cX9_init 0 = .ok (.aload_n 0, 1) := by decide +kernel
theorem dX9_init_1 : decode cX9_init 1 = .ok (.invokespecial 3, 3) := by decide +kernel
theorem dX9_init_4 : decode cX9_init 4 = .ok (.aload_n 0, 1) := by decide +kernel
theorem dX9_init_5 : decode cX9_init 5 = .ok (.new 9, 3) := by decide +kernel
theorem dX9_init_8 : decode cX9_init 8 = .ok (.dup, 1) := by decide +kernel
theorem dX9_init_9 : decode cX9_init 9 = .ok (.invokespecial 11, 3) := by decide +kernel
theorem dX9_init_12 : decode cX9_init 12 = .ok (.putfield 12, 3) := by decide +kernel
theorem dX9_init_15 : decode cX9_init 15 = .ok (.aload_n 0, 1) := by decide +kernel
theorem dX9_init_16 : decode cX9_init 16 = .ok (.iconst (-1), 1) := by decide +kernel
theorem dX9_init_17 : decode cX9_init 17 = .ok (.putfield 18, 3) := by decide +kernel
theorem dX9_init_20 : decode cX9_init 20 = .ok (.aload_n 0, 1) := by decide +kernel
theorem dX9_init_21 : decode cX9_init 21 = .ok (.bipush 10, 2) := by decide +kernel
theorem dX9_init_23 : decode cX9_init 23 = .ok (.newarray .int, 2) := by decide +kernel
theorem dX9_init_25 : decode cX9_init 25 = .ok (.putfield 22, 3) := by decide +kernel
theorem dX9_init_28 : decode cX9_init 28 = .ok (.aload_n 0, 1) := by decide +kernel
theorem dX9_init_29 : decode cX9_init 29 = .ok (.aload_n 1, 1) := by decide +kernel
theorem dX9_init_30 : decode cX9_init 30 = .ok (.putfield 26, 3) := by decide +kernel
theorem dX9_init_33 : decode cX9_init 33 = .ok (.return_, 1) := by decide +kernel
theorem dX9_begin_0 : decode cX9_begin 0 = .ok (.aload_n 0, 1) := by decide +kernel
theorem dX9_begin_1 : decode cX9_begin 1 = .ok (.aload_n 1, 1) := by decide +kernel
theorem dX9_begin_2 : decode cX9_begin 2 = .ok (.putfield 26, 3) := by decide +kernel
theorem dX9_begin_5 : decode cX9_begin 5 = .ok (.aload_n 0, 1) := by decide +kernel
theorem dX9_begin_6 : decode cX9_begin 6 = .ok (.getfield 12, 3) := by decide +kernel
theorem dX9_begin_9 : decode cX9_begin 9 = .ok (.aload_n 1, 1) := by decide +kernel
theorem dX9_begin_10 : decode cX9_begin 10 = .ok (.invokevirtual 30, 3) := by decide +kernel
theorem dX9_begin_13 : decode cX9_begin 13 = .ok (.aload_n 0, 1) := by decide +kernel
theorem dX9_begin_14 : decode cX9_begin 14 = .ok (.iconst 0, 1) := by decide +kernel
theorem dX9_begin_15 : decode cX9_begin 15 = .ok (.putfield 34, 3) := by decide +kernel
theorem dX9_begin_18 : decode cX9_begin 18 = .ok (.return_, 1) := by decide +kernel
theorem dX9_copyFrom_0 : decode cX9_copyFrom 0 = .ok (.aload_n 0, 1) := by decide +kernel
theorem dX9_copyFrom_1 : decode cX9_copyFrom 1 = .ok (.aload_n 1, 1) := by decide +kernel
theorem dX9_copyFrom_2 : decode cX9_copyFrom 2 = .ok (.getfield 26, 3) := by decide +kernel
theorem dX9_copyFrom_5 : decode cX9_copyFrom 5 = .ok (.putfield 26, 3) := by decide +kernel
theorem dX9_copyFrom_8 : decode cX9_copyFrom 8 = .ok (.aload_n 0, 1) := by decide +kernel
theorem dX9_copyFrom_9 : decode cX9_copyFrom 9 = .ok (.getfield 12, 3) := by decide +kernel
theorem dX9_copyFrom_12 : decode cX9_copyFrom 12 = .ok (.aload_n 1, 1) := by decide +kernel
theorem dX9_copyFrom_13 : decode cX9_copyFrom 13 = .ok (.getfield 12, 3) := by decide +kernel
theorem dX9_copyFrom_16 : decode cX9_copyFrom 16 = .ok (.invokevirtual 37, 3) := by decide +kernel
theorem dX9_copyFrom_19 : decode cX9_copyFrom 19 = .ok (.aload_n 0, 1) := by decide +kernel
theorem dX9_copyFrom_20 : decode cX9_copyFrom 20 = .ok (.aload_n 1, 1) := by decide +kernel
theorem dX9_copyFrom_21 : decode cX9_copyFrom 21 = .ok (.getfield 18, 3) := by decide +kernel
theorem dX9_copyFrom_24 : decode cX9_copyFrom 24 = .ok (.putfield 18, 3) := by decide +kernel
theorem dX9_copyFrom_27 : decode cX9_copyFrom 27 = .ok (.aload_n 0, 1) := by decide +kernel
theorem dX9_copyFrom_28 : decode cX9_copyFrom 28 = .ok (.aload_n 1, 1) := by decide +kernel
theorem dX9_copyFrom_29 : decode cX9_copyFrom 29 = .ok (.getfield 41, 3) := by decide +kernel
theorem dX9_copyFrom_32 : decode cX9_copyFrom 32 = .ok (.putfield 41, 3) := by decide +kernel
theorem dX9_copyFrom_35 : decode cX9_copyFrom 35 = .ok (.aload_n 0, 1) := by decide +kernel
theorem dX9_copyFrom_36 : decode cX9_copyFrom 36 = .ok (.aload_n 1, 1) := by decide +kernel
theorem dX9_copyFrom_37 : decode cX9_copyFrom 37 = .ok (.getfield 34, 3) := by decide +kernel
theorem dX9_copyFrom_40 : decode cX9_copyFrom 40 = .ok (.putfield 34, 3) := by decide +kernel
theorem dX9_copyFrom_43 : decode cX9_copyFrom 43 = .ok (.aload_n 1, 1) := by decide +kernel
theorem dX9_copyFrom_44 : decode cX9_copyFrom 44 = .ok (.getfield 22, 3) := by decide +kernel
theorem dX9_copyFrom_47 : decode cX9_copyFrom 47 = .ok (.iconst 0, 1) := by decide +kernel
theorem dX9_copyFrom_48 : decode cX9_copyFrom 48 = .ok (.aload_n 0, 1) := by decide +kernel
theorem dX9_copyFrom_49 : decode cX9_copyFrom 49 = .ok (.getfield 22, 3) := by decide +kernel
theorem dX9_copyFrom_52 : decode cX9_copyFrom 52 = .ok (.iconst 0, 1) := by decide +kernel
theorem dX9_copyFrom_53 : decode cX9_copyFrom 53 = .ok (.bipush 10, 2) := by decide +kernel
theorem dX9_copyFrom_55 : decode cX9_copyFrom 55 = .ok (.invokestatic 44, 3) := by decide +kernel
theorem dX9_copyFrom_58 : decode cX9_copyFrom 58 = .ok (.return_, 1) := by decide +kernel
theorem dX9_isFog_0 : decode cX9_isFog 0 = .ok (.aload_n 0, 1) := by decide +kernel
theorem dX9_isFog_1 : decode cX9_isFog 1 = .ok (.getfield 26, 3) := by decide +kernel
theorem dX9_isFog_4 : decode cX9_isFog 4 = .ok (.aload_n 0, 1) := by decide +kernel
theorem dX9_isFog_5 : decode cX9_isFog 5 = .ok (.getfield 12, 3) := by decide +kernel
theorem dX9_isFog_8 : decode cX9_isFog 8 = .ok (.getfield 50, 3) := by decide +kernel
theorem dX9_isFog_11 : decode cX9_isFog 11 = .ok (.invokevirtual 53, 3) := by decide +kernel
theorem dX9_isFog_14 : decode cX9_isFog 14 = .ok (.ireturn, 1) := by decide +kernel
theorem dX9_addNote_0 : decode cX9_addNote 0 = .ok (.aload_n 0, 1) := by decide +kernel
theorem dX9_addNote_1 : decode cX9_addNote 1 = .ok (.getfield 34, 3) := by decide +kernel
theorem dX9_addNote_4 : decode cX9_addNote 4 = .ok (.bipush 10, 2) := by decide +kernel
theorem dX9_addNote_6 : decode cX9_addNote 6 = .ok (.if_icmp .ge 32, 3) := by decide +kernel
theorem dX9_addNote_9 : decode cX9_addNote 9 = .ok (.aload_n 0, 1) := by decide +kernel
theorem dX9_addNote_10 : decode cX9_addNote 10 = .ok (.getfield 22, 3) := by decide +kernel
theorem dX9_addNote_13 : decode cX9_addNote 13 = .ok (.aload_n 0, 1) := by decide +kernel
theorem dX9_addNote_14 : decode cX9_addNote 14 = .ok (.getfield 34, 3) := by decide +kernel
theorem dX9_addNote_17 : decode cX9_addNote 17 = .ok (.iload_n 2, 1) := by decide +kernel
theorem dX9_addNote_18 : decode cX9_addNote 18 = .ok (.iconst 2, 1) := by decide +kernel
theorem dX9_addNote_19 : decode cX9_addNote 19 = .ok (.imul, 1) := by decide +kernel
theorem dX9_addNote_20 : decode cX9_addNote 20 = .ok (.iload_n 3, 1) := by decide +kernel
theorem dX9_addNote_21 : decode cX9_addNote 21 = .ok (.iadd, 1) := by decide +kernel
theorem dX9_addNote_22 : decode cX9_addNote 22 = .ok (.bipush 64, 2) := by decide +kernel
theorem dX9_addNote_24 : decode cX9_addNote 24 = .ok (.imul, 1) := by decide +kernel
theorem dX9_addNote_25 : decode cX9_addNote 25 = .ok (.iload_n 1, 1) := by decide +kernel
theorem dX9_addNote_26 : decode cX9_addNote 26 = .ok (.iadd, 1) := by decide +kernel
theorem dX9_addNote_27 : decode cX9_addNote 27 = .ok (.iastore, 1) := by decide +kernel
theorem dX9_addNote_28 : decode cX9_addNote 28 = .ok (.aload_n 0, 1) := by decide +kernel
theorem dX9_addNote_29 : decode cX9_addNote 29 = .ok (.dup, 1) := by decide +kernel
theorem dX9_addNote_30 : decode cX9_addNote 30 = .ok (.getfield 34, 3) := by decide +kernel
theorem dX9_addNote_33 : decode cX9_addNote 33 = .ok (.iconst 1, 1) := by decide +kernel
theorem dX9_addNote_34 : decode cX9_addNote 34 = .ok (.iadd, 1) := by decide +kernel
theorem dX9_addNote_35 : decode cX9_addNote 35 = .ok (.putfield 34, 3) := by decide +kernel
theorem dX9_addNote_38 : decode cX9_addNote 38 = .ok (.return_, 1) := by decide +kernel
theorem dX9_lastNoted_0 : decode cX9_lastNoted 0 = .ok (.iconst (-1), 1) := by decide +kernel
theorem dX9_lastNoted_1 : decode cX9_lastNoted 1 = .ok (.istore_n 1, 1) := by decide +kernel
theorem dX9_lastNoted_2 : decode cX9_lastNoted 2 = .ok (.iconst 0, 1) := by decide +kernel
theorem dX9_lastNoted_3 : decode cX9_lastNoted 3 = .ok (.istore_n 2, 1) := by decide +kernel
theorem dX9_lastNoted_4 : decode cX9_lastNoted 4 = .ok (.iload_n 2, 1) := by decide +kernel
theorem dX9_lastNoted_5 : decode cX9_lastNoted 5 = .ok (.aload_n 0, 1) := by decide +kernel
theorem dX9_lastNoted_6 : decode cX9_lastNoted 6 = .ok (.getfield 34, 3) := by decide +kernel
theorem dX9_lastNoted_9 : decode cX9_lastNoted 9 = .ok (.if_icmp .ge 23, 3) := by decide +kernel
theorem dX9_lastNoted_12 : decode cX9_lastNoted 12 = .ok (.iload_n 1, 1) := by decide +kernel
theorem dX9_lastNoted_13 : decode cX9_lastNoted 13 = .ok (.aload_n 0, 1) := by decide +kernel
theorem dX9_lastNoted_14 : decode cX9_lastNoted 14 = .ok (.getfield 22, 3) := by decide +kernel
theorem dX9_lastNoted_17 : decode cX9_lastNoted 17 = .ok (.iload_n 2, 1) := by decide +kernel
theorem dX9_lastNoted_18 : decode cX9_lastNoted 18 = .ok (.iaload, 1) := by decide +kernel
theorem dX9_lastNoted_19 : decode cX9_lastNoted 19 = .ok (.bipush 64, 2) := by decide +kernel
theorem dX9_lastNoted_21 : decode cX9_lastNoted 21 = .ok (.irem, 1) := by decide +kernel
theorem dX9_lastNoted_22 : decode cX9_lastNoted 22 = .ok (.invokestatic 59, 3) := by decide +kernel
theorem dX9_lastNoted_25 : decode cX9_lastNoted 25 = .ok (.istore_n 1, 1) := by decide +kernel
theorem dX9_lastNoted_26 : decode cX9_lastNoted 26 = .ok (.iinc 2 1, 3) := by decide +kernel
theorem dX9_lastNoted_29 : decode cX9_lastNoted 29 = .ok (.goto (-25), 3) := by decide +kernel
theorem dX9_lastNoted_32 : decode cX9_lastNoted 32 = .ok (.iload_n 1, 1) := by decide +kernel
theorem dX9_lastNoted_33 : decode cX9_lastNoted 33 = .ok (.ireturn, 1) := by decide +kernel
theorem dX9_agrees_0 : decode cX9_agrees 0 = .ok (.iconst 0, 1) := by decide +kernel
theorem dX9_agrees_1 : decode cX9_agrees 1 = .ok (.istore_n 3, 1) := by decide +kernel
theorem dX9_agrees_2 : decode cX9_agrees 2 = .ok (.iload_n 3, 1) := by decide +kernel
theorem dX9_agrees_3 : decode cX9_agrees 3 = .ok (.aload_n 0, 1) := by decide +kernel
theorem dX9_agrees_4 : decode cX9_agrees 4 = .ok (.getfield 34, 3) := by decide +kernel
theorem dX9_agrees_7 : decode cX9_agrees 7 = .ok (.if_icmp .ge 50, 3) := by decide +kernel
theorem dX9_agrees_10 : decode cX9_agrees 10 = .ok (.aload_n 0, 1) := by decide +kernel
theorem dX9_agrees_11 : decode cX9_agrees 11 = .ok (.getfield 22, 3) := by decide +kernel
theorem dX9_agrees_14 : decode cX9_agrees 14 = .ok (.iload_n 3, 1) := by decide +kernel
theorem dX9_agrees_15 : decode cX9_agrees 15 = .ok (.iaload, 1) := by decide +kernel
theorem dX9_agrees_16 : decode cX9_agrees 16 = .ok (.bipush 64, 2) := by decide +kernel
theorem dX9_agrees_18 : decode cX9_agrees 18 = .ok (.idiv, 1) := by decide +kernel
theorem dX9_agrees_19 : decode cX9_agrees 19 = .ok (.istore 4, 2) := by decide +kernel
theorem dX9_agrees_21 : decode cX9_agrees 21 = .ok (.aload_n 0, 1) := by decide +kernel
theorem dX9_agrees_22 : decode cX9_agrees 22 = .ok (.getfield 22, 3) := by decide +kernel
theorem dX9_agrees_25 : decode cX9_agrees 25 = .ok (.iload_n 3, 1) := by decide +kernel
theorem dX9_agrees_26 : decode cX9_agrees 26 = .ok (.iaload, 1) := by decide +kernel
theorem dX9_agrees_27 : decode cX9_agrees 27 = .ok (.bipush 64, 2) := by decide +kernel
theorem dX9_agrees_29 : decode cX9_agrees 29 = .ok (.irem, 1) := by decide +kernel
theorem dX9_agrees_30 : decode cX9_agrees 30 = .ok (.iload_n 1, 1) := by decide +kernel
theorem dX9_agrees_31 : decode cX9_agrees 31 = .ok (.if_icmp .ne 20, 3) := by decide +kernel
theorem dX9_agrees_34 : decode cX9_agrees 34 = .ok (.aload_n 2, 1) := by decide +kernel
theorem dX9_agrees_35 : decode cX9_agrees 35 = .ok (.iload 4, 2) := by decide +kernel
theorem dX9_agrees_37 : decode cX9_agrees 37 = .ok (.iconst 2, 1) := by decide +kernel
theorem dX9_agrees_38 : decode cX9_agrees 38 = .ok (.idiv, 1) := by decide +kernel
theorem dX9_agrees_39 : decode cX9_agrees 39 = .ok (.invokevirtual 65, 3) := by decide +kernel
theorem dX9_agrees_42 : decode cX9_agrees 42 = .ok (.iload 4, 2) := by decide +kernel
theorem dX9_agrees_44 : decode cX9_agrees 44 = .ok (.iconst 2, 1) := by decide +kernel
theorem dX9_agrees_45 : decode cX9_agrees 45 = .ok (.irem, 1) := by decide +kernel
theorem dX9_agrees_46 : decode cX9_agrees 46 = .ok (.if_icmp .eq 5, 3) := by decide +kernel
theorem dX9_agrees_49 : decode cX9_agrees 49 = .ok (.iconst 0, 1) := by decide +kernel
theorem dX9_agrees_50 : decode cX9_agrees 50 = .ok (.ireturn, 1) := by decide +kernel
theorem dX9_agrees_51 : decode cX9_agrees 51 = .ok (.iinc 3 1, 3) := by decide +kernel
theorem dX9_agrees_54 : decode cX9_agrees 54 = .ok (.goto (-52), 3) := by decide +kernel
theorem dX9_agrees_57 : decode cX9_agrees 57 = .ok (.iconst 1, 1) := by decide +kernel
theorem dX9_agrees_58 : decode cX9_agrees 58 = .ok (.ireturn, 1) := by decide +kernel
theorem dX10_init_0 : decode cX10_init 0 = .ok (.aload_n 0, 1) := by decide +kernel
theorem dX10_init_1 : decode cX10_init 1 = .ok (.invokespecial 3, 3) := by decide +kernel
theorem dX10_init_4 : decode cX10_init 4 = .ok (.aload_n 0, 1) := by decide +kernel
theorem dX10_init_5 : decode cX10_init 5 = .ok (.sipush 400, 3) := by decide +kernel
theorem dX10_init_8 : decode cX10_init 8 = .ok (.newarray .byte, 2) := by decide +kernel
theorem dX10_init_10 : decode cX10_init 10 = .ok (.putfield 9, 3) := by decide +kernel
theorem dX10_init_13 : decode cX10_init 13 = .ok (.return_, 1) := by decide +kernel
theorem dX10_add_0 : decode cX10_add 0 = .ok (.bipush 24, 2) := by decide +kernel
theorem dX10_add_2 : decode cX10_add 2 = .ok (.istore_n 2, 1) := by decide +kernel
theorem dX10_add_3 : decode cX10_add 3 = .ok (.iload_n 2, 1) := by decide +kernel
theorem dX10_add_4 : decode cX10_add 4 = .ok (.ifCond .lt 42, 3) := by decide +kernel
theorem dX10_add_7 : decode cX10_add 7 = .ok (.aload_n 0, 1) := by decide +kernel
theorem dX10_add_8 : decode cX10_add 8 = .ok (.getfield 15, 3) := by decide +kernel
theorem dX10_add_11 : decode cX10_add 11 = .ok (.sipush 400, 3) := by decide +kernel
theorem dX10_add_14 : decode cX10_add 14 = .ok (.if_icmp .ge 26, 3) := by decide +kernel
theorem dX10_add_17 : decode cX10_add 17 = .ok (.aload_n 0, 1) := by decide +kernel
theorem dX10_add_18 : decode cX10_add 18 = .ok (.getfield 9, 3) := by decide +kernel
theorem dX10_add_21 : decode cX10_add 21 = .ok (.aload_n 0, 1) := by decide +kernel
theorem dX10_add_22 : decode cX10_add 22 = .ok (.getfield 15, 3) := by decide +kernel
theorem dX10_add_25 : decode cX10_add 25 = .ok (.iload_n 1, 1) := by decide +kernel
theorem dX10_add_26 : decode cX10_add 26 = .ok (.iload_n 2, 1) := by decide +kernel
theorem dX10_add_27 : decode cX10_add 27 = .ok (.ishr, 1) := by decide +kernel
theorem dX10_add_28 : decode cX10_add 28 = .ok (.i2b, 1) := by decide +kernel
theorem dX10_add_29 : decode cX10_add 29 = .ok (.bastore, 1) := by decide +kernel
theorem dX10_add_30 : decode cX10_add 30 = .ok (.aload_n 0, 1) := by decide +kernel
theorem dX10_add_31 : decode cX10_add 31 = .ok (.dup, 1) := by decide +kernel
theorem dX10_add_32 : decode cX10_add 32 = .ok (.getfield 15, 3) := by decide +kernel
theorem dX10_add_35 : decode cX10_add 35 = .ok (.iconst 1, 1) := by decide +kernel
theorem dX10_add_36 : decode cX10_add 36 = .ok (.iadd, 1) := by decide +kernel
theorem dX10_add_37 : decode cX10_add 37 = .ok (.putfield 15, 3) := by decide +kernel
theorem dX10_add_40 : decode cX10_add 40 = .ok (.iinc 2 (-8), 3) := by decide +kernel
theorem dX10_add_43 : decode cX10_add 43 = .ok (.goto (-40), 3) := by decide +kernel
theorem dX10_add_46 : decode cX10_add 46 = .ok (.return_, 1) := by decide +kernel
theorem dX10_at_0 : decode cX10_at 0 = .ok (.iload_n 1, 1) := by decide +kernel
theorem dX10_at_1 : decode cX10_at 1 = .ok (.ifCond .lt 24, 3) := by decide +kernel
theorem dX10_at_4 : decode cX10_at 4 = .ok (.iload_n 1, 1) := by decide +kernel
theorem dX10_at_5 : decode cX10_at 5 = .ok (.aload_n 0, 1) := by decide +kernel
theorem dX10_at_6 : decode cX10_at 6 = .ok (.getfield 15, 3) := by decide +kernel
theorem dX10_at_9 : decode cX10_at 9 = .ok (.if_icmp .ge 16, 3) := by decide +kernel
theorem dX10_at_12 : decode cX10_at 12 = .ok (.aload_n 0, 1) := by decide +kernel
theorem dX10_at_13 : decode cX10_at 13 = .ok (.getfield 9, 3) := by decide +kernel
theorem dX10_at_16 : decode cX10_at 16 = .ok (.iload_n 1, 1) := by decide +kernel
theorem dX10_at_17 : decode cX10_at 17 = .ok (.baload, 1) := by decide +kernel
theorem dX10_at_18 : decode cX10_at 18 = .ok (.sipush 255, 3) := by decide +kernel
theorem dX10_at_21 : decode cX10_at 21 = .ok (.iand, 1) := by decide +kernel
theorem dX10_at_22 : decode cX10_at 22 = .ok (.goto 4, 3) := by decide +kernel
theorem dX10_at_25 : decode cX10_at 25 = .ok (.iconst (-1), 1) := by decide +kernel
theorem dX10_at_26 : decode cX10_at 26 = .ok (.ireturn, 1) := by decide +kernel
theorem dX11_init_0 : decode cX11_init 0 = .ok (.aload_n 0, 1) := by decide +kernel
theorem dX11_init_1 : decode cX11_init 1 = .ok (.invokespecial 1, 3) := by decide +kernel
theorem dX11_init_4 : decode cX11_init 4 = .ok (.aload_n 0, 1) := by decide +kernel
theorem dX11_init_5 : decode cX11_init 5 = .ok (.new 7, 3) := by decide +kernel
theorem dX11_init_8 : decode cX11_init 8 = .ok (.dup, 1) := by decide +kernel
theorem dX11_init_9 : decode cX11_init 9 = .ok (.invokespecial 9, 3) := by decide +kernel
theorem dX11_init_12 : decode cX11_init 12 = .ok (.putfield 10, 3) := by decide +kernel
theorem dX11_init_15 : decode cX11_init 15 = .ok (.aload_n 0, 1) := by decide +kernel
theorem dX11_init_16 : decode cX11_init 16 = .ok (.new 16, 3) := by decide +kernel
theorem dX11_init_19 : decode cX11_init 19 = .ok (.dup, 1) := by decide +kernel
theorem dX11_init_20 : decode cX11_init 20 = .ok (.aload_n 0, 1) := by decide +kernel
theorem dX11_init_21 : decode cX11_init 21 = .ok (.getfield 10, 3) := by decide +kernel
theorem dX11_init_24 : decode cX11_init 24 = .ok (.invokespecial 18, 3) := by decide +kernel
theorem dX11_init_27 : decode cX11_init 27 = .ok (.putfield 21, 3) := by decide +kernel
theorem dX11_init_30 : decode cX11_init 30 = .ok (.aload_n 0, 1) := by decide +kernel
theorem dX11_init_31 : decode cX11_init 31 = .ok (.new 25, 3) := by decide +kernel
theorem dX11_init_34 : decode cX11_init 34 = .ok (.dup, 1) := by decide +kernel
theorem dX11_init_35 : decode cX11_init 35 = .ok (.aload_n 0, 1) := by decide +kernel
theorem dX11_init_36 : decode cX11_init 36 = .ok (.getfield 10, 3) := by decide +kernel
theorem dX11_init_39 : decode cX11_init 39 = .ok (.invokespecial 27, 3) := by decide +kernel
theorem dX11_init_42 : decode cX11_init 42 = .ok (.putfield 28, 3) := by decide +kernel
theorem dX11_init_45 : decode cX11_init 45 = .ok (.aload_n 0, 1) := by decide +kernel
theorem dX11_init_46 : decode cX11_init 46 = .ok (.bipush 6, 2) := by decide +kernel
theorem dX11_init_48 : decode cX11_init 48 = .ok (.anewarray 32, 3) := by decide +kernel
theorem dX11_init_51 : decode cX11_init 51 = .ok (.putfield 34, 3) := by decide +kernel
theorem dX11_init_54 : decode cX11_init 54 = .ok (.aload_n 0, 1) := by decide +kernel
theorem dX11_init_55 : decode cX11_init 55 = .ok (.new 38, 3) := by decide +kernel
theorem dX11_init_58 : decode cX11_init 58 = .ok (.dup, 1) := by decide +kernel
theorem dX11_init_59 : decode cX11_init 59 = .ok (.new 40, 3) := by decide +kernel
theorem dX11_init_62 : decode cX11_init 62 = .ok (.dup, 1) := by decide +kernel
theorem dX11_init_63 : decode cX11_init 63 = .ok (.invokespecial 42, 3) := by decide +kernel
theorem dX11_init_66 : decode cX11_init 66 = .ok (.invokespecial 43, 3) := by decide +kernel
theorem dX11_init_69 : decode cX11_init 69 = .ok (.putfield 46, 3) := by decide +kernel
theorem dX11_init_72 : decode cX11_init 72 = .ok (.aload_n 0, 1) := by decide +kernel
theorem dX11_init_73 : decode cX11_init 73 = .ok (.iconst 4, 1) := by decide +kernel
theorem dX11_init_74 : decode cX11_init 74 = .ok (.anewarray 38, 3) := by decide +kernel
theorem dX11_init_77 : decode cX11_init 77 = .ok (.putfield 50, 3) := by decide +kernel
theorem dX11_init_80 : decode cX11_init 80 = .ok (.iconst 0, 1) := by decide +kernel
theorem dX11_init_81 : decode cX11_init 81 = .ok (.istore_n 1, 1) := by decide +kernel
theorem dX11_init_82 : decode cX11_init 82 = .ok (.iload_n 1, 1) := by decide +kernel
theorem dX11_init_83 : decode cX11_init 83 = .ok (.iconst 4, 1) := by decide +kernel
theorem dX11_init_84 : decode cX11_init 84 = .ok (.if_icmp .ge 29, 3) := by decide +kernel
theorem dX11_init_87 : decode cX11_init 87 = .ok (.aload_n 0, 1) := by decide +kernel
theorem dX11_init_88 : decode cX11_init 88 = .ok (.getfield 50, 3) := by decide +kernel
theorem dX11_init_91 : decode cX11_init 91 = .ok (.iload_n 1, 1) := by decide +kernel
theorem dX11_init_92 : decode cX11_init 92 = .ok (.new 38, 3) := by decide +kernel
theorem dX11_init_95 : decode cX11_init 95 = .ok (.dup, 1) := by decide +kernel
theorem dX11_init_96 : decode cX11_init 96 = .ok (.aload_n 0, 1) := by decide +kernel
theorem dX11_init_97 : decode cX11_init 97 = .ok (.getfield 46, 3) := by decide +kernel
theorem dX11_init_100 : decode cX11_init 100 = .ok (.getfield 54, 3) := by decide +kernel
theorem dX11_init_103 : decode cX11_init 103 = .ok (.invokespecial 43, 3) := by decide +kernel
theorem dX11_init_106 : decode cX11_init 106 = .ok (.aastore, 1) := by decide +kernel
theorem dX11_init_107 : decode cX11_init 107 = .ok (.iinc 1 1, 3) := by decide +kernel
theorem dX11_init_110 : decode cX11_init 110 = .ok (.goto (-28), 3) := by decide +kernel
theorem dX11_init_113 : decode cX11_init 113 = .ok (.aload_n 0, 1) := by decide +kernel
theorem dX11_init_114 : decode cX11_init 114 = .ok (.bipush 20, 2) := by decide +kernel
theorem dX11_init_116 : decode cX11_init 116 = .ok (.anewarray 58, 3) := by decide +kernel
theorem dX11_init_119 : decode cX11_init 119 = .ok (.putfield 60, 3) := by decide +kernel
theorem dX11_init_122 : decode cX11_init 122 = .ok (.iconst 0, 1) := by decide +kernel
theorem dX11_init_123 : decode cX11_init 123 = .ok (.istore_n 1, 1) := by decide +kernel
theorem dX11_init_124 : decode cX11_init 124 = .ok (.iload_n 1, 1) := by decide +kernel
theorem dX11_init_125 : decode cX11_init 125 = .ok (.bipush 20, 2) := by decide +kernel
theorem dX11_init_127 : decode cX11_init 127 = .ok (.if_icmp .ge 22, 3) := by decide +kernel
theorem dX11_init_130 : decode cX11_init 130 = .ok (.aload_n 0, 1) := by decide +kernel
theorem dX11_init_131 : decode cX11_init 131 = .ok (.getfield 60, 3) := by decide +kernel
theorem dX11_init_134 : decode cX11_init 134 = .ok (.iload_n 1, 1) := by decide +kernel
theorem dX11_init_135 : decode cX11_init 135 = .ok (.new 58, 3) := by decide +kernel
theorem dX11_init_138 : decode cX11_init 138 = .ok (.dup, 1) := by decide +kernel
theorem dX11_init_139 : decode cX11_init 139 = .ok (.invokespecial 64, 3) := by decide +kernel
theorem dX11_init_142 : decode cX11_init 142 = .ok (.aastore, 1) := by decide +kernel
theorem dX11_init_143 : decode cX11_init 143 = .ok (.iinc 1 1, 3) := by decide +kernel
theorem dX11_init_146 : decode cX11_init 146 = .ok (.goto (-22), 3) := by decide +kernel
theorem dX11_init_149 : decode cX11_init 149 = .ok (.aload_n 0, 1) := by decide +kernel
theorem dX11_init_150 : decode cX11_init 150 = .ok (.new 65, 3) := by decide +kernel
theorem dX11_init_153 : decode cX11_init 153 = .ok (.dup, 1) := by decide +kernel
theorem dX11_init_154 : decode cX11_init 154 = .ok (.invokespecial 67, 3) := by decide +kernel
theorem dX11_init_157 : decode cX11_init 157 = .ok (.putfield 68, 3) := by decide +kernel
theorem dX11_init_160 : decode cX11_init 160 = .ok (.aload_n 0, 1) := by decide +kernel
theorem dX11_init_161 : decode cX11_init 161 = .ok (.new 72, 3) := by decide +kernel
theorem dX11_init_164 : decode cX11_init 164 = .ok (.dup, 1) := by decide +kernel
theorem dX11_init_165 : decode cX11_init 165 = .ok (.invokespecial 74, 3) := by decide +kernel
theorem dX11_init_168 : decode cX11_init 168 = .ok (.putfield 75, 3) := by decide +kernel
theorem dX11_init_171 : decode cX11_init 171 = .ok (.aload_n 0, 1) := by decide +kernel
theorem dX11_init_172 : decode cX11_init 172 = .ok (.new 40, 3) := by decide +kernel
theorem dX11_init_175 : decode cX11_init 175 = .ok (.dup, 1) := by decide +kernel
theorem dX11_init_176 : decode cX11_init 176 = .ok (.invokespecial 42, 3) := by decide +kernel
theorem dX11_init_179 : decode cX11_init 179 = .ok (.putfield 79, 3) := by decide +kernel
theorem dX11_init_182 : decode cX11_init 182 = .ok (.return_, 1) := by decide +kernel
theorem dX11_feed_0 : decode cX11_feed 0 = .ok (.aload_n 0, 1) := by decide +kernel
theorem dX11_feed_1 : decode cX11_feed 1 = .ok (.getfield 10, 3) := by decide +kernel
theorem dX11_feed_4 : decode cX11_feed 4 = .ok (.getfield 82, 3) := by decide +kernel
theorem dX11_feed_7 : decode cX11_feed 7 = .ok (.bipush 20, 2) := by decide +kernel
theorem dX11_feed_9 : decode cX11_feed 9 = .ok (.iadd, 1) := by decide +kernel
theorem dX11_feed_10 : decode cX11_feed 10 = .ok (.sipush 400, 3) := by decide +kernel
theorem dX11_feed_13 : decode cX11_feed 13 = .ok (.if_icmp .le 5, 3) := by decide +kernel
theorem dX11_feed_16 : decode cX11_feed 16 = .ok (.iconst (-1), 1) := by decide +kernel
theorem dX11_feed_17 : decode cX11_feed 17 = .ok (.ireturn, 1) := by decide +kernel
theorem dX11_feed_18 : decode cX11_feed 18 = .ok (.aload_n 0, 1) := by decide +kernel
theorem dX11_feed_19 : decode cX11_feed 19 = .ok (.getfield 10, 3) := by decide +kernel
theorem dX11_feed_22 : decode cX11_feed 22 = .ok (.iload_n 1, 1) := by decide +kernel
theorem dX11_feed_23 : decode cX11_feed 23 = .ok (.invokevirtual 86, 3) := by decide +kernel
theorem dX11_feed_26 : decode cX11_feed 26 = .ok (.aload_n 0, 1) := by decide +kernel
theorem dX11_feed_27 : decode cX11_feed 27 = .ok (.getfield 10, 3) := by decide +kernel
theorem dX11_feed_30 : decode cX11_feed 30 = .ok (.iload_n 2, 1) := by decide +kernel
theorem dX11_feed_31 : decode cX11_feed 31 = .ok (.invokevirtual 86, 3) := by decide +kernel
theorem dX11_feed_34 : decode cX11_feed 34 = .ok (.aload_n 0, 1) := by decide +kernel
theorem dX11_feed_35 : decode cX11_feed 35 = .ok (.getfield 10, 3) := by decide +kernel
theorem dX11_feed_38 : decode cX11_feed 38 = .ok (.iload_n 3, 1) := by decide +kernel
theorem dX11_feed_39 : decode cX11_feed 39 = .ok (.invokevirtual 86, 3) := by decide +kernel
theorem dX11_feed_42 : decode cX11_feed 42 = .ok (.aload_n 0, 1) := by decide +kernel
theorem dX11_feed_43 : decode cX11_feed 43 = .ok (.getfield 10, 3) := by decide +kernel
theorem dX11_feed_46 : decode cX11_feed 46 = .ok (.iload 4, 2) := by decide +kernel
theorem dX11_feed_48 : decode cX11_feed 48 = .ok (.invokevirtual 86, 3) := by decide +kernel
theorem dX11_feed_51 : decode cX11_feed 51 = .ok (.aload_n 0, 1) := by decide +kernel
theorem dX11_feed_52 : decode cX11_feed 52 = .ok (.getfield 10, 3) := by decide +kernel
theorem dX11_feed_55 : decode cX11_feed 55 = .ok (.iload 5, 2) := by decide +kernel
theorem dX11_feed_57 : decode cX11_feed 57 = .ok (.invokevirtual 86, 3) := by decide +kernel
theorem dX11_feed_60 : decode cX11_feed 60 = .ok (.aload_n 0, 1) := by decide +kernel
theorem dX11_feed_61 : decode cX11_feed 61 = .ok (.getfield 10, 3) := by decide +kernel
theorem dX11_feed_64 : decode cX11_feed 64 = .ok (.getfield 82, 3) := by decide +kernel
theorem dX11_feed_67 : decode cX11_feed 67 = .ok (.ireturn, 1) := by decide +kernel
theorem dX11_end_0 : decode cX11_end 0 = .ok (.iload_n 1, 1) := by decide +kernel
theorem dX11_end_1 : decode cX11_end 1 = .ok (.ifCond .lt 14, 3) := by decide +kernel
theorem dX11_end_4 : decode cX11_end 4 = .ok (.iload_n 1, 1) := by decide +kernel
theorem dX11_end_5 : decode cX11_end 5 = .ok (.aload_n 0, 1) := by decide +kernel
theorem dX11_end_6 : decode cX11_end 6 = .ok (.getfield 10, 3) := by decide +kernel
theorem dX11_end_9 : decode cX11_end 9 = .ok (.getfield 82, 3) := by decide +kernel
theorem dX11_end_12 : decode cX11_end 12 = .ok (.if_icmp .le 5, 3) := by decide +kernel
theorem dX11_end_15 : decode cX11_end 15 = .ok (.iconst (-1), 1) := by decide +kernel
theorem dX11_end_16 : decode cX11_end 16 = .ok (.ireturn, 1) := by decide +kernel
theorem dX11_end_17 : decode cX11_end 17 = .ok (.aload_n 0, 1) := by decide +kernel
theorem dX11_end_18 : decode cX11_end 18 = .ok (.getfield 10, 3) := by decide +kernel
theorem dX11_end_21 : decode cX11_end 21 = .ok (.iload_n 1, 1) := by decide +kernel
theorem dX11_end_22 : decode cX11_end 22 = .ok (.putfield 82, 3) := by decide +kernel
theorem dX11_end_25 : decode cX11_end 25 = .ok (.iload_n 1, 1) := by decide +kernel
theorem dX11_end_26 : decode cX11_end 26 = .ok (.ireturn, 1) := by decide +kernel
theorem dX11_ferry_0 : decode cX11_ferry 0 = .ok (.aload_n 0, 1) := by decide +kernel
theorem dX11_ferry_1 : decode cX11_ferry 1 = .ok (.getfield 21, 3) := by decide +kernel
theorem dX11_ferry_4 : decode cX11_ferry 4 = .ok (.aload_n 0, 1) := by decide +kernel
theorem dX11_ferry_5 : decode cX11_ferry 5 = .ok (.getfield 79, 3) := by decide +kernel
theorem dX11_ferry_8 : decode cX11_ferry 8 = .ok (.invokevirtual 90, 3) := by decide +kernel
theorem dX11_ferry_11 : decode cX11_ferry 11 = .ok (.istore_n 1, 1) := by decide +kernel
theorem dX11_ferry_12 : decode cX11_ferry 12 = .ok (.aload_n 0, 1) := by decide +kernel
theorem dX11_ferry_13 : decode cX11_ferry 13 = .ok (.getfield 10, 3) := by decide +kernel
theorem dX11_ferry_16 : decode cX11_ferry 16 = .ok (.iconst 0, 1) := by decide +kernel
theorem dX11_ferry_17 : decode cX11_ferry 17 = .ok (.putfield 82, 3) := by decide +kernel
theorem dX11_ferry_20 : decode cX11_ferry 20 = .ok (.iload_n 1, 1) := by decide +kernel
theorem dX11_ferry_21 : decode cX11_ferry 21 = .ok (.ifCond .eq 8, 3) := by decide +kernel
theorem dX11_ferry_24 : decode cX11_ferry 24 = .ok (.bipush (-2), 2) := by decide +kernel
theorem dX11_ferry_26 : decode cX11_ferry 26 = .ok (.iload_n 1, 1) := by decide +kernel
theorem dX11_ferry_27 : decode cX11_ferry 27 = .ok (.isub, 1) := by decide +kernel
theorem dX11_ferry_28 : decode cX11_ferry 28 = .ok (.ireturn, 1) := by decide +kernel
theorem dX11_ferry_29 : decode cX11_ferry 29 = .ok (.aload_n 0, 1) := by decide +kernel
theorem dX11_ferry_30 : decode cX11_ferry 30 = .ok (.getfield 46, 3) := by decide +kernel
theorem dX11_ferry_33 : decode cX11_ferry 33 = .ok (.aload_n 0, 1) := by decide +kernel
theorem dX11_ferry_34 : decode cX11_ferry 34 = .ok (.getfield 79, 3) := by decide +kernel
theorem dX11_ferry_37 : decode cX11_ferry 37 = .ok (.invokevirtual 94, 3) := by decide +kernel
theorem dX11_ferry_40 : decode cX11_ferry 40 = .ok (.aload_n 0, 1) := by decide +kernel
theorem dX11_ferry_41 : decode cX11_ferry 41 = .ok (.new 40, 3) := by decide +kernel
theorem dX11_ferry_44 : decode cX11_ferry 44 = .ok (.dup, 1) := by decide +kernel
theorem dX11_ferry_45 : decode cX11_ferry 45 = .ok (.invokespecial 42, 3) := by decide +kernel
theorem dX11_ferry_48 : decode cX11_ferry 48 = .ok (.putfield 79, 3) := by decide +kernel
theorem dX11_ferry_51 : decode cX11_ferry 51 = .ok (.aload_n 0, 1) := by decide +kernel
theorem dX11_ferry_52 : decode cX11_ferry 52 = .ok (.invokevirtual 97, 3) := by decide +kernel
theorem dX11_ferry_55 : decode cX11_ferry 55 = .ok (.aload_n 0, 1) := by decide +kernel
theorem dX11_ferry_56 : decode cX11_ferry 56 = .ok (.getfield 46, 3) := by decide +kernel
theorem dX11_ferry_59 : decode cX11_ferry 59 = .ok (.getfield 54, 3) := by decide +kernel
theorem dX11_ferry_62 : decode cX11_ferry 62 = .ok (.getfield 100, 3) := by decide +kernel
theorem dX11_ferry_65 : decode cX11_ferry 65 = .ok (.ireturn, 1) := by decide +kernel
theorem dX11_rule_0 : decode cX11_rule 0 = .ok (.aload_n 0, 1) := by decide +kernel
theorem dX11_rule_1 : decode cX11_rule 1 = .ok (.getfield 103, 3) := by decide +kernel
theorem dX11_rule_4 : decode cX11_rule 4 = .ok (.bipush 6, 2) := by decide +kernel
theorem dX11_rule_6 : decode cX11_rule 6 = .ok (.if_icmp .lt 5, 3) := by decide +kernel
theorem dX11_rule_9 : decode cX11_rule 9 = .ok (.iconst (-1), 1) := by decide +kernel
theorem dX11_rule_10 : decode cX11_rule 10 = .ok (.ireturn, 1) := by decide +kernel
theorem dX11_rule_11 : decode cX11_rule 11 = .ok (.aload_n 0, 1) := by decide +kernel
theorem dX11_rule_12 : decode cX11_rule 12 = .ok (.getfield 28, 3) := by decide +kernel
theorem dX11_rule_15 : decode cX11_rule 15 = .ok (.invokevirtual 106, 3) := by decide +kernel
theorem dX11_rule_18 : decode cX11_rule 18 = .ok (.istore_n 1, 1) := by decide +kernel
theorem dX11_rule_19 : decode cX11_rule 19 = .ok (.aload_n 0, 1) := by decide +kernel
theorem dX11_rule_20 : decode cX11_rule 20 = .ok (.getfield 10, 3) := by decide +kernel
theorem dX11_rule_23 : decode cX11_rule 23 = .ok (.iconst 0, 1) := by decide +kernel
theorem dX11_rule_24 : decode cX11_rule 24 = .ok (.putfield 82, 3) := by decide +kernel
theorem dX11_rule_27 : decode cX11_rule 27 = .ok (.iload_n 1, 1) := by decide +kernel
theorem dX11_rule_28 : decode cX11_rule 28 = .ok (.ifCond .eq 8, 3) := by decide +kernel
theorem dX11_rule_31 : decode cX11_rule 31 = .ok (.bipush (-2), 2) := by decide +kernel
theorem dX11_rule_33 : decode cX11_rule 33 = .ok (.iload_n 1, 1) := by decide +kernel
theorem dX11_rule_34 : decode cX11_rule 34 = .ok (.isub, 1) := by decide +kernel
theorem dX11_rule_35 : decode cX11_rule 35 = .ok (.ireturn, 1) := by decide +kernel
theorem dX11_rule_36 : decode cX11_rule 36 = .ok (.aload_n 0, 1) := by decide +kernel
theorem dX11_rule_37 : decode cX11_rule 37 = .ok (.getfield 34, 3) := by decide +kernel
theorem dX11_rule_40 : decode cX11_rule 40 = .ok (.aload_n 0, 1) := by decide +kernel
theorem dX11_rule_41 : decode cX11_rule 41 = .ok (.getfield 103, 3) := by decide +kernel
theorem dX11_rule_44 : decode cX11_rule 44 = .ok (.aload_n 0, 1) := by decide +kernel
theorem dX11_rule_45 : decode cX11_rule 45 = .ok (.getfield 28, 3) := by decide +kernel
theorem dX11_rule_48 : decode cX11_rule 48 = .ok (.invokevirtual 109, 3) := by decide +kernel
theorem dX11_rule_51 : decode cX11_rule 51 = .ok (.aastore, 1) := by decide +kernel
theorem dX11_rule_52 : decode cX11_rule 52 = .ok (.aload_n 0, 1) := by decide +kernel
theorem dX11_rule_53 : decode cX11_rule 53 = .ok (.dup, 1) := by decide +kernel
theorem dX11_rule_54 : decode cX11_rule 54 = .ok (.getfield 103, 3) := by decide +kernel
theorem dX11_rule_57 : decode cX11_rule 57 = .ok (.iconst 1, 1) := by decide +kernel
theorem dX11_rule_58 : decode cX11_rule 58 = .ok (.iadd, 1) := by decide +kernel
theorem dX11_rule_59 : decode cX11_rule 59 = .ok (.putfield 103, 3) := by decide +kernel
theorem dX11_rule_62 : decode cX11_rule 62 = .ok (.aload_n 0, 1) := by decide +kernel
theorem dX11_rule_63 : decode cX11_rule 63 = .ok (.getfield 103, 3) := by decide +kernel
theorem dX11_rule_66 : decode cX11_rule 66 = .ok (.iconst 1, 1) := by decide +kernel
theorem dX11_rule_67 : decode cX11_rule 67 = .ok (.isub, 1) := by decide +kernel
theorem dX11_rule_68 : decode cX11_rule 68 = .ok (.ireturn, 1) := by decide +kernel
theorem dX11_force_0 : decode cX11_force 0 = .ok (.iload_n 1, 1) := by decide +kernel
theorem dX11_force_1 : decode cX11_force 1 = .ok (.iconst (-1), 1) := by decide +kernel
theorem dX11_force_2 : decode cX11_force 2 = .ok (.if_icmp .lt 11, 3) := by decide +kernel
theorem dX11_force_5 : decode cX11_force 5 = .ok (.iload_n 1, 1) := by decide +kernel
theorem dX11_force_6 : decode cX11_force 6 = .ok (.aload_n 0, 1) := by decide +kernel
theorem dX11_force_7 : decode cX11_force 7 = .ok (.getfield 103, 3) := by decide +kernel
theorem dX11_force_10 : decode cX11_force 10 = .ok (.if_icmp .lt 6, 3) := by decide +kernel
theorem dX11_force_13 : decode cX11_force 13 = .ok (.bipush (-2), 2) := by decide +kernel
theorem dX11_force_15 : decode cX11_force 15 = .ok (.ireturn, 1) := by decide +kernel
theorem dX11_force_16 : decode cX11_force 16 = .ok (.aload_n 0, 1) := by decide +kernel
theorem dX11_force_17 : decode cX11_force 17 = .ok (.getfield 46, 3) := by decide +kernel
theorem dX11_force_20 : decode cX11_force 20 = .ok (.getfield 113, 3) := by decide +kernel
theorem dX11_force_23 : decode cX11_force 23 = .ok (.istore_n 2, 1) := by decide +kernel
theorem dX11_force_24 : decode cX11_force 24 = .ok (.aload_n 0, 1) := by decide +kernel
theorem dX11_force_25 : decode cX11_force 25 = .ok (.getfield 46, 3) := by decide +kernel
theorem dX11_force_28 : decode cX11_force 28 = .ok (.iload_n 1, 1) := by decide +kernel
theorem dX11_force_29 : decode cX11_force 29 = .ok (.putfield 113, 3) := by decide +kernel
theorem dX11_force_32 : decode cX11_force 32 = .ok (.iload_n 2, 1) := by decide +kernel
theorem dX11_force_33 : decode cX11_force 33 = .ok (.ireturn, 1) := by decide +kernel
theorem dX11_person_0 : decode cX11_person 0 = .ok (.aload_n 0, 1) := by decide +kernel
theorem dX11_person_1 : decode cX11_person 1 = .ok (.getfield 46, 3) := by decide +kernel
theorem dX11_person_4 : decode cX11_person 4 = .ok (.getfield 54, 3) := by decide +kernel
theorem dX11_person_7 : decode cX11_person 7 = .ok (.iload_n 1, 1) := by decide +kernel
theorem dX11_person_8 : decode cX11_person 8 = .ok (.invokevirtual 116, 3) := by decide +kernel
theorem dX11_person_11 : decode cX11_person 11 = .ok (.ifCond .ne 5, 3) := by decide +kernel
theorem dX11_person_14 : decode cX11_person 14 = .ok (.iconst (-1), 1) := by decide +kernel
theorem dX11_person_15 : decode cX11_person 15 = .ok (.ireturn, 1) := by decide +kernel
theorem dX11_person_16 : decode cX11_person 16 = .ok (.iload_n 2, 1) := by decide +kernel
theorem dX11_person_17 : decode cX11_person 17 = .ok (.tableswitch 82 0 3 #[31, 44, 57, 70], 31) := by decide +kernel
theorem dX11_person_48 : decode cX11_person 48 = .ok (.aload_n 0, 1) := by decide +kernel
theorem dX11_person_49 : decode cX11_person 49 = .ok (.getfield 46, 3) := by decide +kernel
theorem dX11_person_52 : decode cX11_person 52 = .ok (.getfield 120, 3) := by decide +kernel
theorem dX11_person_55 : decode cX11_person 55 = .ok (.getfield 124, 3) := by decide +kernel
theorem dX11_person_58 : decode cX11_person 58 = .ok (.iload_n 1, 1) := by decide +kernel
theorem dX11_person_59 : decode cX11_person 59 = .ok (.iaload, 1) := by decide +kernel
theorem dX11_person_60 : decode cX11_person 60 = .ok (.ireturn, 1) := by decide +kernel
theorem dX11_person_61 : decode cX11_person 61 = .ok (.aload_n 0, 1) := by decide +kernel
theorem dX11_person_62 : decode cX11_person 62 = .ok (.getfield 46, 3) := by decide +kernel
theorem dX11_person_65 : decode cX11_person 65 = .ok (.getfield 54, 3) := by decide +kernel
theorem dX11_person_68 : decode cX11_person 68 = .ok (.getfield 128, 3) := by decide +kernel
theorem dX11_person_71 : decode cX11_person 71 = .ok (.iload_n 1, 1) := by decide +kernel
theorem dX11_person_72 : decode cX11_person 72 = .ok (.iaload, 1) := by decide +kernel
theorem dX11_person_73 : decode cX11_person 73 = .ok (.ireturn, 1) := by decide +kernel
theorem dX11_person_74 : decode cX11_person 74 = .ok (.aload_n 0, 1) := by decide +kernel
theorem dX11_person_75 : decode cX11_person 75 = .ok (.getfield 46, 3) := by decide +kernel
theorem dX11_person_78 : decode cX11_person 78 = .ok (.getfield 54, 3) := by decide +kernel
theorem dX11_person_81 : decode cX11_person 81 = .ok (.getfield 131, 3) := by decide +kernel
theorem dX11_person_84 : decode cX11_person 84 = .ok (.iload_n 1, 1) := by decide +kernel
theorem dX11_person_85 : decode cX11_person 85 = .ok (.iaload, 1) := by decide +kernel
theorem dX11_person_86 : decode cX11_person 86 = .ok (.ireturn, 1) := by decide +kernel
theorem dX11_person_87 : decode cX11_person 87 = .ok (.aload_n 0, 1) := by decide +kernel
theorem dX11_person_88 : decode cX11_person 88 = .ok (.getfield 46, 3) := by decide +kernel
theorem dX11_person_91 : decode cX11_person 91 = .ok (.getfield 120, 3) := by decide +kernel
theorem dX11_person_94 : decode cX11_person 94 = .ok (.iload_n 1, 1) := by decide +kernel
theorem dX11_person_95 : decode cX11_person 95 = .ok (.invokevirtual 134, 3) := by decide +kernel
theorem dX11_person_98 : decode cX11_person 98 = .ok (.ireturn, 1) := by decide +kernel
theorem dX11_person_99 : decode cX11_person 99 = .ok (.iconst (-1), 1) := by decide +kernel
theorem dX11_person_100 : decode cX11_person 100 = .ok (.ireturn, 1) := by decide +kernel
theorem dX11_beside_0 : decode cX11_beside 0 = .ok (.aload_n 0, 1) := by decide +kernel
theorem dX11_beside_1 : decode cX11_beside 1 = .ok (.getfield 46, 3) := by decide +kernel
theorem dX11_beside_4 : decode cX11_beside 4 = .ok (.getfield 54, 3) := by decide +kernel
theorem dX11_beside_7 : decode cX11_beside 7 = .ok (.iload_n 1, 1) := by decide +kernel
theorem dX11_beside_8 : decode cX11_beside 8 = .ok (.invokevirtual 116, 3) := by decide +kernel
theorem dX11_beside_11 : decode cX11_beside 11 = .ok (.ifCond .eq 17, 3) := by decide +kernel
theorem dX11_beside_14 : decode cX11_beside 14 = .ok (.aload_n 0, 1) := by decide +kernel
theorem dX11_beside_15 : decode cX11_beside 15 = .ok (.getfield 46, 3) := by decide +kernel
theorem dX11_beside_18 : decode cX11_beside 18 = .ok (.getfield 54, 3) := by decide +kernel
theorem dX11_beside_21 : decode cX11_beside 21 = .ok (.iload_n 2, 1) := by decide +kernel
theorem dX11_beside_22 : decode cX11_beside 22 = .ok (.invokevirtual 116, 3) := by decide +kernel
theorem dX11_beside_25 : decode cX11_beside 25 = .ok (.ifCond .ne 5, 3) := by decide +kernel
theorem dX11_beside_28 : decode cX11_beside 28 = .ok (.iconst (-1), 1) := by decide +kernel
theorem dX11_beside_29 : decode cX11_beside 29 = .ok (.ireturn, 1) := by decide +kernel
theorem dX11_beside_30 : decode cX11_beside 30 = .ok (.aload_n 0, 1) := by decide +kernel
theorem dX11_beside_31 : decode cX11_beside 31 = .ok (.getfield 46, 3) := by decide +kernel
theorem dX11_beside_34 : decode cX11_beside 34 = .ok (.getfield 54, 3) := by decide +kernel
theorem dX11_beside_37 : decode cX11_beside 37 = .ok (.iload_n 1, 1) := by decide +kernel
theorem dX11_beside_38 : decode cX11_beside 38 = .ok (.iload_n 2, 1) := by decide +kernel
theorem dX11_beside_39 : decode cX11_beside 39 = .ok (.invokevirtual 138, 3) := by decide +kernel
theorem dX11_beside_42 : decode cX11_beside 42 = .ok (.ireturn, 1) := by decide +kernel
theorem dX11_trip_0 : decode cX11_trip 0 = .ok (.aload_n 0, 1) := by decide +kernel
theorem dX11_trip_1 : decode cX11_trip 1 = .ok (.getfield 46, 3) := by decide +kernel
theorem dX11_trip_4 : decode cX11_trip 4 = .ok (.getfield 54, 3) := by decide +kernel
theorem dX11_trip_7 : decode cX11_trip 7 = .ok (.getfield 142, 3) := by decide +kernel
theorem dX11_trip_10 : decode cX11_trip 10 = .ok (.ifCond .eq 19, 3) := by decide +kernel
theorem dX11_trip_13 : decode cX11_trip 13 = .ok (.aload_n 0, 1) := by decide +kernel
theorem dX11_trip_14 : decode cX11_trip 14 = .ok (.getfield 46, 3) := by decide +kernel
theorem dX11_trip_17 : decode cX11_trip 17 = .ok (.getfield 120, 3) := by decide +kernel
theorem dX11_trip_20 : decode cX11_trip 20 = .ok (.getfield 146, 3) := by decide +kernel
theorem dX11_trip_23 : decode cX11_trip 23 = .ok (.sipush 999, 3) := by decide +kernel
theorem dX11_trip_26 : decode cX11_trip 26 = .ok (.if_icmp .lt 5, 3) := by decide +kernel
theorem dX11_trip_29 : decode cX11_trip 29 = .ok (.iconst (-1), 1) := by decide +kernel
theorem dX11_trip_30 : decode cX11_trip 30 = .ok (.ireturn, 1) := by decide +kernel
theorem dX11_trip_31 : decode cX11_trip 31 = .ok (.aload_n 0, 1) := by decide +kernel
theorem dX11_trip_32 : decode cX11_trip 32 = .ok (.invokevirtual 149, 3) := by decide +kernel
theorem dX11_trip_35 : decode cX11_trip 35 = .ok (.aload_n 0, 1) := by decide +kernel
theorem dX11_trip_36 : decode cX11_trip 36 = .ok (.getfield 75, 3) := by decide +kernel
theorem dX11_trip_39 : decode cX11_trip 39 = .ok (.getfield 152, 3) := by decide +kernel
theorem dX11_trip_42 : decode cX11_trip 42 = .ok (.aload_n 0, 1) := by decide +kernel
theorem dX11_trip_43 : decode cX11_trip 43 = .ok (.getfield 46, 3) := by decide +kernel
theorem dX11_trip_46 : decode cX11_trip 46 = .ok (.getfield 54, 3) := by decide +kernel
theorem dX11_trip_49 : decode cX11_trip 49 = .ok (.aload_n 0, 1) := by decide +kernel
theorem dX11_trip_50 : decode cX11_trip 50 = .ok (.getfield 46, 3) := by decide +kernel
theorem dX11_trip_53 : decode cX11_trip 53 = .ok (.getfield 120, 3) := by decide +kernel
theorem dX11_trip_56 : decode cX11_trip 56 = .ok (.aload_n 0, 1) := by decide +kernel
theorem dX11_trip_57 : decode cX11_trip 57 = .ok (.invokevirtual 156, 3) := by decide +kernel
theorem dX11_trip_60 : decode cX11_trip 60 = .ok (.iconst 0, 1) := by decide +kernel
theorem dX11_trip_61 : decode cX11_trip 61 = .ok (.invokevirtual 159, 3) := by decide +kernel
theorem dX11_trip_64 : decode cX11_trip 64 = .ok (.ireturn, 1) := by decide +kernel
theorem dX11_cross_0 : decode cX11_cross 0 = .ok (.aload_n 0, 1) := by decide +kernel
theorem dX11_cross_1 : decode cX11_cross 1 = .ok (.getfield 46, 3) := by decide +kernel
theorem dX11_cross_4 : decode cX11_cross 4 = .ok (.invokevirtual 165, 3) := by decide +kernel
theorem dX11_cross_7 : decode cX11_cross 7 = .ok (.istore_n 2, 1) := by decide +kernel
theorem dX11_cross_8 : decode cX11_cross 8 = .ok (.aload_n 0, 1) := by decide +kernel
theorem dX11_cross_9 : decode cX11_cross 9 = .ok (.getfield 46, 3) := by decide +kernel
theorem dX11_cross_12 : decode cX11_cross 12 = .ok (.getfield 54, 3) := by decide +kernel
theorem dX11_cross_15 : decode cX11_cross 15 = .ok (.getfield 142, 3) := by decide +kernel
theorem dX11_cross_18 : decode cX11_cross 18 = .ok (.ifCond .eq 41, 3) := by decide +kernel
theorem dX11_cross_21 : decode cX11_cross 21 = .ok (.aload_n 0, 1) := by decide +kernel
theorem dX11_cross_22 : decode cX11_cross 22 = .ok (.getfield 46, 3) := by decide +kernel
theorem dX11_cross_25 : decode cX11_cross 25 = .ok (.getfield 120, 3) := by decide +kernel
theorem dX11_cross_28 : decode cX11_cross 28 = .ok (.getfield 146, 3) := by decide +kernel
theorem dX11_cross_31 : decode cX11_cross 31 = .ok (.sipush 999, 3) := by decide +kernel
theorem dX11_cross_34 : decode cX11_cross 34 = .ok (.if_icmp .ge 25, 3) := by decide +kernel
theorem dX11_cross_37 : decode cX11_cross 37 = .ok (.aload_n 0, 1) := by decide +kernel
theorem dX11_cross_38 : decode cX11_cross 38 = .ok (.getfield 46, 3) := by decide +kernel
theorem dX11_cross_41 : decode cX11_cross 41 = .ok (.getfield 120, 3) := by decide +kernel
theorem dX11_cross_44 : decode cX11_cross 44 = .ok (.aload_n 0, 1) := by decide +kernel
theorem dX11_cross_45 : decode cX11_cross 45 = .ok (.getfield 46, 3) := by decide +kernel
theorem dX11_cross_48 : decode cX11_cross 48 = .ok (.getfield 54, 3) := by decide +kernel
theorem dX11_cross_51 : decode cX11_cross 51 = .ok (.iload_n 1, 1) := by decide +kernel
theorem dX11_cross_52 : decode cX11_cross 52 = .ok (.iload_n 2, 1) := by decide +kernel
theorem dX11_cross_53 : decode cX11_cross 53 = .ok (.invokevirtual 169, 3) := by decide +kernel
theorem dX11_cross_56 : decode cX11_cross 56 = .ok (.ifCond .ne 5, 3) := by decide +kernel
theorem dX11_cross_59 : decode cX11_cross 59 = .ok (.iconst (-1), 1) := by decide +kernel
theorem dX11_cross_60 : decode cX11_cross 60 = .ok (.ireturn, 1) := by decide +kernel
theorem dX11_cross_61 : decode cX11_cross 61 = .ok (.aload_n 0, 1) := by decide +kernel
theorem dX11_cross_62 : decode cX11_cross 62 = .ok (.invokevirtual 149, 3) := by decide +kernel
theorem dX11_cross_65 : decode cX11_cross 65 = .ok (.aload_n 0, 1) := by decide +kernel
theorem dX11_cross_66 : decode cX11_cross 66 = .ok (.getfield 46, 3) := by decide +kernel
theorem dX11_cross_69 : decode cX11_cross 69 = .ok (.getfield 120, 3) := by decide +kernel
theorem dX11_cross_72 : decode cX11_cross 72 = .ok (.aload_n 0, 1) := by decide +kernel
theorem dX11_cross_73 : decode cX11_cross 73 = .ok (.getfield 46, 3) := by decide +kernel
theorem dX11_cross_76 : decode cX11_cross 76 = .ok (.getfield 54, 3) := by decide +kernel
theorem dX11_cross_79 : decode cX11_cross 79 = .ok (.iload_n 1, 1) := by decide +kernel
theorem dX11_cross_80 : decode cX11_cross 80 = .ok (.iload_n 2, 1) := by decide +kernel
theorem dX11_cross_81 : decode cX11_cross 81 = .ok (.invokevirtual 173, 3) := by decide +kernel
theorem dX11_cross_84 : decode cX11_cross 84 = .ok (.ifCond .eq 7, 3) := by decide +kernel
theorem dX11_cross_87 : decode cX11_cross 87 = .ok (.iconst 1, 1) := by decide +kernel
theorem dX11_cross_88 : decode cX11_cross 88 = .ok (.goto 4, 3) := by decide +kernel
theorem dX11_cross_91 : decode cX11_cross 91 = .ok (.iconst 0, 1) := by decide +kernel
theorem dX11_cross_92 : decode cX11_cross 92 = .ok (.ireturn, 1) := by decide +kernel
theorem dX11_toss_0 : decode cX11_toss 0 = .ok (.aload_n 0, 1) := by decide +kernel
theorem dX11_toss_1 : decode cX11_toss 1 = .ok (.getfield 46, 3) := by decide +kernel
theorem dX11_toss_4 : decode cX11_toss 4 = .ok (.getfield 54, 3) := by decide +kernel
theorem dX11_toss_7 : decode cX11_toss 7 = .ok (.iload_n 1, 1) := by decide +kernel
theorem dX11_toss_8 : decode cX11_toss 8 = .ok (.invokevirtual 116, 3) := by decide +kernel
theorem dX11_toss_11 : decode cX11_toss 11 = .ok (.ifCond .eq 24, 3) := by decide +kernel
theorem dX11_toss_14 : decode cX11_toss 14 = .ok (.iload_n 2, 1) := by decide +kernel
theorem dX11_toss_15 : decode cX11_toss 15 = .ok (.iconst 1, 1) := by decide +kernel
theorem dX11_toss_16 : decode cX11_toss 16 = .ok (.if_icmp .lt 19, 3) := by decide +kernel
theorem dX11_toss_19 : decode cX11_toss 19 = .ok (.iload_n 2, 1) := by decide +kernel
theorem dX11_toss_20 : decode cX11_toss 20 = .ok (.aload_n 0, 1) := by decide +kernel
theorem dX11_toss_21 : decode cX11_toss 21 = .ok (.getfield 46, 3) := by decide +kernel
theorem dX11_toss_24 : decode cX11_toss 24 = .ok (.getfield 120, 3) := by decide +kernel
theorem dX11_toss_27 : decode cX11_toss 27 = .ok (.getfield 124, 3) := by decide +kernel
theorem dX11_toss_30 : decode cX11_toss 30 = .ok (.iload_n 1, 1) := by decide +kernel
theorem dX11_toss_31 : decode cX11_toss 31 = .ok (.iaload, 1) := by decide +kernel
theorem dX11_toss_32 : decode cX11_toss 32 = .ok (.if_icmp .le 5, 3) := by decide +kernel
theorem dX11_toss_35 : decode cX11_toss 35 = .ok (.iconst (-1), 1) := by decide +kernel
theorem dX11_toss_36 : decode cX11_toss 36 = .ok (.ireturn, 1) := by decide +kernel
theorem dX11_toss_37 : decode cX11_toss 37 = .ok (.aload_n 0, 1) := by decide +kernel
theorem dX11_toss_38 : decode cX11_toss 38 = .ok (.invokevirtual 149, 3) := by decide +kernel
theorem dX11_toss_41 : decode cX11_toss 41 = .ok (.aload_n 0, 1) := by decide +kernel
theorem dX11_toss_42 : decode cX11_toss 42 = .ok (.getfield 46, 3) := by decide +kernel
theorem dX11_toss_45 : decode cX11_toss 45 = .ok (.getfield 120, 3) := by decide +kernel
theorem dX11_toss_48 : decode cX11_toss 48 = .ok (.getfield 124, 3) := by decide +kernel
theorem dX11_toss_51 : decode cX11_toss 51 = .ok (.iload_n 1, 1) := by decide +kernel
theorem dX11_toss_52 : decode cX11_toss 52 = .ok (.dup2, 1) := by decide +kernel
theorem dX11_toss_53 : decode cX11_toss 53 = .ok (.iaload, 1) := by decide +kernel
theorem dX11_toss_54 : decode cX11_toss 54 = .ok (.iload_n 2, 1) := by decide +kernel
theorem dX11_toss_55 : decode cX11_toss 55 = .ok (.isub, 1) := by decide +kernel
theorem dX11_toss_56 : decode cX11_toss 56 = .ok (.iastore, 1) := by decide +kernel
theorem dX11_toss_57 : decode cX11_toss 57 = .ok (.aload_n 0, 1) := by decide +kernel
theorem dX11_toss_58 : decode cX11_toss 58 = .ok (.getfield 46, 3) := by decide +kernel
theorem dX11_toss_61 : decode cX11_toss 61 = .ok (.getfield 120, 3) := by decide +kernel
theorem dX11_toss_64 : decode cX11_toss 64 = .ok (.dup, 1) := by decide +kernel
theorem dX11_toss_65 : decode cX11_toss 65 = .ok (.getfield 176, 3) := by decide +kernel
theorem dX11_toss_68 : decode cX11_toss 68 = .ok (.iload_n 2, 1) := by decide +kernel
theorem dX11_toss_69 : decode cX11_toss 69 = .ok (.iadd, 1) := by decide +kernel
theorem dX11_toss_70 : decode cX11_toss 70 = .ok (.putfield 176, 3) := by decide +kernel
theorem dX11_toss_73 : decode cX11_toss 73 = .ok (.aload_n 0, 1) := by decide +kernel
theorem dX11_toss_74 : decode cX11_toss 74 = .ok (.getfield 46, 3) := by decide +kernel
theorem dX11_toss_77 : decode cX11_toss 77 = .ok (.getfield 120, 3) := by decide +kernel
theorem dX11_toss_80 : decode cX11_toss 80 = .ok (.getfield 124, 3) := by decide +kernel
theorem dX11_toss_83 : decode cX11_toss 83 = .ok (.iload_n 1, 1) := by decide +kernel
theorem dX11_toss_84 : decode cX11_toss 84 = .ok (.iaload, 1) := by decide +kernel
theorem dX11_toss_85 : decode cX11_toss 85 = .ok (.ireturn, 1) := by decide +kernel
theorem dX11_talk_0 : decode cX11_talk 0 = .ok (.aload_n 0, 1) := by decide +kernel
theorem dX11_talk_1 : decode cX11_talk 1 = .ok (.getfield 46, 3) := by decide +kernel
theorem dX11_talk_4 : decode cX11_talk 4 = .ok (.getfield 54, 3) := by decide +kernel
theorem dX11_talk_7 : decode cX11_talk 7 = .ok (.iload_n 1, 1) := by decide +kernel
theorem dX11_talk_8 : decode cX11_talk 8 = .ok (.invokevirtual 116, 3) := by decide +kernel
theorem dX11_talk_11 : decode cX11_talk 11 = .ok (.ifCond .eq 29, 3) := by decide +kernel
theorem dX11_talk_14 : decode cX11_talk 14 = .ok (.aload_n 0, 1) := by decide +kernel
theorem dX11_talk_15 : decode cX11_talk 15 = .ok (.getfield 46, 3) := by decide +kernel
theorem dX11_talk_18 : decode cX11_talk 18 = .ok (.getfield 54, 3) := by decide +kernel
theorem dX11_talk_21 : decode cX11_talk 21 = .ok (.getfield 131, 3) := by decide +kernel
theorem dX11_talk_24 : decode cX11_talk 24 = .ok (.iload_n 1, 1) := by decide +kernel
theorem dX11_talk_25 : decode cX11_talk 25 = .ok (.iaload, 1) := by decide +kernel
theorem dX11_talk_26 : decode cX11_talk 26 = .ok (.ifCond .gt 14, 3) := by decide +kernel
theorem dX11_talk_29 : decode cX11_talk 29 = .ok (.iload_n 2, 1) := by decide +kernel
theorem dX11_talk_30 : decode cX11_talk 30 = .ok (.iconst 1, 1) := by decide +kernel
theorem dX11_talk_31 : decode cX11_talk 31 = .ok (.if_icmp .lt 9, 3) := by decide +kernel
theorem dX11_talk_34 : decode cX11_talk 34 = .ok (.iload_n 2, 1) := by decide +kernel
theorem dX11_talk_35 : decode cX11_talk 35 = .ok (.bipush 20, 2) := by decide +kernel
theorem dX11_talk_37 : decode cX11_talk 37 = .ok (.if_icmp .le 5, 3) := by decide +kernel
theorem dX11_talk_40 : decode cX11_talk 40 = .ok (.iconst (-1), 1) := by decide +kernel
theorem dX11_talk_41 : decode cX11_talk 41 = .ok (.ireturn, 1) := by decide +kernel
theorem dX11_talk_42 : decode cX11_talk 42 = .ok (.aload_n 0, 1) := by decide +kernel
theorem dX11_talk_43 : decode cX11_talk 43 = .ok (.invokevirtual 149, 3) := by decide +kernel
theorem dX11_talk_46 : decode cX11_talk 46 = .ok (.aload_n 0, 1) := by decide +kernel
theorem dX11_talk_47 : decode cX11_talk 47 = .ok (.getfield 46, 3) := by decide +kernel
theorem dX11_talk_50 : decode cX11_talk 50 = .ok (.getfield 120, 3) := by decide +kernel
theorem dX11_talk_53 : decode cX11_talk 53 = .ok (.getfield 124, 3) := by decide +kernel
theorem dX11_talk_56 : decode cX11_talk 56 = .ok (.iload_n 1, 1) := by decide +kernel
theorem dX11_talk_57 : decode cX11_talk 57 = .ok (.bipush 99, 2) := by decide +kernel
theorem dX11_talk_59 : decode cX11_talk 59 = .ok (.aload_n 0, 1) := by decide +kernel
theorem dX11_talk_60 : decode cX11_talk 60 = .ok (.getfield 46, 3) := by decide +kernel
theorem dX11_talk_63 : decode cX11_talk 63 = .ok (.getfield 120, 3) := by decide +kernel
theorem dX11_talk_66 : decode cX11_talk 66 = .ok (.getfield 124, 3) := by decide +kernel
theorem dX11_talk_69 : decode cX11_talk 69 = .ok (.iload_n 1, 1) := by decide +kernel
theorem dX11_talk_70 : decode cX11_talk 70 = .ok (.iaload, 1) := by decide +kernel
theorem dX11_talk_71 : decode cX11_talk 71 = .ok (.iload_n 2, 1) := by decide +kernel
theorem dX11_talk_72 : decode cX11_talk 72 = .ok (.iadd, 1) := by decide +kernel
theorem dX11_talk_73 : decode cX11_talk 73 = .ok (.invokestatic 179, 3) := by decide +kernel
theorem dX11_talk_76 : decode cX11_talk 76 = .ok (.iastore, 1) := by decide +kernel
theorem dX11_talk_77 : decode cX11_talk 77 = .ok (.aload_n 0, 1) := by decide +kernel
theorem dX11_talk_78 : decode cX11_talk 78 = .ok (.getfield 46, 3) := by decide +kernel
theorem dX11_talk_81 : decode cX11_talk 81 = .ok (.getfield 120, 3) := by decide +kernel
theorem dX11_talk_84 : decode cX11_talk 84 = .ok (.getfield 124, 3) := by decide +kernel
theorem dX11_talk_87 : decode cX11_talk 87 = .ok (.iload_n 1, 1) := by decide +kernel
theorem dX11_talk_88 : decode cX11_talk 88 = .ok (.iaload, 1) := by decide +kernel
theorem dX11_talk_89 : decode cX11_talk 89 = .ok (.ireturn, 1) := by decide +kernel
theorem dX11_undo_0 : decode cX11_undo 0 = .ok (.aload_n 0, 1) := by decide +kernel
theorem dX11_undo_1 : decode cX11_undo 1 = .ok (.getfield 184, 3) := by decide +kernel
theorem dX11_undo_4 : decode cX11_undo 4 = .ok (.ifCond .ne 5, 3) := by decide +kernel
theorem dX11_undo_7 : decode cX11_undo 7 = .ok (.iconst (-1), 1) := by decide +kernel
theorem dX11_undo_8 : decode cX11_undo 8 = .ok (.ireturn, 1) := by decide +kernel
theorem dX11_undo_9 : decode cX11_undo 9 = .ok (.aload_n 0, 1) := by decide +kernel
theorem dX11_undo_10 : decode cX11_undo 10 = .ok (.aload_n 0, 1) := by decide +kernel
theorem dX11_undo_11 : decode cX11_undo 11 = .ok (.getfield 187, 3) := by decide +kernel
theorem dX11_undo_14 : decode cX11_undo 14 = .ok (.bipush 20, 2) := by decide +kernel
theorem dX11_undo_16 : decode cX11_undo 16 = .ok (.iadd, 1) := by decide +kernel
theorem dX11_undo_17 : decode cX11_undo 17 = .ok (.iconst 1, 1) := by decide +kernel
theorem dX11_undo_18 : decode cX11_undo 18 = .ok (.isub, 1) := by decide +kernel
theorem dX11_undo_19 : decode cX11_undo 19 = .ok (.bipush 20, 2) := by decide +kernel
theorem dX11_undo_21 : decode cX11_undo 21 = .ok (.irem, 1) := by decide +kernel
theorem dX11_undo_22 : decode cX11_undo 22 = .ok (.putfield 187, 3) := by decide +kernel
theorem dX11_undo_25 : decode cX11_undo 25 = .ok (.aload_n 0, 1) := by decide +kernel
theorem dX11_undo_26 : decode cX11_undo 26 = .ok (.dup, 1) := by decide +kernel
theorem dX11_undo_27 : decode cX11_undo 27 = .ok (.getfield 184, 3) := by decide +kernel
theorem dX11_undo_30 : decode cX11_undo 30 = .ok (.iconst 1, 1) := by decide +kernel
theorem dX11_undo_31 : decode cX11_undo 31 = .ok (.isub, 1) := by decide +kernel
theorem dX11_undo_32 : decode cX11_undo 32 = .ok (.putfield 184, 3) := by decide +kernel
theorem dX11_undo_35 : decode cX11_undo 35 = .ok (.aload_n 0, 1) := by decide +kernel
theorem dX11_undo_36 : decode cX11_undo 36 = .ok (.getfield 46, 3) := by decide +kernel
theorem dX11_undo_39 : decode cX11_undo 39 = .ok (.getfield 120, 3) := by decide +kernel
theorem dX11_undo_42 : decode cX11_undo 42 = .ok (.aload_n 0, 1) := by decide +kernel
theorem dX11_undo_43 : decode cX11_undo 43 = .ok (.getfield 60, 3) := by decide +kernel
theorem dX11_undo_46 : decode cX11_undo 46 = .ok (.aload_n 0, 1) := by decide +kernel
