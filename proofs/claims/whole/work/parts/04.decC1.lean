theorem dX2_steadyWays_183 : decode cX2_steadyWays 183 = .ok (.goto (-60), 3) := by decide +kernel
theorem dX2_steadyWays_186 : decode cX2_steadyWays 186 = .ok (.iload 6, 2) := by decide +kernel
theorem dX2_steadyWays_188 : decode cX2_steadyWays 188 = .ok (.ireturn, 1) := by decide +kernel
theorem dX2_findSoothed_0 : decode cX2_findSoothed 0 = .ok (.aload_n 0, 1) := by decide +kernel
theorem dX2_findSoothed_1 : decode cX2_findSoothed 1 = .ok (.iconst (-1), 1) := by decide +kernel
theorem dX2_findSoothed_2 : decode cX2_findSoothed 2 = .ok (.putfield 68, 3) := by decide +kernel
theorem dX2_findSoothed_5 : decode cX2_findSoothed 5 = .ok (.aload_n 0, 1) := by decide +kernel
theorem dX2_findSoothed_6 : decode cX2_findSoothed 6 = .ok (.iconst (-1), 1) := by decide +kernel
theorem dX2_findSoothed_7 : decode cX2_findSoothed 7 = .ok (.putfield 71, 3) := by decide +kernel
theorem dX2_findSoothed_10 : decode cX2_findSoothed 10 = .ok (.iconst (-1), 1) := by decide +kernel
theorem dX2_findSoothed_11 : decode cX2_findSoothed 11 = .ok (.istore 4, 2) := by decide +kernel
theorem dX2_findSoothed_13 : decode cX2_findSoothed 13 = .ok (.iload 4, 2) := by decide +kernel
theorem dX2_findSoothed_15 : decode cX2_findSoothed 15 = .ok (.aload_n 1, 1) := by decide +kernel
theorem dX2_findSoothed_16 : decode cX2_findSoothed 16 = .ok (.getfield 41, 3) := by decide +kernel
theorem dX2_findSoothed_19 : decode cX2_findSoothed 19 = .ok (.getfield 74, 3) := by decide +kernel
theorem dX2_findSoothed_22 : decode cX2_findSoothed 22 = .ok (.if_icmp .ge 79, 3) := by decide +kernel
theorem dX2_findSoothed_25 : decode cX2_findSoothed 25 = .ok (.aload_n 0, 1) := by decide +kernel
theorem dX2_findSoothed_26 : decode cX2_findSoothed 26 = .ok (.getfield 21, 3) := by decide +kernel
theorem dX2_findSoothed_29 : decode cX2_findSoothed 29 = .ok (.aload_n 1, 1) := by decide +kernel
theorem dX2_findSoothed_30 : decode cX2_findSoothed 30 = .ok (.getfield 32, 3) := by decide +kernel
theorem dX2_findSoothed_33 : decode cX2_findSoothed 33 = .ok (.invokevirtual 37, 3) := by decide +kernel
theorem dX2_findSoothed_36 : decode cX2_findSoothed 36 = .ok (.iload 4, 2) := by decide +kernel
theorem dX2_findSoothed_38 : decode cX2_findSoothed 38 = .ok (.ifCond .lt 14, 3) := by decide +kernel
theorem dX2_findSoothed_41 : decode cX2_findSoothed 41 = .ok (.aload_n 0, 1) := by decide +kernel
theorem dX2_findSoothed_42 : decode cX2_findSoothed 42 = .ok (.getfield 21, 3) := by decide +kernel
theorem dX2_findSoothed_45 : decode cX2_findSoothed 45 = .ok (.getfield 61, 3) := by decide +kernel
theorem dX2_findSoothed_48 : decode cX2_findSoothed 48 = .ok (.iload 4, 2) := by decide +kernel
theorem dX2_findSoothed_50 : decode cX2_findSoothed 50 = .ok (.iconst 0, 1) := by decide +kernel
theorem dX2_findSoothed_51 : decode cX2_findSoothed 51 = .ok (.iastore, 1) := by decide +kernel
theorem dX2_findSoothed_52 : decode cX2_findSoothed 52 = .ok (.aload_n 0, 1) := by decide +kernel
theorem dX2_findSoothed_53 : decode cX2_findSoothed 53 = .ok (.aload_n 1, 1) := by decide +kernel
theorem dX2_findSoothed_54 : decode cX2_findSoothed 54 = .ok (.getfield 41, 3) := by decide +kernel
theorem dX2_findSoothed_57 : decode cX2_findSoothed 57 = .ok (.aload_n 2, 1) := by decide +kernel
theorem dX2_findSoothed_58 : decode cX2_findSoothed 58 = .ok (.iload_n 3, 1) := by decide +kernel
theorem dX2_findSoothed_59 : decode cX2_findSoothed 59 = .ok (.invokevirtual 45, 3) := by decide +kernel
theorem dX2_findSoothed_62 : decode cX2_findSoothed 62 = .ok (.aload_n 0, 1) := by decide +kernel
theorem dX2_findSoothed_63 : decode cX2_findSoothed 63 = .ok (.getfield 21, 3) := by decide +kernel
theorem dX2_findSoothed_66 : decode cX2_findSoothed 66 = .ok (.getfield 79, 3) := by decide +kernel
theorem dX2_findSoothed_69 : decode cX2_findSoothed 69 = .ok (.invokestatic 82, 3) := by decide +kernel
theorem dX2_findSoothed_72 : decode cX2_findSoothed 72 = .ok (.istore 5, 2) := by decide +kernel
theorem dX2_findSoothed_74 : decode cX2_findSoothed 74 = .ok (.iload 5, 2) := by decide +kernel
theorem dX2_findSoothed_76 : decode cX2_findSoothed 76 = .ok (.aload_n 0, 1) := by decide +kernel
theorem dX2_findSoothed_77 : decode cX2_findSoothed 77 = .ok (.getfield 71, 3) := by decide +kernel
theorem dX2_findSoothed_80 : decode cX2_findSoothed 80 = .ok (.if_icmp .le 15, 3) := by decide +kernel
theorem dX2_findSoothed_83 : decode cX2_findSoothed 83 = .ok (.aload_n 0, 1) := by decide +kernel
theorem dX2_findSoothed_84 : decode cX2_findSoothed 84 = .ok (.iload 4, 2) := by decide +kernel
theorem dX2_findSoothed_86 : decode cX2_findSoothed 86 = .ok (.putfield 68, 3) := by decide +kernel
theorem dX2_findSoothed_89 : decode cX2_findSoothed 89 = .ok (.aload_n 0, 1) := by decide +kernel
theorem dX2_findSoothed_90 : decode cX2_findSoothed 90 = .ok (.iload 5, 2) := by decide +kernel
theorem dX2_findSoothed_92 : decode cX2_findSoothed 92 = .ok (.putfield 71, 3) := by decide +kernel
theorem dX2_findSoothed_95 : decode cX2_findSoothed 95 = .ok (.iinc 4 1, 3) := by decide +kernel
theorem dX2_findSoothed_98 : decode cX2_findSoothed 98 = .ok (.goto (-85), 3) := by decide +kernel
theorem dX2_findSoothed_101 : decode cX2_findSoothed 101 = .ok (.return_, 1) := by decide +kernel
theorem dX2_rulesThatAreSo_0 : decode cX2_rulesThatAreSo 0 = .ok (.aload_n 0, 1) := by decide +kernel
theorem dX2_rulesThatAreSo_1 : decode cX2_rulesThatAreSo 1 = .ok (.aload_n 1, 1) := by decide +kernel
theorem dX2_rulesThatAreSo_2 : decode cX2_rulesThatAreSo 2 = .ok (.aconst_null, 1) := by decide +kernel
theorem dX2_rulesThatAreSo_3 : decode cX2_rulesThatAreSo 3 = .ok (.invokevirtual 87, 3) := by decide +kernel
theorem dX2_rulesThatAreSo_6 : decode cX2_rulesThatAreSo 6 = .ok (.ifCond .eq 7, 3) := by decide +kernel
theorem dX2_rulesThatAreSo_9 : decode cX2_rulesThatAreSo 9 = .ok (.iconst 1, 1) := by decide +kernel
theorem dX2_rulesThatAreSo_10 : decode cX2_rulesThatAreSo 10 = .ok (.goto 4, 3) := by decide +kernel
theorem dX2_rulesThatAreSo_13 : decode cX2_rulesThatAreSo 13 = .ok (.iconst 0, 1) := by decide +kernel
theorem dX2_rulesThatAreSo_14 : decode cX2_rulesThatAreSo 14 = .ok (.istore 4, 2) := by decide +kernel
theorem dX2_rulesThatAreSo_16 : decode cX2_rulesThatAreSo 16 = .ok (.iconst 0, 1) := by decide +kernel
theorem dX2_rulesThatAreSo_17 : decode cX2_rulesThatAreSo 17 = .ok (.istore 5, 2) := by decide +kernel
theorem dX2_rulesThatAreSo_19 : decode cX2_rulesThatAreSo 19 = .ok (.iload 5, 2) := by decide +kernel
theorem dX2_rulesThatAreSo_21 : decode cX2_rulesThatAreSo 21 = .ok (.iload_n 3, 1) := by decide +kernel
theorem dX2_rulesThatAreSo_22 : decode cX2_rulesThatAreSo 22 = .ok (.if_icmp .ge 37, 3) := by decide +kernel
theorem dX2_rulesThatAreSo_25 : decode cX2_rulesThatAreSo 25 = .ok (.iload 5, 2) := by decide +kernel
theorem dX2_rulesThatAreSo_27 : decode cX2_rulesThatAreSo 27 = .ok (.aload_n 2, 1) := by decide +kernel
theorem dX2_rulesThatAreSo_28 : decode cX2_rulesThatAreSo 28 = .ok (.arraylength, 1) := by decide +kernel
theorem dX2_rulesThatAreSo_29 : decode cX2_rulesThatAreSo 29 = .ok (.if_icmp .ge 30, 3) := by decide +kernel
theorem dX2_rulesThatAreSo_32 : decode cX2_rulesThatAreSo 32 = .ok (.aload_n 0, 1) := by decide +kernel
theorem dX2_rulesThatAreSo_33 : decode cX2_rulesThatAreSo 33 = .ok (.aload_n 1, 1) := by decide +kernel
theorem dX2_rulesThatAreSo_34 : decode cX2_rulesThatAreSo 34 = .ok (.aload_n 2, 1) := by decide +kernel
theorem dX2_rulesThatAreSo_35 : decode cX2_rulesThatAreSo 35 = .ok (.iload 5, 2) := by decide +kernel
theorem dX2_rulesThatAreSo_37 : decode cX2_rulesThatAreSo 37 = .ok (.aaload, 1) := by decide +kernel
theorem dX2_rulesThatAreSo_38 : decode cX2_rulesThatAreSo 38 = .ok (.invokevirtual 87, 3) := by decide +kernel
theorem dX2_rulesThatAreSo_41 : decode cX2_rulesThatAreSo 41 = .ok (.ifCond .eq 12, 3) := by decide +kernel
theorem dX2_rulesThatAreSo_44 : decode cX2_rulesThatAreSo 44 = .ok (.iload 4, 2) := by decide +kernel
theorem dX2_rulesThatAreSo_46 : decode cX2_rulesThatAreSo 46 = .ok (.iconst 2, 1) := by decide +kernel
theorem dX2_rulesThatAreSo_47 : decode cX2_rulesThatAreSo 47 = .ok (.iload 5, 2) := by decide +kernel
theorem dX2_rulesThatAreSo_49 : decode cX2_rulesThatAreSo 49 = .ok (.ishl, 1) := by decide +kernel
theorem dX2_rulesThatAreSo_50 : decode cX2_rulesThatAreSo 50 = .ok (.ior, 1) := by decide +kernel
theorem dX2_rulesThatAreSo_51 : decode cX2_rulesThatAreSo 51 = .ok (.istore 4, 2) := by decide +kernel
theorem dX2_rulesThatAreSo_53 : decode cX2_rulesThatAreSo 53 = .ok (.iinc 5 1, 3) := by decide +kernel
theorem dX2_rulesThatAreSo_56 : decode cX2_rulesThatAreSo 56 = .ok (.goto (-37), 3) := by decide +kernel
theorem dX2_rulesThatAreSo_59 : decode cX2_rulesThatAreSo 59 = .ok (.iload 4, 2) := by decide +kernel
theorem dX2_rulesThatAreSo_61 : decode cX2_rulesThatAreSo 61 = .ok (.ireturn, 1) := by decide +kernel
theorem dX2_isSo_0 : decode cX2_isSo 0 = .ok (.aload_n 1, 1) := by decide +kernel
theorem dX2_isSo_1 : decode cX2_isSo 1 = .ok (.invokevirtual 91, 3) := by decide +kernel
theorem dX2_isSo_4 : decode cX2_isSo 4 = .ok (.istore_n 3, 1) := by decide +kernel
theorem dX2_isSo_5 : decode cX2_isSo 5 = .ok (.aload_n 0, 1) := by decide +kernel
theorem dX2_isSo_6 : decode cX2_isSo 6 = .ok (.getfield 21, 3) := by decide +kernel
theorem dX2_isSo_9 : decode cX2_isSo 9 = .ok (.aload_n 1, 1) := by decide +kernel
theorem dX2_isSo_10 : decode cX2_isSo 10 = .ok (.getfield 41, 3) := by decide +kernel
theorem dX2_isSo_13 : decode cX2_isSo 13 = .ok (.invokevirtual 95, 3) := by decide +kernel
theorem dX2_isSo_16 : decode cX2_isSo 16 = .ok (.iconst 0, 1) := by decide +kernel
theorem dX2_isSo_17 : decode cX2_isSo 17 = .ok (.istore 4, 2) := by decide +kernel
theorem dX2_isSo_19 : decode cX2_isSo 19 = .ok (.iload 4, 2) := by decide +kernel
theorem dX2_isSo_21 : decode cX2_isSo 21 = .ok (.iload_n 3, 1) := by decide +kernel
theorem dX2_isSo_22 : decode cX2_isSo 22 = .ok (.if_icmp .gt 42, 3) := by decide +kernel
theorem dX2_isSo_25 : decode cX2_isSo 25 = .ok (.aload_n 0, 1) := by decide +kernel
theorem dX2_isSo_26 : decode cX2_isSo 26 = .ok (.getfield 12, 3) := by decide +kernel
theorem dX2_isSo_29 : decode cX2_isSo 29 = .ok (.aload_n 1, 1) := by decide +kernel
theorem dX2_isSo_30 : decode cX2_isSo 30 = .ok (.getfield 41, 3) := by decide +kernel
theorem dX2_isSo_33 : decode cX2_isSo 33 = .ok (.aload_n 0, 1) := by decide +kernel
theorem dX2_isSo_34 : decode cX2_isSo 34 = .ok (.getfield 21, 3) := by decide +kernel
theorem dX2_isSo_37 : decode cX2_isSo 37 = .ok (.aload_n 2, 1) := by decide +kernel
theorem dX2_isSo_38 : decode cX2_isSo 38 = .ok (.iconst 0, 1) := by decide +kernel
theorem dX2_isSo_39 : decode cX2_isSo 39 = .ok (.invokevirtual 49, 3) := by decide +kernel
theorem dX2_isSo_42 : decode cX2_isSo 42 = .ok (.pop, 1) := by decide +kernel
theorem dX2_isSo_43 : decode cX2_isSo 43 = .ok (.aload_n 1, 1) := by decide +kernel
theorem dX2_isSo_44 : decode cX2_isSo 44 = .ok (.iload 4, 2) := by decide +kernel
theorem dX2_isSo_46 : decode cX2_isSo 46 = .ok (.aload_n 0, 1) := by decide +kernel
theorem dX2_isSo_47 : decode cX2_isSo 47 = .ok (.getfield 21, 3) := by decide +kernel
theorem dX2_isSo_50 : decode cX2_isSo 50 = .ok (.invokevirtual 99, 3) := by decide +kernel
theorem dX2_isSo_53 : decode cX2_isSo 53 = .ok (.ifCond .ne 5, 3) := by decide +kernel
theorem dX2_isSo_56 : decode cX2_isSo 56 = .ok (.iconst 0, 1) := by decide +kernel
theorem dX2_isSo_57 : decode cX2_isSo 57 = .ok (.ireturn, 1) := by decide +kernel
theorem dX2_isSo_58 : decode cX2_isSo 58 = .ok (.iinc 4 1, 3) := by decide +kernel
theorem dX2_isSo_61 : decode cX2_isSo 61 = .ok (.goto (-42), 3) := by decide +kernel
theorem dX2_isSo_64 : decode cX2_isSo 64 = .ok (.iconst 1, 1) := by decide +kernel
theorem dX2_isSo_65 : decode cX2_isSo 65 = .ok (.ireturn, 1) := by decide +kernel
theorem dX2_part_0 : decode cX2_part 0 = .ok (.aload_n 0, 1) := by decide +kernel
theorem dX2_part_1 : decode cX2_part 1 = .ok (.getfield 29, 3) := by decide +kernel
theorem dX2_part_4 : decode cX2_part 4 = .ok (.iconst 0, 1) := by decide +kernel
theorem dX2_part_5 : decode cX2_part 5 = .ok (.invokestatic 103, 3) := by decide +kernel
theorem dX2_part_8 : decode cX2_part 8 = .ok (.iconst 0, 1) := by decide +kernel
theorem dX2_part_9 : decode cX2_part 9 = .ok (.istore 5, 2) := by decide +kernel
theorem dX2_part_11 : decode cX2_part 11 = .ok (.iload 5, 2) := by decide +kernel
theorem dX2_part_13 : decode cX2_part 13 = .ok (.aload_n 2, 1) := by decide +kernel
theorem dX2_part_14 : decode cX2_part 14 = .ok (.arraylength, 1) := by decide +kernel
theorem dX2_part_15 : decode cX2_part 15 = .ok (.if_icmp .gt 97, 3) := by decide +kernel
theorem dX2_part_18 : decode cX2_part 18 = .ok (.iload_n 3, 1) := by decide +kernel
theorem dX2_part_19 : decode cX2_part 19 = .ok (.iload 5, 2) := by decide +kernel
theorem dX2_part_21 : decode cX2_part 21 = .ok (.ishr, 1) := by decide +kernel
theorem dX2_part_22 : decode cX2_part 22 = .ok (.iconst 1, 1) := by decide +kernel
theorem dX2_part_23 : decode cX2_part 23 = .ok (.iand, 1) := by decide +kernel
theorem dX2_part_24 : decode cX2_part 24 = .ok (.iconst 1, 1) := by decide +kernel
theorem dX2_part_25 : decode cX2_part 25 = .ok (.if_icmp .ne 81, 3) := by decide +kernel
theorem dX2_part_28 : decode cX2_part 28 = .ok (.aload_n 0, 1) := by decide +kernel
theorem dX2_part_29 : decode cX2_part 29 = .ok (.getfield 21, 3) := by decide +kernel
theorem dX2_part_32 : decode cX2_part 32 = .ok (.aload_n 1, 1) := by decide +kernel
theorem dX2_part_33 : decode cX2_part 33 = .ok (.getfield 41, 3) := by decide +kernel
theorem dX2_part_36 : decode cX2_part 36 = .ok (.invokevirtual 95, 3) := by decide +kernel
theorem dX2_part_39 : decode cX2_part 39 = .ok (.aload_n 0, 1) := by decide +kernel
theorem dX2_part_40 : decode cX2_part 40 = .ok (.aload_n 1, 1) := by decide +kernel
theorem dX2_part_41 : decode cX2_part 41 = .ok (.getfield 41, 3) := by decide +kernel
theorem dX2_part_44 : decode cX2_part 44 = .ok (.iload 5, 2) := by decide +kernel
theorem dX2_part_46 : decode cX2_part 46 = .ok (.ifCond .ne 7, 3) := by decide +kernel
theorem dX2_part_49 : decode cX2_part 49 = .ok (.aconst_null, 1) := by decide +kernel
theorem dX2_part_50 : decode cX2_part 50 = .ok (.goto 9, 3) := by decide +kernel
theorem dX2_part_53 : decode cX2_part 53 = .ok (.aload_n 2, 1) := by decide +kernel
theorem dX2_part_54 : decode cX2_part 54 = .ok (.iload 5, 2) := by decide +kernel
theorem dX2_part_56 : decode cX2_part 56 = .ok (.iconst 1, 1) := by decide +kernel
theorem dX2_part_57 : decode cX2_part 57 = .ok (.isub, 1) := by decide +kernel
theorem dX2_part_58 : decode cX2_part 58 = .ok (.aaload, 1) := by decide +kernel
theorem dX2_part_59 : decode cX2_part 59 = .ok (.iload 4, 2) := by decide +kernel
theorem dX2_part_61 : decode cX2_part 61 = .ok (.iconst 1, 1) := by decide +kernel
theorem dX2_part_62 : decode cX2_part 62 = .ok (.iadd, 1) := by decide +kernel
theorem dX2_part_63 : decode cX2_part 63 = .ok (.invokevirtual 45, 3) := by decide +kernel
theorem dX2_part_66 : decode cX2_part 66 = .ok (.iconst 0, 1) := by decide +kernel
theorem dX2_part_67 : decode cX2_part 67 = .ok (.istore 6, 2) := by decide +kernel
theorem dX2_part_69 : decode cX2_part 69 = .ok (.iload 6, 2) := by decide +kernel
theorem dX2_part_71 : decode cX2_part 71 = .ok (.aload_n 1, 1) := by decide +kernel
theorem dX2_part_72 : decode cX2_part 72 = .ok (.getfield 41, 3) := by decide +kernel
theorem dX2_part_75 : decode cX2_part 75 = .ok (.getfield 74, 3) := by decide +kernel
theorem dX2_part_78 : decode cX2_part 78 = .ok (.if_icmp .ge 28, 3) := by decide +kernel
theorem dX2_part_81 : decode cX2_part 81 = .ok (.aload_n 0, 1) := by decide +kernel
theorem dX2_part_82 : decode cX2_part 82 = .ok (.getfield 29, 3) := by decide +kernel
theorem dX2_part_85 : decode cX2_part 85 = .ok (.iload 6, 2) := by decide +kernel
theorem dX2_part_87 : decode cX2_part 87 = .ok (.dup2, 1) := by decide +kernel
theorem dX2_part_88 : decode cX2_part 88 = .ok (.iaload, 1) := by decide +kernel
theorem dX2_part_89 : decode cX2_part 89 = .ok (.aload_n 0, 1) := by decide +kernel
theorem dX2_part_90 : decode cX2_part 90 = .ok (.getfield 21, 3) := by decide +kernel
theorem dX2_part_93 : decode cX2_part 93 = .ok (.iload 6, 2) := by decide +kernel
theorem dX2_part_95 : decode cX2_part 95 = .ok (.invokevirtual 64, 3) := by decide +kernel
theorem dX2_part_98 : decode cX2_part 98 = .ok (.iadd, 1) := by decide +kernel
theorem dX2_part_99 : decode cX2_part 99 = .ok (.iastore, 1) := by decide +kernel
theorem dX2_part_100 : decode cX2_part 100 = .ok (.iinc 6 1, 3) := by decide +kernel
theorem dX2_part_103 : decode cX2_part 103 = .ok (.goto (-34), 3) := by decide +kernel
theorem dX2_part_106 : decode cX2_part 106 = .ok (.iinc 5 1, 3) := by decide +kernel
theorem dX2_part_109 : decode cX2_part 109 = .ok (.goto (-98), 3) := by decide +kernel
theorem dX2_part_112 : decode cX2_part 112 = .ok (.iload_n 3, 1) := by decide +kernel
theorem dX2_part_113 : decode cX2_part 113 = .ok (.invokestatic 82, 3) := by decide +kernel
theorem dX2_part_116 : decode cX2_part 116 = .ok (.istore 5, 2) := by decide +kernel
theorem dX2_part_118 : decode cX2_part 118 = .ok (.aload_n 0, 1) := by decide +kernel
theorem dX2_part_119 : decode cX2_part 119 = .ok (.iconst (-1), 1) := by decide +kernel
theorem dX2_part_120 : decode cX2_part 120 = .ok (.putfield 109, 3) := by decide +kernel
theorem dX2_part_123 : decode cX2_part 123 = .ok (.aload_n 0, 1) := by decide +kernel
theorem dX2_part_124 : decode cX2_part 124 = .ok (.iload 5, 2) := by decide +kernel
theorem dX2_part_126 : decode cX2_part 126 = .ok (.iconst 1, 1) := by decide +kernel
theorem dX2_part_127 : decode cX2_part 127 = .ok (.iadd, 1) := by decide +kernel
theorem dX2_part_128 : decode cX2_part 128 = .ok (.putfield 112, 3) := by decide +kernel
theorem dX2_part_131 : decode cX2_part 131 = .ok (.iconst 0, 1) := by decide +kernel
theorem dX2_part_132 : decode cX2_part 132 = .ok (.istore 6, 2) := by decide +kernel
theorem dX2_part_134 : decode cX2_part 134 = .ok (.iload 6, 2) := by decide +kernel
theorem dX2_part_136 : decode cX2_part 136 = .ok (.aload_n 1, 1) := by decide +kernel
theorem dX2_part_137 : decode cX2_part 137 = .ok (.getfield 41, 3) := by decide +kernel
theorem dX2_part_140 : decode cX2_part 140 = .ok (.getfield 74, 3) := by decide +kernel
theorem dX2_part_143 : decode cX2_part 143 = .ok (.if_icmp .ge 52, 3) := by decide +kernel
theorem dX2_part_146 : decode cX2_part 146 = .ok (.aload_n 0, 1) := by decide +kernel
theorem dX2_part_147 : decode cX2_part 147 = .ok (.getfield 29, 3) := by decide +kernel
theorem dX2_part_150 : decode cX2_part 150 = .ok (.iload 6, 2) := by decide +kernel
theorem dX2_part_152 : decode cX2_part 152 = .ok (.iaload, 1) := by decide +kernel
theorem dX2_part_153 : decode cX2_part 153 = .ok (.iload 5, 2) := by decide +kernel
theorem dX2_part_155 : decode cX2_part 155 = .ok (.aload_n 0, 1) := by decide +kernel
theorem dX2_part_156 : decode cX2_part 156 = .ok (.getfield 29, 3) := by decide +kernel
theorem dX2_part_159 : decode cX2_part 159 = .ok (.iload 6, 2) := by decide +kernel
theorem dX2_part_161 : decode cX2_part 161 = .ok (.iaload, 1) := by decide +kernel
theorem dX2_part_162 : decode cX2_part 162 = .ok (.isub, 1) := by decide +kernel
theorem dX2_part_163 : decode cX2_part 163 = .ok (.invokestatic 115, 3) := by decide +kernel
theorem dX2_part_166 : decode cX2_part 166 = .ok (.istore 7, 2) := by decide +kernel
theorem dX2_part_168 : decode cX2_part 168 = .ok (.iload 7, 2) := by decide +kernel
theorem dX2_part_170 : decode cX2_part 170 = .ok (.aload_n 0, 1) := by decide +kernel
theorem dX2_part_171 : decode cX2_part 171 = .ok (.getfield 112, 3) := by decide +kernel
theorem dX2_part_174 : decode cX2_part 174 = .ok (.if_icmp .ge 15, 3) := by decide +kernel
theorem dX2_part_177 : decode cX2_part 177 = .ok (.aload_n 0, 1) := by decide +kernel
theorem dX2_part_178 : decode cX2_part 178 = .ok (.iload 6, 2) := by decide +kernel
theorem dX2_part_180 : decode cX2_part 180 = .ok (.putfield 109, 3) := by decide +kernel
theorem dX2_part_183 : decode cX2_part 183 = .ok (.aload_n 0, 1) := by decide +kernel
theorem dX2_part_184 : decode cX2_part 184 = .ok (.iload 7, 2) := by decide +kernel
theorem dX2_part_186 : decode cX2_part 186 = .ok (.putfield 112, 3) := by decide +kernel
theorem dX2_part_189 : decode cX2_part 189 = .ok (.iinc 6 1, 3) := by decide +kernel
theorem dX2_part_192 : decode cX2_part 192 = .ok (.goto (-58), 3) := by decide +kernel
theorem dX2_part_195 : decode cX2_part 195 = .ok (.return_, 1) := by decide +kernel
theorem dX2_drawFogs_0 : decode cX2_drawFogs 0 = .ok (.aload_n 1, 1) := by decide +kernel
theorem dX2_drawFogs_1 : decode cX2_drawFogs 1 = .ok (.getfield 121, 3) := by decide +kernel
theorem dX2_drawFogs_4 : decode cX2_drawFogs 4 = .ok (.i2l, 1) := by decide +kernel
theorem dX2_drawFogs_5 : decode cX2_drawFogs 5 = .ok (.lstore 6, 2) := by decide +kernel
theorem dX2_drawFogs_7 : decode cX2_drawFogs 7 = .ok (.aload_n 0, 1) := by decide +kernel
theorem dX2_drawFogs_8 : decode cX2_drawFogs 8 = .ok (.iconst 0, 1) := by decide +kernel
theorem dX2_drawFogs_9 : decode cX2_drawFogs 9 = .ok (.putfield 124, 3) := by decide +kernel
theorem dX2_drawFogs_12 : decode cX2_drawFogs 12 = .ok (.aload_n 0, 1) := by decide +kernel
theorem dX2_drawFogs_13 : decode cX2_drawFogs 13 = .ok (.iconst 0, 1) := by decide +kernel
theorem dX2_drawFogs_14 : decode cX2_drawFogs 14 = .ok (.putfield 127, 3) := by decide +kernel
theorem dX2_drawFogs_17 : decode cX2_drawFogs 17 = .ok (.iconst 0, 1) := by decide +kernel
theorem dX2_drawFogs_18 : decode cX2_drawFogs 18 = .ok (.istore 8, 2) := by decide +kernel
theorem dX2_drawFogs_20 : decode cX2_drawFogs 20 = .ok (.iload 8, 2) := by decide +kernel
theorem dX2_drawFogs_22 : decode cX2_drawFogs 22 = .ok (.iload_n 3, 1) := by decide +kernel
theorem dX2_drawFogs_23 : decode cX2_drawFogs 23 = .ok (.if_icmp .ge 138, 3) := by decide +kernel
theorem dX2_drawFogs_26 : decode cX2_drawFogs 26 = .ok (.aload_n 0, 1) := by decide +kernel
theorem dX2_drawFogs_27 : decode cX2_drawFogs 27 = .ok (.getfield 21, 3) := by decide +kernel
theorem dX2_drawFogs_30 : decode cX2_drawFogs 30 = .ok (.aload_n 1, 1) := by decide +kernel
theorem dX2_drawFogs_31 : decode cX2_drawFogs 31 = .ok (.getfield 32, 3) := by decide +kernel
theorem dX2_drawFogs_34 : decode cX2_drawFogs 34 = .ok (.invokevirtual 37, 3) := by decide +kernel
theorem dX2_drawFogs_37 : decode cX2_drawFogs 37 = .ok (.iconst 0, 1) := by decide +kernel
theorem dX2_drawFogs_38 : decode cX2_drawFogs 38 = .ok (.istore 9, 2) := by decide +kernel
theorem dX2_drawFogs_40 : decode cX2_drawFogs 40 = .ok (.iload 9, 2) := by decide +kernel
theorem dX2_drawFogs_42 : decode cX2_drawFogs 42 = .ok (.iload 4, 2) := by decide +kernel
theorem dX2_drawFogs_44 : decode cX2_drawFogs 44 = .ok (.if_icmp .ge 68, 3) := by decide +kernel
theorem dX2_drawFogs_47 : decode cX2_drawFogs 47 = .ok (.lload 6, 2) := by decide +kernel
theorem dX2_drawFogs_49 : decode cX2_drawFogs 49 = .ok (.ldc2_w 130, 3) := by decide +kernel
theorem dX2_drawFogs_52 : decode cX2_drawFogs 52 = .ok (.lmul, 1) := by decide +kernel
theorem dX2_drawFogs_53 : decode cX2_drawFogs 53 = .ok (.ldc2_w 132, 3) := by decide +kernel
theorem dX2_drawFogs_56 : decode cX2_drawFogs 56 = .ok (.ladd, 1) := by decide +kernel
theorem dX2_drawFogs_57 : decode cX2_drawFogs 57 = .ok (.ldc2_w 134, 3) := by decide +kernel
theorem dX2_drawFogs_60 : decode cX2_drawFogs 60 = .ok (.land, 1) := by decide +kernel
theorem dX2_drawFogs_61 : decode cX2_drawFogs 61 = .ok (.lstore 6, 2) := by decide +kernel
theorem dX2_drawFogs_63 : decode cX2_drawFogs 63 = .ok (.lload 6, 2) := by decide +kernel
theorem dX2_drawFogs_65 : decode cX2_drawFogs 65 = .ok (.ldc2_w 136, 3) := by decide +kernel
theorem dX2_drawFogs_68 : decode cX2_drawFogs 68 = .ok (.ldiv, 1) := by decide +kernel
theorem dX2_drawFogs_69 : decode cX2_drawFogs 69 = .ok (.ldc2_w 138, 3) := by decide +kernel
theorem dX2_drawFogs_72 : decode cX2_drawFogs 72 = .ok (.lrem, 1) := by decide +kernel
theorem dX2_drawFogs_73 : decode cX2_drawFogs 73 = .ok (.iload 5, 2) := by decide +kernel
theorem dX2_drawFogs_75 : decode cX2_drawFogs 75 = .ok (.i2l, 1) := by decide +kernel
theorem dX2_drawFogs_76 : decode cX2_drawFogs 76 = .ok (.lcmp, 1) := by decide +kernel
theorem dX2_drawFogs_77 : decode cX2_drawFogs 77 = .ok (.ifCond .ge 7, 3) := by decide +kernel
theorem dX2_drawFogs_80 : decode cX2_drawFogs 80 = .ok (.iconst 1, 1) := by decide +kernel
theorem dX2_drawFogs_81 : decode cX2_drawFogs 81 = .ok (.goto 4, 3) := by decide +kernel
theorem dX2_drawFogs_84 : decode cX2_drawFogs 84 = .ok (.iconst 0, 1) := by decide +kernel
theorem dX2_drawFogs_85 : decode cX2_drawFogs 85 = .ok (.istore 10, 2) := by decide +kernel
theorem dX2_drawFogs_87 : decode cX2_drawFogs 87 = .ok (.aload_n 0, 1) := by decide +kernel
theorem dX2_drawFogs_88 : decode cX2_drawFogs 88 = .ok (.getfield 12, 3) := by decide +kernel
theorem dX2_drawFogs_91 : decode cX2_drawFogs 91 = .ok (.aload_n 1, 1) := by decide +kernel
theorem dX2_drawFogs_92 : decode cX2_drawFogs 92 = .ok (.getfield 41, 3) := by decide +kernel
theorem dX2_drawFogs_95 : decode cX2_drawFogs 95 = .ok (.aload_n 0, 1) := by decide +kernel
theorem dX2_drawFogs_96 : decode cX2_drawFogs 96 = .ok (.getfield 21, 3) := by decide +kernel
theorem dX2_drawFogs_99 : decode cX2_drawFogs 99 = .ok (.aload_n 2, 1) := by decide +kernel
theorem dX2_drawFogs_100 : decode cX2_drawFogs 100 = .ok (.iload 10, 2) := by decide +kernel
theorem dX2_drawFogs_102 : decode cX2_drawFogs 102 = .ok (.invokevirtual 49, 3) := by decide +kernel
theorem dX2_drawFogs_105 : decode cX2_drawFogs 105 = .ok (.pop, 1) := by decide +kernel
theorem dX2_drawFogs_106 : decode cX2_drawFogs 106 = .ok (.iinc 9 1, 3) := by decide +kernel
theorem dX2_drawFogs_109 : decode cX2_drawFogs 109 = .ok (.goto (-69), 3) := by decide +kernel
theorem dX2_drawFogs_112 : decode cX2_drawFogs 112 = .ok (.aload_n 0, 1) := by decide +kernel
theorem dX2_drawFogs_113 : decode cX2_drawFogs 113 = .ok (.dup, 1) := by decide +kernel
theorem dX2_drawFogs_114 : decode cX2_drawFogs 114 = .ok (.getfield 124, 3) := by decide +kernel
theorem dX2_drawFogs_117 : decode cX2_drawFogs 117 = .ok (.aload_n 0, 1) := by decide +kernel
theorem dX2_drawFogs_118 : decode cX2_drawFogs 118 = .ok (.getfield 21, 3) := by decide +kernel
theorem dX2_drawFogs_121 : decode cX2_drawFogs 121 = .ok (.getfield 79, 3) := by decide +kernel
theorem dX2_drawFogs_124 : decode cX2_drawFogs 124 = .ok (.invokestatic 82, 3) := by decide +kernel
theorem dX2_drawFogs_127 : decode cX2_drawFogs 127 = .ok (.iadd, 1) := by decide +kernel
theorem dX2_drawFogs_128 : decode cX2_drawFogs 128 = .ok (.putfield 124, 3) := by decide +kernel
theorem dX2_drawFogs_131 : decode cX2_drawFogs 131 = .ok (.aload_n 0, 1) := by decide +kernel
theorem dX2_drawFogs_132 : decode cX2_drawFogs 132 = .ok (.dup, 1) := by decide +kernel
theorem dX2_drawFogs_133 : decode cX2_drawFogs 133 = .ok (.getfield 127, 3) := by decide +kernel
theorem dX2_drawFogs_136 : decode cX2_drawFogs 136 = .ok (.aload_n 0, 1) := by decide +kernel
theorem dX2_drawFogs_137 : decode cX2_drawFogs 137 = .ok (.getfield 21, 3) := by decide +kernel
theorem dX2_drawFogs_140 : decode cX2_drawFogs 140 = .ok (.getfield 140, 3) := by decide +kernel
theorem dX2_drawFogs_143 : decode cX2_drawFogs 143 = .ok (.aload_n 1, 1) := by decide +kernel
theorem dX2_drawFogs_144 : decode cX2_drawFogs 144 = .ok (.getfield 32, 3) := by decide +kernel
theorem dX2_drawFogs_147 : decode cX2_drawFogs 147 = .ok (.getfield 140, 3) := by decide +kernel
theorem dX2_drawFogs_150 : decode cX2_drawFogs 150 = .ok (.isub, 1) := by decide +kernel
theorem dX2_drawFogs_151 : decode cX2_drawFogs 151 = .ok (.iadd, 1) := by decide +kernel
theorem dX2_drawFogs_152 : decode cX2_drawFogs 152 = .ok (.putfield 127, 3) := by decide +kernel
theorem dX2_drawFogs_155 : decode cX2_drawFogs 155 = .ok (.iinc 8 1, 3) := by decide +kernel
theorem dX2_drawFogs_158 : decode cX2_drawFogs 158 = .ok (.goto (-138), 3) := by decide +kernel
theorem dX2_drawFogs_161 : decode cX2_drawFogs 161 = .ok (.return_, 1) := by decide +kernel
theorem dX3_init_0 : decode cX3_init 0 = .ok (.aload_n 0, 1) := by decide +kernel
theorem dX3_init_1 : decode cX3_init 1 = .ok (.invokespecial 3, 3) := by decide +kernel
theorem dX3_init_4 : decode cX3_init 4 = .ok (.aload_n 0, 1) := by decide +kernel
theorem dX3_init_5 : decode cX3_init 5 = .ok (.bipush 12, 2) := by decide +kernel
theorem dX3_init_7 : decode cX3_init 7 = .ok (.newarray .long, 2) := by decide +kernel
theorem dX3_init_9 : decode cX3_init 9 = .ok (.putfield 11, 3) := by decide +kernel
theorem dX3_init_12 : decode cX3_init 12 = .ok (.aload_n 0, 1) := by decide +kernel
theorem dX3_init_13 : decode cX3_init 13 = .ok (.bipush 40, 2) := by decide +kernel
theorem dX3_init_15 : decode cX3_init 15 = .ok (.newarray .long, 2) := by decide +kernel
theorem dX3_init_17 : decode cX3_init 17 = .ok (.putfield 17, 3) := by decide +kernel
theorem dX3_init_20 : decode cX3_init 20 = .ok (.return_, 1) := by decide +kernel
theorem dX3_sail_0 : decode cX3_sail 0 = .ok (.aload_n 0, 1) := by decide +kernel
theorem dX3_sail_1 : decode cX3_sail 1 = .ok (.aload_n 1, 1) := by decide +kernel
theorem dX3_sail_2 : decode cX3_sail 2 = .ok (.putfield 20, 3) := by decide +kernel
theorem dX3_sail_5 : decode cX3_sail 5 = .ok (.aload_n 0, 1) := by decide +kernel
theorem dX3_sail_6 : decode cX3_sail 6 = .ok (.aload_n 2, 1) := by decide +kernel
theorem dX3_sail_7 : decode cX3_sail 7 = .ok (.putfield 24, 3) := by decide +kernel
theorem dX3_sail_10 : decode cX3_sail 10 = .ok (.aload_n 0, 1) := by decide +kernel
theorem dX3_sail_11 : decode cX3_sail 11 = .ok (.aload_n 3, 1) := by decide +kernel
theorem dX3_sail_12 : decode cX3_sail 12 = .ok (.putfield 28, 3) := by decide +kernel
theorem dX3_sail_15 : decode cX3_sail 15 = .ok (.aload_n 0, 1) := by decide +kernel
theorem dX3_sail_16 : decode cX3_sail 16 = .ok (.iload 4, 2) := by decide +kernel
theorem dX3_sail_18 : decode cX3_sail 18 = .ok (.ifCond .ne 14, 3) := by decide +kernel
theorem dX3_sail_21 : decode cX3_sail 21 = .ok (.aload_n 1, 1) := by decide +kernel
theorem dX3_sail_22 : decode cX3_sail 22 = .ok (.aload_n 2, 1) := by decide +kernel
theorem dX3_sail_23 : decode cX3_sail 23 = .ok (.getfield 32, 3) := by decide +kernel
theorem dX3_sail_26 : decode cX3_sail 26 = .ok (.invokevirtual 38, 3) := by decide +kernel
theorem dX3_sail_29 : decode cX3_sail 29 = .ok (.ifCond .eq 7, 3) := by decide +kernel
theorem dX3_sail_32 : decode cX3_sail 32 = .ok (.iconst 1, 1) := by decide +kernel
theorem dX3_sail_33 : decode cX3_sail 33 = .ok (.goto 4, 3) := by decide +kernel
theorem dX3_sail_36 : decode cX3_sail 36 = .ok (.iconst 0, 1) := by decide +kernel
theorem dX3_sail_37 : decode cX3_sail 37 = .ok (.putfield 44, 3) := by decide +kernel
theorem dX3_sail_40 : decode cX3_sail 40 = .ok (.aload_n 0, 1) := by decide +kernel
theorem dX3_sail_41 : decode cX3_sail 41 = .ok (.iconst 0, 1) := by decide +kernel
theorem dX3_sail_42 : decode cX3_sail 42 = .ok (.putfield 48, 3) := by decide +kernel
theorem dX3_sail_45 : decode cX3_sail 45 = .ok (.aload_n 0, 1) := by decide +kernel
theorem dX3_sail_46 : decode cX3_sail 46 = .ok (.iconst 0, 1) := by decide +kernel
theorem dX3_sail_47 : decode cX3_sail 47 = .ok (.putfield 51, 3) := by decide +kernel
theorem dX3_sail_50 : decode cX3_sail 50 = .ok (.aload_n 0, 1) := by decide +kernel
theorem dX3_sail_51 : decode cX3_sail 51 = .ok (.iconst 0, 1) := by decide +kernel
theorem dX3_sail_52 : decode cX3_sail 52 = .ok (.putfield 54, 3) := by decide +kernel
theorem dX3_sail_55 : decode cX3_sail 55 = .ok (.iconst 0, 1) := by decide +kernel
theorem dX3_sail_56 : decode cX3_sail 56 = .ok (.istore 5, 2) := by decide +kernel
theorem dX3_sail_58 : decode cX3_sail 58 = .ok (.iload 5, 2) := by decide +kernel
theorem dX3_sail_60 : decode cX3_sail 60 = .ok (.bipush 7, 2) := by decide +kernel
theorem dX3_sail_62 : decode cX3_sail 62 = .ok (.if_icmp .ge 66, 3) := by decide +kernel
theorem dX3_sail_65 : decode cX3_sail 65 = .ok (.aload_n 0, 1) := by decide +kernel
theorem dX3_sail_66 : decode cX3_sail 66 = .ok (.invokevirtual 57, 3) := by decide +kernel
theorem dX3_sail_69 : decode cX3_sail 69 = .ok (.istore 6, 2) := by decide +kernel
theorem dX3_sail_71 : decode cX3_sail 71 = .ok (.iload 6, 2) := by decide +kernel
theorem dX3_sail_73 : decode cX3_sail 73 = .ok (.iconst (-1), 1) := by decide +kernel
theorem dX3_sail_74 : decode cX3_sail 74 = .ok (.if_icmp .ne 6, 3) := by decide +kernel
theorem dX3_sail_77 : decode cX3_sail 77 = .ok (.goto 51, 3) := by decide +kernel
theorem dX3_sail_80 : decode cX3_sail 80 = .ok (.aload_n 0, 1) := by decide +kernel
theorem dX3_sail_81 : decode cX3_sail 81 = .ok (.aload_n 0, 1) := by decide +kernel
theorem dX3_sail_82 : decode cX3_sail 82 = .ok (.iload 6, 2) := by decide +kernel
theorem dX3_sail_84 : decode cX3_sail 84 = .ok (.invokevirtual 61, 3) := by decide +kernel
theorem dX3_sail_87 : decode cX3_sail 87 = .ok (.putfield 51, 3) := by decide +kernel
theorem dX3_sail_90 : decode cX3_sail 90 = .ok (.aload_n 0, 1) := by decide +kernel
theorem dX3_sail_91 : decode cX3_sail 91 = .ok (.dup, 1) := by decide +kernel
theorem dX3_sail_92 : decode cX3_sail 92 = .ok (.getfield 54, 3) := by decide +kernel
theorem dX3_sail_95 : decode cX3_sail 95 = .ok (.aload_n 0, 1) := by decide +kernel
theorem dX3_sail_96 : decode cX3_sail 96 = .ok (.getfield 20, 3) := by decide +kernel
theorem dX3_sail_99 : decode cX3_sail 99 = .ok (.getfield 65, 3) := by decide +kernel
theorem dX3_sail_102 : decode cX3_sail 102 = .ok (.iload 6, 2) := by decide +kernel
theorem dX3_sail_104 : decode cX3_sail 104 = .ok (.iaload, 1) := by decide +kernel
theorem dX3_sail_105 : decode cX3_sail 105 = .ok (.iadd, 1) := by decide +kernel
theorem dX3_sail_106 : decode cX3_sail 106 = .ok (.putfield 54, 3) := by decide +kernel
theorem dX3_sail_109 : decode cX3_sail 109 = .ok (.aload_n 0, 1) := by decide +kernel
theorem dX3_sail_110 : decode cX3_sail 110 = .ok (.dup, 1) := by decide +kernel
theorem dX3_sail_111 : decode cX3_sail 111 = .ok (.getfield 48, 3) := by decide +kernel
theorem dX3_sail_114 : decode cX3_sail 114 = .ok (.iconst 1, 1) := by decide +kernel
theorem dX3_sail_115 : decode cX3_sail 115 = .ok (.iload 6, 2) := by decide +kernel
theorem dX3_sail_117 : decode cX3_sail 117 = .ok (.ishl, 1) := by decide +kernel
theorem dX3_sail_118 : decode cX3_sail 118 = .ok (.ior, 1) := by decide +kernel
theorem dX3_sail_119 : decode cX3_sail 119 = .ok (.putfield 48, 3) := by decide +kernel
theorem dX3_sail_122 : decode cX3_sail 122 = .ok (.iinc 5 1, 3) := by decide +kernel
theorem dX3_sail_125 : decode cX3_sail 125 = .ok (.goto (-67), 3) := by decide +kernel
theorem dX3_sail_128 : decode cX3_sail 128 = .ok (.aload_n 0, 1) := by decide +kernel
theorem dX3_sail_129 : decode cX3_sail 129 = .ok (.getfield 48, 3) := by decide +kernel
theorem dX3_sail_132 : decode cX3_sail 132 = .ok (.ifCond .ne 38, 3) := by decide +kernel
theorem dX3_sail_135 : decode cX3_sail 135 = .ok (.aload_n 0, 1) := by decide +kernel
theorem dX3_sail_136 : decode cX3_sail 136 = .ok (.getfield 24, 3) := by decide +kernel
theorem dX3_sail_139 : decode cX3_sail 139 = .ok (.aload_n 0, 1) := by decide +kernel
theorem dX3_sail_140 : decode cX3_sail 140 = .ok (.getfield 20, 3) := by decide +kernel
theorem dX3_sail_143 : decode cX3_sail 143 = .ok (.iconst 0, 1) := by decide +kernel
theorem dX3_sail_144 : decode cX3_sail 144 = .ok (.aload_n 0, 1) := by decide +kernel
theorem dX3_sail_145 : decode cX3_sail 145 = .ok (.getfield 44, 3) := by decide +kernel
theorem dX3_sail_148 : decode cX3_sail 148 = .ok (.invokevirtual 69, 3) := by decide +kernel
theorem dX3_sail_151 : decode cX3_sail 151 = .ok (.ifCond .ne 19, 3) := by decide +kernel
theorem dX3_sail_154 : decode cX3_sail 154 = .ok (.aload_n 0, 1) := by decide +kernel
theorem dX3_sail_155 : decode cX3_sail 155 = .ok (.getfield 24, 3) := by decide +kernel
theorem dX3_sail_158 : decode cX3_sail 158 = .ok (.dup, 1) := by decide +kernel
theorem dX3_sail_159 : decode cX3_sail 159 = .ok (.getfield 32, 3) := by decide +kernel
theorem dX3_sail_162 : decode cX3_sail 162 = .ok (.iconst 1, 1) := by decide +kernel
theorem dX3_sail_163 : decode cX3_sail 163 = .ok (.iadd, 1) := by decide +kernel
theorem dX3_sail_164 : decode cX3_sail 164 = .ok (.putfield 32, 3) := by decide +kernel
theorem dX3_sail_167 : decode cX3_sail 167 = .ok (.goto 23, 3) := by decide +kernel
theorem dX3_sail_170 : decode cX3_sail 170 = .ok (.aload_n 0, 1) := by decide +kernel
theorem dX3_sail_171 : decode cX3_sail 171 = .ok (.getfield 24, 3) := by decide +kernel
theorem dX3_sail_174 : decode cX3_sail 174 = .ok (.aload_n 0, 1) := by decide +kernel
theorem dX3_sail_175 : decode cX3_sail 175 = .ok (.getfield 20, 3) := by decide +kernel
theorem dX3_sail_178 : decode cX3_sail 178 = .ok (.aload_n 0, 1) := by decide +kernel
theorem dX3_sail_179 : decode cX3_sail 179 = .ok (.getfield 48, 3) := by decide +kernel
theorem dX3_sail_182 : decode cX3_sail 182 = .ok (.aload_n 0, 1) := by decide +kernel
theorem dX3_sail_183 : decode cX3_sail 183 = .ok (.getfield 44, 3) := by decide +kernel
theorem dX3_sail_186 : decode cX3_sail 186 = .ok (.invokevirtual 73, 3) := by decide +kernel
theorem dX3_sail_189 : decode cX3_sail 189 = .ok (.pop, 1) := by decide +kernel
theorem dX3_sail_190 : decode cX3_sail 190 = .ok (.aload_n 0, 1) := by decide +kernel
theorem dX3_sail_191 : decode cX3_sail 191 = .ok (.getfield 48, 3) := by decide +kernel
theorem dX3_sail_194 : decode cX3_sail 194 = .ok (.ireturn, 1) := by decide +kernel
theorem dX3_fullWith_0 : decode cX3_fullWith 0 = .ok (.aload_n 0, 1) := by decide +kernel
theorem dX3_fullWith_1 : decode cX3_fullWith 1 = .ok (.getfield 51, 3) := by decide +kernel
theorem dX3_fullWith_4 : decode cX3_fullWith 4 = .ok (.aload_n 0, 1) := by decide +kernel
theorem dX3_fullWith_5 : decode cX3_fullWith 5 = .ok (.getfield 24, 3) := by decide +kernel
theorem dX3_fullWith_8 : decode cX3_fullWith 8 = .ok (.getfield 76, 3) := by decide +kernel
theorem dX3_fullWith_11 : decode cX3_fullWith 11 = .ok (.iload_n 1, 1) := by decide +kernel
theorem dX3_fullWith_12 : decode cX3_fullWith 12 = .ok (.iaload, 1) := by decide +kernel
theorem dX3_fullWith_13 : decode cX3_fullWith 13 = .ok (.iadd, 1) := by decide +kernel
theorem dX3_fullWith_14 : decode cX3_fullWith 14 = .ok (.aload_n 0, 1) := by decide +kernel
theorem dX3_fullWith_15 : decode cX3_fullWith 15 = .ok (.getfield 20, 3) := by decide +kernel
theorem dX3_fullWith_18 : decode cX3_fullWith 18 = .ok (.iload_n 1, 1) := by decide +kernel
theorem dX3_fullWith_19 : decode cX3_fullWith 19 = .ok (.aload_n 0, 1) := by decide +kernel
theorem dX3_fullWith_20 : decode cX3_fullWith 20 = .ok (.getfield 48, 3) := by decide +kernel
theorem dX3_fullWith_23 : decode cX3_fullWith 23 = .ok (.invokevirtual 79, 3) := by decide +kernel
theorem dX3_fullWith_26 : decode cX3_fullWith 26 = .ok (.iadd, 1) := by decide +kernel
theorem dX3_fullWith_27 : decode cX3_fullWith 27 = .ok (.ireturn, 1) := by decide +kernel
theorem dX3_nextAboard_0 : decode cX3_nextAboard 0 = .ok (.iconst (-1), 1) := by decide +kernel
theorem dX3_nextAboard_1 : decode cX3_nextAboard 1 = .ok (.istore_n 1, 1) := by decide +kernel
theorem dX3_nextAboard_2 : decode cX3_nextAboard 2 = .ok (.aload_n 0, 1) := by decide +kernel
theorem dX3_nextAboard_3 : decode cX3_nextAboard 3 = .ok (.getfield 48, 3) := by decide +kernel
theorem dX3_nextAboard_6 : decode cX3_nextAboard 6 = .ok (.invokestatic 83, 3) := by decide +kernel
theorem dX3_nextAboard_9 : decode cX3_nextAboard 9 = .ok (.aload_n 0, 1) := by decide +kernel
theorem dX3_nextAboard_10 : decode cX3_nextAboard 10 = .ok (.getfield 20, 3) := by decide +kernel
theorem dX3_nextAboard_13 : decode cX3_nextAboard 13 = .ok (.getfield 88, 3) := by decide +kernel
theorem dX3_nextAboard_16 : decode cX3_nextAboard 16 = .ok (.if_icmp .ge 21, 3) := by decide +kernel
theorem dX3_nextAboard_19 : decode cX3_nextAboard 19 = .ok (.aload_n 0, 1) := by decide +kernel
theorem dX3_nextAboard_20 : decode cX3_nextAboard 20 = .ok (.getfield 28, 3) := by decide +kernel
theorem dX3_nextAboard_23 : decode cX3_nextAboard 23 = .ok (.ifnonnull 16, 3) := by decide +kernel
theorem dX3_nextAboard_26 : decode cX3_nextAboard 26 = .ok (.aload_n 0, 1) := by decide +kernel
theorem dX3_nextAboard_27 : decode cX3_nextAboard 27 = .ok (.getfield 24, 3) := by decide +kernel
theorem dX3_nextAboard_30 : decode cX3_nextAboard 30 = .ok (.getfield 91, 3) := by decide +kernel
theorem dX3_nextAboard_33 : decode cX3_nextAboard 33 = .ok (.iconst 1, 1) := by decide +kernel
theorem dX3_nextAboard_34 : decode cX3_nextAboard 34 = .ok (.if_icmp .ne 5, 3) := by decide +kernel
theorem dX3_nextAboard_37 : decode cX3_nextAboard 37 = .ok (.iload_n 1, 1) := by decide +kernel
theorem dX3_nextAboard_38 : decode cX3_nextAboard 38 = .ok (.ireturn, 1) := by decide +kernel
theorem dX3_nextAboard_39 : decode cX3_nextAboard 39 = .ok (.aload_n 0, 1) := by decide +kernel
theorem dX3_nextAboard_40 : decode cX3_nextAboard 40 = .ok (.getfield 24, 3) := by decide +kernel
theorem dX3_nextAboard_43 : decode cX3_nextAboard 43 = .ok (.aload_n 0, 1) := by decide +kernel
theorem dX3_nextAboard_44 : decode cX3_nextAboard 44 = .ok (.getfield 20, 3) := by decide +kernel
theorem dX3_nextAboard_47 : decode cX3_nextAboard 47 = .ok (.invokevirtual 94, 3) := by decide +kernel
theorem dX3_nextAboard_50 : decode cX3_nextAboard 50 = .ok (.aload_n 0, 1) := by decide +kernel
theorem dX3_nextAboard_51 : decode cX3_nextAboard 51 = .ok (.getfield 48, 3) := by decide +kernel
theorem dX3_nextAboard_54 : decode cX3_nextAboard 54 = .ok (.iconst (-1), 1) := by decide +kernel
theorem dX3_nextAboard_55 : decode cX3_nextAboard 55 = .ok (.ixor, 1) := by decide +kernel
theorem dX3_nextAboard_56 : decode cX3_nextAboard 56 = .ok (.iand, 1) := by decide +kernel
theorem dX3_nextAboard_57 : decode cX3_nextAboard 57 = .ok (.istore_n 2, 1) := by decide +kernel
theorem dX3_nextAboard_58 : decode cX3_nextAboard 58 = .ok (.aload_n 0, 1) := by decide +kernel
theorem dX3_nextAboard_59 : decode cX3_nextAboard 59 = .ok (.getfield 20, 3) := by decide +kernel
theorem dX3_nextAboard_62 : decode cX3_nextAboard 62 = .ok (.aload_n 0, 1) := by decide +kernel
theorem dX3_nextAboard_63 : decode cX3_nextAboard 63 = .ok (.getfield 51, 3) := by decide +kernel
theorem dX3_nextAboard_66 : decode cX3_nextAboard 66 = .ok (.aload_n 0, 1) := by decide +kernel
theorem dX3_nextAboard_67 : decode cX3_nextAboard 67 = .ok (.getfield 54, 3) := by decide +kernel
theorem dX3_nextAboard_70 : decode cX3_nextAboard 70 = .ok (.aload_n 0, 1) := by decide +kernel
theorem dX3_nextAboard_71 : decode cX3_nextAboard 71 = .ok (.getfield 24, 3) := by decide +kernel
theorem dX3_nextAboard_74 : decode cX3_nextAboard 74 = .ok (.getfield 91, 3) := by decide +kernel
theorem dX3_nextAboard_77 : decode cX3_nextAboard 77 = .ok (.aload_n 0, 1) := by decide +kernel
theorem dX3_nextAboard_78 : decode cX3_nextAboard 78 = .ok (.getfield 44, 3) := by decide +kernel
theorem dX3_nextAboard_81 : decode cX3_nextAboard 81 = .ok (.invokevirtual 98, 3) := by decide +kernel
theorem dX3_nextAboard_84 : decode cX3_nextAboard 84 = .ok (.istore_n 3, 1) := by decide +kernel
theorem dX3_nextAboard_85 : decode cX3_nextAboard 85 = .ok (.aload_n 0, 1) := by decide +kernel
theorem dX3_nextAboard_86 : decode cX3_nextAboard 86 = .ok (.iload_n 3, 1) := by decide +kernel
theorem dX3_nextAboard_87 : decode cX3_nextAboard 87 = .ok (.iload_n 2, 1) := by decide +kernel
theorem dX3_nextAboard_88 : decode cX3_nextAboard 88 = .ok (.invokestatic 83, 3) := by decide +kernel
theorem dX3_nextAboard_91 : decode cX3_nextAboard 91 = .ok (.invokevirtual 102, 3) := by decide +kernel
theorem dX3_nextAboard_94 : decode cX3_nextAboard 94 = .ok (.lconst 0, 1) := by decide +kernel
theorem dX3_nextAboard_95 : decode cX3_nextAboard 95 = .ok (.lstore 4, 2) := by decide +kernel
theorem dX3_nextAboard_97 : decode cX3_nextAboard 97 = .ok (.iconst 0, 1) := by decide +kernel
theorem dX3_nextAboard_98 : decode cX3_nextAboard 98 = .ok (.istore 6, 2) := by decide +kernel
theorem dX3_nextAboard_100 : decode cX3_nextAboard 100 = .ok (.iload 6, 2) := by decide +kernel
theorem dX3_nextAboard_102 : decode cX3_nextAboard 102 = .ok (.aload_n 0, 1) := by decide +kernel
theorem dX3_nextAboard_103 : decode cX3_nextAboard 103 = .ok (.getfield 20, 3) := by decide +kernel
theorem dX3_nextAboard_106 : decode cX3_nextAboard 106 = .ok (.getfield 106, 3) := by decide +kernel
theorem dX3_nextAboard_109 : decode cX3_nextAboard 109 = .ok (.if_icmp .ge 107, 3) := by decide +kernel
theorem dX3_nextAboard_112 : decode cX3_nextAboard 112 = .ok (.iload_n 2, 1) := by decide +kernel
theorem dX3_nextAboard_113 : decode cX3_nextAboard 113 = .ok (.iload 6, 2) := by decide +kernel
theorem dX3_nextAboard_115 : decode cX3_nextAboard 115 = .ok (.ishr, 1) := by decide +kernel
theorem dX3_nextAboard_116 : decode cX3_nextAboard 116 = .ok (.iconst 1, 1) := by decide +kernel
theorem dX3_nextAboard_117 : decode cX3_nextAboard 117 = .ok (.iand, 1) := by decide +kernel
theorem dX3_nextAboard_118 : decode cX3_nextAboard 118 = .ok (.iconst 1, 1) := by decide +kernel
theorem dX3_nextAboard_119 : decode cX3_nextAboard 119 = .ok (.if_icmp .ne 91, 3) := by decide +kernel
theorem dX3_nextAboard_122 : decode cX3_nextAboard 122 = .ok (.aload_n 0, 1) := by decide +kernel
theorem dX3_nextAboard_123 : decode cX3_nextAboard 123 = .ok (.getfield 54, 3) := by decide +kernel
theorem dX3_nextAboard_126 : decode cX3_nextAboard 126 = .ok (.aload_n 0, 1) := by decide +kernel
theorem dX3_nextAboard_127 : decode cX3_nextAboard 127 = .ok (.getfield 20, 3) := by decide +kernel
theorem dX3_nextAboard_130 : decode cX3_nextAboard 130 = .ok (.getfield 65, 3) := by decide +kernel
theorem dX3_nextAboard_133 : decode cX3_nextAboard 133 = .ok (.iload 6, 2) := by decide +kernel
theorem dX3_nextAboard_135 : decode cX3_nextAboard 135 = .ok (.iaload, 1) := by decide +kernel
theorem dX3_nextAboard_136 : decode cX3_nextAboard 136 = .ok (.iadd, 1) := by decide +kernel
theorem dX3_nextAboard_137 : decode cX3_nextAboard 137 = .ok (.istore 7, 2) := by decide +kernel
theorem dX3_nextAboard_139 : decode cX3_nextAboard 139 = .ok (.aload_n 0, 1) := by decide +kernel
theorem dX3_nextAboard_140 : decode cX3_nextAboard 140 = .ok (.getfield 20, 3) := by decide +kernel
theorem dX3_nextAboard_143 : decode cX3_nextAboard 143 = .ok (.aload_n 0, 1) := by decide +kernel
theorem dX3_nextAboard_144 : decode cX3_nextAboard 144 = .ok (.iload 6, 2) := by decide +kernel
theorem dX3_nextAboard_146 : decode cX3_nextAboard 146 = .ok (.invokevirtual 61, 3) := by decide +kernel
theorem dX3_nextAboard_149 : decode cX3_nextAboard 149 = .ok (.iload 7, 2) := by decide +kernel
theorem dX3_nextAboard_151 : decode cX3_nextAboard 151 = .ok (.aload_n 0, 1) := by decide +kernel
theorem dX3_nextAboard_152 : decode cX3_nextAboard 152 = .ok (.getfield 24, 3) := by decide +kernel
theorem dX3_nextAboard_155 : decode cX3_nextAboard 155 = .ok (.getfield 91, 3) := by decide +kernel
theorem dX3_nextAboard_158 : decode cX3_nextAboard 158 = .ok (.aload_n 0, 1) := by decide +kernel
theorem dX3_nextAboard_159 : decode cX3_nextAboard 159 = .ok (.getfield 44, 3) := by decide +kernel
theorem dX3_nextAboard_162 : decode cX3_nextAboard 162 = .ok (.invokevirtual 98, 3) := by decide +kernel
theorem dX3_nextAboard_165 : decode cX3_nextAboard 165 = .ok (.istore 8, 2) := by decide +kernel
theorem dX3_nextAboard_167 : decode cX3_nextAboard 167 = .ok (.iload 8, 2) := by decide +kernel
theorem dX3_nextAboard_169 : decode cX3_nextAboard 169 = .ok (.aload_n 0, 1) := by decide +kernel
theorem dX3_nextAboard_170 : decode cX3_nextAboard 170 = .ok (.getfield 20, 3) := by decide +kernel
theorem dX3_nextAboard_173 : decode cX3_nextAboard 173 = .ok (.getfield 109, 3) := by decide +kernel
theorem dX3_nextAboard_176 : decode cX3_nextAboard 176 = .ok (.if_icmp .gt 16, 3) := by decide +kernel
theorem dX3_nextAboard_179 : decode cX3_nextAboard 179 = .ok (.aload_n 0, 1) := by decide +kernel
theorem dX3_nextAboard_180 : decode cX3_nextAboard 180 = .ok (.iload 6, 2) := by decide +kernel
theorem dX3_nextAboard_182 : decode cX3_nextAboard 182 = .ok (.iload 8, 2) := by decide +kernel
theorem dX3_nextAboard_184 : decode cX3_nextAboard 184 = .ok (.iload_n 3, 1) := by decide +kernel
theorem dX3_nextAboard_185 : decode cX3_nextAboard 185 = .ok (.isub, 1) := by decide +kernel
theorem dX3_nextAboard_186 : decode cX3_nextAboard 186 = .ok (.invokevirtual 112, 3) := by decide +kernel
theorem dX3_nextAboard_189 : decode cX3_nextAboard 189 = .ok (.goto 4, 3) := by decide +kernel
theorem dX3_nextAboard_192 : decode cX3_nextAboard 192 = .ok (.lconst 0, 1) := by decide +kernel
theorem dX3_nextAboard_193 : decode cX3_nextAboard 193 = .ok (.lstore 9, 2) := by decide +kernel
theorem dX3_nextAboard_195 : decode cX3_nextAboard 195 = .ok (.lload 9, 2) := by decide +kernel
theorem dX3_nextAboard_197 : decode cX3_nextAboard 197 = .ok (.lload 4, 2) := by decide +kernel
theorem dX3_nextAboard_199 : decode cX3_nextAboard 199 = .ok (.lcmp, 1) := by decide +kernel
theorem dX3_nextAboard_200 : decode cX3_nextAboard 200 = .ok (.ifCond .le 10, 3) := by decide +kernel
theorem dX3_nextAboard_203 : decode cX3_nextAboard 203 = .ok (.iload 6, 2) := by decide +kernel
theorem dX3_nextAboard_205 : decode cX3_nextAboard 205 = .ok (.istore_n 1, 1) := by decide +kernel
theorem dX3_nextAboard_206 : decode cX3_nextAboard 206 = .ok (.lload 9, 2) := by decide +kernel
theorem dX3_nextAboard_208 : decode cX3_nextAboard 208 = .ok (.lstore 4, 2) := by decide +kernel
theorem dX3_nextAboard_210 : decode cX3_nextAboard 210 = .ok (.iinc 6 1, 3) := by decide +kernel
theorem dX3_nextAboard_213 : decode cX3_nextAboard 213 = .ok (.goto (-113), 3) := by decide +kernel
theorem dX3_nextAboard_216 : decode cX3_nextAboard 216 = .ok (.iload_n 1, 1) := by decide +kernel
theorem dX3_nextAboard_217 : decode cX3_nextAboard 217 = .ok (.ireturn, 1) := by decide +kernel
theorem dX3_tellAll_0 : decode cX3_tellAll 0 = .ok (.aload_n 0, 1) := by decide +kernel
theorem dX3_tellAll_1 : decode cX3_tellAll 1 = .ok (.getfield 11, 3) := by decide +kernel
theorem dX3_tellAll_4 : decode cX3_tellAll 4 = .ok (.iconst 4, 1) := by decide +kernel
theorem dX3_tellAll_5 : decode cX3_tellAll 5 = .ok (.aload_n 0, 1) := by decide +kernel
theorem dX3_tellAll_6 : decode cX3_tellAll 6 = .ok (.getfield 24, 3) := by decide +kernel
theorem dX3_tellAll_9 : decode cX3_tellAll 9 = .ok (.getfield 91, 3) := by decide +kernel
theorem dX3_tellAll_12 : decode cX3_tellAll 12 = .ok (.i2l, 1) := by decide +kernel
theorem dX3_tellAll_13 : decode cX3_tellAll 13 = .ok (.lastore, 1) := by decide +kernel
theorem dX3_tellAll_14 : decode cX3_tellAll 14 = .ok (.aload_n 0, 1) := by decide +kernel
theorem dX3_tellAll_15 : decode cX3_tellAll 15 = .ok (.getfield 11, 3) := by decide +kernel
theorem dX3_tellAll_18 : decode cX3_tellAll 18 = .ok (.iconst 5, 1) := by decide +kernel
theorem dX3_tellAll_19 : decode cX3_tellAll 19 = .ok (.aload_n 0, 1) := by decide +kernel
theorem dX3_tellAll_20 : decode cX3_tellAll 20 = .ok (.getfield 24, 3) := by decide +kernel
theorem dX3_tellAll_23 : decode cX3_tellAll 23 = .ok (.getfield 32, 3) := by decide +kernel
theorem dX3_tellAll_26 : decode cX3_tellAll 26 = .ok (.i2l, 1) := by decide +kernel
theorem dX3_tellAll_27 : decode cX3_tellAll 27 = .ok (.lastore, 1) := by decide +kernel
theorem dX3_tellAll_28 : decode cX3_tellAll 28 = .ok (.aload_n 0, 1) := by decide +kernel
theorem dX3_tellAll_29 : decode cX3_tellAll 29 = .ok (.getfield 11, 3) := by decide +kernel
theorem dX3_tellAll_32 : decode cX3_tellAll 32 = .ok (.bipush 6, 2) := by decide +kernel
theorem dX3_tellAll_34 : decode cX3_tellAll 34 = .ok (.iload_n 1, 1) := by decide +kernel
theorem dX3_tellAll_35 : decode cX3_tellAll 35 = .ok (.i2l, 1) := by decide +kernel
theorem dX3_tellAll_36 : decode cX3_tellAll 36 = .ok (.lastore, 1) := by decide +kernel
theorem dX3_tellAll_37 : decode cX3_tellAll 37 = .ok (.aload_n 0, 1) := by decide +kernel
theorem dX3_tellAll_38 : decode cX3_tellAll 38 = .ok (.getfield 11, 3) := by decide +kernel
theorem dX3_tellAll_41 : decode cX3_tellAll 41 = .ok (.bipush 7, 2) := by decide +kernel
theorem dX3_tellAll_43 : decode cX3_tellAll 43 = .ok (.aload_n 0, 1) := by decide +kernel
theorem dX3_tellAll_44 : decode cX3_tellAll 44 = .ok (.getfield 20, 3) := by decide +kernel
theorem dX3_tellAll_47 : decode cX3_tellAll 47 = .ok (.getfield 109, 3) := by decide +kernel
theorem dX3_tellAll_50 : decode cX3_tellAll 50 = .ok (.iload_n 1, 1) := by decide +kernel
theorem dX3_tellAll_51 : decode cX3_tellAll 51 = .ok (.isub, 1) := by decide +kernel
theorem dX3_tellAll_52 : decode cX3_tellAll 52 = .ok (.i2l, 1) := by decide +kernel
theorem dX3_tellAll_53 : decode cX3_tellAll 53 = .ok (.lastore, 1) := by decide +kernel
theorem dX3_tellAll_54 : decode cX3_tellAll 54 = .ok (.aload_n 0, 1) := by decide +kernel
theorem dX3_tellAll_55 : decode cX3_tellAll 55 = .ok (.getfield 11, 3) := by decide +kernel
theorem dX3_tellAll_58 : decode cX3_tellAll 58 = .ok (.bipush 8, 2) := by decide +kernel
theorem dX3_tellAll_60 : decode cX3_tellAll 60 = .ok (.aload_n 0, 1) := by decide +kernel
theorem dX3_tellAll_61 : decode cX3_tellAll 61 = .ok (.getfield 48, 3) := by decide +kernel
theorem dX3_tellAll_64 : decode cX3_tellAll 64 = .ok (.invokestatic 83, 3) := by decide +kernel
theorem dX3_tellAll_67 : decode cX3_tellAll 67 = .ok (.i2l, 1) := by decide +kernel
theorem dX3_tellAll_68 : decode cX3_tellAll 68 = .ok (.lastore, 1) := by decide +kernel
theorem dX3_tellAll_69 : decode cX3_tellAll 69 = .ok (.aload_n 0, 1) := by decide +kernel
theorem dX3_tellAll_70 : decode cX3_tellAll 70 = .ok (.getfield 11, 3) := by decide +kernel
theorem dX3_tellAll_73 : decode cX3_tellAll 73 = .ok (.bipush 9, 2) := by decide +kernel
theorem dX3_tellAll_75 : decode cX3_tellAll 75 = .ok (.iload_n 2, 1) := by decide +kernel
theorem dX3_tellAll_76 : decode cX3_tellAll 76 = .ok (.i2l, 1) := by decide +kernel
theorem dX3_tellAll_77 : decode cX3_tellAll 77 = .ok (.lastore, 1) := by decide +kernel
theorem dX3_tellAll_78 : decode cX3_tellAll 78 = .ok (.aload_n 0, 1) := by decide +kernel
theorem dX3_tellAll_79 : decode cX3_tellAll 79 = .ok (.getfield 11, 3) := by decide +kernel
theorem dX3_tellAll_82 : decode cX3_tellAll 82 = .ok (.bipush 11, 2) := by decide +kernel
theorem dX3_tellAll_84 : decode cX3_tellAll 84 = .ok (.aload_n 0, 1) := by decide +kernel
theorem dX3_tellAll_85 : decode cX3_tellAll 85 = .ok (.getfield 44, 3) := by decide +kernel
theorem dX3_tellAll_88 : decode cX3_tellAll 88 = .ok (.ifCond .eq 7, 3) := by decide +kernel
theorem dX3_tellAll_91 : decode cX3_tellAll 91 = .ok (.lconst 1, 1) := by decide +kernel
theorem dX3_tellAll_92 : decode cX3_tellAll 92 = .ok (.goto 4, 3) := by decide +kernel
theorem dX3_tellAll_95 : decode cX3_tellAll 95 = .ok (.lconst 0, 1) := by decide +kernel
theorem dX3_tellAll_96 : decode cX3_tellAll 96 = .ok (.lastore, 1) := by decide +kernel
theorem dX3_tellAll_97 : decode cX3_tellAll 97 = .ok (.return_, 1) := by decide +kernel
theorem dX3_sumOf_0 : decode cX3_sumOf 0 = .ok (.aload_n 0, 1) := by decide +kernel
theorem dX3_sumOf_1 : decode cX3_sumOf 1 = .ok (.getfield 28, 3) := by decide +kernel
theorem dX3_sumOf_4 : decode cX3_sumOf 4 = .ok (.ifnonnull 5, 3) := by decide +kernel
theorem dX3_sumOf_7 : decode cX3_sumOf 7 = .ok (.lconst 1, 1) := by decide +kernel
theorem dX3_sumOf_8 : decode cX3_sumOf 8 = .ok (.lreturn, 1) := by decide +kernel
theorem dX3_sumOf_9 : decode cX3_sumOf 9 = .ok (.aload_n 0, 1) := by decide +kernel
theorem dX3_sumOf_10 : decode cX3_sumOf 10 = .ok (.getfield 11, 3) := by decide +kernel
theorem dX3_sumOf_13 : decode cX3_sumOf 13 = .ok (.iconst 0, 1) := by decide +kernel
theorem dX3_sumOf_14 : decode cX3_sumOf 14 = .ok (.iload_n 1, 1) := by decide +kernel
theorem dX3_sumOf_15 : decode cX3_sumOf 15 = .ok (.i2l, 1) := by decide +kernel
theorem dX3_sumOf_16 : decode cX3_sumOf 16 = .ok (.lastore, 1) := by decide +kernel
theorem dX3_sumOf_17 : decode cX3_sumOf 17 = .ok (.aload_n 0, 1) := by decide +kernel
theorem dX3_sumOf_18 : decode cX3_sumOf 18 = .ok (.getfield 11, 3) := by decide +kernel
theorem dX3_sumOf_21 : decode cX3_sumOf 21 = .ok (.iconst 1, 1) := by decide +kernel
theorem dX3_sumOf_22 : decode cX3_sumOf 22 = .ok (.aload_n 0, 1) := by decide +kernel
theorem dX3_sumOf_23 : decode cX3_sumOf 23 = .ok (.getfield 24, 3) := by decide +kernel
theorem dX3_sumOf_26 : decode cX3_sumOf 26 = .ok (.getfield 76, 3) := by decide +kernel
theorem dX3_sumOf_29 : decode cX3_sumOf 29 = .ok (.iload_n 1, 1) := by decide +kernel
theorem dX3_sumOf_30 : decode cX3_sumOf 30 = .ok (.iaload, 1) := by decide +kernel
theorem dX3_sumOf_31 : decode cX3_sumOf 31 = .ok (.i2l, 1) := by decide +kernel
theorem dX3_sumOf_32 : decode cX3_sumOf 32 = .ok (.lastore, 1) := by decide +kernel
theorem dX3_sumOf_33 : decode cX3_sumOf 33 = .ok (.aload_n 0, 1) := by decide +kernel
theorem dX3_sumOf_34 : decode cX3_sumOf 34 = .ok (.getfield 11, 3) := by decide +kernel
theorem dX3_sumOf_37 : decode cX3_sumOf 37 = .ok (.iconst 2, 1) := by decide +kernel
theorem dX3_sumOf_38 : decode cX3_sumOf 38 = .ok (.aload_n 0, 1) := by decide +kernel
theorem dX3_sumOf_39 : decode cX3_sumOf 39 = .ok (.getfield 20, 3) := by decide +kernel
theorem dX3_sumOf_42 : decode cX3_sumOf 42 = .ok (.getfield 116, 3) := by decide +kernel
theorem dX3_sumOf_45 : decode cX3_sumOf 45 = .ok (.iload_n 1, 1) := by decide +kernel
theorem dX3_sumOf_46 : decode cX3_sumOf 46 = .ok (.iaload, 1) := by decide +kernel
theorem dX3_sumOf_47 : decode cX3_sumOf 47 = .ok (.i2l, 1) := by decide +kernel
theorem dX3_sumOf_48 : decode cX3_sumOf 48 = .ok (.lastore, 1) := by decide +kernel
theorem dX3_sumOf_49 : decode cX3_sumOf 49 = .ok (.aload_n 0, 1) := by decide +kernel
theorem dX3_sumOf_50 : decode cX3_sumOf 50 = .ok (.getfield 11, 3) := by decide +kernel
theorem dX3_sumOf_53 : decode cX3_sumOf 53 = .ok (.iconst 3, 1) := by decide +kernel
theorem dX3_sumOf_54 : decode cX3_sumOf 54 = .ok (.aload_n 0, 1) := by decide +kernel
theorem dX3_sumOf_55 : decode cX3_sumOf 55 = .ok (.getfield 20, 3) := by decide +kernel
theorem dX3_sumOf_58 : decode cX3_sumOf 58 = .ok (.getfield 65, 3) := by decide +kernel
theorem dX3_sumOf_61 : decode cX3_sumOf 61 = .ok (.iload_n 1, 1) := by decide +kernel
theorem dX3_sumOf_62 : decode cX3_sumOf 62 = .ok (.iaload, 1) := by decide +kernel
theorem dX3_sumOf_63 : decode cX3_sumOf 63 = .ok (.i2l, 1) := by decide +kernel
theorem dX3_sumOf_64 : decode cX3_sumOf 64 = .ok (.lastore, 1) := by decide +kernel
theorem dX3_sumOf_65 : decode cX3_sumOf 65 = .ok (.aload_n 0, 1) := by decide +kernel
theorem dX3_sumOf_66 : decode cX3_sumOf 66 = .ok (.getfield 11, 3) := by decide +kernel
theorem dX3_sumOf_69 : decode cX3_sumOf 69 = .ok (.bipush 10, 2) := by decide +kernel
theorem dX3_sumOf_71 : decode cX3_sumOf 71 = .ok (.iload_n 2, 1) := by decide +kernel
theorem dX3_sumOf_72 : decode cX3_sumOf 72 = .ok (.i2l, 1) := by decide +kernel
theorem dX3_sumOf_73 : decode cX3_sumOf 73 = .ok (.lastore, 1) := by decide +kernel
theorem dX3_sumOf_74 : decode cX3_sumOf 74 = .ok (.aload_n 0, 1) := by decide +kernel
theorem dX3_sumOf_75 : decode cX3_sumOf 75 = .ok (.getfield 28, 3) := by decide +kernel
theorem dX3_sumOf_78 : decode cX3_sumOf 78 = .ok (.aload_n 0, 1) := by decide +kernel
theorem dX3_sumOf_79 : decode cX3_sumOf 79 = .ok (.getfield 11, 3) := by decide +kernel
theorem dX3_sumOf_82 : decode cX3_sumOf 82 = .ok (.aload_n 0, 1) := by decide +kernel
theorem dX3_sumOf_83 : decode cX3_sumOf 83 = .ok (.getfield 17, 3) := by decide +kernel
theorem dX3_sumOf_86 : decode cX3_sumOf 86 = .ok (.invokevirtual 119, 3) := by decide +kernel
theorem dX3_sumOf_89 : decode cX3_sumOf 89 = .ok (.lreturn, 1) := by decide +kernel
theorem dX4_init_0 : decode cX4_init 0 = .ok (.aload_n 0, 1) := by decide +kernel
theorem dX4_init_1 : decode cX4_init 1 = .ok (.invokespecial 3, 3) := by decide +kernel
theorem dX4_init_4 : decode cX4_init 4 = .ok (.aload_n 0, 1) := by decide +kernel
theorem dX4_init_5 : decode cX4_init 5 = .ok (.bipush 7, 2) := by decide +kernel
theorem dX4_init_7 : decode cX4_init 7 = .ok (.newarray .int, 2) := by decide +kernel
theorem dX4_init_9 : decode cX4_init 9 = .ok (.putfield 9, 3) := by decide +kernel
theorem dX4_init_12 : decode cX4_init 12 = .ok (.aload_n 0, 1) := by decide +kernel
theorem dX4_init_13 : decode cX4_init 13 = .ok (.bipush 7, 2) := by decide +kernel
theorem dX4_init_15 : decode cX4_init 15 = .ok (.newarray .int, 2) := by decide +kernel
theorem dX4_init_17 : decode cX4_init 17 = .ok (.putfield 15, 3) := by decide +kernel
theorem dX4_init_20 : decode cX4_init 20 = .ok (.aload_n 0, 1) := by decide +kernel
theorem dX4_init_21 : decode cX4_init 21 = .ok (.new 18, 3) := by decide +kernel
theorem dX4_init_24 : decode cX4_init 24 = .ok (.dup, 1) := by decide +kernel
theorem dX4_init_25 : decode cX4_init 25 = .ok (.invokespecial 20, 3) := by decide +kernel
theorem dX4_init_28 : decode cX4_init 28 = .ok (.putfield 21, 3) := by decide +kernel
theorem dX4_init_31 : decode cX4_init 31 = .ok (.aload_n 0, 1) := by decide +kernel
theorem dX4_init_32 : decode cX4_init 32 = .ok (.sipush 256, 3) := by decide +kernel
theorem dX4_init_35 : decode cX4_init 35 = .ok (.newarray .int, 2) := by decide +kernel
theorem dX4_init_37 : decode cX4_init 37 = .ok (.putfield 25, 3) := by decide +kernel
theorem dX4_init_40 : decode cX4_init 40 = .ok (.aload_n 0, 1) := by decide +kernel
theorem dX4_init_41 : decode cX4_init 41 = .ok (.sipush 256, 3) := by decide +kernel
theorem dX4_init_44 : decode cX4_init 44 = .ok (.newarray .int, 2) := by decide +kernel
theorem dX4_init_46 : decode cX4_init 46 = .ok (.putfield 28, 3) := by decide +kernel
theorem dX4_init_49 : decode cX4_init 49 = .ok (.aload_n 0, 1) := by decide +kernel
theorem dX4_init_50 : decode cX4_init 50 = .ok (.sipush 256, 3) := by decide +kernel
theorem dX4_init_53 : decode cX4_init 53 = .ok (.newarray .boolean, 2) := by decide +kernel
theorem dX4_init_55 : decode cX4_init 55 = .ok (.putfield 31, 3) := by decide +kernel
theorem dX4_init_58 : decode cX4_init 58 = .ok (.return_, 1) := by decide +kernel
theorem dX4_begin_0 : decode cX4_begin 0 = .ok (.aload_n 0, 1) := by decide +kernel
theorem dX4_begin_1 : decode cX4_begin 1 = .ok (.aload_n 1, 1) := by decide +kernel
theorem dX4_begin_2 : decode cX4_begin 2 = .ok (.getfield 35, 3) := by decide +kernel
theorem dX4_begin_5 : decode cX4_begin 5 = .ok (.putfield 41, 3) := by decide +kernel
theorem dX4_begin_8 : decode cX4_begin 8 = .ok (.aload_n 0, 1) := by decide +kernel
theorem dX4_begin_9 : decode cX4_begin 9 = .ok (.aload_n 1, 1) := by decide +kernel
theorem dX4_begin_10 : decode cX4_begin 10 = .ok (.getfield 42, 3) := by decide +kernel
theorem dX4_begin_13 : decode cX4_begin 13 = .ok (.putfield 45, 3) := by decide +kernel
theorem dX4_begin_16 : decode cX4_begin 16 = .ok (.aload_n 0, 1) := by decide +kernel
theorem dX4_begin_17 : decode cX4_begin 17 = .ok (.aload_n 1, 1) := by decide +kernel
theorem dX4_begin_18 : decode cX4_begin 18 = .ok (.invokevirtual 46, 3) := by decide +kernel
theorem dX4_begin_21 : decode cX4_begin 21 = .ok (.putfield 50, 3) := by decide +kernel
theorem dX4_begin_24 : decode cX4_begin 24 = .ok (.aload_n 0, 1) := by decide +kernel
theorem dX4_begin_25 : decode cX4_begin 25 = .ok (.aload_n 0, 1) := by decide +kernel
theorem dX4_begin_26 : decode cX4_begin 26 = .ok (.getfield 41, 3) := by decide +kernel
theorem dX4_begin_29 : decode cX4_begin 29 = .ok (.invokevirtual 54, 3) := by decide +kernel
theorem dX4_begin_32 : decode cX4_begin 32 = .ok (.putfield 60, 3) := by decide +kernel
theorem dX4_begin_35 : decode cX4_begin 35 = .ok (.aload_n 0, 1) := by decide +kernel
theorem dX4_begin_36 : decode cX4_begin 36 = .ok (.aload_n 0, 1) := by decide +kernel
theorem dX4_begin_37 : decode cX4_begin 37 = .ok (.getfield 45, 3) := by decide +kernel
theorem dX4_begin_40 : decode cX4_begin 40 = .ok (.aload_n 0, 1) := by decide +kernel
theorem dX4_begin_41 : decode cX4_begin 41 = .ok (.getfield 41, 3) := by decide +kernel
theorem dX4_begin_44 : decode cX4_begin 44 = .ok (.invokevirtual 63, 3) := by decide +kernel
theorem dX4_begin_47 : decode cX4_begin 47 = .ok (.putfield 67, 3) := by decide +kernel
theorem dX4_begin_50 : decode cX4_begin 50 = .ok (.aload_n 0, 1) := by decide +kernel
theorem dX4_begin_51 : decode cX4_begin 51 = .ok (.getfield 21, 3) := by decide +kernel
theorem dX4_begin_54 : decode cX4_begin 54 = .ok (.aload_n 0, 1) := by decide +kernel
theorem dX4_begin_55 : decode cX4_begin 55 = .ok (.getfield 45, 3) := by decide +kernel
theorem dX4_begin_58 : decode cX4_begin 58 = .ok (.invokevirtual 69, 3) := by decide +kernel
theorem dX4_begin_61 : decode cX4_begin 61 = .ok (.aload_n 0, 1) := by decide +kernel
theorem dX4_begin_62 : decode cX4_begin 62 = .ok (.getfield 21, 3) := by decide +kernel
theorem dX4_begin_65 : decode cX4_begin 65 = .ok (.aload_n 0, 1) := by decide +kernel
theorem dX4_begin_66 : decode cX4_begin 66 = .ok (.getfield 41, 3) := by decide +kernel
theorem dX4_begin_69 : decode cX4_begin 69 = .ok (.aload_n 0, 1) := by decide +kernel
theorem dX4_begin_70 : decode cX4_begin 70 = .ok (.getfield 60, 3) := by decide +kernel
theorem dX4_begin_73 : decode cX4_begin 73 = .ok (.invokevirtual 73, 3) := by decide +kernel
theorem dX4_begin_76 : decode cX4_begin 76 = .ok (.return_, 1) := by decide +kernel
theorem dX4_isSafe_0 : decode cX4_isSafe 0 = .ok (.aload_n 0, 1) := by decide +kernel
theorem dX4_isSafe_1 : decode cX4_isSafe 1 = .ok (.getfield 21, 3) := by decide +kernel
theorem dX4_isSafe_4 : decode cX4_isSafe 4 = .ok (.aload_n 0, 1) := by decide +kernel
theorem dX4_isSafe_5 : decode cX4_isSafe 5 = .ok (.getfield 41, 3) := by decide +kernel
theorem dX4_isSafe_8 : decode cX4_isSafe 8 = .ok (.iload_n 1, 1) := by decide +kernel
theorem dX4_isSafe_9 : decode cX4_isSafe 9 = .ok (.aload_n 0, 1) := by decide +kernel
theorem dX4_isSafe_10 : decode cX4_isSafe 10 = .ok (.getfield 50, 3) := by decide +kernel
theorem dX4_isSafe_13 : decode cX4_isSafe 13 = .ok (.invokevirtual 77, 3) := by decide +kernel
theorem dX4_isSafe_16 : decode cX4_isSafe 16 = .ok (.ireturn, 1) := by decide +kernel
theorem dX4_largestSafeSet_0 : decode cX4_largestSafeSet 0 = .ok (.iconst (-1), 1) := by decide +kernel
theorem dX4_largestSafeSet_1 : decode cX4_largestSafeSet 1 = .ok (.istore_n 1, 1) := by decide +kernel
theorem dX4_largestSafeSet_2 : decode cX4_largestSafeSet 2 = .ok (.iconst (-1), 1) := by decide +kernel
theorem dX4_largestSafeSet_3 : decode cX4_largestSafeSet 3 = .ok (.istore_n 2, 1) := by decide +kernel
theorem dX4_largestSafeSet_4 : decode cX4_largestSafeSet 4 = .ok (.iconst 0, 1) := by decide +kernel
theorem dX4_largestSafeSet_5 : decode cX4_largestSafeSet 5 = .ok (.istore_n 3, 1) := by decide +kernel
theorem dX4_largestSafeSet_6 : decode cX4_largestSafeSet 6 = .ok (.iload_n 3, 1) := by decide +kernel
theorem dX4_largestSafeSet_7 : decode cX4_largestSafeSet 7 = .ok (.aload_n 0, 1) := by decide +kernel
theorem dX4_largestSafeSet_8 : decode cX4_largestSafeSet 8 = .ok (.getfield 60, 3) := by decide +kernel
theorem dX4_largestSafeSet_11 : decode cX4_largestSafeSet 11 = .ok (.if_icmp .gt 32, 3) := by decide +kernel
theorem dX4_largestSafeSet_14 : decode cX4_largestSafeSet 14 = .ok (.iload_n 3, 1) := by decide +kernel
theorem dX4_largestSafeSet_15 : decode cX4_largestSafeSet 15 = .ok (.invokestatic 81, 3) := by decide +kernel
theorem dX4_largestSafeSet_18 : decode cX4_largestSafeSet 18 = .ok (.iload_n 2, 1) := by decide +kernel
theorem dX4_largestSafeSet_19 : decode cX4_largestSafeSet 19 = .ok (.if_icmp .le 18, 3) := by decide +kernel
theorem dX4_largestSafeSet_22 : decode cX4_largestSafeSet 22 = .ok (.aload_n 0, 1) := by decide +kernel
theorem dX4_largestSafeSet_23 : decode cX4_largestSafeSet 23 = .ok (.iload_n 3, 1) := by decide +kernel
theorem dX4_largestSafeSet_24 : decode cX4_largestSafeSet 24 = .ok (.invokevirtual 87, 3) := by decide +kernel
theorem dX4_largestSafeSet_27 : decode cX4_largestSafeSet 27 = .ok (.ifCond .eq 10, 3) := by decide +kernel
theorem dX4_largestSafeSet_30 : decode cX4_largestSafeSet 30 = .ok (.iload_n 3, 1) := by decide +kernel
theorem dX4_largestSafeSet_31 : decode cX4_largestSafeSet 31 = .ok (.istore_n 1, 1) := by decide +kernel
theorem dX4_largestSafeSet_32 : decode cX4_largestSafeSet 32 = .ok (.iload_n 3, 1) := by decide +kernel
theorem dX4_largestSafeSet_33 : decode cX4_largestSafeSet 33 = .ok (.invokestatic 81, 3) := by decide +kernel
theorem dX4_largestSafeSet_36 : decode cX4_largestSafeSet 36 = .ok (.istore_n 2, 1) := by decide +kernel
theorem dX4_largestSafeSet_37 : decode cX4_largestSafeSet 37 = .ok (.iinc 3 1, 3) := by decide +kernel
theorem dX4_largestSafeSet_40 : decode cX4_largestSafeSet 40 = .ok (.goto (-34), 3) := by decide +kernel
theorem dX4_largestSafeSet_43 : decode cX4_largestSafeSet 43 = .ok (.iload_n 1, 1) := by decide +kernel
theorem dX4_largestSafeSet_44 : decode cX4_largestSafeSet 44 = .ok (.ireturn, 1) := by decide +kernel
theorem dX4_neverSafe_0 : decode cX4_neverSafe 0 = .ok (.iconst 0, 1) := by decide +kernel
theorem dX4_neverSafe_1 : decode cX4_neverSafe 1 = .ok (.istore_n 1, 1) := by decide +kernel
theorem dX4_neverSafe_2 : decode cX4_neverSafe 2 = .ok (.iconst 0, 1) := by decide +kernel
theorem dX4_neverSafe_3 : decode cX4_neverSafe 3 = .ok (.istore_n 2, 1) := by decide +kernel
theorem dX4_neverSafe_4 : decode cX4_neverSafe 4 = .ok (.iload_n 2, 1) := by decide +kernel
theorem dX4_neverSafe_5 : decode cX4_neverSafe 5 = .ok (.aload_n 0, 1) := by decide +kernel
theorem dX4_neverSafe_6 : decode cX4_neverSafe 6 = .ok (.getfield 60, 3) := by decide +kernel
theorem dX4_neverSafe_9 : decode cX4_neverSafe 9 = .ok (.if_icmp .gt 29, 3) := by decide +kernel
theorem dX4_neverSafe_12 : decode cX4_neverSafe 12 = .ok (.iload_n 2, 1) := by decide +kernel
theorem dX4_neverSafe_13 : decode cX4_neverSafe 13 = .ok (.iload_n 1, 1) := by decide +kernel
theorem dX4_neverSafe_14 : decode cX4_neverSafe 14 = .ok (.iconst (-1), 1) := by decide +kernel
theorem dX4_neverSafe_15 : decode cX4_neverSafe 15 = .ok (.ixor, 1) := by decide +kernel
theorem dX4_neverSafe_16 : decode cX4_neverSafe 16 = .ok (.iand, 1) := by decide +kernel
theorem dX4_neverSafe_17 : decode cX4_neverSafe 17 = .ok (.ifCond .eq 15, 3) := by decide +kernel
theorem dX4_neverSafe_20 : decode cX4_neverSafe 20 = .ok (.aload_n 0, 1) := by decide +kernel
theorem dX4_neverSafe_21 : decode cX4_neverSafe 21 = .ok (.iload_n 2, 1) := by decide +kernel
theorem dX4_neverSafe_22 : decode cX4_neverSafe 22 = .ok (.invokevirtual 87, 3) := by decide +kernel
theorem dX4_neverSafe_25 : decode cX4_neverSafe 25 = .ok (.ifCond .eq 7, 3) := by decide +kernel
theorem dX4_neverSafe_28 : decode cX4_neverSafe 28 = .ok (.iload_n 1, 1) := by decide +kernel
theorem dX4_neverSafe_29 : decode cX4_neverSafe 29 = .ok (.iload_n 2, 1) := by decide +kernel
theorem dX4_neverSafe_30 : decode cX4_neverSafe 30 = .ok (.ior, 1) := by decide +kernel
theorem dX4_neverSafe_31 : decode cX4_neverSafe 31 = .ok (.istore_n 1, 1) := by decide +kernel
theorem dX4_neverSafe_32 : decode cX4_neverSafe 32 = .ok (.iinc 2 1, 3) := by decide +kernel
theorem dX4_neverSafe_35 : decode cX4_neverSafe 35 = .ok (.goto (-31), 3) := by decide +kernel
theorem dX4_neverSafe_38 : decode cX4_neverSafe 38 = .ok (.aload_n 0, 1) := by decide +kernel
theorem dX4_neverSafe_39 : decode cX4_neverSafe 39 = .ok (.getfield 67, 3) := by decide +kernel
theorem dX4_neverSafe_42 : decode cX4_neverSafe 42 = .ok (.iload_n 1, 1) := by decide +kernel
theorem dX4_neverSafe_43 : decode cX4_neverSafe 43 = .ok (.iconst (-1), 1) := by decide +kernel
theorem dX4_neverSafe_44 : decode cX4_neverSafe 44 = .ok (.ixor, 1) := by decide +kernel
theorem dX4_neverSafe_45 : decode cX4_neverSafe 45 = .ok (.iand, 1) := by decide +kernel
theorem dX4_neverSafe_46 : decode cX4_neverSafe 46 = .ok (.ireturn, 1) := by decide +kernel
theorem dX4_leastThrown_0 : decode cX4_leastThrown 0 = .ok (.aload_n 0, 1) := by decide +kernel
theorem dX4_leastThrown_1 : decode cX4_leastThrown 1 = .ok (.getfield 41, 3) := by decide +kernel
theorem dX4_leastThrown_4 : decode cX4_leastThrown 4 = .ok (.getfield 91, 3) := by decide +kernel
theorem dX4_leastThrown_7 : decode cX4_leastThrown 7 = .ok (.aload_n 0, 1) := by decide +kernel
theorem dX4_leastThrown_8 : decode cX4_leastThrown 8 = .ok (.getfield 41, 3) := by decide +kernel
theorem dX4_leastThrown_11 : decode cX4_leastThrown 11 = .ok (.iload_n 1, 1) := by decide +kernel
theorem dX4_leastThrown_12 : decode cX4_leastThrown 12 = .ok (.invokevirtual 94, 3) := by decide +kernel
theorem dX4_leastThrown_15 : decode cX4_leastThrown 15 = .ok (.iadd, 1) := by decide +kernel
theorem dX4_leastThrown_16 : decode cX4_leastThrown 16 = .ok (.aload_n 0, 1) := by decide +kernel
theorem dX4_leastThrown_17 : decode cX4_leastThrown 17 = .ok (.getfield 50, 3) := by decide +kernel
theorem dX4_leastThrown_20 : decode cX4_leastThrown 20 = .ok (.ifCond .eq 13, 3) := by decide +kernel
theorem dX4_leastThrown_23 : decode cX4_leastThrown 23 = .ok (.aload_n 0, 1) := by decide +kernel
theorem dX4_leastThrown_24 : decode cX4_leastThrown 24 = .ok (.getfield 41, 3) := by decide +kernel
theorem dX4_leastThrown_27 : decode cX4_leastThrown 27 = .ok (.getfield 97, 3) := by decide +kernel
theorem dX4_leastThrown_30 : decode cX4_leastThrown 30 = .ok (.goto 4, 3) := by decide +kernel
theorem dX4_leastThrown_33 : decode cX4_leastThrown 33 = .ok (.iconst 0, 1) := by decide +kernel
theorem dX4_leastThrown_34 : decode cX4_leastThrown 34 = .ok (.isub, 1) := by decide +kernel
theorem dX4_leastThrown_35 : decode cX4_leastThrown 35 = .ok (.istore_n 2, 1) := by decide +kernel
theorem dX4_leastThrown_36 : decode cX4_leastThrown 36 = .ok (.iload_n 2, 1) := by decide +kernel
theorem dX4_leastThrown_37 : decode cX4_leastThrown 37 = .ok (.ifCond .ge 6, 3) := by decide +kernel
theorem dX4_leastThrown_40 : decode cX4_leastThrown 40 = .ok (.bipush (-2), 2) := by decide +kernel
theorem dX4_leastThrown_42 : decode cX4_leastThrown 42 = .ok (.ireturn, 1) := by decide +kernel
theorem dX4_leastThrown_43 : decode cX4_leastThrown 43 = .ok (.aload_n 0, 1) := by decide +kernel
theorem dX4_leastThrown_44 : decode cX4_leastThrown 44 = .ok (.getfield 45, 3) := by decide +kernel
theorem dX4_leastThrown_47 : decode cX4_leastThrown 47 = .ok (.getfield 99, 3) := by decide +kernel
theorem dX4_leastThrown_50 : decode cX4_leastThrown 50 = .ok (.iconst 1, 1) := by decide +kernel
theorem dX4_leastThrown_51 : decode cX4_leastThrown 51 = .ok (.if_icmp .ne 11, 3) := by decide +kernel
theorem dX4_leastThrown_54 : decode cX4_leastThrown 54 = .ok (.iconst 2, 1) := by decide +kernel
theorem dX4_leastThrown_55 : decode cX4_leastThrown 55 = .ok (.iload_n 2, 1) := by decide +kernel
theorem dX4_leastThrown_56 : decode cX4_leastThrown 56 = .ok (.imul, 1) := by decide +kernel
theorem dX4_leastThrown_57 : decode cX4_leastThrown 57 = .ok (.iconst 1, 1) := by decide +kernel
theorem dX4_leastThrown_58 : decode cX4_leastThrown 58 = .ok (.iadd, 1) := by decide +kernel
theorem dX4_leastThrown_59 : decode cX4_leastThrown 59 = .ok (.goto 4, 3) := by decide +kernel
theorem dX4_leastThrown_62 : decode cX4_leastThrown 62 = .ok (.iload_n 2, 1) := by decide +kernel
theorem dX4_leastThrown_63 : decode cX4_leastThrown 63 = .ok (.istore_n 3, 1) := by decide +kernel
theorem dX4_leastThrown_64 : decode cX4_leastThrown 64 = .ok (.aload_n 0, 1) := by decide +kernel
theorem dX4_leastThrown_65 : decode cX4_leastThrown 65 = .ok (.getfield 21, 3) := by decide +kernel
theorem dX4_leastThrown_68 : decode cX4_leastThrown 68 = .ok (.aload_n 0, 1) := by decide +kernel
theorem dX4_leastThrown_69 : decode cX4_leastThrown 69 = .ok (.getfield 41, 3) := by decide +kernel
theorem dX4_leastThrown_72 : decode cX4_leastThrown 72 = .ok (.iload_n 1, 1) := by decide +kernel
theorem dX4_leastThrown_73 : decode cX4_leastThrown 73 = .ok (.invokevirtual 102, 3) := by decide +kernel
theorem dX4_leastThrown_76 : decode cX4_leastThrown 76 = .ok (.iload_n 3, 1) := by decide +kernel
theorem dX4_leastThrown_77 : decode cX4_leastThrown 77 = .ok (.isub, 1) := by decide +kernel
theorem dX4_leastThrown_78 : decode cX4_leastThrown 78 = .ok (.istore 4, 2) := by decide +kernel
theorem dX4_leastThrown_80 : decode cX4_leastThrown 80 = .ok (.iload 4, 2) := by decide +kernel
theorem dX4_leastThrown_82 : decode cX4_leastThrown 82 = .ok (.ifCond .gt 7, 3) := by decide +kernel
theorem dX4_leastThrown_85 : decode cX4_leastThrown 85 = .ok (.iconst 0, 1) := by decide +kernel
theorem dX4_leastThrown_86 : decode cX4_leastThrown 86 = .ok (.goto 13, 3) := by decide +kernel
theorem dX4_leastThrown_89 : decode cX4_leastThrown 89 = .ok (.aload_n 0, 1) := by decide +kernel
theorem dX4_leastThrown_90 : decode cX4_leastThrown 90 = .ok (.iconst 0, 1) := by decide +kernel
theorem dX4_leastThrown_91 : decode cX4_leastThrown 91 = .ok (.iload_n 1, 1) := by decide +kernel
theorem dX4_leastThrown_92 : decode cX4_leastThrown 92 = .ok (.iload 4, 2) := by decide +kernel
theorem dX4_leastThrown_94 : decode cX4_leastThrown 94 = .ok (.iconst 0, 1) := by decide +kernel
theorem dX4_leastThrown_95 : decode cX4_leastThrown 95 = .ok (.iconst 0, 1) := by decide +kernel
theorem dX4_leastThrown_96 : decode cX4_leastThrown 96 = .ok (.invokevirtual 106, 3) := by decide +kernel
theorem dX4_leastThrown_99 : decode cX4_leastThrown 99 = .ok (.istore 5, 2) := by decide +kernel
theorem dX4_leastThrown_101 : decode cX4_leastThrown 101 = .ok (.iload 5, 2) := by decide +kernel
theorem dX4_leastThrown_103 : decode cX4_leastThrown 103 = .ok (.ldc 110, 2) := by decide +kernel
theorem dX4_leastThrown_105 : decode cX4_leastThrown 105 = .ok (.if_icmp .ge 8, 3) := by decide +kernel
theorem dX4_leastThrown_108 : decode cX4_leastThrown 108 = .ok (.iload 5, 2) := by decide +kernel
theorem dX4_leastThrown_110 : decode cX4_leastThrown 110 = .ok (.goto 5, 3) := by decide +kernel
theorem dX4_leastThrown_113 : decode cX4_leastThrown 113 = .ok (.bipush (-2), 2) := by decide +kernel
theorem dX4_leastThrown_115 : decode cX4_leastThrown 115 = .ok (.ireturn, 1) := by decide +kernel
theorem dX4_leastFrom_0 : decode cX4_leastFrom 0 = .ok (.iload_n 1, 1) := by decide +kernel
theorem dX4_leastFrom_1 : decode cX4_leastFrom 1 = .ok (.aload_n 0, 1) := by decide +kernel
theorem dX4_leastFrom_2 : decode cX4_leastFrom 2 = .ok (.getfield 41, 3) := by decide +kernel
theorem dX4_leastFrom_5 : decode cX4_leastFrom 5 = .ok (.getfield 111, 3) := by decide +kernel
theorem dX4_leastFrom_8 : decode cX4_leastFrom 8 = .ok (.if_icmp .lt 28, 3) := by decide +kernel
theorem dX4_leastFrom_11 : decode cX4_leastFrom 11 = .ok (.iconst 0, 1) := by decide +kernel
theorem dX4_leastFrom_12 : decode cX4_leastFrom 12 = .ok (.iload_n 3, 1) := by decide +kernel
theorem dX4_leastFrom_13 : decode cX4_leastFrom 13 = .ok (.invokestatic 114, 3) := by decide +kernel
theorem dX4_leastFrom_16 : decode cX4_leastFrom 16 = .ok (.istore 6, 2) := by decide +kernel
theorem dX4_leastFrom_18 : decode cX4_leastFrom 18 = .ok (.iload 6, 2) := by decide +kernel
theorem dX4_leastFrom_20 : decode cX4_leastFrom 20 = .ok (.iload 4, 2) := by decide +kernel
theorem dX4_leastFrom_22 : decode cX4_leastFrom 22 = .ok (.if_icmp .gt 11, 3) := by decide +kernel
theorem dX4_leastFrom_25 : decode cX4_leastFrom 25 = .ok (.iload 5, 2) := by decide +kernel
theorem dX4_leastFrom_27 : decode cX4_leastFrom 27 = .ok (.iload 6, 2) := by decide +kernel
theorem dX4_leastFrom_29 : decode cX4_leastFrom 29 = .ok (.iadd, 1) := by decide +kernel
theorem dX4_leastFrom_30 : decode cX4_leastFrom 30 = .ok (.goto 5, 3) := by decide +kernel
theorem dX4_leastFrom_33 : decode cX4_leastFrom 33 = .ok (.ldc 110, 2) := by decide +kernel
theorem dX4_leastFrom_35 : decode cX4_leastFrom 35 = .ok (.ireturn, 1) := by decide +kernel
theorem dX4_leastFrom_36 : decode cX4_leastFrom 36 = .ok (.aload_n 0, 1) := by decide +kernel
theorem dX4_leastFrom_37 : decode cX4_leastFrom 37 = .ok (.iload_n 1, 1) := by decide +kernel
theorem dX4_leastFrom_38 : decode cX4_leastFrom 38 = .ok (.iconst 1, 1) := by decide +kernel
theorem dX4_leastFrom_39 : decode cX4_leastFrom 39 = .ok (.iadd, 1) := by decide +kernel
theorem dX4_leastFrom_40 : decode cX4_leastFrom 40 = .ok (.iload_n 2, 1) := by decide +kernel
theorem dX4_leastFrom_41 : decode cX4_leastFrom 41 = .ok (.iload_n 3, 1) := by decide +kernel
theorem dX4_leastFrom_42 : decode cX4_leastFrom 42 = .ok (.iload 4, 2) := by decide +kernel
theorem dX4_leastFrom_44 : decode cX4_leastFrom 44 = .ok (.iload 5, 2) := by decide +kernel
theorem dX4_leastFrom_46 : decode cX4_leastFrom 46 = .ok (.invokevirtual 106, 3) := by decide +kernel
theorem dX4_leastFrom_49 : decode cX4_leastFrom 49 = .ok (.istore 6, 2) := by decide +kernel
theorem dX4_leastFrom_51 : decode cX4_leastFrom 51 = .ok (.aload_n 0, 1) := by decide +kernel
theorem dX4_leastFrom_52 : decode cX4_leastFrom 52 = .ok (.getfield 45, 3) := by decide +kernel
theorem dX4_leastFrom_55 : decode cX4_leastFrom 55 = .ok (.getfield 120, 3) := by decide +kernel
theorem dX4_leastFrom_58 : decode cX4_leastFrom 58 = .ok (.iload_n 1, 1) := by decide +kernel
theorem dX4_leastFrom_59 : decode cX4_leastFrom 59 = .ok (.iaload, 1) := by decide +kernel
theorem dX4_leastFrom_60 : decode cX4_leastFrom 60 = .ok (.istore 7, 2) := by decide +kernel
theorem dX4_leastFrom_62 : decode cX4_leastFrom 62 = .ok (.iload_n 2, 1) := by decide +kernel
theorem dX4_leastFrom_63 : decode cX4_leastFrom 63 = .ok (.iload_n 1, 1) := by decide +kernel
theorem dX4_leastFrom_64 : decode cX4_leastFrom 64 = .ok (.ishr, 1) := by decide +kernel
theorem dX4_leastFrom_65 : decode cX4_leastFrom 65 = .ok (.iconst 1, 1) := by decide +kernel
theorem dX4_leastFrom_66 : decode cX4_leastFrom 66 = .ok (.iand, 1) := by decide +kernel
theorem dX4_leastFrom_67 : decode cX4_leastFrom 67 = .ok (.ifCond .eq 8, 3) := by decide +kernel
theorem dX4_leastFrom_70 : decode cX4_leastFrom 70 = .ok (.iload 7, 2) := by decide +kernel
theorem dX4_leastFrom_72 : decode cX4_leastFrom 72 = .ok (.ifCond .ne 6, 3) := by decide +kernel
theorem dX4_leastFrom_75 : decode cX4_leastFrom 75 = .ok (.iload 6, 2) := by decide +kernel
theorem dX4_leastFrom_77 : decode cX4_leastFrom 77 = .ok (.ireturn, 1) := by decide +kernel
theorem dX4_leastFrom_78 : decode cX4_leastFrom 78 = .ok (.aload_n 0, 1) := by decide +kernel
theorem dX4_leastFrom_79 : decode cX4_leastFrom 79 = .ok (.getfield 21, 3) := by decide +kernel
theorem dX4_leastFrom_82 : decode cX4_leastFrom 82 = .ok (.getfield 120, 3) := by decide +kernel
theorem dX4_leastFrom_85 : decode cX4_leastFrom 85 = .ok (.iload_n 1, 1) := by decide +kernel
theorem dX4_leastFrom_86 : decode cX4_leastFrom 86 = .ok (.iaload, 1) := by decide +kernel
theorem dX4_leastFrom_87 : decode cX4_leastFrom 87 = .ok (.istore 8, 2) := by decide +kernel
theorem dX4_leastFrom_89 : decode cX4_leastFrom 89 = .ok (.iload 6, 2) := by decide +kernel
theorem dX4_leastFrom_91 : decode cX4_leastFrom 91 = .ok (.aload_n 0, 1) := by decide +kernel
theorem dX4_leastFrom_92 : decode cX4_leastFrom 92 = .ok (.iload_n 1, 1) := by decide +kernel
theorem dX4_leastFrom_93 : decode cX4_leastFrom 93 = .ok (.iconst 1, 1) := by decide +kernel
theorem dX4_leastFrom_94 : decode cX4_leastFrom 94 = .ok (.iadd, 1) := by decide +kernel
theorem dX4_leastFrom_95 : decode cX4_leastFrom 95 = .ok (.iload_n 2, 1) := by decide +kernel
theorem dX4_leastFrom_96 : decode cX4_leastFrom 96 = .ok (.iload_n 3, 1) := by decide +kernel
theorem dX4_leastFrom_97 : decode cX4_leastFrom 97 = .ok (.iload 8, 2) := by decide +kernel
theorem dX4_leastFrom_99 : decode cX4_leastFrom 99 = .ok (.isub, 1) := by decide +kernel
theorem dX4_leastFrom_100 : decode cX4_leastFrom 100 = .ok (.iload 4, 2) := by decide +kernel
theorem dX4_leastFrom_102 : decode cX4_leastFrom 102 = .ok (.iload 5, 2) := by decide +kernel
theorem dX4_leastFrom_104 : decode cX4_leastFrom 104 = .ok (.iload 7, 2) := by decide +kernel
theorem dX4_leastFrom_106 : decode cX4_leastFrom 106 = .ok (.iadd, 1) := by decide +kernel
theorem dX4_leastFrom_107 : decode cX4_leastFrom 107 = .ok (.invokevirtual 106, 3) := by decide +kernel
theorem dX4_leastFrom_110 : decode cX4_leastFrom 110 = .ok (.invokestatic 123, 3) := by decide +kernel
theorem dX4_leastFrom_113 : decode cX4_leastFrom 113 = .ok (.istore 6, 2) := by decide +kernel
theorem dX4_leastFrom_115 : decode cX4_leastFrom 115 = .ok (.iload 7, 2) := by decide +kernel
theorem dX4_leastFrom_117 : decode cX4_leastFrom 117 = .ok (.aload_n 0, 1) := by decide +kernel
theorem dX4_leastFrom_118 : decode cX4_leastFrom 118 = .ok (.getfield 41, 3) := by decide +kernel
theorem dX4_leastFrom_121 : decode cX4_leastFrom 121 = .ok (.getfield 126, 3) := by decide +kernel
theorem dX4_leastFrom_124 : decode cX4_leastFrom 124 = .ok (.iload_n 1, 1) := by decide +kernel
theorem dX4_leastFrom_125 : decode cX4_leastFrom 125 = .ok (.iaload, 1) := by decide +kernel
theorem dX4_leastFrom_126 : decode cX4_leastFrom 126 = .ok (.iadd, 1) := by decide +kernel
theorem dX4_leastFrom_127 : decode cX4_leastFrom 127 = .ok (.iload 8, 2) := by decide +kernel
theorem dX4_leastFrom_129 : decode cX4_leastFrom 129 = .ok (.isub, 1) := by decide +kernel
theorem dX4_leastFrom_130 : decode cX4_leastFrom 130 = .ok (.istore 9, 2) := by decide +kernel
theorem dX4_leastFrom_132 : decode cX4_leastFrom 132 = .ok (.iload 7, 2) := by decide +kernel
theorem dX4_leastFrom_134 : decode cX4_leastFrom 134 = .ok (.iconst 1, 1) := by decide +kernel
theorem dX4_leastFrom_135 : decode cX4_leastFrom 135 = .ok (.isub, 1) := by decide +kernel
theorem dX4_leastFrom_136 : decode cX4_leastFrom 136 = .ok (.iload 9, 2) := by decide +kernel
theorem dX4_leastFrom_138 : decode cX4_leastFrom 138 = .ok (.isub, 1) := by decide +kernel
theorem dX4_leastFrom_139 : decode cX4_leastFrom 139 = .ok (.istore 10, 2) := by decide +kernel
theorem dX4_leastFrom_141 : decode cX4_leastFrom 141 = .ok (.iload 10, 2) := by decide +kernel
theorem dX4_leastFrom_143 : decode cX4_leastFrom 143 = .ok (.ifCond .le 29, 3) := by decide +kernel
theorem dX4_leastFrom_146 : decode cX4_leastFrom 146 = .ok (.iload 6, 2) := by decide +kernel
theorem dX4_leastFrom_148 : decode cX4_leastFrom 148 = .ok (.aload_n 0, 1) := by decide +kernel
theorem dX4_leastFrom_149 : decode cX4_leastFrom 149 = .ok (.iload_n 1, 1) := by decide +kernel
theorem dX4_leastFrom_150 : decode cX4_leastFrom 150 = .ok (.iconst 1, 1) := by decide +kernel
theorem dX4_leastFrom_151 : decode cX4_leastFrom 151 = .ok (.iadd, 1) := by decide +kernel
theorem dX4_leastFrom_152 : decode cX4_leastFrom 152 = .ok (.iload_n 2, 1) := by decide +kernel
theorem dX4_leastFrom_153 : decode cX4_leastFrom 153 = .ok (.iload_n 3, 1) := by decide +kernel
theorem dX4_leastFrom_154 : decode cX4_leastFrom 154 = .ok (.iload 4, 2) := by decide +kernel
theorem dX4_leastFrom_156 : decode cX4_leastFrom 156 = .ok (.iload 10, 2) := by decide +kernel
theorem dX4_leastFrom_158 : decode cX4_leastFrom 158 = .ok (.iadd, 1) := by decide +kernel
theorem dX4_leastFrom_159 : decode cX4_leastFrom 159 = .ok (.iload 5, 2) := by decide +kernel
theorem dX4_leastFrom_161 : decode cX4_leastFrom 161 = .ok (.iload 9, 2) := by decide +kernel
theorem dX4_leastFrom_163 : decode cX4_leastFrom 163 = .ok (.iadd, 1) := by decide +kernel
theorem dX4_leastFrom_164 : decode cX4_leastFrom 164 = .ok (.invokevirtual 106, 3) := by decide +kernel
theorem dX4_leastFrom_167 : decode cX4_leastFrom 167 = .ok (.invokestatic 123, 3) := by decide +kernel
theorem dX4_leastFrom_170 : decode cX4_leastFrom 170 = .ok (.istore 6, 2) := by decide +kernel
theorem dX4_leastFrom_172 : decode cX4_leastFrom 172 = .ok (.iload 6, 2) := by decide +kernel
theorem dX4_leastFrom_174 : decode cX4_leastFrom 174 = .ok (.ireturn, 1) := by decide +kernel
theorem dX4_fewestCrossings_0 : decode cX4_fewestCrossings 0 = .ok (.aload_n 0, 1) := by decide +kernel
theorem dX4_fewestCrossings_1 : decode cX4_fewestCrossings 1 = .ok (.invokevirtual 129, 3) := by decide +kernel
theorem dX4_fewestCrossings_4 : decode cX4_fewestCrossings 4 = .ok (.aload_n 0, 1) := by decide +kernel
theorem dX4_fewestCrossings_5 : decode cX4_fewestCrossings 5 = .ok (.getfield 25, 3) := by decide +kernel
theorem dX4_fewestCrossings_8 : decode cX4_fewestCrossings 8 = .ok (.iconst (-1), 1) := by decide +kernel
theorem dX4_fewestCrossings_9 : decode cX4_fewestCrossings 9 = .ok (.invokestatic 132, 3) := by decide +kernel
theorem dX4_fewestCrossings_12 : decode cX4_fewestCrossings 12 = .ok (.aload_n 0, 1) := by decide +kernel
theorem dX4_fewestCrossings_13 : decode cX4_fewestCrossings 13 = .ok (.getfield 25, 3) := by decide +kernel
theorem dX4_fewestCrossings_16 : decode cX4_fewestCrossings 16 = .ok (.aload_n 0, 1) := by decide +kernel
theorem dX4_fewestCrossings_17 : decode cX4_fewestCrossings 17 = .ok (.getfield 60, 3) := by decide +kernel
theorem dX4_fewestCrossings_20 : decode cX4_fewestCrossings 20 = .ok (.iconst 0, 1) := by decide +kernel
theorem dX4_fewestCrossings_21 : decode cX4_fewestCrossings 21 = .ok (.iastore, 1) := by decide +kernel
theorem dX4_fewestCrossings_22 : decode cX4_fewestCrossings 22 = .ok (.aload_n 0, 1) := by decide +kernel
theorem dX4_fewestCrossings_23 : decode cX4_fewestCrossings 23 = .ok (.getfield 25, 3) := by decide +kernel
theorem dX4_fewestCrossings_26 : decode cX4_fewestCrossings 26 = .ok (.sipush 128, 3) := by decide +kernel
theorem dX4_fewestCrossings_29 : decode cX4_fewestCrossings 29 = .ok (.aload_n 0, 1) := by decide +kernel
theorem dX4_fewestCrossings_30 : decode cX4_fewestCrossings 30 = .ok (.getfield 60, 3) := by decide +kernel
theorem dX4_fewestCrossings_33 : decode cX4_fewestCrossings 33 = .ok (.iadd, 1) := by decide +kernel
theorem dX4_fewestCrossings_34 : decode cX4_fewestCrossings 34 = .ok (.iconst 0, 1) := by decide +kernel
theorem dX4_fewestCrossings_35 : decode cX4_fewestCrossings 35 = .ok (.iastore, 1) := by decide +kernel
theorem dX4_fewestCrossings_36 : decode cX4_fewestCrossings 36 = .ok (.aload_n 0, 1) := by decide +kernel
theorem dX4_fewestCrossings_37 : decode cX4_fewestCrossings 37 = .ok (.getfield 28, 3) := by decide +kernel
theorem dX4_fewestCrossings_40 : decode cX4_fewestCrossings 40 = .ok (.iconst 0, 1) := by decide +kernel
theorem dX4_fewestCrossings_41 : decode cX4_fewestCrossings 41 = .ok (.aload_n 0, 1) := by decide +kernel
theorem dX4_fewestCrossings_42 : decode cX4_fewestCrossings 42 = .ok (.getfield 60, 3) := by decide +kernel
theorem dX4_fewestCrossings_45 : decode cX4_fewestCrossings 45 = .ok (.iastore, 1) := by decide +kernel
theorem dX4_fewestCrossings_46 : decode cX4_fewestCrossings 46 = .ok (.aload_n 0, 1) := by decide +kernel
theorem dX4_fewestCrossings_47 : decode cX4_fewestCrossings 47 = .ok (.getfield 28, 3) := by decide +kernel
theorem dX4_fewestCrossings_50 : decode cX4_fewestCrossings 50 = .ok (.iconst 1, 1) := by decide +kernel
theorem dX4_fewestCrossings_51 : decode cX4_fewestCrossings 51 = .ok (.sipush 128, 3) := by decide +kernel
theorem dX4_fewestCrossings_54 : decode cX4_fewestCrossings 54 = .ok (.aload_n 0, 1) := by decide +kernel
theorem dX4_fewestCrossings_55 : decode cX4_fewestCrossings 55 = .ok (.getfield 60, 3) := by decide +kernel
theorem dX4_fewestCrossings_58 : decode cX4_fewestCrossings 58 = .ok (.iadd, 1) := by decide +kernel
theorem dX4_fewestCrossings_59 : decode cX4_fewestCrossings 59 = .ok (.iastore, 1) := by decide +kernel
theorem dX4_fewestCrossings_60 : decode cX4_fewestCrossings 60 = .ok (.iconst 2, 1) := by decide +kernel
theorem dX4_fewestCrossings_61 : decode cX4_fewestCrossings 61 = .ok (.istore_n 1, 1) := by decide +kernel
theorem dX4_fewestCrossings_62 : decode cX4_fewestCrossings 62 = .ok (.iconst 0, 1) := by decide +kernel
theorem dX4_fewestCrossings_63 : decode cX4_fewestCrossings 63 = .ok (.istore_n 2, 1) := by decide +kernel
theorem dX4_fewestCrossings_64 : decode cX4_fewestCrossings 64 = .ok (.iload_n 2, 1) := by decide +kernel
theorem dX4_fewestCrossings_65 : decode cX4_fewestCrossings 65 = .ok (.iload_n 1, 1) := by decide +kernel
theorem dX4_fewestCrossings_66 : decode cX4_fewestCrossings 66 = .ok (.if_icmp .ge 169, 3) := by decide +kernel
theorem dX4_fewestCrossings_69 : decode cX4_fewestCrossings 69 = .ok (.iload_n 2, 1) := by decide +kernel
theorem dX4_fewestCrossings_70 : decode cX4_fewestCrossings 70 = .ok (.sipush 256, 3) := by decide +kernel
theorem dX4_fewestCrossings_73 : decode cX4_fewestCrossings 73 = .ok (.if_icmp .ge 162, 3) := by decide +kernel
theorem dX4_fewestCrossings_76 : decode cX4_fewestCrossings 76 = .ok (.aload_n 0, 1) := by decide +kernel
theorem dX4_fewestCrossings_77 : decode cX4_fewestCrossings 77 = .ok (.getfield 28, 3) := by decide +kernel
theorem dX4_fewestCrossings_80 : decode cX4_fewestCrossings 80 = .ok (.iload_n 2, 1) := by decide +kernel
theorem dX4_fewestCrossings_81 : decode cX4_fewestCrossings 81 = .ok (.iaload, 1) := by decide +kernel
theorem dX4_fewestCrossings_82 : decode cX4_fewestCrossings 82 = .ok (.sipush 128, 3) := by decide +kernel
theorem dX4_fewestCrossings_85 : decode cX4_fewestCrossings 85 = .ok (.idiv, 1) := by decide +kernel
theorem dX4_fewestCrossings_86 : decode cX4_fewestCrossings 86 = .ok (.istore_n 3, 1) := by decide +kernel
theorem dX4_fewestCrossings_87 : decode cX4_fewestCrossings 87 = .ok (.aload_n 0, 1) := by decide +kernel
theorem dX4_fewestCrossings_88 : decode cX4_fewestCrossings 88 = .ok (.getfield 28, 3) := by decide +kernel
theorem dX4_fewestCrossings_91 : decode cX4_fewestCrossings 91 = .ok (.iload_n 2, 1) := by decide +kernel
theorem dX4_fewestCrossings_92 : decode cX4_fewestCrossings 92 = .ok (.iaload, 1) := by decide +kernel
theorem dX4_fewestCrossings_93 : decode cX4_fewestCrossings 93 = .ok (.sipush 128, 3) := by decide +kernel
theorem dX4_fewestCrossings_96 : decode cX4_fewestCrossings 96 = .ok (.irem, 1) := by decide +kernel
theorem dX4_fewestCrossings_97 : decode cX4_fewestCrossings 97 = .ok (.istore 4, 2) := by decide +kernel
theorem dX4_fewestCrossings_99 : decode cX4_fewestCrossings 99 = .ok (.iload_n 3, 1) := by decide +kernel
theorem dX4_fewestCrossings_100 : decode cX4_fewestCrossings 100 = .ok (.iconst 1, 1) := by decide +kernel
theorem dX4_fewestCrossings_101 : decode cX4_fewestCrossings 101 = .ok (.if_icmp .ne 8, 3) := by decide +kernel
theorem dX4_fewestCrossings_104 : decode cX4_fewestCrossings 104 = .ok (.iload 4, 2) := by decide +kernel
theorem dX4_fewestCrossings_106 : decode cX4_fewestCrossings 106 = .ok (.goto 12, 3) := by decide +kernel
theorem dX4_fewestCrossings_109 : decode cX4_fewestCrossings 109 = .ok (.aload_n 0, 1) := by decide +kernel
theorem dX4_fewestCrossings_110 : decode cX4_fewestCrossings 110 = .ok (.getfield 60, 3) := by decide +kernel
theorem dX4_fewestCrossings_113 : decode cX4_fewestCrossings 113 = .ok (.iload 4, 2) := by decide +kernel
theorem dX4_fewestCrossings_115 : decode cX4_fewestCrossings 115 = .ok (.iconst (-1), 1) := by decide +kernel
theorem dX4_fewestCrossings_116 : decode cX4_fewestCrossings 116 = .ok (.ixor, 1) := by decide +kernel
theorem dX4_fewestCrossings_117 : decode cX4_fewestCrossings 117 = .ok (.iand, 1) := by decide +kernel
theorem dX4_fewestCrossings_118 : decode cX4_fewestCrossings 118 = .ok (.istore 5, 2) := by decide +kernel
theorem dX4_fewestCrossings_120 : decode cX4_fewestCrossings 120 = .ok (.iconst 1, 1) := by decide +kernel
theorem dX4_fewestCrossings_121 : decode cX4_fewestCrossings 121 = .ok (.iload_n 3, 1) := by decide +kernel
theorem dX4_fewestCrossings_122 : decode cX4_fewestCrossings 122 = .ok (.isub, 1) := by decide +kernel
theorem dX4_fewestCrossings_123 : decode cX4_fewestCrossings 123 = .ok (.sipush 128, 3) := by decide +kernel
theorem dX4_fewestCrossings_126 : decode cX4_fewestCrossings 126 = .ok (.imul, 1) := by decide +kernel
theorem dX4_fewestCrossings_127 : decode cX4_fewestCrossings 127 = .ok (.istore 6, 2) := by decide +kernel
theorem dX4_fewestCrossings_129 : decode cX4_fewestCrossings 129 = .ok (.iconst 0, 1) := by decide +kernel
theorem dX4_fewestCrossings_130 : decode cX4_fewestCrossings 130 = .ok (.istore 7, 2) := by decide +kernel
theorem dX4_fewestCrossings_132 : decode cX4_fewestCrossings 132 = .ok (.iload 7, 2) := by decide +kernel
theorem dX4_fewestCrossings_134 : decode cX4_fewestCrossings 134 = .ok (.aload_n 0, 1) := by decide +kernel
theorem dX4_fewestCrossings_135 : decode cX4_fewestCrossings 135 = .ok (.getfield 60, 3) := by decide +kernel
theorem dX4_fewestCrossings_138 : decode cX4_fewestCrossings 138 = .ok (.if_icmp .gt 91, 3) := by decide +kernel
theorem dX4_fewestCrossings_141 : decode cX4_fewestCrossings 141 = .ok (.iload 6, 2) := by decide +kernel
theorem dX4_fewestCrossings_143 : decode cX4_fewestCrossings 143 = .ok (.iload 4, 2) := by decide +kernel
theorem dX4_fewestCrossings_145 : decode cX4_fewestCrossings 145 = .ok (.iload 7, 2) := by decide +kernel
theorem dX4_fewestCrossings_147 : decode cX4_fewestCrossings 147 = .ok (.ixor, 1) := by decide +kernel
theorem dX4_fewestCrossings_148 : decode cX4_fewestCrossings 148 = .ok (.iadd, 1) := by decide +kernel
theorem dX4_fewestCrossings_149 : decode cX4_fewestCrossings 149 = .ok (.istore 8, 2) := by decide +kernel
theorem dX4_fewestCrossings_151 : decode cX4_fewestCrossings 151 = .ok (.iload 7, 2) := by decide +kernel
theorem dX4_fewestCrossings_153 : decode cX4_fewestCrossings 153 = .ok (.iload 5, 2) := by decide +kernel
theorem dX4_fewestCrossings_155 : decode cX4_fewestCrossings 155 = .ok (.iconst (-1), 1) := by decide +kernel
theorem dX4_fewestCrossings_156 : decode cX4_fewestCrossings 156 = .ok (.ixor, 1) := by decide +kernel
theorem dX4_fewestCrossings_157 : decode cX4_fewestCrossings 157 = .ok (.iand, 1) := by decide +kernel
theorem dX4_fewestCrossings_158 : decode cX4_fewestCrossings 158 = .ok (.ifCond .ne 65, 3) := by decide +kernel
theorem dX4_fewestCrossings_161 : decode cX4_fewestCrossings 161 = .ok (.aload_n 0, 1) := by decide +kernel
theorem dX4_fewestCrossings_162 : decode cX4_fewestCrossings 162 = .ok (.getfield 31, 3) := by decide +kernel
theorem dX4_fewestCrossings_165 : decode cX4_fewestCrossings 165 = .ok (.iload 6, 2) := by decide +kernel
theorem dX4_fewestCrossings_167 : decode cX4_fewestCrossings 167 = .ok (.iload 7, 2) := by decide +kernel
theorem dX4_fewestCrossings_169 : decode cX4_fewestCrossings 169 = .ok (.iadd, 1) := by decide +kernel
theorem dX4_fewestCrossings_170 : decode cX4_fewestCrossings 170 = .ok (.baload, 1) := by decide +kernel
theorem dX4_fewestCrossings_171 : decode cX4_fewestCrossings 171 = .ok (.ifCond .eq 52, 3) := by decide +kernel
theorem dX4_fewestCrossings_174 : decode cX4_fewestCrossings 174 = .ok (.aload_n 0, 1) := by decide +kernel
theorem dX4_fewestCrossings_175 : decode cX4_fewestCrossings 175 = .ok (.getfield 25, 3) := by decide +kernel
theorem dX4_fewestCrossings_178 : decode cX4_fewestCrossings 178 = .ok (.iload 8, 2) := by decide +kernel
theorem dX4_fewestCrossings_180 : decode cX4_fewestCrossings 180 = .ok (.iaload, 1) := by decide +kernel
theorem dX4_fewestCrossings_181 : decode cX4_fewestCrossings 181 = .ok (.iconst (-1), 1) := by decide +kernel
theorem dX4_fewestCrossings_182 : decode cX4_fewestCrossings 182 = .ok (.if_icmp .ne 41, 3) := by decide +kernel
theorem dX4_fewestCrossings_185 : decode cX4_fewestCrossings 185 = .ok (.iload_n 1, 1) := by decide +kernel
theorem dX4_fewestCrossings_186 : decode cX4_fewestCrossings 186 = .ok (.sipush 256, 3) := by decide +kernel
theorem dX4_fewestCrossings_189 : decode cX4_fewestCrossings 189 = .ok (.if_icmp .ge 34, 3) := by decide +kernel
theorem dX4_fewestCrossings_192 : decode cX4_fewestCrossings 192 = .ok (.aload_n 0, 1) := by decide +kernel
theorem dX4_fewestCrossings_193 : decode cX4_fewestCrossings 193 = .ok (.getfield 25, 3) := by decide +kernel
theorem dX4_fewestCrossings_196 : decode cX4_fewestCrossings 196 = .ok (.iload 8, 2) := by decide +kernel
theorem dX4_fewestCrossings_198 : decode cX4_fewestCrossings 198 = .ok (.aload_n 0, 1) := by decide +kernel
theorem dX4_fewestCrossings_199 : decode cX4_fewestCrossings 199 = .ok (.getfield 25, 3) := by decide +kernel
theorem dX4_fewestCrossings_202 : decode cX4_fewestCrossings 202 = .ok (.aload_n 0, 1) := by decide +kernel
theorem dX4_fewestCrossings_203 : decode cX4_fewestCrossings 203 = .ok (.getfield 28, 3) := by decide +kernel
theorem dX4_fewestCrossings_206 : decode cX4_fewestCrossings 206 = .ok (.iload_n 2, 1) := by decide +kernel
theorem dX4_fewestCrossings_207 : decode cX4_fewestCrossings 207 = .ok (.iaload, 1) := by decide +kernel
theorem dX4_fewestCrossings_208 : decode cX4_fewestCrossings 208 = .ok (.iaload, 1) := by decide +kernel
theorem dX4_fewestCrossings_209 : decode cX4_fewestCrossings 209 = .ok (.iconst 1, 1) := by decide +kernel
theorem dX4_fewestCrossings_210 : decode cX4_fewestCrossings 210 = .ok (.iadd, 1) := by decide +kernel
theorem dX4_fewestCrossings_211 : decode cX4_fewestCrossings 211 = .ok (.iastore, 1) := by decide +kernel
theorem dX4_fewestCrossings_212 : decode cX4_fewestCrossings 212 = .ok (.aload_n 0, 1) := by decide +kernel
theorem dX4_fewestCrossings_213 : decode cX4_fewestCrossings 213 = .ok (.getfield 28, 3) := by decide +kernel
theorem dX4_fewestCrossings_216 : decode cX4_fewestCrossings 216 = .ok (.iload_n 1, 1) := by decide +kernel
theorem dX4_fewestCrossings_217 : decode cX4_fewestCrossings 217 = .ok (.iload 8, 2) := by decide +kernel
theorem dX4_fewestCrossings_219 : decode cX4_fewestCrossings 219 = .ok (.iastore, 1) := by decide +kernel
theorem dX4_fewestCrossings_220 : decode cX4_fewestCrossings 220 = .ok (.iinc 1 1, 3) := by decide +kernel
theorem dX4_fewestCrossings_223 : decode cX4_fewestCrossings 223 = .ok (.iinc 7 1, 3) := by decide +kernel
theorem dX4_fewestCrossings_226 : decode cX4_fewestCrossings 226 = .ok (.goto (-94), 3) := by decide +kernel
theorem dX4_fewestCrossings_229 : decode cX4_fewestCrossings 229 = .ok (.iinc 2 1, 3) := by decide +kernel
theorem dX4_fewestCrossings_232 : decode cX4_fewestCrossings 232 = .ok (.goto (-168), 3) := by decide +kernel
theorem dX4_fewestCrossings_235 : decode cX4_fewestCrossings 235 = .ok (.aload_n 0, 1) := by decide +kernel
theorem dX4_fewestCrossings_236 : decode cX4_fewestCrossings 236 = .ok (.getfield 25, 3) := by decide +kernel
theorem dX4_fewestCrossings_239 : decode cX4_fewestCrossings 239 = .ok (.aload_n 0, 1) := by decide +kernel
theorem dX4_fewestCrossings_240 : decode cX4_fewestCrossings 240 = .ok (.getfield 45, 3) := by decide +kernel
theorem dX4_fewestCrossings_243 : decode cX4_fewestCrossings 243 = .ok (.getfield 99, 3) := by decide +kernel
theorem dX4_fewestCrossings_246 : decode cX4_fewestCrossings 246 = .ok (.sipush 128, 3) := by decide +kernel
theorem dX4_fewestCrossings_249 : decode cX4_fewestCrossings 249 = .ok (.imul, 1) := by decide +kernel
theorem dX4_fewestCrossings_250 : decode cX4_fewestCrossings 250 = .ok (.aload_n 0, 1) := by decide +kernel
theorem dX4_fewestCrossings_251 : decode cX4_fewestCrossings 251 = .ok (.getfield 45, 3) := by decide +kernel
theorem dX4_fewestCrossings_254 : decode cX4_fewestCrossings 254 = .ok (.getfield 138, 3) := by decide +kernel
theorem dX4_fewestCrossings_257 : decode cX4_fewestCrossings 257 = .ok (.iadd, 1) := by decide +kernel
theorem dX4_fewestCrossings_258 : decode cX4_fewestCrossings 258 = .ok (.iaload, 1) := by decide +kernel
theorem dX4_fewestCrossings_259 : decode cX4_fewestCrossings 259 = .ok (.ireturn, 1) := by decide +kernel
theorem dX4_firstSetOf_0 : decode cX4_firstSetOf 0 = .ok (.iconst 0, 1) := by decide +kernel
theorem dX4_firstSetOf_1 : decode cX4_firstSetOf 1 = .ok (.istore_n 2, 1) := by decide +kernel
theorem dX4_firstSetOf_2 : decode cX4_firstSetOf 2 = .ok (.iload_n 1, 1) := by decide +kernel
theorem dX4_firstSetOf_3 : decode cX4_firstSetOf 3 = .ok (.ifCond .le 85, 3) := by decide +kernel
theorem dX4_firstSetOf_6 : decode cX4_firstSetOf 6 = .ok (.iload_n 2, 1) := by decide +kernel
theorem dX4_firstSetOf_7 : decode cX4_firstSetOf 7 = .ok (.aload_n 0, 1) := by decide +kernel
theorem dX4_firstSetOf_8 : decode cX4_firstSetOf 8 = .ok (.getfield 60, 3) := by decide +kernel
theorem dX4_firstSetOf_11 : decode cX4_firstSetOf 11 = .ok (.if_icmp .gt 77, 3) := by decide +kernel
theorem dX4_firstSetOf_14 : decode cX4_firstSetOf 14 = .ok (.iload_n 2, 1) := by decide +kernel
theorem dX4_firstSetOf_15 : decode cX4_firstSetOf 15 = .ok (.aload_n 0, 1) := by decide +kernel
theorem dX4_firstSetOf_16 : decode cX4_firstSetOf 16 = .ok (.getfield 67, 3) := by decide +kernel
theorem dX4_firstSetOf_19 : decode cX4_firstSetOf 19 = .ok (.iconst (-1), 1) := by decide +kernel
theorem dX4_firstSetOf_20 : decode cX4_firstSetOf 20 = .ok (.ixor, 1) := by decide +kernel
theorem dX4_firstSetOf_21 : decode cX4_firstSetOf 21 = .ok (.iand, 1) := by decide +kernel
theorem dX4_firstSetOf_22 : decode cX4_firstSetOf 22 = .ok (.ifCond .ne 60, 3) := by decide +kernel
theorem dX4_firstSetOf_25 : decode cX4_firstSetOf 25 = .ok (.aload_n 0, 1) := by decide +kernel
theorem dX4_firstSetOf_26 : decode cX4_firstSetOf 26 = .ok (.getfield 31, 3) := by decide +kernel
theorem dX4_firstSetOf_29 : decode cX4_firstSetOf 29 = .ok (.aload_n 0, 1) := by decide +kernel
theorem dX4_firstSetOf_30 : decode cX4_firstSetOf 30 = .ok (.getfield 45, 3) := by decide +kernel
theorem dX4_firstSetOf_33 : decode cX4_firstSetOf 33 = .ok (.getfield 99, 3) := by decide +kernel
theorem dX4_firstSetOf_36 : decode cX4_firstSetOf 36 = .ok (.sipush 128, 3) := by decide +kernel
theorem dX4_firstSetOf_39 : decode cX4_firstSetOf 39 = .ok (.imul, 1) := by decide +kernel
theorem dX4_firstSetOf_40 : decode cX4_firstSetOf 40 = .ok (.iload_n 2, 1) := by decide +kernel
theorem dX4_firstSetOf_41 : decode cX4_firstSetOf 41 = .ok (.iadd, 1) := by decide +kernel
theorem dX4_firstSetOf_42 : decode cX4_firstSetOf 42 = .ok (.baload, 1) := by decide +kernel
theorem dX4_firstSetOf_43 : decode cX4_firstSetOf 43 = .ok (.ifCond .eq 39, 3) := by decide +kernel
theorem dX4_firstSetOf_46 : decode cX4_firstSetOf 46 = .ok (.aload_n 0, 1) := by decide +kernel
theorem dX4_firstSetOf_47 : decode cX4_firstSetOf 47 = .ok (.getfield 25, 3) := by decide +kernel
theorem dX4_firstSetOf_50 : decode cX4_firstSetOf 50 = .ok (.iconst 1, 1) := by decide +kernel
theorem dX4_firstSetOf_51 : decode cX4_firstSetOf 51 = .ok (.aload_n 0, 1) := by decide +kernel
theorem dX4_firstSetOf_52 : decode cX4_firstSetOf 52 = .ok (.getfield 45, 3) := by decide +kernel
theorem dX4_firstSetOf_55 : decode cX4_firstSetOf 55 = .ok (.getfield 99, 3) := by decide +kernel
theorem dX4_firstSetOf_58 : decode cX4_firstSetOf 58 = .ok (.isub, 1) := by decide +kernel
theorem dX4_firstSetOf_59 : decode cX4_firstSetOf 59 = .ok (.sipush 128, 3) := by decide +kernel
theorem dX4_firstSetOf_62 : decode cX4_firstSetOf 62 = .ok (.imul, 1) := by decide +kernel
theorem dX4_firstSetOf_63 : decode cX4_firstSetOf 63 = .ok (.aload_n 0, 1) := by decide +kernel
theorem dX4_firstSetOf_64 : decode cX4_firstSetOf 64 = .ok (.getfield 45, 3) := by decide +kernel
theorem dX4_firstSetOf_67 : decode cX4_firstSetOf 67 = .ok (.getfield 138, 3) := by decide +kernel
theorem dX4_firstSetOf_70 : decode cX4_firstSetOf 70 = .ok (.iload_n 2, 1) := by decide +kernel
theorem dX4_firstSetOf_71 : decode cX4_firstSetOf 71 = .ok (.ixor, 1) := by decide +kernel
theorem dX4_firstSetOf_72 : decode cX4_firstSetOf 72 = .ok (.iadd, 1) := by decide +kernel
theorem dX4_firstSetOf_73 : decode cX4_firstSetOf 73 = .ok (.iaload, 1) := by decide +kernel
theorem dX4_firstSetOf_74 : decode cX4_firstSetOf 74 = .ok (.iload_n 1, 1) := by decide +kernel
theorem dX4_firstSetOf_75 : decode cX4_firstSetOf 75 = .ok (.iconst 1, 1) := by decide +kernel
theorem dX4_firstSetOf_76 : decode cX4_firstSetOf 76 = .ok (.isub, 1) := by decide +kernel
theorem dX4_firstSetOf_77 : decode cX4_firstSetOf 77 = .ok (.if_icmp .ne 5, 3) := by decide +kernel
theorem dX4_firstSetOf_80 : decode cX4_firstSetOf 80 = .ok (.iload_n 2, 1) := by decide +kernel
theorem dX4_firstSetOf_81 : decode cX4_firstSetOf 81 = .ok (.ireturn, 1) := by decide +kernel
theorem dX4_firstSetOf_82 : decode cX4_firstSetOf 82 = .ok (.iinc 2 1, 3) := by decide +kernel
theorem dX4_firstSetOf_85 : decode cX4_firstSetOf 85 = .ok (.goto (-83), 3) := by decide +kernel
theorem dX4_firstSetOf_88 : decode cX4_firstSetOf 88 = .ok (.iconst 0, 1) := by decide +kernel
theorem dX4_firstSetOf_89 : decode cX4_firstSetOf 89 = .ok (.ireturn, 1) := by decide +kernel
theorem dX4_fillFits_0 : decode cX4_fillFits 0 = .ok (.iconst 0, 1) := by decide +kernel
theorem dX4_fillFits_1 : decode cX4_fillFits 1 = .ok (.istore_n 1, 1) := by decide +kernel
theorem dX4_fillFits_2 : decode cX4_fillFits 2 = .ok (.iload_n 1, 1) := by decide +kernel
theorem dX4_fillFits_3 : decode cX4_fillFits 3 = .ok (.aload_n 0, 1) := by decide +kernel
theorem dX4_fillFits_4 : decode cX4_fillFits 4 = .ok (.getfield 60, 3) := by decide +kernel
theorem dX4_fillFits_7 : decode cX4_fillFits 7 = .ok (.if_icmp .gt 136, 3) := by decide +kernel
theorem dX4_fillFits_10 : decode cX4_fillFits 10 = .ok (.aload_n 0, 1) := by decide +kernel
theorem dX4_fillFits_11 : decode cX4_fillFits 11 = .ok (.getfield 45, 3) := by decide +kernel
theorem dX4_fillFits_14 : decode cX4_fillFits 14 = .ok (.aload_n 0, 1) := by decide +kernel
theorem dX4_fillFits_15 : decode cX4_fillFits 15 = .ok (.getfield 41, 3) := by decide +kernel
theorem dX4_fillFits_18 : decode cX4_fillFits 18 = .ok (.iload_n 1, 1) := by decide +kernel
theorem dX4_fillFits_19 : decode cX4_fillFits 19 = .ok (.invokevirtual 102, 3) := by decide +kernel
theorem dX4_fillFits_22 : decode cX4_fillFits 22 = .ok (.istore_n 2, 1) := by decide +kernel
theorem dX4_fillFits_23 : decode cX4_fillFits 23 = .ok (.aload_n 0, 1) := by decide +kernel
theorem dX4_fillFits_24 : decode cX4_fillFits 24 = .ok (.getfield 41, 3) := by decide +kernel
theorem dX4_fillFits_27 : decode cX4_fillFits 27 = .ok (.iload_n 1, 1) := by decide +kernel
theorem dX4_fillFits_28 : decode cX4_fillFits 28 = .ok (.invokevirtual 94, 3) := by decide +kernel
theorem dX4_fillFits_31 : decode cX4_fillFits 31 = .ok (.istore_n 3, 1) := by decide +kernel
theorem dX4_fillFits_32 : decode cX4_fillFits 32 = .ok (.iload_n 1, 1) := by decide +kernel
theorem dX4_fillFits_33 : decode cX4_fillFits 33 = .ok (.invokestatic 81, 3) := by decide +kernel
theorem dX4_fillFits_36 : decode cX4_fillFits 36 = .ok (.aload_n 0, 1) := by decide +kernel
theorem dX4_fillFits_37 : decode cX4_fillFits 37 = .ok (.getfield 41, 3) := by decide +kernel
theorem dX4_fillFits_40 : decode cX4_fillFits 40 = .ok (.getfield 141, 3) := by decide +kernel
theorem dX4_fillFits_43 : decode cX4_fillFits 43 = .ok (.if_icmp .gt 7, 3) := by decide +kernel
theorem dX4_fillFits_46 : decode cX4_fillFits 46 = .ok (.iconst 1, 1) := by decide +kernel
theorem dX4_fillFits_47 : decode cX4_fillFits 47 = .ok (.goto 4, 3) := by decide +kernel
theorem dX4_fillFits_50 : decode cX4_fillFits 50 = .ok (.iconst 0, 1) := by decide +kernel
theorem dX4_fillFits_51 : decode cX4_fillFits 51 = .ok (.istore 4, 2) := by decide +kernel
theorem dX4_fillFits_53 : decode cX4_fillFits 53 = .ok (.aload_n 0, 1) := by decide +kernel
theorem dX4_fillFits_54 : decode cX4_fillFits 54 = .ok (.getfield 31, 3) := by decide +kernel
theorem dX4_fillFits_57 : decode cX4_fillFits 57 = .ok (.iload_n 1, 1) := by decide +kernel
theorem dX4_fillFits_58 : decode cX4_fillFits 58 = .ok (.iload 4, 2) := by decide +kernel
theorem dX4_fillFits_60 : decode cX4_fillFits 60 = .ok (.ifCond .eq 31, 3) := by decide +kernel
theorem dX4_fillFits_63 : decode cX4_fillFits 63 = .ok (.aload_n 0, 1) := by decide +kernel
theorem dX4_fillFits_64 : decode cX4_fillFits 64 = .ok (.getfield 41, 3) := by decide +kernel
theorem dX4_fillFits_67 : decode cX4_fillFits 67 = .ok (.iload_n 2, 1) := by decide +kernel
theorem dX4_fillFits_68 : decode cX4_fillFits 68 = .ok (.iload_n 3, 1) := by decide +kernel
theorem dX4_fillFits_69 : decode cX4_fillFits 69 = .ok (.iconst 0, 1) := by decide +kernel
theorem dX4_fillFits_70 : decode cX4_fillFits 70 = .ok (.aload_n 0, 1) := by decide +kernel
theorem dX4_fillFits_71 : decode cX4_fillFits 71 = .ok (.getfield 50, 3) := by decide +kernel
theorem dX4_fillFits_74 : decode cX4_fillFits 74 = .ok (.invokevirtual 144, 3) := by decide +kernel
theorem dX4_fillFits_77 : decode cX4_fillFits 77 = .ok (.aload_n 0, 1) := by decide +kernel
theorem dX4_fillFits_78 : decode cX4_fillFits 78 = .ok (.getfield 41, 3) := by decide +kernel
theorem dX4_fillFits_81 : decode cX4_fillFits 81 = .ok (.getfield 91, 3) := by decide +kernel
theorem dX4_fillFits_84 : decode cX4_fillFits 84 = .ok (.if_icmp .gt 7, 3) := by decide +kernel
theorem dX4_fillFits_87 : decode cX4_fillFits 87 = .ok (.iconst 1, 1) := by decide +kernel
theorem dX4_fillFits_88 : decode cX4_fillFits 88 = .ok (.goto 4, 3) := by decide +kernel
theorem dX4_fillFits_91 : decode cX4_fillFits 91 = .ok (.iconst 0, 1) := by decide +kernel
theorem dX4_fillFits_92 : decode cX4_fillFits 92 = .ok (.bastore, 1) := by decide +kernel
theorem dX4_fillFits_93 : decode cX4_fillFits 93 = .ok (.aload_n 0, 1) := by decide +kernel
theorem dX4_fillFits_94 : decode cX4_fillFits 94 = .ok (.getfield 31, 3) := by decide +kernel
theorem dX4_fillFits_97 : decode cX4_fillFits 97 = .ok (.sipush 128, 3) := by decide +kernel
theorem dX4_fillFits_100 : decode cX4_fillFits 100 = .ok (.iload_n 1, 1) := by decide +kernel
theorem dX4_fillFits_101 : decode cX4_fillFits 101 = .ok (.iadd, 1) := by decide +kernel
theorem dX4_fillFits_102 : decode cX4_fillFits 102 = .ok (.iload 4, 2) := by decide +kernel
theorem dX4_fillFits_104 : decode cX4_fillFits 104 = .ok (.ifCond .eq 31, 3) := by decide +kernel
theorem dX4_fillFits_107 : decode cX4_fillFits 107 = .ok (.aload_n 0, 1) := by decide +kernel
theorem dX4_fillFits_108 : decode cX4_fillFits 108 = .ok (.getfield 41, 3) := by decide +kernel
theorem dX4_fillFits_111 : decode cX4_fillFits 111 = .ok (.iload_n 2, 1) := by decide +kernel
theorem dX4_fillFits_112 : decode cX4_fillFits 112 = .ok (.iload_n 3, 1) := by decide +kernel
theorem dX4_fillFits_113 : decode cX4_fillFits 113 = .ok (.iconst 1, 1) := by decide +kernel
theorem dX4_fillFits_114 : decode cX4_fillFits 114 = .ok (.aload_n 0, 1) := by decide +kernel
theorem dX4_fillFits_115 : decode cX4_fillFits 115 = .ok (.getfield 50, 3) := by decide +kernel
theorem dX4_fillFits_118 : decode cX4_fillFits 118 = .ok (.invokevirtual 144, 3) := by decide +kernel
theorem dX4_fillFits_121 : decode cX4_fillFits 121 = .ok (.aload_n 0, 1) := by decide +kernel
theorem dX4_fillFits_122 : decode cX4_fillFits 122 = .ok (.getfield 41, 3) := by decide +kernel
theorem dX4_fillFits_125 : decode cX4_fillFits 125 = .ok (.getfield 91, 3) := by decide +kernel
theorem dX4_fillFits_128 : decode cX4_fillFits 128 = .ok (.if_icmp .gt 7, 3) := by decide +kernel
theorem dX4_fillFits_131 : decode cX4_fillFits 131 = .ok (.iconst 1, 1) := by decide +kernel
theorem dX4_fillFits_132 : decode cX4_fillFits 132 = .ok (.goto 4, 3) := by decide +kernel
theorem dX4_fillFits_135 : decode cX4_fillFits 135 = .ok (.iconst 0, 1) := by decide +kernel
theorem dX4_fillFits_136 : decode cX4_fillFits 136 = .ok (.bastore, 1) := by decide +kernel
theorem dX4_fillFits_137 : decode cX4_fillFits 137 = .ok (.iinc 1 1, 3) := by decide +kernel
theorem dX4_fillFits_140 : decode cX4_fillFits 140 = .ok (.goto (-138), 3) := by decide +kernel
theorem dX4_fillFits_143 : decode cX4_fillFits 143 = .ok (.return_, 1) := by decide +kernel
theorem dX4_findRow_0 : decode cX4_findRow 0 = .ok (.aload_n 0, 1) := by decide +kernel
theorem dX4_findRow_1 : decode cX4_findRow 1 = .ok (.ldc 110, 2) := by decide +kernel
theorem dX4_findRow_3 : decode cX4_findRow 3 = .ok (.putfield 148, 3) := by decide +kernel
theorem dX4_findRow_6 : decode cX4_findRow 6 = .ok (.aload_n 0, 1) := by decide +kernel
theorem dX4_findRow_7 : decode cX4_findRow 7 = .ok (.getfield 67, 3) := by decide +kernel
theorem dX4_findRow_10 : decode cX4_findRow 10 = .ok (.invokestatic 81, 3) := by decide +kernel
theorem dX4_findRow_13 : decode cX4_findRow 13 = .ok (.istore_n 1, 1) := by decide +kernel
theorem dX4_findRow_14 : decode cX4_findRow 14 = .ok (.aload_n 0, 1) := by decide +kernel
theorem dX4_findRow_15 : decode cX4_findRow 15 = .ok (.iconst 0, 1) := by decide +kernel
theorem dX4_findRow_16 : decode cX4_findRow 16 = .ok (.iload_n 1, 1) := by decide +kernel
theorem dX4_findRow_17 : decode cX4_findRow 17 = .ok (.aload_n 0, 1) := by decide +kernel
theorem dX4_findRow_18 : decode cX4_findRow 18 = .ok (.getfield 67, 3) := by decide +kernel
theorem dX4_findRow_21 : decode cX4_findRow 21 = .ok (.iconst 0, 1) := by decide +kernel
theorem dX4_findRow_22 : decode cX4_findRow 22 = .ok (.invokevirtual 151, 3) := by decide +kernel
theorem dX4_findRow_25 : decode cX4_findRow 25 = .ok (.iload_n 1, 1) := by decide +kernel
theorem dX4_findRow_26 : decode cX4_findRow 26 = .ok (.ireturn, 1) := by decide +kernel
theorem dX4_tryRow_0 : decode cX4_tryRow 0 = .ok (.iload 4, 2) := by decide +kernel
theorem dX4_tryRow_2 : decode cX4_tryRow 2 = .ok (.aload_n 0, 1) := by decide +kernel
theorem dX4_tryRow_3 : decode cX4_tryRow 3 = .ok (.getfield 148, 3) := by decide +kernel
theorem dX4_tryRow_6 : decode cX4_tryRow 6 = .ok (.if_icmp .lt 4, 3) := by decide +kernel
theorem dX4_tryRow_9 : decode cX4_tryRow 9 = .ok (.return_, 1) := by decide +kernel
theorem dX4_tryRow_10 : decode cX4_tryRow 10 = .ok (.iload_n 1, 1) := by decide +kernel
theorem dX4_tryRow_11 : decode cX4_tryRow 11 = .ok (.iload_n 2, 1) := by decide +kernel
theorem dX4_tryRow_12 : decode cX4_tryRow 12 = .ok (.if_icmp .ge 9, 3) := by decide +kernel
theorem dX4_tryRow_15 : decode cX4_tryRow 15 = .ok (.iload_n 1, 1) := by decide +kernel
theorem dX4_tryRow_16 : decode cX4_tryRow 16 = .ok (.bipush 7, 2) := by decide +kernel
theorem dX4_tryRow_18 : decode cX4_tryRow 18 = .ok (.if_icmp .lt 25, 3) := by decide +kernel
theorem dX4_tryRow_21 : decode cX4_tryRow 21 = .ok (.aload_n 0, 1) := by decide +kernel
theorem dX4_tryRow_22 : decode cX4_tryRow 22 = .ok (.iload 4, 2) := by decide +kernel
theorem dX4_tryRow_24 : decode cX4_tryRow 24 = .ok (.putfield 148, 3) := by decide +kernel
theorem dX4_tryRow_27 : decode cX4_tryRow 27 = .ok (.aload_n 0, 1) := by decide +kernel
theorem dX4_tryRow_28 : decode cX4_tryRow 28 = .ok (.getfield 15, 3) := by decide +kernel
theorem dX4_tryRow_31 : decode cX4_tryRow 31 = .ok (.iconst 0, 1) := by decide +kernel
theorem dX4_tryRow_32 : decode cX4_tryRow 32 = .ok (.aload_n 0, 1) := by decide +kernel
theorem dX4_tryRow_33 : decode cX4_tryRow 33 = .ok (.getfield 9, 3) := by decide +kernel
theorem dX4_tryRow_36 : decode cX4_tryRow 36 = .ok (.iconst 0, 1) := by decide +kernel
theorem dX4_tryRow_37 : decode cX4_tryRow 37 = .ok (.bipush 7, 2) := by decide +kernel
theorem dX4_tryRow_39 : decode cX4_tryRow 39 = .ok (.invokestatic 155, 3) := by decide +kernel
theorem dX4_tryRow_42 : decode cX4_tryRow 42 = .ok (.return_, 1) := by decide +kernel
theorem dX4_tryRow_43 : decode cX4_tryRow 43 = .ok (.iconst 0, 1) := by decide +kernel
theorem dX4_tryRow_44 : decode cX4_tryRow 44 = .ok (.istore 5, 2) := by decide +kernel
theorem dX4_tryRow_46 : decode cX4_tryRow 46 = .ok (.iload 5, 2) := by decide +kernel
theorem dX4_tryRow_48 : decode cX4_tryRow 48 = .ok (.aload_n 0, 1) := by decide +kernel
theorem dX4_tryRow_49 : decode cX4_tryRow 49 = .ok (.getfield 41, 3) := by decide +kernel
theorem dX4_tryRow_52 : decode cX4_tryRow 52 = .ok (.getfield 111, 3) := by decide +kernel
theorem dX4_tryRow_55 : decode cX4_tryRow 55 = .ok (.if_icmp .ge 75, 3) := by decide +kernel
theorem dX4_tryRow_58 : decode cX4_tryRow 58 = .ok (.iload_n 3, 1) := by decide +kernel
theorem dX4_tryRow_59 : decode cX4_tryRow 59 = .ok (.iload 5, 2) := by decide +kernel
theorem dX4_tryRow_61 : decode cX4_tryRow 61 = .ok (.ishr, 1) := by decide +kernel
theorem dX4_tryRow_62 : decode cX4_tryRow 62 = .ok (.iconst 1, 1) := by decide +kernel
theorem dX4_tryRow_63 : decode cX4_tryRow 63 = .ok (.iand, 1) := by decide +kernel
theorem dX4_tryRow_64 : decode cX4_tryRow 64 = .ok (.iconst 1, 1) := by decide +kernel
theorem dX4_tryRow_65 : decode cX4_tryRow 65 = .ok (.if_icmp .ne 59, 3) := by decide +kernel
theorem dX4_tryRow_68 : decode cX4_tryRow 68 = .ok (.aload_n 0, 1) := by decide +kernel
theorem dX4_tryRow_69 : decode cX4_tryRow 69 = .ok (.getfield 15, 3) := by decide +kernel
theorem dX4_tryRow_72 : decode cX4_tryRow 72 = .ok (.iload_n 1, 1) := by decide +kernel
theorem dX4_tryRow_73 : decode cX4_tryRow 73 = .ok (.iload 5, 2) := by decide +kernel
theorem dX4_tryRow_75 : decode cX4_tryRow 75 = .ok (.iastore, 1) := by decide +kernel
theorem dX4_tryRow_76 : decode cX4_tryRow 76 = .ok (.iload_n 1, 1) := by decide +kernel
theorem dX4_tryRow_77 : decode cX4_tryRow 77 = .ok (.ifCond .ne 7, 3) := by decide +kernel
theorem dX4_tryRow_80 : decode cX4_tryRow 80 = .ok (.iconst 0, 1) := by decide +kernel
theorem dX4_tryRow_81 : decode cX4_tryRow 81 = .ok (.goto 20, 3) := by decide +kernel
theorem dX4_tryRow_84 : decode cX4_tryRow 84 = .ok (.aload_n 0, 1) := by decide +kernel
theorem dX4_tryRow_85 : decode cX4_tryRow 85 = .ok (.getfield 41, 3) := by decide +kernel
theorem dX4_tryRow_88 : decode cX4_tryRow 88 = .ok (.aload_n 0, 1) := by decide +kernel
theorem dX4_tryRow_89 : decode cX4_tryRow 89 = .ok (.getfield 15, 3) := by decide +kernel
theorem dX4_tryRow_92 : decode cX4_tryRow 92 = .ok (.iload_n 1, 1) := by decide +kernel
theorem dX4_tryRow_93 : decode cX4_tryRow 93 = .ok (.iconst 1, 1) := by decide +kernel
theorem dX4_tryRow_94 : decode cX4_tryRow 94 = .ok (.isub, 1) := by decide +kernel
theorem dX4_tryRow_95 : decode cX4_tryRow 95 = .ok (.iaload, 1) := by decide +kernel
theorem dX4_tryRow_96 : decode cX4_tryRow 96 = .ok (.iload 5, 2) := by decide +kernel
theorem dX4_tryRow_98 : decode cX4_tryRow 98 = .ok (.invokevirtual 161, 3) := by decide +kernel
theorem dX4_tryRow_101 : decode cX4_tryRow 101 = .ok (.istore 6, 2) := by decide +kernel
theorem dX4_tryRow_103 : decode cX4_tryRow 103 = .ok (.aload_n 0, 1) := by decide +kernel
theorem dX4_tryRow_104 : decode cX4_tryRow 104 = .ok (.iload_n 1, 1) := by decide +kernel
theorem dX4_tryRow_105 : decode cX4_tryRow 105 = .ok (.iconst 1, 1) := by decide +kernel
theorem dX4_tryRow_106 : decode cX4_tryRow 106 = .ok (.iadd, 1) := by decide +kernel
theorem dX4_tryRow_107 : decode cX4_tryRow 107 = .ok (.iload_n 2, 1) := by decide +kernel
theorem dX4_tryRow_108 : decode cX4_tryRow 108 = .ok (.iload_n 3, 1) := by decide +kernel
theorem dX4_tryRow_109 : decode cX4_tryRow 109 = .ok (.iconst 1, 1) := by decide +kernel
theorem dX4_tryRow_110 : decode cX4_tryRow 110 = .ok (.iload 5, 2) := by decide +kernel
theorem dX4_tryRow_112 : decode cX4_tryRow 112 = .ok (.ishl, 1) := by decide +kernel
theorem dX4_tryRow_113 : decode cX4_tryRow 113 = .ok (.iconst (-1), 1) := by decide +kernel
theorem dX4_tryRow_114 : decode cX4_tryRow 114 = .ok (.ixor, 1) := by decide +kernel
theorem dX4_tryRow_115 : decode cX4_tryRow 115 = .ok (.iand, 1) := by decide +kernel
theorem dX4_tryRow_116 : decode cX4_tryRow 116 = .ok (.iload 4, 2) := by decide +kernel
theorem dX4_tryRow_118 : decode cX4_tryRow 118 = .ok (.iload 6, 2) := by decide +kernel
theorem dX4_tryRow_120 : decode cX4_tryRow 120 = .ok (.iadd, 1) := by decide +kernel
theorem dX4_tryRow_121 : decode cX4_tryRow 121 = .ok (.invokevirtual 151, 3) := by decide +kernel
theorem dX4_tryRow_124 : decode cX4_tryRow 124 = .ok (.iinc 5 1, 3) := by decide +kernel
theorem dX4_tryRow_127 : decode cX4_tryRow 127 = .ok (.goto (-81), 3) := by decide +kernel
theorem dX4_tryRow_130 : decode cX4_tryRow 130 = .ok (.return_, 1) := by decide +kernel
theorem dX4_fareOf_0 : decode cX4_fareOf 0 = .ok (.iconst 0, 1) := by decide +kernel
theorem dX4_fareOf_1 : decode cX4_fareOf 1 = .ok (.istore 4, 2) := by decide +kernel
theorem dX4_fareOf_3 : decode cX4_fareOf 3 = .ok (.iconst 0, 1) := by decide +kernel
theorem dX4_fareOf_4 : decode cX4_fareOf 4 = .ok (.istore 5, 2) := by decide +kernel
theorem dX4_fareOf_6 : decode cX4_fareOf 6 = .ok (.iload 5, 2) := by decide +kernel
theorem dX4_fareOf_8 : decode cX4_fareOf 8 = .ok (.aload_n 0, 1) := by decide +kernel
theorem dX4_fareOf_9 : decode cX4_fareOf 9 = .ok (.getfield 41, 3) := by decide +kernel
theorem dX4_fareOf_12 : decode cX4_fareOf 12 = .ok (.getfield 111, 3) := by decide +kernel
theorem dX4_fareOf_15 : decode cX4_fareOf 15 = .ok (.if_icmp .ge 38, 3) := by decide +kernel
theorem dX4_fareOf_18 : decode cX4_fareOf 18 = .ok (.iload 4, 2) := by decide +kernel
theorem dX4_fareOf_20 : decode cX4_fareOf 20 = .ok (.iload_n 1, 1) := by decide +kernel
theorem dX4_fareOf_21 : decode cX4_fareOf 21 = .ok (.iload 5, 2) := by decide +kernel
theorem dX4_fareOf_23 : decode cX4_fareOf 23 = .ok (.ishr, 1) := by decide +kernel
theorem dX4_fareOf_24 : decode cX4_fareOf 24 = .ok (.iconst 1, 1) := by decide +kernel
theorem dX4_fareOf_25 : decode cX4_fareOf 25 = .ok (.iand, 1) := by decide +kernel
theorem dX4_fareOf_26 : decode cX4_fareOf 26 = .ok (.iconst 1, 1) := by decide +kernel
theorem dX4_fareOf_27 : decode cX4_fareOf 27 = .ok (.if_icmp .ne 16, 3) := by decide +kernel
theorem dX4_fareOf_30 : decode cX4_fareOf 30 = .ok (.aload_n 0, 1) := by decide +kernel
theorem dX4_fareOf_31 : decode cX4_fareOf 31 = .ok (.getfield 45, 3) := by decide +kernel
theorem dX4_fareOf_34 : decode cX4_fareOf 34 = .ok (.getfield 120, 3) := by decide +kernel
theorem dX4_fareOf_37 : decode cX4_fareOf 37 = .ok (.iload 5, 2) := by decide +kernel
theorem dX4_fareOf_39 : decode cX4_fareOf 39 = .ok (.iaload, 1) := by decide +kernel
theorem dX4_fareOf_40 : decode cX4_fareOf 40 = .ok (.goto 4, 3) := by decide +kernel
theorem dX4_fareOf_43 : decode cX4_fareOf 43 = .ok (.iconst 0, 1) := by decide +kernel
theorem dX4_fareOf_44 : decode cX4_fareOf 44 = .ok (.iadd, 1) := by decide +kernel
theorem dX4_fareOf_45 : decode cX4_fareOf 45 = .ok (.istore 4, 2) := by decide +kernel
theorem dX4_fareOf_47 : decode cX4_fareOf 47 = .ok (.iinc 5 1, 3) := by decide +kernel
theorem dX4_fareOf_50 : decode cX4_fareOf 50 = .ok (.goto (-44), 3) := by decide +kernel
theorem dX4_fareOf_53 : decode cX4_fareOf 53 = .ok (.iload 4, 2) := by decide +kernel
theorem dX4_fareOf_55 : decode cX4_fareOf 55 = .ok (.ifCond .ne 7, 3) := by decide +kernel
theorem dX4_fareOf_58 : decode cX4_fareOf 58 = .ok (.iconst 1, 1) := by decide +kernel
theorem dX4_fareOf_59 : decode cX4_fareOf 59 = .ok (.goto 4, 3) := by decide +kernel
theorem dX4_fareOf_62 : decode cX4_fareOf 62 = .ok (.iconst 0, 1) := by decide +kernel
theorem dX4_fareOf_63 : decode cX4_fareOf 63 = .ok (.istore 5, 2) := by decide +kernel
theorem dX4_fareOf_65 : decode cX4_fareOf 65 = .ok (.iconst 1, 1) := by decide +kernel
theorem dX4_fareOf_66 : decode cX4_fareOf 66 = .ok (.iload 5, 2) := by decide +kernel
theorem dX4_fareOf_68 : decode cX4_fareOf 68 = .ok (.ifCond .eq 10, 3) := by decide +kernel
theorem dX4_fareOf_71 : decode cX4_fareOf 71 = .ok (.iload_n 1, 1) := by decide +kernel
theorem dX4_fareOf_72 : decode cX4_fareOf 72 = .ok (.invokestatic 81, 3) := by decide +kernel
theorem dX4_fareOf_75 : decode cX4_fareOf 75 = .ok (.goto 5, 3) := by decide +kernel
theorem dX4_fareOf_78 : decode cX4_fareOf 78 = .ok (.iload 4, 2) := by decide +kernel
theorem dX4_fareOf_80 : decode cX4_fareOf 80 = .ok (.invokestatic 114, 3) := by decide +kernel
theorem dX4_fareOf_83 : decode cX4_fareOf 83 = .ok (.istore 6, 2) := by decide +kernel
theorem dX4_fareOf_85 : decode cX4_fareOf 85 = .ok (.iload_n 2, 1) := by decide +kernel
theorem dX4_fareOf_86 : decode cX4_fareOf 86 = .ok (.iload 5, 2) := by decide +kernel
theorem dX4_fareOf_88 : decode cX4_fareOf 88 = .ok (.ifCond .eq 7, 3) := by decide +kernel
theorem dX4_fareOf_91 : decode cX4_fareOf 91 = .ok (.iconst 1, 1) := by decide +kernel
theorem dX4_fareOf_92 : decode cX4_fareOf 92 = .ok (.goto 12, 3) := by decide +kernel
theorem dX4_fareOf_95 : decode cX4_fareOf 95 = .ok (.aload_n 0, 1) := by decide +kernel
theorem dX4_fareOf_96 : decode cX4_fareOf 96 = .ok (.getfield 45, 3) := by decide +kernel
theorem dX4_fareOf_99 : decode cX4_fareOf 99 = .ok (.getfield 120, 3) := by decide +kernel
theorem dX4_fareOf_102 : decode cX4_fareOf 102 = .ok (.iload_n 3, 1) := by decide +kernel
theorem dX4_fareOf_103 : decode cX4_fareOf 103 = .ok (.iaload, 1) := by decide +kernel
theorem dX4_fareOf_104 : decode cX4_fareOf 104 = .ok (.imul, 1) := by decide +kernel
theorem dX4_fareOf_105 : decode cX4_fareOf 105 = .ok (.istore 7, 2) := by decide +kernel
theorem dX4_fareOf_107 : decode cX4_fareOf 107 = .ok (.iload_n 2, 1) := by decide +kernel
theorem dX4_fareOf_108 : decode cX4_fareOf 108 = .ok (.istore 8, 2) := by decide +kernel
theorem dX4_fareOf_110 : decode cX4_fareOf 110 = .ok (.iconst 0, 1) := by decide +kernel
theorem dX4_fareOf_111 : decode cX4_fareOf 111 = .ok (.istore 9, 2) := by decide +kernel
theorem dX4_fareOf_113 : decode cX4_fareOf 113 = .ok (.iconst 0, 1) := by decide +kernel
theorem dX4_fareOf_114 : decode cX4_fareOf 114 = .ok (.istore 10, 2) := by decide +kernel
theorem dX4_fareOf_116 : decode cX4_fareOf 116 = .ok (.iload 10, 2) := by decide +kernel
theorem dX4_fareOf_118 : decode cX4_fareOf 118 = .ok (.aload_n 0, 1) := by decide +kernel
theorem dX4_fareOf_119 : decode cX4_fareOf 119 = .ok (.getfield 41, 3) := by decide +kernel
theorem dX4_fareOf_122 : decode cX4_fareOf 122 = .ok (.getfield 111, 3) := by decide +kernel
theorem dX4_fareOf_125 : decode cX4_fareOf 125 = .ok (.if_icmp .ge 91, 3) := by decide +kernel
theorem dX4_fareOf_128 : decode cX4_fareOf 128 = .ok (.iload_n 1, 1) := by decide +kernel
theorem dX4_fareOf_129 : decode cX4_fareOf 129 = .ok (.iload 10, 2) := by decide +kernel
theorem dX4_fareOf_131 : decode cX4_fareOf 131 = .ok (.ishr, 1) := by decide +kernel
theorem dX4_fareOf_132 : decode cX4_fareOf 132 = .ok (.iconst 1, 1) := by decide +kernel
theorem dX4_fareOf_133 : decode cX4_fareOf 133 = .ok (.iand, 1) := by decide +kernel
theorem dX4_fareOf_134 : decode cX4_fareOf 134 = .ok (.iconst 1, 1) := by decide +kernel
theorem dX4_fareOf_135 : decode cX4_fareOf 135 = .ok (.if_icmp .ne 75, 3) := by decide +kernel
theorem dX4_fareOf_138 : decode cX4_fareOf 138 = .ok (.iload_n 2, 1) := by decide +kernel
theorem dX4_fareOf_139 : decode cX4_fareOf 139 = .ok (.iload 5, 2) := by decide +kernel
theorem dX4_fareOf_141 : decode cX4_fareOf 141 = .ok (.ifCond .eq 7, 3) := by decide +kernel
theorem dX4_fareOf_144 : decode cX4_fareOf 144 = .ok (.iconst 1, 1) := by decide +kernel
theorem dX4_fareOf_145 : decode cX4_fareOf 145 = .ok (.goto 13, 3) := by decide +kernel
theorem dX4_fareOf_148 : decode cX4_fareOf 148 = .ok (.aload_n 0, 1) := by decide +kernel
theorem dX4_fareOf_149 : decode cX4_fareOf 149 = .ok (.getfield 45, 3) := by decide +kernel
theorem dX4_fareOf_152 : decode cX4_fareOf 152 = .ok (.getfield 120, 3) := by decide +kernel
theorem dX4_fareOf_155 : decode cX4_fareOf 155 = .ok (.iload 10, 2) := by decide +kernel
theorem dX4_fareOf_157 : decode cX4_fareOf 157 = .ok (.iaload, 1) := by decide +kernel
theorem dX4_fareOf_158 : decode cX4_fareOf 158 = .ok (.imul, 1) := by decide +kernel
theorem dX4_fareOf_159 : decode cX4_fareOf 159 = .ok (.istore 11, 2) := by decide +kernel
theorem dX4_fareOf_161 : decode cX4_fareOf 161 = .ok (.iload 8, 2) := by decide +kernel
theorem dX4_fareOf_163 : decode cX4_fareOf 163 = .ok (.iload 11, 2) := by decide +kernel
theorem dX4_fareOf_165 : decode cX4_fareOf 165 = .ok (.iload 6, 2) := by decide +kernel
theorem dX4_fareOf_167 : decode cX4_fareOf 167 = .ok (.idiv, 1) := by decide +kernel
theorem dX4_fareOf_168 : decode cX4_fareOf 168 = .ok (.isub, 1) := by decide +kernel
theorem dX4_fareOf_169 : decode cX4_fareOf 169 = .ok (.istore 8, 2) := by decide +kernel
theorem dX4_fareOf_171 : decode cX4_fareOf 171 = .ok (.iload 11, 2) := by decide +kernel
theorem dX4_fareOf_173 : decode cX4_fareOf 173 = .ok (.iload 6, 2) := by decide +kernel
theorem dX4_fareOf_175 : decode cX4_fareOf 175 = .ok (.irem, 1) := by decide +kernel
theorem dX4_fareOf_176 : decode cX4_fareOf 176 = .ok (.iload 7, 2) := by decide +kernel
theorem dX4_fareOf_178 : decode cX4_fareOf 178 = .ok (.iload 6, 2) := by decide +kernel
theorem dX4_fareOf_180 : decode cX4_fareOf 180 = .ok (.irem, 1) := by decide +kernel
theorem dX4_fareOf_181 : decode cX4_fareOf 181 = .ok (.isub, 1) := by decide +kernel
theorem dX4_fareOf_182 : decode cX4_fareOf 182 = .ok (.istore 12, 2) := by decide +kernel
theorem dX4_fareOf_184 : decode cX4_fareOf 184 = .ok (.iload 9, 2) := by decide +kernel
theorem dX4_fareOf_186 : decode cX4_fareOf 186 = .ok (.iload 12, 2) := by decide +kernel
theorem dX4_fareOf_188 : decode cX4_fareOf 188 = .ok (.ifCond .gt 14, 3) := by decide +kernel
theorem dX4_fareOf_191 : decode cX4_fareOf 191 = .ok (.iload 12, 2) := by decide +kernel
theorem dX4_fareOf_193 : decode cX4_fareOf 193 = .ok (.ifCond .ne 13, 3) := by decide +kernel
theorem dX4_fareOf_196 : decode cX4_fareOf 196 = .ok (.iload 10, 2) := by decide +kernel
theorem dX4_fareOf_198 : decode cX4_fareOf 198 = .ok (.iload_n 3, 1) := by decide +kernel
theorem dX4_fareOf_199 : decode cX4_fareOf 199 = .ok (.if_icmp .ge 7, 3) := by decide +kernel
theorem dX4_fareOf_202 : decode cX4_fareOf 202 = .ok (.iconst 1, 1) := by decide +kernel
theorem dX4_fareOf_203 : decode cX4_fareOf 203 = .ok (.goto 4, 3) := by decide +kernel
theorem dX4_fareOf_206 : decode cX4_fareOf 206 = .ok (.iconst 0, 1) := by decide +kernel
theorem dX4_fareOf_207 : decode cX4_fareOf 207 = .ok (.iadd, 1) := by decide +kernel
theorem dX4_fareOf_208 : decode cX4_fareOf 208 = .ok (.istore 9, 2) := by decide +kernel
theorem dX4_fareOf_210 : decode cX4_fareOf 210 = .ok (.iinc 10 1, 3) := by decide +kernel
theorem dX4_fareOf_213 : decode cX4_fareOf 213 = .ok (.goto (-97), 3) := by decide +kernel
theorem dX4_fareOf_216 : decode cX4_fareOf 216 = .ok (.iload 7, 2) := by decide +kernel
theorem dX4_fareOf_218 : decode cX4_fareOf 218 = .ok (.iload 6, 2) := by decide +kernel
theorem dX4_fareOf_220 : decode cX4_fareOf 220 = .ok (.idiv, 1) := by decide +kernel
theorem dX4_fareOf_221 : decode cX4_fareOf 221 = .ok (.iload 9, 2) := by decide +kernel
theorem dX4_fareOf_223 : decode cX4_fareOf 223 = .ok (.iload 8, 2) := by decide +kernel
theorem dX4_fareOf_225 : decode cX4_fareOf 225 = .ok (.if_icmp .ge 7, 3) := by decide +kernel
theorem dX4_fareOf_228 : decode cX4_fareOf 228 = .ok (.iconst 1, 1) := by decide +kernel
theorem dX4_fareOf_229 : decode cX4_fareOf 229 = .ok (.goto 4, 3) := by decide +kernel
theorem dX4_fareOf_232 : decode cX4_fareOf 232 = .ok (.iconst 0, 1) := by decide +kernel
theorem dX4_fareOf_233 : decode cX4_fareOf 233 = .ok (.iadd, 1) := by decide +kernel
theorem dX4_fareOf_234 : decode cX4_fareOf 234 = .ok (.ireturn, 1) := by decide +kernel
theorem dX4_weightWithout_0 : decode cX4_weightWithout 0 = .ok (.aload_n 0, 1) := by decide +kernel
theorem dX4_weightWithout_1 : decode cX4_weightWithout 1 = .ok (.getfield 45, 3) := by decide +kernel
theorem dX4_weightWithout_4 : decode cX4_weightWithout 4 = .ok (.aload_n 0, 1) := by decide +kernel
theorem dX4_weightWithout_5 : decode cX4_weightWithout 5 = .ok (.getfield 41, 3) := by decide +kernel
theorem dX4_weightWithout_8 : decode cX4_weightWithout 8 = .ok (.aload_n 0, 1) := by decide +kernel
theorem dX4_weightWithout_9 : decode cX4_weightWithout 9 = .ok (.getfield 67, 3) := by decide +kernel
theorem dX4_weightWithout_12 : decode cX4_weightWithout 12 = .ok (.iconst 1, 1) := by decide +kernel
theorem dX4_weightWithout_13 : decode cX4_weightWithout 13 = .ok (.iload_n 1, 1) := by decide +kernel
theorem dX4_weightWithout_14 : decode cX4_weightWithout 14 = .ok (.ishl, 1) := by decide +kernel
theorem dX4_weightWithout_15 : decode cX4_weightWithout 15 = .ok (.iconst (-1), 1) := by decide +kernel
theorem dX4_weightWithout_16 : decode cX4_weightWithout 16 = .ok (.ixor, 1) := by decide +kernel
theorem dX4_weightWithout_17 : decode cX4_weightWithout 17 = .ok (.iand, 1) := by decide +kernel
theorem dX4_weightWithout_18 : decode cX4_weightWithout 18 = .ok (.aload_n 0, 1) := by decide +kernel
theorem dX4_weightWithout_19 : decode cX4_weightWithout 19 = .ok (.getfield 50, 3) := by decide +kernel
theorem dX4_weightWithout_22 : decode cX4_weightWithout 22 = .ok (.invokevirtual 164, 3) := by decide +kernel
theorem dX4_weightWithout_25 : decode cX4_weightWithout 25 = .ok (.ireturn, 1) := by decide +kernel
theorem dX4_bestToStay_0 : decode cX4_bestToStay 0 = .ok (.iconst (-1), 1) := by decide +kernel
theorem dX4_bestToStay_1 : decode cX4_bestToStay 1 = .ok (.istore_n 1, 1) := by decide +kernel
theorem dX4_bestToStay_2 : decode cX4_bestToStay 2 = .ok (.ldc 110, 2) := by decide +kernel
theorem dX4_bestToStay_4 : decode cX4_bestToStay 4 = .ok (.istore_n 2, 1) := by decide +kernel
theorem dX4_bestToStay_5 : decode cX4_bestToStay 5 = .ok (.iconst 0, 1) := by decide +kernel
theorem dX4_bestToStay_6 : decode cX4_bestToStay 6 = .ok (.istore_n 3, 1) := by decide +kernel
theorem dX4_bestToStay_7 : decode cX4_bestToStay 7 = .ok (.iload_n 3, 1) := by decide +kernel
theorem dX4_bestToStay_8 : decode cX4_bestToStay 8 = .ok (.aload_n 0, 1) := by decide +kernel
theorem dX4_bestToStay_9 : decode cX4_bestToStay 9 = .ok (.getfield 41, 3) := by decide +kernel
theorem dX4_bestToStay_12 : decode cX4_bestToStay 12 = .ok (.getfield 111, 3) := by decide +kernel
theorem dX4_bestToStay_15 : decode cX4_bestToStay 15 = .ok (.if_icmp .ge 38, 3) := by decide +kernel
theorem dX4_bestToStay_18 : decode cX4_bestToStay 18 = .ok (.aload_n 0, 1) := by decide +kernel
theorem dX4_bestToStay_19 : decode cX4_bestToStay 19 = .ok (.getfield 67, 3) := by decide +kernel
theorem dX4_bestToStay_22 : decode cX4_bestToStay 22 = .ok (.iload_n 3, 1) := by decide +kernel
theorem dX4_bestToStay_23 : decode cX4_bestToStay 23 = .ok (.ishr, 1) := by decide +kernel
theorem dX4_bestToStay_24 : decode cX4_bestToStay 24 = .ok (.iconst 1, 1) := by decide +kernel
theorem dX4_bestToStay_25 : decode cX4_bestToStay 25 = .ok (.iand, 1) := by decide +kernel
theorem dX4_bestToStay_26 : decode cX4_bestToStay 26 = .ok (.iconst 1, 1) := by decide +kernel
theorem dX4_bestToStay_27 : decode cX4_bestToStay 27 = .ok (.if_icmp .ne 20, 3) := by decide +kernel
theorem dX4_bestToStay_30 : decode cX4_bestToStay 30 = .ok (.aload_n 0, 1) := by decide +kernel
theorem dX4_bestToStay_31 : decode cX4_bestToStay 31 = .ok (.iload_n 3, 1) := by decide +kernel
theorem dX4_bestToStay_32 : decode cX4_bestToStay 32 = .ok (.invokevirtual 168, 3) := by decide +kernel
theorem dX4_bestToStay_35 : decode cX4_bestToStay 35 = .ok (.iload_n 2, 1) := by decide +kernel
theorem dX4_bestToStay_36 : decode cX4_bestToStay 36 = .ok (.if_icmp .ge 11, 3) := by decide +kernel
theorem dX4_bestToStay_39 : decode cX4_bestToStay 39 = .ok (.iload_n 3, 1) := by decide +kernel
theorem dX4_bestToStay_40 : decode cX4_bestToStay 40 = .ok (.istore_n 1, 1) := by decide +kernel
theorem dX4_bestToStay_41 : decode cX4_bestToStay 41 = .ok (.aload_n 0, 1) := by decide +kernel
theorem dX4_bestToStay_42 : decode cX4_bestToStay 42 = .ok (.iload_n 3, 1) := by decide +kernel
theorem dX4_bestToStay_43 : decode cX4_bestToStay 43 = .ok (.invokevirtual 168, 3) := by decide +kernel
theorem dX4_bestToStay_46 : decode cX4_bestToStay 46 = .ok (.istore_n 2, 1) := by decide +kernel
theorem dX4_bestToStay_47 : decode cX4_bestToStay 47 = .ok (.iinc 3 1, 3) := by decide +kernel
theorem dX4_bestToStay_50 : decode cX4_bestToStay 50 = .ok (.goto (-43), 3) := by decide +kernel
theorem dX4_bestToStay_53 : decode cX4_bestToStay 53 = .ok (.iload_n 1, 1) := by decide +kernel
theorem dX4_bestToStay_54 : decode cX4_bestToStay 54 = .ok (.ireturn, 1) := by decide +kernel
theorem dX5_init_0 : decode cX5_init 0 = .ok (.aload_n 0, 1) := by decide +kernel
theorem dX5_init_1 : decode cX5_init 1 = .ok (.invokespecial 3, 3) := by decide +kernel
theorem dX5_init_4 : decode cX5_init 4 = .ok (.aload_n 0, 1) := by decide +kernel
theorem dX5_init_5 : decode cX5_init 5 = .ok (.aload_n 1, 1) := by decide +kernel
theorem dX5_init_6 : decode cX5_init 6 = .ok (.putfield 9, 3) := by decide +kernel
theorem dX5_init_9 : decode cX5_init 9 = .ok (.return_, 1) := by decide +kernel
theorem dX5_allow_0 : decode cX5_allow 0 = .ok (.iload_n 1, 1) := by decide +kernel
theorem dX5_allow_1 : decode cX5_allow 1 = .ok (.ifCond .ne 22, 3) := by decide +kernel
theorem dX5_allow_4 : decode cX5_allow 4 = .ok (.aload_n 0, 1) := by decide +kernel
theorem dX5_allow_5 : decode cX5_allow 5 = .ok (.getfield 15, 3) := by decide +kernel
theorem dX5_allow_8 : decode cX5_allow 8 = .ok (.ifCond .ne 15, 3) := by decide +kernel
theorem dX5_allow_11 : decode cX5_allow 11 = .ok (.aload_n 0, 1) := by decide +kernel
theorem dX5_allow_12 : decode cX5_allow 12 = .ok (.iconst 1, 1) := by decide +kernel
theorem dX5_allow_13 : decode cX5_allow 13 = .ok (.bipush 8, 2) := by decide +kernel
theorem dX5_allow_15 : decode cX5_allow 15 = .ok (.iload_n 2, 1) := by decide +kernel
theorem dX5_allow_16 : decode cX5_allow 16 = .ok (.imul, 1) := by decide +kernel
theorem dX5_allow_17 : decode cX5_allow 17 = .ok (.iadd, 1) := by decide +kernel
theorem dX5_allow_18 : decode cX5_allow 18 = .ok (.iload_n 3, 1) := by decide +kernel
theorem dX5_allow_19 : decode cX5_allow 19 = .ok (.iadd, 1) := by decide +kernel
theorem dX5_allow_20 : decode cX5_allow 20 = .ok (.putfield 15, 3) := by decide +kernel
theorem dX5_allow_23 : decode cX5_allow 23 = .ok (.iload_n 1, 1) := by decide +kernel
theorem dX5_allow_24 : decode cX5_allow 24 = .ok (.ireturn, 1) := by decide +kernel
theorem dX5_skipBlanks_0 : decode cX5_skipBlanks 0 = .ok (.iconst 0, 1) := by decide +kernel
theorem dX5_skipBlanks_1 : decode cX5_skipBlanks 1 = .ok (.istore_n 1, 1) := by decide +kernel
theorem dX5_skipBlanks_2 : decode cX5_skipBlanks 2 = .ok (.iload_n 1, 1) := by decide +kernel
theorem dX5_skipBlanks_3 : decode cX5_skipBlanks 3 = .ok (.sipush 400, 3) := by decide +kernel
theorem dX5_skipBlanks_6 : decode cX5_skipBlanks 6 = .ok (.if_icmp .ge 35, 3) := by decide +kernel
theorem dX5_skipBlanks_9 : decode cX5_skipBlanks 9 = .ok (.aload_n 0, 1) := by decide +kernel
theorem dX5_skipBlanks_10 : decode cX5_skipBlanks 10 = .ok (.getfield 9, 3) := by decide +kernel
theorem dX5_skipBlanks_13 : decode cX5_skipBlanks 13 = .ok (.aload_n 0, 1) := by decide +kernel
theorem dX5_skipBlanks_14 : decode cX5_skipBlanks 14 = .ok (.getfield 19, 3) := by decide +kernel
theorem dX5_skipBlanks_17 : decode cX5_skipBlanks 17 = .ok (.invokevirtual 22, 3) := by decide +kernel
theorem dX5_skipBlanks_20 : decode cX5_skipBlanks 20 = .ok (.bipush 32, 2) := by decide +kernel
theorem dX5_skipBlanks_22 : decode cX5_skipBlanks 22 = .ok (.if_icmp .ne 19, 3) := by decide +kernel
theorem dX5_skipBlanks_25 : decode cX5_skipBlanks 25 = .ok (.aload_n 0, 1) := by decide +kernel
theorem dX5_skipBlanks_26 : decode cX5_skipBlanks 26 = .ok (.dup, 1) := by decide +kernel
theorem dX5_skipBlanks_27 : decode cX5_skipBlanks 27 = .ok (.getfield 19, 3) := by decide +kernel
theorem dX5_skipBlanks_30 : decode cX5_skipBlanks 30 = .ok (.iconst 1, 1) := by decide +kernel
theorem dX5_skipBlanks_31 : decode cX5_skipBlanks 31 = .ok (.iadd, 1) := by decide +kernel
theorem dX5_skipBlanks_32 : decode cX5_skipBlanks 32 = .ok (.putfield 19, 3) := by decide +kernel
theorem dX5_skipBlanks_35 : decode cX5_skipBlanks 35 = .ok (.iinc 1 1, 3) := by decide +kernel
theorem dX5_skipBlanks_38 : decode cX5_skipBlanks 38 = .ok (.goto (-36), 3) := by decide +kernel
theorem dX5_skipBlanks_41 : decode cX5_skipBlanks 41 = .ok (.aload_n 0, 1) := by decide +kernel
theorem dX5_skipBlanks_42 : decode cX5_skipBlanks 42 = .ok (.getfield 19, 3) := by decide +kernel
theorem dX5_skipBlanks_45 : decode cX5_skipBlanks 45 = .ok (.ireturn, 1) := by decide +kernel
theorem dX5_takeSign_0 : decode cX5_takeSign 0 = .ok (.aload_n 0, 1) := by decide +kernel
theorem dX5_takeSign_1 : decode cX5_takeSign 1 = .ok (.invokevirtual 27, 3) := by decide +kernel
theorem dX5_takeSign_4 : decode cX5_takeSign 4 = .ok (.pop, 1) := by decide +kernel
theorem dX5_takeSign_5 : decode cX5_takeSign 5 = .ok (.aload_n 0, 1) := by decide +kernel
theorem dX5_takeSign_6 : decode cX5_takeSign 6 = .ok (.getfield 9, 3) := by decide +kernel
theorem dX5_takeSign_9 : decode cX5_takeSign 9 = .ok (.aload_n 0, 1) := by decide +kernel
theorem dX5_takeSign_10 : decode cX5_takeSign 10 = .ok (.getfield 19, 3) := by decide +kernel
theorem dX5_takeSign_13 : decode cX5_takeSign 13 = .ok (.invokevirtual 22, 3) := by decide +kernel
theorem dX5_takeSign_16 : decode cX5_takeSign 16 = .ok (.iload_n 1, 1) := by decide +kernel
theorem dX5_takeSign_17 : decode cX5_takeSign 17 = .ok (.if_icmp .ne 7, 3) := by decide +kernel
theorem dX5_takeSign_20 : decode cX5_takeSign 20 = .ok (.iconst 1, 1) := by decide +kernel
theorem dX5_takeSign_21 : decode cX5_takeSign 21 = .ok (.goto 4, 3) := by decide +kernel
theorem dX5_takeSign_24 : decode cX5_takeSign 24 = .ok (.iconst 0, 1) := by decide +kernel
theorem dX5_takeSign_25 : decode cX5_takeSign 25 = .ok (.istore_n 2, 1) := by decide +kernel
theorem dX5_takeSign_26 : decode cX5_takeSign 26 = .ok (.iload_n 2, 1) := by decide +kernel
theorem dX5_takeSign_27 : decode cX5_takeSign 27 = .ok (.ifCond .eq 13, 3) := by decide +kernel
theorem dX5_takeSign_30 : decode cX5_takeSign 30 = .ok (.aload_n 0, 1) := by decide +kernel
theorem dX5_takeSign_31 : decode cX5_takeSign 31 = .ok (.dup, 1) := by decide +kernel
theorem dX5_takeSign_32 : decode cX5_takeSign 32 = .ok (.getfield 19, 3) := by decide +kernel
theorem dX5_takeSign_35 : decode cX5_takeSign 35 = .ok (.iconst 1, 1) := by decide +kernel
theorem dX5_takeSign_36 : decode cX5_takeSign 36 = .ok (.iadd, 1) := by decide +kernel
theorem dX5_takeSign_37 : decode cX5_takeSign 37 = .ok (.putfield 19, 3) := by decide +kernel
theorem dX5_takeSign_40 : decode cX5_takeSign 40 = .ok (.iload_n 2, 1) := by decide +kernel
theorem dX5_takeSign_41 : decode cX5_takeSign 41 = .ok (.ireturn, 1) := by decide +kernel
theorem dX5_takeWord_0 : decode cX5_takeWord 0 = .ok (.aload_n 0, 1) := by decide +kernel
theorem dX5_takeWord_1 : decode cX5_takeWord 1 = .ok (.invokevirtual 27, 3) := by decide +kernel
theorem dX5_takeWord_4 : decode cX5_takeWord 4 = .ok (.pop, 1) := by decide +kernel
theorem dX5_takeWord_5 : decode cX5_takeWord 5 = .ok (.aload_n 0, 1) := by decide +kernel
theorem dX5_takeWord_6 : decode cX5_takeWord 6 = .ok (.aload_n 1, 1) := by decide +kernel
theorem dX5_takeWord_7 : decode cX5_takeWord 7 = .ok (.invokevirtual 31, 3) := by decide +kernel
theorem dX5_takeWord_10 : decode cX5_takeWord 10 = .ok (.ireturn, 1) := by decide +kernel
theorem dX5_takeWordHere_0 : decode cX5_takeWordHere 0 = .ok (.aload_n 1, 1) := by decide +kernel
theorem dX5_takeWordHere_1 : decode cX5_takeWordHere 1 = .ok (.invokevirtual 35, 3) := by decide +kernel
theorem dX5_takeWordHere_4 : decode cX5_takeWordHere 4 = .ok (.istore_n 2, 1) := by decide +kernel
theorem dX5_takeWordHere_5 : decode cX5_takeWordHere 5 = .ok (.iconst 0, 1) := by decide +kernel
theorem dX5_takeWordHere_6 : decode cX5_takeWordHere 6 = .ok (.istore_n 3, 1) := by decide +kernel
theorem dX5_takeWordHere_7 : decode cX5_takeWordHere 7 = .ok (.iload_n 3, 1) := by decide +kernel
theorem dX5_takeWordHere_8 : decode cX5_takeWordHere 8 = .ok (.iload_n 2, 1) := by decide +kernel
theorem dX5_takeWordHere_9 : decode cX5_takeWordHere 9 = .ok (.if_icmp .ge 32, 3) := by decide +kernel
theorem dX5_takeWordHere_12 : decode cX5_takeWordHere 12 = .ok (.aload_n 0, 1) := by decide +kernel
theorem dX5_takeWordHere_13 : decode cX5_takeWordHere 13 = .ok (.getfield 9, 3) := by decide +kernel
theorem dX5_takeWordHere_16 : decode cX5_takeWordHere 16 = .ok (.aload_n 0, 1) := by decide +kernel
theorem dX5_takeWordHere_17 : decode cX5_takeWordHere 17 = .ok (.getfield 19, 3) := by decide +kernel
theorem dX5_takeWordHere_20 : decode cX5_takeWordHere 20 = .ok (.iload_n 3, 1) := by decide +kernel
theorem dX5_takeWordHere_21 : decode cX5_takeWordHere 21 = .ok (.iadd, 1) := by decide +kernel
theorem dX5_takeWordHere_22 : decode cX5_takeWordHere 22 = .ok (.invokevirtual 22, 3) := by decide +kernel
theorem dX5_takeWordHere_25 : decode cX5_takeWordHere 25 = .ok (.aload_n 1, 1) := by decide +kernel
theorem dX5_takeWordHere_26 : decode cX5_takeWordHere 26 = .ok (.iload_n 3, 1) := by decide +kernel
theorem dX5_takeWordHere_27 : decode cX5_takeWordHere 27 = .ok (.invokevirtual 40, 3) := by decide +kernel
theorem dX5_takeWordHere_30 : decode cX5_takeWordHere 30 = .ok (.if_icmp .eq 5, 3) := by decide +kernel
theorem dX5_takeWordHere_33 : decode cX5_takeWordHere 33 = .ok (.iconst 0, 1) := by decide +kernel
theorem dX5_takeWordHere_34 : decode cX5_takeWordHere 34 = .ok (.ireturn, 1) := by decide +kernel
theorem dX5_takeWordHere_35 : decode cX5_takeWordHere 35 = .ok (.iinc 3 1, 3) := by decide +kernel
theorem dX5_takeWordHere_38 : decode cX5_takeWordHere 38 = .ok (.goto (-31), 3) := by decide +kernel
theorem dX5_takeWordHere_41 : decode cX5_takeWordHere 41 = .ok (.aload_n 0, 1) := by decide +kernel
theorem dX5_takeWordHere_42 : decode cX5_takeWordHere 42 = .ok (.getfield 9, 3) := by decide +kernel
theorem dX5_takeWordHere_45 : decode cX5_takeWordHere 45 = .ok (.aload_n 0, 1) := by decide +kernel
theorem dX5_takeWordHere_46 : decode cX5_takeWordHere 46 = .ok (.getfield 19, 3) := by decide +kernel
theorem dX5_takeWordHere_49 : decode cX5_takeWordHere 49 = .ok (.iload_n 2, 1) := by decide +kernel
theorem dX5_takeWordHere_50 : decode cX5_takeWordHere 50 = .ok (.iadd, 1) := by decide +kernel
theorem dX5_takeWordHere_51 : decode cX5_takeWordHere 51 = .ok (.invokevirtual 22, 3) := by decide +kernel
theorem dX5_takeWordHere_54 : decode cX5_takeWordHere 54 = .ok (.istore_n 3, 1) := by decide +kernel
theorem dX5_takeWordHere_55 : decode cX5_takeWordHere 55 = .ok (.iload_n 3, 1) := by decide +kernel
theorem dX5_takeWordHere_56 : decode cX5_takeWordHere 56 = .ok (.bipush 97, 2) := by decide +kernel
theorem dX5_takeWordHere_58 : decode cX5_takeWordHere 58 = .ok (.if_icmp .lt 11, 3) := by decide +kernel
theorem dX5_takeWordHere_61 : decode cX5_takeWordHere 61 = .ok (.iload_n 3, 1) := by decide +kernel
theorem dX5_takeWordHere_62 : decode cX5_takeWordHere 62 = .ok (.bipush 122, 2) := by decide +kernel
theorem dX5_takeWordHere_64 : decode cX5_takeWordHere 64 = .ok (.if_icmp .gt 5, 3) := by decide +kernel
theorem dX5_takeWordHere_67 : decode cX5_takeWordHere 67 = .ok (.iconst 0, 1) := by decide +kernel
theorem dX5_takeWordHere_68 : decode cX5_takeWordHere 68 = .ok (.ireturn, 1) := by decide +kernel
theorem dX5_takeWordHere_69 : decode cX5_takeWordHere 69 = .ok (.aload_n 0, 1) := by decide +kernel
theorem dX5_takeWordHere_70 : decode cX5_takeWordHere 70 = .ok (.dup, 1) := by decide +kernel
theorem dX5_takeWordHere_71 : decode cX5_takeWordHere 71 = .ok (.getfield 19, 3) := by decide +kernel
theorem dX5_takeWordHere_74 : decode cX5_takeWordHere 74 = .ok (.iload_n 2, 1) := by decide +kernel
theorem dX5_takeWordHere_75 : decode cX5_takeWordHere 75 = .ok (.iadd, 1) := by decide +kernel
theorem dX5_takeWordHere_76 : decode cX5_takeWordHere 76 = .ok (.putfield 19, 3) := by decide +kernel
theorem dX5_takeWordHere_79 : decode cX5_takeWordHere 79 = .ok (.iconst 1, 1) := by decide +kernel
theorem dX5_takeWordHere_80 : decode cX5_takeWordHere 80 = .ok (.ireturn, 1) := by decide +kernel
theorem dX5_isDigit_0 : decode cX5_isDigit 0 = .ok (.iload_n 1, 1) := by decide +kernel
theorem dX5_isDigit_1 : decode cX5_isDigit 1 = .ok (.bipush 48, 2) := by decide +kernel
theorem dX5_isDigit_3 : decode cX5_isDigit 3 = .ok (.if_icmp .lt 13, 3) := by decide +kernel
theorem dX5_isDigit_6 : decode cX5_isDigit 6 = .ok (.iload_n 1, 1) := by decide +kernel
theorem dX5_isDigit_7 : decode cX5_isDigit 7 = .ok (.bipush 57, 2) := by decide +kernel
theorem dX5_isDigit_9 : decode cX5_isDigit 9 = .ok (.if_icmp .gt 7, 3) := by decide +kernel
theorem dX5_isDigit_12 : decode cX5_isDigit 12 = .ok (.iconst 1, 1) := by decide +kernel
theorem dX5_isDigit_13 : decode cX5_isDigit 13 = .ok (.goto 4, 3) := by decide +kernel
theorem dX5_isDigit_16 : decode cX5_isDigit 16 = .ok (.iconst 0, 1) := by decide +kernel
theorem dX5_isDigit_17 : decode cX5_isDigit 17 = .ok (.ireturn, 1) := by decide +kernel
theorem dX5_takeNumber_0 : decode cX5_takeNumber 0 = .ok (.aload_n 0, 1) := by decide +kernel
theorem dX5_takeNumber_1 : decode cX5_takeNumber 1 = .ok (.invokevirtual 27, 3) := by decide +kernel
theorem dX5_takeNumber_4 : decode cX5_takeNumber 4 = .ok (.pop, 1) := by decide +kernel
theorem dX5_takeNumber_5 : decode cX5_takeNumber 5 = .ok (.aload_n 0, 1) := by decide +kernel
theorem dX5_takeNumber_6 : decode cX5_takeNumber 6 = .ok (.iload_n 1, 1) := by decide +kernel
theorem dX5_takeNumber_7 : decode cX5_takeNumber 7 = .ok (.iload_n 2, 1) := by decide +kernel
theorem dX5_takeNumber_8 : decode cX5_takeNumber 8 = .ok (.invokevirtual 44, 3) := by decide +kernel
theorem dX5_takeNumber_11 : decode cX5_takeNumber 11 = .ok (.ireturn, 1) := by decide +kernel
theorem dX5_takeNumberHere_0 : decode cX5_takeNumberHere 0 = .ok (.aload_n 0, 1) := by decide +kernel
theorem dX5_takeNumberHere_1 : decode cX5_takeNumberHere 1 = .ok (.getfield 19, 3) := by decide +kernel
theorem dX5_takeNumberHere_4 : decode cX5_takeNumberHere 4 = .ok (.istore_n 3, 1) := by decide +kernel
theorem dX5_takeNumberHere_5 : decode cX5_takeNumberHere 5 = .ok (.iconst 0, 1) := by decide +kernel
theorem dX5_takeNumberHere_6 : decode cX5_takeNumberHere 6 = .ok (.istore 4, 2) := by decide +kernel
theorem dX5_takeNumberHere_8 : decode cX5_takeNumberHere 8 = .ok (.iconst 0, 1) := by decide +kernel
theorem dX5_takeNumberHere_9 : decode cX5_takeNumberHere 9 = .ok (.istore 5, 2) := by decide +kernel
theorem dX5_takeNumberHere_11 : decode cX5_takeNumberHere 11 = .ok (.iload 5, 2) := by decide +kernel
theorem dX5_takeNumberHere_13 : decode cX5_takeNumberHere 13 = .ok (.sipush 400, 3) := by decide +kernel
theorem dX5_takeNumberHere_16 : decode cX5_takeNumberHere 16 = .ok (.if_icmp .ge 65, 3) := by decide +kernel
theorem dX5_takeNumberHere_19 : decode cX5_takeNumberHere 19 = .ok (.aload_n 0, 1) := by decide +kernel
theorem dX5_takeNumberHere_20 : decode cX5_takeNumberHere 20 = .ok (.aload_n 0, 1) := by decide +kernel
theorem dX5_takeNumberHere_21 : decode cX5_takeNumberHere 21 = .ok (.getfield 9, 3) := by decide +kernel
theorem dX5_takeNumberHere_24 : decode cX5_takeNumberHere 24 = .ok (.aload_n 0, 1) := by decide +kernel
theorem dX5_takeNumberHere_25 : decode cX5_takeNumberHere 25 = .ok (.getfield 19, 3) := by decide +kernel
theorem dX5_takeNumberHere_28 : decode cX5_takeNumberHere 28 = .ok (.invokevirtual 22, 3) := by decide +kernel
theorem dX5_takeNumberHere_31 : decode cX5_takeNumberHere 31 = .ok (.invokevirtual 48, 3) := by decide +kernel
theorem dX5_takeNumberHere_34 : decode cX5_takeNumberHere 34 = .ok (.ifCond .eq 47, 3) := by decide +kernel
theorem dX5_takeNumberHere_37 : decode cX5_takeNumberHere 37 = .ok (.iload 5, 2) := by decide +kernel
theorem dX5_takeNumberHere_39 : decode cX5_takeNumberHere 39 = .ok (.iconst 5, 1) := by decide +kernel
theorem dX5_takeNumberHere_40 : decode cX5_takeNumberHere 40 = .ok (.if_icmp .ge 25, 3) := by decide +kernel
theorem dX5_takeNumberHere_43 : decode cX5_takeNumberHere 43 = .ok (.iload 4, 2) := by decide +kernel
theorem dX5_takeNumberHere_45 : decode cX5_takeNumberHere 45 = .ok (.bipush 10, 2) := by decide +kernel
theorem dX5_takeNumberHere_47 : decode cX5_takeNumberHere 47 = .ok (.imul, 1) := by decide +kernel
theorem dX5_takeNumberHere_48 : decode cX5_takeNumberHere 48 = .ok (.aload_n 0, 1) := by decide +kernel
theorem dX5_takeNumberHere_49 : decode cX5_takeNumberHere 49 = .ok (.getfield 9, 3) := by decide +kernel
theorem dX5_takeNumberHere_52 : decode cX5_takeNumberHere 52 = .ok (.aload_n 0, 1) := by decide +kernel
theorem dX5_takeNumberHere_53 : decode cX5_takeNumberHere 53 = .ok (.getfield 19, 3) := by decide +kernel
theorem dX5_takeNumberHere_56 : decode cX5_takeNumberHere 56 = .ok (.invokevirtual 22, 3) := by decide +kernel
theorem dX5_takeNumberHere_59 : decode cX5_takeNumberHere 59 = .ok (.iadd, 1) := by decide +kernel
theorem dX5_takeNumberHere_60 : decode cX5_takeNumberHere 60 = .ok (.bipush 48, 2) := by decide +kernel
theorem dX5_takeNumberHere_62 : decode cX5_takeNumberHere 62 = .ok (.isub, 1) := by decide +kernel
theorem dX5_takeNumberHere_63 : decode cX5_takeNumberHere 63 = .ok (.istore 4, 2) := by decide +kernel
theorem dX5_takeNumberHere_65 : decode cX5_takeNumberHere 65 = .ok (.aload_n 0, 1) := by decide +kernel
theorem dX5_takeNumberHere_66 : decode cX5_takeNumberHere 66 = .ok (.dup, 1) := by decide +kernel
theorem dX5_takeNumberHere_67 : decode cX5_takeNumberHere 67 = .ok (.getfield 19, 3) := by decide +kernel
theorem dX5_takeNumberHere_70 : decode cX5_takeNumberHere 70 = .ok (.iconst 1, 1) := by decide +kernel
theorem dX5_takeNumberHere_71 : decode cX5_takeNumberHere 71 = .ok (.iadd, 1) := by decide +kernel
theorem dX5_takeNumberHere_72 : decode cX5_takeNumberHere 72 = .ok (.putfield 19, 3) := by decide +kernel
theorem dX5_takeNumberHere_75 : decode cX5_takeNumberHere 75 = .ok (.iinc 5 1, 3) := by decide +kernel
theorem dX5_takeNumberHere_78 : decode cX5_takeNumberHere 78 = .ok (.goto (-67), 3) := by decide +kernel
theorem dX5_takeNumberHere_81 : decode cX5_takeNumberHere 81 = .ok (.aload_n 0, 1) := by decide +kernel
theorem dX5_takeNumberHere_82 : decode cX5_takeNumberHere 82 = .ok (.getfield 19, 3) := by decide +kernel
theorem dX5_takeNumberHere_85 : decode cX5_takeNumberHere 85 = .ok (.iload_n 3, 1) := by decide +kernel
theorem dX5_takeNumberHere_86 : decode cX5_takeNumberHere 86 = .ok (.isub, 1) := by decide +kernel
theorem dX5_takeNumberHere_87 : decode cX5_takeNumberHere 87 = .ok (.iconst 5, 1) := by decide +kernel
theorem dX5_takeNumberHere_88 : decode cX5_takeNumberHere 88 = .ok (.if_icmp .gt 19, 3) := by decide +kernel
theorem dX5_takeNumberHere_91 : decode cX5_takeNumberHere 91 = .ok (.iload 4, 2) := by decide +kernel
theorem dX5_takeNumberHere_93 : decode cX5_takeNumberHere 93 = .ok (.iload_n 1, 1) := by decide +kernel
theorem dX5_takeNumberHere_94 : decode cX5_takeNumberHere 94 = .ok (.if_icmp .lt 13, 3) := by decide +kernel
theorem dX5_takeNumberHere_97 : decode cX5_takeNumberHere 97 = .ok (.iload 4, 2) := by decide +kernel
theorem dX5_takeNumberHere_99 : decode cX5_takeNumberHere 99 = .ok (.iload_n 2, 1) := by decide +kernel
theorem dX5_takeNumberHere_100 : decode cX5_takeNumberHere 100 = .ok (.if_icmp .gt 7, 3) := by decide +kernel
theorem dX5_takeNumberHere_103 : decode cX5_takeNumberHere 103 = .ok (.iconst 1, 1) := by decide +kernel
theorem dX5_takeNumberHere_104 : decode cX5_takeNumberHere 104 = .ok (.goto 4, 3) := by decide +kernel
theorem dX5_takeNumberHere_107 : decode cX5_takeNumberHere 107 = .ok (.iconst 0, 1) := by decide +kernel
theorem dX5_takeNumberHere_108 : decode cX5_takeNumberHere 108 = .ok (.istore 5, 2) := by decide +kernel
theorem dX5_takeNumberHere_110 : decode cX5_takeNumberHere 110 = .ok (.aload_n 0, 1) := by decide +kernel
theorem dX5_takeNumberHere_111 : decode cX5_takeNumberHere 111 = .ok (.aload_n 0, 1) := by decide +kernel
theorem dX5_takeNumberHere_112 : decode cX5_takeNumberHere 112 = .ok (.getfield 19, 3) := by decide +kernel
theorem dX5_takeNumberHere_115 : decode cX5_takeNumberHere 115 = .ok (.iload_n 3, 1) := by decide +kernel
theorem dX5_takeNumberHere_116 : decode cX5_takeNumberHere 116 = .ok (.if_icmp .le 7, 3) := by decide +kernel
theorem dX5_takeNumberHere_119 : decode cX5_takeNumberHere 119 = .ok (.iconst 1, 1) := by decide +kernel
