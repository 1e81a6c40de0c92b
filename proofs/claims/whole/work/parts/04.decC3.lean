theorem dX11_undo_47 : decode cX11_undo 47 = .ok (.getfield 187, 3) := by decide +kernel
theorem dX11_undo_50 : decode cX11_undo 50 = .ok (.aaload, 1) := by decide +kernel
theorem dX11_undo_51 : decode cX11_undo 51 = .ok (.invokevirtual 190, 3) := by decide +kernel
theorem dX11_undo_54 : decode cX11_undo 54 = .ok (.aload_n 0, 1) := by decide +kernel
theorem dX11_undo_55 : decode cX11_undo 55 = .ok (.getfield 184, 3) := by decide +kernel
theorem dX11_undo_58 : decode cX11_undo 58 = .ok (.ireturn, 1) := by decide +kernel
theorem dX11_ahead_0 : decode cX11_ahead 0 = .ok (.aload_n 0, 1) := by decide +kernel
theorem dX11_ahead_1 : decode cX11_ahead 1 = .ok (.getfield 46, 3) := by decide +kernel
theorem dX11_ahead_4 : decode cX11_ahead 4 = .ok (.getfield 54, 3) := by decide +kernel
theorem dX11_ahead_7 : decode cX11_ahead 7 = .ok (.getfield 142, 3) := by decide +kernel
theorem dX11_ahead_10 : decode cX11_ahead 10 = .ok (.ifCond .eq 41, 3) := by decide +kernel
theorem dX11_ahead_13 : decode cX11_ahead 13 = .ok (.iload_n 2, 1) := by decide +kernel
theorem dX11_ahead_14 : decode cX11_ahead 14 = .ok (.iconst 0, 1) := by decide +kernel
theorem dX11_ahead_15 : decode cX11_ahead 15 = .ok (.bipush 100, 2) := by decide +kernel
theorem dX11_ahead_17 : decode cX11_ahead 17 = .ok (.invokestatic 194, 3) := by decide +kernel
theorem dX11_ahead_20 : decode cX11_ahead 20 = .ok (.ifCond .eq 31, 3) := by decide +kernel
theorem dX11_ahead_23 : decode cX11_ahead 23 = .ok (.iload_n 3, 1) := by decide +kernel
theorem dX11_ahead_24 : decode cX11_ahead 24 = .ok (.iconst 0, 1) := by decide +kernel
theorem dX11_ahead_25 : decode cX11_ahead 25 = .ok (.iconst 2, 1) := by decide +kernel
theorem dX11_ahead_26 : decode cX11_ahead 26 = .ok (.invokestatic 194, 3) := by decide +kernel
theorem dX11_ahead_29 : decode cX11_ahead 29 = .ok (.ifCond .eq 22, 3) := by decide +kernel
theorem dX11_ahead_32 : decode cX11_ahead 32 = .ok (.iload_n 3, 1) := by decide +kernel
theorem dX11_ahead_33 : decode cX11_ahead 33 = .ok (.iconst 2, 1) := by decide +kernel
theorem dX11_ahead_34 : decode cX11_ahead 34 = .ok (.if_icmp .eq 19, 3) := by decide +kernel
theorem dX11_ahead_37 : decode cX11_ahead 37 = .ok (.aload_n 0, 1) := by decide +kernel
theorem dX11_ahead_38 : decode cX11_ahead 38 = .ok (.getfield 46, 3) := by decide +kernel
theorem dX11_ahead_41 : decode cX11_ahead 41 = .ok (.getfield 54, 3) := by decide +kernel
theorem dX11_ahead_44 : decode cX11_ahead 44 = .ok (.iload_n 1, 1) := by decide +kernel
theorem dX11_ahead_45 : decode cX11_ahead 45 = .ok (.invokevirtual 116, 3) := by decide +kernel
theorem dX11_ahead_48 : decode cX11_ahead 48 = .ok (.ifCond .ne 5, 3) := by decide +kernel
theorem dX11_ahead_51 : decode cX11_ahead 51 = .ok (.iconst (-1), 1) := by decide +kernel
theorem dX11_ahead_52 : decode cX11_ahead 52 = .ok (.ireturn, 1) := by decide +kernel
theorem dX11_ahead_53 : decode cX11_ahead 53 = .ok (.aload_n 0, 1) := by decide +kernel
theorem dX11_ahead_54 : decode cX11_ahead 54 = .ok (.getfield 75, 3) := by decide +kernel
theorem dX11_ahead_57 : decode cX11_ahead 57 = .ok (.aload_n 0, 1) := by decide +kernel
theorem dX11_ahead_58 : decode cX11_ahead 58 = .ok (.getfield 46, 3) := by decide +kernel
theorem dX11_ahead_61 : decode cX11_ahead 61 = .ok (.aload_n 0, 1) := by decide +kernel
theorem dX11_ahead_62 : decode cX11_ahead 62 = .ok (.invokevirtual 156, 3) := by decide +kernel
theorem dX11_ahead_65 : decode cX11_ahead 65 = .ok (.iload_n 2, 1) := by decide +kernel
theorem dX11_ahead_66 : decode cX11_ahead 66 = .ok (.invokevirtual 198, 3) := by decide +kernel
theorem dX11_ahead_69 : decode cX11_ahead 69 = .ok (.astore 4, 2) := by decide +kernel
theorem dX11_ahead_71 : decode cX11_ahead 71 = .ok (.iload_n 3, 1) := by decide +kernel
theorem dX11_ahead_72 : decode cX11_ahead 72 = .ok (.iconst 2, 1) := by decide +kernel
theorem dX11_ahead_73 : decode cX11_ahead 73 = .ok (.if_icmp .ne 9, 3) := by decide +kernel
theorem dX11_ahead_76 : decode cX11_ahead 76 = .ok (.aload 4, 2) := by decide +kernel
theorem dX11_ahead_78 : decode cX11_ahead 78 = .ok (.getfield 202, 3) := by decide +kernel
theorem dX11_ahead_81 : decode cX11_ahead 81 = .ok (.ireturn, 1) := by decide +kernel
theorem dX11_ahead_82 : decode cX11_ahead 82 = .ok (.iload_n 3, 1) := by decide +kernel
theorem dX11_ahead_83 : decode cX11_ahead 83 = .ok (.ifCond .ne 12, 3) := by decide +kernel
theorem dX11_ahead_86 : decode cX11_ahead 86 = .ok (.aload 4, 2) := by decide +kernel
theorem dX11_ahead_88 : decode cX11_ahead 88 = .ok (.iload_n 1, 1) := by decide +kernel
theorem dX11_ahead_89 : decode cX11_ahead 89 = .ok (.invokevirtual 134, 3) := by decide +kernel
theorem dX11_ahead_92 : decode cX11_ahead 92 = .ok (.goto 10, 3) := by decide +kernel
theorem dX11_ahead_95 : decode cX11_ahead 95 = .ok (.aload 4, 2) := by decide +kernel
theorem dX11_ahead_97 : decode cX11_ahead 97 = .ok (.getfield 124, 3) := by decide +kernel
theorem dX11_ahead_100 : decode cX11_ahead 100 = .ok (.iload_n 1, 1) := by decide +kernel
theorem dX11_ahead_101 : decode cX11_ahead 101 = .ok (.iaload, 1) := by decide +kernel
theorem dX11_ahead_102 : decode cX11_ahead 102 = .ok (.ireturn, 1) := by decide +kernel
theorem dX11_over_0 : decode cX11_over 0 = .ok (.aload_n 0, 1) := by decide +kernel
theorem dX11_over_1 : decode cX11_over 1 = .ok (.getfield 46, 3) := by decide +kernel
theorem dX11_over_4 : decode cX11_over 4 = .ok (.getfield 54, 3) := by decide +kernel
theorem dX11_over_7 : decode cX11_over 7 = .ok (.getfield 142, 3) := by decide +kernel
theorem dX11_over_10 : decode cX11_over 10 = .ok (.ifCond .eq 21, 3) := by decide +kernel
theorem dX11_over_13 : decode cX11_over 13 = .ok (.aload_n 0, 1) := by decide +kernel
theorem dX11_over_14 : decode cX11_over 14 = .ok (.getfield 75, 3) := by decide +kernel
theorem dX11_over_17 : decode cX11_over 17 = .ok (.aload_n 0, 1) := by decide +kernel
theorem dX11_over_18 : decode cX11_over 18 = .ok (.getfield 46, 3) := by decide +kernel
theorem dX11_over_21 : decode cX11_over 21 = .ok (.aload_n 0, 1) := by decide +kernel
theorem dX11_over_22 : decode cX11_over 22 = .ok (.invokevirtual 156, 3) := by decide +kernel
theorem dX11_over_25 : decode cX11_over 25 = .ok (.invokevirtual 205, 3) := by decide +kernel
theorem dX11_over_28 : decode cX11_over 28 = .ok (.goto 4, 3) := by decide +kernel
theorem dX11_over_31 : decode cX11_over 31 = .ok (.iconst (-1), 1) := by decide +kernel
theorem dX11_over_32 : decode cX11_over 32 = .ok (.ireturn, 1) := by decide +kernel
theorem dX11_weight_0 : decode cX11_weight 0 = .ok (.aload_n 0, 1) := by decide +kernel
theorem dX11_weight_1 : decode cX11_weight 1 = .ok (.getfield 46, 3) := by decide +kernel
theorem dX11_weight_4 : decode cX11_weight 4 = .ok (.getfield 54, 3) := by decide +kernel
theorem dX11_weight_7 : decode cX11_weight 7 = .ok (.getfield 142, 3) := by decide +kernel
theorem dX11_weight_10 : decode cX11_weight 10 = .ok (.ifCond .eq 17, 3) := by decide +kernel
theorem dX11_weight_13 : decode cX11_weight 13 = .ok (.aload_n 0, 1) := by decide +kernel
theorem dX11_weight_14 : decode cX11_weight 14 = .ok (.getfield 46, 3) := by decide +kernel
theorem dX11_weight_17 : decode cX11_weight 17 = .ok (.getfield 54, 3) := by decide +kernel
theorem dX11_weight_20 : decode cX11_weight 20 = .ok (.iload_n 1, 1) := by decide +kernel
theorem dX11_weight_21 : decode cX11_weight 21 = .ok (.invokevirtual 209, 3) := by decide +kernel
theorem dX11_weight_24 : decode cX11_weight 24 = .ok (.ifCond .ne 5, 3) := by decide +kernel
theorem dX11_weight_27 : decode cX11_weight 27 = .ok (.iconst (-1), 1) := by decide +kernel
theorem dX11_weight_28 : decode cX11_weight 28 = .ok (.ireturn, 1) := by decide +kernel
theorem dX11_weight_29 : decode cX11_weight 29 = .ok (.aload_n 0, 1) := by decide +kernel
theorem dX11_weight_30 : decode cX11_weight 30 = .ok (.getfield 46, 3) := by decide +kernel
theorem dX11_weight_33 : decode cX11_weight 33 = .ok (.getfield 120, 3) := by decide +kernel
theorem dX11_weight_36 : decode cX11_weight 36 = .ok (.aload_n 0, 1) := by decide +kernel
theorem dX11_weight_37 : decode cX11_weight 37 = .ok (.getfield 46, 3) := by decide +kernel
theorem dX11_weight_40 : decode cX11_weight 40 = .ok (.getfield 54, 3) := by decide +kernel
theorem dX11_weight_43 : decode cX11_weight 43 = .ok (.iload_n 1, 1) := by decide +kernel
theorem dX11_weight_44 : decode cX11_weight 44 = .ok (.aload_n 0, 1) := by decide +kernel
theorem dX11_weight_45 : decode cX11_weight 45 = .ok (.getfield 46, 3) := by decide +kernel
theorem dX11_weight_48 : decode cX11_weight 48 = .ok (.invokevirtual 165, 3) := by decide +kernel
theorem dX11_weight_51 : decode cX11_weight 51 = .ok (.invokevirtual 212, 3) := by decide +kernel
theorem dX11_weight_54 : decode cX11_weight 54 = .ok (.ireturn, 1) := by decide +kernel
theorem dX11_most_0 : decode cX11_most 0 = .ok (.aload_n 0, 1) := by decide +kernel
theorem dX11_most_1 : decode cX11_most 1 = .ok (.getfield 46, 3) := by decide +kernel
theorem dX11_most_4 : decode cX11_most 4 = .ok (.getfield 54, 3) := by decide +kernel
theorem dX11_most_7 : decode cX11_most 7 = .ok (.getfield 142, 3) := by decide +kernel
theorem dX11_most_10 : decode cX11_most 10 = .ok (.ifCond .eq 12, 3) := by decide +kernel
theorem dX11_most_13 : decode cX11_most 13 = .ok (.iload_n 1, 1) := by decide +kernel
theorem dX11_most_14 : decode cX11_most 14 = .ok (.iconst 0, 1) := by decide +kernel
theorem dX11_most_15 : decode cX11_most 15 = .ok (.iconst 1, 1) := by decide +kernel
theorem dX11_most_16 : decode cX11_most 16 = .ok (.invokestatic 194, 3) := by decide +kernel
theorem dX11_most_19 : decode cX11_most 19 = .ok (.ifCond .ne 5, 3) := by decide +kernel
theorem dX11_most_22 : decode cX11_most 22 = .ok (.iconst (-1), 1) := by decide +kernel
theorem dX11_most_23 : decode cX11_most 23 = .ok (.ireturn, 1) := by decide +kernel
theorem dX11_most_24 : decode cX11_most 24 = .ok (.aload_n 0, 1) := by decide +kernel
theorem dX11_most_25 : decode cX11_most 25 = .ok (.getfield 68, 3) := by decide +kernel
theorem dX11_most_28 : decode cX11_most 28 = .ok (.aload_n 0, 1) := by decide +kernel
theorem dX11_most_29 : decode cX11_most 29 = .ok (.getfield 46, 3) := by decide +kernel
theorem dX11_most_32 : decode cX11_most 32 = .ok (.invokevirtual 216, 3) := by decide +kernel
theorem dX11_most_35 : decode cX11_most 35 = .ok (.aload_n 0, 1) := by decide +kernel
theorem dX11_most_36 : decode cX11_most 36 = .ok (.getfield 68, 3) := by decide +kernel
theorem dX11_most_39 : decode cX11_most 39 = .ok (.invokevirtual 219, 3) := by decide +kernel
theorem dX11_most_42 : decode cX11_most 42 = .ok (.istore_n 2, 1) := by decide +kernel
theorem dX11_most_43 : decode cX11_most 43 = .ok (.iload_n 2, 1) := by decide +kernel
theorem dX11_most_44 : decode cX11_most 44 = .ok (.iconst (-1), 1) := by decide +kernel
theorem dX11_most_45 : decode cX11_most 45 = .ok (.if_icmp .ne 6, 3) := by decide +kernel
theorem dX11_most_48 : decode cX11_most 48 = .ok (.bipush (-2), 2) := by decide +kernel
theorem dX11_most_50 : decode cX11_most 50 = .ok (.ireturn, 1) := by decide +kernel
theorem dX11_most_51 : decode cX11_most 51 = .ok (.iload_n 1, 1) := by decide +kernel
theorem dX11_most_52 : decode cX11_most 52 = .ok (.ifCond .ne 10, 3) := by decide +kernel
theorem dX11_most_55 : decode cX11_most 55 = .ok (.iload_n 2, 1) := by decide +kernel
theorem dX11_most_56 : decode cX11_most 56 = .ok (.invokestatic 222, 3) := by decide +kernel
theorem dX11_most_59 : decode cX11_most 59 = .ok (.goto 4, 3) := by decide +kernel
theorem dX11_most_62 : decode cX11_most 62 = .ok (.iload_n 2, 1) := by decide +kernel
theorem dX11_most_63 : decode cX11_most 63 = .ok (.ireturn, 1) := by decide +kernel
theorem dX11_lighten_0 : decode cX11_lighten 0 = .ok (.aload_n 0, 1) := by decide +kernel
theorem dX11_lighten_1 : decode cX11_lighten 1 = .ok (.getfield 46, 3) := by decide +kernel
theorem dX11_lighten_4 : decode cX11_lighten 4 = .ok (.getfield 54, 3) := by decide +kernel
theorem dX11_lighten_7 : decode cX11_lighten 7 = .ok (.getfield 142, 3) := by decide +kernel
theorem dX11_lighten_10 : decode cX11_lighten 10 = .ok (.ifCond .eq 41, 3) := by decide +kernel
theorem dX11_lighten_13 : decode cX11_lighten 13 = .ok (.aload_n 0, 1) := by decide +kernel
theorem dX11_lighten_14 : decode cX11_lighten 14 = .ok (.getfield 46, 3) := by decide +kernel
theorem dX11_lighten_17 : decode cX11_lighten 17 = .ok (.getfield 120, 3) := by decide +kernel
theorem dX11_lighten_20 : decode cX11_lighten 20 = .ok (.aload_n 0, 1) := by decide +kernel
theorem dX11_lighten_21 : decode cX11_lighten 21 = .ok (.getfield 46, 3) := by decide +kernel
theorem dX11_lighten_24 : decode cX11_lighten 24 = .ok (.getfield 54, 3) := by decide +kernel
theorem dX11_lighten_27 : decode cX11_lighten 27 = .ok (.iload_n 1, 1) := by decide +kernel
theorem dX11_lighten_28 : decode cX11_lighten 28 = .ok (.invokevirtual 227, 3) := by decide +kernel
theorem dX11_lighten_31 : decode cX11_lighten 31 = .ok (.ifCond .eq 20, 3) := by decide +kernel
theorem dX11_lighten_34 : decode cX11_lighten 34 = .ok (.iload_n 1, 1) := by decide +kernel
theorem dX11_lighten_35 : decode cX11_lighten 35 = .ok (.invokestatic 222, 3) := by decide +kernel
theorem dX11_lighten_38 : decode cX11_lighten 38 = .ok (.aload_n 0, 1) := by decide +kernel
theorem dX11_lighten_39 : decode cX11_lighten 39 = .ok (.getfield 46, 3) := by decide +kernel
theorem dX11_lighten_42 : decode cX11_lighten 42 = .ok (.getfield 54, 3) := by decide +kernel
theorem dX11_lighten_45 : decode cX11_lighten 45 = .ok (.getfield 231, 3) := by decide +kernel
theorem dX11_lighten_48 : decode cX11_lighten 48 = .ok (.if_icmp .le 5, 3) := by decide +kernel
theorem dX11_lighten_51 : decode cX11_lighten 51 = .ok (.iconst (-1), 1) := by decide +kernel
theorem dX11_lighten_52 : decode cX11_lighten 52 = .ok (.ireturn, 1) := by decide +kernel
theorem dX11_lighten_53 : decode cX11_lighten 53 = .ok (.aload_n 0, 1) := by decide +kernel
theorem dX11_lighten_54 : decode cX11_lighten 54 = .ok (.getfield 68, 3) := by decide +kernel
theorem dX11_lighten_57 : decode cX11_lighten 57 = .ok (.aload_n 0, 1) := by decide +kernel
theorem dX11_lighten_58 : decode cX11_lighten 58 = .ok (.getfield 46, 3) := by decide +kernel
theorem dX11_lighten_61 : decode cX11_lighten 61 = .ok (.invokevirtual 216, 3) := by decide +kernel
theorem dX11_lighten_64 : decode cX11_lighten 64 = .ok (.aload_n 0, 1) := by decide +kernel
theorem dX11_lighten_65 : decode cX11_lighten 65 = .ok (.getfield 68, 3) := by decide +kernel
theorem dX11_lighten_68 : decode cX11_lighten 68 = .ok (.iload_n 1, 1) := by decide +kernel
theorem dX11_lighten_69 : decode cX11_lighten 69 = .ok (.invokevirtual 234, 3) := by decide +kernel
theorem dX11_lighten_72 : decode cX11_lighten 72 = .ok (.ireturn, 1) := by decide +kernel
theorem dX11_fewest_0 : decode cX11_fewest 0 = .ok (.aload_n 0, 1) := by decide +kernel
theorem dX11_fewest_1 : decode cX11_fewest 1 = .ok (.getfield 46, 3) := by decide +kernel
theorem dX11_fewest_4 : decode cX11_fewest 4 = .ok (.getfield 54, 3) := by decide +kernel
theorem dX11_fewest_7 : decode cX11_fewest 7 = .ok (.getfield 142, 3) := by decide +kernel
theorem dX11_fewest_10 : decode cX11_fewest 10 = .ok (.ifCond .eq 12, 3) := by decide +kernel
theorem dX11_fewest_13 : decode cX11_fewest 13 = .ok (.iload_n 1, 1) := by decide +kernel
theorem dX11_fewest_14 : decode cX11_fewest 14 = .ok (.iconst 0, 1) := by decide +kernel
theorem dX11_fewest_15 : decode cX11_fewest 15 = .ok (.iconst 1, 1) := by decide +kernel
theorem dX11_fewest_16 : decode cX11_fewest 16 = .ok (.invokestatic 194, 3) := by decide +kernel
theorem dX11_fewest_19 : decode cX11_fewest 19 = .ok (.ifCond .ne 5, 3) := by decide +kernel
theorem dX11_fewest_22 : decode cX11_fewest 22 = .ok (.iconst (-1), 1) := by decide +kernel
theorem dX11_fewest_23 : decode cX11_fewest 23 = .ok (.ireturn, 1) := by decide +kernel
theorem dX11_fewest_24 : decode cX11_fewest 24 = .ok (.aload_n 0, 1) := by decide +kernel
theorem dX11_fewest_25 : decode cX11_fewest 25 = .ok (.getfield 68, 3) := by decide +kernel
theorem dX11_fewest_28 : decode cX11_fewest 28 = .ok (.aload_n 0, 1) := by decide +kernel
theorem dX11_fewest_29 : decode cX11_fewest 29 = .ok (.getfield 46, 3) := by decide +kernel
theorem dX11_fewest_32 : decode cX11_fewest 32 = .ok (.invokevirtual 216, 3) := by decide +kernel
theorem dX11_fewest_35 : decode cX11_fewest 35 = .ok (.aload_n 0, 1) := by decide +kernel
theorem dX11_fewest_36 : decode cX11_fewest 36 = .ok (.getfield 68, 3) := by decide +kernel
theorem dX11_fewest_39 : decode cX11_fewest 39 = .ok (.invokevirtual 237, 3) := by decide +kernel
theorem dX11_fewest_42 : decode cX11_fewest 42 = .ok (.istore_n 2, 1) := by decide +kernel
theorem dX11_fewest_43 : decode cX11_fewest 43 = .ok (.iload_n 2, 1) := by decide +kernel
theorem dX11_fewest_44 : decode cX11_fewest 44 = .ok (.iconst (-1), 1) := by decide +kernel
theorem dX11_fewest_45 : decode cX11_fewest 45 = .ok (.if_icmp .ne 6, 3) := by decide +kernel
theorem dX11_fewest_48 : decode cX11_fewest 48 = .ok (.bipush (-2), 2) := by decide +kernel
theorem dX11_fewest_50 : decode cX11_fewest 50 = .ok (.ireturn, 1) := by decide +kernel
theorem dX11_fewest_51 : decode cX11_fewest 51 = .ok (.iload_n 1, 1) := by decide +kernel
theorem dX11_fewest_52 : decode cX11_fewest 52 = .ok (.ifCond .ne 7, 3) := by decide +kernel
theorem dX11_fewest_55 : decode cX11_fewest 55 = .ok (.iload_n 2, 1) := by decide +kernel
theorem dX11_fewest_56 : decode cX11_fewest 56 = .ok (.goto 11, 3) := by decide +kernel
theorem dX11_fewest_59 : decode cX11_fewest 59 = .ok (.aload_n 0, 1) := by decide +kernel
theorem dX11_fewest_60 : decode cX11_fewest 60 = .ok (.getfield 68, 3) := by decide +kernel
theorem dX11_fewest_63 : decode cX11_fewest 63 = .ok (.iload_n 2, 1) := by decide +kernel
theorem dX11_fewest_64 : decode cX11_fewest 64 = .ok (.invokevirtual 240, 3) := by decide +kernel
theorem dX11_fewest_67 : decode cX11_fewest 67 = .ok (.ireturn, 1) := by decide +kernel
theorem dX11_row_0 : decode cX11_row 0 = .ok (.aload_n 0, 1) := by decide +kernel
theorem dX11_row_1 : decode cX11_row 1 = .ok (.getfield 46, 3) := by decide +kernel
theorem dX11_row_4 : decode cX11_row 4 = .ok (.getfield 54, 3) := by decide +kernel
theorem dX11_row_7 : decode cX11_row 7 = .ok (.getfield 142, 3) := by decide +kernel
theorem dX11_row_10 : decode cX11_row 10 = .ok (.ifCond .eq 13, 3) := by decide +kernel
theorem dX11_row_13 : decode cX11_row 13 = .ok (.iload_n 1, 1) := by decide +kernel
theorem dX11_row_14 : decode cX11_row 14 = .ok (.iconst (-1), 1) := by decide +kernel
theorem dX11_row_15 : decode cX11_row 15 = .ok (.bipush 6, 2) := by decide +kernel
theorem dX11_row_17 : decode cX11_row 17 = .ok (.invokestatic 194, 3) := by decide +kernel
theorem dX11_row_20 : decode cX11_row 20 = .ok (.ifCond .ne 6, 3) := by decide +kernel
theorem dX11_row_23 : decode cX11_row 23 = .ok (.bipush (-3), 2) := by decide +kernel
theorem dX11_row_25 : decode cX11_row 25 = .ok (.ireturn, 1) := by decide +kernel
theorem dX11_row_26 : decode cX11_row 26 = .ok (.aload_n 0, 1) := by decide +kernel
theorem dX11_row_27 : decode cX11_row 27 = .ok (.getfield 68, 3) := by decide +kernel
theorem dX11_row_30 : decode cX11_row 30 = .ok (.aload_n 0, 1) := by decide +kernel
theorem dX11_row_31 : decode cX11_row 31 = .ok (.getfield 46, 3) := by decide +kernel
theorem dX11_row_34 : decode cX11_row 34 = .ok (.invokevirtual 216, 3) := by decide +kernel
theorem dX11_row_37 : decode cX11_row 37 = .ok (.aload_n 0, 1) := by decide +kernel
theorem dX11_row_38 : decode cX11_row 38 = .ok (.getfield 68, 3) := by decide +kernel
theorem dX11_row_41 : decode cX11_row 41 = .ok (.invokevirtual 243, 3) := by decide +kernel
theorem dX11_row_44 : decode cX11_row 44 = .ok (.istore_n 2, 1) := by decide +kernel
theorem dX11_row_45 : decode cX11_row 45 = .ok (.iload_n 1, 1) := by decide +kernel
theorem dX11_row_46 : decode cX11_row 46 = .ok (.iconst (-1), 1) := by decide +kernel
theorem dX11_row_47 : decode cX11_row 47 = .ok (.if_icmp .ne 11, 3) := by decide +kernel
theorem dX11_row_50 : decode cX11_row 50 = .ok (.aload_n 0, 1) := by decide +kernel
theorem dX11_row_51 : decode cX11_row 51 = .ok (.getfield 68, 3) := by decide +kernel
theorem dX11_row_54 : decode cX11_row 54 = .ok (.getfield 246, 3) := by decide +kernel
theorem dX11_row_57 : decode cX11_row 57 = .ok (.ireturn, 1) := by decide +kernel
theorem dX11_row_58 : decode cX11_row 58 = .ok (.iload_n 1, 1) := by decide +kernel
theorem dX11_row_59 : decode cX11_row 59 = .ok (.iload_n 2, 1) := by decide +kernel
theorem dX11_row_60 : decode cX11_row 60 = .ok (.if_icmp .ge 15, 3) := by decide +kernel
theorem dX11_row_63 : decode cX11_row 63 = .ok (.aload_n 0, 1) := by decide +kernel
theorem dX11_row_64 : decode cX11_row 64 = .ok (.getfield 68, 3) := by decide +kernel
theorem dX11_row_67 : decode cX11_row 67 = .ok (.getfield 249, 3) := by decide +kernel
theorem dX11_row_70 : decode cX11_row 70 = .ok (.iload_n 1, 1) := by decide +kernel
theorem dX11_row_71 : decode cX11_row 71 = .ok (.iaload, 1) := by decide +kernel
theorem dX11_row_72 : decode cX11_row 72 = .ok (.goto 5, 3) := by decide +kernel
theorem dX11_row_75 : decode cX11_row 75 = .ok (.bipush (-2), 2) := by decide +kernel
theorem dX11_row_77 : decode cX11_row 77 = .ok (.ireturn, 1) := by decide +kernel
theorem dX11_fare_0 : decode cX11_fare 0 = .ok (.aload_n 0, 1) := by decide +kernel
theorem dX11_fare_1 : decode cX11_fare 1 = .ok (.getfield 46, 3) := by decide +kernel
theorem dX11_fare_4 : decode cX11_fare 4 = .ok (.getfield 54, 3) := by decide +kernel
theorem dX11_fare_7 : decode cX11_fare 7 = .ok (.iload_n 3, 1) := by decide +kernel
theorem dX11_fare_8 : decode cX11_fare 8 = .ok (.invokevirtual 116, 3) := by decide +kernel
theorem dX11_fare_11 : decode cX11_fare 11 = .ok (.ifCond .eq 36, 3) := by decide +kernel
theorem dX11_fare_14 : decode cX11_fare 14 = .ok (.aload_n 0, 1) := by decide +kernel
theorem dX11_fare_15 : decode cX11_fare 15 = .ok (.getfield 46, 3) := by decide +kernel
theorem dX11_fare_18 : decode cX11_fare 18 = .ok (.getfield 54, 3) := by decide +kernel
theorem dX11_fare_21 : decode cX11_fare 21 = .ok (.iload_n 1, 1) := by decide +kernel
theorem dX11_fare_22 : decode cX11_fare 22 = .ok (.invokevirtual 209, 3) := by decide +kernel
theorem dX11_fare_25 : decode cX11_fare 25 = .ok (.ifCond .eq 22, 3) := by decide +kernel
theorem dX11_fare_28 : decode cX11_fare 28 = .ok (.iload_n 1, 1) := by decide +kernel
theorem dX11_fare_29 : decode cX11_fare 29 = .ok (.iload_n 3, 1) := by decide +kernel
theorem dX11_fare_30 : decode cX11_fare 30 = .ok (.ishr, 1) := by decide +kernel
theorem dX11_fare_31 : decode cX11_fare 31 = .ok (.iconst 1, 1) := by decide +kernel
theorem dX11_fare_32 : decode cX11_fare 32 = .ok (.iand, 1) := by decide +kernel
theorem dX11_fare_33 : decode cX11_fare 33 = .ok (.ifCond .eq 14, 3) := by decide +kernel
theorem dX11_fare_36 : decode cX11_fare 36 = .ok (.iload_n 2, 1) := by decide +kernel
theorem dX11_fare_37 : decode cX11_fare 37 = .ok (.iconst 0, 1) := by decide +kernel
theorem dX11_fare_38 : decode cX11_fare 38 = .ok (.sipush 9999, 3) := by decide +kernel
theorem dX11_fare_41 : decode cX11_fare 41 = .ok (.invokestatic 194, 3) := by decide +kernel
theorem dX11_fare_44 : decode cX11_fare 44 = .ok (.ifCond .ne 5, 3) := by decide +kernel
theorem dX11_fare_47 : decode cX11_fare 47 = .ok (.iconst (-1), 1) := by decide +kernel
theorem dX11_fare_48 : decode cX11_fare 48 = .ok (.ireturn, 1) := by decide +kernel
theorem dX11_fare_49 : decode cX11_fare 49 = .ok (.aload_n 0, 1) := by decide +kernel
theorem dX11_fare_50 : decode cX11_fare 50 = .ok (.getfield 68, 3) := by decide +kernel
theorem dX11_fare_53 : decode cX11_fare 53 = .ok (.aload_n 0, 1) := by decide +kernel
theorem dX11_fare_54 : decode cX11_fare 54 = .ok (.getfield 46, 3) := by decide +kernel
theorem dX11_fare_57 : decode cX11_fare 57 = .ok (.invokevirtual 216, 3) := by decide +kernel
theorem dX11_fare_60 : decode cX11_fare 60 = .ok (.aload_n 0, 1) := by decide +kernel
theorem dX11_fare_61 : decode cX11_fare 61 = .ok (.getfield 68, 3) := by decide +kernel
theorem dX11_fare_64 : decode cX11_fare 64 = .ok (.iload_n 1, 1) := by decide +kernel
theorem dX11_fare_65 : decode cX11_fare 65 = .ok (.iload_n 2, 1) := by decide +kernel
theorem dX11_fare_66 : decode cX11_fare 66 = .ok (.iload_n 3, 1) := by decide +kernel
theorem dX11_fare_67 : decode cX11_fare 67 = .ok (.invokevirtual 252, 3) := by decide +kernel
theorem dX11_fare_70 : decode cX11_fare 70 = .ok (.ireturn, 1) := by decide +kernel
theorem dX11_stay_0 : decode cX11_stay 0 = .ok (.aload_n 0, 1) := by decide +kernel
theorem dX11_stay_1 : decode cX11_stay 1 = .ok (.getfield 46, 3) := by decide +kernel
theorem dX11_stay_4 : decode cX11_stay 4 = .ok (.getfield 54, 3) := by decide +kernel
theorem dX11_stay_7 : decode cX11_stay 7 = .ok (.getfield 142, 3) := by decide +kernel
theorem dX11_stay_10 : decode cX11_stay 10 = .ok (.ifCond .eq 12, 3) := by decide +kernel
theorem dX11_stay_13 : decode cX11_stay 13 = .ok (.iload_n 1, 1) := by decide +kernel
theorem dX11_stay_14 : decode cX11_stay 14 = .ok (.iconst 0, 1) := by decide +kernel
theorem dX11_stay_15 : decode cX11_stay 15 = .ok (.iconst 1, 1) := by decide +kernel
theorem dX11_stay_16 : decode cX11_stay 16 = .ok (.invokestatic 194, 3) := by decide +kernel
theorem dX11_stay_19 : decode cX11_stay 19 = .ok (.ifCond .ne 5, 3) := by decide +kernel
theorem dX11_stay_22 : decode cX11_stay 22 = .ok (.iconst (-1), 1) := by decide +kernel
theorem dX11_stay_23 : decode cX11_stay 23 = .ok (.ireturn, 1) := by decide +kernel
theorem dX11_stay_24 : decode cX11_stay 24 = .ok (.aload_n 0, 1) := by decide +kernel
theorem dX11_stay_25 : decode cX11_stay 25 = .ok (.getfield 68, 3) := by decide +kernel
theorem dX11_stay_28 : decode cX11_stay 28 = .ok (.aload_n 0, 1) := by decide +kernel
theorem dX11_stay_29 : decode cX11_stay 29 = .ok (.getfield 46, 3) := by decide +kernel
theorem dX11_stay_32 : decode cX11_stay 32 = .ok (.invokevirtual 216, 3) := by decide +kernel
theorem dX11_stay_35 : decode cX11_stay 35 = .ok (.aload_n 0, 1) := by decide +kernel
theorem dX11_stay_36 : decode cX11_stay 36 = .ok (.getfield 68, 3) := by decide +kernel
theorem dX11_stay_39 : decode cX11_stay 39 = .ok (.invokevirtual 256, 3) := by decide +kernel
theorem dX11_stay_42 : decode cX11_stay 42 = .ok (.istore_n 2, 1) := by decide +kernel
theorem dX11_stay_43 : decode cX11_stay 43 = .ok (.iload_n 2, 1) := by decide +kernel
theorem dX11_stay_44 : decode cX11_stay 44 = .ok (.iconst (-1), 1) := by decide +kernel
theorem dX11_stay_45 : decode cX11_stay 45 = .ok (.if_icmp .ne 6, 3) := by decide +kernel
theorem dX11_stay_48 : decode cX11_stay 48 = .ok (.bipush (-2), 2) := by decide +kernel
theorem dX11_stay_50 : decode cX11_stay 50 = .ok (.ireturn, 1) := by decide +kernel
theorem dX11_stay_51 : decode cX11_stay 51 = .ok (.iload_n 1, 1) := by decide +kernel
theorem dX11_stay_52 : decode cX11_stay 52 = .ok (.ifCond .ne 7, 3) := by decide +kernel
theorem dX11_stay_55 : decode cX11_stay 55 = .ok (.iload_n 2, 1) := by decide +kernel
theorem dX11_stay_56 : decode cX11_stay 56 = .ok (.goto 11, 3) := by decide +kernel
theorem dX11_stay_59 : decode cX11_stay 59 = .ok (.aload_n 0, 1) := by decide +kernel
theorem dX11_stay_60 : decode cX11_stay 60 = .ok (.getfield 68, 3) := by decide +kernel
theorem dX11_stay_63 : decode cX11_stay 63 = .ok (.iload_n 2, 1) := by decide +kernel
theorem dX11_stay_64 : decode cX11_stay 64 = .ok (.invokevirtual 259, 3) := by decide +kernel
theorem dX11_stay_67 : decode cX11_stay 67 = .ok (.ireturn, 1) := by decide +kernel
theorem dX11_lies_0 : decode cX11_lies 0 = .ok (.aload_n 0, 1) := by decide +kernel
theorem dX11_lies_1 : decode cX11_lies 1 = .ok (.getfield 46, 3) := by decide +kernel
theorem dX11_lies_4 : decode cX11_lies 4 = .ok (.getfield 54, 3) := by decide +kernel
theorem dX11_lies_7 : decode cX11_lies 7 = .ok (.iload_n 1, 1) := by decide +kernel
theorem dX11_lies_8 : decode cX11_lies 8 = .ok (.invokevirtual 116, 3) := by decide +kernel
theorem dX11_lies_11 : decode cX11_lies 11 = .ok (.ifCond .eq 42, 3) := by decide +kernel
theorem dX11_lies_14 : decode cX11_lies 14 = .ok (.aload_n 0, 1) := by decide +kernel
theorem dX11_lies_15 : decode cX11_lies 15 = .ok (.getfield 46, 3) := by decide +kernel
theorem dX11_lies_18 : decode cX11_lies 18 = .ok (.getfield 54, 3) := by decide +kernel
theorem dX11_lies_21 : decode cX11_lies 21 = .ok (.iload_n 2, 1) := by decide +kernel
theorem dX11_lies_22 : decode cX11_lies 22 = .ok (.invokevirtual 116, 3) := by decide +kernel
theorem dX11_lies_25 : decode cX11_lies 25 = .ok (.ifCond .eq 28, 3) := by decide +kernel
theorem dX11_lies_28 : decode cX11_lies 28 = .ok (.iload_n 1, 1) := by decide +kernel
theorem dX11_lies_29 : decode cX11_lies 29 = .ok (.iload_n 2, 1) := by decide +kernel
theorem dX11_lies_30 : decode cX11_lies 30 = .ok (.if_icmp .eq 23, 3) := by decide +kernel
theorem dX11_lies_33 : decode cX11_lies 33 = .ok (.iload_n 3, 1) := by decide +kernel
theorem dX11_lies_34 : decode cX11_lies 34 = .ok (.iconst 1, 1) := by decide +kernel
theorem dX11_lies_35 : decode cX11_lies 35 = .ok (.bipush 20, 2) := by decide +kernel
theorem dX11_lies_37 : decode cX11_lies 37 = .ok (.invokestatic 194, 3) := by decide +kernel
theorem dX11_lies_40 : decode cX11_lies 40 = .ok (.ifCond .eq 13, 3) := by decide +kernel
theorem dX11_lies_43 : decode cX11_lies 43 = .ok (.iload 4, 2) := by decide +kernel
theorem dX11_lies_45 : decode cX11_lies 45 = .ok (.iconst 0, 1) := by decide +kernel
theorem dX11_lies_46 : decode cX11_lies 46 = .ok (.iconst 1, 1) := by decide +kernel
theorem dX11_lies_47 : decode cX11_lies 47 = .ok (.invokestatic 194, 3) := by decide +kernel
theorem dX11_lies_50 : decode cX11_lies 50 = .ok (.ifCond .ne 5, 3) := by decide +kernel
theorem dX11_lies_53 : decode cX11_lies 53 = .ok (.iconst (-1), 1) := by decide +kernel
theorem dX11_lies_54 : decode cX11_lies 54 = .ok (.ireturn, 1) := by decide +kernel
theorem dX11_lies_55 : decode cX11_lies 55 = .ok (.aload_n 0, 1) := by decide +kernel
theorem dX11_lies_56 : decode cX11_lies 56 = .ok (.getfield 75, 3) := by decide +kernel
theorem dX11_lies_59 : decode cX11_lies 59 = .ok (.aload_n 0, 1) := by decide +kernel
theorem dX11_lies_60 : decode cX11_lies 60 = .ok (.getfield 46, 3) := by decide +kernel
theorem dX11_lies_63 : decode cX11_lies 63 = .ok (.aload_n 0, 1) := by decide +kernel
theorem dX11_lies_64 : decode cX11_lies 64 = .ok (.invokevirtual 156, 3) := by decide +kernel
theorem dX11_lies_67 : decode cX11_lies 67 = .ok (.iload_n 1, 1) := by decide +kernel
theorem dX11_lies_68 : decode cX11_lies 68 = .ok (.iload_n 2, 1) := by decide +kernel
theorem dX11_lies_69 : decode cX11_lies 69 = .ok (.iload_n 3, 1) := by decide +kernel
theorem dX11_lies_70 : decode cX11_lies 70 = .ok (.invokevirtual 262, 3) := by decide +kernel
theorem dX11_lies_73 : decode cX11_lies 73 = .ok (.istore 5, 2) := by decide +kernel
theorem dX11_lies_75 : decode cX11_lies 75 = .ok (.iload 4, 2) := by decide +kernel
theorem dX11_lies_77 : decode cX11_lies 77 = .ok (.ifCond .ne 9, 3) := by decide +kernel
theorem dX11_lies_80 : decode cX11_lies 80 = .ok (.iload 5, 2) := by decide +kernel
theorem dX11_lies_82 : decode cX11_lies 82 = .ok (.invokestatic 222, 3) := by decide +kernel
theorem dX11_lies_85 : decode cX11_lies 85 = .ok (.ireturn, 1) := by decide +kernel
theorem dX11_lies_86 : decode cX11_lies 86 = .ok (.iload 5, 2) := by decide +kernel
theorem dX11_lies_88 : decode cX11_lies 88 = .ok (.ifCond .ne 8, 3) := by decide +kernel
theorem dX11_lies_91 : decode cX11_lies 91 = .ok (.bipush (-2), 2) := by decide +kernel
theorem dX11_lies_93 : decode cX11_lies 93 = .ok (.goto 8, 3) := by decide +kernel
theorem dX11_lies_96 : decode cX11_lies 96 = .ok (.iload 5, 2) := by decide +kernel
theorem dX11_lies_98 : decode cX11_lies 98 = .ok (.invokestatic 266, 3) := by decide +kernel
theorem dX11_lies_101 : decode cX11_lies 101 = .ok (.ireturn, 1) := by decide +kernel
theorem dX11_waits_0 : decode cX11_waits 0 = .ok (.aload_n 0, 1) := by decide +kernel
theorem dX11_waits_1 : decode cX11_waits 1 = .ok (.getfield 46, 3) := by decide +kernel
theorem dX11_waits_4 : decode cX11_waits 4 = .ok (.getfield 54, 3) := by decide +kernel
theorem dX11_waits_7 : decode cX11_waits 7 = .ok (.iload_n 1, 1) := by decide +kernel
theorem dX11_waits_8 : decode cX11_waits 8 = .ok (.invokevirtual 116, 3) := by decide +kernel
theorem dX11_waits_11 : decode cX11_waits 11 = .ok (.ifCond .eq 22, 3) := by decide +kernel
theorem dX11_waits_14 : decode cX11_waits 14 = .ok (.aload_n 0, 1) := by decide +kernel
theorem dX11_waits_15 : decode cX11_waits 15 = .ok (.getfield 75, 3) := by decide +kernel
theorem dX11_waits_18 : decode cX11_waits 18 = .ok (.aload_n 0, 1) := by decide +kernel
theorem dX11_waits_19 : decode cX11_waits 19 = .ok (.getfield 46, 3) := by decide +kernel
theorem dX11_waits_22 : decode cX11_waits 22 = .ok (.aload_n 0, 1) := by decide +kernel
theorem dX11_waits_23 : decode cX11_waits 23 = .ok (.invokevirtual 156, 3) := by decide +kernel
theorem dX11_waits_26 : decode cX11_waits 26 = .ok (.iload_n 1, 1) := by decide +kernel
theorem dX11_waits_27 : decode cX11_waits 27 = .ok (.invokevirtual 269, 3) := by decide +kernel
theorem dX11_waits_30 : decode cX11_waits 30 = .ok (.goto 4, 3) := by decide +kernel
theorem dX11_waits_33 : decode cX11_waits 33 = .ok (.iconst (-1), 1) := by decide +kernel
theorem dX11_waits_34 : decode cX11_waits 34 = .ok (.ireturn, 1) := by decide +kernel
theorem dX11_soothe_0 : decode cX11_soothe 0 = .ok (.aload_n 0, 1) := by decide +kernel
theorem dX11_soothe_1 : decode cX11_soothe 1 = .ok (.getfield 46, 3) := by decide +kernel
theorem dX11_soothe_4 : decode cX11_soothe 4 = .ok (.getfield 54, 3) := by decide +kernel
theorem dX11_soothe_7 : decode cX11_soothe 7 = .ok (.getfield 142, 3) := by decide +kernel
theorem dX11_soothe_10 : decode cX11_soothe 10 = .ok (.ifCond .eq 22, 3) := by decide +kernel
theorem dX11_soothe_13 : decode cX11_soothe 13 = .ok (.iload_n 1, 1) := by decide +kernel
theorem dX11_soothe_14 : decode cX11_soothe 14 = .ok (.iconst 1, 1) := by decide +kernel
theorem dX11_soothe_15 : decode cX11_soothe 15 = .ok (.bipush 30, 2) := by decide +kernel
theorem dX11_soothe_17 : decode cX11_soothe 17 = .ok (.invokestatic 194, 3) := by decide +kernel
theorem dX11_soothe_20 : decode cX11_soothe 20 = .ok (.ifCond .eq 12, 3) := by decide +kernel
theorem dX11_soothe_23 : decode cX11_soothe 23 = .ok (.iload_n 2, 1) := by decide +kernel
theorem dX11_soothe_24 : decode cX11_soothe 24 = .ok (.iconst 0, 1) := by decide +kernel
theorem dX11_soothe_25 : decode cX11_soothe 25 = .ok (.iconst 1, 1) := by decide +kernel
theorem dX11_soothe_26 : decode cX11_soothe 26 = .ok (.invokestatic 194, 3) := by decide +kernel
theorem dX11_soothe_29 : decode cX11_soothe 29 = .ok (.ifCond .ne 6, 3) := by decide +kernel
theorem dX11_soothe_32 : decode cX11_soothe 32 = .ok (.bipush (-2), 2) := by decide +kernel
theorem dX11_soothe_34 : decode cX11_soothe 34 = .ok (.ireturn, 1) := by decide +kernel
theorem dX11_soothe_35 : decode cX11_soothe 35 = .ok (.aload_n 0, 1) := by decide +kernel
theorem dX11_soothe_36 : decode cX11_soothe 36 = .ok (.getfield 75, 3) := by decide +kernel
theorem dX11_soothe_39 : decode cX11_soothe 39 = .ok (.aload_n 0, 1) := by decide +kernel
theorem dX11_soothe_40 : decode cX11_soothe 40 = .ok (.getfield 46, 3) := by decide +kernel
theorem dX11_soothe_43 : decode cX11_soothe 43 = .ok (.aload_n 0, 1) := by decide +kernel
theorem dX11_soothe_44 : decode cX11_soothe 44 = .ok (.invokevirtual 156, 3) := by decide +kernel
theorem dX11_soothe_47 : decode cX11_soothe 47 = .ok (.iload_n 1, 1) := by decide +kernel
theorem dX11_soothe_48 : decode cX11_soothe 48 = .ok (.invokevirtual 273, 3) := by decide +kernel
theorem dX11_soothe_51 : decode cX11_soothe 51 = .ok (.iload_n 2, 1) := by decide +kernel
theorem dX11_soothe_52 : decode cX11_soothe 52 = .ok (.ifCond .ne 13, 3) := by decide +kernel
theorem dX11_soothe_55 : decode cX11_soothe 55 = .ok (.aload_n 0, 1) := by decide +kernel
theorem dX11_soothe_56 : decode cX11_soothe 56 = .ok (.getfield 75, 3) := by decide +kernel
theorem dX11_soothe_59 : decode cX11_soothe 59 = .ok (.getfield 277, 3) := by decide +kernel
theorem dX11_soothe_62 : decode cX11_soothe 62 = .ok (.goto 10, 3) := by decide +kernel
theorem dX11_soothe_65 : decode cX11_soothe 65 = .ok (.aload_n 0, 1) := by decide +kernel
theorem dX11_soothe_66 : decode cX11_soothe 66 = .ok (.getfield 75, 3) := by decide +kernel
theorem dX11_soothe_69 : decode cX11_soothe 69 = .ok (.getfield 280, 3) := by decide +kernel
theorem dX11_soothe_72 : decode cX11_soothe 72 = .ok (.ireturn, 1) := by decide +kernel
theorem dX11_never_0 : decode cX11_never 0 = .ok (.aload_n 0, 1) := by decide +kernel
theorem dX11_never_1 : decode cX11_never 1 = .ok (.getfield 46, 3) := by decide +kernel
theorem dX11_never_4 : decode cX11_never 4 = .ok (.getfield 54, 3) := by decide +kernel
theorem dX11_never_7 : decode cX11_never 7 = .ok (.getfield 142, 3) := by decide +kernel
theorem dX11_never_10 : decode cX11_never 10 = .ok (.ifCond .ne 5, 3) := by decide +kernel
theorem dX11_never_13 : decode cX11_never 13 = .ok (.iconst (-1), 1) := by decide +kernel
theorem dX11_never_14 : decode cX11_never 14 = .ok (.ireturn, 1) := by decide +kernel
theorem dX11_never_15 : decode cX11_never 15 = .ok (.aload_n 0, 1) := by decide +kernel
theorem dX11_never_16 : decode cX11_never 16 = .ok (.getfield 68, 3) := by decide +kernel
theorem dX11_never_19 : decode cX11_never 19 = .ok (.aload_n 0, 1) := by decide +kernel
theorem dX11_never_20 : decode cX11_never 20 = .ok (.getfield 46, 3) := by decide +kernel
theorem dX11_never_23 : decode cX11_never 23 = .ok (.invokevirtual 216, 3) := by decide +kernel
theorem dX11_never_26 : decode cX11_never 26 = .ok (.aload_n 0, 1) := by decide +kernel
theorem dX11_never_27 : decode cX11_never 27 = .ok (.getfield 68, 3) := by decide +kernel
theorem dX11_never_30 : decode cX11_never 30 = .ok (.invokevirtual 283, 3) := by decide +kernel
theorem dX11_never_33 : decode cX11_never 33 = .ok (.ireturn, 1) := by decide +kernel
theorem dX11_note_0 : decode cX11_note 0 = .ok (.iload_n 1, 1) := by decide +kernel
theorem dX11_note_1 : decode cX11_note 1 = .ok (.iconst (-1), 1) := by decide +kernel
theorem dX11_note_2 : decode cX11_note 2 = .ok (.if_icmp .ne 13, 3) := by decide +kernel
theorem dX11_note_5 : decode cX11_note 5 = .ok (.aload_n 0, 1) := by decide +kernel
theorem dX11_note_6 : decode cX11_note 6 = .ok (.getfield 46, 3) := by decide +kernel
theorem dX11_note_9 : decode cX11_note 9 = .ok (.iconst 0, 1) := by decide +kernel
theorem dX11_note_10 : decode cX11_note 10 = .ok (.putfield 286, 3) := by decide +kernel
theorem dX11_note_13 : decode cX11_note 13 = .ok (.iconst 0, 1) := by decide +kernel
theorem dX11_note_14 : decode cX11_note 14 = .ok (.ireturn, 1) := by decide +kernel
theorem dX11_note_15 : decode cX11_note 15 = .ok (.iload_n 1, 1) := by decide +kernel
theorem dX11_note_16 : decode cX11_note 16 = .ok (.iconst 0, 1) := by decide +kernel
theorem dX11_note_17 : decode cX11_note 17 = .ok (.bipush 60, 2) := by decide +kernel
theorem dX11_note_19 : decode cX11_note 19 = .ok (.invokestatic 194, 3) := by decide +kernel
theorem dX11_note_22 : decode cX11_note 22 = .ok (.ifCond .eq 38, 3) := by decide +kernel
theorem dX11_note_25 : decode cX11_note 25 = .ok (.aload_n 0, 1) := by decide +kernel
theorem dX11_note_26 : decode cX11_note 26 = .ok (.getfield 46, 3) := by decide +kernel
theorem dX11_note_29 : decode cX11_note 29 = .ok (.getfield 54, 3) := by decide +kernel
theorem dX11_note_32 : decode cX11_note 32 = .ok (.iload_n 2, 1) := by decide +kernel
theorem dX11_note_33 : decode cX11_note 33 = .ok (.invokevirtual 116, 3) := by decide +kernel
theorem dX11_note_36 : decode cX11_note 36 = .ok (.ifCond .eq 24, 3) := by decide +kernel
theorem dX11_note_39 : decode cX11_note 39 = .ok (.iload_n 3, 1) := by decide +kernel
theorem dX11_note_40 : decode cX11_note 40 = .ok (.iconst 0, 1) := by decide +kernel
theorem dX11_note_41 : decode cX11_note 41 = .ok (.iconst 1, 1) := by decide +kernel
theorem dX11_note_42 : decode cX11_note 42 = .ok (.invokestatic 194, 3) := by decide +kernel
theorem dX11_note_45 : decode cX11_note 45 = .ok (.ifCond .eq 15, 3) := by decide +kernel
theorem dX11_note_48 : decode cX11_note 48 = .ok (.aload_n 0, 1) := by decide +kernel
theorem dX11_note_49 : decode cX11_note 49 = .ok (.getfield 46, 3) := by decide +kernel
theorem dX11_note_52 : decode cX11_note 52 = .ok (.getfield 286, 3) := by decide +kernel
theorem dX11_note_55 : decode cX11_note 55 = .ok (.bipush 10, 2) := by decide +kernel
theorem dX11_note_57 : decode cX11_note 57 = .ok (.if_icmp .lt 6, 3) := by decide +kernel
theorem dX11_note_60 : decode cX11_note 60 = .ok (.bipush (-2), 2) := by decide +kernel
theorem dX11_note_62 : decode cX11_note 62 = .ok (.ireturn, 1) := by decide +kernel
theorem dX11_note_63 : decode cX11_note 63 = .ok (.aload_n 0, 1) := by decide +kernel
theorem dX11_note_64 : decode cX11_note 64 = .ok (.getfield 46, 3) := by decide +kernel
theorem dX11_note_67 : decode cX11_note 67 = .ok (.iload_n 1, 1) := by decide +kernel
theorem dX11_note_68 : decode cX11_note 68 = .ok (.iload_n 2, 1) := by decide +kernel
theorem dX11_note_69 : decode cX11_note 69 = .ok (.iload_n 3, 1) := by decide +kernel
theorem dX11_note_70 : decode cX11_note 70 = .ok (.invokevirtual 289, 3) := by decide +kernel
theorem dX11_note_73 : decode cX11_note 73 = .ok (.aload_n 0, 1) := by decide +kernel
theorem dX11_note_74 : decode cX11_note 74 = .ok (.getfield 46, 3) := by decide +kernel
theorem dX11_note_77 : decode cX11_note 77 = .ok (.getfield 286, 3) := by decide +kernel
theorem dX11_note_80 : decode cX11_note 80 = .ok (.ireturn, 1) := by decide +kernel
theorem dX11_ruled_0 : decode cX11_ruled 0 = .ok (.aload_n 0, 1) := by decide +kernel
theorem dX11_ruled_1 : decode cX11_ruled 1 = .ok (.getfield 46, 3) := by decide +kernel
theorem dX11_ruled_4 : decode cX11_ruled 4 = .ok (.getfield 54, 3) := by decide +kernel
theorem dX11_ruled_7 : decode cX11_ruled 7 = .ok (.getfield 142, 3) := by decide +kernel
theorem dX11_ruled_10 : decode cX11_ruled 10 = .ok (.ifCond .eq 12, 3) := by decide +kernel
theorem dX11_ruled_13 : decode cX11_ruled 13 = .ok (.iload_n 1, 1) := by decide +kernel
theorem dX11_ruled_14 : decode cX11_ruled 14 = .ok (.iconst 0, 1) := by decide +kernel
theorem dX11_ruled_15 : decode cX11_ruled 15 = .ok (.iconst 1, 1) := by decide +kernel
theorem dX11_ruled_16 : decode cX11_ruled 16 = .ok (.invokestatic 194, 3) := by decide +kernel
theorem dX11_ruled_19 : decode cX11_ruled 19 = .ok (.ifCond .ne 6, 3) := by decide +kernel
theorem dX11_ruled_22 : decode cX11_ruled 22 = .ok (.bipush (-3), 2) := by decide +kernel
theorem dX11_ruled_24 : decode cX11_ruled 24 = .ok (.ireturn, 1) := by decide +kernel
theorem dX11_ruled_25 : decode cX11_ruled 25 = .ok (.aload_n 0, 1) := by decide +kernel
theorem dX11_ruled_26 : decode cX11_ruled 26 = .ok (.getfield 75, 3) := by decide +kernel
theorem dX11_ruled_29 : decode cX11_ruled 29 = .ok (.aload_n 0, 1) := by decide +kernel
theorem dX11_ruled_30 : decode cX11_ruled 30 = .ok (.getfield 46, 3) := by decide +kernel
theorem dX11_ruled_33 : decode cX11_ruled 33 = .ok (.aload_n 0, 1) := by decide +kernel
theorem dX11_ruled_34 : decode cX11_ruled 34 = .ok (.getfield 34, 3) := by decide +kernel
theorem dX11_ruled_37 : decode cX11_ruled 37 = .ok (.aload_n 0, 1) := by decide +kernel
theorem dX11_ruled_38 : decode cX11_ruled 38 = .ok (.getfield 103, 3) := by decide +kernel
theorem dX11_ruled_41 : decode cX11_ruled 41 = .ok (.invokevirtual 293, 3) := by decide +kernel
theorem dX11_ruled_44 : decode cX11_ruled 44 = .ok (.istore_n 2, 1) := by decide +kernel
theorem dX11_ruled_45 : decode cX11_ruled 45 = .ok (.iload_n 1, 1) := by decide +kernel
theorem dX11_ruled_46 : decode cX11_ruled 46 = .ok (.ifCond .ne 8, 3) := by decide +kernel
theorem dX11_ruled_49 : decode cX11_ruled 49 = .ok (.iload_n 2, 1) := by decide +kernel
theorem dX11_ruled_50 : decode cX11_ruled 50 = .ok (.invokestatic 222, 3) := by decide +kernel
theorem dX11_ruled_53 : decode cX11_ruled 53 = .ok (.ireturn, 1) := by decide +kernel
theorem dX11_ruled_54 : decode cX11_ruled 54 = .ok (.iload_n 2, 1) := by decide +kernel
theorem dX11_ruled_55 : decode cX11_ruled 55 = .ok (.ifCond .ne 8, 3) := by decide +kernel
theorem dX11_ruled_58 : decode cX11_ruled 58 = .ok (.bipush (-2), 2) := by decide +kernel
theorem dX11_ruled_60 : decode cX11_ruled 60 = .ok (.goto 9, 3) := by decide +kernel
theorem dX11_ruled_63 : decode cX11_ruled 63 = .ok (.iload_n 2, 1) := by decide +kernel
theorem dX11_ruled_64 : decode cX11_ruled 64 = .ok (.invokestatic 266, 3) := by decide +kernel
theorem dX11_ruled_67 : decode cX11_ruled 67 = .ok (.iconst 1, 1) := by decide +kernel
theorem dX11_ruled_68 : decode cX11_ruled 68 = .ok (.isub, 1) := by decide +kernel
theorem dX11_ruled_69 : decode cX11_ruled 69 = .ok (.ireturn, 1) := by decide +kernel
theorem dX11_look_0 : decode cX11_look 0 = .ok (.aload_n 0, 1) := by decide +kernel
theorem dX11_look_1 : decode cX11_look 1 = .ok (.getfield 46, 3) := by decide +kernel
theorem dX11_look_4 : decode cX11_look 4 = .ok (.getfield 54, 3) := by decide +kernel
theorem dX11_look_7 : decode cX11_look 7 = .ok (.getfield 142, 3) := by decide +kernel
theorem dX11_look_10 : decode cX11_look 10 = .ok (.ifCond .eq 22, 3) := by decide +kernel
theorem dX11_look_13 : decode cX11_look 13 = .ok (.iload_n 1, 1) := by decide +kernel
theorem dX11_look_14 : decode cX11_look 14 = .ok (.iconst 0, 1) := by decide +kernel
theorem dX11_look_15 : decode cX11_look 15 = .ok (.bipush 60, 2) := by decide +kernel
theorem dX11_look_17 : decode cX11_look 17 = .ok (.invokestatic 194, 3) := by decide +kernel
theorem dX11_look_20 : decode cX11_look 20 = .ok (.ifCond .eq 12, 3) := by decide +kernel
theorem dX11_look_23 : decode cX11_look 23 = .ok (.iload_n 2, 1) := by decide +kernel
theorem dX11_look_24 : decode cX11_look 24 = .ok (.iconst 0, 1) := by decide +kernel
theorem dX11_look_25 : decode cX11_look 25 = .ok (.iconst 1, 1) := by decide +kernel
theorem dX11_look_26 : decode cX11_look 26 = .ok (.invokestatic 194, 3) := by decide +kernel
theorem dX11_look_29 : decode cX11_look 29 = .ok (.ifCond .ne 5, 3) := by decide +kernel
theorem dX11_look_32 : decode cX11_look 32 = .ok (.iconst (-1), 1) := by decide +kernel
theorem dX11_look_33 : decode cX11_look 33 = .ok (.ireturn, 1) := by decide +kernel
theorem dX11_look_34 : decode cX11_look 34 = .ok (.aload_n 0, 1) := by decide +kernel
theorem dX11_look_35 : decode cX11_look 35 = .ok (.getfield 75, 3) := by decide +kernel
theorem dX11_look_38 : decode cX11_look 38 = .ok (.aload_n 0, 1) := by decide +kernel
theorem dX11_look_39 : decode cX11_look 39 = .ok (.getfield 46, 3) := by decide +kernel
theorem dX11_look_42 : decode cX11_look 42 = .ok (.aload_n 0, 1) := by decide +kernel
theorem dX11_look_43 : decode cX11_look 43 = .ok (.getfield 34, 3) := by decide +kernel
theorem dX11_look_46 : decode cX11_look 46 = .ok (.aload_n 0, 1) := by decide +kernel
theorem dX11_look_47 : decode cX11_look 47 = .ok (.getfield 103, 3) := by decide +kernel
theorem dX11_look_50 : decode cX11_look 50 = .ok (.invokevirtual 293, 3) := by decide +kernel
theorem dX11_look_53 : decode cX11_look 53 = .ok (.istore_n 3, 1) := by decide +kernel
theorem dX11_look_54 : decode cX11_look 54 = .ok (.iload_n 3, 1) := by decide +kernel
theorem dX11_look_55 : decode cX11_look 55 = .ok (.ifCond .eq 16, 3) := by decide +kernel
theorem dX11_look_58 : decode cX11_look 58 = .ok (.aload_n 0, 1) := by decide +kernel
theorem dX11_look_59 : decode cX11_look 59 = .ok (.getfield 46, 3) := by decide +kernel
theorem dX11_look_62 : decode cX11_look 62 = .ok (.getfield 54, 3) := by decide +kernel
theorem dX11_look_65 : decode cX11_look 65 = .ok (.getfield 100, 3) := by decide +kernel
theorem dX11_look_68 : decode cX11_look 68 = .ok (.ifCond .ne 6, 3) := by decide +kernel
theorem dX11_look_71 : decode cX11_look 71 = .ok (.bipush (-2), 2) := by decide +kernel
theorem dX11_look_73 : decode cX11_look 73 = .ok (.ireturn, 1) := by decide +kernel
theorem dX11_look_74 : decode cX11_look 74 = .ok (.aload_n 0, 1) := by decide +kernel
theorem dX11_look_75 : decode cX11_look 75 = .ok (.getfield 75, 3) := by decide +kernel
theorem dX11_look_78 : decode cX11_look 78 = .ok (.aload_n 0, 1) := by decide +kernel
theorem dX11_look_79 : decode cX11_look 79 = .ok (.getfield 46, 3) := by decide +kernel
theorem dX11_look_82 : decode cX11_look 82 = .ok (.aload_n 0, 1) := by decide +kernel
theorem dX11_look_83 : decode cX11_look 83 = .ok (.getfield 34, 3) := by decide +kernel
theorem dX11_look_86 : decode cX11_look 86 = .ok (.iload_n 3, 1) := by decide +kernel
theorem dX11_look_87 : decode cX11_look 87 = .ok (.iload_n 1, 1) := by decide +kernel
theorem dX11_look_88 : decode cX11_look 88 = .ok (.invokevirtual 297, 3) := by decide +kernel
theorem dX11_look_91 : decode cX11_look 91 = .ok (.iload_n 2, 1) := by decide +kernel
theorem dX11_look_92 : decode cX11_look 92 = .ok (.ifCond .ne 13, 3) := by decide +kernel
theorem dX11_look_95 : decode cX11_look 95 = .ok (.aload_n 0, 1) := by decide +kernel
theorem dX11_look_96 : decode cX11_look 96 = .ok (.getfield 75, 3) := by decide +kernel
theorem dX11_look_99 : decode cX11_look 99 = .ok (.getfield 301, 3) := by decide +kernel
theorem dX11_look_102 : decode cX11_look 102 = .ok (.goto 10, 3) := by decide +kernel
theorem dX11_look_105 : decode cX11_look 105 = .ok (.aload_n 0, 1) := by decide +kernel
theorem dX11_look_106 : decode cX11_look 106 = .ok (.getfield 75, 3) := by decide +kernel
theorem dX11_look_109 : decode cX11_look 109 = .ok (.getfield 304, 3) := by decide +kernel
theorem dX11_look_112 : decode cX11_look 112 = .ok (.ireturn, 1) := by decide +kernel
theorem dX11_seed_0 : decode cX11_seed 0 = .ok (.iload_n 1, 1) := by decide +kernel
theorem dX11_seed_1 : decode cX11_seed 1 = .ok (.ifCond .ge 5, 3) := by decide +kernel
theorem dX11_seed_4 : decode cX11_seed 4 = .ok (.iconst (-1), 1) := by decide +kernel
theorem dX11_seed_5 : decode cX11_seed 5 = .ok (.ireturn, 1) := by decide +kernel
theorem dX11_seed_6 : decode cX11_seed 6 = .ok (.aload_n 0, 1) := by decide +kernel
theorem dX11_seed_7 : decode cX11_seed 7 = .ok (.getfield 46, 3) := by decide +kernel
theorem dX11_seed_10 : decode cX11_seed 10 = .ok (.getfield 307, 3) := by decide +kernel
theorem dX11_seed_13 : decode cX11_seed 13 = .ok (.istore_n 2, 1) := by decide +kernel
theorem dX11_seed_14 : decode cX11_seed 14 = .ok (.aload_n 0, 1) := by decide +kernel
theorem dX11_seed_15 : decode cX11_seed 15 = .ok (.getfield 46, 3) := by decide +kernel
theorem dX11_seed_18 : decode cX11_seed 18 = .ok (.iload_n 1, 1) := by decide +kernel
theorem dX11_seed_19 : decode cX11_seed 19 = .ok (.putfield 307, 3) := by decide +kernel
theorem dX11_seed_22 : decode cX11_seed 22 = .ok (.iload_n 2, 1) := by decide +kernel
theorem dX11_seed_23 : decode cX11_seed 23 = .ok (.ireturn, 1) := by decide +kernel
theorem dX11_fogs_0 : decode cX11_fogs 0 = .ok (.aload_n 0, 1) := by decide +kernel
theorem dX11_fogs_1 : decode cX11_fogs 1 = .ok (.getfield 46, 3) := by decide +kernel
theorem dX11_fogs_4 : decode cX11_fogs 4 = .ok (.getfield 54, 3) := by decide +kernel
theorem dX11_fogs_7 : decode cX11_fogs 7 = .ok (.getfield 142, 3) := by decide +kernel
theorem dX11_fogs_10 : decode cX11_fogs 10 = .ok (.ifCond .eq 43, 3) := by decide +kernel
theorem dX11_fogs_13 : decode cX11_fogs 13 = .ok (.iload_n 1, 1) := by decide +kernel
theorem dX11_fogs_14 : decode cX11_fogs 14 = .ok (.iconst 1, 1) := by decide +kernel
theorem dX11_fogs_15 : decode cX11_fogs 15 = .ok (.bipush 10, 2) := by decide +kernel
theorem dX11_fogs_17 : decode cX11_fogs 17 = .ok (.invokestatic 194, 3) := by decide +kernel
theorem dX11_fogs_20 : decode cX11_fogs 20 = .ok (.ifCond .eq 33, 3) := by decide +kernel
theorem dX11_fogs_23 : decode cX11_fogs 23 = .ok (.iload_n 2, 1) := by decide +kernel
theorem dX11_fogs_24 : decode cX11_fogs 24 = .ok (.iconst 1, 1) := by decide +kernel
theorem dX11_fogs_25 : decode cX11_fogs 25 = .ok (.bipush 60, 2) := by decide +kernel
theorem dX11_fogs_27 : decode cX11_fogs 27 = .ok (.invokestatic 194, 3) := by decide +kernel
theorem dX11_fogs_30 : decode cX11_fogs 30 = .ok (.ifCond .eq 23, 3) := by decide +kernel
theorem dX11_fogs_33 : decode cX11_fogs 33 = .ok (.iload_n 3, 1) := by decide +kernel
theorem dX11_fogs_34 : decode cX11_fogs 34 = .ok (.iconst 0, 1) := by decide +kernel
theorem dX11_fogs_35 : decode cX11_fogs 35 = .ok (.bipush 100, 2) := by decide +kernel
theorem dX11_fogs_37 : decode cX11_fogs 37 = .ok (.invokestatic 194, 3) := by decide +kernel
theorem dX11_fogs_40 : decode cX11_fogs 40 = .ok (.ifCond .eq 13, 3) := by decide +kernel
theorem dX11_fogs_43 : decode cX11_fogs 43 = .ok (.iload 4, 2) := by decide +kernel
theorem dX11_fogs_45 : decode cX11_fogs 45 = .ok (.iconst 0, 1) := by decide +kernel
theorem dX11_fogs_46 : decode cX11_fogs 46 = .ok (.iconst 1, 1) := by decide +kernel
theorem dX11_fogs_47 : decode cX11_fogs 47 = .ok (.invokestatic 194, 3) := by decide +kernel
theorem dX11_fogs_50 : decode cX11_fogs 50 = .ok (.ifCond .ne 5, 3) := by decide +kernel
theorem dX11_fogs_53 : decode cX11_fogs 53 = .ok (.iconst (-1), 1) := by decide +kernel
theorem dX11_fogs_54 : decode cX11_fogs 54 = .ok (.ireturn, 1) := by decide +kernel
theorem dX11_fogs_55 : decode cX11_fogs 55 = .ok (.aload_n 0, 1) := by decide +kernel
theorem dX11_fogs_56 : decode cX11_fogs 56 = .ok (.getfield 75, 3) := by decide +kernel
theorem dX11_fogs_59 : decode cX11_fogs 59 = .ok (.aload_n 0, 1) := by decide +kernel
theorem dX11_fogs_60 : decode cX11_fogs 60 = .ok (.getfield 46, 3) := by decide +kernel
theorem dX11_fogs_63 : decode cX11_fogs 63 = .ok (.aload_n 0, 1) := by decide +kernel
theorem dX11_fogs_64 : decode cX11_fogs 64 = .ok (.invokevirtual 156, 3) := by decide +kernel
theorem dX11_fogs_67 : decode cX11_fogs 67 = .ok (.iload_n 1, 1) := by decide +kernel
theorem dX11_fogs_68 : decode cX11_fogs 68 = .ok (.iload_n 2, 1) := by decide +kernel
theorem dX11_fogs_69 : decode cX11_fogs 69 = .ok (.iload_n 3, 1) := by decide +kernel
theorem dX11_fogs_70 : decode cX11_fogs 70 = .ok (.invokevirtual 310, 3) := by decide +kernel
theorem dX11_fogs_73 : decode cX11_fogs 73 = .ok (.iload 4, 2) := by decide +kernel
theorem dX11_fogs_75 : decode cX11_fogs 75 = .ok (.ifCond .ne 13, 3) := by decide +kernel
theorem dX11_fogs_78 : decode cX11_fogs 78 = .ok (.aload_n 0, 1) := by decide +kernel
theorem dX11_fogs_79 : decode cX11_fogs 79 = .ok (.getfield 75, 3) := by decide +kernel
theorem dX11_fogs_82 : decode cX11_fogs 82 = .ok (.getfield 314, 3) := by decide +kernel
theorem dX11_fogs_85 : decode cX11_fogs 85 = .ok (.goto 10, 3) := by decide +kernel
theorem dX11_fogs_88 : decode cX11_fogs 88 = .ok (.aload_n 0, 1) := by decide +kernel
theorem dX11_fogs_89 : decode cX11_fogs 89 = .ok (.getfield 75, 3) := by decide +kernel
theorem dX11_fogs_92 : decode cX11_fogs 92 = .ok (.getfield 317, 3) := by decide +kernel
theorem dX11_fogs_95 : decode cX11_fogs 95 = .ok (.ireturn, 1) := by decide +kernel
theorem dX11_count_0 : decode cX11_count 0 = .ok (.iload_n 1, 1) := by decide +kernel
theorem dX11_count_1 : decode cX11_count 1 = .ok (.tableswitch 236 0 15 #[79, 90, 101, 112, 123, 128, 136, 147, 158, 169, 180, 191, 207, 215, 220, 228], 79) := by decide +kernel
theorem dX11_count_80 : decode cX11_count 80 = .ok (.aload_n 0, 1) := by decide +kernel
theorem dX11_count_81 : decode cX11_count 81 = .ok (.getfield 46, 3) := by decide +kernel
theorem dX11_count_84 : decode cX11_count 84 = .ok (.getfield 54, 3) := by decide +kernel
theorem dX11_count_87 : decode cX11_count 87 = .ok (.getfield 320, 3) := by decide +kernel
theorem dX11_count_90 : decode cX11_count 90 = .ok (.ireturn, 1) := by decide +kernel
theorem dX11_count_91 : decode cX11_count 91 = .ok (.aload_n 0, 1) := by decide +kernel
theorem dX11_count_92 : decode cX11_count 92 = .ok (.getfield 46, 3) := by decide +kernel
theorem dX11_count_95 : decode cX11_count 95 = .ok (.getfield 54, 3) := by decide +kernel
theorem dX11_count_98 : decode cX11_count 98 = .ok (.getfield 231, 3) := by decide +kernel
theorem dX11_count_101 : decode cX11_count 101 = .ok (.ireturn, 1) := by decide +kernel
theorem dX11_count_102 : decode cX11_count 102 = .ok (.aload_n 0, 1) := by decide +kernel
theorem dX11_count_103 : decode cX11_count 103 = .ok (.getfield 46, 3) := by decide +kernel
theorem dX11_count_106 : decode cX11_count 106 = .ok (.getfield 54, 3) := by decide +kernel
theorem dX11_count_109 : decode cX11_count 109 = .ok (.getfield 323, 3) := by decide +kernel
theorem dX11_count_112 : decode cX11_count 112 = .ok (.ireturn, 1) := by decide +kernel
theorem dX11_count_113 : decode cX11_count 113 = .ok (.aload_n 0, 1) := by decide +kernel
theorem dX11_count_114 : decode cX11_count 114 = .ok (.getfield 46, 3) := by decide +kernel
theorem dX11_count_117 : decode cX11_count 117 = .ok (.getfield 54, 3) := by decide +kernel
theorem dX11_count_120 : decode cX11_count 120 = .ok (.getfield 100, 3) := by decide +kernel
theorem dX11_count_123 : decode cX11_count 123 = .ok (.ireturn, 1) := by decide +kernel
theorem dX11_count_124 : decode cX11_count 124 = .ok (.aload_n 0, 1) := by decide +kernel
theorem dX11_count_125 : decode cX11_count 125 = .ok (.getfield 103, 3) := by decide +kernel
theorem dX11_count_128 : decode cX11_count 128 = .ok (.ireturn, 1) := by decide +kernel
theorem dX11_count_129 : decode cX11_count 129 = .ok (.aload_n 0, 1) := by decide +kernel
theorem dX11_count_130 : decode cX11_count 130 = .ok (.getfield 46, 3) := by decide +kernel
theorem dX11_count_133 : decode cX11_count 133 = .ok (.getfield 113, 3) := by decide +kernel
theorem dX11_count_136 : decode cX11_count 136 = .ok (.ireturn, 1) := by decide +kernel
theorem dX11_count_137 : decode cX11_count 137 = .ok (.aload_n 0, 1) := by decide +kernel
theorem dX11_count_138 : decode cX11_count 138 = .ok (.getfield 46, 3) := by decide +kernel
theorem dX11_count_141 : decode cX11_count 141 = .ok (.getfield 120, 3) := by decide +kernel
theorem dX11_count_144 : decode cX11_count 144 = .ok (.getfield 146, 3) := by decide +kernel
theorem dX11_count_147 : decode cX11_count 147 = .ok (.ireturn, 1) := by decide +kernel
theorem dX11_count_148 : decode cX11_count 148 = .ok (.aload_n 0, 1) := by decide +kernel
theorem dX11_count_149 : decode cX11_count 149 = .ok (.getfield 46, 3) := by decide +kernel
theorem dX11_count_152 : decode cX11_count 152 = .ok (.getfield 120, 3) := by decide +kernel
theorem dX11_count_155 : decode cX11_count 155 = .ok (.getfield 326, 3) := by decide +kernel
theorem dX11_count_158 : decode cX11_count 158 = .ok (.ireturn, 1) := by decide +kernel
theorem dX11_count_159 : decode cX11_count 159 = .ok (.aload_n 0, 1) := by decide +kernel
theorem dX11_count_160 : decode cX11_count 160 = .ok (.getfield 46, 3) := by decide +kernel
theorem dX11_count_163 : decode cX11_count 163 = .ok (.getfield 120, 3) := by decide +kernel
theorem dX11_count_166 : decode cX11_count 166 = .ok (.getfield 329, 3) := by decide +kernel
theorem dX11_count_169 : decode cX11_count 169 = .ok (.ireturn, 1) := by decide +kernel
theorem dX11_count_170 : decode cX11_count 170 = .ok (.aload_n 0, 1) := by decide +kernel
theorem dX11_count_171 : decode cX11_count 171 = .ok (.getfield 46, 3) := by decide +kernel
theorem dX11_count_174 : decode cX11_count 174 = .ok (.getfield 120, 3) := by decide +kernel
theorem dX11_count_177 : decode cX11_count 177 = .ok (.getfield 202, 3) := by decide +kernel
theorem dX11_count_180 : decode cX11_count 180 = .ok (.ireturn, 1) := by decide +kernel
theorem dX11_count_181 : decode cX11_count 181 = .ok (.aload_n 0, 1) := by decide +kernel
theorem dX11_count_182 : decode cX11_count 182 = .ok (.getfield 46, 3) := by decide +kernel
theorem dX11_count_185 : decode cX11_count 185 = .ok (.getfield 120, 3) := by decide +kernel
theorem dX11_count_188 : decode cX11_count 188 = .ok (.getfield 176, 3) := by decide +kernel
theorem dX11_count_191 : decode cX11_count 191 = .ok (.ireturn, 1) := by decide +kernel
theorem dX11_count_192 : decode cX11_count 192 = .ok (.aload_n 0, 1) := by decide +kernel
theorem dX11_count_193 : decode cX11_count 193 = .ok (.getfield 46, 3) := by decide +kernel
theorem dX11_count_196 : decode cX11_count 196 = .ok (.invokevirtual 165, 3) := by decide +kernel
theorem dX11_count_199 : decode cX11_count 199 = .ok (.ifCond .eq 7, 3) := by decide +kernel
theorem dX11_count_202 : decode cX11_count 202 = .ok (.iconst 1, 1) := by decide +kernel
theorem dX11_count_203 : decode cX11_count 203 = .ok (.goto 4, 3) := by decide +kernel
theorem dX11_count_206 : decode cX11_count 206 = .ok (.iconst 0, 1) := by decide +kernel
theorem dX11_count_207 : decode cX11_count 207 = .ok (.ireturn, 1) := by decide +kernel
theorem dX11_count_208 : decode cX11_count 208 = .ok (.aload_n 0, 1) := by decide +kernel
theorem dX11_count_209 : decode cX11_count 209 = .ok (.getfield 46, 3) := by decide +kernel
theorem dX11_count_212 : decode cX11_count 212 = .ok (.getfield 286, 3) := by decide +kernel
theorem dX11_count_215 : decode cX11_count 215 = .ok (.ireturn, 1) := by decide +kernel
theorem dX11_count_216 : decode cX11_count 216 = .ok (.aload_n 0, 1) := by decide +kernel
theorem dX11_count_217 : decode cX11_count 217 = .ok (.getfield 184, 3) := by decide +kernel
theorem dX11_count_220 : decode cX11_count 220 = .ok (.ireturn, 1) := by decide +kernel
theorem dX11_count_221 : decode cX11_count 221 = .ok (.aload_n 0, 1) := by decide +kernel
theorem dX11_count_222 : decode cX11_count 222 = .ok (.getfield 46, 3) := by decide +kernel
theorem dX11_count_225 : decode cX11_count 225 = .ok (.getfield 307, 3) := by decide +kernel
theorem dX11_count_228 : decode cX11_count 228 = .ok (.ireturn, 1) := by decide +kernel
theorem dX11_count_229 : decode cX11_count 229 = .ok (.aload_n 0, 1) := by decide +kernel
theorem dX11_count_230 : decode cX11_count 230 = .ok (.getfield 10, 3) := by decide +kernel
theorem dX11_count_233 : decode cX11_count 233 = .ok (.getfield 82, 3) := by decide +kernel
theorem dX11_count_236 : decode cX11_count 236 = .ok (.ireturn, 1) := by decide +kernel
theorem dX11_count_237 : decode cX11_count 237 = .ok (.iconst (-1), 1) := by decide +kernel
theorem dX11_count_238 : decode cX11_count 238 = .ok (.ireturn, 1) := by decide +kernel
theorem dX11_image_0 : decode cX11_image 0 = .ok (.iload_n 1, 1) := by decide +kernel
theorem dX11_image_1 : decode cX11_image 1 = .ok (.iconst 0, 1) := by decide +kernel
theorem dX11_image_2 : decode cX11_image 2 = .ok (.iconst 3, 1) := by decide +kernel
theorem dX11_image_3 : decode cX11_image 3 = .ok (.invokestatic 194, 3) := by decide +kernel
theorem dX11_image_6 : decode cX11_image 6 = .ok (.ifCond .ne 5, 3) := by decide +kernel
theorem dX11_image_9 : decode cX11_image 9 = .ok (.iconst (-1), 1) := by decide +kernel
theorem dX11_image_10 : decode cX11_image 10 = .ok (.ireturn, 1) := by decide +kernel
theorem dX11_image_11 : decode cX11_image 11 = .ok (.aload_n 0, 1) := by decide +kernel
theorem dX11_image_12 : decode cX11_image 12 = .ok (.getfield 50, 3) := by decide +kernel
theorem dX11_image_15 : decode cX11_image 15 = .ok (.iload_n 1, 1) := by decide +kernel
theorem dX11_image_16 : decode cX11_image 16 = .ok (.aaload, 1) := by decide +kernel
theorem dX11_image_17 : decode cX11_image 17 = .ok (.aload_n 0, 1) := by decide +kernel
theorem dX11_image_18 : decode cX11_image 18 = .ok (.getfield 46, 3) := by decide +kernel
theorem dX11_image_21 : decode cX11_image 21 = .ok (.invokevirtual 332, 3) := by decide +kernel
theorem dX11_image_24 : decode cX11_image 24 = .ok (.aload_n 0, 1) := by decide +kernel
theorem dX11_image_25 : decode cX11_image 25 = .ok (.getfield 50, 3) := by decide +kernel
theorem dX11_image_28 : decode cX11_image 28 = .ok (.iload_n 1, 1) := by decide +kernel
theorem dX11_image_29 : decode cX11_image 29 = .ok (.aaload, 1) := by decide +kernel
theorem dX11_image_30 : decode cX11_image 30 = .ok (.iconst 1, 1) := by decide +kernel
theorem dX11_image_31 : decode cX11_image 31 = .ok (.putfield 334, 3) := by decide +kernel
theorem dX11_image_34 : decode cX11_image 34 = .ok (.aload_n 0, 1) := by decide +kernel
theorem dX11_image_35 : decode cX11_image 35 = .ok (.getfield 46, 3) := by decide +kernel
theorem dX11_image_38 : decode cX11_image 38 = .ok (.getfield 120, 3) := by decide +kernel
theorem dX11_image_41 : decode cX11_image 41 = .ok (.getfield 146, 3) := by decide +kernel
theorem dX11_image_44 : decode cX11_image 44 = .ok (.ireturn, 1) := by decide +kernel
theorem dX11_back_0 : decode cX11_back 0 = .ok (.iload_n 1, 1) := by decide +kernel
theorem dX11_back_1 : decode cX11_back 1 = .ok (.iconst 0, 1) := by decide +kernel
theorem dX11_back_2 : decode cX11_back 2 = .ok (.iconst 3, 1) := by decide +kernel
theorem dX11_back_3 : decode cX11_back 3 = .ok (.invokestatic 194, 3) := by decide +kernel
theorem dX11_back_6 : decode cX11_back 6 = .ok (.ifCond .eq 15, 3) := by decide +kernel
theorem dX11_back_9 : decode cX11_back 9 = .ok (.aload_n 0, 1) := by decide +kernel
theorem dX11_back_10 : decode cX11_back 10 = .ok (.getfield 50, 3) := by decide +kernel
theorem dX11_back_13 : decode cX11_back 13 = .ok (.iload_n 1, 1) := by decide +kernel
theorem dX11_back_14 : decode cX11_back 14 = .ok (.aaload, 1) := by decide +kernel
theorem dX11_back_15 : decode cX11_back 15 = .ok (.getfield 334, 3) := by decide +kernel
theorem dX11_back_18 : decode cX11_back 18 = .ok (.ifCond .ne 5, 3) := by decide +kernel
theorem dX11_back_21 : decode cX11_back 21 = .ok (.iconst (-1), 1) := by decide +kernel
theorem dX11_back_22 : decode cX11_back 22 = .ok (.ireturn, 1) := by decide +kernel
theorem dX11_back_23 : decode cX11_back 23 = .ok (.aload_n 0, 1) := by decide +kernel
theorem dX11_back_24 : decode cX11_back 24 = .ok (.getfield 46, 3) := by decide +kernel
theorem dX11_back_27 : decode cX11_back 27 = .ok (.aload_n 0, 1) := by decide +kernel
theorem dX11_back_28 : decode cX11_back 28 = .ok (.getfield 50, 3) := by decide +kernel
theorem dX11_back_31 : decode cX11_back 31 = .ok (.iload_n 1, 1) := by decide +kernel
theorem dX11_back_32 : decode cX11_back 32 = .ok (.aaload, 1) := by decide +kernel
theorem dX11_back_33 : decode cX11_back 33 = .ok (.invokevirtual 332, 3) := by decide +kernel
theorem dX11_back_36 : decode cX11_back 36 = .ok (.aload_n 0, 1) := by decide +kernel
theorem dX11_back_37 : decode cX11_back 37 = .ok (.invokevirtual 97, 3) := by decide +kernel
theorem dX11_back_40 : decode cX11_back 40 = .ok (.aload_n 0, 1) := by decide +kernel
theorem dX11_back_41 : decode cX11_back 41 = .ok (.getfield 46, 3) := by decide +kernel
theorem dX11_back_44 : decode cX11_back 44 = .ok (.getfield 120, 3) := by decide +kernel
theorem dX11_back_47 : decode cX11_back 47 = .ok (.getfield 146, 3) := by decide +kernel
theorem dX11_back_50 : decode cX11_back 50 = .ok (.ireturn, 1) := by decide +kernel
theorem dX11_within_0 : decode cX11_within 0 = .ok (.iload_n 0, 1) := by decide +kernel
theorem dX11_within_1 : decode cX11_within 1 = .ok (.iload_n 1, 1) := by decide +kernel
theorem dX11_within_2 : decode cX11_within 2 = .ok (.if_icmp .lt 12, 3) := by decide +kernel
theorem dX11_within_5 : decode cX11_within 5 = .ok (.iload_n 0, 1) := by decide +kernel
theorem dX11_within_6 : decode cX11_within 6 = .ok (.iload_n 2, 1) := by decide +kernel
theorem dX11_within_7 : decode cX11_within 7 = .ok (.if_icmp .gt 7, 3) := by decide +kernel
theorem dX11_within_10 : decode cX11_within 10 = .ok (.iconst 1, 1) := by decide +kernel
theorem dX11_within_11 : decode cX11_within 11 = .ok (.goto 4, 3) := by decide +kernel
theorem dX11_within_14 : decode cX11_within 14 = .ok (.iconst 0, 1) := by decide +kernel
theorem dX11_within_15 : decode cX11_within 15 = .ok (.ireturn, 1) := by decide +kernel
theorem dX11_firstBit_0 : decode cX11_firstBit 0 = .ok (.iload_n 0, 1) := by decide +kernel
theorem dX11_firstBit_1 : decode cX11_firstBit 1 = .ok (.iload_n 0, 1) := by decide +kernel
theorem dX11_firstBit_2 : decode cX11_firstBit 2 = .ok (.ineg, 1) := by decide +kernel
theorem dX11_firstBit_3 : decode cX11_firstBit 3 = .ok (.iand, 1) := by decide +kernel
theorem dX11_firstBit_4 : decode cX11_firstBit 4 = .ok (.iconst 1, 1) := by decide +kernel
theorem dX11_firstBit_5 : decode cX11_firstBit 5 = .ok (.isub, 1) := by decide +kernel
theorem dX11_firstBit_6 : decode cX11_firstBit 6 = .ok (.invokestatic 222, 3) := by decide +kernel
theorem dX11_firstBit_9 : decode cX11_firstBit 9 = .ok (.ireturn, 1) := by decide +kernel
theorem dX11_ruleInForce_0 : decode cX11_ruleInForce 0 = .ok (.aload_n 0, 1) := by decide +kernel
theorem dX11_ruleInForce_1 : decode cX11_ruleInForce 1 = .ok (.getfield 46, 3) := by decide +kernel
theorem dX11_ruleInForce_4 : decode cX11_ruleInForce 4 = .ok (.getfield 113, 3) := by decide +kernel
theorem dX11_ruleInForce_7 : decode cX11_ruleInForce 7 = .ok (.iconst 0, 1) := by decide +kernel
theorem dX11_ruleInForce_8 : decode cX11_ruleInForce 8 = .ok (.iconst 5, 1) := by decide +kernel
theorem dX11_ruleInForce_9 : decode cX11_ruleInForce 9 = .ok (.invokestatic 194, 3) := by decide +kernel
theorem dX11_ruleInForce_12 : decode cX11_ruleInForce 12 = .ok (.ifCond .eq 18, 3) := by decide +kernel
theorem dX11_ruleInForce_15 : decode cX11_ruleInForce 15 = .ok (.aload_n 0, 1) := by decide +kernel
theorem dX11_ruleInForce_16 : decode cX11_ruleInForce 16 = .ok (.getfield 34, 3) := by decide +kernel
theorem dX11_ruleInForce_19 : decode cX11_ruleInForce 19 = .ok (.aload_n 0, 1) := by decide +kernel
theorem dX11_ruleInForce_20 : decode cX11_ruleInForce 20 = .ok (.getfield 46, 3) := by decide +kernel
theorem dX11_ruleInForce_23 : decode cX11_ruleInForce 23 = .ok (.getfield 113, 3) := by decide +kernel
theorem dX11_ruleInForce_26 : decode cX11_ruleInForce 26 = .ok (.aaload, 1) := by decide +kernel
theorem dX11_ruleInForce_27 : decode cX11_ruleInForce 27 = .ok (.goto 4, 3) := by decide +kernel
theorem dX11_ruleInForce_30 : decode cX11_ruleInForce 30 = .ok (.aconst_null, 1) := by decide +kernel
theorem dX11_ruleInForce_31 : decode cX11_ruleInForce 31 = .ok (.areturn, 1) := by decide +kernel
theorem dX11_rememberAct_0 : decode cX11_rememberAct 0 = .ok (.aload_n 0, 1) := by decide +kernel
theorem dX11_rememberAct_1 : decode cX11_rememberAct 1 = .ok (.getfield 60, 3) := by decide +kernel
theorem dX11_rememberAct_4 : decode cX11_rememberAct 4 = .ok (.aload_n 0, 1) := by decide +kernel
theorem dX11_rememberAct_5 : decode cX11_rememberAct 5 = .ok (.getfield 187, 3) := by decide +kernel
theorem dX11_rememberAct_8 : decode cX11_rememberAct 8 = .ok (.aaload, 1) := by decide +kernel
theorem dX11_rememberAct_9 : decode cX11_rememberAct 9 = .ok (.aload_n 0, 1) := by decide +kernel
theorem dX11_rememberAct_10 : decode cX11_rememberAct 10 = .ok (.getfield 46, 3) := by decide +kernel
theorem dX11_rememberAct_13 : decode cX11_rememberAct 13 = .ok (.getfield 120, 3) := by decide +kernel
theorem dX11_rememberAct_16 : decode cX11_rememberAct 16 = .ok (.invokevirtual 190, 3) := by decide +kernel
theorem dX11_rememberAct_19 : decode cX11_rememberAct 19 = .ok (.aload_n 0, 1) := by decide +kernel
theorem dX11_rememberAct_20 : decode cX11_rememberAct 20 = .ok (.aload_n 0, 1) := by decide +kernel
theorem dX11_rememberAct_21 : decode cX11_rememberAct 21 = .ok (.getfield 187, 3) := by decide +kernel
theorem dX11_rememberAct_24 : decode cX11_rememberAct 24 = .ok (.iconst 1, 1) := by decide +kernel
theorem dX11_rememberAct_25 : decode cX11_rememberAct 25 = .ok (.iadd, 1) := by decide +kernel
theorem dX11_rememberAct_26 : decode cX11_rememberAct 26 = .ok (.bipush 20, 2) := by decide +kernel
theorem dX11_rememberAct_28 : decode cX11_rememberAct 28 = .ok (.irem, 1) := by decide +kernel
theorem dX11_rememberAct_29 : decode cX11_rememberAct 29 = .ok (.putfield 187, 3) := by decide +kernel
theorem dX11_rememberAct_32 : decode cX11_rememberAct 32 = .ok (.aload_n 0, 1) := by decide +kernel
theorem dX11_rememberAct_33 : decode cX11_rememberAct 33 = .ok (.bipush 20, 2) := by decide +kernel
theorem dX11_rememberAct_35 : decode cX11_rememberAct 35 = .ok (.aload_n 0, 1) := by decide +kernel
theorem dX11_rememberAct_36 : decode cX11_rememberAct 36 = .ok (.getfield 184, 3) := by decide +kernel
theorem dX11_rememberAct_39 : decode cX11_rememberAct 39 = .ok (.iconst 1, 1) := by decide +kernel
theorem dX11_rememberAct_40 : decode cX11_rememberAct 40 = .ok (.iadd, 1) := by decide +kernel
theorem dX11_rememberAct_41 : decode cX11_rememberAct 41 = .ok (.invokestatic 179, 3) := by decide +kernel
theorem dX11_rememberAct_44 : decode cX11_rememberAct 44 = .ok (.putfield 184, 3) := by decide +kernel
theorem dX11_rememberAct_47 : decode cX11_rememberAct 47 = .ok (.return_, 1) := by decide +kernel
theorem dX11_forgetActs_0 : decode cX11_forgetActs 0 = .ok (.aload_n 0, 1) := by decide +kernel
theorem dX11_forgetActs_1 : decode cX11_forgetActs 1 = .ok (.iconst 0, 1) := by decide +kernel
theorem dX11_forgetActs_2 : decode cX11_forgetActs 2 = .ok (.putfield 184, 3) := by decide +kernel
theorem dX11_forgetActs_5 : decode cX11_forgetActs 5 = .ok (.aload_n 0, 1) := by decide +kernel
theorem dX11_forgetActs_6 : decode cX11_forgetActs 6 = .ok (.iconst 0, 1) := by decide +kernel
theorem dX11_forgetActs_7 : decode cX11_forgetActs 7 = .ok (.putfield 187, 3) := by decide +kernel
theorem dX11_forgetActs_10 : decode cX11_forgetActs 10 = .ok (.return_, 1) := by decide +kernel
