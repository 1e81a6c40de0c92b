theorem dX12_one_91 : decode cX12_one 91 = .ok (.lload_n 3, 1) := by decide +kernel
theorem dX12_one_92 : decode cX12_one 92 = .ok (.ldiv, 1) := by decide +kernel
theorem dX12_one_93 : decode cX12_one 93 = .ok (.lreturn, 1) := by decide +kernel
theorem dX12_one_94 : decode cX12_one 94 = .ok (.lload_n 3, 1) := by decide +kernel
theorem dX12_one_95 : decode cX12_one 95 = .ok (.lconst 0, 1) := by decide +kernel
theorem dX12_one_96 : decode cX12_one 96 = .ok (.lcmp, 1) := by decide +kernel
theorem dX12_one_97 : decode cX12_one 97 = .ok (.ifCond .ne 7, 3) := by decide +kernel
theorem dX12_one_100 : decode cX12_one 100 = .ok (.lconst 0, 1) := by decide +kernel
theorem dX12_one_101 : decode cX12_one 101 = .ok (.goto 6, 3) := by decide +kernel
theorem dX12_one_104 : decode cX12_one 104 = .ok (.lload_n 1, 1) := by decide +kernel
theorem dX12_one_105 : decode cX12_one 105 = .ok (.lload_n 3, 1) := by decide +kernel
theorem dX12_one_106 : decode cX12_one 106 = .ok (.lrem, 1) := by decide +kernel
theorem dX12_one_107 : decode cX12_one 107 = .ok (.lreturn, 1) := by decide +kernel
theorem dX12_one_108 : decode cX12_one 108 = .ok (.lload_n 1, 1) := by decide +kernel
theorem dX12_one_109 : decode cX12_one 109 = .ok (.lload_n 3, 1) := by decide +kernel
theorem dX12_one_110 : decode cX12_one 110 = .ok (.lcmp, 1) := by decide +kernel
theorem dX12_one_111 : decode cX12_one 111 = .ok (.ifCond .ge 7, 3) := by decide +kernel
theorem dX12_one_114 : decode cX12_one 114 = .ok (.lconst 1, 1) := by decide +kernel
theorem dX12_one_115 : decode cX12_one 115 = .ok (.goto 4, 3) := by decide +kernel
theorem dX12_one_118 : decode cX12_one 118 = .ok (.lconst 0, 1) := by decide +kernel
theorem dX12_one_119 : decode cX12_one 119 = .ok (.lreturn, 1) := by decide +kernel
theorem dX12_one_120 : decode cX12_one 120 = .ok (.lload_n 1, 1) := by decide +kernel
theorem dX12_one_121 : decode cX12_one 121 = .ok (.lload_n 3, 1) := by decide +kernel
theorem dX12_one_122 : decode cX12_one 122 = .ok (.lcmp, 1) := by decide +kernel
theorem dX12_one_123 : decode cX12_one 123 = .ok (.ifCond .gt 7, 3) := by decide +kernel
theorem dX12_one_126 : decode cX12_one 126 = .ok (.lconst 1, 1) := by decide +kernel
theorem dX12_one_127 : decode cX12_one 127 = .ok (.goto 4, 3) := by decide +kernel
theorem dX12_one_130 : decode cX12_one 130 = .ok (.lconst 0, 1) := by decide +kernel
theorem dX12_one_131 : decode cX12_one 131 = .ok (.lreturn, 1) := by decide +kernel
theorem dX12_one_132 : decode cX12_one 132 = .ok (.lload_n 1, 1) := by decide +kernel
theorem dX12_one_133 : decode cX12_one 133 = .ok (.lload_n 3, 1) := by decide +kernel
theorem dX12_one_134 : decode cX12_one 134 = .ok (.lcmp, 1) := by decide +kernel
theorem dX12_one_135 : decode cX12_one 135 = .ok (.ifCond .ne 7, 3) := by decide +kernel
theorem dX12_one_138 : decode cX12_one 138 = .ok (.lconst 1, 1) := by decide +kernel
theorem dX12_one_139 : decode cX12_one 139 = .ok (.goto 4, 3) := by decide +kernel
theorem dX12_one_142 : decode cX12_one 142 = .ok (.lconst 0, 1) := by decide +kernel
theorem dX12_one_143 : decode cX12_one 143 = .ok (.lreturn, 1) := by decide +kernel
theorem dX12_one_144 : decode cX12_one 144 = .ok (.lload_n 1, 1) := by decide +kernel
theorem dX12_one_145 : decode cX12_one 145 = .ok (.lload_n 3, 1) := by decide +kernel
theorem dX12_one_146 : decode cX12_one 146 = .ok (.lcmp, 1) := by decide +kernel
theorem dX12_one_147 : decode cX12_one 147 = .ok (.ifCond .lt 7, 3) := by decide +kernel
theorem dX12_one_150 : decode cX12_one 150 = .ok (.lconst 1, 1) := by decide +kernel
theorem dX12_one_151 : decode cX12_one 151 = .ok (.goto 4, 3) := by decide +kernel
theorem dX12_one_154 : decode cX12_one 154 = .ok (.lconst 0, 1) := by decide +kernel
theorem dX12_one_155 : decode cX12_one 155 = .ok (.lreturn, 1) := by decide +kernel
theorem dX12_one_156 : decode cX12_one 156 = .ok (.lload_n 1, 1) := by decide +kernel
theorem dX12_one_157 : decode cX12_one 157 = .ok (.lload_n 3, 1) := by decide +kernel
theorem dX12_one_158 : decode cX12_one 158 = .ok (.lcmp, 1) := by decide +kernel
theorem dX12_one_159 : decode cX12_one 159 = .ok (.ifCond .le 7, 3) := by decide +kernel
theorem dX12_one_162 : decode cX12_one 162 = .ok (.lconst 1, 1) := by decide +kernel
theorem dX12_one_163 : decode cX12_one 163 = .ok (.goto 4, 3) := by decide +kernel
theorem dX12_one_166 : decode cX12_one 166 = .ok (.lconst 0, 1) := by decide +kernel
theorem dX12_one_167 : decode cX12_one 167 = .ok (.lreturn, 1) := by decide +kernel
theorem dX12_one_168 : decode cX12_one 168 = .ok (.lload_n 1, 1) := by decide +kernel
theorem dX12_one_169 : decode cX12_one 169 = .ok (.lload_n 3, 1) := by decide +kernel
theorem dX12_one_170 : decode cX12_one 170 = .ok (.land, 1) := by decide +kernel
theorem dX12_one_171 : decode cX12_one 171 = .ok (.lreturn, 1) := by decide +kernel
theorem dX12_one_172 : decode cX12_one 172 = .ok (.lload_n 1, 1) := by decide +kernel
theorem dX12_one_173 : decode cX12_one 173 = .ok (.lload_n 3, 1) := by decide +kernel
theorem dX12_one_174 : decode cX12_one 174 = .ok (.lor, 1) := by decide +kernel
theorem dX12_one_175 : decode cX12_one 175 = .ok (.lreturn, 1) := by decide +kernel
theorem dX12_reckons_0 : decode cX12_reckons 0 = .ok (.aload_n 0, 1) := by decide +kernel
theorem dX12_reckons_1 : decode cX12_reckons 1 = .ok (.iconst 0, 1) := by decide +kernel
theorem dX12_reckons_2 : decode cX12_reckons 2 = .ok (.putfield 282, 3) := by decide +kernel
theorem dX12_reckons_5 : decode cX12_reckons 5 = .ok (.iload_n 2, 1) := by decide +kernel
theorem dX12_reckons_6 : decode cX12_reckons 6 = .ok (.istore 4, 2) := by decide +kernel
theorem dX12_reckons_8 : decode cX12_reckons 8 = .ok (.iload 4, 2) := by decide +kernel
theorem dX12_reckons_10 : decode cX12_reckons 10 = .ok (.iload_n 3, 1) := by decide +kernel
theorem dX12_reckons_11 : decode cX12_reckons 11 = .ok (.if_icmp .ge 124, 3) := by decide +kernel
theorem dX12_reckons_14 : decode cX12_reckons 14 = .ok (.aload_n 0, 1) := by decide +kernel
theorem dX12_reckons_15 : decode cX12_reckons 15 = .ok (.getfield 13, 3) := by decide +kernel
theorem dX12_reckons_18 : decode cX12_reckons 18 = .ok (.sipush 400, 3) := by decide +kernel
theorem dX12_reckons_21 : decode cX12_reckons 21 = .ok (.iload_n 1, 1) := by decide +kernel
theorem dX12_reckons_22 : decode cX12_reckons 22 = .ok (.imul, 1) := by decide +kernel
theorem dX12_reckons_23 : decode cX12_reckons 23 = .ok (.iload 4, 2) := by decide +kernel
theorem dX12_reckons_25 : decode cX12_reckons 25 = .ok (.iadd, 1) := by decide +kernel
theorem dX12_reckons_26 : decode cX12_reckons 26 = .ok (.iaload, 1) := by decide +kernel
theorem dX12_reckons_27 : decode cX12_reckons 27 = .ok (.bipush 15, 2) := by decide +kernel
theorem dX12_reckons_29 : decode cX12_reckons 29 = .ok (.iand, 1) := by decide +kernel
theorem dX12_reckons_30 : decode cX12_reckons 30 = .ok (.istore 5, 2) := by decide +kernel
theorem dX12_reckons_32 : decode cX12_reckons 32 = .ok (.aload_n 0, 1) := by decide +kernel
theorem dX12_reckons_33 : decode cX12_reckons 33 = .ok (.getfield 13, 3) := by decide +kernel
theorem dX12_reckons_36 : decode cX12_reckons 36 = .ok (.sipush 400, 3) := by decide +kernel
theorem dX12_reckons_39 : decode cX12_reckons 39 = .ok (.iload_n 1, 1) := by decide +kernel
theorem dX12_reckons_40 : decode cX12_reckons 40 = .ok (.imul, 1) := by decide +kernel
theorem dX12_reckons_41 : decode cX12_reckons 41 = .ok (.iload 4, 2) := by decide +kernel
theorem dX12_reckons_43 : decode cX12_reckons 43 = .ok (.iadd, 1) := by decide +kernel
theorem dX12_reckons_44 : decode cX12_reckons 44 = .ok (.iaload, 1) := by decide +kernel
theorem dX12_reckons_45 : decode cX12_reckons 45 = .ok (.iconst 4, 1) := by decide +kernel
theorem dX12_reckons_46 : decode cX12_reckons 46 = .ok (.ishr, 1) := by decide +kernel
theorem dX12_reckons_47 : decode cX12_reckons 47 = .ok (.istore 6, 2) := by decide +kernel
theorem dX12_reckons_49 : decode cX12_reckons 49 = .ok (.iload 5, 2) := by decide +kernel
theorem dX12_reckons_51 : decode cX12_reckons 51 = .ok (.ifCond .ne 13, 3) := by decide +kernel
theorem dX12_reckons_54 : decode cX12_reckons 54 = .ok (.aload_n 0, 1) := by decide +kernel
theorem dX12_reckons_55 : decode cX12_reckons 55 = .ok (.iload 6, 2) := by decide +kernel
theorem dX12_reckons_57 : decode cX12_reckons 57 = .ok (.i2l, 1) := by decide +kernel
theorem dX12_reckons_58 : decode cX12_reckons 58 = .ok (.invokevirtual 285, 3) := by decide +kernel
theorem dX12_reckons_61 : decode cX12_reckons 61 = .ok (.goto 68, 3) := by decide +kernel
theorem dX12_reckons_64 : decode cX12_reckons 64 = .ok (.iload 5, 2) := by decide +kernel
theorem dX12_reckons_66 : decode cX12_reckons 66 = .ok (.iconst 1, 1) := by decide +kernel
theorem dX12_reckons_67 : decode cX12_reckons 67 = .ok (.if_icmp .ne 17, 3) := by decide +kernel
theorem dX12_reckons_70 : decode cX12_reckons 70 = .ok (.aload_n 0, 1) := by decide +kernel
theorem dX12_reckons_71 : decode cX12_reckons 71 = .ok (.aload_n 0, 1) := by decide +kernel
theorem dX12_reckons_72 : decode cX12_reckons 72 = .ok (.getfield 36, 3) := by decide +kernel
theorem dX12_reckons_75 : decode cX12_reckons 75 = .ok (.iload 6, 2) := by decide +kernel
theorem dX12_reckons_77 : decode cX12_reckons 77 = .ok (.laload, 1) := by decide +kernel
theorem dX12_reckons_78 : decode cX12_reckons 78 = .ok (.invokevirtual 285, 3) := by decide +kernel
theorem dX12_reckons_81 : decode cX12_reckons 81 = .ok (.goto 48, 3) := by decide +kernel
theorem dX12_reckons_84 : decode cX12_reckons 84 = .ok (.iload 5, 2) := by decide +kernel
theorem dX12_reckons_86 : decode cX12_reckons 86 = .ok (.bipush 11, 2) := by decide +kernel
theorem dX12_reckons_88 : decode cX12_reckons 88 = .ok (.if_icmp .ne 16, 3) := by decide +kernel
theorem dX12_reckons_91 : decode cX12_reckons 91 = .ok (.aload_n 0, 1) := by decide +kernel
theorem dX12_reckons_92 : decode cX12_reckons 92 = .ok (.lconst 1, 1) := by decide +kernel
theorem dX12_reckons_93 : decode cX12_reckons 93 = .ok (.aload_n 0, 1) := by decide +kernel
theorem dX12_reckons_94 : decode cX12_reckons 94 = .ok (.invokevirtual 289, 3) := by decide +kernel
theorem dX12_reckons_97 : decode cX12_reckons 97 = .ok (.lsub, 1) := by decide +kernel
theorem dX12_reckons_98 : decode cX12_reckons 98 = .ok (.invokevirtual 285, 3) := by decide +kernel
theorem dX12_reckons_101 : decode cX12_reckons 101 = .ok (.goto 28, 3) := by decide +kernel
theorem dX12_reckons_104 : decode cX12_reckons 104 = .ok (.aload_n 0, 1) := by decide +kernel
theorem dX12_reckons_105 : decode cX12_reckons 105 = .ok (.invokevirtual 289, 3) := by decide +kernel
theorem dX12_reckons_108 : decode cX12_reckons 108 = .ok (.lstore 7, 2) := by decide +kernel
theorem dX12_reckons_110 : decode cX12_reckons 110 = .ok (.aload_n 0, 1) := by decide +kernel
theorem dX12_reckons_111 : decode cX12_reckons 111 = .ok (.invokevirtual 289, 3) := by decide +kernel
theorem dX12_reckons_114 : decode cX12_reckons 114 = .ok (.lstore 9, 2) := by decide +kernel
theorem dX12_reckons_116 : decode cX12_reckons 116 = .ok (.aload_n 0, 1) := by decide +kernel
theorem dX12_reckons_117 : decode cX12_reckons 117 = .ok (.iload 5, 2) := by decide +kernel
theorem dX12_reckons_119 : decode cX12_reckons 119 = .ok (.lload 9, 2) := by decide +kernel
theorem dX12_reckons_121 : decode cX12_reckons 121 = .ok (.lload 7, 2) := by decide +kernel
theorem dX12_reckons_123 : decode cX12_reckons 123 = .ok (.invokestatic 293, 3) := by decide +kernel
theorem dX12_reckons_126 : decode cX12_reckons 126 = .ok (.invokevirtual 285, 3) := by decide +kernel
theorem dX12_reckons_129 : decode cX12_reckons 129 = .ok (.iinc 4 1, 3) := by decide +kernel
theorem dX12_reckons_132 : decode cX12_reckons 132 = .ok (.goto (-124), 3) := by decide +kernel
theorem dX12_reckons_135 : decode cX12_reckons 135 = .ok (.aload_n 0, 1) := by decide +kernel
theorem dX12_reckons_136 : decode cX12_reckons 136 = .ok (.invokevirtual 289, 3) := by decide +kernel
theorem dX12_reckons_139 : decode cX12_reckons 139 = .ok (.lreturn, 1) := by decide +kernel
theorem dX12_isCrossing_0 : decode cX12_isCrossing 0 = .ok (.aload_n 0, 1) := by decide +kernel
theorem dX12_isCrossing_1 : decode cX12_isCrossing 1 = .ok (.getfield 39, 3) := by decide +kernel
theorem dX12_isCrossing_4 : decode cX12_isCrossing 4 = .ok (.iconst 0, 1) := by decide +kernel
theorem dX12_isCrossing_5 : decode cX12_isCrossing 5 = .ok (.iaload, 1) := by decide +kernel
theorem dX12_isCrossing_6 : decode cX12_isCrossing 6 = .ok (.iconst 1, 1) := by decide +kernel
theorem dX12_isCrossing_7 : decode cX12_isCrossing 7 = .ok (.if_icmp .ne 7, 3) := by decide +kernel
theorem dX12_isCrossing_10 : decode cX12_isCrossing 10 = .ok (.iconst 1, 1) := by decide +kernel
theorem dX12_isCrossing_11 : decode cX12_isCrossing 11 = .ok (.goto 4, 3) := by decide +kernel
theorem dX12_isCrossing_14 : decode cX12_isCrossing 14 = .ok (.iconst 0, 1) := by decide +kernel
theorem dX12_isCrossing_15 : decode cX12_isCrossing 15 = .ok (.ireturn, 1) := by decide +kernel
theorem dX12_isPerson_0 : decode cX12_isPerson 0 = .ok (.iload_n 1, 1) := by decide +kernel
theorem dX12_isPerson_1 : decode cX12_isPerson 1 = .ok (.ifCond .lt 17, 3) := by decide +kernel
theorem dX12_isPerson_4 : decode cX12_isPerson 4 = .ok (.iload_n 1, 1) := by decide +kernel
theorem dX12_isPerson_5 : decode cX12_isPerson 5 = .ok (.aload_n 0, 1) := by decide +kernel
theorem dX12_isPerson_6 : decode cX12_isPerson 6 = .ok (.getfield 39, 3) := by decide +kernel
theorem dX12_isPerson_9 : decode cX12_isPerson 9 = .ok (.iconst 4, 1) := by decide +kernel
theorem dX12_isPerson_10 : decode cX12_isPerson 10 = .ok (.iaload, 1) := by decide +kernel
theorem dX12_isPerson_11 : decode cX12_isPerson 11 = .ok (.if_icmp .ge 7, 3) := by decide +kernel
theorem dX12_isPerson_14 : decode cX12_isPerson 14 = .ok (.iconst 1, 1) := by decide +kernel
theorem dX12_isPerson_15 : decode cX12_isPerson 15 = .ok (.goto 4, 3) := by decide +kernel
theorem dX12_isPerson_18 : decode cX12_isPerson 18 = .ok (.iconst 0, 1) := by decide +kernel
theorem dX12_isPerson_19 : decode cX12_isPerson 19 = .ok (.ireturn, 1) := by decide +kernel
theorem dX12_isSet_0 : decode cX12_isSet 0 = .ok (.aload_n 0, 1) := by decide +kernel
theorem dX12_isSet_1 : decode cX12_isSet 1 = .ok (.invokevirtual 297, 3) := by decide +kernel
theorem dX12_isSet_4 : decode cX12_isSet 4 = .ok (.ifCond .eq 23, 3) := by decide +kernel
theorem dX12_isSet_7 : decode cX12_isSet 7 = .ok (.iload_n 1, 1) := by decide +kernel
theorem dX12_isSet_8 : decode cX12_isSet 8 = .ok (.ifCond .lt 19, 3) := by decide +kernel
theorem dX12_isSet_11 : decode cX12_isSet 11 = .ok (.iload_n 1, 1) := by decide +kernel
theorem dX12_isSet_12 : decode cX12_isSet 12 = .ok (.iconst 1, 1) := by decide +kernel
theorem dX12_isSet_13 : decode cX12_isSet 13 = .ok (.aload_n 0, 1) := by decide +kernel
theorem dX12_isSet_14 : decode cX12_isSet 14 = .ok (.getfield 39, 3) := by decide +kernel
theorem dX12_isSet_17 : decode cX12_isSet 17 = .ok (.iconst 4, 1) := by decide +kernel
theorem dX12_isSet_18 : decode cX12_isSet 18 = .ok (.iaload, 1) := by decide +kernel
theorem dX12_isSet_19 : decode cX12_isSet 19 = .ok (.ishl, 1) := by decide +kernel
theorem dX12_isSet_20 : decode cX12_isSet 20 = .ok (.if_icmp .ge 7, 3) := by decide +kernel
theorem dX12_isSet_23 : decode cX12_isSet 23 = .ok (.iconst 1, 1) := by decide +kernel
theorem dX12_isSet_24 : decode cX12_isSet 24 = .ok (.goto 4, 3) := by decide +kernel
theorem dX12_isSet_27 : decode cX12_isSet 27 = .ok (.iconst 0, 1) := by decide +kernel
theorem dX12_isSet_28 : decode cX12_isSet 28 = .ok (.ireturn, 1) := by decide +kernel
theorem dX12_isFog_0 : decode cX12_isFog 0 = .ok (.aload_n 0, 1) := by decide +kernel
theorem dX12_isFog_1 : decode cX12_isFog 1 = .ok (.getfield 300, 3) := by decide +kernel
theorem dX12_isFog_4 : decode cX12_isFog 4 = .ok (.ifCond .ne 34, 3) := by decide +kernel
theorem dX12_isFog_7 : decode cX12_isFog 7 = .ok (.aload_n 0, 1) := by decide +kernel
theorem dX12_isFog_8 : decode cX12_isFog 8 = .ok (.getfield 39, 3) := by decide +kernel
theorem dX12_isFog_11 : decode cX12_isFog 11 = .ok (.bipush 10, 2) := by decide +kernel
theorem dX12_isFog_13 : decode cX12_isFog 13 = .ok (.iaload, 1) := by decide +kernel
theorem dX12_isFog_14 : decode cX12_isFog 14 = .ok (.bipush 60, 2) := by decide +kernel
theorem dX12_isFog_16 : decode cX12_isFog 16 = .ok (.if_icmp .gt 26, 3) := by decide +kernel
theorem dX12_isFog_19 : decode cX12_isFog 19 = .ok (.aload_n 0, 1) := by decide +kernel
theorem dX12_isFog_20 : decode cX12_isFog 20 = .ok (.getfield 39, 3) := by decide +kernel
theorem dX12_isFog_23 : decode cX12_isFog 23 = .ok (.bipush 98, 2) := by decide +kernel
theorem dX12_isFog_25 : decode cX12_isFog 25 = .ok (.aload_n 0, 1) := by decide +kernel
theorem dX12_isFog_26 : decode cX12_isFog 26 = .ok (.getfield 39, 3) := by decide +kernel
theorem dX12_isFog_29 : decode cX12_isFog 29 = .ok (.bipush 10, 2) := by decide +kernel
theorem dX12_isFog_31 : decode cX12_isFog 31 = .ok (.iaload, 1) := by decide +kernel
theorem dX12_isFog_32 : decode cX12_isFog 32 = .ok (.iadd, 1) := by decide +kernel
theorem dX12_isFog_33 : decode cX12_isFog 33 = .ok (.iaload, 1) := by decide +kernel
theorem dX12_isFog_34 : decode cX12_isFog 34 = .ok (.iconst 1, 1) := by decide +kernel
theorem dX12_isFog_35 : decode cX12_isFog 35 = .ok (.if_icmp .ne 7, 3) := by decide +kernel
theorem dX12_isFog_38 : decode cX12_isFog 38 = .ok (.iconst 1, 1) := by decide +kernel
theorem dX12_isFog_39 : decode cX12_isFog 39 = .ok (.goto 4, 3) := by decide +kernel
theorem dX12_isFog_42 : decode cX12_isFog 42 = .ok (.iconst 0, 1) := by decide +kernel
theorem dX12_isFog_43 : decode cX12_isFog 43 = .ok (.ireturn, 1) := by decide +kernel
theorem dX12_onSide_0 : decode cX12_onSide 0 = .ok (.iconst 0, 1) := by decide +kernel
theorem dX12_onSide_1 : decode cX12_onSide 1 = .ok (.istore_n 2, 1) := by decide +kernel
theorem dX12_onSide_2 : decode cX12_onSide 2 = .ok (.iconst 0, 1) := by decide +kernel
theorem dX12_onSide_3 : decode cX12_onSide 3 = .ok (.istore_n 3, 1) := by decide +kernel
theorem dX12_onSide_4 : decode cX12_onSide 4 = .ok (.iload_n 3, 1) := by decide +kernel
theorem dX12_onSide_5 : decode cX12_onSide 5 = .ok (.aload_n 0, 1) := by decide +kernel
theorem dX12_onSide_6 : decode cX12_onSide 6 = .ok (.getfield 39, 3) := by decide +kernel
theorem dX12_onSide_9 : decode cX12_onSide 9 = .ok (.iconst 4, 1) := by decide +kernel
theorem dX12_onSide_10 : decode cX12_onSide 10 = .ok (.iaload, 1) := by decide +kernel
theorem dX12_onSide_11 : decode cX12_onSide 11 = .ok (.if_icmp .ge 32, 3) := by decide +kernel
theorem dX12_onSide_14 : decode cX12_onSide 14 = .ok (.iload_n 2, 1) := by decide +kernel
theorem dX12_onSide_15 : decode cX12_onSide 15 = .ok (.aload_n 0, 1) := by decide +kernel
theorem dX12_onSide_16 : decode cX12_onSide 16 = .ok (.getfield 39, 3) := by decide +kernel
theorem dX12_onSide_19 : decode cX12_onSide 19 = .ok (.bipush 21, 2) := by decide +kernel
theorem dX12_onSide_21 : decode cX12_onSide 21 = .ok (.iload_n 3, 1) := by decide +kernel
theorem dX12_onSide_22 : decode cX12_onSide 22 = .ok (.iadd, 1) := by decide +kernel
theorem dX12_onSide_23 : decode cX12_onSide 23 = .ok (.iaload, 1) := by decide +kernel
theorem dX12_onSide_24 : decode cX12_onSide 24 = .ok (.iload_n 1, 1) := by decide +kernel
theorem dX12_onSide_25 : decode cX12_onSide 25 = .ok (.if_icmp .ne 9, 3) := by decide +kernel
theorem dX12_onSide_28 : decode cX12_onSide 28 = .ok (.iconst 1, 1) := by decide +kernel
theorem dX12_onSide_29 : decode cX12_onSide 29 = .ok (.iload_n 3, 1) := by decide +kernel
theorem dX12_onSide_30 : decode cX12_onSide 30 = .ok (.ishl, 1) := by decide +kernel
theorem dX12_onSide_31 : decode cX12_onSide 31 = .ok (.goto 4, 3) := by decide +kernel
theorem dX12_onSide_34 : decode cX12_onSide 34 = .ok (.iconst 0, 1) := by decide +kernel
theorem dX12_onSide_35 : decode cX12_onSide 35 = .ok (.ior, 1) := by decide +kernel
theorem dX12_onSide_36 : decode cX12_onSide 36 = .ok (.istore_n 2, 1) := by decide +kernel
theorem dX12_onSide_37 : decode cX12_onSide 37 = .ok (.iinc 3 1, 3) := by decide +kernel
theorem dX12_onSide_40 : decode cX12_onSide 40 = .ok (.goto (-36), 3) := by decide +kernel
theorem dX12_onSide_43 : decode cX12_onSide 43 = .ok (.iload_n 2, 1) := by decide +kernel
theorem dX12_onSide_44 : decode cX12_onSide 44 = .ok (.ireturn, 1) := by decide +kernel
theorem dX12_besideOf_0 : decode cX12_besideOf 0 = .ok (.aload_n 0, 1) := by decide +kernel
theorem dX12_besideOf_1 : decode cX12_besideOf 1 = .ok (.getfield 39, 3) := by decide +kernel
theorem dX12_besideOf_4 : decode cX12_besideOf 4 = .ok (.bipush 49, 2) := by decide +kernel
theorem dX12_besideOf_6 : decode cX12_besideOf 6 = .ok (.bipush 7, 2) := by decide +kernel
theorem dX12_besideOf_8 : decode cX12_besideOf 8 = .ok (.iload_n 1, 1) := by decide +kernel
theorem dX12_besideOf_9 : decode cX12_besideOf 9 = .ok (.imul, 1) := by decide +kernel
theorem dX12_besideOf_10 : decode cX12_besideOf 10 = .ok (.iadd, 1) := by decide +kernel
theorem dX12_besideOf_11 : decode cX12_besideOf 11 = .ok (.iload_n 2, 1) := by decide +kernel
theorem dX12_besideOf_12 : decode cX12_besideOf 12 = .ok (.iadd, 1) := by decide +kernel
theorem dX12_besideOf_13 : decode cX12_besideOf 13 = .ok (.iaload, 1) := by decide +kernel
theorem dX12_besideOf_14 : decode cX12_besideOf 14 = .ok (.ireturn, 1) := by decide +kernel
theorem dX12_grown_0 : decode cX12_grown 0 = .ok (.iload_n 2, 1) := by decide +kernel
theorem dX12_grown_1 : decode cX12_grown 1 = .ok (.ifCond .le 22, 3) := by decide +kernel
theorem dX12_grown_4 : decode cX12_grown 4 = .ok (.iload_n 2, 1) := by decide +kernel
theorem dX12_grown_5 : decode cX12_grown 5 = .ok (.aload_n 0, 1) := by decide +kernel
theorem dX12_grown_6 : decode cX12_grown 6 = .ok (.getfield 39, 3) := by decide +kernel
theorem dX12_grown_9 : decode cX12_grown 9 = .ok (.bipush 28, 2) := by decide +kernel
theorem dX12_grown_11 : decode cX12_grown 11 = .ok (.iload_n 1, 1) := by decide +kernel
theorem dX12_grown_12 : decode cX12_grown 12 = .ok (.iadd, 1) := by decide +kernel
theorem dX12_grown_13 : decode cX12_grown 13 = .ok (.iaload, 1) := by decide +kernel
theorem dX12_grown_14 : decode cX12_grown 14 = .ok (.iadd, 1) := by decide +kernel
theorem dX12_grown_15 : decode cX12_grown 15 = .ok (.bipush 99, 2) := by decide +kernel
theorem dX12_grown_17 : decode cX12_grown 17 = .ok (.invokestatic 304, 3) := by decide +kernel
theorem dX12_grown_20 : decode cX12_grown 20 = .ok (.goto 4, 3) := by decide +kernel
theorem dX12_grown_23 : decode cX12_grown 23 = .ok (.iconst 0, 1) := by decide +kernel
theorem dX12_grown_24 : decode cX12_grown 24 = .ok (.ireturn, 1) := by decide +kernel
theorem dX12_aimsOf_0 : decode cX12_aimsOf 0 = .ok (.iconst 0, 1) := by decide +kernel
theorem dX12_aimsOf_1 : decode cX12_aimsOf 1 = .ok (.istore_n 3, 1) := by decide +kernel
theorem dX12_aimsOf_2 : decode cX12_aimsOf 2 = .ok (.iconst 0, 1) := by decide +kernel
theorem dX12_aimsOf_3 : decode cX12_aimsOf 3 = .ok (.istore 4, 2) := by decide +kernel
theorem dX12_aimsOf_5 : decode cX12_aimsOf 5 = .ok (.iload 4, 2) := by decide +kernel
theorem dX12_aimsOf_7 : decode cX12_aimsOf 7 = .ok (.aload_n 0, 1) := by decide +kernel
theorem dX12_aimsOf_8 : decode cX12_aimsOf 8 = .ok (.getfield 39, 3) := by decide +kernel
theorem dX12_aimsOf_11 : decode cX12_aimsOf 11 = .ok (.iconst 4, 1) := by decide +kernel
theorem dX12_aimsOf_12 : decode cX12_aimsOf 12 = .ok (.iaload, 1) := by decide +kernel
theorem dX12_aimsOf_13 : decode cX12_aimsOf 13 = .ok (.if_icmp .ge 54, 3) := by decide +kernel
theorem dX12_aimsOf_16 : decode cX12_aimsOf 16 = .ok (.iload_n 1, 1) := by decide +kernel
theorem dX12_aimsOf_17 : decode cX12_aimsOf 17 = .ok (.iload 4, 2) := by decide +kernel
theorem dX12_aimsOf_19 : decode cX12_aimsOf 19 = .ok (.invokestatic 308, 3) := by decide +kernel
theorem dX12_aimsOf_22 : decode cX12_aimsOf 22 = .ok (.ifCond .eq 39, 3) := by decide +kernel
theorem dX12_aimsOf_25 : decode cX12_aimsOf 25 = .ok (.iload_n 3, 1) := by decide +kernel
theorem dX12_aimsOf_26 : decode cX12_aimsOf 26 = .ok (.iload_n 2, 1) := by decide +kernel
theorem dX12_aimsOf_27 : decode cX12_aimsOf 27 = .ok (.ifCond .eq 22, 3) := by decide +kernel
theorem dX12_aimsOf_30 : decode cX12_aimsOf 30 = .ok (.aload_n 0, 1) := by decide +kernel
theorem dX12_aimsOf_31 : decode cX12_aimsOf 31 = .ok (.iload 4, 2) := by decide +kernel
theorem dX12_aimsOf_33 : decode cX12_aimsOf 33 = .ok (.aload_n 0, 1) := by decide +kernel
theorem dX12_aimsOf_34 : decode cX12_aimsOf 34 = .ok (.getfield 39, 3) := by decide +kernel
theorem dX12_aimsOf_37 : decode cX12_aimsOf 37 = .ok (.bipush 14, 2) := by decide +kernel
theorem dX12_aimsOf_39 : decode cX12_aimsOf 39 = .ok (.iload 4, 2) := by decide +kernel
theorem dX12_aimsOf_41 : decode cX12_aimsOf 41 = .ok (.iadd, 1) := by decide +kernel
theorem dX12_aimsOf_42 : decode cX12_aimsOf 42 = .ok (.iaload, 1) := by decide +kernel
theorem dX12_aimsOf_43 : decode cX12_aimsOf 43 = .ok (.invokevirtual 311, 3) := by decide +kernel
theorem dX12_aimsOf_46 : decode cX12_aimsOf 46 = .ok (.goto 13, 3) := by decide +kernel
theorem dX12_aimsOf_49 : decode cX12_aimsOf 49 = .ok (.aload_n 0, 1) := by decide +kernel
theorem dX12_aimsOf_50 : decode cX12_aimsOf 50 = .ok (.getfield 39, 3) := by decide +kernel
theorem dX12_aimsOf_53 : decode cX12_aimsOf 53 = .ok (.bipush 14, 2) := by decide +kernel
theorem dX12_aimsOf_55 : decode cX12_aimsOf 55 = .ok (.iload 4, 2) := by decide +kernel
theorem dX12_aimsOf_57 : decode cX12_aimsOf 57 = .ok (.iadd, 1) := by decide +kernel
theorem dX12_aimsOf_58 : decode cX12_aimsOf 58 = .ok (.iaload, 1) := by decide +kernel
theorem dX12_aimsOf_59 : decode cX12_aimsOf 59 = .ok (.iadd, 1) := by decide +kernel
theorem dX12_aimsOf_60 : decode cX12_aimsOf 60 = .ok (.istore_n 3, 1) := by decide +kernel
theorem dX12_aimsOf_61 : decode cX12_aimsOf 61 = .ok (.iinc 4 1, 3) := by decide +kernel
theorem dX12_aimsOf_64 : decode cX12_aimsOf 64 = .ok (.goto (-59), 3) := by decide +kernel
theorem dX12_aimsOf_67 : decode cX12_aimsOf 67 = .ok (.iload_n 3, 1) := by decide +kernel
theorem dX12_aimsOf_68 : decode cX12_aimsOf 68 = .ok (.ireturn, 1) := by decide +kernel
theorem dX12_twosOf_0 : decode cX12_twosOf 0 = .ok (.iconst 0, 1) := by decide +kernel
theorem dX12_twosOf_1 : decode cX12_twosOf 1 = .ok (.istore_n 2, 1) := by decide +kernel
theorem dX12_twosOf_2 : decode cX12_twosOf 2 = .ok (.iconst 0, 1) := by decide +kernel
theorem dX12_twosOf_3 : decode cX12_twosOf 3 = .ok (.istore_n 3, 1) := by decide +kernel
theorem dX12_twosOf_4 : decode cX12_twosOf 4 = .ok (.iload_n 3, 1) := by decide +kernel
theorem dX12_twosOf_5 : decode cX12_twosOf 5 = .ok (.aload_n 0, 1) := by decide +kernel
theorem dX12_twosOf_6 : decode cX12_twosOf 6 = .ok (.getfield 39, 3) := by decide +kernel
theorem dX12_twosOf_9 : decode cX12_twosOf 9 = .ok (.iconst 4, 1) := by decide +kernel
theorem dX12_twosOf_10 : decode cX12_twosOf 10 = .ok (.iaload, 1) := by decide +kernel
theorem dX12_twosOf_11 : decode cX12_twosOf 11 = .ok (.if_icmp .ge 62, 3) := by decide +kernel
theorem dX12_twosOf_14 : decode cX12_twosOf 14 = .ok (.iload_n 3, 1) := by decide +kernel
theorem dX12_twosOf_15 : decode cX12_twosOf 15 = .ok (.iconst 1, 1) := by decide +kernel
theorem dX12_twosOf_16 : decode cX12_twosOf 16 = .ok (.iadd, 1) := by decide +kernel
theorem dX12_twosOf_17 : decode cX12_twosOf 17 = .ok (.istore 4, 2) := by decide +kernel
theorem dX12_twosOf_19 : decode cX12_twosOf 19 = .ok (.iload 4, 2) := by decide +kernel
theorem dX12_twosOf_21 : decode cX12_twosOf 21 = .ok (.aload_n 0, 1) := by decide +kernel
theorem dX12_twosOf_22 : decode cX12_twosOf 22 = .ok (.getfield 39, 3) := by decide +kernel
theorem dX12_twosOf_25 : decode cX12_twosOf 25 = .ok (.iconst 4, 1) := by decide +kernel
theorem dX12_twosOf_26 : decode cX12_twosOf 26 = .ok (.iaload, 1) := by decide +kernel
theorem dX12_twosOf_27 : decode cX12_twosOf 27 = .ok (.if_icmp .ge 40, 3) := by decide +kernel
theorem dX12_twosOf_30 : decode cX12_twosOf 30 = .ok (.iload_n 2, 1) := by decide +kernel
theorem dX12_twosOf_31 : decode cX12_twosOf 31 = .ok (.iload_n 1, 1) := by decide +kernel
theorem dX12_twosOf_32 : decode cX12_twosOf 32 = .ok (.iload_n 3, 1) := by decide +kernel
theorem dX12_twosOf_33 : decode cX12_twosOf 33 = .ok (.invokestatic 308, 3) := by decide +kernel
theorem dX12_twosOf_36 : decode cX12_twosOf 36 = .ok (.ifCond .eq 22, 3) := by decide +kernel
theorem dX12_twosOf_39 : decode cX12_twosOf 39 = .ok (.iload_n 1, 1) := by decide +kernel
theorem dX12_twosOf_40 : decode cX12_twosOf 40 = .ok (.iload 4, 2) := by decide +kernel
theorem dX12_twosOf_42 : decode cX12_twosOf 42 = .ok (.invokestatic 308, 3) := by decide +kernel
theorem dX12_twosOf_45 : decode cX12_twosOf 45 = .ok (.ifCond .eq 13, 3) := by decide +kernel
theorem dX12_twosOf_48 : decode cX12_twosOf 48 = .ok (.aload_n 0, 1) := by decide +kernel
theorem dX12_twosOf_49 : decode cX12_twosOf 49 = .ok (.iload_n 3, 1) := by decide +kernel
theorem dX12_twosOf_50 : decode cX12_twosOf 50 = .ok (.iload 4, 2) := by decide +kernel
theorem dX12_twosOf_52 : decode cX12_twosOf 52 = .ok (.invokevirtual 314, 3) := by decide +kernel
theorem dX12_twosOf_55 : decode cX12_twosOf 55 = .ok (.goto 4, 3) := by decide +kernel
theorem dX12_twosOf_58 : decode cX12_twosOf 58 = .ok (.iconst 0, 1) := by decide +kernel
theorem dX12_twosOf_59 : decode cX12_twosOf 59 = .ok (.iadd, 1) := by decide +kernel
theorem dX12_twosOf_60 : decode cX12_twosOf 60 = .ok (.istore_n 2, 1) := by decide +kernel
theorem dX12_twosOf_61 : decode cX12_twosOf 61 = .ok (.iinc 4 1, 3) := by decide +kernel
theorem dX12_twosOf_64 : decode cX12_twosOf 64 = .ok (.goto (-45), 3) := by decide +kernel
theorem dX12_twosOf_67 : decode cX12_twosOf 67 = .ok (.iinc 3 1, 3) := by decide +kernel
theorem dX12_twosOf_70 : decode cX12_twosOf 70 = .ok (.goto (-66), 3) := by decide +kernel
theorem dX12_twosOf_73 : decode cX12_twosOf 73 = .ok (.iload_n 2, 1) := by decide +kernel
theorem dX12_twosOf_74 : decode cX12_twosOf 74 = .ok (.ireturn, 1) := by decide +kernel
theorem dX12_lightOf_0 : decode cX12_lightOf 0 = .ok (.iconst 0, 1) := by decide +kernel
theorem dX12_lightOf_1 : decode cX12_lightOf 1 = .ok (.istore_n 2, 1) := by decide +kernel
theorem dX12_lightOf_2 : decode cX12_lightOf 2 = .ok (.iconst 0, 1) := by decide +kernel
theorem dX12_lightOf_3 : decode cX12_lightOf 3 = .ok (.istore_n 3, 1) := by decide +kernel
theorem dX12_lightOf_4 : decode cX12_lightOf 4 = .ok (.iload_n 3, 1) := by decide +kernel
theorem dX12_lightOf_5 : decode cX12_lightOf 5 = .ok (.aload_n 0, 1) := by decide +kernel
theorem dX12_lightOf_6 : decode cX12_lightOf 6 = .ok (.getfield 39, 3) := by decide +kernel
theorem dX12_lightOf_9 : decode cX12_lightOf 9 = .ok (.iconst 4, 1) := by decide +kernel
theorem dX12_lightOf_10 : decode cX12_lightOf 10 = .ok (.iaload, 1) := by decide +kernel
theorem dX12_lightOf_11 : decode cX12_lightOf 11 = .ok (.if_icmp .ge 33, 3) := by decide +kernel
theorem dX12_lightOf_14 : decode cX12_lightOf 14 = .ok (.iload_n 2, 1) := by decide +kernel
theorem dX12_lightOf_15 : decode cX12_lightOf 15 = .ok (.iload_n 1, 1) := by decide +kernel
theorem dX12_lightOf_16 : decode cX12_lightOf 16 = .ok (.iload_n 3, 1) := by decide +kernel
theorem dX12_lightOf_17 : decode cX12_lightOf 17 = .ok (.invokestatic 308, 3) := by decide +kernel
theorem dX12_lightOf_20 : decode cX12_lightOf 20 = .ok (.ifCond .eq 15, 3) := by decide +kernel
theorem dX12_lightOf_23 : decode cX12_lightOf 23 = .ok (.aload_n 0, 1) := by decide +kernel
theorem dX12_lightOf_24 : decode cX12_lightOf 24 = .ok (.getfield 39, 3) := by decide +kernel
theorem dX12_lightOf_27 : decode cX12_lightOf 27 = .ok (.bipush 35, 2) := by decide +kernel
theorem dX12_lightOf_29 : decode cX12_lightOf 29 = .ok (.iload_n 3, 1) := by decide +kernel
theorem dX12_lightOf_30 : decode cX12_lightOf 30 = .ok (.iadd, 1) := by decide +kernel
theorem dX12_lightOf_31 : decode cX12_lightOf 31 = .ok (.iaload, 1) := by decide +kernel
theorem dX12_lightOf_32 : decode cX12_lightOf 32 = .ok (.goto 4, 3) := by decide +kernel
theorem dX12_lightOf_35 : decode cX12_lightOf 35 = .ok (.iconst 0, 1) := by decide +kernel
theorem dX12_lightOf_36 : decode cX12_lightOf 36 = .ok (.iadd, 1) := by decide +kernel
theorem dX12_lightOf_37 : decode cX12_lightOf 37 = .ok (.istore_n 2, 1) := by decide +kernel
theorem dX12_lightOf_38 : decode cX12_lightOf 38 = .ok (.iinc 3 1, 3) := by decide +kernel
theorem dX12_lightOf_41 : decode cX12_lightOf 41 = .ok (.goto (-37), 3) := by decide +kernel
theorem dX12_lightOf_44 : decode cX12_lightOf 44 = .ok (.iload_n 2, 1) := by decide +kernel
theorem dX12_lightOf_45 : decode cX12_lightOf 45 = .ok (.ireturn, 1) := by decide +kernel
theorem dX12_weighs_0 : decode cX12_weighs 0 = .ok (.iload_n 3, 1) := by decide +kernel
theorem dX12_weighs_1 : decode cX12_weighs 1 = .ok (.iconst 1, 1) := by decide +kernel
theorem dX12_weighs_2 : decode cX12_weighs 2 = .ok (.if_icmp .ne 9, 3) := by decide +kernel
theorem dX12_weighs_5 : decode cX12_weighs 5 = .ok (.iload_n 1, 1) := by decide +kernel
theorem dX12_weighs_6 : decode cX12_weighs 6 = .ok (.iconst 2, 1) := by decide +kernel
theorem dX12_weighs_7 : decode cX12_weighs 7 = .ok (.idiv, 1) := by decide +kernel
theorem dX12_weighs_8 : decode cX12_weighs 8 = .ok (.goto 4, 3) := by decide +kernel
theorem dX12_weighs_11 : decode cX12_weighs 11 = .ok (.iload_n 1, 1) := by decide +kernel
theorem dX12_weighs_12 : decode cX12_weighs 12 = .ok (.istore 4, 2) := by decide +kernel
theorem dX12_weighs_14 : decode cX12_weighs 14 = .ok (.iload 4, 2) := by decide +kernel
theorem dX12_weighs_16 : decode cX12_weighs 16 = .ok (.aload_n 0, 1) := by decide +kernel
theorem dX12_weighs_17 : decode cX12_weighs 17 = .ok (.invokevirtual 317, 3) := by decide +kernel
theorem dX12_weighs_20 : decode cX12_weighs 20 = .ok (.ifCond .eq 12, 3) := by decide +kernel
theorem dX12_weighs_23 : decode cX12_weighs 23 = .ok (.aload_n 0, 1) := by decide +kernel
theorem dX12_weighs_24 : decode cX12_weighs 24 = .ok (.getfield 39, 3) := by decide +kernel
theorem dX12_weighs_27 : decode cX12_weighs 27 = .ok (.iconst 3, 1) := by decide +kernel
theorem dX12_weighs_28 : decode cX12_weighs 28 = .ok (.iaload, 1) := by decide +kernel
theorem dX12_weighs_29 : decode cX12_weighs 29 = .ok (.goto 4, 3) := by decide +kernel
theorem dX12_weighs_32 : decode cX12_weighs 32 = .ok (.iconst 0, 1) := by decide +kernel
theorem dX12_weighs_33 : decode cX12_weighs 33 = .ok (.aload_n 0, 1) := by decide +kernel
theorem dX12_weighs_34 : decode cX12_weighs 34 = .ok (.iload_n 2, 1) := by decide +kernel
theorem dX12_weighs_35 : decode cX12_weighs 35 = .ok (.invokevirtual 320, 3) := by decide +kernel
theorem dX12_weighs_38 : decode cX12_weighs 38 = .ok (.isub, 1) := by decide +kernel
theorem dX12_weighs_39 : decode cX12_weighs 39 = .ok (.iadd, 1) := by decide +kernel
theorem dX12_weighs_40 : decode cX12_weighs 40 = .ok (.istore 4, 2) := by decide +kernel
theorem dX12_weighs_42 : decode cX12_weighs 42 = .ok (.iload 4, 2) := by decide +kernel
theorem dX12_weighs_44 : decode cX12_weighs 44 = .ok (.ifCond .ge 7, 3) := by decide +kernel
theorem dX12_weighs_47 : decode cX12_weighs 47 = .ok (.iconst 0, 1) := by decide +kernel
theorem dX12_weighs_48 : decode cX12_weighs 48 = .ok (.goto 5, 3) := by decide +kernel
theorem dX12_weighs_51 : decode cX12_weighs 51 = .ok (.iload 4, 2) := by decide +kernel
theorem dX12_weighs_53 : decode cX12_weighs 53 = .ok (.ireturn, 1) := by decide +kernel
theorem dX12_weightOf_0 : decode cX12_weightOf 0 = .ok (.aload_n 0, 1) := by decide +kernel
theorem dX12_weightOf_1 : decode cX12_weightOf 1 = .ok (.aload_n 0, 1) := by decide +kernel
theorem dX12_weightOf_2 : decode cX12_weightOf 2 = .ok (.iload_n 1, 1) := by decide +kernel
theorem dX12_weightOf_3 : decode cX12_weightOf 3 = .ok (.iload_n 2, 1) := by decide +kernel
theorem dX12_weightOf_4 : decode cX12_weightOf 4 = .ok (.invokevirtual 323, 3) := by decide +kernel
theorem dX12_weightOf_7 : decode cX12_weightOf 7 = .ok (.aload_n 0, 1) := by decide +kernel
theorem dX12_weightOf_8 : decode cX12_weightOf 8 = .ok (.iload_n 1, 1) := by decide +kernel
theorem dX12_weightOf_9 : decode cX12_weightOf 9 = .ok (.invokevirtual 327, 3) := by decide +kernel
theorem dX12_weightOf_12 : decode cX12_weightOf 12 = .ok (.iadd, 1) := by decide +kernel
theorem dX12_weightOf_13 : decode cX12_weightOf 13 = .ok (.iload_n 1, 1) := by decide +kernel
theorem dX12_weightOf_14 : decode cX12_weightOf 14 = .ok (.aload_n 0, 1) := by decide +kernel
theorem dX12_weightOf_15 : decode cX12_weightOf 15 = .ok (.getfield 39, 3) := by decide +kernel
theorem dX12_weightOf_18 : decode cX12_weightOf 18 = .ok (.bipush 11, 2) := by decide +kernel
theorem dX12_weightOf_20 : decode cX12_weightOf 20 = .ok (.iaload, 1) := by decide +kernel
theorem dX12_weightOf_21 : decode cX12_weightOf 21 = .ok (.invokevirtual 330, 3) := by decide +kernel
theorem dX12_weightOf_24 : decode cX12_weightOf 24 = .ok (.ireturn, 1) := by decide +kernel
theorem dX12_canBoard_0 : decode cX12_canBoard 0 = .ok (.iload_n 1, 1) := by decide +kernel
theorem dX12_canBoard_1 : decode cX12_canBoard 1 = .ok (.aload_n 0, 1) := by decide +kernel
theorem dX12_canBoard_2 : decode cX12_canBoard 2 = .ok (.aload_n 0, 1) := by decide +kernel
theorem dX12_canBoard_3 : decode cX12_canBoard 3 = .ok (.getfield 39, 3) := by decide +kernel
theorem dX12_canBoard_6 : decode cX12_canBoard 6 = .ok (.bipush 11, 2) := by decide +kernel
theorem dX12_canBoard_8 : decode cX12_canBoard 8 = .ok (.iaload, 1) := by decide +kernel
theorem dX12_canBoard_9 : decode cX12_canBoard 9 = .ok (.invokevirtual 334, 3) := by decide +kernel
theorem dX12_canBoard_12 : decode cX12_canBoard 12 = .ok (.iconst (-1), 1) := by decide +kernel
theorem dX12_canBoard_13 : decode cX12_canBoard 13 = .ok (.ixor, 1) := by decide +kernel
theorem dX12_canBoard_14 : decode cX12_canBoard 14 = .ok (.iand, 1) := by decide +kernel
theorem dX12_canBoard_15 : decode cX12_canBoard 15 = .ok (.ifCond .ne 35, 3) := by decide +kernel
theorem dX12_canBoard_18 : decode cX12_canBoard 18 = .ok (.iload_n 1, 1) := by decide +kernel
theorem dX12_canBoard_19 : decode cX12_canBoard 19 = .ok (.invokestatic 337, 3) := by decide +kernel
theorem dX12_canBoard_22 : decode cX12_canBoard 22 = .ok (.aload_n 0, 1) := by decide +kernel
theorem dX12_canBoard_23 : decode cX12_canBoard 23 = .ok (.getfield 39, 3) := by decide +kernel
theorem dX12_canBoard_26 : decode cX12_canBoard 26 = .ok (.iconst 2, 1) := by decide +kernel
theorem dX12_canBoard_27 : decode cX12_canBoard 27 = .ok (.iaload, 1) := by decide +kernel
theorem dX12_canBoard_28 : decode cX12_canBoard 28 = .ok (.if_icmp .gt 22, 3) := by decide +kernel
theorem dX12_canBoard_31 : decode cX12_canBoard 31 = .ok (.aload_n 0, 1) := by decide +kernel
theorem dX12_canBoard_32 : decode cX12_canBoard 32 = .ok (.iload_n 1, 1) := by decide +kernel
theorem dX12_canBoard_33 : decode cX12_canBoard 33 = .ok (.iconst 0, 1) := by decide +kernel
theorem dX12_canBoard_34 : decode cX12_canBoard 34 = .ok (.invokevirtual 340, 3) := by decide +kernel
theorem dX12_canBoard_37 : decode cX12_canBoard 37 = .ok (.aload_n 0, 1) := by decide +kernel
theorem dX12_canBoard_38 : decode cX12_canBoard 38 = .ok (.getfield 39, 3) := by decide +kernel
theorem dX12_canBoard_41 : decode cX12_canBoard 41 = .ok (.iconst 1, 1) := by decide +kernel
theorem dX12_canBoard_42 : decode cX12_canBoard 42 = .ok (.iaload, 1) := by decide +kernel
theorem dX12_canBoard_43 : decode cX12_canBoard 43 = .ok (.if_icmp .gt 7, 3) := by decide +kernel
theorem dX12_canBoard_46 : decode cX12_canBoard 46 = .ok (.iconst 1, 1) := by decide +kernel
theorem dX12_canBoard_47 : decode cX12_canBoard 47 = .ok (.goto 4, 3) := by decide +kernel
theorem dX12_canBoard_50 : decode cX12_canBoard 50 = .ok (.iconst 0, 1) := by decide +kernel
theorem dX12_canBoard_51 : decode cX12_canBoard 51 = .ok (.ireturn, 1) := by decide +kernel
theorem dX12_canCross_0 : decode cX12_canCross 0 = .ok (.aload_n 0, 1) := by decide +kernel
theorem dX12_canCross_1 : decode cX12_canCross 1 = .ok (.iload_n 1, 1) := by decide +kernel
theorem dX12_canCross_2 : decode cX12_canCross 2 = .ok (.invokevirtual 343, 3) := by decide +kernel
theorem dX12_canCross_5 : decode cX12_canCross 5 = .ok (.ifCond .eq 22, 3) := by decide +kernel
theorem dX12_canCross_8 : decode cX12_canCross 8 = .ok (.aload_n 0, 1) := by decide +kernel
theorem dX12_canCross_9 : decode cX12_canCross 9 = .ok (.iload_n 1, 1) := by decide +kernel
theorem dX12_canCross_10 : decode cX12_canCross 10 = .ok (.iconst 1, 1) := by decide +kernel
theorem dX12_canCross_11 : decode cX12_canCross 11 = .ok (.invokevirtual 340, 3) := by decide +kernel
theorem dX12_canCross_14 : decode cX12_canCross 14 = .ok (.aload_n 0, 1) := by decide +kernel
theorem dX12_canCross_15 : decode cX12_canCross 15 = .ok (.getfield 39, 3) := by decide +kernel
theorem dX12_canCross_18 : decode cX12_canCross 18 = .ok (.iconst 1, 1) := by decide +kernel
theorem dX12_canCross_19 : decode cX12_canCross 19 = .ok (.iaload, 1) := by decide +kernel
theorem dX12_canCross_20 : decode cX12_canCross 20 = .ok (.if_icmp .gt 7, 3) := by decide +kernel
theorem dX12_canCross_23 : decode cX12_canCross 23 = .ok (.iconst 1, 1) := by decide +kernel
theorem dX12_canCross_24 : decode cX12_canCross 24 = .ok (.goto 4, 3) := by decide +kernel
theorem dX12_canCross_27 : decode cX12_canCross 27 = .ok (.iconst 0, 1) := by decide +kernel
theorem dX12_canCross_28 : decode cX12_canCross 28 = .ok (.ireturn, 1) := by decide +kernel
theorem dX12_begins_0 : decode cX12_begins 0 = .ok (.bipush 10, 2) := by decide +kernel
theorem dX12_begins_2 : decode cX12_begins 2 = .ok (.istore_n 1, 1) := by decide +kernel
theorem dX12_begins_3 : decode cX12_begins 3 = .ok (.iload_n 1, 1) := by decide +kernel
theorem dX12_begins_4 : decode cX12_begins 4 = .ok (.bipush 14, 2) := by decide +kernel
theorem dX12_begins_6 : decode cX12_begins 6 = .ok (.if_icmp .ge 16, 3) := by decide +kernel
theorem dX12_begins_9 : decode cX12_begins 9 = .ok (.aload_n 0, 1) := by decide +kernel
theorem dX12_begins_10 : decode cX12_begins 10 = .ok (.getfield 39, 3) := by decide +kernel
theorem dX12_begins_13 : decode cX12_begins 13 = .ok (.iload_n 1, 1) := by decide +kernel
theorem dX12_begins_14 : decode cX12_begins 14 = .ok (.iconst 0, 1) := by decide +kernel
theorem dX12_begins_15 : decode cX12_begins 15 = .ok (.iastore, 1) := by decide +kernel
theorem dX12_begins_16 : decode cX12_begins 16 = .ok (.iinc 1 1, 3) := by decide +kernel
theorem dX12_begins_19 : decode cX12_begins 19 = .ok (.goto (-16), 3) := by decide +kernel
theorem dX12_begins_22 : decode cX12_begins 22 = .ok (.iconst 0, 1) := by decide +kernel
theorem dX12_begins_23 : decode cX12_begins 23 = .ok (.istore_n 1, 1) := by decide +kernel
theorem dX12_begins_24 : decode cX12_begins 24 = .ok (.iload_n 1, 1) := by decide +kernel
theorem dX12_begins_25 : decode cX12_begins 25 = .ok (.bipush 7, 2) := by decide +kernel
theorem dX12_begins_27 : decode cX12_begins 27 = .ok (.if_icmp .ge 37, 3) := by decide +kernel
theorem dX12_begins_30 : decode cX12_begins 30 = .ok (.aload_n 0, 1) := by decide +kernel
theorem dX12_begins_31 : decode cX12_begins 31 = .ok (.getfield 39, 3) := by decide +kernel
theorem dX12_begins_34 : decode cX12_begins 34 = .ok (.bipush 14, 2) := by decide +kernel
theorem dX12_begins_36 : decode cX12_begins 36 = .ok (.iload_n 1, 1) := by decide +kernel
theorem dX12_begins_37 : decode cX12_begins 37 = .ok (.iadd, 1) := by decide +kernel
theorem dX12_begins_38 : decode cX12_begins 38 = .ok (.aload_n 0, 1) := by decide +kernel
theorem dX12_begins_39 : decode cX12_begins 39 = .ok (.getfield 39, 3) := by decide +kernel
theorem dX12_begins_42 : decode cX12_begins 42 = .ok (.bipush 42, 2) := by decide +kernel
theorem dX12_begins_44 : decode cX12_begins 44 = .ok (.iload_n 1, 1) := by decide +kernel
theorem dX12_begins_45 : decode cX12_begins 45 = .ok (.iadd, 1) := by decide +kernel
theorem dX12_begins_46 : decode cX12_begins 46 = .ok (.iaload, 1) := by decide +kernel
theorem dX12_begins_47 : decode cX12_begins 47 = .ok (.iastore, 1) := by decide +kernel
theorem dX12_begins_48 : decode cX12_begins 48 = .ok (.aload_n 0, 1) := by decide +kernel
theorem dX12_begins_49 : decode cX12_begins 49 = .ok (.getfield 39, 3) := by decide +kernel
theorem dX12_begins_52 : decode cX12_begins 52 = .ok (.bipush 21, 2) := by decide +kernel
theorem dX12_begins_54 : decode cX12_begins 54 = .ok (.iload_n 1, 1) := by decide +kernel
theorem dX12_begins_55 : decode cX12_begins 55 = .ok (.iadd, 1) := by decide +kernel
theorem dX12_begins_56 : decode cX12_begins 56 = .ok (.iconst 0, 1) := by decide +kernel
theorem dX12_begins_57 : decode cX12_begins 57 = .ok (.iastore, 1) := by decide +kernel
theorem dX12_begins_58 : decode cX12_begins 58 = .ok (.iinc 1 1, 3) := by decide +kernel
theorem dX12_begins_61 : decode cX12_begins 61 = .ok (.goto (-37), 3) := by decide +kernel
theorem dX12_begins_64 : decode cX12_begins 64 = .ok (.return_, 1) := by decide +kernel
theorem dX12_force_0 : decode cX12_force 0 = .ok (.iload_n 1, 1) := by decide +kernel
theorem dX12_force_1 : decode cX12_force 1 = .ok (.iconst (-1), 1) := by decide +kernel
theorem dX12_force_2 : decode cX12_force 2 = .ok (.if_icmp .eq 14, 3) := by decide +kernel
theorem dX12_force_5 : decode cX12_force 5 = .ok (.aload_n 0, 1) := by decide +kernel
theorem dX12_force_6 : decode cX12_force 6 = .ok (.iload_n 1, 1) := by decide +kernel
theorem dX12_force_7 : decode cX12_force 7 = .ok (.invokevirtual 346, 3) := by decide +kernel
theorem dX12_force_10 : decode cX12_force 10 = .ok (.ifCond .ne 6, 3) := by decide +kernel
theorem dX12_force_13 : decode cX12_force 13 = .ok (.bipush (-2), 2) := by decide +kernel
theorem dX12_force_15 : decode cX12_force 15 = .ok (.ireturn, 1) := by decide +kernel
theorem dX12_force_16 : decode cX12_force 16 = .ok (.aload_n 0, 1) := by decide +kernel
theorem dX12_force_17 : decode cX12_force 17 = .ok (.getfield 42, 3) := by decide +kernel
theorem dX12_force_20 : decode cX12_force 20 = .ok (.istore_n 2, 1) := by decide +kernel
theorem dX12_force_21 : decode cX12_force 21 = .ok (.aload_n 0, 1) := by decide +kernel
theorem dX12_force_22 : decode cX12_force 22 = .ok (.iload_n 1, 1) := by decide +kernel
theorem dX12_force_23 : decode cX12_force 23 = .ok (.putfield 42, 3) := by decide +kernel
theorem dX12_force_26 : decode cX12_force 26 = .ok (.iload_n 2, 1) := by decide +kernel
theorem dX12_force_27 : decode cX12_force 27 = .ok (.ireturn, 1) := by decide +kernel
theorem dX12_person_0 : decode cX12_person 0 = .ok (.aload_n 0, 1) := by decide +kernel
theorem dX12_person_1 : decode cX12_person 1 = .ok (.iload_n 1, 1) := by decide +kernel
theorem dX12_person_2 : decode cX12_person 2 = .ok (.invokevirtual 349, 3) := by decide +kernel
theorem dX12_person_5 : decode cX12_person 5 = .ok (.ifCond .ne 5, 3) := by decide +kernel
theorem dX12_person_8 : decode cX12_person 8 = .ok (.iconst (-1), 1) := by decide +kernel
theorem dX12_person_9 : decode cX12_person 9 = .ok (.ireturn, 1) := by decide +kernel
theorem dX12_person_10 : decode cX12_person 10 = .ok (.iload_n 2, 1) := by decide +kernel
theorem dX12_person_11 : decode cX12_person 11 = .ok (.tableswitch 69 0 3 #[29, 39, 49, 59], 29) := by decide +kernel
theorem dX12_person_40 : decode cX12_person 40 = .ok (.aload_n 0, 1) := by decide +kernel
theorem dX12_person_41 : decode cX12_person 41 = .ok (.getfield 39, 3) := by decide +kernel
theorem dX12_person_44 : decode cX12_person 44 = .ok (.bipush 14, 2) := by decide +kernel
theorem dX12_person_46 : decode cX12_person 46 = .ok (.iload_n 1, 1) := by decide +kernel
theorem dX12_person_47 : decode cX12_person 47 = .ok (.iadd, 1) := by decide +kernel
theorem dX12_person_48 : decode cX12_person 48 = .ok (.iaload, 1) := by decide +kernel
theorem dX12_person_49 : decode cX12_person 49 = .ok (.ireturn, 1) := by decide +kernel
theorem dX12_person_50 : decode cX12_person 50 = .ok (.aload_n 0, 1) := by decide +kernel
theorem dX12_person_51 : decode cX12_person 51 = .ok (.getfield 39, 3) := by decide +kernel
theorem dX12_person_54 : decode cX12_person 54 = .ok (.bipush 28, 2) := by decide +kernel
theorem dX12_person_56 : decode cX12_person 56 = .ok (.iload_n 1, 1) := by decide +kernel
theorem dX12_person_57 : decode cX12_person 57 = .ok (.iadd, 1) := by decide +kernel
theorem dX12_person_58 : decode cX12_person 58 = .ok (.iaload, 1) := by decide +kernel
theorem dX12_person_59 : decode cX12_person 59 = .ok (.ireturn, 1) := by decide +kernel
theorem dX12_person_60 : decode cX12_person 60 = .ok (.aload_n 0, 1) := by decide +kernel
theorem dX12_person_61 : decode cX12_person 61 = .ok (.getfield 39, 3) := by decide +kernel
theorem dX12_person_64 : decode cX12_person 64 = .ok (.bipush 35, 2) := by decide +kernel
theorem dX12_person_66 : decode cX12_person 66 = .ok (.iload_n 1, 1) := by decide +kernel
theorem dX12_person_67 : decode cX12_person 67 = .ok (.iadd, 1) := by decide +kernel
theorem dX12_person_68 : decode cX12_person 68 = .ok (.iaload, 1) := by decide +kernel
theorem dX12_person_69 : decode cX12_person 69 = .ok (.ireturn, 1) := by decide +kernel
theorem dX12_person_70 : decode cX12_person 70 = .ok (.aload_n 0, 1) := by decide +kernel
theorem dX12_person_71 : decode cX12_person 71 = .ok (.getfield 39, 3) := by decide +kernel
theorem dX12_person_74 : decode cX12_person 74 = .ok (.bipush 21, 2) := by decide +kernel
theorem dX12_person_76 : decode cX12_person 76 = .ok (.iload_n 1, 1) := by decide +kernel
theorem dX12_person_77 : decode cX12_person 77 = .ok (.iadd, 1) := by decide +kernel
theorem dX12_person_78 : decode cX12_person 78 = .ok (.iaload, 1) := by decide +kernel
theorem dX12_person_79 : decode cX12_person 79 = .ok (.ireturn, 1) := by decide +kernel
theorem dX12_person_80 : decode cX12_person 80 = .ok (.iconst (-1), 1) := by decide +kernel
theorem dX12_person_81 : decode cX12_person 81 = .ok (.ireturn, 1) := by decide +kernel
theorem dX12_beside_0 : decode cX12_beside 0 = .ok (.aload_n 0, 1) := by decide +kernel
theorem dX12_beside_1 : decode cX12_beside 1 = .ok (.iload_n 1, 1) := by decide +kernel
theorem dX12_beside_2 : decode cX12_beside 2 = .ok (.invokevirtual 349, 3) := by decide +kernel
theorem dX12_beside_5 : decode cX12_beside 5 = .ok (.ifCond .eq 20, 3) := by decide +kernel
theorem dX12_beside_8 : decode cX12_beside 8 = .ok (.aload_n 0, 1) := by decide +kernel
theorem dX12_beside_9 : decode cX12_beside 9 = .ok (.iload_n 2, 1) := by decide +kernel
theorem dX12_beside_10 : decode cX12_beside 10 = .ok (.invokevirtual 349, 3) := by decide +kernel
theorem dX12_beside_13 : decode cX12_beside 13 = .ok (.ifCond .eq 12, 3) := by decide +kernel
theorem dX12_beside_16 : decode cX12_beside 16 = .ok (.aload_n 0, 1) := by decide +kernel
theorem dX12_beside_17 : decode cX12_beside 17 = .ok (.iload_n 1, 1) := by decide +kernel
theorem dX12_beside_18 : decode cX12_beside 18 = .ok (.iload_n 2, 1) := by decide +kernel
theorem dX12_beside_19 : decode cX12_beside 19 = .ok (.invokevirtual 314, 3) := by decide +kernel
theorem dX12_beside_22 : decode cX12_beside 22 = .ok (.goto 4, 3) := by decide +kernel
theorem dX12_beside_25 : decode cX12_beside 25 = .ok (.iconst (-1), 1) := by decide +kernel
theorem dX12_beside_26 : decode cX12_beside 26 = .ok (.ireturn, 1) := by decide +kernel
theorem dX12_goesOver_0 : decode cX12_goesOver 0 = .ok (.iconst 0, 1) := by decide +kernel
theorem dX12_goesOver_1 : decode cX12_goesOver 1 = .ok (.istore_n 2, 1) := by decide +kernel
theorem dX12_goesOver_2 : decode cX12_goesOver 2 = .ok (.iload_n 2, 1) := by decide +kernel
theorem dX12_goesOver_3 : decode cX12_goesOver 3 = .ok (.aload_n 0, 1) := by decide +kernel
theorem dX12_goesOver_4 : decode cX12_goesOver 4 = .ok (.getfield 39, 3) := by decide +kernel
theorem dX12_goesOver_7 : decode cX12_goesOver 7 = .ok (.iconst 4, 1) := by decide +kernel
theorem dX12_goesOver_8 : decode cX12_goesOver 8 = .ok (.iaload, 1) := by decide +kernel
theorem dX12_goesOver_9 : decode cX12_goesOver 9 = .ok (.if_icmp .ge 40, 3) := by decide +kernel
theorem dX12_goesOver_12 : decode cX12_goesOver 12 = .ok (.iload_n 1, 1) := by decide +kernel
theorem dX12_goesOver_13 : decode cX12_goesOver 13 = .ok (.iload_n 2, 1) := by decide +kernel
theorem dX12_goesOver_14 : decode cX12_goesOver 14 = .ok (.invokestatic 308, 3) := by decide +kernel
theorem dX12_goesOver_17 : decode cX12_goesOver 17 = .ok (.ifCond .eq 26, 3) := by decide +kernel
theorem dX12_goesOver_20 : decode cX12_goesOver 20 = .ok (.aload_n 0, 1) := by decide +kernel
theorem dX12_goesOver_21 : decode cX12_goesOver 21 = .ok (.getfield 39, 3) := by decide +kernel
theorem dX12_goesOver_24 : decode cX12_goesOver 24 = .ok (.bipush 14, 2) := by decide +kernel
theorem dX12_goesOver_26 : decode cX12_goesOver 26 = .ok (.iload_n 2, 1) := by decide +kernel
theorem dX12_goesOver_27 : decode cX12_goesOver 27 = .ok (.iadd, 1) := by decide +kernel
theorem dX12_goesOver_28 : decode cX12_goesOver 28 = .ok (.aload_n 0, 1) := by decide +kernel
theorem dX12_goesOver_29 : decode cX12_goesOver 29 = .ok (.iload_n 2, 1) := by decide +kernel
theorem dX12_goesOver_30 : decode cX12_goesOver 30 = .ok (.aload_n 0, 1) := by decide +kernel
theorem dX12_goesOver_31 : decode cX12_goesOver 31 = .ok (.getfield 39, 3) := by decide +kernel
theorem dX12_goesOver_34 : decode cX12_goesOver 34 = .ok (.bipush 14, 2) := by decide +kernel
theorem dX12_goesOver_36 : decode cX12_goesOver 36 = .ok (.iload_n 2, 1) := by decide +kernel
theorem dX12_goesOver_37 : decode cX12_goesOver 37 = .ok (.iadd, 1) := by decide +kernel
theorem dX12_goesOver_38 : decode cX12_goesOver 38 = .ok (.iaload, 1) := by decide +kernel
theorem dX12_goesOver_39 : decode cX12_goesOver 39 = .ok (.invokevirtual 311, 3) := by decide +kernel
theorem dX12_goesOver_42 : decode cX12_goesOver 42 = .ok (.iastore, 1) := by decide +kernel
theorem dX12_goesOver_43 : decode cX12_goesOver 43 = .ok (.iinc 2 1, 3) := by decide +kernel
theorem dX12_goesOver_46 : decode cX12_goesOver 46 = .ok (.goto (-44), 3) := by decide +kernel
theorem dX12_goesOver_49 : decode cX12_goesOver 49 = .ok (.aload_n 0, 1) := by decide +kernel
theorem dX12_goesOver_50 : decode cX12_goesOver 50 = .ok (.iload_n 1, 1) := by decide +kernel
theorem dX12_goesOver_51 : decode cX12_goesOver 51 = .ok (.iconst 0, 1) := by decide +kernel
theorem dX12_goesOver_52 : decode cX12_goesOver 52 = .ok (.invokevirtual 340, 3) := by decide +kernel
theorem dX12_goesOver_55 : decode cX12_goesOver 55 = .ok (.aload_n 0, 1) := by decide +kernel
theorem dX12_goesOver_56 : decode cX12_goesOver 56 = .ok (.getfield 39, 3) := by decide +kernel
theorem dX12_goesOver_59 : decode cX12_goesOver 59 = .ok (.iconst 1, 1) := by decide +kernel
theorem dX12_goesOver_60 : decode cX12_goesOver 60 = .ok (.iaload, 1) := by decide +kernel
theorem dX12_goesOver_61 : decode cX12_goesOver 61 = .ok (.if_icmp .gt 7, 3) := by decide +kernel
theorem dX12_goesOver_64 : decode cX12_goesOver 64 = .ok (.iconst 1, 1) := by decide +kernel
theorem dX12_goesOver_65 : decode cX12_goesOver 65 = .ok (.goto 4, 3) := by decide +kernel
theorem dX12_goesOver_68 : decode cX12_goesOver 68 = .ok (.iconst 0, 1) := by decide +kernel
theorem dX12_goesOver_69 : decode cX12_goesOver 69 = .ok (.istore_n 2, 1) := by decide +kernel
theorem dX12_goesOver_70 : decode cX12_goesOver 70 = .ok (.iload_n 2, 1) := by decide +kernel
theorem dX12_goesOver_71 : decode cX12_goesOver 71 = .ok (.ifCond .eq 66, 3) := by decide +kernel
theorem dX12_goesOver_74 : decode cX12_goesOver 74 = .ok (.iconst 0, 1) := by decide +kernel
theorem dX12_goesOver_75 : decode cX12_goesOver 75 = .ok (.istore_n 3, 1) := by decide +kernel
theorem dX12_goesOver_76 : decode cX12_goesOver 76 = .ok (.iload_n 3, 1) := by decide +kernel
theorem dX12_goesOver_77 : decode cX12_goesOver 77 = .ok (.aload_n 0, 1) := by decide +kernel
theorem dX12_goesOver_78 : decode cX12_goesOver 78 = .ok (.getfield 39, 3) := by decide +kernel
theorem dX12_goesOver_81 : decode cX12_goesOver 81 = .ok (.iconst 4, 1) := by decide +kernel
theorem dX12_goesOver_82 : decode cX12_goesOver 82 = .ok (.iaload, 1) := by decide +kernel
theorem dX12_goesOver_83 : decode cX12_goesOver 83 = .ok (.if_icmp .ge 35, 3) := by decide +kernel
theorem dX12_goesOver_86 : decode cX12_goesOver 86 = .ok (.iload_n 1, 1) := by decide +kernel
theorem dX12_goesOver_87 : decode cX12_goesOver 87 = .ok (.iload_n 3, 1) := by decide +kernel
theorem dX12_goesOver_88 : decode cX12_goesOver 88 = .ok (.invokestatic 308, 3) := by decide +kernel
theorem dX12_goesOver_91 : decode cX12_goesOver 91 = .ok (.ifCond .eq 21, 3) := by decide +kernel
theorem dX12_goesOver_94 : decode cX12_goesOver 94 = .ok (.aload_n 0, 1) := by decide +kernel
theorem dX12_goesOver_95 : decode cX12_goesOver 95 = .ok (.getfield 39, 3) := by decide +kernel
theorem dX12_goesOver_98 : decode cX12_goesOver 98 = .ok (.bipush 21, 2) := by decide +kernel
theorem dX12_goesOver_100 : decode cX12_goesOver 100 = .ok (.iload_n 3, 1) := by decide +kernel
theorem dX12_goesOver_101 : decode cX12_goesOver 101 = .ok (.iadd, 1) := by decide +kernel
theorem dX12_goesOver_102 : decode cX12_goesOver 102 = .ok (.iconst 1, 1) := by decide +kernel
theorem dX12_goesOver_103 : decode cX12_goesOver 103 = .ok (.aload_n 0, 1) := by decide +kernel
theorem dX12_goesOver_104 : decode cX12_goesOver 104 = .ok (.getfield 39, 3) := by decide +kernel
theorem dX12_goesOver_107 : decode cX12_goesOver 107 = .ok (.bipush 11, 2) := by decide +kernel
theorem dX12_goesOver_109 : decode cX12_goesOver 109 = .ok (.iaload, 1) := by decide +kernel
theorem dX12_goesOver_110 : decode cX12_goesOver 110 = .ok (.isub, 1) := by decide +kernel
theorem dX12_goesOver_111 : decode cX12_goesOver 111 = .ok (.iastore, 1) := by decide +kernel
theorem dX12_goesOver_112 : decode cX12_goesOver 112 = .ok (.iinc 3 1, 3) := by decide +kernel
theorem dX12_goesOver_115 : decode cX12_goesOver 115 = .ok (.goto (-39), 3) := by decide +kernel
theorem dX12_goesOver_118 : decode cX12_goesOver 118 = .ok (.aload_n 0, 1) := by decide +kernel
theorem dX12_goesOver_119 : decode cX12_goesOver 119 = .ok (.getfield 39, 3) := by decide +kernel
theorem dX12_goesOver_122 : decode cX12_goesOver 122 = .ok (.bipush 11, 2) := by decide +kernel
theorem dX12_goesOver_124 : decode cX12_goesOver 124 = .ok (.iconst 1, 1) := by decide +kernel
theorem dX12_goesOver_125 : decode cX12_goesOver 125 = .ok (.aload_n 0, 1) := by decide +kernel
theorem dX12_goesOver_126 : decode cX12_goesOver 126 = .ok (.getfield 39, 3) := by decide +kernel
theorem dX12_goesOver_129 : decode cX12_goesOver 129 = .ok (.bipush 11, 2) := by decide +kernel
theorem dX12_goesOver_131 : decode cX12_goesOver 131 = .ok (.iaload, 1) := by decide +kernel
theorem dX12_goesOver_132 : decode cX12_goesOver 132 = .ok (.isub, 1) := by decide +kernel
theorem dX12_goesOver_133 : decode cX12_goesOver 133 = .ok (.iastore, 1) := by decide +kernel
theorem dX12_goesOver_134 : decode cX12_goesOver 134 = .ok (.goto 14, 3) := by decide +kernel
theorem dX12_goesOver_137 : decode cX12_goesOver 137 = .ok (.aload_n 0, 1) := by decide +kernel
theorem dX12_goesOver_138 : decode cX12_goesOver 138 = .ok (.getfield 39, 3) := by decide +kernel
theorem dX12_goesOver_141 : decode cX12_goesOver 141 = .ok (.bipush 12, 2) := by decide +kernel
theorem dX12_goesOver_143 : decode cX12_goesOver 143 = .ok (.dup2, 1) := by decide +kernel
theorem dX12_goesOver_144 : decode cX12_goesOver 144 = .ok (.iaload, 1) := by decide +kernel
theorem dX12_goesOver_145 : decode cX12_goesOver 145 = .ok (.iconst 1, 1) := by decide +kernel
theorem dX12_goesOver_146 : decode cX12_goesOver 146 = .ok (.iadd, 1) := by decide +kernel
theorem dX12_goesOver_147 : decode cX12_goesOver 147 = .ok (.iastore, 1) := by decide +kernel
theorem dX12_goesOver_148 : decode cX12_goesOver 148 = .ok (.aload_n 0, 1) := by decide +kernel
theorem dX12_goesOver_149 : decode cX12_goesOver 149 = .ok (.getfield 39, 3) := by decide +kernel
theorem dX12_goesOver_152 : decode cX12_goesOver 152 = .ok (.bipush 10, 2) := by decide +kernel
theorem dX12_goesOver_154 : decode cX12_goesOver 154 = .ok (.dup2, 1) := by decide +kernel
theorem dX12_goesOver_155 : decode cX12_goesOver 155 = .ok (.iaload, 1) := by decide +kernel
theorem dX12_goesOver_156 : decode cX12_goesOver 156 = .ok (.iconst 1, 1) := by decide +kernel
theorem dX12_goesOver_157 : decode cX12_goesOver 157 = .ok (.iadd, 1) := by decide +kernel
theorem dX12_goesOver_158 : decode cX12_goesOver 158 = .ok (.iastore, 1) := by decide +kernel
theorem dX12_goesOver_159 : decode cX12_goesOver 159 = .ok (.iload_n 2, 1) := by decide +kernel
theorem dX12_goesOver_160 : decode cX12_goesOver 160 = .ok (.ireturn, 1) := by decide +kernel
theorem dX12_summedBy_0 : decode cX12_summedBy 0 = .ok (.iconst 0, 1) := by decide +kernel
theorem dX12_summedBy_1 : decode cX12_summedBy 1 = .ok (.istore_n 2, 1) := by decide +kernel
theorem dX12_summedBy_2 : decode cX12_summedBy 2 = .ok (.iload_n 2, 1) := by decide +kernel
theorem dX12_summedBy_3 : decode cX12_summedBy 3 = .ok (.aload_n 0, 1) := by decide +kernel
theorem dX12_summedBy_4 : decode cX12_summedBy 4 = .ok (.getfield 23, 3) := by decide +kernel
theorem dX12_summedBy_7 : decode cX12_summedBy 7 = .ok (.iload_n 1, 1) := by decide +kernel
theorem dX12_summedBy_8 : decode cX12_summedBy 8 = .ok (.iaload, 1) := by decide +kernel
theorem dX12_summedBy_9 : decode cX12_summedBy 9 = .ok (.if_icmp .ge 75, 3) := by decide +kernel
theorem dX12_summedBy_12 : decode cX12_summedBy 12 = .ok (.bipush 48, 2) := by decide +kernel
theorem dX12_summedBy_14 : decode cX12_summedBy 14 = .ok (.iload_n 1, 1) := by decide +kernel
theorem dX12_summedBy_15 : decode cX12_summedBy 15 = .ok (.imul, 1) := by decide +kernel
theorem dX12_summedBy_16 : decode cX12_summedBy 16 = .ok (.iconst 4, 1) := by decide +kernel
theorem dX12_summedBy_17 : decode cX12_summedBy 17 = .ok (.iload_n 2, 1) := by decide +kernel
theorem dX12_summedBy_18 : decode cX12_summedBy 18 = .ok (.imul, 1) := by decide +kernel
theorem dX12_summedBy_19 : decode cX12_summedBy 19 = .ok (.iadd, 1) := by decide +kernel
theorem dX12_summedBy_20 : decode cX12_summedBy 20 = .ok (.istore_n 3, 1) := by decide +kernel
theorem dX12_summedBy_21 : decode cX12_summedBy 21 = .ok (.aload_n 0, 1) := by decide +kernel
theorem dX12_summedBy_22 : decode cX12_summedBy 22 = .ok (.getfield 20, 3) := by decide +kernel
theorem dX12_summedBy_25 : decode cX12_summedBy 25 = .ok (.iload_n 3, 1) := by decide +kernel
theorem dX12_summedBy_26 : decode cX12_summedBy 26 = .ok (.iconst 2, 1) := by decide +kernel
theorem dX12_summedBy_27 : decode cX12_summedBy 27 = .ok (.iadd, 1) := by decide +kernel
theorem dX12_summedBy_28 : decode cX12_summedBy 28 = .ok (.iaload, 1) := by decide +kernel
theorem dX12_summedBy_29 : decode cX12_summedBy 29 = .ok (.ifCond .lt 29, 3) := by decide +kernel
theorem dX12_summedBy_32 : decode cX12_summedBy 32 = .ok (.aload_n 0, 1) := by decide +kernel
theorem dX12_summedBy_33 : decode cX12_summedBy 33 = .ok (.iload_n 1, 1) := by decide +kernel
theorem dX12_summedBy_34 : decode cX12_summedBy 34 = .ok (.aload_n 0, 1) := by decide +kernel
theorem dX12_summedBy_35 : decode cX12_summedBy 35 = .ok (.getfield 20, 3) := by decide +kernel
theorem dX12_summedBy_38 : decode cX12_summedBy 38 = .ok (.iload_n 3, 1) := by decide +kernel
theorem dX12_summedBy_39 : decode cX12_summedBy 39 = .ok (.iconst 2, 1) := by decide +kernel
theorem dX12_summedBy_40 : decode cX12_summedBy 40 = .ok (.iadd, 1) := by decide +kernel
theorem dX12_summedBy_41 : decode cX12_summedBy 41 = .ok (.iaload, 1) := by decide +kernel
theorem dX12_summedBy_42 : decode cX12_summedBy 42 = .ok (.aload_n 0, 1) := by decide +kernel
theorem dX12_summedBy_43 : decode cX12_summedBy 43 = .ok (.getfield 20, 3) := by decide +kernel
theorem dX12_summedBy_46 : decode cX12_summedBy 46 = .ok (.iload_n 3, 1) := by decide +kernel
theorem dX12_summedBy_47 : decode cX12_summedBy 47 = .ok (.iconst 3, 1) := by decide +kernel
theorem dX12_summedBy_48 : decode cX12_summedBy 48 = .ok (.iadd, 1) := by decide +kernel
theorem dX12_summedBy_49 : decode cX12_summedBy 49 = .ok (.iaload, 1) := by decide +kernel
theorem dX12_summedBy_50 : decode cX12_summedBy 50 = .ok (.invokevirtual 352, 3) := by decide +kernel
theorem dX12_summedBy_53 : decode cX12_summedBy 53 = .ok (.lconst 1, 1) := by decide +kernel
theorem dX12_summedBy_54 : decode cX12_summedBy 54 = .ok (.lcmp, 1) := by decide +kernel
theorem dX12_summedBy_55 : decode cX12_summedBy 55 = .ok (.ifCond .ne 23, 3) := by decide +kernel
theorem dX12_summedBy_58 : decode cX12_summedBy 58 = .ok (.aload_n 0, 1) := by decide +kernel
theorem dX12_summedBy_59 : decode cX12_summedBy 59 = .ok (.iload_n 1, 1) := by decide +kernel
theorem dX12_summedBy_60 : decode cX12_summedBy 60 = .ok (.aload_n 0, 1) := by decide +kernel
theorem dX12_summedBy_61 : decode cX12_summedBy 61 = .ok (.getfield 20, 3) := by decide +kernel
theorem dX12_summedBy_64 : decode cX12_summedBy 64 = .ok (.iload_n 3, 1) := by decide +kernel
theorem dX12_summedBy_65 : decode cX12_summedBy 65 = .ok (.iaload, 1) := by decide +kernel
theorem dX12_summedBy_66 : decode cX12_summedBy 66 = .ok (.aload_n 0, 1) := by decide +kernel
theorem dX12_summedBy_67 : decode cX12_summedBy 67 = .ok (.getfield 20, 3) := by decide +kernel
theorem dX12_summedBy_70 : decode cX12_summedBy 70 = .ok (.iload_n 3, 1) := by decide +kernel
theorem dX12_summedBy_71 : decode cX12_summedBy 71 = .ok (.iconst 1, 1) := by decide +kernel
theorem dX12_summedBy_72 : decode cX12_summedBy 72 = .ok (.iadd, 1) := by decide +kernel
theorem dX12_summedBy_73 : decode cX12_summedBy 73 = .ok (.iaload, 1) := by decide +kernel
theorem dX12_summedBy_74 : decode cX12_summedBy 74 = .ok (.invokevirtual 352, 3) := by decide +kernel
theorem dX12_summedBy_77 : decode cX12_summedBy 77 = .ok (.lreturn, 1) := by decide +kernel
theorem dX12_summedBy_78 : decode cX12_summedBy 78 = .ok (.iinc 2 1, 3) := by decide +kernel
theorem dX12_summedBy_81 : decode cX12_summedBy 81 = .ok (.goto (-79), 3) := by decide +kernel
theorem dX12_summedBy_84 : decode cX12_summedBy 84 = .ok (.lconst 0, 1) := by decide +kernel
theorem dX12_summedBy_85 : decode cX12_summedBy 85 = .ok (.lreturn, 1) := by decide +kernel
theorem dX12_sumOf_0 : decode cX12_sumOf 0 = .ok (.aload_n 0, 1) := by decide +kernel
theorem dX12_sumOf_1 : decode cX12_sumOf 1 = .ok (.getfield 42, 3) := by decide +kernel
theorem dX12_sumOf_4 : decode cX12_sumOf 4 = .ok (.ifCond .ge 19, 3) := by decide +kernel
theorem dX12_sumOf_7 : decode cX12_sumOf 7 = .ok (.aload_n 0, 1) := by decide +kernel
theorem dX12_sumOf_8 : decode cX12_sumOf 8 = .ok (.getfield 39, 3) := by decide +kernel
theorem dX12_sumOf_11 : decode cX12_sumOf 11 = .ok (.bipush 11, 2) := by decide +kernel
theorem dX12_sumOf_13 : decode cX12_sumOf 13 = .ok (.iaload, 1) := by decide +kernel
theorem dX12_sumOf_14 : decode cX12_sumOf 14 = .ok (.ifCond .ne 7, 3) := by decide +kernel
theorem dX12_sumOf_17 : decode cX12_sumOf 17 = .ok (.lconst 1, 1) := by decide +kernel
theorem dX12_sumOf_18 : decode cX12_sumOf 18 = .ok (.goto 4, 3) := by decide +kernel
theorem dX12_sumOf_21 : decode cX12_sumOf 21 = .ok (.lconst 0, 1) := by decide +kernel
theorem dX12_sumOf_22 : decode cX12_sumOf 22 = .ok (.lreturn, 1) := by decide +kernel
theorem dX12_sumOf_23 : decode cX12_sumOf 23 = .ok (.aload_n 0, 1) := by decide +kernel
theorem dX12_sumOf_24 : decode cX12_sumOf 24 = .ok (.iload_n 2, 1) := by decide +kernel
theorem dX12_sumOf_25 : decode cX12_sumOf 25 = .ok (.iconst 0, 1) := by decide +kernel
theorem dX12_sumOf_26 : decode cX12_sumOf 26 = .ok (.invokevirtual 340, 3) := by decide +kernel
theorem dX12_sumOf_29 : decode cX12_sumOf 29 = .ok (.istore_n 3, 1) := by decide +kernel
theorem dX12_sumOf_30 : decode cX12_sumOf 30 = .ok (.aload_n 0, 1) := by decide +kernel
theorem dX12_sumOf_31 : decode cX12_sumOf 31 = .ok (.getfield 36, 3) := by decide +kernel
theorem dX12_sumOf_34 : decode cX12_sumOf 34 = .ok (.iconst 0, 1) := by decide +kernel
theorem dX12_sumOf_35 : decode cX12_sumOf 35 = .ok (.iload_n 1, 1) := by decide +kernel
theorem dX12_sumOf_36 : decode cX12_sumOf 36 = .ok (.i2l, 1) := by decide +kernel
theorem dX12_sumOf_37 : decode cX12_sumOf 37 = .ok (.lastore, 1) := by decide +kernel
theorem dX12_sumOf_38 : decode cX12_sumOf 38 = .ok (.aload_n 0, 1) := by decide +kernel
theorem dX12_sumOf_39 : decode cX12_sumOf 39 = .ok (.getfield 36, 3) := by decide +kernel
theorem dX12_sumOf_42 : decode cX12_sumOf 42 = .ok (.iconst 1, 1) := by decide +kernel
theorem dX12_sumOf_43 : decode cX12_sumOf 43 = .ok (.aload_n 0, 1) := by decide +kernel
theorem dX12_sumOf_44 : decode cX12_sumOf 44 = .ok (.getfield 39, 3) := by decide +kernel
theorem dX12_sumOf_47 : decode cX12_sumOf 47 = .ok (.bipush 14, 2) := by decide +kernel
theorem dX12_sumOf_49 : decode cX12_sumOf 49 = .ok (.iload_n 1, 1) := by decide +kernel
theorem dX12_sumOf_50 : decode cX12_sumOf 50 = .ok (.iadd, 1) := by decide +kernel
theorem dX12_sumOf_51 : decode cX12_sumOf 51 = .ok (.iaload, 1) := by decide +kernel
theorem dX12_sumOf_52 : decode cX12_sumOf 52 = .ok (.i2l, 1) := by decide +kernel
theorem dX12_sumOf_53 : decode cX12_sumOf 53 = .ok (.lastore, 1) := by decide +kernel
theorem dX12_sumOf_54 : decode cX12_sumOf 54 = .ok (.aload_n 0, 1) := by decide +kernel
theorem dX12_sumOf_55 : decode cX12_sumOf 55 = .ok (.getfield 36, 3) := by decide +kernel
theorem dX12_sumOf_58 : decode cX12_sumOf 58 = .ok (.iconst 2, 1) := by decide +kernel
theorem dX12_sumOf_59 : decode cX12_sumOf 59 = .ok (.aload_n 0, 1) := by decide +kernel
theorem dX12_sumOf_60 : decode cX12_sumOf 60 = .ok (.getfield 39, 3) := by decide +kernel
theorem dX12_sumOf_63 : decode cX12_sumOf 63 = .ok (.bipush 28, 2) := by decide +kernel
theorem dX12_sumOf_65 : decode cX12_sumOf 65 = .ok (.iload_n 1, 1) := by decide +kernel
theorem dX12_sumOf_66 : decode cX12_sumOf 66 = .ok (.iadd, 1) := by decide +kernel
theorem dX12_sumOf_67 : decode cX12_sumOf 67 = .ok (.iaload, 1) := by decide +kernel
theorem dX12_sumOf_68 : decode cX12_sumOf 68 = .ok (.i2l, 1) := by decide +kernel
theorem dX12_sumOf_69 : decode cX12_sumOf 69 = .ok (.lastore, 1) := by decide +kernel
theorem dX12_sumOf_70 : decode cX12_sumOf 70 = .ok (.aload_n 0, 1) := by decide +kernel
theorem dX12_sumOf_71 : decode cX12_sumOf 71 = .ok (.getfield 36, 3) := by decide +kernel
theorem dX12_sumOf_74 : decode cX12_sumOf 74 = .ok (.iconst 3, 1) := by decide +kernel
theorem dX12_sumOf_75 : decode cX12_sumOf 75 = .ok (.aload_n 0, 1) := by decide +kernel
theorem dX12_sumOf_76 : decode cX12_sumOf 76 = .ok (.getfield 39, 3) := by decide +kernel
theorem dX12_sumOf_79 : decode cX12_sumOf 79 = .ok (.bipush 35, 2) := by decide +kernel
theorem dX12_sumOf_81 : decode cX12_sumOf 81 = .ok (.iload_n 1, 1) := by decide +kernel
theorem dX12_sumOf_82 : decode cX12_sumOf 82 = .ok (.iadd, 1) := by decide +kernel
theorem dX12_sumOf_83 : decode cX12_sumOf 83 = .ok (.iaload, 1) := by decide +kernel
theorem dX12_sumOf_84 : decode cX12_sumOf 84 = .ok (.i2l, 1) := by decide +kernel
theorem dX12_sumOf_85 : decode cX12_sumOf 85 = .ok (.lastore, 1) := by decide +kernel
theorem dX12_sumOf_86 : decode cX12_sumOf 86 = .ok (.aload_n 0, 1) := by decide +kernel
theorem dX12_sumOf_87 : decode cX12_sumOf 87 = .ok (.getfield 36, 3) := by decide +kernel
theorem dX12_sumOf_90 : decode cX12_sumOf 90 = .ok (.iconst 4, 1) := by decide +kernel
theorem dX12_sumOf_91 : decode cX12_sumOf 91 = .ok (.aload_n 0, 1) := by decide +kernel
theorem dX12_sumOf_92 : decode cX12_sumOf 92 = .ok (.getfield 39, 3) := by decide +kernel
theorem dX12_sumOf_95 : decode cX12_sumOf 95 = .ok (.bipush 11, 2) := by decide +kernel
theorem dX12_sumOf_97 : decode cX12_sumOf 97 = .ok (.iaload, 1) := by decide +kernel
theorem dX12_sumOf_98 : decode cX12_sumOf 98 = .ok (.i2l, 1) := by decide +kernel
theorem dX12_sumOf_99 : decode cX12_sumOf 99 = .ok (.lastore, 1) := by decide +kernel
theorem dX12_sumOf_100 : decode cX12_sumOf 100 = .ok (.aload_n 0, 1) := by decide +kernel
theorem dX12_sumOf_101 : decode cX12_sumOf 101 = .ok (.getfield 36, 3) := by decide +kernel
theorem dX12_sumOf_104 : decode cX12_sumOf 104 = .ok (.iconst 5, 1) := by decide +kernel
theorem dX12_sumOf_105 : decode cX12_sumOf 105 = .ok (.aload_n 0, 1) := by decide +kernel
theorem dX12_sumOf_106 : decode cX12_sumOf 106 = .ok (.getfield 39, 3) := by decide +kernel
theorem dX12_sumOf_109 : decode cX12_sumOf 109 = .ok (.bipush 10, 2) := by decide +kernel
theorem dX12_sumOf_111 : decode cX12_sumOf 111 = .ok (.iaload, 1) := by decide +kernel
theorem dX12_sumOf_112 : decode cX12_sumOf 112 = .ok (.i2l, 1) := by decide +kernel
theorem dX12_sumOf_113 : decode cX12_sumOf 113 = .ok (.lastore, 1) := by decide +kernel
theorem dX12_sumOf_114 : decode cX12_sumOf 114 = .ok (.aload_n 0, 1) := by decide +kernel
theorem dX12_sumOf_115 : decode cX12_sumOf 115 = .ok (.getfield 36, 3) := by decide +kernel
theorem dX12_sumOf_118 : decode cX12_sumOf 118 = .ok (.bipush 6, 2) := by decide +kernel
theorem dX12_sumOf_120 : decode cX12_sumOf 120 = .ok (.iload_n 3, 1) := by decide +kernel
theorem dX12_sumOf_121 : decode cX12_sumOf 121 = .ok (.i2l, 1) := by decide +kernel
theorem dX12_sumOf_122 : decode cX12_sumOf 122 = .ok (.lastore, 1) := by decide +kernel
theorem dX12_sumOf_123 : decode cX12_sumOf 123 = .ok (.aload_n 0, 1) := by decide +kernel
theorem dX12_sumOf_124 : decode cX12_sumOf 124 = .ok (.getfield 36, 3) := by decide +kernel
theorem dX12_sumOf_127 : decode cX12_sumOf 127 = .ok (.bipush 7, 2) := by decide +kernel
theorem dX12_sumOf_129 : decode cX12_sumOf 129 = .ok (.aload_n 0, 1) := by decide +kernel
theorem dX12_sumOf_130 : decode cX12_sumOf 130 = .ok (.getfield 39, 3) := by decide +kernel
theorem dX12_sumOf_133 : decode cX12_sumOf 133 = .ok (.iconst 1, 1) := by decide +kernel
theorem dX12_sumOf_134 : decode cX12_sumOf 134 = .ok (.iaload, 1) := by decide +kernel
theorem dX12_sumOf_135 : decode cX12_sumOf 135 = .ok (.iload_n 3, 1) := by decide +kernel
theorem dX12_sumOf_136 : decode cX12_sumOf 136 = .ok (.isub, 1) := by decide +kernel
theorem dX12_sumOf_137 : decode cX12_sumOf 137 = .ok (.i2l, 1) := by decide +kernel
theorem dX12_sumOf_138 : decode cX12_sumOf 138 = .ok (.lastore, 1) := by decide +kernel
theorem dX12_sumOf_139 : decode cX12_sumOf 139 = .ok (.aload_n 0, 1) := by decide +kernel
theorem dX12_sumOf_140 : decode cX12_sumOf 140 = .ok (.getfield 36, 3) := by decide +kernel
theorem dX12_sumOf_143 : decode cX12_sumOf 143 = .ok (.bipush 8, 2) := by decide +kernel
theorem dX12_sumOf_145 : decode cX12_sumOf 145 = .ok (.iload_n 2, 1) := by decide +kernel
theorem dX12_sumOf_146 : decode cX12_sumOf 146 = .ok (.invokestatic 337, 3) := by decide +kernel
theorem dX12_sumOf_149 : decode cX12_sumOf 149 = .ok (.i2l, 1) := by decide +kernel
theorem dX12_sumOf_150 : decode cX12_sumOf 150 = .ok (.lastore, 1) := by decide +kernel
theorem dX12_sumOf_151 : decode cX12_sumOf 151 = .ok (.aload_n 0, 1) := by decide +kernel
theorem dX12_sumOf_152 : decode cX12_sumOf 152 = .ok (.getfield 36, 3) := by decide +kernel
theorem dX12_sumOf_155 : decode cX12_sumOf 155 = .ok (.bipush 9, 2) := by decide +kernel
theorem dX12_sumOf_157 : decode cX12_sumOf 157 = .ok (.aload_n 0, 1) := by decide +kernel
theorem dX12_sumOf_158 : decode cX12_sumOf 158 = .ok (.aload_n 0, 1) := by decide +kernel
theorem dX12_sumOf_159 : decode cX12_sumOf 159 = .ok (.getfield 39, 3) := by decide +kernel
theorem dX12_sumOf_162 : decode cX12_sumOf 162 = .ok (.bipush 11, 2) := by decide +kernel
theorem dX12_sumOf_164 : decode cX12_sumOf 164 = .ok (.iaload, 1) := by decide +kernel
theorem dX12_sumOf_165 : decode cX12_sumOf 165 = .ok (.invokevirtual 334, 3) := by decide +kernel
theorem dX12_sumOf_168 : decode cX12_sumOf 168 = .ok (.iload_n 2, 1) := by decide +kernel
theorem dX12_sumOf_169 : decode cX12_sumOf 169 = .ok (.iconst (-1), 1) := by decide +kernel
theorem dX12_sumOf_170 : decode cX12_sumOf 170 = .ok (.ixor, 1) := by decide +kernel
theorem dX12_sumOf_171 : decode cX12_sumOf 171 = .ok (.iand, 1) := by decide +kernel
theorem dX12_sumOf_172 : decode cX12_sumOf 172 = .ok (.invokestatic 337, 3) := by decide +kernel
theorem dX12_sumOf_175 : decode cX12_sumOf 175 = .ok (.i2l, 1) := by decide +kernel
theorem dX12_sumOf_176 : decode cX12_sumOf 176 = .ok (.lastore, 1) := by decide +kernel
theorem dX12_sumOf_177 : decode cX12_sumOf 177 = .ok (.aload_n 0, 1) := by decide +kernel
theorem dX12_sumOf_178 : decode cX12_sumOf 178 = .ok (.getfield 36, 3) := by decide +kernel
theorem dX12_sumOf_181 : decode cX12_sumOf 181 = .ok (.bipush 10, 2) := by decide +kernel
theorem dX12_sumOf_183 : decode cX12_sumOf 183 = .ok (.aload_n 0, 1) := by decide +kernel
theorem dX12_sumOf_184 : decode cX12_sumOf 184 = .ok (.iload_n 2, 1) := by decide +kernel
theorem dX12_sumOf_185 : decode cX12_sumOf 185 = .ok (.iconst 1, 1) := by decide +kernel
theorem dX12_sumOf_186 : decode cX12_sumOf 186 = .ok (.iload_n 1, 1) := by decide +kernel
theorem dX12_sumOf_187 : decode cX12_sumOf 187 = .ok (.ishl, 1) := by decide +kernel
theorem dX12_sumOf_188 : decode cX12_sumOf 188 = .ok (.ior, 1) := by decide +kernel
theorem dX12_sumOf_189 : decode cX12_sumOf 189 = .ok (.iconst 0, 1) := by decide +kernel
theorem dX12_sumOf_190 : decode cX12_sumOf 190 = .ok (.invokevirtual 340, 3) := by decide +kernel
theorem dX12_sumOf_193 : decode cX12_sumOf 193 = .ok (.iload_n 3, 1) := by decide +kernel
theorem dX12_sumOf_194 : decode cX12_sumOf 194 = .ok (.isub, 1) := by decide +kernel
theorem dX12_sumOf_195 : decode cX12_sumOf 195 = .ok (.i2l, 1) := by decide +kernel
theorem dX12_sumOf_196 : decode cX12_sumOf 196 = .ok (.lastore, 1) := by decide +kernel
theorem dX12_sumOf_197 : decode cX12_sumOf 197 = .ok (.aload_n 0, 1) := by decide +kernel
theorem dX12_sumOf_198 : decode cX12_sumOf 198 = .ok (.getfield 36, 3) := by decide +kernel
theorem dX12_sumOf_201 : decode cX12_sumOf 201 = .ok (.bipush 11, 2) := by decide +kernel
theorem dX12_sumOf_203 : decode cX12_sumOf 203 = .ok (.aload_n 0, 1) := by decide +kernel
theorem dX12_sumOf_204 : decode cX12_sumOf 204 = .ok (.invokevirtual 317, 3) := by decide +kernel
theorem dX12_sumOf_207 : decode cX12_sumOf 207 = .ok (.ifCond .eq 7, 3) := by decide +kernel
theorem dX12_sumOf_210 : decode cX12_sumOf 210 = .ok (.lconst 1, 1) := by decide +kernel
theorem dX12_sumOf_211 : decode cX12_sumOf 211 = .ok (.goto 4, 3) := by decide +kernel
theorem dX12_sumOf_214 : decode cX12_sumOf 214 = .ok (.lconst 0, 1) := by decide +kernel
theorem dX12_sumOf_215 : decode cX12_sumOf 215 = .ok (.lastore, 1) := by decide +kernel
theorem dX12_sumOf_216 : decode cX12_sumOf 216 = .ok (.aload_n 0, 1) := by decide +kernel
theorem dX12_sumOf_217 : decode cX12_sumOf 217 = .ok (.aload_n 0, 1) := by decide +kernel
theorem dX12_sumOf_218 : decode cX12_sumOf 218 = .ok (.getfield 42, 3) := by decide +kernel
theorem dX12_sumOf_221 : decode cX12_sumOf 221 = .ok (.invokevirtual 356, 3) := by decide +kernel
theorem dX12_sumOf_224 : decode cX12_sumOf 224 = .ok (.lreturn, 1) := by decide +kernel
theorem dX12_nextAboard_0 : decode cX12_nextAboard 0 = .ok (.iconst (-1), 1) := by decide +kernel
theorem dX12_nextAboard_1 : decode cX12_nextAboard 1 = .ok (.istore_n 2, 1) := by decide +kernel
theorem dX12_nextAboard_2 : decode cX12_nextAboard 2 = .ok (.lconst 0, 1) := by decide +kernel
theorem dX12_nextAboard_3 : decode cX12_nextAboard 3 = .ok (.lstore_n 3, 1) := by decide +kernel
theorem dX12_nextAboard_4 : decode cX12_nextAboard 4 = .ok (.iconst 0, 1) := by decide +kernel
theorem dX12_nextAboard_5 : decode cX12_nextAboard 5 = .ok (.istore 5, 2) := by decide +kernel
theorem dX12_nextAboard_7 : decode cX12_nextAboard 7 = .ok (.iload 5, 2) := by decide +kernel
theorem dX12_nextAboard_9 : decode cX12_nextAboard 9 = .ok (.aload_n 0, 1) := by decide +kernel
theorem dX12_nextAboard_10 : decode cX12_nextAboard 10 = .ok (.getfield 39, 3) := by decide +kernel
theorem dX12_nextAboard_13 : decode cX12_nextAboard 13 = .ok (.iconst 4, 1) := by decide +kernel
theorem dX12_nextAboard_14 : decode cX12_nextAboard 14 = .ok (.iaload, 1) := by decide +kernel
theorem dX12_nextAboard_15 : decode cX12_nextAboard 15 = .ok (.if_icmp .ge 59, 3) := by decide +kernel
theorem dX12_nextAboard_18 : decode cX12_nextAboard 18 = .ok (.iload_n 1, 1) := by decide +kernel
theorem dX12_nextAboard_19 : decode cX12_nextAboard 19 = .ok (.iload 5, 2) := by decide +kernel
theorem dX12_nextAboard_21 : decode cX12_nextAboard 21 = .ok (.invokestatic 308, 3) := by decide +kernel
theorem dX12_nextAboard_24 : decode cX12_nextAboard 24 = .ok (.ifCond .ne 44, 3) := by decide +kernel
theorem dX12_nextAboard_27 : decode cX12_nextAboard 27 = .ok (.aload_n 0, 1) := by decide +kernel
theorem dX12_nextAboard_28 : decode cX12_nextAboard 28 = .ok (.iload_n 1, 1) := by decide +kernel
theorem dX12_nextAboard_29 : decode cX12_nextAboard 29 = .ok (.iconst 1, 1) := by decide +kernel
theorem dX12_nextAboard_30 : decode cX12_nextAboard 30 = .ok (.iload 5, 2) := by decide +kernel
theorem dX12_nextAboard_32 : decode cX12_nextAboard 32 = .ok (.ishl, 1) := by decide +kernel
theorem dX12_nextAboard_33 : decode cX12_nextAboard 33 = .ok (.ior, 1) := by decide +kernel
theorem dX12_nextAboard_34 : decode cX12_nextAboard 34 = .ok (.invokevirtual 343, 3) := by decide +kernel
theorem dX12_nextAboard_37 : decode cX12_nextAboard 37 = .ok (.ifCond .ne 6, 3) := by decide +kernel
theorem dX12_nextAboard_40 : decode cX12_nextAboard 40 = .ok (.goto 28, 3) := by decide +kernel
theorem dX12_nextAboard_43 : decode cX12_nextAboard 43 = .ok (.aload_n 0, 1) := by decide +kernel
theorem dX12_nextAboard_44 : decode cX12_nextAboard 44 = .ok (.iload 5, 2) := by decide +kernel
theorem dX12_nextAboard_46 : decode cX12_nextAboard 46 = .ok (.iload_n 1, 1) := by decide +kernel
theorem dX12_nextAboard_47 : decode cX12_nextAboard 47 = .ok (.invokevirtual 360, 3) := by decide +kernel
theorem dX12_nextAboard_50 : decode cX12_nextAboard 50 = .ok (.lstore 6, 2) := by decide +kernel
theorem dX12_nextAboard_52 : decode cX12_nextAboard 52 = .ok (.lload 6, 2) := by decide +kernel
theorem dX12_nextAboard_54 : decode cX12_nextAboard 54 = .ok (.lload_n 3, 1) := by decide +kernel
theorem dX12_nextAboard_55 : decode cX12_nextAboard 55 = .ok (.lcmp, 1) := by decide +kernel
theorem dX12_nextAboard_56 : decode cX12_nextAboard 56 = .ok (.ifCond .gt 6, 3) := by decide +kernel
theorem dX12_nextAboard_59 : decode cX12_nextAboard 59 = .ok (.goto 9, 3) := by decide +kernel
theorem dX12_nextAboard_62 : decode cX12_nextAboard 62 = .ok (.iload 5, 2) := by decide +kernel
theorem dX12_nextAboard_64 : decode cX12_nextAboard 64 = .ok (.istore_n 2, 1) := by decide +kernel
theorem dX12_nextAboard_65 : decode cX12_nextAboard 65 = .ok (.lload 6, 2) := by decide +kernel
theorem dX12_nextAboard_67 : decode cX12_nextAboard 67 = .ok (.lstore_n 3, 1) := by decide +kernel
theorem dX12_nextAboard_68 : decode cX12_nextAboard 68 = .ok (.iinc 5 1, 3) := by decide +kernel
theorem dX12_nextAboard_71 : decode cX12_nextAboard 71 = .ok (.goto (-64), 3) := by decide +kernel
theorem dX12_nextAboard_74 : decode cX12_nextAboard 74 = .ok (.iload_n 2, 1) := by decide +kernel
theorem dX12_nextAboard_75 : decode cX12_nextAboard 75 = .ok (.ireturn, 1) := by decide +kernel
theorem dX12_passes_0 : decode cX12_passes 0 = .ok (.iconst 0, 1) := by decide +kernel
theorem dX12_passes_1 : decode cX12_passes 1 = .ok (.istore_n 1, 1) := by decide +kernel
theorem dX12_passes_2 : decode cX12_passes 2 = .ok (.aload_n 0, 1) := by decide +kernel
theorem dX12_passes_3 : decode cX12_passes 3 = .ok (.iconst 0, 1) := by decide +kernel
theorem dX12_passes_4 : decode cX12_passes 4 = .ok (.invokevirtual 364, 3) := by decide +kernel
theorem dX12_passes_7 : decode cX12_passes 7 = .ok (.istore_n 2, 1) := by decide +kernel
theorem dX12_passes_8 : decode cX12_passes 8 = .ok (.iload_n 2, 1) := by decide +kernel
theorem dX12_passes_9 : decode cX12_passes 9 = .ok (.ifCond .lt 18, 3) := by decide +kernel
theorem dX12_passes_12 : decode cX12_passes 12 = .ok (.iload_n 1, 1) := by decide +kernel
theorem dX12_passes_13 : decode cX12_passes 13 = .ok (.iconst 1, 1) := by decide +kernel
theorem dX12_passes_14 : decode cX12_passes 14 = .ok (.iload_n 2, 1) := by decide +kernel
theorem dX12_passes_15 : decode cX12_passes 15 = .ok (.ishl, 1) := by decide +kernel
theorem dX12_passes_16 : decode cX12_passes 16 = .ok (.ior, 1) := by decide +kernel
theorem dX12_passes_17 : decode cX12_passes 17 = .ok (.istore_n 1, 1) := by decide +kernel
theorem dX12_passes_18 : decode cX12_passes 18 = .ok (.aload_n 0, 1) := by decide +kernel
theorem dX12_passes_19 : decode cX12_passes 19 = .ok (.iload_n 1, 1) := by decide +kernel
theorem dX12_passes_20 : decode cX12_passes 20 = .ok (.invokevirtual 364, 3) := by decide +kernel
theorem dX12_passes_23 : decode cX12_passes 23 = .ok (.istore_n 2, 1) := by decide +kernel
theorem dX12_passes_24 : decode cX12_passes 24 = .ok (.goto (-16), 3) := by decide +kernel
theorem dX12_passes_27 : decode cX12_passes 27 = .ok (.iload_n 1, 1) := by decide +kernel
theorem dX12_passes_28 : decode cX12_passes 28 = .ok (.ifCond .ne 11, 3) := by decide +kernel
theorem dX12_passes_31 : decode cX12_passes 31 = .ok (.aload_n 0, 1) := by decide +kernel
theorem dX12_passes_32 : decode cX12_passes 32 = .ok (.iconst 0, 1) := by decide +kernel
theorem dX12_passes_33 : decode cX12_passes 33 = .ok (.invokevirtual 343, 3) := by decide +kernel
theorem dX12_passes_36 : decode cX12_passes 36 = .ok (.ifCond .eq 12, 3) := by decide +kernel
theorem dX12_passes_39 : decode cX12_passes 39 = .ok (.aload_n 0, 1) := by decide +kernel
theorem dX12_passes_40 : decode cX12_passes 40 = .ok (.iload_n 1, 1) := by decide +kernel
theorem dX12_passes_41 : decode cX12_passes 41 = .ok (.invokevirtual 367, 3) := by decide +kernel
theorem dX12_passes_44 : decode cX12_passes 44 = .ok (.pop, 1) := by decide +kernel
theorem dX12_passes_45 : decode cX12_passes 45 = .ok (.goto 14, 3) := by decide +kernel
theorem dX12_passes_48 : decode cX12_passes 48 = .ok (.aload_n 0, 1) := by decide +kernel
theorem dX12_passes_49 : decode cX12_passes 49 = .ok (.getfield 39, 3) := by decide +kernel
theorem dX12_passes_52 : decode cX12_passes 52 = .ok (.bipush 10, 2) := by decide +kernel
theorem dX12_passes_54 : decode cX12_passes 54 = .ok (.dup2, 1) := by decide +kernel
theorem dX12_passes_55 : decode cX12_passes 55 = .ok (.iaload, 1) := by decide +kernel
theorem dX12_passes_56 : decode cX12_passes 56 = .ok (.iconst 1, 1) := by decide +kernel
theorem dX12_passes_57 : decode cX12_passes 57 = .ok (.iadd, 1) := by decide +kernel
theorem dX12_passes_58 : decode cX12_passes 58 = .ok (.iastore, 1) := by decide +kernel
theorem dX12_passes_59 : decode cX12_passes 59 = .ok (.iload_n 1, 1) := by decide +kernel
theorem dX12_passes_60 : decode cX12_passes 60 = .ok (.ireturn, 1) := by decide +kernel
theorem dX12_keepsAct_0 : decode cX12_keepsAct 0 = .ok (.aload_n 0, 1) := by decide +kernel
theorem dX12_keepsAct_1 : decode cX12_keepsAct 1 = .ok (.getfield 279, 3) := by decide +kernel
theorem dX12_keepsAct_4 : decode cX12_keepsAct 4 = .ok (.bipush 20, 2) := by decide +kernel
theorem dX12_keepsAct_6 : decode cX12_keepsAct 6 = .ok (.if_icmp .ne 44, 3) := by decide +kernel
theorem dX12_keepsAct_9 : decode cX12_keepsAct 9 = .ok (.bipush 18, 2) := by decide +kernel
theorem dX12_keepsAct_11 : decode cX12_keepsAct 11 = .ok (.istore_n 1, 1) := by decide +kernel
theorem dX12_keepsAct_12 : decode cX12_keepsAct 12 = .ok (.iload_n 1, 1) := by decide +kernel
theorem dX12_keepsAct_13 : decode cX12_keepsAct 13 = .ok (.sipush 360, 3) := by decide +kernel
theorem dX12_keepsAct_16 : decode cX12_keepsAct 16 = .ok (.if_icmp .ge 24, 3) := by decide +kernel
theorem dX12_keepsAct_19 : decode cX12_keepsAct 19 = .ok (.aload_n 0, 1) := by decide +kernel
theorem dX12_keepsAct_20 : decode cX12_keepsAct 20 = .ok (.getfield 46, 3) := by decide +kernel
theorem dX12_keepsAct_23 : decode cX12_keepsAct 23 = .ok (.iload_n 1, 1) := by decide +kernel
theorem dX12_keepsAct_24 : decode cX12_keepsAct 24 = .ok (.bipush 18, 2) := by decide +kernel
theorem dX12_keepsAct_26 : decode cX12_keepsAct 26 = .ok (.isub, 1) := by decide +kernel
theorem dX12_keepsAct_27 : decode cX12_keepsAct 27 = .ok (.aload_n 0, 1) := by decide +kernel
theorem dX12_keepsAct_28 : decode cX12_keepsAct 28 = .ok (.getfield 46, 3) := by decide +kernel
theorem dX12_keepsAct_31 : decode cX12_keepsAct 31 = .ok (.iload_n 1, 1) := by decide +kernel
theorem dX12_keepsAct_32 : decode cX12_keepsAct 32 = .ok (.iaload, 1) := by decide +kernel
theorem dX12_keepsAct_33 : decode cX12_keepsAct 33 = .ok (.iastore, 1) := by decide +kernel
theorem dX12_keepsAct_34 : decode cX12_keepsAct 34 = .ok (.iinc 1 1, 3) := by decide +kernel
theorem dX12_keepsAct_37 : decode cX12_keepsAct 37 = .ok (.goto (-25), 3) := by decide +kernel
theorem dX12_keepsAct_40 : decode cX12_keepsAct 40 = .ok (.aload_n 0, 1) := by decide +kernel
theorem dX12_keepsAct_41 : decode cX12_keepsAct 41 = .ok (.dup, 1) := by decide +kernel
theorem dX12_keepsAct_42 : decode cX12_keepsAct 42 = .ok (.getfield 279, 3) := by decide +kernel
theorem dX12_keepsAct_45 : decode cX12_keepsAct 45 = .ok (.iconst 1, 1) := by decide +kernel
theorem dX12_keepsAct_46 : decode cX12_keepsAct 46 = .ok (.isub, 1) := by decide +kernel
theorem dX12_keepsAct_47 : decode cX12_keepsAct 47 = .ok (.putfield 279, 3) := by decide +kernel
theorem dX12_keepsAct_50 : decode cX12_keepsAct 50 = .ok (.iconst 0, 1) := by decide +kernel
theorem dX12_keepsAct_51 : decode cX12_keepsAct 51 = .ok (.istore_n 1, 1) := by decide +kernel
theorem dX12_keepsAct_52 : decode cX12_keepsAct 52 = .ok (.iload_n 1, 1) := by decide +kernel
theorem dX12_keepsAct_53 : decode cX12_keepsAct 53 = .ok (.bipush 18, 2) := by decide +kernel
theorem dX12_keepsAct_55 : decode cX12_keepsAct 55 = .ok (.if_icmp .ge 32, 3) := by decide +kernel
theorem dX12_keepsAct_58 : decode cX12_keepsAct 58 = .ok (.aload_n 0, 1) := by decide +kernel
theorem dX12_keepsAct_59 : decode cX12_keepsAct 59 = .ok (.getfield 46, 3) := by decide +kernel
theorem dX12_keepsAct_62 : decode cX12_keepsAct 62 = .ok (.bipush 18, 2) := by decide +kernel
theorem dX12_keepsAct_64 : decode cX12_keepsAct 64 = .ok (.aload_n 0, 1) := by decide +kernel
theorem dX12_keepsAct_65 : decode cX12_keepsAct 65 = .ok (.getfield 279, 3) := by decide +kernel
theorem dX12_keepsAct_68 : decode cX12_keepsAct 68 = .ok (.imul, 1) := by decide +kernel
theorem dX12_keepsAct_69 : decode cX12_keepsAct 69 = .ok (.iload_n 1, 1) := by decide +kernel
theorem dX12_keepsAct_70 : decode cX12_keepsAct 70 = .ok (.iadd, 1) := by decide +kernel
theorem dX12_keepsAct_71 : decode cX12_keepsAct 71 = .ok (.aload_n 0, 1) := by decide +kernel
theorem dX12_keepsAct_72 : decode cX12_keepsAct 72 = .ok (.getfield 39, 3) := by decide +kernel
theorem dX12_keepsAct_75 : decode cX12_keepsAct 75 = .ok (.bipush 10, 2) := by decide +kernel
theorem dX12_keepsAct_77 : decode cX12_keepsAct 77 = .ok (.iload_n 1, 1) := by decide +kernel
theorem dX12_keepsAct_78 : decode cX12_keepsAct 78 = .ok (.iadd, 1) := by decide +kernel
theorem dX12_keepsAct_79 : decode cX12_keepsAct 79 = .ok (.iaload, 1) := by decide +kernel
theorem dX12_keepsAct_80 : decode cX12_keepsAct 80 = .ok (.iastore, 1) := by decide +kernel
theorem dX12_keepsAct_81 : decode cX12_keepsAct 81 = .ok (.iinc 1 1, 3) := by decide +kernel
theorem dX12_keepsAct_84 : decode cX12_keepsAct 84 = .ok (.goto (-32), 3) := by decide +kernel
theorem dX12_keepsAct_87 : decode cX12_keepsAct 87 = .ok (.aload_n 0, 1) := by decide +kernel
theorem dX12_keepsAct_88 : decode cX12_keepsAct 88 = .ok (.dup, 1) := by decide +kernel
theorem dX12_keepsAct_89 : decode cX12_keepsAct 89 = .ok (.getfield 279, 3) := by decide +kernel
theorem dX12_keepsAct_92 : decode cX12_keepsAct 92 = .ok (.iconst 1, 1) := by decide +kernel
theorem dX12_keepsAct_93 : decode cX12_keepsAct 93 = .ok (.iadd, 1) := by decide +kernel
theorem dX12_keepsAct_94 : decode cX12_keepsAct 94 = .ok (.putfield 279, 3) := by decide +kernel
theorem dX12_keepsAct_97 : decode cX12_keepsAct 97 = .ok (.return_, 1) := by decide +kernel
theorem dX12_undo_0 : decode cX12_undo 0 = .ok (.aload_n 0, 1) := by decide +kernel
theorem dX12_undo_1 : decode cX12_undo 1 = .ok (.getfield 279, 3) := by decide +kernel
theorem dX12_undo_4 : decode cX12_undo 4 = .ok (.ifCond .ne 5, 3) := by decide +kernel
theorem dX12_undo_7 : decode cX12_undo 7 = .ok (.iconst (-1), 1) := by decide +kernel
theorem dX12_undo_8 : decode cX12_undo 8 = .ok (.ireturn, 1) := by decide +kernel
theorem dX12_undo_9 : decode cX12_undo 9 = .ok (.aload_n 0, 1) := by decide +kernel
theorem dX12_undo_10 : decode cX12_undo 10 = .ok (.dup, 1) := by decide +kernel
theorem dX12_undo_11 : decode cX12_undo 11 = .ok (.getfield 279, 3) := by decide +kernel
theorem dX12_undo_14 : decode cX12_undo 14 = .ok (.iconst 1, 1) := by decide +kernel
theorem dX12_undo_15 : decode cX12_undo 15 = .ok (.isub, 1) := by decide +kernel
theorem dX12_undo_16 : decode cX12_undo 16 = .ok (.putfield 279, 3) := by decide +kernel
theorem dX12_undo_19 : decode cX12_undo 19 = .ok (.iconst 0, 1) := by decide +kernel
theorem dX12_undo_20 : decode cX12_undo 20 = .ok (.istore_n 1, 1) := by decide +kernel
theorem dX12_undo_21 : decode cX12_undo 21 = .ok (.iload_n 1, 1) := by decide +kernel
theorem dX12_undo_22 : decode cX12_undo 22 = .ok (.bipush 18, 2) := by decide +kernel
theorem dX12_undo_24 : decode cX12_undo 24 = .ok (.if_icmp .ge 32, 3) := by decide +kernel
theorem dX12_undo_27 : decode cX12_undo 27 = .ok (.aload_n 0, 1) := by decide +kernel
theorem dX12_undo_28 : decode cX12_undo 28 = .ok (.getfield 39, 3) := by decide +kernel
theorem dX12_undo_31 : decode cX12_undo 31 = .ok (.bipush 10, 2) := by decide +kernel
theorem dX12_undo_33 : decode cX12_undo 33 = .ok (.iload_n 1, 1) := by decide +kernel
theorem dX12_undo_34 : decode cX12_undo 34 = .ok (.iadd, 1) := by decide +kernel
theorem dX12_undo_35 : decode cX12_undo 35 = .ok (.aload_n 0, 1) := by decide +kernel
theorem dX12_undo_36 : decode cX12_undo 36 = .ok (.getfield 46, 3) := by decide +kernel
theorem dX12_undo_39 : decode cX12_undo 39 = .ok (.bipush 18, 2) := by decide +kernel
theorem dX12_undo_41 : decode cX12_undo 41 = .ok (.aload_n 0, 1) := by decide +kernel
theorem dX12_undo_42 : decode cX12_undo 42 = .ok (.getfield 279, 3) := by decide +kernel
theorem dX12_undo_45 : decode cX12_undo 45 = .ok (.imul, 1) := by decide +kernel
theorem dX12_undo_46 : decode cX12_undo 46 = .ok (.iload_n 1, 1) := by decide +kernel
theorem dX12_undo_47 : decode cX12_undo 47 = .ok (.iadd, 1) := by decide +kernel
theorem dX12_undo_48 : decode cX12_undo 48 = .ok (.iaload, 1) := by decide +kernel
theorem dX12_undo_49 : decode cX12_undo 49 = .ok (.iastore, 1) := by decide +kernel
theorem dX12_undo_50 : decode cX12_undo 50 = .ok (.iinc 1 1, 3) := by decide +kernel
theorem dX12_undo_53 : decode cX12_undo 53 = .ok (.goto (-32), 3) := by decide +kernel
theorem dX12_undo_56 : decode cX12_undo 56 = .ok (.aload_n 0, 1) := by decide +kernel
theorem dX12_undo_57 : decode cX12_undo 57 = .ok (.getfield 279, 3) := by decide +kernel
theorem dX12_undo_60 : decode cX12_undo 60 = .ok (.ireturn, 1) := by decide +kernel
theorem dX12_trip_0 : decode cX12_trip 0 = .ok (.aload_n 0, 1) := by decide +kernel
theorem dX12_trip_1 : decode cX12_trip 1 = .ok (.invokevirtual 297, 3) := by decide +kernel
theorem dX12_trip_4 : decode cX12_trip 4 = .ok (.ifCond .eq 16, 3) := by decide +kernel
theorem dX12_trip_7 : decode cX12_trip 7 = .ok (.aload_n 0, 1) := by decide +kernel
theorem dX12_trip_8 : decode cX12_trip 8 = .ok (.getfield 39, 3) := by decide +kernel
theorem dX12_trip_11 : decode cX12_trip 11 = .ok (.bipush 10, 2) := by decide +kernel
theorem dX12_trip_13 : decode cX12_trip 13 = .ok (.iaload, 1) := by decide +kernel
theorem dX12_trip_14 : decode cX12_trip 14 = .ok (.sipush 999, 3) := by decide +kernel
theorem dX12_trip_17 : decode cX12_trip 17 = .ok (.if_icmp .ne 5, 3) := by decide +kernel
theorem dX12_trip_20 : decode cX12_trip 20 = .ok (.iconst (-1), 1) := by decide +kernel
theorem dX12_trip_21 : decode cX12_trip 21 = .ok (.ireturn, 1) := by decide +kernel
theorem dX12_trip_22 : decode cX12_trip 22 = .ok (.aload_n 0, 1) := by decide +kernel
theorem dX12_trip_23 : decode cX12_trip 23 = .ok (.invokevirtual 370, 3) := by decide +kernel
theorem dX12_trip_26 : decode cX12_trip 26 = .ok (.aload_n 0, 1) := by decide +kernel
theorem dX12_trip_27 : decode cX12_trip 27 = .ok (.invokevirtual 373, 3) := by decide +kernel
theorem dX12_trip_30 : decode cX12_trip 30 = .ok (.ireturn, 1) := by decide +kernel
theorem dX12_cross_0 : decode cX12_cross 0 = .ok (.aload_n 0, 1) := by decide +kernel
theorem dX12_cross_1 : decode cX12_cross 1 = .ok (.iload_n 1, 1) := by decide +kernel
theorem dX12_cross_2 : decode cX12_cross 2 = .ok (.invokevirtual 376, 3) := by decide +kernel
theorem dX12_cross_5 : decode cX12_cross 5 = .ok (.ifCond .eq 24, 3) := by decide +kernel
theorem dX12_cross_8 : decode cX12_cross 8 = .ok (.aload_n 0, 1) := by decide +kernel
theorem dX12_cross_9 : decode cX12_cross 9 = .ok (.getfield 39, 3) := by decide +kernel
theorem dX12_cross_12 : decode cX12_cross 12 = .ok (.bipush 10, 2) := by decide +kernel
theorem dX12_cross_14 : decode cX12_cross 14 = .ok (.iaload, 1) := by decide +kernel
theorem dX12_cross_15 : decode cX12_cross 15 = .ok (.sipush 999, 3) := by decide +kernel
theorem dX12_cross_18 : decode cX12_cross 18 = .ok (.if_icmp .eq 11, 3) := by decide +kernel
theorem dX12_cross_21 : decode cX12_cross 21 = .ok (.aload_n 0, 1) := by decide +kernel
theorem dX12_cross_22 : decode cX12_cross 22 = .ok (.iload_n 1, 1) := by decide +kernel
theorem dX12_cross_23 : decode cX12_cross 23 = .ok (.invokevirtual 343, 3) := by decide +kernel
theorem dX12_cross_26 : decode cX12_cross 26 = .ok (.ifCond .ne 5, 3) := by decide +kernel
theorem dX12_cross_29 : decode cX12_cross 29 = .ok (.iconst (-1), 1) := by decide +kernel
theorem dX12_cross_30 : decode cX12_cross 30 = .ok (.ireturn, 1) := by decide +kernel
theorem dX12_cross_31 : decode cX12_cross 31 = .ok (.aload_n 0, 1) := by decide +kernel
theorem dX12_cross_32 : decode cX12_cross 32 = .ok (.invokevirtual 370, 3) := by decide +kernel
theorem dX12_cross_35 : decode cX12_cross 35 = .ok (.aload_n 0, 1) := by decide +kernel
theorem dX12_cross_36 : decode cX12_cross 36 = .ok (.iload_n 1, 1) := by decide +kernel
theorem dX12_cross_37 : decode cX12_cross 37 = .ok (.invokevirtual 367, 3) := by decide +kernel
theorem dX12_cross_40 : decode cX12_cross 40 = .ok (.ifCond .eq 7, 3) := by decide +kernel
theorem dX12_cross_43 : decode cX12_cross 43 = .ok (.iconst 1, 1) := by decide +kernel
theorem dX12_cross_44 : decode cX12_cross 44 = .ok (.goto 4, 3) := by decide +kernel
theorem dX12_cross_47 : decode cX12_cross 47 = .ok (.iconst 0, 1) := by decide +kernel
theorem dX12_cross_48 : decode cX12_cross 48 = .ok (.ireturn, 1) := by decide +kernel
theorem dX12_toss_0 : decode cX12_toss 0 = .ok (.aload_n 0, 1) := by decide +kernel
theorem dX12_toss_1 : decode cX12_toss 1 = .ok (.iload_n 1, 1) := by decide +kernel
theorem dX12_toss_2 : decode cX12_toss 2 = .ok (.invokevirtual 349, 3) := by decide +kernel
theorem dX12_toss_5 : decode cX12_toss 5 = .ok (.ifCond .eq 22, 3) := by decide +kernel
theorem dX12_toss_8 : decode cX12_toss 8 = .ok (.iload_n 2, 1) := by decide +kernel
theorem dX12_toss_9 : decode cX12_toss 9 = .ok (.i2l, 1) := by decide +kernel
theorem dX12_toss_10 : decode cX12_toss 10 = .ok (.lconst 1, 1) := by decide +kernel
theorem dX12_toss_11 : decode cX12_toss 11 = .ok (.aload_n 0, 1) := by decide +kernel
theorem dX12_toss_12 : decode cX12_toss 12 = .ok (.getfield 39, 3) := by decide +kernel
theorem dX12_toss_15 : decode cX12_toss 15 = .ok (.bipush 14, 2) := by decide +kernel
theorem dX12_toss_17 : decode cX12_toss 17 = .ok (.iload_n 1, 1) := by decide +kernel
theorem dX12_toss_18 : decode cX12_toss 18 = .ok (.iadd, 1) := by decide +kernel
theorem dX12_toss_19 : decode cX12_toss 19 = .ok (.iaload, 1) := by decide +kernel
theorem dX12_toss_20 : decode cX12_toss 20 = .ok (.i2l, 1) := by decide +kernel
theorem dX12_toss_21 : decode cX12_toss 21 = .ok (.invokestatic 130, 3) := by decide +kernel
theorem dX12_toss_24 : decode cX12_toss 24 = .ok (.ifCond .ne 5, 3) := by decide +kernel
theorem dX12_toss_27 : decode cX12_toss 27 = .ok (.iconst (-1), 1) := by decide +kernel
theorem dX12_toss_28 : decode cX12_toss 28 = .ok (.ireturn, 1) := by decide +kernel
theorem dX12_toss_29 : decode cX12_toss 29 = .ok (.aload_n 0, 1) := by decide +kernel
theorem dX12_toss_30 : decode cX12_toss 30 = .ok (.invokevirtual 370, 3) := by decide +kernel
theorem dX12_toss_33 : decode cX12_toss 33 = .ok (.aload_n 0, 1) := by decide +kernel
theorem dX12_toss_34 : decode cX12_toss 34 = .ok (.getfield 39, 3) := by decide +kernel
theorem dX12_toss_37 : decode cX12_toss 37 = .ok (.bipush 14, 2) := by decide +kernel
theorem dX12_toss_39 : decode cX12_toss 39 = .ok (.iload_n 1, 1) := by decide +kernel
theorem dX12_toss_40 : decode cX12_toss 40 = .ok (.iadd, 1) := by decide +kernel
theorem dX12_toss_41 : decode cX12_toss 41 = .ok (.dup2, 1) := by decide +kernel
theorem dX12_toss_42 : decode cX12_toss 42 = .ok (.iaload, 1) := by decide +kernel
theorem dX12_toss_43 : decode cX12_toss 43 = .ok (.iload_n 2, 1) := by decide +kernel
theorem dX12_toss_44 : decode cX12_toss 44 = .ok (.isub, 1) := by decide +kernel
theorem dX12_toss_45 : decode cX12_toss 45 = .ok (.iastore, 1) := by decide +kernel
theorem dX12_toss_46 : decode cX12_toss 46 = .ok (.aload_n 0, 1) := by decide +kernel
theorem dX12_toss_47 : decode cX12_toss 47 = .ok (.getfield 39, 3) := by decide +kernel
theorem dX12_toss_50 : decode cX12_toss 50 = .ok (.bipush 13, 2) := by decide +kernel
theorem dX12_toss_52 : decode cX12_toss 52 = .ok (.dup2, 1) := by decide +kernel
theorem dX12_toss_53 : decode cX12_toss 53 = .ok (.iaload, 1) := by decide +kernel
theorem dX12_toss_54 : decode cX12_toss 54 = .ok (.iload_n 2, 1) := by decide +kernel
theorem dX12_toss_55 : decode cX12_toss 55 = .ok (.iadd, 1) := by decide +kernel
theorem dX12_toss_56 : decode cX12_toss 56 = .ok (.iastore, 1) := by decide +kernel
theorem dX12_toss_57 : decode cX12_toss 57 = .ok (.aload_n 0, 1) := by decide +kernel
theorem dX12_toss_58 : decode cX12_toss 58 = .ok (.getfield 39, 3) := by decide +kernel
theorem dX12_toss_61 : decode cX12_toss 61 = .ok (.bipush 14, 2) := by decide +kernel
theorem dX12_toss_63 : decode cX12_toss 63 = .ok (.iload_n 1, 1) := by decide +kernel
theorem dX12_toss_64 : decode cX12_toss 64 = .ok (.iadd, 1) := by decide +kernel
theorem dX12_toss_65 : decode cX12_toss 65 = .ok (.iaload, 1) := by decide +kernel
theorem dX12_toss_66 : decode cX12_toss 66 = .ok (.ireturn, 1) := by decide +kernel
theorem dX12_talk_0 : decode cX12_talk 0 = .ok (.aload_n 0, 1) := by decide +kernel
theorem dX12_talk_1 : decode cX12_talk 1 = .ok (.iload_n 1, 1) := by decide +kernel
theorem dX12_talk_2 : decode cX12_talk 2 = .ok (.invokevirtual 349, 3) := by decide +kernel
theorem dX12_talk_5 : decode cX12_talk 5 = .ok (.ifCond .eq 27, 3) := by decide +kernel
theorem dX12_talk_8 : decode cX12_talk 8 = .ok (.iload_n 2, 1) := by decide +kernel
theorem dX12_talk_9 : decode cX12_talk 9 = .ok (.i2l, 1) := by decide +kernel
theorem dX12_talk_10 : decode cX12_talk 10 = .ok (.lconst 1, 1) := by decide +kernel
theorem dX12_talk_11 : decode cX12_talk 11 = .ok (.ldc2_w 379, 3) := by decide +kernel
theorem dX12_talk_14 : decode cX12_talk 14 = .ok (.invokestatic 130, 3) := by decide +kernel
theorem dX12_talk_17 : decode cX12_talk 17 = .ok (.ifCond .eq 15, 3) := by decide +kernel
theorem dX12_talk_20 : decode cX12_talk 20 = .ok (.aload_n 0, 1) := by decide +kernel
theorem dX12_talk_21 : decode cX12_talk 21 = .ok (.getfield 39, 3) := by decide +kernel
theorem dX12_talk_24 : decode cX12_talk 24 = .ok (.bipush 35, 2) := by decide +kernel
theorem dX12_talk_26 : decode cX12_talk 26 = .ok (.iload_n 1, 1) := by decide +kernel
theorem dX12_talk_27 : decode cX12_talk 27 = .ok (.iadd, 1) := by decide +kernel
theorem dX12_talk_28 : decode cX12_talk 28 = .ok (.iaload, 1) := by decide +kernel
theorem dX12_talk_29 : decode cX12_talk 29 = .ok (.ifCond .le 5, 3) := by decide +kernel
theorem dX12_talk_32 : decode cX12_talk 32 = .ok (.iconst (-1), 1) := by decide +kernel
theorem dX12_talk_33 : decode cX12_talk 33 = .ok (.ireturn, 1) := by decide +kernel
theorem dX12_talk_34 : decode cX12_talk 34 = .ok (.aload_n 0, 1) := by decide +kernel
theorem dX12_talk_35 : decode cX12_talk 35 = .ok (.invokevirtual 370, 3) := by decide +kernel
theorem dX12_talk_38 : decode cX12_talk 38 = .ok (.aload_n 0, 1) := by decide +kernel
theorem dX12_talk_39 : decode cX12_talk 39 = .ok (.getfield 39, 3) := by decide +kernel
theorem dX12_talk_42 : decode cX12_talk 42 = .ok (.bipush 14, 2) := by decide +kernel
theorem dX12_talk_44 : decode cX12_talk 44 = .ok (.iload_n 1, 1) := by decide +kernel
theorem dX12_talk_45 : decode cX12_talk 45 = .ok (.iadd, 1) := by decide +kernel
theorem dX12_talk_46 : decode cX12_talk 46 = .ok (.aload_n 0, 1) := by decide +kernel
theorem dX12_talk_47 : decode cX12_talk 47 = .ok (.getfield 39, 3) := by decide +kernel
theorem dX12_talk_50 : decode cX12_talk 50 = .ok (.bipush 14, 2) := by decide +kernel
theorem dX12_talk_52 : decode cX12_talk 52 = .ok (.iload_n 1, 1) := by decide +kernel
theorem dX12_talk_53 : decode cX12_talk 53 = .ok (.iadd, 1) := by decide +kernel
theorem dX12_talk_54 : decode cX12_talk 54 = .ok (.iaload, 1) := by decide +kernel
theorem dX12_talk_55 : decode cX12_talk 55 = .ok (.iload_n 2, 1) := by decide +kernel
theorem dX12_talk_56 : decode cX12_talk 56 = .ok (.iadd, 1) := by decide +kernel
theorem dX12_talk_57 : decode cX12_talk 57 = .ok (.bipush 99, 2) := by decide +kernel
theorem dX12_talk_59 : decode cX12_talk 59 = .ok (.invokestatic 304, 3) := by decide +kernel
theorem dX12_talk_62 : decode cX12_talk 62 = .ok (.iastore, 1) := by decide +kernel
theorem dX12_talk_63 : decode cX12_talk 63 = .ok (.aload_n 0, 1) := by decide +kernel
theorem dX12_talk_64 : decode cX12_talk 64 = .ok (.getfield 39, 3) := by decide +kernel
theorem dX12_talk_67 : decode cX12_talk 67 = .ok (.bipush 14, 2) := by decide +kernel
theorem dX12_talk_69 : decode cX12_talk 69 = .ok (.iload_n 1, 1) := by decide +kernel
theorem dX12_talk_70 : decode cX12_talk 70 = .ok (.iadd, 1) := by decide +kernel
theorem dX12_talk_71 : decode cX12_talk 71 = .ok (.iaload, 1) := by decide +kernel
theorem dX12_talk_72 : decode cX12_talk 72 = .ok (.ireturn, 1) := by decide +kernel
theorem dX12_keeps_0 : decode cX12_keeps 0 = .ok (.iconst 0, 1) := by decide +kernel
theorem dX12_keeps_1 : decode cX12_keeps 1 = .ok (.istore_n 1, 1) := by decide +kernel
theorem dX12_keeps_2 : decode cX12_keeps 2 = .ok (.iload_n 1, 1) := by decide +kernel
theorem dX12_keeps_3 : decode cX12_keeps 3 = .ok (.bipush 18, 2) := by decide +kernel
theorem dX12_keeps_5 : decode cX12_keeps 5 = .ok (.if_icmp .ge 24, 3) := by decide +kernel
theorem dX12_keeps_8 : decode cX12_keeps 8 = .ok (.aload_n 0, 1) := by decide +kernel
theorem dX12_keeps_9 : decode cX12_keeps 9 = .ok (.getfield 49, 3) := by decide +kernel
theorem dX12_keeps_12 : decode cX12_keeps 12 = .ok (.iload_n 1, 1) := by decide +kernel
theorem dX12_keeps_13 : decode cX12_keeps 13 = .ok (.aload_n 0, 1) := by decide +kernel
theorem dX12_keeps_14 : decode cX12_keeps 14 = .ok (.getfield 39, 3) := by decide +kernel
theorem dX12_keeps_17 : decode cX12_keeps 17 = .ok (.bipush 10, 2) := by decide +kernel
theorem dX12_keeps_19 : decode cX12_keeps 19 = .ok (.iload_n 1, 1) := by decide +kernel
theorem dX12_keeps_20 : decode cX12_keeps 20 = .ok (.iadd, 1) := by decide +kernel
theorem dX12_keeps_21 : decode cX12_keeps 21 = .ok (.iaload, 1) := by decide +kernel
theorem dX12_keeps_22 : decode cX12_keeps 22 = .ok (.iastore, 1) := by decide +kernel
theorem dX12_keeps_23 : decode cX12_keeps 23 = .ok (.iinc 1 1, 3) := by decide +kernel
theorem dX12_keeps_26 : decode cX12_keeps 26 = .ok (.goto (-24), 3) := by decide +kernel
theorem dX12_keeps_29 : decode cX12_keeps 29 = .ok (.return_, 1) := by decide +kernel
theorem dX12_laysBack_0 : decode cX12_laysBack 0 = .ok (.iconst 0, 1) := by decide +kernel
theorem dX12_laysBack_1 : decode cX12_laysBack 1 = .ok (.istore_n 1, 1) := by decide +kernel
theorem dX12_laysBack_2 : decode cX12_laysBack 2 = .ok (.iload_n 1, 1) := by decide +kernel
theorem dX12_laysBack_3 : decode cX12_laysBack 3 = .ok (.bipush 18, 2) := by decide +kernel
theorem dX12_laysBack_5 : decode cX12_laysBack 5 = .ok (.if_icmp .ge 24, 3) := by decide +kernel
theorem dX12_laysBack_8 : decode cX12_laysBack 8 = .ok (.aload_n 0, 1) := by decide +kernel
theorem dX12_laysBack_9 : decode cX12_laysBack 9 = .ok (.getfield 39, 3) := by decide +kernel
theorem dX12_laysBack_12 : decode cX12_laysBack 12 = .ok (.bipush 10, 2) := by decide +kernel
theorem dX12_laysBack_14 : decode cX12_laysBack 14 = .ok (.iload_n 1, 1) := by decide +kernel
theorem dX12_laysBack_15 : decode cX12_laysBack 15 = .ok (.iadd, 1) := by decide +kernel
theorem dX12_laysBack_16 : decode cX12_laysBack 16 = .ok (.aload_n 0, 1) := by decide +kernel
theorem dX12_laysBack_17 : decode cX12_laysBack 17 = .ok (.getfield 49, 3) := by decide +kernel
theorem dX12_laysBack_20 : decode cX12_laysBack 20 = .ok (.iload_n 1, 1) := by decide +kernel
theorem dX12_laysBack_21 : decode cX12_laysBack 21 = .ok (.iaload, 1) := by decide +kernel
theorem dX12_laysBack_22 : decode cX12_laysBack 22 = .ok (.iastore, 1) := by decide +kernel
theorem dX12_laysBack_23 : decode cX12_laysBack 23 = .ok (.iinc 1 1, 3) := by decide +kernel
theorem dX12_laysBack_26 : decode cX12_laysBack 26 = .ok (.goto (-24), 3) := by decide +kernel
theorem dX12_laysBack_29 : decode cX12_laysBack 29 = .ok (.return_, 1) := by decide +kernel
theorem dX12_ahead_0 : decode cX12_ahead 0 = .ok (.aload_n 0, 1) := by decide +kernel
theorem dX12_ahead_1 : decode cX12_ahead 1 = .ok (.invokevirtual 297, 3) := by decide +kernel
theorem dX12_ahead_4 : decode cX12_ahead 4 = .ok (.ifCond .eq 40, 3) := by decide +kernel
theorem dX12_ahead_7 : decode cX12_ahead 7 = .ok (.iload_n 2, 1) := by decide +kernel
theorem dX12_ahead_8 : decode cX12_ahead 8 = .ok (.i2l, 1) := by decide +kernel
theorem dX12_ahead_9 : decode cX12_ahead 9 = .ok (.lconst 0, 1) := by decide +kernel
theorem dX12_ahead_10 : decode cX12_ahead 10 = .ok (.ldc2_w 381, 3) := by decide +kernel
theorem dX12_ahead_13 : decode cX12_ahead 13 = .ok (.invokestatic 130, 3) := by decide +kernel
theorem dX12_ahead_16 : decode cX12_ahead 16 = .ok (.ifCond .eq 28, 3) := by decide +kernel
theorem dX12_ahead_19 : decode cX12_ahead 19 = .ok (.iload_n 3, 1) := by decide +kernel
theorem dX12_ahead_20 : decode cX12_ahead 20 = .ok (.i2l, 1) := by decide +kernel
theorem dX12_ahead_21 : decode cX12_ahead 21 = .ok (.lconst 0, 1) := by decide +kernel
theorem dX12_ahead_22 : decode cX12_ahead 22 = .ok (.ldc2_w 383, 3) := by decide +kernel
theorem dX12_ahead_25 : decode cX12_ahead 25 = .ok (.invokestatic 130, 3) := by decide +kernel
theorem dX12_ahead_28 : decode cX12_ahead 28 = .ok (.ifCond .eq 16, 3) := by decide +kernel
theorem dX12_ahead_31 : decode cX12_ahead 31 = .ok (.iload_n 3, 1) := by decide +kernel
theorem dX12_ahead_32 : decode cX12_ahead 32 = .ok (.iconst 2, 1) := by decide +kernel
theorem dX12_ahead_33 : decode cX12_ahead 33 = .ok (.if_icmp .ge 13, 3) := by decide +kernel
theorem dX12_ahead_36 : decode cX12_ahead 36 = .ok (.aload_n 0, 1) := by decide +kernel
theorem dX12_ahead_37 : decode cX12_ahead 37 = .ok (.iload_n 1, 1) := by decide +kernel
theorem dX12_ahead_38 : decode cX12_ahead 38 = .ok (.invokevirtual 349, 3) := by decide +kernel
theorem dX12_ahead_41 : decode cX12_ahead 41 = .ok (.ifCond .ne 5, 3) := by decide +kernel
theorem dX12_ahead_44 : decode cX12_ahead 44 = .ok (.iconst (-1), 1) := by decide +kernel
theorem dX12_ahead_45 : decode cX12_ahead 45 = .ok (.ireturn, 1) := by decide +kernel
theorem dX12_ahead_46 : decode cX12_ahead 46 = .ok (.aload_n 0, 1) := by decide +kernel
theorem dX12_ahead_47 : decode cX12_ahead 47 = .ok (.invokevirtual 385, 3) := by decide +kernel
theorem dX12_ahead_50 : decode cX12_ahead 50 = .ok (.iconst 0, 1) := by decide +kernel
theorem dX12_ahead_51 : decode cX12_ahead 51 = .ok (.istore 4, 2) := by decide +kernel
theorem dX12_ahead_53 : decode cX12_ahead 53 = .ok (.iload 4, 2) := by decide +kernel
theorem dX12_ahead_55 : decode cX12_ahead 55 = .ok (.iload_n 2, 1) := by decide +kernel
theorem dX12_ahead_56 : decode cX12_ahead 56 = .ok (.if_icmp .ge 14, 3) := by decide +kernel
theorem dX12_ahead_59 : decode cX12_ahead 59 = .ok (.aload_n 0, 1) := by decide +kernel
theorem dX12_ahead_60 : decode cX12_ahead 60 = .ok (.invokevirtual 373, 3) := by decide +kernel
theorem dX12_ahead_63 : decode cX12_ahead 63 = .ok (.pop, 1) := by decide +kernel
theorem dX12_ahead_64 : decode cX12_ahead 64 = .ok (.iinc 4 1, 3) := by decide +kernel
theorem dX12_ahead_67 : decode cX12_ahead 67 = .ok (.goto (-14), 3) := by decide +kernel
theorem dX12_ahead_70 : decode cX12_ahead 70 = .ok (.iload_n 3, 1) := by decide +kernel
theorem dX12_ahead_71 : decode cX12_ahead 71 = .ok (.ifCond .ne 15, 3) := by decide +kernel
theorem dX12_ahead_74 : decode cX12_ahead 74 = .ok (.aload_n 0, 1) := by decide +kernel
theorem dX12_ahead_75 : decode cX12_ahead 75 = .ok (.getfield 39, 3) := by decide +kernel
theorem dX12_ahead_78 : decode cX12_ahead 78 = .ok (.bipush 21, 2) := by decide +kernel
theorem dX12_ahead_80 : decode cX12_ahead 80 = .ok (.iload_n 1, 1) := by decide +kernel
theorem dX12_ahead_81 : decode cX12_ahead 81 = .ok (.iadd, 1) := by decide +kernel
theorem dX12_ahead_82 : decode cX12_ahead 82 = .ok (.iaload, 1) := by decide +kernel
theorem dX12_ahead_83 : decode cX12_ahead 83 = .ok (.goto 27, 3) := by decide +kernel
theorem dX12_ahead_86 : decode cX12_ahead 86 = .ok (.iload_n 3, 1) := by decide +kernel
theorem dX12_ahead_87 : decode cX12_ahead 87 = .ok (.iconst 1, 1) := by decide +kernel
theorem dX12_ahead_88 : decode cX12_ahead 88 = .ok (.if_icmp .ne 15, 3) := by decide +kernel
theorem dX12_ahead_91 : decode cX12_ahead 91 = .ok (.aload_n 0, 1) := by decide +kernel
theorem dX12_ahead_92 : decode cX12_ahead 92 = .ok (.getfield 39, 3) := by decide +kernel
theorem dX12_ahead_95 : decode cX12_ahead 95 = .ok (.bipush 14, 2) := by decide +kernel
theorem dX12_ahead_97 : decode cX12_ahead 97 = .ok (.iload_n 1, 1) := by decide +kernel
theorem dX12_ahead_98 : decode cX12_ahead 98 = .ok (.iadd, 1) := by decide +kernel
theorem dX12_ahead_99 : decode cX12_ahead 99 = .ok (.iaload, 1) := by decide +kernel
theorem dX12_ahead_100 : decode cX12_ahead 100 = .ok (.goto 10, 3) := by decide +kernel
theorem dX12_ahead_103 : decode cX12_ahead 103 = .ok (.aload_n 0, 1) := by decide +kernel
theorem dX12_ahead_104 : decode cX12_ahead 104 = .ok (.getfield 39, 3) := by decide +kernel
theorem dX12_ahead_107 : decode cX12_ahead 107 = .ok (.bipush 12, 2) := by decide +kernel
theorem dX12_ahead_109 : decode cX12_ahead 109 = .ok (.iaload, 1) := by decide +kernel
theorem dX12_ahead_110 : decode cX12_ahead 110 = .ok (.istore 4, 2) := by decide +kernel
theorem dX12_ahead_112 : decode cX12_ahead 112 = .ok (.aload_n 0, 1) := by decide +kernel
theorem dX12_ahead_113 : decode cX12_ahead 113 = .ok (.invokevirtual 388, 3) := by decide +kernel
theorem dX12_ahead_116 : decode cX12_ahead 116 = .ok (.iload 4, 2) := by decide +kernel
theorem dX12_ahead_118 : decode cX12_ahead 118 = .ok (.ireturn, 1) := by decide +kernel
theorem dX12_over_0 : decode cX12_over 0 = .ok (.aload_n 0, 1) := by decide +kernel
theorem dX12_over_1 : decode cX12_over 1 = .ok (.invokevirtual 297, 3) := by decide +kernel
theorem dX12_over_4 : decode cX12_over 4 = .ok (.ifCond .ne 5, 3) := by decide +kernel
theorem dX12_over_7 : decode cX12_over 7 = .ok (.iconst (-1), 1) := by decide +kernel
theorem dX12_over_8 : decode cX12_over 8 = .ok (.ireturn, 1) := by decide +kernel
theorem dX12_over_9 : decode cX12_over 9 = .ok (.bipush (-2), 2) := by decide +kernel
theorem dX12_over_11 : decode cX12_over 11 = .ok (.istore_n 1, 1) := by decide +kernel
theorem dX12_over_12 : decode cX12_over 12 = .ok (.aload_n 0, 1) := by decide +kernel
theorem dX12_over_13 : decode cX12_over 13 = .ok (.invokevirtual 385, 3) := by decide +kernel
theorem dX12_over_16 : decode cX12_over 16 = .ok (.iconst 0, 1) := by decide +kernel
theorem dX12_over_17 : decode cX12_over 17 = .ok (.istore_n 2, 1) := by decide +kernel
theorem dX12_over_18 : decode cX12_over 18 = .ok (.iload_n 2, 1) := by decide +kernel
theorem dX12_over_19 : decode cX12_over 19 = .ok (.bipush 100, 2) := by decide +kernel
theorem dX12_over_21 : decode cX12_over 21 = .ok (.if_icmp .ge 34, 3) := by decide +kernel
theorem dX12_over_24 : decode cX12_over 24 = .ok (.iload_n 1, 1) := by decide +kernel
theorem dX12_over_25 : decode cX12_over 25 = .ok (.ifCond .ge 30, 3) := by decide +kernel
theorem dX12_over_28 : decode cX12_over 28 = .ok (.aload_n 0, 1) := by decide +kernel
theorem dX12_over_29 : decode cX12_over 29 = .ok (.iconst 0, 1) := by decide +kernel
theorem dX12_over_30 : decode cX12_over 30 = .ok (.invokevirtual 334, 3) := by decide +kernel
theorem dX12_over_33 : decode cX12_over 33 = .ok (.ifCond .ne 11, 3) := by decide +kernel
theorem dX12_over_36 : decode cX12_over 36 = .ok (.aload_n 0, 1) := by decide +kernel
theorem dX12_over_37 : decode cX12_over 37 = .ok (.getfield 39, 3) := by decide +kernel
theorem dX12_over_40 : decode cX12_over 40 = .ok (.bipush 10, 2) := by decide +kernel
theorem dX12_over_42 : decode cX12_over 42 = .ok (.iaload, 1) := by decide +kernel
theorem dX12_over_43 : decode cX12_over 43 = .ok (.istore_n 1, 1) := by decide +kernel
theorem dX12_over_44 : decode cX12_over 44 = .ok (.aload_n 0, 1) := by decide +kernel
theorem dX12_over_45 : decode cX12_over 45 = .ok (.invokevirtual 373, 3) := by decide +kernel
theorem dX12_over_48 : decode cX12_over 48 = .ok (.pop, 1) := by decide +kernel
theorem dX12_over_49 : decode cX12_over 49 = .ok (.iinc 2 1, 3) := by decide +kernel
theorem dX12_over_52 : decode cX12_over 52 = .ok (.goto (-34), 3) := by decide +kernel
theorem dX12_over_55 : decode cX12_over 55 = .ok (.aload_n 0, 1) := by decide +kernel
theorem dX12_over_56 : decode cX12_over 56 = .ok (.invokevirtual 388, 3) := by decide +kernel
theorem dX12_over_59 : decode cX12_over 59 = .ok (.iload_n 1, 1) := by decide +kernel
theorem dX12_over_60 : decode cX12_over 60 = .ok (.ireturn, 1) := by decide +kernel
theorem dX12_weight_0 : decode cX12_weight 0 = .ok (.aload_n 0, 1) := by decide +kernel
theorem dX12_weight_1 : decode cX12_weight 1 = .ok (.iload_n 1, 1) := by decide +kernel
theorem dX12_weight_2 : decode cX12_weight 2 = .ok (.invokevirtual 376, 3) := by decide +kernel
theorem dX12_weight_5 : decode cX12_weight 5 = .ok (.ifCond .eq 12, 3) := by decide +kernel
theorem dX12_weight_8 : decode cX12_weight 8 = .ok (.aload_n 0, 1) := by decide +kernel
theorem dX12_weight_9 : decode cX12_weight 9 = .ok (.iload_n 1, 1) := by decide +kernel
theorem dX12_weight_10 : decode cX12_weight 10 = .ok (.iconst 0, 1) := by decide +kernel
theorem dX12_weight_11 : decode cX12_weight 11 = .ok (.invokevirtual 340, 3) := by decide +kernel
theorem dX12_weight_14 : decode cX12_weight 14 = .ok (.goto 4, 3) := by decide +kernel
theorem dX12_weight_17 : decode cX12_weight 17 = .ok (.iconst (-1), 1) := by decide +kernel
theorem dX12_weight_18 : decode cX12_weight 18 = .ok (.ireturn, 1) := by decide +kernel
theorem dX12_most_0 : decode cX12_most 0 = .ok (.aload_n 0, 1) := by decide +kernel
theorem dX12_most_1 : decode cX12_most 1 = .ok (.invokevirtual 297, 3) := by decide +kernel
theorem dX12_most_4 : decode cX12_most 4 = .ok (.ifCond .eq 13, 3) := by decide +kernel
theorem dX12_most_7 : decode cX12_most 7 = .ok (.iload_n 1, 1) := by decide +kernel
theorem dX12_most_8 : decode cX12_most 8 = .ok (.i2l, 1) := by decide +kernel
theorem dX12_most_9 : decode cX12_most 9 = .ok (.lconst 0, 1) := by decide +kernel
theorem dX12_most_10 : decode cX12_most 10 = .ok (.lconst 1, 1) := by decide +kernel
theorem dX12_most_11 : decode cX12_most 11 = .ok (.invokestatic 130, 3) := by decide +kernel
theorem dX12_most_14 : decode cX12_most 14 = .ok (.ifCond .ne 5, 3) := by decide +kernel
theorem dX12_most_17 : decode cX12_most 17 = .ok (.iconst (-1), 1) := by decide +kernel
theorem dX12_most_18 : decode cX12_most 18 = .ok (.ireturn, 1) := by decide +kernel
theorem dX12_most_19 : decode cX12_most 19 = .ok (.iconst (-1), 1) := by decide +kernel
theorem dX12_most_20 : decode cX12_most 20 = .ok (.istore_n 2, 1) := by decide +kernel
theorem dX12_most_21 : decode cX12_most 21 = .ok (.iconst 0, 1) := by decide +kernel
theorem dX12_most_22 : decode cX12_most 22 = .ok (.istore_n 3, 1) := by decide +kernel
theorem dX12_most_23 : decode cX12_most 23 = .ok (.iload_n 3, 1) := by decide +kernel
theorem dX12_most_24 : decode cX12_most 24 = .ok (.iconst 1, 1) := by decide +kernel
theorem dX12_most_25 : decode cX12_most 25 = .ok (.aload_n 0, 1) := by decide +kernel
theorem dX12_most_26 : decode cX12_most 26 = .ok (.getfield 39, 3) := by decide +kernel
theorem dX12_most_29 : decode cX12_most 29 = .ok (.iconst 4, 1) := by decide +kernel
theorem dX12_most_30 : decode cX12_most 30 = .ok (.iaload, 1) := by decide +kernel
theorem dX12_most_31 : decode cX12_most 31 = .ok (.ishl, 1) := by decide +kernel
theorem dX12_most_32 : decode cX12_most 32 = .ok (.if_icmp .ge 34, 3) := by decide +kernel
theorem dX12_most_35 : decode cX12_most 35 = .ok (.iload_n 2, 1) := by decide +kernel
theorem dX12_most_36 : decode cX12_most 36 = .ok (.ifCond .lt 14, 3) := by decide +kernel
theorem dX12_most_39 : decode cX12_most 39 = .ok (.iload_n 3, 1) := by decide +kernel
theorem dX12_most_40 : decode cX12_most 40 = .ok (.invokestatic 337, 3) := by decide +kernel
theorem dX12_most_43 : decode cX12_most 43 = .ok (.iload_n 2, 1) := by decide +kernel
theorem dX12_most_44 : decode cX12_most 44 = .ok (.invokestatic 337, 3) := by decide +kernel
theorem dX12_most_47 : decode cX12_most 47 = .ok (.if_icmp .le 13, 3) := by decide +kernel
theorem dX12_most_50 : decode cX12_most 50 = .ok (.aload_n 0, 1) := by decide +kernel
theorem dX12_most_51 : decode cX12_most 51 = .ok (.iload_n 3, 1) := by decide +kernel
theorem dX12_most_52 : decode cX12_most 52 = .ok (.invokevirtual 391, 3) := by decide +kernel
theorem dX12_most_55 : decode cX12_most 55 = .ok (.ifCond .eq 5, 3) := by decide +kernel
theorem dX12_most_58 : decode cX12_most 58 = .ok (.iload_n 3, 1) := by decide +kernel
theorem dX12_most_59 : decode cX12_most 59 = .ok (.istore_n 2, 1) := by decide +kernel
theorem dX12_most_60 : decode cX12_most 60 = .ok (.iinc 3 1, 3) := by decide +kernel
theorem dX12_most_63 : decode cX12_most 63 = .ok (.goto (-40), 3) := by decide +kernel
theorem dX12_most_66 : decode cX12_most 66 = .ok (.iload_n 2, 1) := by decide +kernel
theorem dX12_most_67 : decode cX12_most 67 = .ok (.ifCond .ge 8, 3) := by decide +kernel
theorem dX12_most_70 : decode cX12_most 70 = .ok (.bipush (-2), 2) := by decide +kernel
theorem dX12_most_72 : decode cX12_most 72 = .ok (.goto 15, 3) := by decide +kernel
theorem dX12_most_75 : decode cX12_most 75 = .ok (.iload_n 1, 1) := by decide +kernel
theorem dX12_most_76 : decode cX12_most 76 = .ok (.ifCond .ne 10, 3) := by decide +kernel
theorem dX12_most_79 : decode cX12_most 79 = .ok (.iload_n 2, 1) := by decide +kernel
theorem dX12_most_80 : decode cX12_most 80 = .ok (.invokestatic 337, 3) := by decide +kernel
theorem dX12_most_83 : decode cX12_most 83 = .ok (.goto 4, 3) := by decide +kernel
theorem dX12_most_86 : decode cX12_most 86 = .ok (.iload_n 2, 1) := by decide +kernel
theorem dX12_most_87 : decode cX12_most 87 = .ok (.ireturn, 1) := by decide +kernel
theorem dX12_takesOne_0 : decode cX12_takesOne 0 = .ok (.iconst 0, 1) := by decide +kernel
theorem dX12_takesOne_1 : decode cX12_takesOne 1 = .ok (.istore_n 2, 1) := by decide +kernel
theorem dX12_takesOne_2 : decode cX12_takesOne 2 = .ok (.iload_n 2, 1) := by decide +kernel
theorem dX12_takesOne_3 : decode cX12_takesOne 3 = .ok (.sipush 700, 3) := by decide +kernel
theorem dX12_takesOne_6 : decode cX12_takesOne 6 = .ok (.if_icmp .ge 18, 3) := by decide +kernel
theorem dX12_takesOne_9 : decode cX12_takesOne 9 = .ok (.aload_n 0, 1) := by decide +kernel
theorem dX12_takesOne_10 : decode cX12_takesOne 10 = .ok (.getfield 55, 3) := by decide +kernel
theorem dX12_takesOne_13 : decode cX12_takesOne 13 = .ok (.iload_n 2, 1) := by decide +kernel
theorem dX12_takesOne_14 : decode cX12_takesOne 14 = .ok (.sipush 9999, 3) := by decide +kernel
theorem dX12_takesOne_17 : decode cX12_takesOne 17 = .ok (.iastore, 1) := by decide +kernel
theorem dX12_takesOne_18 : decode cX12_takesOne 18 = .ok (.iinc 2 1, 3) := by decide +kernel
theorem dX12_takesOne_21 : decode cX12_takesOne 21 = .ok (.goto (-19), 3) := by decide +kernel
theorem dX12_takesOne_24 : decode cX12_takesOne 24 = .ok (.aload_n 0, 1) := by decide +kernel
theorem dX12_takesOne_25 : decode cX12_takesOne 25 = .ok (.getfield 39, 3) := by decide +kernel
theorem dX12_takesOne_28 : decode cX12_takesOne 28 = .ok (.bipush 14, 2) := by decide +kernel
theorem dX12_takesOne_30 : decode cX12_takesOne 30 = .ok (.iload_n 1, 1) := by decide +kernel
theorem dX12_takesOne_31 : decode cX12_takesOne 31 = .ok (.iadd, 1) := by decide +kernel
theorem dX12_takesOne_32 : decode cX12_takesOne 32 = .ok (.iaload, 1) := by decide +kernel
theorem dX12_takesOne_33 : decode cX12_takesOne 33 = .ok (.istore_n 2, 1) := by decide +kernel
theorem dX12_takesOne_34 : decode cX12_takesOne 34 = .ok (.iconst 0, 1) := by decide +kernel
theorem dX12_takesOne_35 : decode cX12_takesOne 35 = .ok (.istore_n 3, 1) := by decide +kernel
theorem dX12_takesOne_36 : decode cX12_takesOne 36 = .ok (.iload_n 3, 1) := by decide +kernel
theorem dX12_takesOne_37 : decode cX12_takesOne 37 = .ok (.sipush 700, 3) := by decide +kernel
theorem dX12_takesOne_40 : decode cX12_takesOne 40 = .ok (.if_icmp .ge 101, 3) := by decide +kernel
theorem dX12_takesOne_43 : decode cX12_takesOne 43 = .ok (.iconst 0, 1) := by decide +kernel
theorem dX12_takesOne_44 : decode cX12_takesOne 44 = .ok (.istore 4, 2) := by decide +kernel
theorem dX12_takesOne_46 : decode cX12_takesOne 46 = .ok (.iload 4, 2) := by decide +kernel
theorem dX12_takesOne_48 : decode cX12_takesOne 48 = .ok (.iload_n 2, 1) := by decide +kernel
theorem dX12_takesOne_49 : decode cX12_takesOne 49 = .ok (.if_icmp .gt 86, 3) := by decide +kernel
theorem dX12_takesOne_52 : decode cX12_takesOne 52 = .ok (.iload_n 3, 1) := by decide +kernel
theorem dX12_takesOne_53 : decode cX12_takesOne 53 = .ok (.iload 4, 2) := by decide +kernel
theorem dX12_takesOne_55 : decode cX12_takesOne 55 = .ok (.iadd, 1) := by decide +kernel
theorem dX12_takesOne_56 : decode cX12_takesOne 56 = .ok (.sipush 700, 3) := by decide +kernel
theorem dX12_takesOne_59 : decode cX12_takesOne 59 = .ok (.if_icmp .ge 76, 3) := by decide +kernel
theorem dX12_takesOne_62 : decode cX12_takesOne 62 = .ok (.aload_n 0, 1) := by decide +kernel
theorem dX12_takesOne_63 : decode cX12_takesOne 63 = .ok (.getfield 52, 3) := by decide +kernel
theorem dX12_takesOne_66 : decode cX12_takesOne 66 = .ok (.iload_n 3, 1) := by decide +kernel
theorem dX12_takesOne_67 : decode cX12_takesOne 67 = .ok (.iaload, 1) := by decide +kernel
theorem dX12_takesOne_68 : decode cX12_takesOne 68 = .ok (.sipush 9999, 3) := by decide +kernel
theorem dX12_takesOne_71 : decode cX12_takesOne 71 = .ok (.if_icmp .ge 64, 3) := by decide +kernel
theorem dX12_takesOne_74 : decode cX12_takesOne 74 = .ok (.aload_n 0, 1) := by decide +kernel
theorem dX12_takesOne_75 : decode cX12_takesOne 75 = .ok (.getfield 52, 3) := by decide +kernel
theorem dX12_takesOne_78 : decode cX12_takesOne 78 = .ok (.iload_n 3, 1) := by decide +kernel
theorem dX12_takesOne_79 : decode cX12_takesOne 79 = .ok (.iaload, 1) := by decide +kernel
theorem dX12_takesOne_80 : decode cX12_takesOne 80 = .ok (.aload_n 0, 1) := by decide +kernel
theorem dX12_takesOne_81 : decode cX12_takesOne 81 = .ok (.iload_n 1, 1) := by decide +kernel
theorem dX12_takesOne_82 : decode cX12_takesOne 82 = .ok (.iload_n 2, 1) := by decide +kernel
theorem dX12_takesOne_83 : decode cX12_takesOne 83 = .ok (.iload 4, 2) := by decide +kernel
theorem dX12_takesOne_85 : decode cX12_takesOne 85 = .ok (.isub, 1) := by decide +kernel
theorem dX12_takesOne_86 : decode cX12_takesOne 86 = .ok (.invokevirtual 311, 3) := by decide +kernel
theorem dX12_takesOne_89 : decode cX12_takesOne 89 = .ok (.iadd, 1) := by decide +kernel
theorem dX12_takesOne_90 : decode cX12_takesOne 90 = .ok (.istore 5, 2) := by decide +kernel
theorem dX12_takesOne_92 : decode cX12_takesOne 92 = .ok (.aload_n 0, 1) := by decide +kernel
theorem dX12_takesOne_93 : decode cX12_takesOne 93 = .ok (.getfield 55, 3) := by decide +kernel
theorem dX12_takesOne_96 : decode cX12_takesOne 96 = .ok (.iload_n 3, 1) := by decide +kernel
theorem dX12_takesOne_97 : decode cX12_takesOne 97 = .ok (.iload 4, 2) := by decide +kernel
theorem dX12_takesOne_99 : decode cX12_takesOne 99 = .ok (.iadd, 1) := by decide +kernel
theorem dX12_takesOne_100 : decode cX12_takesOne 100 = .ok (.iload 5, 2) := by decide +kernel
theorem dX12_takesOne_102 : decode cX12_takesOne 102 = .ok (.aload_n 0, 1) := by decide +kernel
theorem dX12_takesOne_103 : decode cX12_takesOne 103 = .ok (.getfield 55, 3) := by decide +kernel
theorem dX12_takesOne_106 : decode cX12_takesOne 106 = .ok (.iload_n 3, 1) := by decide +kernel
theorem dX12_takesOne_107 : decode cX12_takesOne 107 = .ok (.iload 4, 2) := by decide +kernel
theorem dX12_takesOne_109 : decode cX12_takesOne 109 = .ok (.iadd, 1) := by decide +kernel
theorem dX12_takesOne_110 : decode cX12_takesOne 110 = .ok (.iaload, 1) := by decide +kernel
theorem dX12_takesOne_111 : decode cX12_takesOne 111 = .ok (.if_icmp .ge 8, 3) := by decide +kernel
theorem dX12_takesOne_114 : decode cX12_takesOne 114 = .ok (.iload 5, 2) := by decide +kernel
theorem dX12_takesOne_116 : decode cX12_takesOne 116 = .ok (.goto 12, 3) := by decide +kernel
theorem dX12_takesOne_119 : decode cX12_takesOne 119 = .ok (.aload_n 0, 1) := by decide +kernel
theorem dX12_takesOne_120 : decode cX12_takesOne 120 = .ok (.getfield 55, 3) := by decide +kernel
theorem dX12_takesOne_123 : decode cX12_takesOne 123 = .ok (.iload_n 3, 1) := by decide +kernel
theorem dX12_takesOne_124 : decode cX12_takesOne 124 = .ok (.iload 4, 2) := by decide +kernel
theorem dX12_takesOne_126 : decode cX12_takesOne 126 = .ok (.iadd, 1) := by decide +kernel
theorem dX12_takesOne_127 : decode cX12_takesOne 127 = .ok (.iaload, 1) := by decide +kernel
theorem dX12_takesOne_128 : decode cX12_takesOne 128 = .ok (.iastore, 1) := by decide +kernel
theorem dX12_takesOne_129 : decode cX12_takesOne 129 = .ok (.iinc 4 1, 3) := by decide +kernel
theorem dX12_takesOne_132 : decode cX12_takesOne 132 = .ok (.goto (-86), 3) := by decide +kernel
theorem dX12_takesOne_135 : decode cX12_takesOne 135 = .ok (.iinc 3 1, 3) := by decide +kernel
theorem dX12_takesOne_138 : decode cX12_takesOne 138 = .ok (.goto (-102), 3) := by decide +kernel
theorem dX12_takesOne_141 : decode cX12_takesOne 141 = .ok (.iconst 0, 1) := by decide +kernel
theorem dX12_takesOne_142 : decode cX12_takesOne 142 = .ok (.istore_n 3, 1) := by decide +kernel
theorem dX12_takesOne_143 : decode cX12_takesOne 143 = .ok (.iload_n 3, 1) := by decide +kernel
theorem dX12_takesOne_144 : decode cX12_takesOne 144 = .ok (.sipush 700, 3) := by decide +kernel
theorem dX12_takesOne_147 : decode cX12_takesOne 147 = .ok (.if_icmp .ge 21, 3) := by decide +kernel
theorem dX12_takesOne_150 : decode cX12_takesOne 150 = .ok (.aload_n 0, 1) := by decide +kernel
theorem dX12_takesOne_151 : decode cX12_takesOne 151 = .ok (.getfield 52, 3) := by decide +kernel
theorem dX12_takesOne_154 : decode cX12_takesOne 154 = .ok (.iload_n 3, 1) := by decide +kernel
theorem dX12_takesOne_155 : decode cX12_takesOne 155 = .ok (.aload_n 0, 1) := by decide +kernel
theorem dX12_takesOne_156 : decode cX12_takesOne 156 = .ok (.getfield 55, 3) := by decide +kernel
theorem dX12_takesOne_159 : decode cX12_takesOne 159 = .ok (.iload_n 3, 1) := by decide +kernel
theorem dX12_takesOne_160 : decode cX12_takesOne 160 = .ok (.iaload, 1) := by decide +kernel
theorem dX12_takesOne_161 : decode cX12_takesOne 161 = .ok (.iastore, 1) := by decide +kernel
theorem dX12_takesOne_162 : decode cX12_takesOne 162 = .ok (.iinc 3 1, 3) := by decide +kernel
theorem dX12_takesOne_165 : decode cX12_takesOne 165 = .ok (.goto (-22), 3) := by decide +kernel
theorem dX12_takesOne_168 : decode cX12_takesOne 168 = .ok (.return_, 1) := by decide +kernel
theorem dX12_lighten_0 : decode cX12_lighten 0 = .ok (.aload_n 0, 1) := by decide +kernel
theorem dX12_lighten_1 : decode cX12_lighten 1 = .ok (.iload_n 1, 1) := by decide +kernel
theorem dX12_lighten_2 : decode cX12_lighten 2 = .ok (.invokevirtual 376, 3) := by decide +kernel
theorem dX12_lighten_5 : decode cX12_lighten 5 = .ok (.ifCond .eq 34, 3) := by decide +kernel
theorem dX12_lighten_8 : decode cX12_lighten 8 = .ok (.iload_n 1, 1) := by decide +kernel
theorem dX12_lighten_9 : decode cX12_lighten 9 = .ok (.aload_n 0, 1) := by decide +kernel
theorem dX12_lighten_10 : decode cX12_lighten 10 = .ok (.aload_n 0, 1) := by decide +kernel
theorem dX12_lighten_11 : decode cX12_lighten 11 = .ok (.getfield 39, 3) := by decide +kernel
theorem dX12_lighten_14 : decode cX12_lighten 14 = .ok (.bipush 11, 2) := by decide +kernel
theorem dX12_lighten_16 : decode cX12_lighten 16 = .ok (.iaload, 1) := by decide +kernel
theorem dX12_lighten_17 : decode cX12_lighten 17 = .ok (.invokevirtual 334, 3) := by decide +kernel
theorem dX12_lighten_20 : decode cX12_lighten 20 = .ok (.iconst (-1), 1) := by decide +kernel
theorem dX12_lighten_21 : decode cX12_lighten 21 = .ok (.ixor, 1) := by decide +kernel
theorem dX12_lighten_22 : decode cX12_lighten 22 = .ok (.iand, 1) := by decide +kernel
theorem dX12_lighten_23 : decode cX12_lighten 23 = .ok (.ifCond .ne 16, 3) := by decide +kernel
theorem dX12_lighten_26 : decode cX12_lighten 26 = .ok (.iload_n 1, 1) := by decide +kernel
theorem dX12_lighten_27 : decode cX12_lighten 27 = .ok (.invokestatic 337, 3) := by decide +kernel
theorem dX12_lighten_30 : decode cX12_lighten 30 = .ok (.aload_n 0, 1) := by decide +kernel
theorem dX12_lighten_31 : decode cX12_lighten 31 = .ok (.getfield 39, 3) := by decide +kernel
theorem dX12_lighten_34 : decode cX12_lighten 34 = .ok (.iconst 2, 1) := by decide +kernel
theorem dX12_lighten_35 : decode cX12_lighten 35 = .ok (.iaload, 1) := by decide +kernel
theorem dX12_lighten_36 : decode cX12_lighten 36 = .ok (.if_icmp .le 5, 3) := by decide +kernel
theorem dX12_lighten_39 : decode cX12_lighten 39 = .ok (.iconst (-1), 1) := by decide +kernel
theorem dX12_lighten_40 : decode cX12_lighten 40 = .ok (.ireturn, 1) := by decide +kernel
theorem dX12_lighten_41 : decode cX12_lighten 41 = .ok (.iconst 0, 1) := by decide +kernel
theorem dX12_lighten_42 : decode cX12_lighten 42 = .ok (.istore_n 2, 1) := by decide +kernel
theorem dX12_lighten_43 : decode cX12_lighten 43 = .ok (.iload_n 2, 1) := by decide +kernel
theorem dX12_lighten_44 : decode cX12_lighten 44 = .ok (.sipush 700, 3) := by decide +kernel
theorem dX12_lighten_47 : decode cX12_lighten 47 = .ok (.if_icmp .ge 26, 3) := by decide +kernel
theorem dX12_lighten_50 : decode cX12_lighten 50 = .ok (.aload_n 0, 1) := by decide +kernel
theorem dX12_lighten_51 : decode cX12_lighten 51 = .ok (.getfield 52, 3) := by decide +kernel
theorem dX12_lighten_54 : decode cX12_lighten 54 = .ok (.iload_n 2, 1) := by decide +kernel
theorem dX12_lighten_55 : decode cX12_lighten 55 = .ok (.iload_n 2, 1) := by decide +kernel
theorem dX12_lighten_56 : decode cX12_lighten 56 = .ok (.ifCond .ne 7, 3) := by decide +kernel
theorem dX12_lighten_59 : decode cX12_lighten 59 = .ok (.iconst 0, 1) := by decide +kernel
theorem dX12_lighten_60 : decode cX12_lighten 60 = .ok (.goto 6, 3) := by decide +kernel
theorem dX12_lighten_63 : decode cX12_lighten 63 = .ok (.sipush 9999, 3) := by decide +kernel
theorem dX12_lighten_66 : decode cX12_lighten 66 = .ok (.iastore, 1) := by decide +kernel
theorem dX12_lighten_67 : decode cX12_lighten 67 = .ok (.iinc 2 1, 3) := by decide +kernel
theorem dX12_lighten_70 : decode cX12_lighten 70 = .ok (.goto (-27), 3) := by decide +kernel
theorem dX12_lighten_73 : decode cX12_lighten 73 = .ok (.iconst 0, 1) := by decide +kernel
theorem dX12_lighten_74 : decode cX12_lighten 74 = .ok (.istore_n 2, 1) := by decide +kernel
theorem dX12_lighten_75 : decode cX12_lighten 75 = .ok (.iload_n 2, 1) := by decide +kernel
theorem dX12_lighten_76 : decode cX12_lighten 76 = .ok (.aload_n 0, 1) := by decide +kernel
theorem dX12_lighten_77 : decode cX12_lighten 77 = .ok (.getfield 39, 3) := by decide +kernel
theorem dX12_lighten_80 : decode cX12_lighten 80 = .ok (.iconst 4, 1) := by decide +kernel
theorem dX12_lighten_81 : decode cX12_lighten 81 = .ok (.iaload, 1) := by decide +kernel
theorem dX12_lighten_82 : decode cX12_lighten 82 = .ok (.if_icmp .ge 22, 3) := by decide +kernel
theorem dX12_lighten_85 : decode cX12_lighten 85 = .ok (.iload_n 1, 1) := by decide +kernel
theorem dX12_lighten_86 : decode cX12_lighten 86 = .ok (.iload_n 2, 1) := by decide +kernel
theorem dX12_lighten_87 : decode cX12_lighten 87 = .ok (.invokestatic 308, 3) := by decide +kernel
theorem dX12_lighten_90 : decode cX12_lighten 90 = .ok (.ifCond .eq 8, 3) := by decide +kernel
theorem dX12_lighten_93 : decode cX12_lighten 93 = .ok (.aload_n 0, 1) := by decide +kernel
theorem dX12_lighten_94 : decode cX12_lighten 94 = .ok (.iload_n 2, 1) := by decide +kernel
theorem dX12_lighten_95 : decode cX12_lighten 95 = .ok (.invokevirtual 394, 3) := by decide +kernel
theorem dX12_lighten_98 : decode cX12_lighten 98 = .ok (.iinc 2 1, 3) := by decide +kernel
theorem dX12_lighten_101 : decode cX12_lighten 101 = .ok (.goto (-26), 3) := by decide +kernel
theorem dX12_lighten_104 : decode cX12_lighten 104 = .ok (.iconst 0, 1) := by decide +kernel
theorem dX12_lighten_105 : decode cX12_lighten 105 = .ok (.istore_n 2, 1) := by decide +kernel
theorem dX12_lighten_106 : decode cX12_lighten 106 = .ok (.iload_n 2, 1) := by decide +kernel
theorem dX12_lighten_107 : decode cX12_lighten 107 = .ok (.sipush 700, 3) := by decide +kernel
theorem dX12_lighten_110 : decode cX12_lighten 110 = .ok (.if_icmp .ge 56, 3) := by decide +kernel
theorem dX12_lighten_113 : decode cX12_lighten 113 = .ok (.aload_n 0, 1) := by decide +kernel
theorem dX12_lighten_114 : decode cX12_lighten 114 = .ok (.getfield 52, 3) := by decide +kernel
theorem dX12_lighten_117 : decode cX12_lighten 117 = .ok (.iload_n 2, 1) := by decide +kernel
theorem dX12_lighten_118 : decode cX12_lighten 118 = .ok (.iaload, 1) := by decide +kernel
theorem dX12_lighten_119 : decode cX12_lighten 119 = .ok (.sipush 9999, 3) := by decide +kernel
theorem dX12_lighten_122 : decode cX12_lighten 122 = .ok (.if_icmp .ge 38, 3) := by decide +kernel
theorem dX12_lighten_125 : decode cX12_lighten 125 = .ok (.aload_n 0, 1) := by decide +kernel
theorem dX12_lighten_126 : decode cX12_lighten 126 = .ok (.aload_n 0, 1) := by decide +kernel
theorem dX12_lighten_127 : decode cX12_lighten 127 = .ok (.getfield 52, 3) := by decide +kernel
theorem dX12_lighten_130 : decode cX12_lighten 130 = .ok (.iload_n 2, 1) := by decide +kernel
theorem dX12_lighten_131 : decode cX12_lighten 131 = .ok (.iaload, 1) := by decide +kernel
theorem dX12_lighten_132 : decode cX12_lighten 132 = .ok (.aload_n 0, 1) := by decide +kernel
theorem dX12_lighten_133 : decode cX12_lighten 133 = .ok (.iload_n 1, 1) := by decide +kernel
theorem dX12_lighten_134 : decode cX12_lighten 134 = .ok (.invokevirtual 327, 3) := by decide +kernel
theorem dX12_lighten_137 : decode cX12_lighten 137 = .ok (.iadd, 1) := by decide +kernel
theorem dX12_lighten_138 : decode cX12_lighten 138 = .ok (.iload_n 1, 1) := by decide +kernel
theorem dX12_lighten_139 : decode cX12_lighten 139 = .ok (.aload_n 0, 1) := by decide +kernel
theorem dX12_lighten_140 : decode cX12_lighten 140 = .ok (.getfield 39, 3) := by decide +kernel
theorem dX12_lighten_143 : decode cX12_lighten 143 = .ok (.bipush 11, 2) := by decide +kernel
theorem dX12_lighten_145 : decode cX12_lighten 145 = .ok (.iaload, 1) := by decide +kernel
theorem dX12_lighten_146 : decode cX12_lighten 146 = .ok (.invokevirtual 330, 3) := by decide +kernel
theorem dX12_lighten_149 : decode cX12_lighten 149 = .ok (.aload_n 0, 1) := by decide +kernel
theorem dX12_lighten_150 : decode cX12_lighten 150 = .ok (.getfield 39, 3) := by decide +kernel
theorem dX12_lighten_153 : decode cX12_lighten 153 = .ok (.iconst 1, 1) := by decide +kernel
theorem dX12_lighten_154 : decode cX12_lighten 154 = .ok (.iaload, 1) := by decide +kernel
theorem dX12_lighten_155 : decode cX12_lighten 155 = .ok (.if_icmp .gt 5, 3) := by decide +kernel
theorem dX12_lighten_158 : decode cX12_lighten 158 = .ok (.iload_n 2, 1) := by decide +kernel
theorem dX12_lighten_159 : decode cX12_lighten 159 = .ok (.ireturn, 1) := by decide +kernel
theorem dX12_lighten_160 : decode cX12_lighten 160 = .ok (.iinc 2 1, 3) := by decide +kernel
theorem dX12_lighten_163 : decode cX12_lighten 163 = .ok (.goto (-57), 3) := by decide +kernel
theorem dX12_lighten_166 : decode cX12_lighten 166 = .ok (.bipush (-2), 2) := by decide +kernel
theorem dX12_lighten_168 : decode cX12_lighten 168 = .ok (.ireturn, 1) := by decide +kernel
theorem dX12_placeBy_0 : decode cX12_placeBy 0 = .ok (.iload_n 1, 1) := by decide +kernel
theorem dX12_placeBy_1 : decode cX12_placeBy 1 = .ok (.sipush 128, 3) := by decide +kernel
theorem dX12_placeBy_4 : decode cX12_placeBy 4 = .ok (.idiv, 1) := by decide +kernel
theorem dX12_placeBy_5 : decode cX12_placeBy 5 = .ok (.istore_n 3, 1) := by decide +kernel
theorem dX12_placeBy_6 : decode cX12_placeBy 6 = .ok (.iload_n 1, 1) := by decide +kernel
theorem dX12_placeBy_7 : decode cX12_placeBy 7 = .ok (.sipush 128, 3) := by decide +kernel
theorem dX12_placeBy_10 : decode cX12_placeBy 10 = .ok (.irem, 1) := by decide +kernel
theorem dX12_placeBy_11 : decode cX12_placeBy 11 = .ok (.istore 4, 2) := by decide +kernel
theorem dX12_placeBy_13 : decode cX12_placeBy 13 = .ok (.iload_n 3, 1) := by decide +kernel
theorem dX12_placeBy_14 : decode cX12_placeBy 14 = .ok (.iconst 1, 1) := by decide +kernel
theorem dX12_placeBy_15 : decode cX12_placeBy 15 = .ok (.if_icmp .ne 8, 3) := by decide +kernel
theorem dX12_placeBy_18 : decode cX12_placeBy 18 = .ok (.iload 4, 2) := by decide +kernel
theorem dX12_placeBy_20 : decode cX12_placeBy 20 = .ok (.goto 18, 3) := by decide +kernel
theorem dX12_placeBy_23 : decode cX12_placeBy 23 = .ok (.iconst 1, 1) := by decide +kernel
theorem dX12_placeBy_24 : decode cX12_placeBy 24 = .ok (.aload_n 0, 1) := by decide +kernel
theorem dX12_placeBy_25 : decode cX12_placeBy 25 = .ok (.getfield 39, 3) := by decide +kernel
theorem dX12_placeBy_28 : decode cX12_placeBy 28 = .ok (.iconst 4, 1) := by decide +kernel
theorem dX12_placeBy_29 : decode cX12_placeBy 29 = .ok (.iaload, 1) := by decide +kernel
theorem dX12_placeBy_30 : decode cX12_placeBy 30 = .ok (.ishl, 1) := by decide +kernel
theorem dX12_placeBy_31 : decode cX12_placeBy 31 = .ok (.iconst 1, 1) := by decide +kernel
theorem dX12_placeBy_32 : decode cX12_placeBy 32 = .ok (.isub, 1) := by decide +kernel
theorem dX12_placeBy_33 : decode cX12_placeBy 33 = .ok (.iload 4, 2) := by decide +kernel
theorem dX12_placeBy_35 : decode cX12_placeBy 35 = .ok (.iconst (-1), 1) := by decide +kernel
theorem dX12_placeBy_36 : decode cX12_placeBy 36 = .ok (.ixor, 1) := by decide +kernel
theorem dX12_placeBy_37 : decode cX12_placeBy 37 = .ok (.iand, 1) := by decide +kernel
theorem dX12_placeBy_38 : decode cX12_placeBy 38 = .ok (.istore 5, 2) := by decide +kernel
theorem dX12_placeBy_40 : decode cX12_placeBy 40 = .ok (.iload_n 2, 1) := by decide +kernel
theorem dX12_placeBy_41 : decode cX12_placeBy 41 = .ok (.iload 5, 2) := by decide +kernel
theorem dX12_placeBy_43 : decode cX12_placeBy 43 = .ok (.iconst (-1), 1) := by decide +kernel
theorem dX12_placeBy_44 : decode cX12_placeBy 44 = .ok (.ixor, 1) := by decide +kernel
theorem dX12_placeBy_45 : decode cX12_placeBy 45 = .ok (.iand, 1) := by decide +kernel
theorem dX12_placeBy_46 : decode cX12_placeBy 46 = .ok (.ifCond .ne 18, 3) := by decide +kernel
theorem dX12_placeBy_49 : decode cX12_placeBy 49 = .ok (.aload_n 0, 1) := by decide +kernel
theorem dX12_placeBy_50 : decode cX12_placeBy 50 = .ok (.getfield 61, 3) := by decide +kernel
theorem dX12_placeBy_53 : decode cX12_placeBy 53 = .ok (.sipush 128, 3) := by decide +kernel
theorem dX12_placeBy_56 : decode cX12_placeBy 56 = .ok (.iload_n 3, 1) := by decide +kernel
theorem dX12_placeBy_57 : decode cX12_placeBy 57 = .ok (.imul, 1) := by decide +kernel
theorem dX12_placeBy_58 : decode cX12_placeBy 58 = .ok (.iload_n 2, 1) := by decide +kernel
theorem dX12_placeBy_59 : decode cX12_placeBy 59 = .ok (.iadd, 1) := by decide +kernel
theorem dX12_placeBy_60 : decode cX12_placeBy 60 = .ok (.baload, 1) := by decide +kernel
theorem dX12_placeBy_61 : decode cX12_placeBy 61 = .ok (.ifCond .ne 5, 3) := by decide +kernel
theorem dX12_placeBy_64 : decode cX12_placeBy 64 = .ok (.iconst (-1), 1) := by decide +kernel
theorem dX12_placeBy_65 : decode cX12_placeBy 65 = .ok (.ireturn, 1) := by decide +kernel
theorem dX12_placeBy_66 : decode cX12_placeBy 66 = .ok (.sipush 128, 3) := by decide +kernel
theorem dX12_placeBy_69 : decode cX12_placeBy 69 = .ok (.iconst 1, 1) := by decide +kernel
theorem dX12_placeBy_70 : decode cX12_placeBy 70 = .ok (.iload_n 3, 1) := by decide +kernel
theorem dX12_placeBy_71 : decode cX12_placeBy 71 = .ok (.isub, 1) := by decide +kernel
theorem dX12_placeBy_72 : decode cX12_placeBy 72 = .ok (.imul, 1) := by decide +kernel
theorem dX12_placeBy_73 : decode cX12_placeBy 73 = .ok (.iload 4, 2) := by decide +kernel
theorem dX12_placeBy_75 : decode cX12_placeBy 75 = .ok (.iload_n 2, 1) := by decide +kernel
theorem dX12_placeBy_76 : decode cX12_placeBy 76 = .ok (.ixor, 1) := by decide +kernel
theorem dX12_placeBy_77 : decode cX12_placeBy 77 = .ok (.iadd, 1) := by decide +kernel
theorem dX12_placeBy_78 : decode cX12_placeBy 78 = .ok (.ireturn, 1) := by decide +kernel
theorem dX12_fillsNeeds_0 : decode cX12_fillsNeeds 0 = .ok (.iconst 1, 1) := by decide +kernel
theorem dX12_fillsNeeds_1 : decode cX12_fillsNeeds 1 = .ok (.aload_n 0, 1) := by decide +kernel
theorem dX12_fillsNeeds_2 : decode cX12_fillsNeeds 2 = .ok (.getfield 39, 3) := by decide +kernel
theorem dX12_fillsNeeds_5 : decode cX12_fillsNeeds 5 = .ok (.iconst 4, 1) := by decide +kernel
theorem dX12_fillsNeeds_6 : decode cX12_fillsNeeds 6 = .ok (.iaload, 1) := by decide +kernel
theorem dX12_fillsNeeds_7 : decode cX12_fillsNeeds 7 = .ok (.ishl, 1) := by decide +kernel
theorem dX12_fillsNeeds_8 : decode cX12_fillsNeeds 8 = .ok (.iconst 1, 1) := by decide +kernel
theorem dX12_fillsNeeds_9 : decode cX12_fillsNeeds 9 = .ok (.isub, 1) := by decide +kernel
theorem dX12_fillsNeeds_10 : decode cX12_fillsNeeds 10 = .ok (.istore_n 1, 1) := by decide +kernel
theorem dX12_fillsNeeds_11 : decode cX12_fillsNeeds 11 = .ok (.iconst 0, 1) := by decide +kernel
theorem dX12_fillsNeeds_12 : decode cX12_fillsNeeds 12 = .ok (.istore_n 2, 1) := by decide +kernel
theorem dX12_fillsNeeds_13 : decode cX12_fillsNeeds 13 = .ok (.iload_n 2, 1) := by decide +kernel
theorem dX12_fillsNeeds_14 : decode cX12_fillsNeeds 14 = .ok (.iload_n 1, 1) := by decide +kernel
theorem dX12_fillsNeeds_15 : decode cX12_fillsNeeds 15 = .ok (.if_icmp .gt 79, 3) := by decide +kernel
theorem dX12_fillsNeeds_18 : decode cX12_fillsNeeds 18 = .ok (.iconst 0, 1) := by decide +kernel
theorem dX12_fillsNeeds_19 : decode cX12_fillsNeeds 19 = .ok (.istore_n 3, 1) := by decide +kernel
theorem dX12_fillsNeeds_20 : decode cX12_fillsNeeds 20 = .ok (.iload_n 3, 1) := by decide +kernel
theorem dX12_fillsNeeds_21 : decode cX12_fillsNeeds 21 = .ok (.iconst 2, 1) := by decide +kernel
theorem dX12_fillsNeeds_22 : decode cX12_fillsNeeds 22 = .ok (.if_icmp .ge 66, 3) := by decide +kernel
theorem dX12_fillsNeeds_25 : decode cX12_fillsNeeds 25 = .ok (.aload_n 0, 1) := by decide +kernel
theorem dX12_fillsNeeds_26 : decode cX12_fillsNeeds 26 = .ok (.getfield 61, 3) := by decide +kernel
theorem dX12_fillsNeeds_29 : decode cX12_fillsNeeds 29 = .ok (.sipush 128, 3) := by decide +kernel
theorem dX12_fillsNeeds_32 : decode cX12_fillsNeeds 32 = .ok (.iload_n 3, 1) := by decide +kernel
theorem dX12_fillsNeeds_33 : decode cX12_fillsNeeds 33 = .ok (.imul, 1) := by decide +kernel
theorem dX12_fillsNeeds_34 : decode cX12_fillsNeeds 34 = .ok (.iload_n 2, 1) := by decide +kernel
theorem dX12_fillsNeeds_35 : decode cX12_fillsNeeds 35 = .ok (.iadd, 1) := by decide +kernel
theorem dX12_fillsNeeds_36 : decode cX12_fillsNeeds 36 = .ok (.iload_n 2, 1) := by decide +kernel
theorem dX12_fillsNeeds_37 : decode cX12_fillsNeeds 37 = .ok (.invokestatic 337, 3) := by decide +kernel
theorem dX12_fillsNeeds_40 : decode cX12_fillsNeeds 40 = .ok (.aload_n 0, 1) := by decide +kernel
theorem dX12_fillsNeeds_41 : decode cX12_fillsNeeds 41 = .ok (.getfield 39, 3) := by decide +kernel
theorem dX12_fillsNeeds_44 : decode cX12_fillsNeeds 44 = .ok (.iconst 2, 1) := by decide +kernel
theorem dX12_fillsNeeds_45 : decode cX12_fillsNeeds 45 = .ok (.iaload, 1) := by decide +kernel
theorem dX12_fillsNeeds_46 : decode cX12_fillsNeeds 46 = .ok (.if_icmp .gt 34, 3) := by decide +kernel
theorem dX12_fillsNeeds_49 : decode cX12_fillsNeeds 49 = .ok (.aload_n 0, 1) := by decide +kernel
theorem dX12_fillsNeeds_50 : decode cX12_fillsNeeds 50 = .ok (.aload_n 0, 1) := by decide +kernel
theorem dX12_fillsNeeds_51 : decode cX12_fillsNeeds 51 = .ok (.iload_n 2, 1) := by decide +kernel
theorem dX12_fillsNeeds_52 : decode cX12_fillsNeeds 52 = .ok (.iconst 0, 1) := by decide +kernel
theorem dX12_fillsNeeds_53 : decode cX12_fillsNeeds 53 = .ok (.invokevirtual 323, 3) := by decide +kernel
theorem dX12_fillsNeeds_56 : decode cX12_fillsNeeds 56 = .ok (.aload_n 0, 1) := by decide +kernel
theorem dX12_fillsNeeds_57 : decode cX12_fillsNeeds 57 = .ok (.iload_n 2, 1) := by decide +kernel
theorem dX12_fillsNeeds_58 : decode cX12_fillsNeeds 58 = .ok (.invokevirtual 327, 3) := by decide +kernel
theorem dX12_fillsNeeds_61 : decode cX12_fillsNeeds 61 = .ok (.iadd, 1) := by decide +kernel
theorem dX12_fillsNeeds_62 : decode cX12_fillsNeeds 62 = .ok (.iload_n 2, 1) := by decide +kernel
theorem dX12_fillsNeeds_63 : decode cX12_fillsNeeds 63 = .ok (.iload_n 3, 1) := by decide +kernel
theorem dX12_fillsNeeds_64 : decode cX12_fillsNeeds 64 = .ok (.invokevirtual 330, 3) := by decide +kernel
theorem dX12_fillsNeeds_67 : decode cX12_fillsNeeds 67 = .ok (.aload_n 0, 1) := by decide +kernel
theorem dX12_fillsNeeds_68 : decode cX12_fillsNeeds 68 = .ok (.getfield 39, 3) := by decide +kernel
theorem dX12_fillsNeeds_71 : decode cX12_fillsNeeds 71 = .ok (.iconst 1, 1) := by decide +kernel
theorem dX12_fillsNeeds_72 : decode cX12_fillsNeeds 72 = .ok (.iaload, 1) := by decide +kernel
theorem dX12_fillsNeeds_73 : decode cX12_fillsNeeds 73 = .ok (.if_icmp .gt 7, 3) := by decide +kernel
theorem dX12_fillsNeeds_76 : decode cX12_fillsNeeds 76 = .ok (.iconst 1, 1) := by decide +kernel
theorem dX12_fillsNeeds_77 : decode cX12_fillsNeeds 77 = .ok (.goto 4, 3) := by decide +kernel
theorem dX12_fillsNeeds_80 : decode cX12_fillsNeeds 80 = .ok (.iconst 0, 1) := by decide +kernel
theorem dX12_fillsNeeds_81 : decode cX12_fillsNeeds 81 = .ok (.bastore, 1) := by decide +kernel
theorem dX12_fillsNeeds_82 : decode cX12_fillsNeeds 82 = .ok (.iinc 3 1, 3) := by decide +kernel
theorem dX12_fillsNeeds_85 : decode cX12_fillsNeeds 85 = .ok (.goto (-65), 3) := by decide +kernel
theorem dX12_fillsNeeds_88 : decode cX12_fillsNeeds 88 = .ok (.iinc 2 1, 3) := by decide +kernel
theorem dX12_fillsNeeds_91 : decode cX12_fillsNeeds 91 = .ok (.goto (-78), 3) := by decide +kernel
theorem dX12_fillsNeeds_94 : decode cX12_fillsNeeds 94 = .ok (.iconst 0, 1) := by decide +kernel
theorem dX12_fillsNeeds_95 : decode cX12_fillsNeeds 95 = .ok (.istore_n 2, 1) := by decide +kernel
theorem dX12_fillsNeeds_96 : decode cX12_fillsNeeds 96 = .ok (.iload_n 2, 1) := by decide +kernel
theorem dX12_fillsNeeds_97 : decode cX12_fillsNeeds 97 = .ok (.sipush 256, 3) := by decide +kernel
theorem dX12_fillsNeeds_100 : decode cX12_fillsNeeds 100 = .ok (.if_icmp .ge 29, 3) := by decide +kernel
theorem dX12_fillsNeeds_103 : decode cX12_fillsNeeds 103 = .ok (.aload_n 0, 1) := by decide +kernel
theorem dX12_fillsNeeds_104 : decode cX12_fillsNeeds 104 = .ok (.getfield 58, 3) := by decide +kernel
theorem dX12_fillsNeeds_107 : decode cX12_fillsNeeds 107 = .ok (.iload_n 2, 1) := by decide +kernel
theorem dX12_fillsNeeds_108 : decode cX12_fillsNeeds 108 = .ok (.iload_n 2, 1) := by decide +kernel
theorem dX12_fillsNeeds_109 : decode cX12_fillsNeeds 109 = .ok (.sipush 128, 3) := by decide +kernel
theorem dX12_fillsNeeds_112 : decode cX12_fillsNeeds 112 = .ok (.irem, 1) := by decide +kernel
theorem dX12_fillsNeeds_113 : decode cX12_fillsNeeds 113 = .ok (.iload_n 1, 1) := by decide +kernel
theorem dX12_fillsNeeds_114 : decode cX12_fillsNeeds 114 = .ok (.if_icmp .ne 7, 3) := by decide +kernel
theorem dX12_fillsNeeds_117 : decode cX12_fillsNeeds 117 = .ok (.iconst 0, 1) := by decide +kernel
theorem dX12_fillsNeeds_118 : decode cX12_fillsNeeds 118 = .ok (.goto 4, 3) := by decide +kernel
theorem dX12_fillsNeeds_121 : decode cX12_fillsNeeds 121 = .ok (.iconst (-1), 1) := by decide +kernel
theorem dX12_fillsNeeds_122 : decode cX12_fillsNeeds 122 = .ok (.iastore, 1) := by decide +kernel
theorem dX12_fillsNeeds_123 : decode cX12_fillsNeeds 123 = .ok (.iinc 2 1, 3) := by decide +kernel
theorem dX12_fillsNeeds_126 : decode cX12_fillsNeeds 126 = .ok (.goto (-30), 3) := by decide +kernel
theorem dX12_fillsNeeds_129 : decode cX12_fillsNeeds 129 = .ok (.iconst 1, 1) := by decide +kernel
theorem dX12_fillsNeeds_130 : decode cX12_fillsNeeds 130 = .ok (.istore_n 2, 1) := by decide +kernel
theorem dX12_fillsNeeds_131 : decode cX12_fillsNeeds 131 = .ok (.iconst 0, 1) := by decide +kernel
theorem dX12_fillsNeeds_132 : decode cX12_fillsNeeds 132 = .ok (.istore_n 3, 1) := by decide +kernel
theorem dX12_fillsNeeds_133 : decode cX12_fillsNeeds 133 = .ok (.iload_n 2, 1) := by decide +kernel
theorem dX12_fillsNeeds_134 : decode cX12_fillsNeeds 134 = .ok (.ifCond .eq 117, 3) := by decide +kernel
theorem dX12_fillsNeeds_137 : decode cX12_fillsNeeds 137 = .ok (.iconst 0, 1) := by decide +kernel
theorem dX12_fillsNeeds_138 : decode cX12_fillsNeeds 138 = .ok (.istore_n 2, 1) := by decide +kernel
theorem dX12_fillsNeeds_139 : decode cX12_fillsNeeds 139 = .ok (.iconst 0, 1) := by decide +kernel
theorem dX12_fillsNeeds_140 : decode cX12_fillsNeeds 140 = .ok (.istore 4, 2) := by decide +kernel
theorem dX12_fillsNeeds_142 : decode cX12_fillsNeeds 142 = .ok (.iload 4, 2) := by decide +kernel
