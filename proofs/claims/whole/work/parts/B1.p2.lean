def sM0 : St := s_new sXE 11 0
theorem k_sM0 : kz (s_z sM0) = 1001 := by decide +kernel
def sM1 : St := s_new sM0 12 400
def sM2 : St := s_setR sM1 1100 1000 (some 1001)
theorem k_sM2 : kz (s_z sM2) = 1002 := by decide +kernel
def sM3 : St := s_new sM2 13 2400
def sM4 : St := s_setR sM3 1103 1000 (some 1002)
theorem k_sM4 : kz (s_z sM4) = 1003 := by decide +kernel
def sM5 : St := s_new sM4 13 7
def sM6 : St := s_setR sM5 1104 1000 (some 1003)
theorem k_sM6 : kz (s_z sM6) = 1004 := by decide +kernel
def sM7 : St := s_new sM6 13 288
def sM8 : St := s_setR sM7 1105 1000 (some 1004)
theorem k_sM8 : kz (s_z sM8) = 1005 := by decide +kernel
def sM9 : St := s_new sM8 13 6
def sM10 : St := s_setR sM9 1106 1000 (some 1005)
theorem k_sM10 : kz (s_z sM10) = 1006 := by decide +kernel
def sM11 : St := s_new sM10 13 159
def sM12 : St := s_setR sM11 1107 1000 (some 1006)
theorem k_sM12 : kz (s_z sM12) = 1007 := by decide +kernel
def sM13 : St := s_new sM12 13 400
def sM14 : St := s_setR sM13 1115 1000 (some 1007)
theorem k_sM14 : kz (s_z sM14) = 1008 := by decide +kernel
def sM15 : St := s_new sM14 14 64
def sM16 : St := s_setR sM15 1117 1000 (some 1008)
theorem k_sM16 : kz (s_z sM16) = 1009 := by decide +kernel
def sM17 : St := s_new sM16 14 12
def sM18 : St := s_setR sM17 1119 1000 (some 1009)
theorem k_sM18 : kz (s_z sM18) = 1010 := by decide +kernel
def sM19 : St := s_new sM18 13 190
def sM20 : St := s_setR sM19 1120 1000 (some 1010)
def sM21 : St := s_setI sM20 1121 1000 (-1)
theorem k_sM21 : kz (s_z sM21) = 1011 := by decide +kernel
def sM22 : St := s_new sM21 13 360
def sM23 : St := s_setR sM22 1124 1000 (some 1011)
theorem k_sM23 : kz (s_z sM23) = 1012 := by decide +kernel
def sM24 : St := s_new sM23 13 18
def sM25 : St := s_setR sM24 1126 1000 (some 1012)
theorem k_sM25 : kz (s_z sM25) = 1013 := by decide +kernel
def sM26 : St := s_new sM25 13 700
def sM27 : St := s_setR sM26 1127 1000 (some 1013)
theorem k_sM27 : kz (s_z sM27) = 1014 := by decide +kernel
def sM28 : St := s_new sM27 13 700
def sM29 : St := s_setR sM28 1128 1000 (some 1014)
theorem k_sM29 : kz (s_z sM29) = 1015 := by decide +kernel
def sM30 : St := s_new sM29 13 256
def sM31 : St := s_setR sM30 1129 1000 (some 1015)
theorem k_sM31 : kz (s_z sM31) = 1016 := by decide +kernel
def sM32 : St := s_new sM31 15 256
def sM33 : St := s_setR sM32 1130 1000 (some 1016)
theorem k_sM33 : kz (s_z sM33) = 1017 := by decide +kernel
def sM34 : St := s_new sM33 13 8
def sM35 : St := s_setR sM34 1131 1000 (some 1017)
theorem k_sM35 : kz (s_z sM35) = 1018 := by decide +kernel
def sM36 : St := s_new sM35 13 8
def sM37 : St := s_setR sM36 1132 1000 (some 1018)
theorem k_sM37 : kz (s_z sM37) = 1019 := by decide +kernel
def sM38 : St := s_new sM37 13 8
def sM39 : St := s_setR sM38 1134 1000 (some 1019)
theorem k_sM39 : kz (s_z sM39) = 1020 := by decide +kernel
def sM40 : St := s_new sM39 15 7
def sM41 : St := s_setR sM40 1135 1000 (some 1020)
theorem k_sM41 : kz (s_z sM41) = 1021 := by decide +kernel
def sM42 : St := s_new sM41 13 49
def sM43 : St := s_setR sM42 1136 1000 (some 1021)
theorem k_sM43 : kz (s_z sM43) = 1022 := by decide +kernel
def sM44 : St := s_new sM43 13 760
def sM45 : St := s_setR sM44 1138 1000 (some 1022)
theorem k_sM45 : kz (s_z sM45) = 1023 := by decide +kernel
def sM46 : St := s_new sM45 13 4
def sM47 : St := s_setR sM46 1139 1000 (some 1023)
theorem k_sM47 : kz (s_z sM47) = 1024 := by decide +kernel
def sM48 : St := s_new sM47 13 4
def sM49 : St := s_setR sM48 1140 1000 (some 1024)
theorem k_sM49 : kz (s_z sM49) = 1025 := by decide +kernel
def sM50 : St := s_new sM49 15 4
def sM51 : St := s_setR sM50 1141 1000 (some 1025)
def rmIX12_init : Room := { frames := 2, cells := 25, slots := 7068, locals := 40 }
theorem wX12_init_0 {w : Wd} {X : FX} {Q : State → Prop} (C : gx_C w X cX12_init 1 RX12 rmIX12_init none) (hI : yX12_init.name = "<init>" → (x_M X).name = "<init>") (k : gx_G w X sM18 9 3736 81 [some (.ref (ad (w_b w) 1000))] [] Q) : gx_G w X sM0 0 0 0 [some (.ref (ad (w_b w) 1000))] [] Q := by
  refine g_aload_n (pc := 0) C dX12_init_0 rfl ?_
  refine go_X12_1 (pc := 1) C rfl (Nat.le_of_ble_eq_true rfl) ⟨rfl, rfl⟩ dX12_init_1 ?_
  refine g_aload_n (pc := 4) C dX12_init_4 rfl ?_
  refine g_sipush (pc := 5) (v := nI 400) C dX12_init_5 (by decide) ?_
  refine gm_byte (pc := 8) C rfl (by decide) (fit_kn (by decide +kernel : fitB (s_z sM0) 12 400 = true)).1 (fit_kn (by decide +kernel : fitB (s_z sM0) 12 400 = true)).2 ⟨by decide, by decide⟩ dX12_init_8 ?_
  rw [k_sM0]
  refine gx_S (S' := sM1) rfl ?_
  refine fps_X12_7 (pc := 10) C rfl (zc (by decide +kernel)) (hI rfl) dX12_init_10 ?_
  refine gx_S (S' := sM2) rfl ?_
  refine g_aload_n (pc := 13) C dX12_init_13 rfl ?_
  refine g_sipush (pc := 14) (v := nI 2400) C dX12_init_14 (by decide) ?_
  refine gm_int (pc := 17) C rfl (by decide) (fit_kn (by decide +kernel : fitB (s_z sM2) 13 2400 = true)).1 (fit_kn (by decide +kernel : fitB (s_z sM2) 13 2400 = true)).2 ⟨by decide, by decide⟩ dX12_init_17 ?_
  rw [k_sM2]
  refine gx_S (S' := sM3) rfl ?_
  refine fps_X12_13 (pc := 19) C rfl (zc (by decide +kernel)) (hI rfl) dX12_init_19 ?_
  refine gx_S (S' := sM4) rfl ?_
  refine g_aload_n (pc := 22) C dX12_init_22 rfl ?_
  refine g_bipush (pc := 23) (v := nI 7) C dX12_init_23 (by decide) ?_
  refine gm_int (pc := 25) C rfl (by decide) (fit_kn (by decide +kernel : fitB (s_z sM4) 13 7 = true)).1 (fit_kn (by decide +kernel : fitB (s_z sM4) 13 7 = true)).2 ⟨by decide, by decide⟩ dX12_init_25 ?_
  rw [k_sM4]
  refine gx_S (S' := sM5) rfl ?_
  refine fps_X12_17 (pc := 27) C rfl (zc (by decide +kernel)) (hI rfl) dX12_init_27 ?_
  refine gx_S (S' := sM6) rfl ?_
  refine g_aload_n (pc := 30) C dX12_init_30 rfl ?_
  refine g_sipush (pc := 31) (v := nI 288) C dX12_init_31 (by decide) ?_
  refine gm_int (pc := 34) C rfl (by decide) (fit_kn (by decide +kernel : fitB (s_z sM6) 13 288 = true)).1 (fit_kn (by decide +kernel : fitB (s_z sM6) 13 288 = true)).2 ⟨by decide, by decide⟩ dX12_init_34 ?_
  rw [k_sM6]
  refine gx_S (S' := sM7) rfl ?_
  refine fps_X12_20 (pc := 36) C rfl (zc (by decide +kernel)) (hI rfl) dX12_init_36 ?_
  refine gx_S (S' := sM8) rfl ?_
  refine g_aload_n (pc := 39) C dX12_init_39 rfl ?_
  refine g_bipush (pc := 40) (v := nI 6) C dX12_init_40 (by decide) ?_
  refine gm_int (pc := 42) C rfl (by decide) (fit_kn (by decide +kernel : fitB (s_z sM8) 13 6 = true)).1 (fit_kn (by decide +kernel : fitB (s_z sM8) 13 6 = true)).2 ⟨by decide, by decide⟩ dX12_init_42 ?_
  rw [k_sM8]
  refine gx_S (S' := sM9) rfl ?_
  refine fps_X12_23 (pc := 44) C rfl (zc (by decide +kernel)) (hI rfl) dX12_init_44 ?_
  refine gx_S (S' := sM10) rfl ?_
  refine g_aload_n (pc := 47) C dX12_init_47 rfl ?_
  refine g_sipush (pc := 48) (v := nI 159) C dX12_init_48 (by decide) ?_
  refine gm_int (pc := 51) C rfl (by decide) (fit_kn (by decide +kernel : fitB (s_z sM10) 13 159 = true)).1 (fit_kn (by decide +kernel : fitB (s_z sM10) 13 159 = true)).2 ⟨by decide, by decide⟩ dX12_init_51 ?_
  rw [k_sM10]
  refine gx_S (S' := sM11) rfl ?_
  refine fps_X12_26 (pc := 53) C rfl (zc (by decide +kernel)) (hI rfl) dX12_init_53 ?_
  refine gx_S (S' := sM12) rfl ?_
  refine g_aload_n (pc := 56) C dX12_init_56 rfl ?_
  refine g_sipush (pc := 57) (v := nI 400) C dX12_init_57 (by decide) ?_
  refine gm_int (pc := 60) C rfl (by decide) (fit_kn (by decide +kernel : fitB (s_z sM12) 13 400 = true)).1 (fit_kn (by decide +kernel : fitB (s_z sM12) 13 400 = true)).2 ⟨by decide, by decide⟩ dX12_init_60 ?_
  rw [k_sM12]
  refine gx_S (S' := sM13) rfl ?_
  refine fps_X12_29 (pc := 62) C rfl (zc (by decide +kernel)) (hI rfl) dX12_init_62 ?_
  refine gx_S (S' := sM14) rfl ?_
  refine g_aload_n (pc := 65) C dX12_init_65 rfl ?_
  refine g_bipush (pc := 66) (v := nI 64) C dX12_init_66 (by decide) ?_
  refine gm_long (pc := 68) C rfl (by decide) (fit_kn (by decide +kernel : fitB (s_z sM14) 14 64 = true)).1 (fit_kn (by decide +kernel : fitB (s_z sM14) 14 64 = true)).2 ⟨by decide, by decide⟩ dX12_init_68 ?_
  rw [k_sM14]
  refine gx_S (S' := sM15) rfl ?_
  refine fps_X12_32 (pc := 70) C rfl (zc (by decide +kernel)) (hI rfl) dX12_init_70 ?_
  refine gx_S (S' := sM16) rfl ?_
  refine g_aload_n (pc := 73) C dX12_init_73 rfl ?_
  refine g_bipush (pc := 74) (v := nI 12) C dX12_init_74 (by decide) ?_
  refine gm_long (pc := 76) C rfl (by decide) (fit_kn (by decide +kernel : fitB (s_z sM16) 14 12 = true)).1 (fit_kn (by decide +kernel : fitB (s_z sM16) 14 12 = true)).2 ⟨by decide, by decide⟩ dX12_init_76 ?_
  rw [k_sM16]
  refine gx_S (S' := sM17) rfl ?_
  refine fps_X12_36 (pc := 78) C rfl (zc (by decide +kernel)) (hI rfl) dX12_init_78 ?_
  refine gx_S (S' := sM18) rfl ?_
  exact k
theorem wX12_init_1 {w : Wd} {X : FX} {Q : State → Prop} (C : gx_C w X cX12_init 1 RX12 rmIX12_init none) (hI : yX12_init.name = "<init>" → (x_M X).name = "<init>") (k : gx_G w X sM37 18 6232 164 [some (.ref (ad (w_b w) 1000))] [] Q) : gx_G w X sM18 9 3736 81 [some (.ref (ad (w_b w) 1000))] [] Q := by
  refine g_aload_n (pc := 81) C dX12_init_81 rfl ?_
  refine g_sipush (pc := 82) (v := nI 190) C dX12_init_82 (by decide) ?_
  refine gm_int (pc := 85) C rfl (by decide) (fit_kn (by decide +kernel : fitB (s_z sM18) 13 190 = true)).1 (fit_kn (by decide +kernel : fitB (s_z sM18) 13 190 = true)).2 ⟨by decide, by decide⟩ dX12_init_85 ?_
  rw [k_sM18]
  refine gx_S (S' := sM19) rfl ?_
  refine fps_X12_39 (pc := 87) C rfl (zc (by decide +kernel)) (hI rfl) dX12_init_87 ?_
  refine gx_S (S' := sM20) rfl ?_
  refine g_aload_n (pc := 90) C dX12_init_90 rfl ?_
  refine g_iconst (pc := 91) (v := -1) C dX12_init_91 (by decide) ?_
  refine fp_X12_42 (pc := 92) C rfl (zc (by decide +kernel)) dX12_init_92 ?_
  refine gx_S (S' := sM21) rfl ?_
  refine g_aload_n (pc := 95) C dX12_init_95 rfl ?_
  refine g_sipush (pc := 96) (v := nI 360) C dX12_init_96 (by decide) ?_
  refine gm_int (pc := 99) C rfl (by decide) (fit_kn (by decide +kernel : fitB (s_z sM21) 13 360 = true)).1 (fit_kn (by decide +kernel : fitB (s_z sM21) 13 360 = true)).2 ⟨by decide, by decide⟩ dX12_init_99 ?_
  rw [k_sM21]
  refine gx_S (S' := sM22) rfl ?_
  refine fps_X12_46 (pc := 101) C rfl (zc (by decide +kernel)) (hI rfl) dX12_init_101 ?_
  refine gx_S (S' := sM23) rfl ?_
  refine g_aload_n (pc := 104) C dX12_init_104 rfl ?_
  refine g_bipush (pc := 105) (v := nI 18) C dX12_init_105 (by decide) ?_
  refine gm_int (pc := 107) C rfl (by decide) (fit_kn (by decide +kernel : fitB (s_z sM23) 13 18 = true)).1 (fit_kn (by decide +kernel : fitB (s_z sM23) 13 18 = true)).2 ⟨by decide, by decide⟩ dX12_init_107 ?_
  rw [k_sM23]
  refine gx_S (S' := sM24) rfl ?_
  refine fps_X12_49 (pc := 109) C rfl (zc (by decide +kernel)) (hI rfl) dX12_init_109 ?_
  refine gx_S (S' := sM25) rfl ?_
  refine g_aload_n (pc := 112) C dX12_init_112 rfl ?_
  refine g_sipush (pc := 113) (v := nI 700) C dX12_init_113 (by decide) ?_
  refine gm_int (pc := 116) C rfl (by decide) (fit_kn (by decide +kernel : fitB (s_z sM25) 13 700 = true)).1 (fit_kn (by decide +kernel : fitB (s_z sM25) 13 700 = true)).2 ⟨by decide, by decide⟩ dX12_init_116 ?_
  rw [k_sM25]
  refine gx_S (S' := sM26) rfl ?_
  refine fps_X12_52 (pc := 118) C rfl (zc (by decide +kernel)) (hI rfl) dX12_init_118 ?_
  refine gx_S (S' := sM27) rfl ?_
  refine g_aload_n (pc := 121) C dX12_init_121 rfl ?_
  refine g_sipush (pc := 122) (v := nI 700) C dX12_init_122 (by decide) ?_
  refine gm_int (pc := 125) C rfl (by decide) (fit_kn (by decide +kernel : fitB (s_z sM27) 13 700 = true)).1 (fit_kn (by decide +kernel : fitB (s_z sM27) 13 700 = true)).2 ⟨by decide, by decide⟩ dX12_init_125 ?_
  rw [k_sM27]
  refine gx_S (S' := sM28) rfl ?_
  refine fps_X12_55 (pc := 127) C rfl (zc (by decide +kernel)) (hI rfl) dX12_init_127 ?_
  refine gx_S (S' := sM29) rfl ?_
  refine g_aload_n (pc := 130) C dX12_init_130 rfl ?_
  refine g_sipush (pc := 131) (v := nI 256) C dX12_init_131 (by decide) ?_
  refine gm_int (pc := 134) C rfl (by decide) (fit_kn (by decide +kernel : fitB (s_z sM29) 13 256 = true)).1 (fit_kn (by decide +kernel : fitB (s_z sM29) 13 256 = true)).2 ⟨by decide, by decide⟩ dX12_init_134 ?_
  rw [k_sM29]
  refine gx_S (S' := sM30) rfl ?_
  refine fps_X12_58 (pc := 136) C rfl (zc (by decide +kernel)) (hI rfl) dX12_init_136 ?_
  refine gx_S (S' := sM31) rfl ?_
  refine g_aload_n (pc := 139) C dX12_init_139 rfl ?_
  refine g_sipush (pc := 140) (v := nI 256) C dX12_init_140 (by decide) ?_
  refine gm_boolean (pc := 143) C rfl (by decide) (fit_kn (by decide +kernel : fitB (s_z sM31) 15 256 = true)).1 (fit_kn (by decide +kernel : fitB (s_z sM31) 15 256 = true)).2 ⟨by decide, by decide⟩ dX12_init_143 ?_
  rw [k_sM31]
  refine gx_S (S' := sM32) rfl ?_
  refine fps_X12_61 (pc := 145) C rfl (zc (by decide +kernel)) (hI rfl) dX12_init_145 ?_
  refine gx_S (S' := sM33) rfl ?_
  refine g_aload_n (pc := 148) C dX12_init_148 rfl ?_
  refine g_bipush (pc := 149) (v := nI 8) C dX12_init_149 (by decide) ?_
  refine gm_int (pc := 151) C rfl (by decide) (fit_kn (by decide +kernel : fitB (s_z sM33) 13 8 = true)).1 (fit_kn (by decide +kernel : fitB (s_z sM33) 13 8 = true)).2 ⟨by decide, by decide⟩ dX12_init_151 ?_
  rw [k_sM33]
  refine gx_S (S' := sM34) rfl ?_
  refine fps_X12_65 (pc := 153) C rfl (zc (by decide +kernel)) (hI rfl) dX12_init_153 ?_
  refine gx_S (S' := sM35) rfl ?_
  refine g_aload_n (pc := 156) C dX12_init_156 rfl ?_
  refine g_bipush (pc := 157) (v := nI 8) C dX12_init_157 (by decide) ?_
  refine gm_int (pc := 159) C rfl (by decide) (fit_kn (by decide +kernel : fitB (s_z sM35) 13 8 = true)).1 (fit_kn (by decide +kernel : fitB (s_z sM35) 13 8 = true)).2 ⟨by decide, by decide⟩ dX12_init_159 ?_
  rw [k_sM35]
  refine gx_S (S' := sM36) rfl ?_
  refine fps_X12_68 (pc := 161) C rfl (zc (by decide +kernel)) (hI rfl) dX12_init_161 ?_
  refine gx_S (S' := sM37) rfl ?_
  exact k
theorem wX12_init_2 {w : Wd} {X : FX} {Q : State → Prop} (C : gx_C w X cX12_init 1 RX12 rmIX12_init none) (hI : yX12_init.name = "<init>" → (x_M X).name = "<init>") (k : gx_G w X sM51 25 7068 218 [some (.ref (ad (w_b w) 1000))] [] Q) : gx_G w X sM37 18 6232 164 [some (.ref (ad (w_b w) 1000))] [] Q := by
  refine g_aload_n (pc := 164) C dX12_init_164 rfl ?_
  refine g_bipush (pc := 165) (v := nI 8) C dX12_init_165 (by decide) ?_
  refine gm_int (pc := 167) C rfl (by decide) (fit_kn (by decide +kernel : fitB (s_z sM37) 13 8 = true)).1 (fit_kn (by decide +kernel : fitB (s_z sM37) 13 8 = true)).2 ⟨by decide, by decide⟩ dX12_init_167 ?_
  rw [k_sM37]
  refine gx_S (S' := sM38) rfl ?_
  refine fps_X12_71 (pc := 169) C rfl (zc (by decide +kernel)) (hI rfl) dX12_init_169 ?_
  refine gx_S (S' := sM39) rfl ?_
  refine g_aload_n (pc := 172) C dX12_init_172 rfl ?_
  refine g_bipush (pc := 173) (v := nI 7) C dX12_init_173 (by decide) ?_
  refine gm_boolean (pc := 175) C rfl (by decide) (fit_kn (by decide +kernel : fitB (s_z sM39) 15 7 = true)).1 (fit_kn (by decide +kernel : fitB (s_z sM39) 15 7 = true)).2 ⟨by decide, by decide⟩ dX12_init_175 ?_
  rw [k_sM39]
  refine gx_S (S' := sM40) rfl ?_
  refine fps_X12_74 (pc := 177) C rfl (zc (by decide +kernel)) (hI rfl) dX12_init_177 ?_
  refine gx_S (S' := sM41) rfl ?_
  refine g_aload_n (pc := 180) C dX12_init_180 rfl ?_
  refine g_bipush (pc := 181) (v := nI 49) C dX12_init_181 (by decide) ?_
  refine gm_int (pc := 183) C rfl (by decide) (fit_kn (by decide +kernel : fitB (s_z sM41) 13 49 = true)).1 (fit_kn (by decide +kernel : fitB (s_z sM41) 13 49 = true)).2 ⟨by decide, by decide⟩ dX12_init_183 ?_
  rw [k_sM41]
  refine gx_S (S' := sM42) rfl ?_
  refine fps_X12_77 (pc := 185) C rfl (zc (by decide +kernel)) (hI rfl) dX12_init_185 ?_
  refine gx_S (S' := sM43) rfl ?_
  refine g_aload_n (pc := 188) C dX12_init_188 rfl ?_
  refine g_sipush (pc := 189) (v := nI 760) C dX12_init_189 (by decide) ?_
  refine gm_int (pc := 192) C rfl (by decide) (fit_kn (by decide +kernel : fitB (s_z sM43) 13 760 = true)).1 (fit_kn (by decide +kernel : fitB (s_z sM43) 13 760 = true)).2 ⟨by decide, by decide⟩ dX12_init_192 ?_
  rw [k_sM43]
  refine gx_S (S' := sM44) rfl ?_
  refine fps_X12_80 (pc := 194) C rfl (zc (by decide +kernel)) (hI rfl) dX12_init_194 ?_
  refine gx_S (S' := sM45) rfl ?_
  refine g_aload_n (pc := 197) C dX12_init_197 rfl ?_
  refine g_iconst (pc := 198) (v := nI 4) C dX12_init_198 (by decide) ?_
  refine gm_int (pc := 199) C rfl (by decide) (fit_kn (by decide +kernel : fitB (s_z sM45) 13 4 = true)).1 (fit_kn (by decide +kernel : fitB (s_z sM45) 13 4 = true)).2 ⟨by decide, by decide⟩ dX12_init_199 ?_
  rw [k_sM45]
  refine gx_S (S' := sM46) rfl ?_
  refine fps_X12_83 (pc := 201) C rfl (zc (by decide +kernel)) (hI rfl) dX12_init_201 ?_
  refine gx_S (S' := sM47) rfl ?_
  refine g_aload_n (pc := 204) C dX12_init_204 rfl ?_
  refine g_iconst (pc := 205) (v := nI 4) C dX12_init_205 (by decide) ?_
  refine gm_int (pc := 206) C rfl (by decide) (fit_kn (by decide +kernel : fitB (s_z sM47) 13 4 = true)).1 (fit_kn (by decide +kernel : fitB (s_z sM47) 13 4 = true)).2 ⟨by decide, by decide⟩ dX12_init_206 ?_
  rw [k_sM47]
  refine gx_S (S' := sM48) rfl ?_
  refine fps_X12_86 (pc := 208) C rfl (zc (by decide +kernel)) (hI rfl) dX12_init_208 ?_
  refine gx_S (S' := sM49) rfl ?_
  refine g_aload_n (pc := 211) C dX12_init_211 rfl ?_
  refine g_iconst (pc := 212) (v := nI 4) C dX12_init_212 (by decide) ?_
  refine gm_boolean (pc := 213) C rfl (by decide) (fit_kn (by decide +kernel : fitB (s_z sM49) 15 4 = true)).1 (fit_kn (by decide +kernel : fitB (s_z sM49) 15 4 = true)).2 ⟨by decide, by decide⟩ dX12_init_213 ?_
  rw [k_sM49]
  refine gx_S (S' := sM50) rfl ?_
  refine fps_X12_89 (pc := 215) C rfl (zc (by decide +kernel)) (hI rfl) dX12_init_215 ?_
  refine gx_S (S' := sM51) rfl ?_
  exact k
def sME : St := sM51
theorem c_X12_init (w : Wd) (l : Launch) : gx_M w l yX12_init cX12_init 1 none rmIX12_init [.ref (ad (w_b w) 1000)] sM0 (pV sME) := by
  refine gx_start rfl 0 rfl (Nat.le_of_ble_eq_true rfl) ?_
  intro X C hI hl
  subst hl
  refine gx_L (L' := [some (.ref (ad (w_b w) 1000))]) rfl ?_
  refine wX12_init_0 C hI ?_
  refine wX12_init_1 C hI ?_
  refine wX12_init_2 C hI ?_
  exact g_return (pc := 218) C ⟨rfl, rfl⟩ dX12_init_218 ⟨rfl, rfl⟩
