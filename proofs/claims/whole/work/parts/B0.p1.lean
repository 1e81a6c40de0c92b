/-! ===== the constructors of AimFerry and of the reference, from nothing ===== -/
def sZ : St := (fun _ => 0, fun _ => 0, fun _ _ => none, fun _ _ => none, fun _ _ => 0, fun _ _ => 0, fun _ _ => 0, fun _ _ => 0, 0)
theorem gx_st {w : Wd} {X : FX} {S : St} {n1 n2 pc : Nat} {L : List (Option Value)} {st st' : List Value} {Q : State → Prop} (h : st = st') (k : gx_G w X S n1 n2 pc L st' Q) : gx_G w X S n1 n2 pc L st Q := h ▸ k
def sX0 : St := s_new sZ 10 0
theorem k_sX0 : kz (s_z sX0) = 1 := by decide +kernel
def sX1 : St := s_new sX0 9 0
def sX2 : St := mk_X10_init sX1 1
def sX3 : St := s_setR sX2 1000 0 (some 1)
theorem k_sX3 : kz (s_z sX3) = 3 := by decide +kernel
def sX4 : St := s_new sX3 1 0
def sX5 : St := mk_X1_init sX4 3 1
def sX6 : St := s_setR sX5 1001 0 (some 3)
theorem k_sX6 : kz (s_z sX6) = 4 := by decide +kernel
def sX7 : St := s_new sX6 7 0
def sX8 : St := mk_X8_init sX7 4 1
def sX9 : St := s_setR sX8 1002 0 (some 4)
theorem k_sX9 : kz (s_z sX9) = 6 := by decide +kernel
def sX10 : St := s_new sX9 17 6
def sX11 : St := s_setR sX10 1003 0 (some 6)
theorem k_sX11 : kz (s_z sX11) = 7 := by decide +kernel
def sX12 : St := s_new sX11 8 0
theorem k_sX12 : kz (s_z sX12) = 8 := by decide +kernel
def sX13 : St := s_new sX12 0 0
def sX14 : St := mk_X0_init sX13 8
def sX15 : St := mk_X9_init sX14 7 8
def sX16 : St := s_setR sX15 1004 0 (some 7)
theorem k_sX16 : kz (s_z sX16) = 16 := by decide +kernel
def sX17 : St := s_new sX16 18 4
def sX18 : St := s_setR sX17 1005 0 (some 16)
theorem k_sX18 : kz (s_z sX18) = 17 := by decide +kernel
def sX19 : St := s_new sX18 8 0
def sX20 : St := mk_X9_init sX19 17 8
def sX21 : St := s_setQ sX20 16 (va_up (s_Q sX20 16) 0 (some 17))
theorem k_sX21 : kz (s_z sX21) = 21 := by decide +kernel
def sX22 : St := s_new sX21 8 0
def sX23 : St := mk_X9_init sX22 21 8
def sX24 : St := s_setQ sX23 16 (va_up (s_Q sX23 16) 1 (some 21))
theorem k_sX24 : kz (s_z sX24) = 25 := by decide +kernel
def sX25 : St := s_new sX24 8 0
def sX26 : St := mk_X9_init sX25 25 8
def sX27 : St := s_setQ sX26 16 (va_up (s_Q sX26 16) 2 (some 25))
theorem k_sX27 : kz (s_z sX27) = 29 := by decide +kernel
def sX28 : St := s_new sX27 8 0
def sX29 : St := mk_X9_init sX28 29 8
def sX30 : St := s_setQ sX29 16 (va_up (s_Q sX29 16) 3 (some 29))
theorem k_sX30 : kz (s_z sX30) = 33 := by decide +kernel
def sX31 : St := s_new sX30 16 20
def sX32 : St := s_setR sX31 1006 0 (some 33)
theorem k_sX32 : kz (s_z sX32) = 34 := by decide +kernel
def sX33 : St := s_new sX32 5 0
def sX34 : St := mk_X6_init sX33 34
def sX35 : St := s_setQ sX34 33 (va_up (s_Q sX34 33) 0 (some 34))
theorem k_sX35 : kz (s_z sX35) = 36 := by decide +kernel
def sX36 : St := s_new sX35 5 0
def sX37 : St := mk_X6_init sX36 36
def sX38 : St := s_setQ sX37 33 (va_up (s_Q sX37 33) 1 (some 36))
theorem k_sX38 : kz (s_z sX38) = 38 := by decide +kernel
def sX39 : St := s_new sX38 5 0
def sX40 : St := mk_X6_init sX39 38
def sX41 : St := s_setQ sX40 33 (va_up (s_Q sX40 33) 2 (some 38))
theorem k_sX41 : kz (s_z sX41) = 40 := by decide +kernel
def sX42 : St := s_new sX41 5 0
def sX43 : St := mk_X6_init sX42 40
def sX44 : St := s_setQ sX43 33 (va_up (s_Q sX43 33) 3 (some 40))
theorem k_sX44 : kz (s_z sX44) = 42 := by decide +kernel
def sX45 : St := s_new sX44 5 0
def sX46 : St := mk_X6_init sX45 42
def sX47 : St := s_setQ sX46 33 (va_up (s_Q sX46 33) 4 (some 42))
theorem k_sX47 : kz (s_z sX47) = 44 := by decide +kernel
def sX48 : St := s_new sX47 5 0
def sX49 : St := mk_X6_init sX48 44
def sX50 : St := s_setQ sX49 33 (va_up (s_Q sX49 33) 5 (some 44))
theorem k_sX50 : kz (s_z sX50) = 46 := by decide +kernel
def sX51 : St := s_new sX50 5 0
def sX52 : St := mk_X6_init sX51 46
def sX53 : St := s_setQ sX52 33 (va_up (s_Q sX52 33) 6 (some 46))
theorem k_sX53 : kz (s_z sX53) = 48 := by decide +kernel
def sX54 : St := s_new sX53 5 0
def sX55 : St := mk_X6_init sX54 48
def sX56 : St := s_setQ sX55 33 (va_up (s_Q sX55 33) 7 (some 48))
theorem k_sX56 : kz (s_z sX56) = 50 := by decide +kernel
def sX57 : St := s_new sX56 5 0
def sX58 : St := mk_X6_init sX57 50
def sX59 : St := s_setQ sX58 33 (va_up (s_Q sX58 33) 8 (some 50))
theorem k_sX59 : kz (s_z sX59) = 52 := by decide +kernel
def sX60 : St := s_new sX59 5 0
def sX61 : St := mk_X6_init sX60 52
def sX62 : St := s_setQ sX61 33 (va_up (s_Q sX61 33) 9 (some 52))
theorem k_sX62 : kz (s_z sX62) = 54 := by decide +kernel
def sX63 : St := s_new sX62 5 0
def sX64 : St := mk_X6_init sX63 54
def sX65 : St := s_setQ sX64 33 (va_up (s_Q sX64 33) 10 (some 54))
theorem k_sX65 : kz (s_z sX65) = 56 := by decide +kernel
def sX66 : St := s_new sX65 5 0
def sX67 : St := mk_X6_init sX66 56
def sX68 : St := s_setQ sX67 33 (va_up (s_Q sX67 33) 11 (some 56))
theorem k_sX68 : kz (s_z sX68) = 58 := by decide +kernel
def sX69 : St := s_new sX68 5 0
def sX70 : St := mk_X6_init sX69 58
def sX71 : St := s_setQ sX70 33 (va_up (s_Q sX70 33) 12 (some 58))
theorem k_sX71 : kz (s_z sX71) = 60 := by decide +kernel
def sX72 : St := s_new sX71 5 0
def sX73 : St := mk_X6_init sX72 60
def sX74 : St := s_setQ sX73 33 (va_up (s_Q sX73 33) 13 (some 60))
theorem k_sX74 : kz (s_z sX74) = 62 := by decide +kernel
def sX75 : St := s_new sX74 5 0
def sX76 : St := mk_X6_init sX75 62
def sX77 : St := s_setQ sX76 33 (va_up (s_Q sX76 33) 14 (some 62))
theorem k_sX77 : kz (s_z sX77) = 64 := by decide +kernel
def sX78 : St := s_new sX77 5 0
def sX79 : St := mk_X6_init sX78 64
def sX80 : St := s_setQ sX79 33 (va_up (s_Q sX79 33) 15 (some 64))
theorem k_sX80 : kz (s_z sX80) = 66 := by decide +kernel
def sX81 : St := s_new sX80 5 0
def sX82 : St := mk_X6_init sX81 66
def sX83 : St := s_setQ sX82 33 (va_up (s_Q sX82 33) 16 (some 66))
theorem k_sX83 : kz (s_z sX83) = 68 := by decide +kernel
def sX84 : St := s_new sX83 5 0
def sX85 : St := mk_X6_init sX84 68
def sX86 : St := s_setQ sX85 33 (va_up (s_Q sX85 33) 17 (some 68))
theorem k_sX86 : kz (s_z sX86) = 70 := by decide +kernel
def sX87 : St := s_new sX86 5 0
def sX88 : St := mk_X6_init sX87 70
def sX89 : St := s_setQ sX88 33 (va_up (s_Q sX88 33) 18 (some 70))
theorem k_sX89 : kz (s_z sX89) = 72 := by decide +kernel
def sX90 : St := s_new sX89 5 0
def sX91 : St := mk_X6_init sX90 72
def sX92 : St := s_setQ sX91 33 (va_up (s_Q sX91 33) 19 (some 72))
theorem k_sX92 : kz (s_z sX92) = 74 := by decide +kernel
def sX93 : St := s_new sX92 4 0
def sX94 : St := mk_X4_init sX93 74
def sX95 : St := s_setR sX94 1007 0 (some 74)
theorem k_sX95 : kz (s_z sX95) = 82 := by decide +kernel
def sX96 : St := s_new sX95 2 0
def sX97 : St := mk_X2_init sX96 82
def sX98 : St := s_setR sX97 1008 0 (some 82)
theorem k_sX98 : kz (s_z sX98) = 90 := by decide +kernel
def sX99 : St := s_new sX98 0 0
def sX100 : St := mk_X0_init sX99 90
def sX101 : St := s_setR sX100 1009 0 (some 90)
def rmIX11_init : Room := { frames := 4, cells := 94, slots := 2430, locals := 82 }
theorem wX11_init_0 {w : Wd} {j : SJ} {X : FX} {Q : State → Prop} (C : gx_C w X cX11_init 2 RX11 rmIX11_init none) (V : gx_V w j (x_s X)) (hI : yX11_init.name = "<init>" → (x_M X).name = "<init>") (k : gx_G w X sX16 15 1040 72 [some (.ref (ad (w_b w) 0)), none] [] Q) : gx_G w X sX0 0 0 0 [some (.ref (ad (w_b w) 0)), none] [] Q := by
  refine g_aload_n (pc := 0) C dX11_init_0 rfl ?_
  refine go_X11_1 (pc := 1) C rfl (Nat.le_of_ble_eq_true rfl) ⟨rfl, rfl⟩ dX11_init_1 ?_
  refine g_aload_n (pc := 4) C dX11_init_4 rfl ?_
  refine gn_X11_7 (pc := 5) C (fit_kn (by decide +kernel : fitB (s_z sX0) 9 0 = true)).1 (fit_kn (by decide +kernel : fitB (s_z sX0) 9 0 = true)).2 ⟨by decide, by decide⟩ dX11_init_5 ?_
  rw [k_sX0]
  refine gx_S (S' := sX1) rfl ?_
  refine g_dup (pc := 8) C dX11_init_8 rfl ?_
  refine ci_X11_9 (pc := 9) C V (c_X10_init w _ sX1 1 ⟨rfl, (zc (by decide +kernel))⟩ ⟨by decide +kernel, trivial⟩) ⟨rfl, rfl⟩ ⟨by decide, by decide⟩ rfl (Nat.le_of_ble_eq_true rfl) dX11_init_9 ?_
  rintro _ _ ⟨rfl, rfl⟩
  refine gx_S (S' := sX2) rfl ?_
  refine gx_st (st' := [.ref (ad (w_b w) 1), .ref (ad (w_b w) 0)]) rfl ?_
  refine fps_X11_10 (pc := 12) C rfl (zc (by decide +kernel)) (hI rfl) dX11_init_12 ?_
  refine gx_S (S' := sX3) rfl ?_
  refine g_aload_n (pc := 15) C dX11_init_15 rfl ?_
  refine gn_X11_16 (pc := 16) C (fit_kn (by decide +kernel : fitB (s_z sX3) 1 0 = true)).1 (fit_kn (by decide +kernel : fitB (s_z sX3) 1 0 = true)).2 ⟨by decide, by decide⟩ dX11_init_16 ?_
  rw [k_sX3]
  refine gx_S (S' := sX4) rfl ?_
  refine g_dup (pc := 19) C dX11_init_19 rfl ?_
  refine g_aload_n (pc := 20) C dX11_init_20 rfl ?_
  refine fgr_X11_10 (pc := 21) (j := 1) C rfl (zc (by decide +kernel)) (by decide +kernel) dX11_init_21 ?_
  refine ci_X11_18 (pc := 24) C (c_X1_init w _ sX4 3 1 ⟨rfl, (zc (by decide +kernel))⟩ trivial) ⟨rfl, rfl⟩ ⟨by decide, by decide⟩ rfl (Nat.le_of_ble_eq_true rfl) dX11_init_24 ?_
  rintro _ _ ⟨rfl, rfl⟩
  refine gx_S (S' := sX5) rfl ?_
  refine gx_st (st' := [.ref (ad (w_b w) 3), .ref (ad (w_b w) 0)]) rfl ?_
  refine fps_X11_21 (pc := 27) C rfl (zc (by decide +kernel)) (hI rfl) dX11_init_27 ?_
  refine gx_S (S' := sX6) rfl ?_
  refine g_aload_n (pc := 30) C dX11_init_30 rfl ?_
  refine gn_X11_25 (pc := 31) C (fit_kn (by decide +kernel : fitB (s_z sX6) 7 0 = true)).1 (fit_kn (by decide +kernel : fitB (s_z sX6) 7 0 = true)).2 ⟨by decide, by decide⟩ dX11_init_31 ?_
  rw [k_sX6]
  refine gx_S (S' := sX7) rfl ?_
  refine g_dup (pc := 34) C dX11_init_34 rfl ?_
  refine g_aload_n (pc := 35) C dX11_init_35 rfl ?_
  refine fgr_X11_10 (pc := 36) (j := 1) C rfl (zc (by decide +kernel)) (by decide +kernel) dX11_init_36 ?_
  refine ci_X11_27 (pc := 39) C (c_X8_init w _ sX7 4 1 ⟨rfl, (zc (by decide +kernel))⟩ ⟨by decide +kernel, trivial⟩) ⟨rfl, rfl⟩ ⟨by decide, by decide⟩ rfl (Nat.le_of_ble_eq_true rfl) dX11_init_39 ?_
  rintro _ _ ⟨rfl, rfl⟩
  refine gx_S (S' := sX8) rfl ?_
  refine gx_st (st' := [.ref (ad (w_b w) 4), .ref (ad (w_b w) 0)]) rfl ?_
  refine fps_X11_28 (pc := 42) C rfl (zc (by decide +kernel)) (hI rfl) dX11_init_42 ?_
  refine gx_S (S' := sX9) rfl ?_
  refine g_aload_n (pc := 45) C dX11_init_45 rfl ?_
  refine g_bipush (pc := 46) (v := nI 6) C dX11_init_46 (by decide) ?_
  refine ga_X11_32 (pc := 48) C V rfl (by decide) (fit_kn (by decide +kernel : fitB (s_z sX9) 17 6 = true)).1 (fit_kn (by decide +kernel : fitB (s_z sX9) 17 6 = true)).2 ⟨by decide, by decide⟩ dX11_init_48 ?_
  rw [k_sX9]
  refine gx_S (S' := sX10) rfl ?_
  refine fps_X11_34 (pc := 51) C rfl (zc (by decide +kernel)) (hI rfl) dX11_init_51 ?_
  refine gx_S (S' := sX11) rfl ?_
  refine g_aload_n (pc := 54) C dX11_init_54 rfl ?_
  refine gn_X11_38 (pc := 55) C (fit_kn (by decide +kernel : fitB (s_z sX11) 8 0 = true)).1 (fit_kn (by decide +kernel : fitB (s_z sX11) 8 0 = true)).2 ⟨by decide, by decide⟩ dX11_init_55 ?_
  rw [k_sX11]
  refine gx_S (S' := sX12) rfl ?_
  refine g_dup (pc := 58) C dX11_init_58 rfl ?_
  refine gn_X11_40 (pc := 59) C (fit_kn (by decide +kernel : fitB (s_z sX12) 0 0 = true)).1 (fit_kn (by decide +kernel : fitB (s_z sX12) 0 0 = true)).2 ⟨by decide, by decide⟩ dX11_init_59 ?_
  rw [k_sX12]
  refine gx_S (S' := sX13) rfl ?_
  refine g_dup (pc := 62) C dX11_init_62 rfl ?_
  refine ci_X11_42 (pc := 63) C V (c_X0_init w _ sX13 8 ⟨rfl, (zc (by decide +kernel))⟩ ⟨by decide +kernel, by decide +kernel, by decide +kernel, by decide +kernel, trivial⟩) ⟨rfl, rfl⟩ ⟨by decide, by decide⟩ rfl (Nat.le_of_ble_eq_true rfl) dX11_init_63 ?_
  rintro _ _ ⟨rfl, rfl⟩
  refine gx_S (S' := sX14) rfl ?_
  refine gx_st (st' := [.ref (ad (w_b w) 8), .ref (ad (w_b w) 7), .ref (ad (w_b w) 7), .ref (ad (w_b w) 0)]) rfl ?_
  refine ci_X11_43 (pc := 66) C V (c_X9_init w j _ sX14 7 8 ⟨rfl, (zc (by decide +kernel))⟩ ⟨by decide +kernel, by decide +kernel, by decide +kernel, trivial⟩) ⟨rfl, rfl⟩ ⟨by decide, by decide⟩ rfl (Nat.le_of_ble_eq_true rfl) dX11_init_66 ?_
  rintro _ _ ⟨rfl, rfl⟩
  refine gx_S (S' := sX15) rfl ?_
  refine gx_st (st' := [.ref (ad (w_b w) 7), .ref (ad (w_b w) 0)]) rfl ?_
  refine fps_X11_46 (pc := 69) C rfl (zc (by decide +kernel)) (hI rfl) dX11_init_69 ?_
  refine gx_S (S' := sX16) rfl ?_
  exact k
theorem wX11_init_1 {w : Wd} {j : SJ} {X : FX} {Q : State → Prop} (C : gx_C w X cX11_init 2 RX11 rmIX11_init none) (V : gx_V w j (x_s X)) (hI : yX11_init.name = "<init>" → (x_M X).name = "<init>") (k : gx_G w X sX27 28 1134 107 [some (.ref (ad (w_b w) 0)), some (.int (nI 2))] [] Q) : gx_G w X sX16 15 1040 72 [some (.ref (ad (w_b w) 0)), none] [] Q := by
  refine g_aload_n (pc := 72) C dX11_init_72 rfl ?_
  refine g_iconst (pc := 73) (v := nI 4) C dX11_init_73 (by decide) ?_
  refine ga_X11_38 (pc := 74) C V rfl (by decide) (fit_kn (by decide +kernel : fitB (s_z sX16) 18 4 = true)).1 (fit_kn (by decide +kernel : fitB (s_z sX16) 18 4 = true)).2 ⟨by decide, by decide⟩ dX11_init_74 ?_
  rw [k_sX16]
  refine gx_S (S' := sX17) rfl ?_
  refine fps_X11_50 (pc := 77) C rfl (zc (by decide +kernel)) (hI rfl) dX11_init_77 ?_
  refine gx_S (S' := sX18) rfl ?_
  refine g_iconst (pc := 80) (v := nI 0) C dX11_init_80 (by decide) ?_
  refine g_istore_n (pc := 81) (L' := [some (.ref (ad (w_b w) 0)), some (.int (nI 0))]) C dX11_init_81 rfl rfl ?_
  refine g_iload_n (pc := 82) C dX11_init_82 rfl ?_
  refine g_iconst (pc := 83) (v := nI 4) C dX11_init_83 (by decide) ?_
  refine g_icmp_ge (pc := 84) C 113 dX11_init_84 rfl (fun c => ?_) (fun c => ?_)
  · exact absurd c (by decide)
  refine g_aload_n (pc := 87) C dX11_init_87 rfl ?_
  refine fgr_X11_50 (pc := 88) (j := 16) C rfl (zc (by decide +kernel)) (by decide +kernel) dX11_init_88 ?_
  refine g_iload_n (pc := 91) C dX11_init_91 rfl ?_
  refine gn_X11_38 (pc := 92) C (fit_kn (by decide +kernel : fitB (s_z sX18) 8 0 = true)).1 (fit_kn (by decide +kernel : fitB (s_z sX18) 8 0 = true)).2 ⟨by decide, by decide⟩ dX11_init_92 ?_
  rw [k_sX18]
  refine gx_S (S' := sX19) rfl ?_
  refine g_dup (pc := 95) C dX11_init_95 rfl ?_
  refine g_aload_n (pc := 96) C dX11_init_96 rfl ?_
  refine fgr_X11_46 (pc := 97) (j := 7) C rfl (zc (by decide +kernel)) (by decide +kernel) dX11_init_97 ?_
  refine fgr_X11_54 (pc := 100) (j := 8) C rfl (zc (by decide +kernel)) (by decide +kernel) dX11_init_100 ?_
  refine ci_X11_43 (pc := 103) C V (c_X9_init w j _ sX19 17 8 ⟨rfl, (zc (by decide +kernel))⟩ ⟨by decide +kernel, by decide +kernel, by decide +kernel, trivial⟩) ⟨rfl, rfl⟩ ⟨by decide, by decide⟩ rfl (Nat.le_of_ble_eq_true rfl) dX11_init_103 ?_
  rintro _ _ ⟨rfl, rfl⟩
  refine gx_S (S' := sX20) rfl ?_
  refine gx_st (st' := [.ref (ad (w_b w) 17), .int (nI 0), .ref (ad (w_b w) 16)]) rfl ?_
  refine gs_scene (pc := 106) (n := 4) (j := 0) C rfl rfl (zc (by decide +kernel)) rfl (zc (by decide +kernel)) rfl (by decide) (by decide) dX11_init_106 ?_
  refine gx_S (S' := sX21) rfl ?_
  refine g_iinc (pc := 107) (L' := [some (.ref (ad (w_b w) 0)), some (.int (nI 1))]) C dX11_init_107 rfl (nI_1 _) rfl ?_
  refine g_goto (pc := 110) C 82 dX11_init_110 rfl ?_
  refine g_iload_n (pc := 82) C dX11_init_82 rfl ?_
  refine g_iconst (pc := 83) (v := nI 4) C dX11_init_83 (by decide) ?_
  refine g_icmp_ge (pc := 84) C 113 dX11_init_84 rfl (fun c => ?_) (fun c => ?_)
  · exact absurd c (by decide)
  refine g_aload_n (pc := 87) C dX11_init_87 rfl ?_
  refine fgr_X11_50 (pc := 88) (j := 16) C rfl (zc (by decide +kernel)) (by decide +kernel) dX11_init_88 ?_
  refine g_iload_n (pc := 91) C dX11_init_91 rfl ?_
  refine gn_X11_38 (pc := 92) C (fit_kn (by decide +kernel : fitB (s_z sX21) 8 0 = true)).1 (fit_kn (by decide +kernel : fitB (s_z sX21) 8 0 = true)).2 ⟨by decide, by decide⟩ dX11_init_92 ?_
  rw [k_sX21]
  refine gx_S (S' := sX22) rfl ?_
  refine g_dup (pc := 95) C dX11_init_95 rfl ?_
  refine g_aload_n (pc := 96) C dX11_init_96 rfl ?_
  refine fgr_X11_46 (pc := 97) (j := 7) C rfl (zc (by decide +kernel)) (by decide +kernel) dX11_init_97 ?_
  refine fgr_X11_54 (pc := 100) (j := 8) C rfl (zc (by decide +kernel)) (by decide +kernel) dX11_init_100 ?_
  refine ci_X11_43 (pc := 103) C V (c_X9_init w j _ sX22 21 8 ⟨rfl, (zc (by decide +kernel))⟩ ⟨by decide +kernel, by decide +kernel, by decide +kernel, trivial⟩) ⟨rfl, rfl⟩ ⟨by decide, by decide⟩ rfl (Nat.le_of_ble_eq_true rfl) dX11_init_103 ?_
  rintro _ _ ⟨rfl, rfl⟩
  refine gx_S (S' := sX23) rfl ?_
  refine gx_st (st' := [.ref (ad (w_b w) 21), .int (nI 1), .ref (ad (w_b w) 16)]) rfl ?_
  refine gs_scene (pc := 106) (n := 4) (j := 1) C rfl rfl (zc (by decide +kernel)) rfl (zc (by decide +kernel)) rfl (by decide) (by decide) dX11_init_106 ?_
  refine gx_S (S' := sX24) rfl ?_
  refine g_iinc (pc := 107) (L' := [some (.ref (ad (w_b w) 0)), some (.int (nI 2))]) C dX11_init_107 rfl (nI_1 _) rfl ?_
  refine g_goto (pc := 110) C 82 dX11_init_110 rfl ?_
  refine g_iload_n (pc := 82) C dX11_init_82 rfl ?_
  refine g_iconst (pc := 83) (v := nI 4) C dX11_init_83 (by decide) ?_
  refine g_icmp_ge (pc := 84) C 113 dX11_init_84 rfl (fun c => ?_) (fun c => ?_)
  · exact absurd c (by decide)
  refine g_aload_n (pc := 87) C dX11_init_87 rfl ?_
  refine fgr_X11_50 (pc := 88) (j := 16) C rfl (zc (by decide +kernel)) (by decide +kernel) dX11_init_88 ?_
  refine g_iload_n (pc := 91) C dX11_init_91 rfl ?_
  refine gn_X11_38 (pc := 92) C (fit_kn (by decide +kernel : fitB (s_z sX24) 8 0 = true)).1 (fit_kn (by decide +kernel : fitB (s_z sX24) 8 0 = true)).2 ⟨by decide, by decide⟩ dX11_init_92 ?_
  rw [k_sX24]
  refine gx_S (S' := sX25) rfl ?_
  refine g_dup (pc := 95) C dX11_init_95 rfl ?_
  refine g_aload_n (pc := 96) C dX11_init_96 rfl ?_
  refine fgr_X11_46 (pc := 97) (j := 7) C rfl (zc (by decide +kernel)) (by decide +kernel) dX11_init_97 ?_
  refine fgr_X11_54 (pc := 100) (j := 8) C rfl (zc (by decide +kernel)) (by decide +kernel) dX11_init_100 ?_
  refine ci_X11_43 (pc := 103) C V (c_X9_init w j _ sX25 25 8 ⟨rfl, (zc (by decide +kernel))⟩ ⟨by decide +kernel, by decide +kernel, by decide +kernel, trivial⟩) ⟨rfl, rfl⟩ ⟨by decide, by decide⟩ rfl (Nat.le_of_ble_eq_true rfl) dX11_init_103 ?_
  rintro _ _ ⟨rfl, rfl⟩
  refine gx_S (S' := sX26) rfl ?_
  refine gx_st (st' := [.ref (ad (w_b w) 25), .int (nI 2), .ref (ad (w_b w) 16)]) rfl ?_
  refine gs_scene (pc := 106) (n := 4) (j := 2) C rfl rfl (zc (by decide +kernel)) rfl (zc (by decide +kernel)) rfl (by decide) (by decide) dX11_init_106 ?_
  refine gx_S (S' := sX27) rfl ?_
  exact k
theorem wX11_init_2 {w : Wd} {j : SJ} {X : FX} {Q : State → Prop} (C : gx_C w X cX11_init 2 RX11 rmIX11_init none) (V : gx_V w j (x_s X)) (hI : yX11_init.name = "<init>" → (x_M X).name = "<init>") (k : gx_G w X sX38 37 1210 143 [some (.ref (ad (w_b w) 0)), some (.int (nI 1))] [] Q) : gx_G w X sX27 28 1134 107 [some (.ref (ad (w_b w) 0)), some (.int (nI 2))] [] Q := by
  refine g_iinc (pc := 107) (L' := [some (.ref (ad (w_b w) 0)), some (.int (nI 3))]) C dX11_init_107 rfl (nI_1 _) rfl ?_
  refine g_goto (pc := 110) C 82 dX11_init_110 rfl ?_
  refine g_iload_n (pc := 82) C dX11_init_82 rfl ?_
  refine g_iconst (pc := 83) (v := nI 4) C dX11_init_83 (by decide) ?_
  refine g_icmp_ge (pc := 84) C 113 dX11_init_84 rfl (fun c => ?_) (fun c => ?_)
  · exact absurd c (by decide)
  refine g_aload_n (pc := 87) C dX11_init_87 rfl ?_
  refine fgr_X11_50 (pc := 88) (j := 16) C rfl (zc (by decide +kernel)) (by decide +kernel) dX11_init_88 ?_
  refine g_iload_n (pc := 91) C dX11_init_91 rfl ?_
  refine gn_X11_38 (pc := 92) C (fit_kn (by decide +kernel : fitB (s_z sX27) 8 0 = true)).1 (fit_kn (by decide +kernel : fitB (s_z sX27) 8 0 = true)).2 ⟨by decide, by decide⟩ dX11_init_92 ?_
  rw [k_sX27]
  refine gx_S (S' := sX28) rfl ?_
  refine g_dup (pc := 95) C dX11_init_95 rfl ?_
  refine g_aload_n (pc := 96) C dX11_init_96 rfl ?_
  refine fgr_X11_46 (pc := 97) (j := 7) C rfl (zc (by decide +kernel)) (by decide +kernel) dX11_init_97 ?_
  refine fgr_X11_54 (pc := 100) (j := 8) C rfl (zc (by decide +kernel)) (by decide +kernel) dX11_init_100 ?_
  refine ci_X11_43 (pc := 103) C V (c_X9_init w j _ sX28 29 8 ⟨rfl, (zc (by decide +kernel))⟩ ⟨by decide +kernel, by decide +kernel, by decide +kernel, trivial⟩) ⟨rfl, rfl⟩ ⟨by decide, by decide⟩ rfl (Nat.le_of_ble_eq_true rfl) dX11_init_103 ?_
  rintro _ _ ⟨rfl, rfl⟩
  refine gx_S (S' := sX29) rfl ?_
  refine gx_st (st' := [.ref (ad (w_b w) 29), .int (nI 3), .ref (ad (w_b w) 16)]) rfl ?_
  refine gs_scene (pc := 106) (n := 4) (j := 3) C rfl rfl (zc (by decide +kernel)) rfl (zc (by decide +kernel)) rfl (by decide) (by decide) dX11_init_106 ?_
  refine gx_S (S' := sX30) rfl ?_
  refine g_iinc (pc := 107) (L' := [some (.ref (ad (w_b w) 0)), some (.int (nI 4))]) C dX11_init_107 rfl (nI_1 _) rfl ?_
  refine g_goto (pc := 110) C 82 dX11_init_110 rfl ?_
  refine g_iload_n (pc := 82) C dX11_init_82 rfl ?_
  refine g_iconst (pc := 83) (v := nI 4) C dX11_init_83 (by decide) ?_
  refine g_icmp_ge (pc := 84) C 113 dX11_init_84 rfl (fun c => ?_) (fun c => ?_)
  rotate_left
  · exact absurd (by decide) c
  refine g_aload_n (pc := 113) C dX11_init_113 rfl ?_
  refine g_bipush (pc := 114) (v := nI 20) C dX11_init_114 (by decide) ?_
  refine ga_X11_58 (pc := 116) C V rfl (by decide) (fit_kn (by decide +kernel : fitB (s_z sX30) 16 20 = true)).1 (fit_kn (by decide +kernel : fitB (s_z sX30) 16 20 = true)).2 ⟨by decide, by decide⟩ dX11_init_116 ?_
  rw [k_sX30]
  refine gx_S (S' := sX31) rfl ?_
  refine fps_X11_60 (pc := 119) C rfl (zc (by decide +kernel)) (hI rfl) dX11_init_119 ?_
  refine gx_S (S' := sX32) rfl ?_
  refine g_iconst (pc := 122) (v := nI 0) C dX11_init_122 (by decide) ?_
  refine g_istore_n (pc := 123) (L' := [some (.ref (ad (w_b w) 0)), some (.int (nI 0))]) C dX11_init_123 rfl rfl ?_
  refine g_iload_n (pc := 124) C dX11_init_124 rfl ?_
  refine g_bipush (pc := 125) (v := nI 20) C dX11_init_125 (by decide) ?_
  refine g_icmp_ge (pc := 127) C 149 dX11_init_127 rfl (fun c => ?_) (fun c => ?_)
  · exact absurd c (by decide)
  refine g_aload_n (pc := 130) C dX11_init_130 rfl ?_
  refine fgr_X11_60 (pc := 131) (j := 33) C rfl (zc (by decide +kernel)) (by decide +kernel) dX11_init_131 ?_
  refine g_iload_n (pc := 134) C dX11_init_134 rfl ?_
  refine gn_X11_58 (pc := 135) C (fit_kn (by decide +kernel : fitB (s_z sX32) 5 0 = true)).1 (fit_kn (by decide +kernel : fitB (s_z sX32) 5 0 = true)).2 ⟨by decide, by decide⟩ dX11_init_135 ?_
  rw [k_sX32]
  refine gx_S (S' := sX33) rfl ?_
  refine g_dup (pc := 138) C dX11_init_138 rfl ?_
  refine ci_X11_64 (pc := 139) C V (c_X6_init w _ sX33 34 ⟨rfl, (zc (by decide +kernel))⟩ ⟨by decide +kernel, trivial⟩) ⟨rfl, rfl⟩ ⟨by decide, by decide⟩ rfl (Nat.le_of_ble_eq_true rfl) dX11_init_139 ?_
  rintro _ _ ⟨rfl, rfl⟩
  refine gx_S (S' := sX34) rfl ?_
  refine gx_st (st' := [.ref (ad (w_b w) 34), .int (nI 0), .ref (ad (w_b w) 33)]) rfl ?_
  refine gs_river (pc := 142) (n := 20) (j := 0) C rfl rfl (zc (by decide +kernel)) rfl (zc (by decide +kernel)) rfl (by decide) (by decide) dX11_init_142 ?_
  refine gx_S (S' := sX35) rfl ?_
  refine g_iinc (pc := 143) (L' := [some (.ref (ad (w_b w) 0)), some (.int (nI 1))]) C dX11_init_143 rfl (nI_1 _) rfl ?_
  refine g_goto (pc := 146) C 124 dX11_init_146 rfl ?_
  refine g_iload_n (pc := 124) C dX11_init_124 rfl ?_
  refine g_bipush (pc := 125) (v := nI 20) C dX11_init_125 (by decide) ?_
  refine g_icmp_ge (pc := 127) C 149 dX11_init_127 rfl (fun c => ?_) (fun c => ?_)
  · exact absurd c (by decide)
  refine g_aload_n (pc := 130) C dX11_init_130 rfl ?_
  refine fgr_X11_60 (pc := 131) (j := 33) C rfl (zc (by decide +kernel)) (by decide +kernel) dX11_init_131 ?_
  refine g_iload_n (pc := 134) C dX11_init_134 rfl ?_
  refine gn_X11_58 (pc := 135) C (fit_kn (by decide +kernel : fitB (s_z sX35) 5 0 = true)).1 (fit_kn (by decide +kernel : fitB (s_z sX35) 5 0 = true)).2 ⟨by decide, by decide⟩ dX11_init_135 ?_
  rw [k_sX35]
  refine gx_S (S' := sX36) rfl ?_
  refine g_dup (pc := 138) C dX11_init_138 rfl ?_
  refine ci_X11_64 (pc := 139) C V (c_X6_init w _ sX36 36 ⟨rfl, (zc (by decide +kernel))⟩ ⟨by decide +kernel, trivial⟩) ⟨rfl, rfl⟩ ⟨by decide, by decide⟩ rfl (Nat.le_of_ble_eq_true rfl) dX11_init_139 ?_
  rintro _ _ ⟨rfl, rfl⟩
  refine gx_S (S' := sX37) rfl ?_
  refine gx_st (st' := [.ref (ad (w_b w) 36), .int (nI 1), .ref (ad (w_b w) 33)]) rfl ?_
  refine gs_river (pc := 142) (n := 20) (j := 1) C rfl rfl (zc (by decide +kernel)) rfl (zc (by decide +kernel)) rfl (by decide) (by decide) dX11_init_142 ?_
  refine gx_S (S' := sX38) rfl ?_
  exact k
theorem wX11_init_3 {w : Wd} {j : SJ} {X : FX} {Q : State → Prop} (C : gx_C w X cX11_init 2 RX11 rmIX11_init none) (V : gx_V w j (x_s X)) (hI : yX11_init.name = "<init>" → (x_M X).name = "<init>") (k : gx_G w X sX50 45 1262 143 [some (.ref (ad (w_b w) 0)), some (.int (nI 5))] [] Q) : gx_G w X sX38 37 1210 143 [some (.ref (ad (w_b w) 0)), some (.int (nI 1))] [] Q := by
  refine g_iinc (pc := 143) (L' := [some (.ref (ad (w_b w) 0)), some (.int (nI 2))]) C dX11_init_143 rfl (nI_1 _) rfl ?_
  refine g_goto (pc := 146) C 124 dX11_init_146 rfl ?_
  refine g_iload_n (pc := 124) C dX11_init_124 rfl ?_
  refine g_bipush (pc := 125) (v := nI 20) C dX11_init_125 (by decide) ?_
  refine g_icmp_ge (pc := 127) C 149 dX11_init_127 rfl (fun c => ?_) (fun c => ?_)
  · exact absurd c (by decide)
  refine g_aload_n (pc := 130) C dX11_init_130 rfl ?_
  refine fgr_X11_60 (pc := 131) (j := 33) C rfl (zc (by decide +kernel)) (by decide +kernel) dX11_init_131 ?_
  refine g_iload_n (pc := 134) C dX11_init_134 rfl ?_
  refine gn_X11_58 (pc := 135) C (fit_kn (by decide +kernel : fitB (s_z sX38) 5 0 = true)).1 (fit_kn (by decide +kernel : fitB (s_z sX38) 5 0 = true)).2 ⟨by decide, by decide⟩ dX11_init_135 ?_
  rw [k_sX38]
  refine gx_S (S' := sX39) rfl ?_
  refine g_dup (pc := 138) C dX11_init_138 rfl ?_
  refine ci_X11_64 (pc := 139) C V (c_X6_init w _ sX39 38 ⟨rfl, (zc (by decide +kernel))⟩ ⟨by decide +kernel, trivial⟩) ⟨rfl, rfl⟩ ⟨by decide, by decide⟩ rfl (Nat.le_of_ble_eq_true rfl) dX11_init_139 ?_
  rintro _ _ ⟨rfl, rfl⟩
  refine gx_S (S' := sX40) rfl ?_
  refine gx_st (st' := [.ref (ad (w_b w) 38), .int (nI 2), .ref (ad (w_b w) 33)]) rfl ?_
  refine gs_river (pc := 142) (n := 20) (j := 2) C rfl rfl (zc (by decide +kernel)) rfl (zc (by decide +kernel)) rfl (by decide) (by decide) dX11_init_142 ?_
  refine gx_S (S' := sX41) rfl ?_
  refine g_iinc (pc := 143) (L' := [some (.ref (ad (w_b w) 0)), some (.int (nI 3))]) C dX11_init_143 rfl (nI_1 _) rfl ?_
  refine g_goto (pc := 146) C 124 dX11_init_146 rfl ?_
  refine g_iload_n (pc := 124) C dX11_init_124 rfl ?_
  refine g_bipush (pc := 125) (v := nI 20) C dX11_init_125 (by decide) ?_
  refine g_icmp_ge (pc := 127) C 149 dX11_init_127 rfl (fun c => ?_) (fun c => ?_)
  · exact absurd c (by decide)
  refine g_aload_n (pc := 130) C dX11_init_130 rfl ?_
  refine fgr_X11_60 (pc := 131) (j := 33) C rfl (zc (by decide +kernel)) (by decide +kernel) dX11_init_131 ?_
  refine g_iload_n (pc := 134) C dX11_init_134 rfl ?_
  refine gn_X11_58 (pc := 135) C (fit_kn (by decide +kernel : fitB (s_z sX41) 5 0 = true)).1 (fit_kn (by decide +kernel : fitB (s_z sX41) 5 0 = true)).2 ⟨by decide, by decide⟩ dX11_init_135 ?_
  rw [k_sX41]
  refine gx_S (S' := sX42) rfl ?_
  refine g_dup (pc := 138) C dX11_init_138 rfl ?_
  refine ci_X11_64 (pc := 139) C V (c_X6_init w _ sX42 40 ⟨rfl, (zc (by decide +kernel))⟩ ⟨by decide +kernel, trivial⟩) ⟨rfl, rfl⟩ ⟨by decide, by decide⟩ rfl (Nat.le_of_ble_eq_true rfl) dX11_init_139 ?_
  rintro _ _ ⟨rfl, rfl⟩
  refine gx_S (S' := sX43) rfl ?_
  refine gx_st (st' := [.ref (ad (w_b w) 40), .int (nI 3), .ref (ad (w_b w) 33)]) rfl ?_
  refine gs_river (pc := 142) (n := 20) (j := 3) C rfl rfl (zc (by decide +kernel)) rfl (zc (by decide +kernel)) rfl (by decide) (by decide) dX11_init_142 ?_
  refine gx_S (S' := sX44) rfl ?_
  refine g_iinc (pc := 143) (L' := [some (.ref (ad (w_b w) 0)), some (.int (nI 4))]) C dX11_init_143 rfl (nI_1 _) rfl ?_
  refine g_goto (pc := 146) C 124 dX11_init_146 rfl ?_
  refine g_iload_n (pc := 124) C dX11_init_124 rfl ?_
  refine g_bipush (pc := 125) (v := nI 20) C dX11_init_125 (by decide) ?_
  refine g_icmp_ge (pc := 127) C 149 dX11_init_127 rfl (fun c => ?_) (fun c => ?_)
  · exact absurd c (by decide)
  refine g_aload_n (pc := 130) C dX11_init_130 rfl ?_
  refine fgr_X11_60 (pc := 131) (j := 33) C rfl (zc (by decide +kernel)) (by decide +kernel) dX11_init_131 ?_
  refine g_iload_n (pc := 134) C dX11_init_134 rfl ?_
  refine gn_X11_58 (pc := 135) C (fit_kn (by decide +kernel : fitB (s_z sX44) 5 0 = true)).1 (fit_kn (by decide +kernel : fitB (s_z sX44) 5 0 = true)).2 ⟨by decide, by decide⟩ dX11_init_135 ?_
  rw [k_sX44]
  refine gx_S (S' := sX45) rfl ?_
  refine g_dup (pc := 138) C dX11_init_138 rfl ?_
  refine ci_X11_64 (pc := 139) C V (c_X6_init w _ sX45 42 ⟨rfl, (zc (by decide +kernel))⟩ ⟨by decide +kernel, trivial⟩) ⟨rfl, rfl⟩ ⟨by decide, by decide⟩ rfl (Nat.le_of_ble_eq_true rfl) dX11_init_139 ?_
  rintro _ _ ⟨rfl, rfl⟩
  refine gx_S (S' := sX46) rfl ?_
  refine gx_st (st' := [.ref (ad (w_b w) 42), .int (nI 4), .ref (ad (w_b w) 33)]) rfl ?_
  refine gs_river (pc := 142) (n := 20) (j := 4) C rfl rfl (zc (by decide +kernel)) rfl (zc (by decide +kernel)) rfl (by decide) (by decide) dX11_init_142 ?_
  refine gx_S (S' := sX47) rfl ?_
  refine g_iinc (pc := 143) (L' := [some (.ref (ad (w_b w) 0)), some (.int (nI 5))]) C dX11_init_143 rfl (nI_1 _) rfl ?_
  refine g_goto (pc := 146) C 124 dX11_init_146 rfl ?_
  refine g_iload_n (pc := 124) C dX11_init_124 rfl ?_
  refine g_bipush (pc := 125) (v := nI 20) C dX11_init_125 (by decide) ?_
  refine g_icmp_ge (pc := 127) C 149 dX11_init_127 rfl (fun c => ?_) (fun c => ?_)
  · exact absurd c (by decide)
  refine g_aload_n (pc := 130) C dX11_init_130 rfl ?_
  refine fgr_X11_60 (pc := 131) (j := 33) C rfl (zc (by decide +kernel)) (by decide +kernel) dX11_init_131 ?_
  refine g_iload_n (pc := 134) C dX11_init_134 rfl ?_
  refine gn_X11_58 (pc := 135) C (fit_kn (by decide +kernel : fitB (s_z sX47) 5 0 = true)).1 (fit_kn (by decide +kernel : fitB (s_z sX47) 5 0 = true)).2 ⟨by decide, by decide⟩ dX11_init_135 ?_
  rw [k_sX47]
  refine gx_S (S' := sX48) rfl ?_
  refine g_dup (pc := 138) C dX11_init_138 rfl ?_
  refine ci_X11_64 (pc := 139) C V (c_X6_init w _ sX48 44 ⟨rfl, (zc (by decide +kernel))⟩ ⟨by decide +kernel, trivial⟩) ⟨rfl, rfl⟩ ⟨by decide, by decide⟩ rfl (Nat.le_of_ble_eq_true rfl) dX11_init_139 ?_
  rintro _ _ ⟨rfl, rfl⟩
  refine gx_S (S' := sX49) rfl ?_
  refine gx_st (st' := [.ref (ad (w_b w) 44), .int (nI 5), .ref (ad (w_b w) 33)]) rfl ?_
  refine gs_river (pc := 142) (n := 20) (j := 5) C rfl rfl (zc (by decide +kernel)) rfl (zc (by decide +kernel)) rfl (by decide) (by decide) dX11_init_142 ?_
  refine gx_S (S' := sX50) rfl ?_
  exact k
theorem wX11_init_4 {w : Wd} {j : SJ} {X : FX} {Q : State → Prop} (C : gx_C w X cX11_init 2 RX11 rmIX11_init none) (V : gx_V w j (x_s X)) (hI : yX11_init.name = "<init>" → (x_M X).name = "<init>") (k : gx_G w X sX62 53 1314 143 [some (.ref (ad (w_b w) 0)), some (.int (nI 9))] [] Q) : gx_G w X sX50 45 1262 143 [some (.ref (ad (w_b w) 0)), some (.int (nI 5))] [] Q := by
  refine g_iinc (pc := 143) (L' := [some (.ref (ad (w_b w) 0)), some (.int (nI 6))]) C dX11_init_143 rfl (nI_1 _) rfl ?_
  refine g_goto (pc := 146) C 124 dX11_init_146 rfl ?_
  refine g_iload_n (pc := 124) C dX11_init_124 rfl ?_
  refine g_bipush (pc := 125) (v := nI 20) C dX11_init_125 (by decide) ?_
  refine g_icmp_ge (pc := 127) C 149 dX11_init_127 rfl (fun c => ?_) (fun c => ?_)
  · exact absurd c (by decide)
  refine g_aload_n (pc := 130) C dX11_init_130 rfl ?_
  refine fgr_X11_60 (pc := 131) (j := 33) C rfl (zc (by decide +kernel)) (by decide +kernel) dX11_init_131 ?_
  refine g_iload_n (pc := 134) C dX11_init_134 rfl ?_
  refine gn_X11_58 (pc := 135) C (fit_kn (by decide +kernel : fitB (s_z sX50) 5 0 = true)).1 (fit_kn (by decide +kernel : fitB (s_z sX50) 5 0 = true)).2 ⟨by decide, by decide⟩ dX11_init_135 ?_
  rw [k_sX50]
  refine gx_S (S' := sX51) rfl ?_
  refine g_dup (pc := 138) C dX11_init_138 rfl ?_
  refine ci_X11_64 (pc := 139) C V (c_X6_init w _ sX51 46 ⟨rfl, (zc (by decide +kernel))⟩ ⟨by decide +kernel, trivial⟩) ⟨rfl, rfl⟩ ⟨by decide, by decide⟩ rfl (Nat.le_of_ble_eq_true rfl) dX11_init_139 ?_
  rintro _ _ ⟨rfl, rfl⟩
  refine gx_S (S' := sX52) rfl ?_
  refine gx_st (st' := [.ref (ad (w_b w) 46), .int (nI 6), .ref (ad (w_b w) 33)]) rfl ?_
  refine gs_river (pc := 142) (n := 20) (j := 6) C rfl rfl (zc (by decide +kernel)) rfl (zc (by decide +kernel)) rfl (by decide) (by decide) dX11_init_142 ?_
  refine gx_S (S' := sX53) rfl ?_
  refine g_iinc (pc := 143) (L' := [some (.ref (ad (w_b w) 0)), some (.int (nI 7))]) C dX11_init_143 rfl (nI_1 _) rfl ?_
  refine g_goto (pc := 146) C 124 dX11_init_146 rfl ?_
  refine g_iload_n (pc := 124) C dX11_init_124 rfl ?_
  refine g_bipush (pc := 125) (v := nI 20) C dX11_init_125 (by decide) ?_
  refine g_icmp_ge (pc := 127) C 149 dX11_init_127 rfl (fun c => ?_) (fun c => ?_)
  · exact absurd c (by decide)
  refine g_aload_n (pc := 130) C dX11_init_130 rfl ?_
  refine fgr_X11_60 (pc := 131) (j := 33) C rfl (zc (by decide +kernel)) (by decide +kernel) dX11_init_131 ?_
  refine g_iload_n (pc := 134) C dX11_init_134 rfl ?_
  refine gn_X11_58 (pc := 135) C (fit_kn (by decide +kernel : fitB (s_z sX53) 5 0 = true)).1 (fit_kn (by decide +kernel : fitB (s_z sX53) 5 0 = true)).2 ⟨by decide, by decide⟩ dX11_init_135 ?_
  rw [k_sX53]
  refine gx_S (S' := sX54) rfl ?_
  refine g_dup (pc := 138) C dX11_init_138 rfl ?_
  refine ci_X11_64 (pc := 139) C V (c_X6_init w _ sX54 48 ⟨rfl, (zc (by decide +kernel))⟩ ⟨by decide +kernel, trivial⟩) ⟨rfl, rfl⟩ ⟨by decide, by decide⟩ rfl (Nat.le_of_ble_eq_true rfl) dX11_init_139 ?_
  rintro _ _ ⟨rfl, rfl⟩
  refine gx_S (S' := sX55) rfl ?_
  refine gx_st (st' := [.ref (ad (w_b w) 48), .int (nI 7), .ref (ad (w_b w) 33)]) rfl ?_
  refine gs_river (pc := 142) (n := 20) (j := 7) C rfl rfl (zc (by decide +kernel)) rfl (zc (by decide +kernel)) rfl (by decide) (by decide) dX11_init_142 ?_
  refine gx_S (S' := sX56) rfl ?_
  refine g_iinc (pc := 143) (L' := [some (.ref (ad (w_b w) 0)), some (.int (nI 8))]) C dX11_init_143 rfl (nI_1 _) rfl ?_
  refine g_goto (pc := 146) C 124 dX11_init_146 rfl ?_
  refine g_iload_n (pc := 124) C dX11_init_124 rfl ?_
  refine g_bipush (pc := 125) (v := nI 20) C dX11_init_125 (by decide) ?_
  refine g_icmp_ge (pc := 127) C 149 dX11_init_127 rfl (fun c => ?_) (fun c => ?_)
  · exact absurd c (by decide)
  refine g_aload_n (pc := 130) C dX11_init_130 rfl ?_
  refine fgr_X11_60 (pc := 131) (j := 33) C rfl (zc (by decide +kernel)) (by decide +kernel) dX11_init_131 ?_
  refine g_iload_n (pc := 134) C dX11_init_134 rfl ?_
  refine gn_X11_58 (pc := 135) C (fit_kn (by decide +kernel : fitB (s_z sX56) 5 0 = true)).1 (fit_kn (by decide +kernel : fitB (s_z sX56) 5 0 = true)).2 ⟨by decide, by decide⟩ dX11_init_135 ?_
  rw [k_sX56]
  refine gx_S (S' := sX57) rfl ?_
  refine g_dup (pc := 138) C dX11_init_138 rfl ?_
  refine ci_X11_64 (pc := 139) C V (c_X6_init w _ sX57 50 ⟨rfl, (zc (by decide +kernel))⟩ ⟨by decide +kernel, trivial⟩) ⟨rfl, rfl⟩ ⟨by decide, by decide⟩ rfl (Nat.le_of_ble_eq_true rfl) dX11_init_139 ?_
  rintro _ _ ⟨rfl, rfl⟩
  refine gx_S (S' := sX58) rfl ?_
  refine gx_st (st' := [.ref (ad (w_b w) 50), .int (nI 8), .ref (ad (w_b w) 33)]) rfl ?_
  refine gs_river (pc := 142) (n := 20) (j := 8) C rfl rfl (zc (by decide +kernel)) rfl (zc (by decide +kernel)) rfl (by decide) (by decide) dX11_init_142 ?_
  refine gx_S (S' := sX59) rfl ?_
  refine g_iinc (pc := 143) (L' := [some (.ref (ad (w_b w) 0)), some (.int (nI 9))]) C dX11_init_143 rfl (nI_1 _) rfl ?_
  refine g_goto (pc := 146) C 124 dX11_init_146 rfl ?_
  refine g_iload_n (pc := 124) C dX11_init_124 rfl ?_
  refine g_bipush (pc := 125) (v := nI 20) C dX11_init_125 (by decide) ?_
  refine g_icmp_ge (pc := 127) C 149 dX11_init_127 rfl (fun c => ?_) (fun c => ?_)
  · exact absurd c (by decide)
  refine g_aload_n (pc := 130) C dX11_init_130 rfl ?_
  refine fgr_X11_60 (pc := 131) (j := 33) C rfl (zc (by decide +kernel)) (by decide +kernel) dX11_init_131 ?_
  refine g_iload_n (pc := 134) C dX11_init_134 rfl ?_
  refine gn_X11_58 (pc := 135) C (fit_kn (by decide +kernel : fitB (s_z sX59) 5 0 = true)).1 (fit_kn (by decide +kernel : fitB (s_z sX59) 5 0 = true)).2 ⟨by decide, by decide⟩ dX11_init_135 ?_
  rw [k_sX59]
  refine gx_S (S' := sX60) rfl ?_
  refine g_dup (pc := 138) C dX11_init_138 rfl ?_
  refine ci_X11_64 (pc := 139) C V (c_X6_init w _ sX60 52 ⟨rfl, (zc (by decide +kernel))⟩ ⟨by decide +kernel, trivial⟩) ⟨rfl, rfl⟩ ⟨by decide, by decide⟩ rfl (Nat.le_of_ble_eq_true rfl) dX11_init_139 ?_
  rintro _ _ ⟨rfl, rfl⟩
  refine gx_S (S' := sX61) rfl ?_
  refine gx_st (st' := [.ref (ad (w_b w) 52), .int (nI 9), .ref (ad (w_b w) 33)]) rfl ?_
  refine gs_river (pc := 142) (n := 20) (j := 9) C rfl rfl (zc (by decide +kernel)) rfl (zc (by decide +kernel)) rfl (by decide) (by decide) dX11_init_142 ?_
  refine gx_S (S' := sX62) rfl ?_
  exact k
theorem wX11_init_5 {w : Wd} {j : SJ} {X : FX} {Q : State → Prop} (C : gx_C w X cX11_init 2 RX11 rmIX11_init none) (V : gx_V w j (x_s X)) (hI : yX11_init.name = "<init>" → (x_M X).name = "<init>") (k : gx_G w X sX74 61 1366 143 [some (.ref (ad (w_b w) 0)), some (.int (nI 13))] [] Q) : gx_G w X sX62 53 1314 143 [some (.ref (ad (w_b w) 0)), some (.int (nI 9))] [] Q := by
  refine g_iinc (pc := 143) (L' := [some (.ref (ad (w_b w) 0)), some (.int (nI 10))]) C dX11_init_143 rfl (nI_1 _) rfl ?_
  refine g_goto (pc := 146) C 124 dX11_init_146 rfl ?_
  refine g_iload_n (pc := 124) C dX11_init_124 rfl ?_
  refine g_bipush (pc := 125) (v := nI 20) C dX11_init_125 (by decide) ?_
  refine g_icmp_ge (pc := 127) C 149 dX11_init_127 rfl (fun c => ?_) (fun c => ?_)
  · exact absurd c (by decide)
  refine g_aload_n (pc := 130) C dX11_init_130 rfl ?_
  refine fgr_X11_60 (pc := 131) (j := 33) C rfl (zc (by decide +kernel)) (by decide +kernel) dX11_init_131 ?_
  refine g_iload_n (pc := 134) C dX11_init_134 rfl ?_
  refine gn_X11_58 (pc := 135) C (fit_kn (by decide +kernel : fitB (s_z sX62) 5 0 = true)).1 (fit_kn (by decide +kernel : fitB (s_z sX62) 5 0 = true)).2 ⟨by decide, by decide⟩ dX11_init_135 ?_
  rw [k_sX62]
  refine gx_S (S' := sX63) rfl ?_
  refine g_dup (pc := 138) C dX11_init_138 rfl ?_
  refine ci_X11_64 (pc := 139) C V (c_X6_init w _ sX63 54 ⟨rfl, (zc (by decide +kernel))⟩ ⟨by decide +kernel, trivial⟩) ⟨rfl, rfl⟩ ⟨by decide, by decide⟩ rfl (Nat.le_of_ble_eq_true rfl) dX11_init_139 ?_
  rintro _ _ ⟨rfl, rfl⟩
  refine gx_S (S' := sX64) rfl ?_
  refine gx_st (st' := [.ref (ad (w_b w) 54), .int (nI 10), .ref (ad (w_b w) 33)]) rfl ?_
  refine gs_river (pc := 142) (n := 20) (j := 10) C rfl rfl (zc (by decide +kernel)) rfl (zc (by decide +kernel)) rfl (by decide) (by decide) dX11_init_142 ?_
  refine gx_S (S' := sX65) rfl ?_
  refine g_iinc (pc := 143) (L' := [some (.ref (ad (w_b w) 0)), some (.int (nI 11))]) C dX11_init_143 rfl (nI_1 _) rfl ?_
  refine g_goto (pc := 146) C 124 dX11_init_146 rfl ?_
  refine g_iload_n (pc := 124) C dX11_init_124 rfl ?_
  refine g_bipush (pc := 125) (v := nI 20) C dX11_init_125 (by decide) ?_
  refine g_icmp_ge (pc := 127) C 149 dX11_init_127 rfl (fun c => ?_) (fun c => ?_)
  · exact absurd c (by decide)
  refine g_aload_n (pc := 130) C dX11_init_130 rfl ?_
  refine fgr_X11_60 (pc := 131) (j := 33) C rfl (zc (by decide +kernel)) (by decide +kernel) dX11_init_131 ?_
  refine g_iload_n (pc := 134) C dX11_init_134 rfl ?_
  refine gn_X11_58 (pc := 135) C (fit_kn (by decide +kernel : fitB (s_z sX65) 5 0 = true)).1 (fit_kn (by decide +kernel : fitB (s_z sX65) 5 0 = true)).2 ⟨by decide, by decide⟩ dX11_init_135 ?_
  rw [k_sX65]
  refine gx_S (S' := sX66) rfl ?_
  refine g_dup (pc := 138) C dX11_init_138 rfl ?_
  refine ci_X11_64 (pc := 139) C V (c_X6_init w _ sX66 56 ⟨rfl, (zc (by decide +kernel))⟩ ⟨by decide +kernel, trivial⟩) ⟨rfl, rfl⟩ ⟨by decide, by decide⟩ rfl (Nat.le_of_ble_eq_true rfl) dX11_init_139 ?_
  rintro _ _ ⟨rfl, rfl⟩
  refine gx_S (S' := sX67) rfl ?_
  refine gx_st (st' := [.ref (ad (w_b w) 56), .int (nI 11), .ref (ad (w_b w) 33)]) rfl ?_
  refine gs_river (pc := 142) (n := 20) (j := 11) C rfl rfl (zc (by decide +kernel)) rfl (zc (by decide +kernel)) rfl (by decide) (by decide) dX11_init_142 ?_
  refine gx_S (S' := sX68) rfl ?_
  refine g_iinc (pc := 143) (L' := [some (.ref (ad (w_b w) 0)), some (.int (nI 12))]) C dX11_init_143 rfl (nI_1 _) rfl ?_
  refine g_goto (pc := 146) C 124 dX11_init_146 rfl ?_
  refine g_iload_n (pc := 124) C dX11_init_124 rfl ?_
  refine g_bipush (pc := 125) (v := nI 20) C dX11_init_125 (by decide) ?_
  refine g_icmp_ge (pc := 127) C 149 dX11_init_127 rfl (fun c => ?_) (fun c => ?_)
  · exact absurd c (by decide)
  refine g_aload_n (pc := 130) C dX11_init_130 rfl ?_
  refine fgr_X11_60 (pc := 131) (j := 33) C rfl (zc (by decide +kernel)) (by decide +kernel) dX11_init_131 ?_
  refine g_iload_n (pc := 134) C dX11_init_134 rfl ?_
  refine gn_X11_58 (pc := 135) C (fit_kn (by decide +kernel : fitB (s_z sX68) 5 0 = true)).1 (fit_kn (by decide +kernel : fitB (s_z sX68) 5 0 = true)).2 ⟨by decide, by decide⟩ dX11_init_135 ?_
  rw [k_sX68]
  refine gx_S (S' := sX69) rfl ?_
  refine g_dup (pc := 138) C dX11_init_138 rfl ?_
  refine ci_X11_64 (pc := 139) C V (c_X6_init w _ sX69 58 ⟨rfl, (zc (by decide +kernel))⟩ ⟨by decide +kernel, trivial⟩) ⟨rfl, rfl⟩ ⟨by decide, by decide⟩ rfl (Nat.le_of_ble_eq_true rfl) dX11_init_139 ?_
  rintro _ _ ⟨rfl, rfl⟩
  refine gx_S (S' := sX70) rfl ?_
  refine gx_st (st' := [.ref (ad (w_b w) 58), .int (nI 12), .ref (ad (w_b w) 33)]) rfl ?_
  refine gs_river (pc := 142) (n := 20) (j := 12) C rfl rfl (zc (by decide +kernel)) rfl (zc (by decide +kernel)) rfl (by decide) (by decide) dX11_init_142 ?_
  refine gx_S (S' := sX71) rfl ?_
  refine g_iinc (pc := 143) (L' := [some (.ref (ad (w_b w) 0)), some (.int (nI 13))]) C dX11_init_143 rfl (nI_1 _) rfl ?_
  refine g_goto (pc := 146) C 124 dX11_init_146 rfl ?_
  refine g_iload_n (pc := 124) C dX11_init_124 rfl ?_
  refine g_bipush (pc := 125) (v := nI 20) C dX11_init_125 (by decide) ?_
  refine g_icmp_ge (pc := 127) C 149 dX11_init_127 rfl (fun c => ?_) (fun c => ?_)
  · exact absurd c (by decide)
  refine g_aload_n (pc := 130) C dX11_init_130 rfl ?_
  refine fgr_X11_60 (pc := 131) (j := 33) C rfl (zc (by decide +kernel)) (by decide +kernel) dX11_init_131 ?_
  refine g_iload_n (pc := 134) C dX11_init_134 rfl ?_
  refine gn_X11_58 (pc := 135) C (fit_kn (by decide +kernel : fitB (s_z sX71) 5 0 = true)).1 (fit_kn (by decide +kernel : fitB (s_z sX71) 5 0 = true)).2 ⟨by decide, by decide⟩ dX11_init_135 ?_
  rw [k_sX71]
  refine gx_S (S' := sX72) rfl ?_
  refine g_dup (pc := 138) C dX11_init_138 rfl ?_
  refine ci_X11_64 (pc := 139) C V (c_X6_init w _ sX72 60 ⟨rfl, (zc (by decide +kernel))⟩ ⟨by decide +kernel, trivial⟩) ⟨rfl, rfl⟩ ⟨by decide, by decide⟩ rfl (Nat.le_of_ble_eq_true rfl) dX11_init_139 ?_
  rintro _ _ ⟨rfl, rfl⟩
  refine gx_S (S' := sX73) rfl ?_
  refine gx_st (st' := [.ref (ad (w_b w) 60), .int (nI 13), .ref (ad (w_b w) 33)]) rfl ?_
  refine gs_river (pc := 142) (n := 20) (j := 13) C rfl rfl (zc (by decide +kernel)) rfl (zc (by decide +kernel)) rfl (by decide) (by decide) dX11_init_142 ?_
  refine gx_S (S' := sX74) rfl ?_
  exact k
theorem wX11_init_6 {w : Wd} {j : SJ} {X : FX} {Q : State → Prop} (C : gx_C w X cX11_init 2 RX11 rmIX11_init none) (V : gx_V w j (x_s X)) (hI : yX11_init.name = "<init>" → (x_M X).name = "<init>") (k : gx_G w X sX86 69 1418 143 [some (.ref (ad (w_b w) 0)), some (.int (nI 17))] [] Q) : gx_G w X sX74 61 1366 143 [some (.ref (ad (w_b w) 0)), some (.int (nI 13))] [] Q := by
  refine g_iinc (pc := 143) (L' := [some (.ref (ad (w_b w) 0)), some (.int (nI 14))]) C dX11_init_143 rfl (nI_1 _) rfl ?_
  refine g_goto (pc := 146) C 124 dX11_init_146 rfl ?_
  refine g_iload_n (pc := 124) C dX11_init_124 rfl ?_
  refine g_bipush (pc := 125) (v := nI 20) C dX11_init_125 (by decide) ?_
  refine g_icmp_ge (pc := 127) C 149 dX11_init_127 rfl (fun c => ?_) (fun c => ?_)
  · exact absurd c (by decide)
  refine g_aload_n (pc := 130) C dX11_init_130 rfl ?_
  refine fgr_X11_60 (pc := 131) (j := 33) C rfl (zc (by decide +kernel)) (by decide +kernel) dX11_init_131 ?_
  refine g_iload_n (pc := 134) C dX11_init_134 rfl ?_
  refine gn_X11_58 (pc := 135) C (fit_kn (by decide +kernel : fitB (s_z sX74) 5 0 = true)).1 (fit_kn (by decide +kernel : fitB (s_z sX74) 5 0 = true)).2 ⟨by decide, by decide⟩ dX11_init_135 ?_
  rw [k_sX74]
  refine gx_S (S' := sX75) rfl ?_
  refine g_dup (pc := 138) C dX11_init_138 rfl ?_
  refine ci_X11_64 (pc := 139) C V (c_X6_init w _ sX75 62 ⟨rfl, (zc (by decide +kernel))⟩ ⟨by decide +kernel, trivial⟩) ⟨rfl, rfl⟩ ⟨by decide, by decide⟩ rfl (Nat.le_of_ble_eq_true rfl) dX11_init_139 ?_
  rintro _ _ ⟨rfl, rfl⟩
  refine gx_S (S' := sX76) rfl ?_
  refine gx_st (st' := [.ref (ad (w_b w) 62), .int (nI 14), .ref (ad (w_b w) 33)]) rfl ?_
  refine gs_river (pc := 142) (n := 20) (j := 14) C rfl rfl (zc (by decide +kernel)) rfl (zc (by decide +kernel)) rfl (by decide) (by decide) dX11_init_142 ?_
  refine gx_S (S' := sX77) rfl ?_
  refine g_iinc (pc := 143) (L' := [some (.ref (ad (w_b w) 0)), some (.int (nI 15))]) C dX11_init_143 rfl (nI_1 _) rfl ?_
  refine g_goto (pc := 146) C 124 dX11_init_146 rfl ?_
  refine g_iload_n (pc := 124) C dX11_init_124 rfl ?_
  refine g_bipush (pc := 125) (v := nI 20) C dX11_init_125 (by decide) ?_
  refine g_icmp_ge (pc := 127) C 149 dX11_init_127 rfl (fun c => ?_) (fun c => ?_)
  · exact absurd c (by decide)
  refine g_aload_n (pc := 130) C dX11_init_130 rfl ?_
  refine fgr_X11_60 (pc := 131) (j := 33) C rfl (zc (by decide +kernel)) (by decide +kernel) dX11_init_131 ?_
  refine g_iload_n (pc := 134) C dX11_init_134 rfl ?_
  refine gn_X11_58 (pc := 135) C (fit_kn (by decide +kernel : fitB (s_z sX77) 5 0 = true)).1 (fit_kn (by decide +kernel : fitB (s_z sX77) 5 0 = true)).2 ⟨by decide, by decide⟩ dX11_init_135 ?_
  rw [k_sX77]
  refine gx_S (S' := sX78) rfl ?_
  refine g_dup (pc := 138) C dX11_init_138 rfl ?_
  refine ci_X11_64 (pc := 139) C V (c_X6_init w _ sX78 64 ⟨rfl, (zc (by decide +kernel))⟩ ⟨by decide +kernel, trivial⟩) ⟨rfl, rfl⟩ ⟨by decide, by decide⟩ rfl (Nat.le_of_ble_eq_true rfl) dX11_init_139 ?_
  rintro _ _ ⟨rfl, rfl⟩
  refine gx_S (S' := sX79) rfl ?_
  refine gx_st (st' := [.ref (ad (w_b w) 64), .int (nI 15), .ref (ad (w_b w) 33)]) rfl ?_
  refine gs_river (pc := 142) (n := 20) (j := 15) C rfl rfl (zc (by decide +kernel)) rfl (zc (by decide +kernel)) rfl (by decide) (by decide) dX11_init_142 ?_
  refine gx_S (S' := sX80) rfl ?_
  refine g_iinc (pc := 143) (L' := [some (.ref (ad (w_b w) 0)), some (.int (nI 16))]) C dX11_init_143 rfl (nI_1 _) rfl ?_
  refine g_goto (pc := 146) C 124 dX11_init_146 rfl ?_
  refine g_iload_n (pc := 124) C dX11_init_124 rfl ?_
  refine g_bipush (pc := 125) (v := nI 20) C dX11_init_125 (by decide) ?_
  refine g_icmp_ge (pc := 127) C 149 dX11_init_127 rfl (fun c => ?_) (fun c => ?_)
  · exact absurd c (by decide)
  refine g_aload_n (pc := 130) C dX11_init_130 rfl ?_
  refine fgr_X11_60 (pc := 131) (j := 33) C rfl (zc (by decide +kernel)) (by decide +kernel) dX11_init_131 ?_
  refine g_iload_n (pc := 134) C dX11_init_134 rfl ?_
  refine gn_X11_58 (pc := 135) C (fit_kn (by decide +kernel : fitB (s_z sX80) 5 0 = true)).1 (fit_kn (by decide +kernel : fitB (s_z sX80) 5 0 = true)).2 ⟨by decide, by decide⟩ dX11_init_135 ?_
  rw [k_sX80]
  refine gx_S (S' := sX81) rfl ?_
  refine g_dup (pc := 138) C dX11_init_138 rfl ?_
  refine ci_X11_64 (pc := 139) C V (c_X6_init w _ sX81 66 ⟨rfl, (zc (by decide +kernel))⟩ ⟨by decide +kernel, trivial⟩) ⟨rfl, rfl⟩ ⟨by decide, by decide⟩ rfl (Nat.le_of_ble_eq_true rfl) dX11_init_139 ?_
  rintro _ _ ⟨rfl, rfl⟩
  refine gx_S (S' := sX82) rfl ?_
  refine gx_st (st' := [.ref (ad (w_b w) 66), .int (nI 16), .ref (ad (w_b w) 33)]) rfl ?_
  refine gs_river (pc := 142) (n := 20) (j := 16) C rfl rfl (zc (by decide +kernel)) rfl (zc (by decide +kernel)) rfl (by decide) (by decide) dX11_init_142 ?_
  refine gx_S (S' := sX83) rfl ?_
  refine g_iinc (pc := 143) (L' := [some (.ref (ad (w_b w) 0)), some (.int (nI 17))]) C dX11_init_143 rfl (nI_1 _) rfl ?_
  refine g_goto (pc := 146) C 124 dX11_init_146 rfl ?_
  refine g_iload_n (pc := 124) C dX11_init_124 rfl ?_
  refine g_bipush (pc := 125) (v := nI 20) C dX11_init_125 (by decide) ?_
  refine g_icmp_ge (pc := 127) C 149 dX11_init_127 rfl (fun c => ?_) (fun c => ?_)
  · exact absurd c (by decide)
  refine g_aload_n (pc := 130) C dX11_init_130 rfl ?_
  refine fgr_X11_60 (pc := 131) (j := 33) C rfl (zc (by decide +kernel)) (by decide +kernel) dX11_init_131 ?_
  refine g_iload_n (pc := 134) C dX11_init_134 rfl ?_
  refine gn_X11_58 (pc := 135) C (fit_kn (by decide +kernel : fitB (s_z sX83) 5 0 = true)).1 (fit_kn (by decide +kernel : fitB (s_z sX83) 5 0 = true)).2 ⟨by decide, by decide⟩ dX11_init_135 ?_
  rw [k_sX83]
  refine gx_S (S' := sX84) rfl ?_
  refine g_dup (pc := 138) C dX11_init_138 rfl ?_
  refine ci_X11_64 (pc := 139) C V (c_X6_init w _ sX84 68 ⟨rfl, (zc (by decide +kernel))⟩ ⟨by decide +kernel, trivial⟩) ⟨rfl, rfl⟩ ⟨by decide, by decide⟩ rfl (Nat.le_of_ble_eq_true rfl) dX11_init_139 ?_
  rintro _ _ ⟨rfl, rfl⟩
  refine gx_S (S' := sX85) rfl ?_
  refine gx_st (st' := [.ref (ad (w_b w) 68), .int (nI 17), .ref (ad (w_b w) 33)]) rfl ?_
  refine gs_river (pc := 142) (n := 20) (j := 17) C rfl rfl (zc (by decide +kernel)) rfl (zc (by decide +kernel)) rfl (by decide) (by decide) dX11_init_142 ?_
  refine gx_S (S' := sX86) rfl ?_
  exact k
theorem wX11_init_7 {w : Wd} {j : SJ} {X : FX} {Q : State → Prop} (C : gx_C w X cX11_init 2 RX11 rmIX11_init none) (V : gx_V w j (x_s X)) (hI : yX11_init.name = "<init>" → (x_M X).name = "<init>") (k : gx_G w X sX98 89 2350 171 [some (.ref (ad (w_b w) 0)), some (.int (nI 20))] [] Q) : gx_G w X sX86 69 1418 143 [some (.ref (ad (w_b w) 0)), some (.int (nI 17))] [] Q := by
  refine g_iinc (pc := 143) (L' := [some (.ref (ad (w_b w) 0)), some (.int (nI 18))]) C dX11_init_143 rfl (nI_1 _) rfl ?_
  refine g_goto (pc := 146) C 124 dX11_init_146 rfl ?_
  refine g_iload_n (pc := 124) C dX11_init_124 rfl ?_
  refine g_bipush (pc := 125) (v := nI 20) C dX11_init_125 (by decide) ?_
  refine g_icmp_ge (pc := 127) C 149 dX11_init_127 rfl (fun c => ?_) (fun c => ?_)
  · exact absurd c (by decide)
  refine g_aload_n (pc := 130) C dX11_init_130 rfl ?_
  refine fgr_X11_60 (pc := 131) (j := 33) C rfl (zc (by decide +kernel)) (by decide +kernel) dX11_init_131 ?_
  refine g_iload_n (pc := 134) C dX11_init_134 rfl ?_
  refine gn_X11_58 (pc := 135) C (fit_kn (by decide +kernel : fitB (s_z sX86) 5 0 = true)).1 (fit_kn (by decide +kernel : fitB (s_z sX86) 5 0 = true)).2 ⟨by decide, by decide⟩ dX11_init_135 ?_
  rw [k_sX86]
  refine gx_S (S' := sX87) rfl ?_
  refine g_dup (pc := 138) C dX11_init_138 rfl ?_
  refine ci_X11_64 (pc := 139) C V (c_X6_init w _ sX87 70 ⟨rfl, (zc (by decide +kernel))⟩ ⟨by decide +kernel, trivial⟩) ⟨rfl, rfl⟩ ⟨by decide, by decide⟩ rfl (Nat.le_of_ble_eq_true rfl) dX11_init_139 ?_
  rintro _ _ ⟨rfl, rfl⟩
  refine gx_S (S' := sX88) rfl ?_
  refine gx_st (st' := [.ref (ad (w_b w) 70), .int (nI 18), .ref (ad (w_b w) 33)]) rfl ?_
  refine gs_river (pc := 142) (n := 20) (j := 18) C rfl rfl (zc (by decide +kernel)) rfl (zc (by decide +kernel)) rfl (by decide) (by decide) dX11_init_142 ?_
  refine gx_S (S' := sX89) rfl ?_
  refine g_iinc (pc := 143) (L' := [some (.ref (ad (w_b w) 0)), some (.int (nI 19))]) C dX11_init_143 rfl (nI_1 _) rfl ?_
  refine g_goto (pc := 146) C 124 dX11_init_146 rfl ?_
  refine g_iload_n (pc := 124) C dX11_init_124 rfl ?_
  refine g_bipush (pc := 125) (v := nI 20) C dX11_init_125 (by decide) ?_
  refine g_icmp_ge (pc := 127) C 149 dX11_init_127 rfl (fun c => ?_) (fun c => ?_)
  · exact absurd c (by decide)
  refine g_aload_n (pc := 130) C dX11_init_130 rfl ?_
  refine fgr_X11_60 (pc := 131) (j := 33) C rfl (zc (by decide +kernel)) (by decide +kernel) dX11_init_131 ?_
  refine g_iload_n (pc := 134) C dX11_init_134 rfl ?_
  refine gn_X11_58 (pc := 135) C (fit_kn (by decide +kernel : fitB (s_z sX89) 5 0 = true)).1 (fit_kn (by decide +kernel : fitB (s_z sX89) 5 0 = true)).2 ⟨by decide, by decide⟩ dX11_init_135 ?_
  rw [k_sX89]
  refine gx_S (S' := sX90) rfl ?_
  refine g_dup (pc := 138) C dX11_init_138 rfl ?_
  refine ci_X11_64 (pc := 139) C V (c_X6_init w _ sX90 72 ⟨rfl, (zc (by decide +kernel))⟩ ⟨by decide +kernel, trivial⟩) ⟨rfl, rfl⟩ ⟨by decide, by decide⟩ rfl (Nat.le_of_ble_eq_true rfl) dX11_init_139 ?_
  rintro _ _ ⟨rfl, rfl⟩
  refine gx_S (S' := sX91) rfl ?_
  refine gx_st (st' := [.ref (ad (w_b w) 72), .int (nI 19), .ref (ad (w_b w) 33)]) rfl ?_
  refine gs_river (pc := 142) (n := 20) (j := 19) C rfl rfl (zc (by decide +kernel)) rfl (zc (by decide +kernel)) rfl (by decide) (by decide) dX11_init_142 ?_
  refine gx_S (S' := sX92) rfl ?_
  refine g_iinc (pc := 143) (L' := [some (.ref (ad (w_b w) 0)), some (.int (nI 20))]) C dX11_init_143 rfl (nI_1 _) rfl ?_
  refine g_goto (pc := 146) C 124 dX11_init_146 rfl ?_
  refine g_iload_n (pc := 124) C dX11_init_124 rfl ?_
  refine g_bipush (pc := 125) (v := nI 20) C dX11_init_125 (by decide) ?_
  refine g_icmp_ge (pc := 127) C 149 dX11_init_127 rfl (fun c => ?_) (fun c => ?_)
  rotate_left
  · exact absurd (by decide) c
  refine g_aload_n (pc := 149) C dX11_init_149 rfl ?_
  refine gn_X11_65 (pc := 150) C (fit_kn (by decide +kernel : fitB (s_z sX92) 4 0 = true)).1 (fit_kn (by decide +kernel : fitB (s_z sX92) 4 0 = true)).2 ⟨by decide, by decide⟩ dX11_init_150 ?_
  rw [k_sX92]
  refine gx_S (S' := sX93) rfl ?_
  refine g_dup (pc := 153) C dX11_init_153 rfl ?_
  refine ci_X11_67 (pc := 154) C V (c_X4_init w j _ sX93 74 ⟨rfl, (zc (by decide +kernel))⟩ ⟨by decide +kernel, by decide +kernel, by decide +kernel, by decide +kernel, by decide +kernel, by decide +kernel, by decide +kernel, trivial⟩) ⟨rfl, rfl⟩ ⟨by decide, by decide⟩ rfl (Nat.le_of_ble_eq_true rfl) dX11_init_154 ?_
  rintro _ _ ⟨rfl, rfl⟩
  refine gx_S (S' := sX94) rfl ?_
  refine gx_st (st' := [.ref (ad (w_b w) 74), .ref (ad (w_b w) 0)]) rfl ?_
  refine fps_X11_68 (pc := 157) C rfl (zc (by decide +kernel)) (hI rfl) dX11_init_157 ?_
  refine gx_S (S' := sX95) rfl ?_
  refine g_aload_n (pc := 160) C dX11_init_160 rfl ?_
  refine gn_X11_72 (pc := 161) C (fit_kn (by decide +kernel : fitB (s_z sX95) 2 0 = true)).1 (fit_kn (by decide +kernel : fitB (s_z sX95) 2 0 = true)).2 ⟨by decide, by decide⟩ dX11_init_161 ?_
  rw [k_sX95]
  refine gx_S (S' := sX96) rfl ?_
  refine g_dup (pc := 164) C dX11_init_164 rfl ?_
  refine ci_X11_74 (pc := 165) C V (c_X2_init w j _ sX96 82 ⟨rfl, (zc (by decide +kernel))⟩ ⟨by decide +kernel, by decide +kernel, by decide +kernel, by decide +kernel, by decide +kernel, by decide +kernel, by decide +kernel, trivial⟩) ⟨rfl, rfl⟩ ⟨by decide, by decide⟩ rfl (Nat.le_of_ble_eq_true rfl) dX11_init_165 ?_
  rintro _ _ ⟨rfl, rfl⟩
  refine gx_S (S' := sX97) rfl ?_
  refine gx_st (st' := [.ref (ad (w_b w) 82), .ref (ad (w_b w) 0)]) rfl ?_
  refine fps_X11_75 (pc := 168) C rfl (zc (by decide +kernel)) (hI rfl) dX11_init_168 ?_
  refine gx_S (S' := sX98) rfl ?_
  exact k
theorem wX11_init_8 {w : Wd} {j : SJ} {X : FX} {Q : State → Prop} (C : gx_C w X cX11_init 2 RX11 rmIX11_init none) (V : gx_V w j (x_s X)) (hI : yX11_init.name = "<init>" → (x_M X).name = "<init>") (k : gx_G w X sX101 94 2430 182 [some (.ref (ad (w_b w) 0)), some (.int (nI 20))] [] Q) : gx_G w X sX98 89 2350 171 [some (.ref (ad (w_b w) 0)), some (.int (nI 20))] [] Q := by
  refine g_aload_n (pc := 171) C dX11_init_171 rfl ?_
  refine gn_X11_40 (pc := 172) C (fit_kn (by decide +kernel : fitB (s_z sX98) 0 0 = true)).1 (fit_kn (by decide +kernel : fitB (s_z sX98) 0 0 = true)).2 ⟨by decide, by decide⟩ dX11_init_172 ?_
  rw [k_sX98]
  refine gx_S (S' := sX99) rfl ?_
  refine g_dup (pc := 175) C dX11_init_175 rfl ?_
  refine ci_X11_42 (pc := 176) C V (c_X0_init w _ sX99 90 ⟨rfl, (zc (by decide +kernel))⟩ ⟨by decide +kernel, by decide +kernel, by decide +kernel, by decide +kernel, trivial⟩) ⟨rfl, rfl⟩ ⟨by decide, by decide⟩ rfl (Nat.le_of_ble_eq_true rfl) dX11_init_176 ?_
  rintro _ _ ⟨rfl, rfl⟩
  refine gx_S (S' := sX100) rfl ?_
  refine gx_st (st' := [.ref (ad (w_b w) 90), .ref (ad (w_b w) 0)]) rfl ?_
  refine fps_X11_79 (pc := 179) C rfl (zc (by decide +kernel)) dX11_init_179 ?_
  refine gx_S (S' := sX101) rfl ?_
  exact k
def sXE : St := sX101
theorem c_X11_init (w : Wd) (j : SJ) (l : Launch) : gx_MV w j l yX11_init cX11_init 2 none rmIX11_init [.ref (ad (w_b w) 0)] sX0 (pV sXE) := by
  refine gx_startV rfl 1 rfl (Nat.le_of_ble_eq_true rfl) ?_
  intro X C V hI hl
  subst hl
  refine gx_L (L' := [some (.ref (ad (w_b w) 0)), none]) rfl ?_
  refine wX11_init_0 C V hI ?_
  refine wX11_init_1 C V hI ?_
  refine wX11_init_2 C V hI ?_
  refine wX11_init_3 C V hI ?_
  refine wX11_init_4 C V hI ?_
  refine wX11_init_5 C V hI ?_
  refine wX11_init_6 C V hI ?_
  refine wX11_init_7 C V hI ?_
  refine wX11_init_8 C V hI ?_
  exact g_return (pc := 182) C ⟨rfl, rfl⟩ dX11_init_182 ⟨rfl, rfl⟩
