/-! ===== THE CLASS: Puzzles: which sets may cross ===== -/
def dfE (S S' : St) : Prop := eqO (fun k => k = 81) S S'
theorem pzS.o {S T : St} {c ca cg cl ce P H : Nat} {u : Nat → Int32} {D : Nat → Prop} (h : pzS S c ca cg cl ce P H u) (e : eqO D S T) (hD : ∀ k, D k → 79 ≤ k ∧ k ≤ 81) : pzS T c ca cg cl ce P H u := by
  obtain ⟨⟨z, k1, k2, k3, k4, k5, k6, k7⟩, ⟨v1, v2, v3, v4, v5⟩, hc, hk, hr, hm⟩ := h
  have d74 : ¬ D 74 := fun q => by have := hD _ q; omega
  have hdc : ¬ D c ∧ ¬ D ca ∧ ¬ D cg ∧ ¬ D cl ∧ ¬ D ce := by
    obtain ⟨h1, h2, h3, h4, h5⟩ := id hk
    unfold ck at h1 h2 h3 h4 h5
    refine ⟨?_, ?_, ?_, ?_, ?_⟩ <;> (intro q; have := hD _ q; omega)
  exact ⟨⟨by rw [e.1]; exact z, (e.R d74).trans k1, (e.R d74).trans k2, (e.R d74).trans k3, (e.R d74).trans k4, (e.R d74).trans k5, (e.R d74).trans k6, k7.to e (fun q => by have := hD _ q; omega)⟩, ⟨(e.R d74).trans v1, (e.R d74).trans v2, (e.I d74).trans v3, (e.I d74).trans v4, (e.I d74).trans v5⟩, hc.to e hdc, hk, hr.to e ⟨fun q => by have := hD _ q; omega, fun q => by have := hD _ q; omega⟩, hm.to e ⟨fun q => by have := hD _ q; omega, fun q => by have := hD _ q; omega⟩⟩
theorem bo_and {u : Nat → Int32} {P s side : Nat} {fog : Prop} [Decidable fog] : boP u P fog s side ↔ (nI (popN s) ≤ u 2 ∧ bdnF (u 3) fog (aimsF u s False P + twosF u s P P) (lightF u s P) (nI side) ≤ u 1) := Iff.rfl
theorem c_X4_fillFits (w : Wd) (l : Launch) (S : St) (c ca cg cl ce P H : Nat) (u : Nat → Int32) (h : pzS S c ca cg cl ce P H u) (ha : sdA P u) : gx_M w l yX4_fillFits cX4_fillFits 5 none rmX4_fillFits [.ref (ad (w_b w) 74)] S (fun v S' => v = none ∧ dfE S S' ∧ ∀ s, s < 2 ^ P → s_A S' 81 s = boF 0 u P H s 0 ∧ s_A S' 81 (128 + s) = boF 0 u P H s 1) := by
  have hP7 := h.2.2.1.2.2
  have h2P := p128 hP7
  generalize hpost : (fun (v : Option Value) (S' : St) => v = none ∧ dfE S S' ∧ ∀ s, s < 2 ^ P → s_A S' 81 s = boF 0 u P H s 0 ∧ s_A S' 81 (128 + s) = boF 0 u P H s 1) = post
  refine gx_start rfl 4 rfl (Nat.le_of_ble_eq_true rfl) ?_
  intro X C _ hl
  subst hl
  refine gx_L (L' := [_, _, _, _, _]) rfl ?_
  refine g_iconst (pc := 0) (v := nI 0) C dX4_fillFits_0 (by decide) ?_
  refine g_istore_n (pc := 1) (L' := [some (.ref _), _, _, _, _]) C dX4_fillFits_1 rfl rfl ?_
  have loop : ∀ d i S1 z2 z3 z4, i + d = 2 ^ P → dfE S S1 → (∀ s, s < i → s_A S1 81 s = boF 0 u P H s 0 ∧ s_A S1 81 (128 + s) = boF 0 u P H s 1) → gx_G w X S1 0 0 2 [some (.ref (ad (w_b w) 74)), some (.int (nI i)), z2, z3, z4] [] (gx_E w X post) := by
    intro d
    induction d with
    | zero =>
      intro i S1 z2 z3 z4 hi q1 hR
      have hi : i = 2 ^ P := hi
      subst hi
      have h1 := h.o q1 (fun k e => by omega)
      have o1 : gx_o S1 74 4 := o_st h1.1.1 rfl rfl
      refine g_iload_n (pc := 2) C dX4_fillFits_2 rfl ?_
      refine g_aload_n (pc := 3) C dX4_fillFits_3 rfl ?_
      refine fg_X4_60 (pc := 4) C (by exact o1.1) (zk (by exact o1.2)) dX4_fillFits_4 ?_
      refine gx_ti (y := nI (2 ^ P - 1)) h1.2.1.2.2.2.1 ?_
      refine g_icmp_gt (pc := 7) C 143 dX4_fillFits_7 rfl (fun c1 => ?_) (fun c1 => ?_)
      · rw [← hpost]
        exact g_return (pc := 143) C ⟨rfl, rfl⟩ dX4_fillFits_143 ⟨rfl, q1, hR⟩
      · exact absurd (nI_lt (by omega) (by omega)) c1
    | succ d ih =>
      intro i S1 z2 z3 z4 hi q1 hR
      have h1 := h.o q1 (fun k e => by omega)
      obtain ⟨hk1, hv1, hc1, -, hr1, -⟩ := id h1
      have o1 : gx_o S1 74 4 := o_st h1.1.1 rfl rfl
      have rc := hv1.1
      have rr := hv1.2.1
      have rf := hk1.2.2.2.2.2.2.1
      have a81 : gx_a S1 81 15 256 := a_st h1.1.1 rfl rfl rfl
      refine g_iload_n (pc := 2) C dX4_fillFits_2 rfl ?_
      refine g_aload_n (pc := 3) C dX4_fillFits_3 rfl ?_
      refine fg_X4_60 (pc := 4) C (by exact o1.1) (zk (by exact o1.2)) dX4_fillFits_4 ?_
      refine gx_ti (y := nI (2 ^ P - 1)) hv1.2.2.2.1 ?_
      refine g_icmp_gt (pc := 7) C 143 dX4_fillFits_7 rfl (fun c1 => ?_) (fun c1 => ?_)
      · exact absurd c1 (nI_nlt (by omega) (by omega))
      · refine g_aload_n (pc := 10) C dX4_fillFits_10 rfl ?_
        refine fgr_X4_45 (pc := 11) C (by exact o1.1) (zk (by exact o1.2)) (by exact rr) dX4_fillFits_11 ?_
        refine g_aload_n (pc := 14) C dX4_fillFits_14 rfl ?_
        refine fgr_X4_41 (pc := 15) C (by exact o1.1) (zk (by exact o1.2)) (by exact rc) dX4_fillFits_15 ?_
        refine g_iload_n (pc := 18) C dX4_fillFits_18 rfl ?_
        refine cf_X4_102 (pc := 19) C (by exact hr1.1.1.1) (zk (by exact hr1.1.1.2)) (c_X6_fullWeight _ _ S1 c ca cg cl ce 13 14 P u hc1 hr1 i (by omega)) ⟨rfl, rfl⟩ ⟨rfl, rfl⟩ ⟨Nat.zero_le _, Nat.zero_le _⟩ rfl (Nat.le_of_ble_eq_true rfl) dX4_fillFits_19 ?_
        refine gx_ti (y := aimsF u i False P + twosF u i P P) (fw_eq ha.1 P (Nat.le_refl P)) ?_
        refine g_istore_n (pc := 22) (L' := [_, some (.int _), _, _, _]) C dX4_fillFits_22 rfl rfl ?_
        refine g_aload_n (pc := 23) C dX4_fillFits_23 rfl ?_
        refine fgr_X4_41 (pc := 24) C (by exact o1.1) (zk (by exact o1.2)) (by exact rc) dX4_fillFits_24 ?_
        refine g_iload_n (pc := 27) C dX4_fillFits_27 rfl ?_
        refine cf_X4_94 (pc := 28) C (by exact hc1.1.1.1) (zk (by exact hc1.1.1.2)) (c_X0_lightOf _ _ S1 c ca cg cl ce P u hc1 i (by omega)) ⟨rfl, rfl⟩ ⟨rfl, rfl⟩ ⟨Nat.zero_le _, Nat.zero_le _⟩ rfl (Nat.le_of_ble_eq_true rfl) dX4_fillFits_28 ?_
        refine g_istore_n (pc := 31) (L' := [_, _, some (.int _), _, _]) C dX4_fillFits_31 rfl rfl ?_
        refine g_iload_n (pc := 32) C dX4_fillFits_32 rfl ?_
        refine cf_X4_81 (pc := 33) C (c_bitCount _ _ S1 i (by omega)) ⟨rfl, rfl⟩ ⟨rfl, rfl⟩ ⟨Nat.zero_le _, Nat.zero_le _⟩ rfl (Nat.le_of_ble_eq_true rfl) dX4_fillFits_33 ?_
        refine g_aload_n (pc := 36) C dX4_fillFits_36 rfl ?_
        refine fgr_X4_41 (pc := 37) C (by exact o1.1) (zk (by exact o1.2)) (by exact rc) dX4_fillFits_37 ?_
        refine fg_X4_141 (pc := 40) C (by exact hc1.1.1.1) (zk (by exact hc1.1.1.2)) dX4_fillFits_40 ?_
        /- second half -/
        have half2 : ∀ S2 v, dfE S S2 → (∀ s, s < i → s_A S2 81 s = boF 0 u P H s 0 ∧ s_A S2 81 (128 + s) = boF 0 u P H s 1) → s_A S2 81 i = boF 0 u P H i 0 → v = boF 0 u P H i 1 → gx_G w X S2 0 0 136 [some (.ref (ad (w_b w) 74)), some (.int (nI i)), some (.int (aimsF u i False P + twosF u i P P)), some (.int (lightF u i P)), some (.int (bI (nI (popN i) ≤ u 2)))] [.int v, .int (nI (128 + i)), .ref (ad (w_b w) 81)] (gx_E w X post) := by
          intro S2 v q2 hR2 hi2 hv
          have h2 := h.o q2 (fun k e => by omega)
          have a812 : gx_a S2 81 15 256 := a_st h2.1.1 rfl rfl rfl
          refine n_zast (pc := 136) (n := 256) C (by exact a812.1) (by exact a812.2.1) (zk (by exact a812.2.2)) rfl rfl (by omega) dX4_fillFits_136 ?_
          refine g_iinc (pc := 137) (L' := [some (.ref _), _, _, _, _]) C dX4_fillFits_137 rfl (nI_1 _) rfl ?_
          refine g_goto (pc := 140) C 2 dX4_fillFits_140 rfl ?_
          refine ih (i + 1) _ _ _ _ (by omega) (q2.trans (eqO.sA rfl)) (fun s hs => ?_)
          rw [gA_at]
          by_cases e : s = i
          · subst e
            rw [pk_un (by omega), pk_us, hv]
            exact ⟨hi2, nar_bI⟩
          · rw [pk_un (by omega), pk_un (by omega)]
            exact hR2 s (by omega)
        have second : ∀ S2, dfE S S2 → (∀ s, s < i → s_A S2 81 s = boF 0 u P H s 0 ∧ s_A S2 81 (128 + s) = boF 0 u P H s 1) → s_A S2 81 i = boF 0 u P H i 0 → gx_G w X S2 0 0 93 [some (.ref (ad (w_b w) 74)), some (.int (nI i)), some (.int (aimsF u i False P + twosF u i P P)), some (.int (lightF u i P)), some (.int (bI (nI (popN i) ≤ u 2)))] [] (gx_E w X post) := by
          intro S2 q2 hR2 hi2
          have h2 := h.o q2 (fun k e => by omega)
          obtain ⟨hk2, hv2, hc2, -, hr2, -⟩ := id h2
          have o2 : gx_o S2 74 4 := o_st h2.1.1 rfl rfl
          have rc2 := hv2.1
          have rf2 := hk2.2.2.2.2.2.2.1
          refine g_aload_n (pc := 93) C dX4_fillFits_93 rfl ?_
          refine fgr_X4_31 (pc := 94) C (by exact o2.1) (zk (by exact o2.2)) (by exact rf2) dX4_fillFits_94 ?_
          refine g_sipush (pc := 97) (v := nI 128) C dX4_fillFits_97 (by decide) ?_
          refine g_iload_n (pc := 100) C dX4_fillFits_100 rfl ?_
          refine g_iadd (pc := 101) C dX4_fillFits_101 ?_
          refine gx_ti (y := nI (128 + i)) (nI_add _ _) ?_
          refine g_iload (pc := 102) C dX4_fillFits_102 rfl ?_
          refine g_if_eq (pc := 104) C 135 dX4_fillFits_104 rfl (fun c3 => ?_) (fun c3 => ?_)
          · have c3 := bI_0.mp c3
            refine g_iconst (pc := 135) (v := nI 0) C dX4_fillFits_135 (by decide) ?_
            exact half2 S2 _ q2 hR2 hi2 (bI_f (fun z => c3 z.1)).symm
          · have c3 := Decidable.not_not.mp (fun q => c3 (bI_0.mpr q))
            refine g_aload_n (pc := 107) C dX4_fillFits_107 rfl ?_
            refine fgr_X4_41 (pc := 108) C (by exact o2.1) (zk (by exact o2.2)) (by exact rc2) dX4_fillFits_108 ?_
            refine g_iload_n (pc := 111) C dX4_fillFits_111 rfl ?_
            refine g_iload_n (pc := 112) C dX4_fillFits_112 rfl ?_
            refine g_iconst (pc := 113) (v := nI 1) C dX4_fillFits_113 (by decide) ?_
            refine g_aload_n (pc := 114) C dX4_fillFits_114 rfl ?_
            refine fg_X4_50 (pc := 115) C (by exact o2.1) (zk (by exact o2.2)) dX4_fillFits_115 ?_
            refine gx_ti (y := bI (fogF 0 u H)) hv2.2.2.1 ?_
            refine cf_X4_144 (pc := 118) C (by exact hc2.1.1.1) (zk (by exact hc2.1.1.2)) (c_X0_burden _ _ S2 c ca cg cl ce P u hc2 (aimsF u i False P + twosF u i P P) (lightF u i P) (nI 1) (fogF 0 u H)) ⟨rfl, rfl⟩ ⟨rfl, rfl⟩ ⟨Nat.zero_le _, Nat.zero_le _⟩ rfl (Nat.le_of_ble_eq_true rfl) dX4_fillFits_118 ?_
            refine g_aload_n (pc := 121) C dX4_fillFits_121 rfl ?_
            refine fgr_X4_41 (pc := 122) C (by exact o2.1) (zk (by exact o2.2)) (by exact rc2) dX4_fillFits_122 ?_
            refine fg_X4_91 (pc := 125) C (by exact hc2.1.1.1) (zk (by exact hc2.1.1.2)) dX4_fillFits_125 ?_
            refine gx_ti (y := u 1) hc2.2.1.2.1 ?_
            refine g_icmp_gt (pc := 128) C 135 dX4_fillFits_128 rfl (fun c4 => ?_) (fun c4 => ?_)
            · refine g_iconst (pc := 135) (v := nI 0) C dX4_fillFits_135 (by decide) ?_
              exact half2 S2 _ q2 hR2 hi2 (bI_f (fun z => absurd (bo_and.mp z).2 (Int32.not_le.mpr c4))).symm
            · refine g_iconst (pc := 131) (v := nI 1) C dX4_fillFits_131 (by decide) ?_
              refine g_goto (pc := 132) C 136 dX4_fillFits_132 rfl ?_
              exact half2 S2 _ q2 hR2 hi2 (bI_t (bo_and.mpr ⟨c3, Int32.not_lt.mp c4⟩)).symm
        have half1 : ∀ v, v = boF 0 u P H i 0 → gx_G w X S1 0 0 92 [some (.ref (ad (w_b w) 74)), some (.int (nI i)), some (.int (aimsF u i False P + twosF u i P P)), some (.int (lightF u i P)), some (.int (bI (nI (popN i) ≤ u 2)))] [.int v, .int (nI i), .ref (ad (w_b w) 81)] (gx_E w X post) := by
          intro v hv
          refine n_zast (pc := 92) (n := 256) C (by exact a81.1) (by exact a81.2.1) (zk (by exact a81.2.2)) rfl rfl (by omega) dX4_fillFits_92 ?_
          refine second _ (q1.trans (eqO.sA rfl)) (fun s hs => ?_) ?_
          · rw [gA_at, pk_un (by omega), pk_un (by omega)]
            exact hR s hs
          · rw [gA_at, pk_us, hv]; exact nar_bI
        have at53 : gx_G w X S1 0 0 53 [some (.ref (ad (w_b w) 74)), some (.int (nI i)), some (.int (aimsF u i False P + twosF u i P P)), some (.int (lightF u i P)), some (.int (bI (nI (popN i) ≤ u 2)))] [] (gx_E w X post) := by
          refine g_aload_n (pc := 53) C dX4_fillFits_53 rfl ?_
          refine fgr_X4_31 (pc := 54) C (by exact o1.1) (zk (by exact o1.2)) (by exact rf) dX4_fillFits_54 ?_
          refine g_iload_n (pc := 57) C dX4_fillFits_57 rfl ?_
          refine g_iload (pc := 58) C dX4_fillFits_58 rfl ?_
          refine g_if_eq (pc := 60) C 91 dX4_fillFits_60 rfl (fun c3 => ?_) (fun c3 => ?_)
          · have c3 := bI_0.mp c3
            refine g_iconst (pc := 91) (v := nI 0) C dX4_fillFits_91 (by decide) ?_
            exact half1 _ (bI_f (fun z => c3 z.1)).symm
          · have c3 := Decidable.not_not.mp (fun q => c3 (bI_0.mpr q))
            refine g_aload_n (pc := 63) C dX4_fillFits_63 rfl ?_
            refine fgr_X4_41 (pc := 64) C (by exact o1.1) (zk (by exact o1.2)) (by exact rc) dX4_fillFits_64 ?_
            refine g_iload_n (pc := 67) C dX4_fillFits_67 rfl ?_
            refine g_iload_n (pc := 68) C dX4_fillFits_68 rfl ?_
            refine g_iconst (pc := 69) (v := nI 0) C dX4_fillFits_69 (by decide) ?_
            refine g_aload_n (pc := 70) C dX4_fillFits_70 rfl ?_
            refine fg_X4_50 (pc := 71) C (by exact o1.1) (zk (by exact o1.2)) dX4_fillFits_71 ?_
            refine gx_ti (y := bI (fogF 0 u H)) hv1.2.2.1 ?_
            refine cf_X4_144 (pc := 74) C (by exact hc1.1.1.1) (zk (by exact hc1.1.1.2)) (c_X0_burden _ _ S1 c ca cg cl ce P u hc1 (aimsF u i False P + twosF u i P P) (lightF u i P) (nI 0) (fogF 0 u H)) ⟨rfl, rfl⟩ ⟨rfl, rfl⟩ ⟨Nat.zero_le _, Nat.zero_le _⟩ rfl (Nat.le_of_ble_eq_true rfl) dX4_fillFits_74 ?_
            refine g_aload_n (pc := 77) C dX4_fillFits_77 rfl ?_
            refine fgr_X4_41 (pc := 78) C (by exact o1.1) (zk (by exact o1.2)) (by exact rc) dX4_fillFits_78 ?_
            refine fg_X4_91 (pc := 81) C (by exact hc1.1.1.1) (zk (by exact hc1.1.1.2)) dX4_fillFits_81 ?_
            refine gx_ti (y := u 1) hc1.2.1.2.1 ?_
            refine g_icmp_gt (pc := 84) C 91 dX4_fillFits_84 rfl (fun c4 => ?_) (fun c4 => ?_)
            · refine g_iconst (pc := 91) (v := nI 0) C dX4_fillFits_91 (by decide) ?_
              exact half1 _ (bI_f (fun z => absurd (bo_and.mp z).2 (Int32.not_le.mpr c4))).symm
            · refine g_iconst (pc := 87) (v := nI 1) C dX4_fillFits_87 (by decide) ?_
              refine g_goto (pc := 88) C 92 dX4_fillFits_88 rfl ?_
              exact half1 _ (bI_t (bo_and.mpr ⟨c3, Int32.not_lt.mp c4⟩)).symm
        refine gx_ti (y := u 2) hc1.2.1.2.2.1 ?_
        refine g_icmp_gt (pc := 43) C 50 dX4_fillFits_43 rfl (fun c2 => ?_) (fun c2 => ?_)
        · rw [bI_f (Int32.not_le.mpr c2)] at at53
          refine g_iconst (pc := 50) (v := nI 0) C dX4_fillFits_50 (by decide) ?_
          refine g_istore (pc := 51) (L' := [_, _, _, some (.int _), _]) C dX4_fillFits_51 rfl rfl ?_
          exact at53
        · rw [bI_t (Int32.not_lt.mp c2)] at at53
          refine g_iconst (pc := 46) (v := nI 1) C dX4_fillFits_46 (by decide) ?_
          refine g_goto (pc := 47) C 51 dX4_fillFits_47 rfl ?_
          refine g_istore (pc := 51) (L' := [_, _, _, some (.int _), _]) C dX4_fillFits_51 rfl rfl ?_
          exact at53
  exact loop (2 ^ P) 0 S _ _ _ (by omega) eqO.refl (fun s hs => absurd hs (by omega))
