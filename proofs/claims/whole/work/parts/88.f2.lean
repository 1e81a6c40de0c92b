/-! ===== THE CLASS: Puzzles: the fewest crossings, the search itself ===== -/
def dQ : Nat → Prop := fun k => k = 79 ∨ k = 80
def dG : Nat → Prop := fun k => 79 ≤ k ∧ k ≤ 81
theorem plTh_lt {P t : Nat} (hP : P ≤ 7) (ht : dmP (2 ^ P - 1) t) : plTh P t < 128 := by
  have h2 := p128 hP
  unfold plTh
  split
  · omega
  · omega
theorem c_X4_fewestCrossings (w : Wd) (l : Launch) (S : St) (c ca cg cl ce P H b : Nat) (u : Nat → Int32) (h : pzS S c ca cg cl ce P H u) (ha : sdA P u) (hb : b < 2) (hB : u 11 = nI b) : gx_M w l yX4_fewestCrossings cX4_fewestCrossings 9 (some .int) rmX4_fewestCrossings [.ref (ad (w_b w) 74)] S (fun v S' => eqO dG S S' ∧ (∀ s, s < 2 ^ P → s_A S' 81 s = boF 0 u P H s 0 ∧ s_A S' 81 (128 + s) = boF 0 u P H s 1) ∧ dsP (plF P (vU u P H)) (2 ^ P - 1) (s_A S' 79) ∧ (∀ j, dmP (2 ^ P - 1) j → s_A S' 79 j = -1 ∨ ∃ v, v < 256 ∧ s_A S' 79 j = nI v) ∧ v = some (.int (s_A S' 79 (128 * b + onN u (nI 1) P)))) := by
  have hP7 := h.2.2.1.2.2
  have h2P := p128 hP7
  have hon := onN_lt u (nI 1) P
  have o74 : gx_o S 74 4 := o_st h.1.1 rfl rfl
  generalize hpost : (fun (v : Option Value) (S' : St) => eqO dG S S' ∧ (∀ s, s < 2 ^ P → s_A S' 81 s = boF 0 u P H s 0 ∧ s_A S' 81 (128 + s) = boF 0 u P H s 1) ∧ dsP (plF P (vU u P H)) (2 ^ P - 1) (s_A S' 79) ∧ (∀ j, dmP (2 ^ P - 1) j → s_A S' 79 j = -1 ∨ ∃ v, v < 256 ∧ s_A S' 79 j = nI v) ∧ v = some (.int (s_A S' 79 (128 * b + onN u (nI 1) P)))) = post
  refine gx_start rfl 8 rfl (Nat.le_of_ble_eq_true rfl) ?_
  intro X C _ hl
  subst hl
  refine gx_L (L' := [_, _, _, _, _, _, _, _, _]) rfl ?_
  refine g_aload_n (pc := 0) C dX4_fewestCrossings_0 rfl ?_
  refine cg_X4_129 (pc := 1) C (by exact o74.1) (zk (by exact o74.2)) (c_X4_fillFits _ _ S c ca cg cl ce P H u h ha) ⟨rfl, rfl⟩ ⟨Nat.zero_le _, Nat.zero_le _⟩ rfl (Nat.le_of_ble_eq_true rfl) dX4_fewestCrossings_1 ?_
  rintro _ S1 ⟨rfl, q1, hfit⟩
  have h1 := h.o q1 (fun k e => by omega)
  have o1 : gx_o S1 74 4 := o_st h1.1.1 rfl rfl
  have rs1 := h1.1.2.2.2.2.1
  have rq1 := h1.1.2.2.2.2.2.1
  have a79 : gx_a S1 79 13 256 := a_st h1.1.1 rfl rfl rfl
  have a80 : gx_a S1 80 13 256 := a_st h1.1.1 rfl rfl rfl
  have hev := h1.2.1.2.2.2.1
  have hV : ∀ s, s < 2 ^ P → vU u P H s = boF 0 u P H s 0 ∧ vU u P H (128 + s) = boF 0 u P H s 1 := fun s hs => by
    unfold vU
    rw [show s % 128 = s by omega, show s / 128 = 0 by omega, show (128 + s) % 128 = s by omega, show (128 + s) / 128 = 1 by omega]
    exact ⟨rfl, rfl⟩
  have hplD : ∀ j s t, dmP (2 ^ P - 1) j → s < 2 ^ P - 1 + 1 → plF P (vU u P H) j s = some t → dmP (2 ^ P - 1) t := fun j s t hj hs e => (pl_some hP7 hj (by omega) e).1
  refine g_aload_n (pc := 4) C dX4_fewestCrossings_4 rfl ?_
  refine fgr_X4_25 (pc := 5) C (by exact o1.1) (zk (by exact o1.2)) (by exact rs1) dX4_fewestCrossings_5 ?_
  refine g_iconst (pc := 8) (v := -1) C dX4_fewestCrossings_8 (by decide) ?_
  refine cf_X4_132 (pc := 9) C (c_fill _ _ S1 79 256 (-1) a79 (by omega)) ⟨rfl, rfl⟩ ⟨rfl, rfl⟩ ⟨Nat.zero_le _, Nat.zero_le _⟩ rfl (Nat.le_of_ble_eq_true rfl) dX4_fewestCrossings_9 ?_
  refine g_aload_n (pc := 12) C dX4_fewestCrossings_12 rfl ?_
  refine fgr_X4_25 (pc := 13) C (by exact o1.1) (zk (by exact o1.2)) (by exact rs1) dX4_fewestCrossings_13 ?_
  refine g_aload_n (pc := 16) C dX4_fewestCrossings_16 rfl ?_
  refine fg_X4_60 (pc := 17) C (by exact o1.1) (zk (by exact o1.2)) dX4_fewestCrossings_17 ?_
  refine gx_ti (y := nI (2 ^ P - 1)) hev ?_
  refine g_iconst (pc := 20) (v := nI 0) C dX4_fewestCrossings_20 (by decide) ?_
  refine n_iast (pc := 21) (n := 256) C (by exact a79.1) (by exact a79.2.1) (zk (by exact a79.2.2)) rfl rfl (by omega) dX4_fewestCrossings_21 ?_
  refine gx_S (S' := s_setA S1 79 (upd (filF (s_A S1 79) (-1) 256) (2 ^ P - 1) (nI 0))) (by rw [gA_at, s_AA]) ?_
  refine g_aload_n (pc := 22) C dX4_fewestCrossings_22 rfl ?_
  refine fgr_X4_25 (pc := 23) C (by exact o1.1) (zk (by exact o1.2)) (by exact rs1) dX4_fewestCrossings_23 ?_
  refine g_sipush (pc := 26) (v := nI 128) C dX4_fewestCrossings_26 (by decide) ?_
  refine g_aload_n (pc := 29) C dX4_fewestCrossings_29 rfl ?_
  refine fg_X4_60 (pc := 30) C (by exact o1.1) (zk (by exact o1.2)) dX4_fewestCrossings_30 ?_
  refine gx_ti (y := nI (2 ^ P - 1)) hev ?_
  refine g_iadd (pc := 33) C dX4_fewestCrossings_33 ?_
  refine gx_ti (y := nI (128 + (2 ^ P - 1))) (nI_add _ _) ?_
  refine g_iconst (pc := 34) (v := nI 0) C dX4_fewestCrossings_34 (by decide) ?_
  refine n_iast (pc := 35) (n := 256) C (by exact a79.1) (by exact a79.2.1) (zk (by exact a79.2.2)) rfl rfl (by omega) dX4_fewestCrossings_35 ?_
  refine gx_S (S' := s_setA S1 79 (upd (upd (filF (s_A S1 79) (-1) 256) (2 ^ P - 1) (nI 0)) (128 + (2 ^ P - 1)) (nI 0))) (by rw [gA_at, s_AA]) ?_
  refine g_aload_n (pc := 36) C dX4_fewestCrossings_36 rfl ?_
  refine fgr_X4_28 (pc := 37) C (by exact o1.1) (zk (by exact o1.2)) (by exact rq1) dX4_fewestCrossings_37 ?_
  refine g_iconst (pc := 40) (v := nI 0) C dX4_fewestCrossings_40 (by decide) ?_
  refine g_aload_n (pc := 41) C dX4_fewestCrossings_41 rfl ?_
  refine fg_X4_60 (pc := 42) C (by exact o1.1) (zk (by exact o1.2)) dX4_fewestCrossings_42 ?_
  refine gx_ti (y := nI (2 ^ P - 1)) hev ?_
  refine n_iast (pc := 45) (n := 256) C (by exact a80.1) (by exact a80.2.1) (zk (by exact a80.2.2)) isn_v rfl (by omega) dX4_fewestCrossings_45 ?_
  refine g_aload_n (pc := 46) C dX4_fewestCrossings_46 rfl ?_
  refine fgr_X4_28 (pc := 47) C (by exact o1.1) (zk (by exact o1.2)) (by exact rq1) dX4_fewestCrossings_47 ?_
  refine g_iconst (pc := 50) (v := nI 1) C dX4_fewestCrossings_50 (by decide) ?_
  refine g_sipush (pc := 51) (v := nI 128) C dX4_fewestCrossings_51 (by decide) ?_
  refine g_aload_n (pc := 54) C dX4_fewestCrossings_54 rfl ?_
  refine fg_X4_60 (pc := 55) C (by exact o1.1) (zk (by exact o1.2)) dX4_fewestCrossings_55 ?_
  refine gx_ti (y := nI (2 ^ P - 1)) hev ?_
  refine g_iadd (pc := 58) C dX4_fewestCrossings_58 ?_
  refine gx_ti (y := nI (128 + (2 ^ P - 1))) (nI_add _ _) ?_
  refine n_iast (pc := 59) (n := 256) C (by exact a80.1) (by exact a80.2.1) (zk (by exact a80.2.2)) isn_v rfl (by omega) dX4_fewestCrossings_59 ?_
  generalize hN0 : upd (upd (filF (s_A S1 79) (-1) 256) (2 ^ P - 1) (nI 0)) (128 + (2 ^ P - 1)) (nI 0) = N0
  have hN : ∀ j, j < 256 → N0 j = if j % 128 = 2 ^ P - 1 then nI 0 else -1 := fun j hj => by
    rw [← hN0]
    by_cases e1 : j = 128 + (2 ^ P - 1)
    · rw [e1, pk_us, if_pos (by omega)]
    · rw [pk_un e1]
      by_cases e2 : j = 2 ^ P - 1
      · rw [e2, pk_us, if_pos (by omega)]
      · rw [pk_un e2, if_neg (by omega)]
        exact if_pos hj
  refine gx_S (S' := s_setA (s_setA S1 79 N0) 80 (upd (upd (s_A S1 80) 0 (nI (2 ^ P - 1))) 1 (nI (128 + (2 ^ P - 1))))) (by rw [gA_at, s_AA]; rfl) ?_
  refine g_iconst (pc := 60) (v := nI 2) C dX4_fewestCrossings_60 (by decide) ?_
  refine g_istore_n (pc := 61) (L' := [some (.ref _), _, _, _, _, _, _, _, _]) C dX4_fewestCrossings_61 rfl rfl ?_
  refine g_iconst (pc := 62) (v := nI 0) C dX4_fewestCrossings_62 (by decide) ?_
  refine g_istore_n (pc := 63) (L' := [_, some (.int _), _, _, _, _, _, _, _]) C dX4_fewestCrossings_63 rfl rfl ?_
  have outer : ∀ d k z S' qn vn z3 z4 z5 z6 z7 z8, k + d = 256 → eqO dQ S1 S' → (∀ i, i < z → s_A S' 80 i = nI (qn i)) → bfI (plF P (vU u P H)) (2 ^ P - 1) (s_A S' 79) qn vn z k → gx_G w X S' 0 0 64 [some (.ref (ad (w_b w) 74)), some (.int (nI z)), some (.int (nI k)), z3, z4, z5, z6, z7, z8] [] (gx_E w X post) := by
    intro d
    induction d with
    | zero =>
      intro k z S' qn vn z3 z4 z5 z6 z7 z8 hk q2 hQ hI
      have hz256 : z ≤ 256 := by have := hI.1; omega
      have h2 := h1.o q2 (fun k e => by unfold dQ at e; omega)
      have o2 : gx_o S' 74 4 := o_st h2.1.1 rfl rfl
      have rs2 := h2.1.2.2.2.2.1
      have rr2 := h2.2.1.2.1
      have a792 : gx_a S' 79 13 256 := a_st h2.1.1 rfl rfl rfl
      have hr2 := h2.2.2.2.2.1
      refine g_iload_n (pc := 64) C dX4_fewestCrossings_64 rfl ?_
      refine g_iload_n (pc := 65) C dX4_fewestCrossings_65 rfl ?_
      refine g_icmp_ge (pc := 66) C 235 dX4_fewestCrossings_66 rfl (fun c1 => ?_) (fun c1 => ?_)
      · refine g_aload_n (pc := 235) C dX4_fewestCrossings_235 rfl ?_
        refine fgr_X4_25 (pc := 236) C (by exact o2.1) (zk (by exact o2.2)) (by exact rs2) dX4_fewestCrossings_236 ?_
        refine g_aload_n (pc := 239) C dX4_fewestCrossings_239 rfl ?_
        refine fgr_X4_45 (pc := 240) C (by exact o2.1) (zk (by exact o2.2)) (by exact rr2) dX4_fewestCrossings_240 ?_
        refine fg_X4_99 (pc := 243) C (by exact hr2.1.1.1) (zk (by exact hr2.1.1.2)) dX4_fewestCrossings_243 ?_
        refine gx_ti (y := nI b) (hr2.2.1.2.1.trans hB) ?_
        refine g_sipush (pc := 246) (v := nI 128) C dX4_fewestCrossings_246 (by decide) ?_
        refine g_imul (pc := 249) C dX4_fewestCrossings_249 ?_
        refine gx_ti (y := nI (128 * b)) ((pk_mul _ _).trans (by rw [Nat.mul_comm])) ?_
        refine g_aload_n (pc := 250) C dX4_fewestCrossings_250 rfl ?_
        refine fgr_X4_45 (pc := 251) C (by exact o2.1) (zk (by exact o2.2)) (by exact rr2) dX4_fewestCrossings_251 ?_
        refine fg_X4_138 (pc := 254) C (by exact hr2.1.1.1) (zk (by exact hr2.1.1.2)) dX4_fewestCrossings_254 ?_
        refine gx_ti (y := nI (onN u (nI 1) P)) hr2.2.1.2.2.1 ?_
        refine g_iadd (pc := 257) C dX4_fewestCrossings_257 ?_
        refine gx_ti (y := nI (128 * b + onN u (nI 1) P)) (nI_add _ _) ?_
        refine n_iald (pc := 258) (n := 256) C (by exact a792.1) (by exact a792.2.1) (zk (by exact a792.2.2)) rfl rfl (by omega) dX4_fewestCrossings_258 ?_
        rw [← hpost]
        exact g_ireturn (pc := 259) C ⟨rfl, rfl⟩ dX4_fewestCrossings_259 ⟨(q1.mono (fun k e => by unfold dG; omega)).trans (q2.mono (fun k e => by unfold dQ at e; unfold dG; omega)), fun s hs => by rw [q2.A (by unfold dQ; omega)]; exact hfit s hs, bf_end hI (by omega) hplD, hI.2.1, rfl⟩
      · exact absurd (nI_le (by omega) (by omega)) c1
    | succ d ih =>
      intro k z S' qn vn z3 z4 z5 z6 z7 z8 hk q2 hQ hI
      by_cases hkz : k < z
      · have hz256 : z ≤ 256 := by have := hI.1; omega
        have h2 := h1.o q2 (fun k e => by unfold dQ at e; omega)
        have o2 : gx_o S' 74 4 := o_st h2.1.1 rfl rfl
        have rq2 := h2.1.2.2.2.2.2.1
        have a802 : gx_a S' 80 13 256 := a_st h2.1.1 rfl rfl rfl
        have hev2 := h2.2.1.2.2.2.1
        have ht := (hI.2.2.1 k hkz).1
        obtain ⟨t, et⟩ : ∃ t, qn k = t := ⟨_, rfl⟩
        rw [et] at ht
        have hqk : s_A S' 80 k = nI t := by rw [hQ k hkz, et]
        have ht256 := ht.1
        have hth := plTh_lt hP7 ht
        refine g_iload_n (pc := 64) C dX4_fewestCrossings_64 rfl ?_
        refine g_iload_n (pc := 65) C dX4_fewestCrossings_65 rfl ?_
        refine g_icmp_ge (pc := 66) C 235 dX4_fewestCrossings_66 rfl (fun c1 => ?_) (fun c1 => ?_)
        · exact absurd c1 (nI_ge (by omega) (by omega))
        · refine g_iload_n (pc := 69) C dX4_fewestCrossings_69 rfl ?_
          refine g_sipush (pc := 70) (v := nI 256) C dX4_fewestCrossings_70 (by decide) ?_
          refine g_icmp_ge (pc := 73) C 235 dX4_fewestCrossings_73 rfl (fun c2 => ?_) (fun c2 => ?_)
          · exact absurd c2 (nI_ge (by omega) (by omega))
          · refine g_aload_n (pc := 76) C dX4_fewestCrossings_76 rfl ?_
            refine fgr_X4_28 (pc := 77) C (by exact o2.1) (zk (by exact o2.2)) (by exact rq2) dX4_fewestCrossings_77 ?_
            refine g_iload_n (pc := 80) C dX4_fewestCrossings_80 rfl ?_
            refine n_iald (pc := 81) (n := 256) C (by exact a802.1) (by exact a802.2.1) (zk (by exact a802.2.2)) isn_v rfl (by omega) dX4_fewestCrossings_81 ?_
            refine gx_ti (y := nI t) hqk ?_
            refine g_sipush (pc := 82) (v := nI 128) C dX4_fewestCrossings_82 (by decide) ?_
            refine g_idiv (pc := 85) C dX4_fewestCrossings_85 (by decide) ?_
            refine gx_ti (y := nI (t / 128)) (pk_div (by omega) (by omega) (by omega)) ?_
            refine g_istore_n (pc := 86) (L' := [_, _, some (.int _), _, _, _, _, _, _]) C dX4_fewestCrossings_86 rfl rfl ?_
            refine g_aload_n (pc := 87) C dX4_fewestCrossings_87 rfl ?_
            refine fgr_X4_28 (pc := 88) C (by exact o2.1) (zk (by exact o2.2)) (by exact rq2) dX4_fewestCrossings_88 ?_
            refine g_iload_n (pc := 91) C dX4_fewestCrossings_91 rfl ?_
            refine n_iald (pc := 92) (n := 256) C (by exact a802.1) (by exact a802.2.1) (zk (by exact a802.2.2)) isn_v rfl (by omega) dX4_fewestCrossings_92 ?_
            refine gx_ti (y := nI t) hqk ?_
            refine g_sipush (pc := 93) (v := nI 128) C dX4_fewestCrossings_93 (by decide) ?_
            refine g_irem (pc := 96) C dX4_fewestCrossings_96 (by decide) ?_
            refine gx_ti (y := nI (t % 128)) (pk_rem (by omega) (by omega) (by omega)) ?_
            refine g_istore (pc := 97) (L' := [_, _, _, some (.int _), _, _, _, _, _]) C dX4_fewestCrossings_97 rfl rfl ?_
            refine g_iload_n (pc := 99) C dX4_fewestCrossings_99 rfl ?_
            refine g_iconst (pc := 100) (v := nI 1) C dX4_fewestCrossings_100 (by decide) ?_
            have inner : ∀ e s z S' qn vn z8, s + e = 2 ^ P → eqO dQ S1 S' → (∀ i, i < z → s_A S' 80 i = nI (qn i)) → bfI (plF P (vU u P H)) (2 ^ P - 1) (s_A S' 79) qn vn z k → k < z → qn k = t → bfD (plF P (vU u P H)) (2 ^ P - 1) (s_A S' 79) qn vn k s → gx_G w X S' 0 0 132 [some (.ref (ad (w_b w) 74)), some (.int (nI z)), some (.int (nI k)), some (.int (nI (t / 128))), some (.int (nI (t % 128))), some (.int (nI (plTh P t))), some (.int (nI (128 * (1 - t / 128)))), some (.int (nI s)), z8] [] (gx_E w X post) := by
              intro e
              induction e with
              | zero =>
                intro s z S' qn vn z8 hs q2 hQ hI hkz et hD
                have hs : s = 2 ^ P := hs
                subst hs
                have h2 := h1.o q2 (fun k e => by unfold dQ at e; omega)
                have o2 : gx_o S' 74 4 := o_st h2.1.1 rfl rfl
                have hev2 := h2.2.1.2.2.2.1
                refine g_iload (pc := 132) C dX4_fewestCrossings_132 rfl ?_
                refine g_aload_n (pc := 134) C dX4_fewestCrossings_134 rfl ?_
                refine fg_X4_60 (pc := 135) C (by exact o2.1) (zk (by exact o2.2)) dX4_fewestCrossings_135 ?_
                refine gx_ti (y := nI (2 ^ P - 1)) hev2 ?_
                refine g_icmp_gt (pc := 138) C 229 dX4_fewestCrossings_138 rfl (fun c3 => ?_) (fun c3 => ?_)
                · refine g_iinc (pc := 229) (L' := [_, some (.int _), _, _, _, _, _, _, _]) C dX4_fewestCrossings_229 rfl (nI_1 _) rfl ?_
                  refine g_goto (pc := 232) C 64 dX4_fewestCrossings_232 rfl ?_
                  refine ih (k + 1) z S' qn vn _ _ _ _ _ _ (by omega) q2 hQ (bf_next hI hkz ?_)
                  rw [show 2 ^ P - 1 + 1 = 2 ^ P by omega]
                  exact hD
                · exact absurd (nI_lt (by omega) (by omega)) c3
              | succ e jh =>
                intro s z S' qn vn z8 hs q2 hQ hI hkz et hD
                have hz256 : z ≤ 256 := by have := hI.1; omega
                have h2 := h1.o q2 (fun k e => by unfold dQ at e; omega)
                have o2 : gx_o S' 74 4 := o_st h2.1.1 rfl rfl
                have hev2 := h2.2.1.2.2.2.1
                have rs2 := h2.1.2.2.2.2.1
                have rq2 := h2.1.2.2.2.2.2.1
                have rf2 := h2.1.2.2.2.2.2.2.1
                have a792 : gx_a S' 79 13 256 := a_st h2.1.1 rfl rfl rfl
                have a802 : gx_a S' 80 13 256 := a_st h2.1.1 rfl rfl rfl
                have a812 : gx_a S' 81 15 256 := a_st h2.1.1 rfl rfl rfl
                have hs128 : s < 128 := by omega
                obtain ⟨x1, x2⟩ := xor_set (t % 128) (Nat.mod_lt _ (by omega)) s hs128
                have hfits : s_A S' 81 (128 * (1 - t / 128) + s) = vU u P H (128 * (1 - t / 128) + s) := by
                  rw [q2.A (by unfold dQ; omega)]
                  have hd : t / 128 = 0 ∨ t / 128 = 1 := by omega
                  obtain ⟨f1, f2⟩ := hfit s (by omega)
                  obtain ⟨g1, g2⟩ := hV s (by omega)
                  rcases hd with q | q
                  · rw [q, show 128 * (1 - 0) + s = 128 + s by omega, f2, g2]
                  · rw [q, show 128 * (1 - 1) + s = s by omega, f1, g1]
                refine g_iload (pc := 132) C dX4_fewestCrossings_132 rfl ?_
                refine g_aload_n (pc := 134) C dX4_fewestCrossings_134 rfl ?_
                refine fg_X4_60 (pc := 135) C (by exact o2.1) (zk (by exact o2.2)) dX4_fewestCrossings_135 ?_
                refine gx_ti (y := nI (2 ^ P - 1)) hev2 ?_
                refine g_icmp_gt (pc := 138) C 229 dX4_fewestCrossings_138 rfl (fun c3 => ?_) (fun c3 => ?_)
                · exact absurd c3 (nI_nlt (by omega) (by omega))
                · have skip : (∀ j, dmP (2 ^ P - 1) j → plF P (vU u P H) j s = some t → ∃ m, m ≤ vn k + 1 ∧ s_A S' 79 j = nI m) → gx_G w X S' 0 0 223 [some (.ref (ad (w_b w) 74)), some (.int (nI z)), some (.int (nI k)), some (.int (nI (t / 128))), some (.int (nI (t % 128))), some (.int (nI (plTh P t))), some (.int (nI (128 * (1 - t / 128)))), some (.int (nI s)), some (.int (nI (128 * (1 - t / 128) + (t % 128 ^^^ s))))] [] (gx_E w X post) := by
                    intro hno
                    refine g_iinc (pc := 223) (L' := [_, _, _, _, _, _, some (.int _), _, _]) C dX4_fewestCrossings_223 rfl (nI_1 _) rfl ?_
                    refine g_goto (pc := 226) C 132 dX4_fewestCrossings_226 rfl ?_
                    refine jh (s + 1) z S' qn vn _ (by omega) q2 hQ hI hkz et (fun j s' hs' hj hp => ?_)
                    by_cases e1 : s' = s
                    · subst e1; rw [et] at hp; exact hno j hj hp
                    · exact hD j s' (by omega) hj hp
                  refine g_iload (pc := 141) C dX4_fewestCrossings_141 rfl ?_
                  refine g_iload (pc := 143) C dX4_fewestCrossings_143 rfl ?_
                  refine g_iload (pc := 145) C dX4_fewestCrossings_145 rfl ?_
                  refine g_ixor (pc := 147) C dX4_fewestCrossings_147 ?_
                  refine gx_ti (y := nI (t % 128 ^^^ s)) x1 ?_
                  refine g_iadd (pc := 148) C dX4_fewestCrossings_148 ?_
                  refine gx_ti (y := nI (128 * (1 - t / 128) + (t % 128 ^^^ s))) (nI_add _ _) ?_
                  refine g_istore (pc := 149) (L' := [_, _, _, _, _, _, _, some (.int _), _]) C dX4_fewestCrossings_149 rfl rfl ?_
                  refine g_iload (pc := 151) C dX4_fewestCrossings_151 rfl ?_
                  refine g_iload (pc := 153) C dX4_fewestCrossings_153 rfl ?_
                  refine g_iconst (pc := 155) (v := -1) C dX4_fewestCrossings_155 (by decide) ?_
                  refine g_ixor (pc := 156) C dX4_fewestCrossings_156 ?_
                  refine g_iand (pc := 157) C dX4_fewestCrossings_157 ?_
                  refine g_if_ne (pc := 158) C 223 dX4_fewestCrossings_158 rfl (fun c4 => ?_) (fun c4 => ?_)
                  · refine skip (fun j hj hp => ?_)
                    obtain ⟨-, -, p3, -⟩ := pl_some hP7 hj (by omega) hp
                    exact absurd ((sub_iff s hs128 _ hth).mpr p3) c4
                  · have c4 := (sub_iff s hs128 _ hth).mp (Decidable.not_not.mp c4)
                    refine g_aload_n (pc := 161) C dX4_fewestCrossings_161 rfl ?_
                    refine fgr_X4_31 (pc := 162) C (by exact o2.1) (zk (by exact o2.2)) (by exact rf2) dX4_fewestCrossings_162 ?_
                    refine g_iload (pc := 165) C dX4_fewestCrossings_165 rfl ?_
                    refine g_iload (pc := 167) C dX4_fewestCrossings_167 rfl ?_
                    refine g_iadd (pc := 169) C dX4_fewestCrossings_169 ?_
                    refine n_zald (pc := 170) (n := 256) C (by exact a812.1) (by exact a812.2.1) (zk (by exact a812.2.2)) (isn_add isn_v isn_v) rfl (by omega) dX4_fewestCrossings_170 ?_
                    refine gx_ti (y := vU u P H (128 * (1 - t / 128) + s)) hfits ?_
                    refine g_if_eq (pc := 171) C 223 dX4_fewestCrossings_171 rfl (fun c5 => ?_) (fun c5 => ?_)
                    · refine skip (fun j hj hp => ?_)
                      obtain ⟨-, -, -, p4⟩ := pl_some hP7 hj (by omega) hp
                      exact absurd c5 p4
                    · obtain ⟨m1, m2⟩ := pl_mk (V := vU u P H) hP7 ht (show s < 2 ^ P by omega) c4 c5
                      generalize hj0 : 128 * (1 - t / 128) + (t % 128 ^^^ s) = j0 at *
                      have hj256 := m1.1
                      refine g_aload_n (pc := 174) C dX4_fewestCrossings_174 rfl ?_
                      refine fgr_X4_25 (pc := 175) C (by exact o2.1) (zk (by exact o2.2)) (by exact rs2) dX4_fewestCrossings_175 ?_
                      refine g_iload (pc := 178) C dX4_fewestCrossings_178 rfl ?_
                      refine n_iald (pc := 180) (n := 256) C (by exact a792.1) (by exact a792.2.1) (zk (by exact a792.2.2)) isn_v rfl (by omega) dX4_fewestCrossings_180 ?_
                      refine g_iconst (pc := 181) (v := -1) C dX4_fewestCrossings_181 (by decide) ?_
                      refine g_icmp_ne (pc := 182) C 223 dX4_fewestCrossings_182 rfl (fun c6 => ?_) (fun c6 => ?_)
                      · refine skip (fun j hj hp => ?_)
                        obtain ⟨-, p2, -, -⟩ := pl_some hP7 hj (by omega) hp
                        rw [hj0] at p2
                        subst p2
                        obtain ⟨i, hi, ei⟩ := hI.2.2.2.2.2.1 _ hj c6
                        have g1 := hI.2.2.1 i hi
                        rw [ei] at g1
                        exact ⟨vn i, hI.2.2.2.2.1 hkz i hi, g1.2.1⟩
                      · have c6 := Decidable.not_not.mp c6
                        rw [← et] at m2
                        obtain ⟨zl, hI2, hD2, qk, vk⟩ := bf_push hI hkz m1 c6 (by omega) m2
                        have hvk := hI.2.2.1 k hkz
                        rw [et] at hvk
                        refine g_iload_n (pc := 185) C dX4_fewestCrossings_185 rfl ?_
                        refine g_sipush (pc := 186) (v := nI 256) C dX4_fewestCrossings_186 (by decide) ?_
                        refine g_icmp_ge (pc := 189) C 223 dX4_fewestCrossings_189 rfl (fun c7 => ?_) (fun c7 => ?_)
                        · exact absurd c7 (nI_ge (by omega) (by omega))
                        · refine g_aload_n (pc := 192) C dX4_fewestCrossings_192 rfl ?_
                          refine fgr_X4_25 (pc := 193) C (by exact o2.1) (zk (by exact o2.2)) (by exact rs2) dX4_fewestCrossings_193 ?_
                          refine g_iload (pc := 196) C dX4_fewestCrossings_196 rfl ?_
                          refine g_aload_n (pc := 198) C dX4_fewestCrossings_198 rfl ?_
                          refine fgr_X4_25 (pc := 199) C (by exact o2.1) (zk (by exact o2.2)) (by exact rs2) dX4_fewestCrossings_199 ?_
                          refine g_aload_n (pc := 202) C dX4_fewestCrossings_202 rfl ?_
                          refine fgr_X4_28 (pc := 203) C (by exact o2.1) (zk (by exact o2.2)) (by exact rq2) dX4_fewestCrossings_203 ?_
                          refine g_iload_n (pc := 206) C dX4_fewestCrossings_206 rfl ?_
                          refine n_iald (pc := 207) (n := 256) C (by exact a802.1) (by exact a802.2.1) (zk (by exact a802.2.2)) isn_v rfl (by omega) dX4_fewestCrossings_207 ?_
                          refine gx_ti (y := nI t) (by rw [hQ k hkz, et]) ?_
                          refine n_iald (pc := 208) (n := 256) C (by exact a792.1) (by exact a792.2.1) (zk (by exact a792.2.2)) rfl rfl (by omega) dX4_fewestCrossings_208 ?_
                          refine gx_ti (y := nI (vn k)) hvk.2.1 ?_
                          refine g_iconst (pc := 209) (v := nI 1) C dX4_fewestCrossings_209 (by decide) ?_
                          refine g_iadd (pc := 210) C dX4_fewestCrossings_210 ?_
                          refine gx_ti (y := nI (vn k + 1)) (nI_add _ _) ?_
                          refine n_iast (pc := 211) (n := 256) C (by exact a792.1) (by exact a792.2.1) (zk (by exact a792.2.2)) isn_v rfl (by omega) dX4_fewestCrossings_211 ?_
                          refine g_aload_n (pc := 212) C dX4_fewestCrossings_212 rfl ?_
                          refine fgr_X4_28 (pc := 213) C (by exact o2.1) (zk (by exact o2.2)) (by exact rq2) dX4_fewestCrossings_213 ?_
                          refine g_iload_n (pc := 216) C dX4_fewestCrossings_216 rfl ?_
                          refine g_iload (pc := 217) C dX4_fewestCrossings_217 rfl ?_
                          refine n_iast (pc := 219) (n := 256) C (by exact a802.1) (by exact a802.2.1) (zk (by exact a802.2.2)) isn_v rfl (by omega) dX4_fewestCrossings_219 ?_
                          refine g_iinc (pc := 220) (L' := [some (.ref _), _, _, _, _, _, _, _, _]) C dX4_fewestCrossings_220 rfl (nI_1 _) rfl ?_
                          refine gx_S (S' := s_setA (s_setA S' 79 (upd (s_A S' 79) j0 (nI (vn k + 1)))) 80 (upd (s_A S' 80) z (nI j0))) (by rfl) ?_
                          generalize hS3 : s_setA (s_setA S' 79 (upd (s_A S' 79) j0 (nI (vn k + 1)))) 80 (upd (s_A S' 80) z (nI j0)) = S3
                          have e79 : s_A S3 79 = upd (s_A S' 79) j0 (nI (vn k + 1)) := by rw [← hS3, gA_ne (by decide)]; exact gA_at
                          have e80 : s_A S3 80 = upd (s_A S' 80) z (nI j0) := by rw [← hS3]; exact gA_at
                          have q3 : eqO dQ S1 S3 := by rw [← hS3]; exact (q2.trans (eqO.sA (Or.inl rfl))).trans (eqO.sA (Or.inr rfl))
                          rw [← e79] at hI2 hD2
                          refine g_iinc (pc := 223) (L' := [_, _, _, _, _, _, some (.int _), _, _]) C dX4_fewestCrossings_223 rfl (nI_1 _) rfl ?_
                          refine g_goto (pc := 226) C 132 dX4_fewestCrossings_226 rfl ?_
                          refine jh (s + 1) (z + 1) S3 _ _ _ (by omega) q3 (fun i hi => ?_) hI2 (by omega) (qk.trans et) (fun j s' hs' hj hp => ?_)
                          · rw [e80]
                            unfold updN
                            by_cases e1 : i = z
                            · subst e1; rw [pk_us, if_pos rfl]
                            · rw [pk_un e1, if_neg e1]; exact hQ i (by omega)
                          · by_cases e1 : s' = s
                            · subst e1
                              rw [qk, et] at hp
                              obtain ⟨-, p2, -, -⟩ := pl_some hP7 hj (by omega) hp
                              rw [hj0] at p2
                              subst p2
                              rw [vk, e79]
                              exact ⟨vn k + 1, Nat.le_refl _, pk_us⟩
                            · exact hD2 s hD j s' (by omega) hj hp
            have cont : gx_G w X S' 0 0 118 [some (.ref (ad (w_b w) 74)), some (.int (nI z)), some (.int (nI k)), some (.int (nI (t / 128))), some (.int (nI (t % 128))), z5, z6, z7, z8] [.int (nI (plTh P t))] (gx_E w X post) := by
              refine g_istore (pc := 118) (L' := [_, _, _, _, some (.int _), _, _, _, _]) C dX4_fewestCrossings_118 rfl rfl ?_
              refine g_iconst (pc := 120) (v := nI 1) C dX4_fewestCrossings_120 (by decide) ?_
              refine g_iload_n (pc := 121) C dX4_fewestCrossings_121 rfl ?_
              refine g_isub (pc := 122) C dX4_fewestCrossings_122 ?_
              refine gx_ti (y := nI (1 - t / 128)) (pk_sub (by omega)) ?_
              refine g_sipush (pc := 123) (v := nI 128) C dX4_fewestCrossings_123 (by decide) ?_
              refine g_imul (pc := 126) C dX4_fewestCrossings_126 ?_
              refine gx_ti (y := nI (128 * (1 - t / 128))) ((pk_mul _ _).trans (by rw [Nat.mul_comm])) ?_
              refine g_istore (pc := 127) (L' := [_, _, _, _, _, some (.int _), _, _, _]) C dX4_fewestCrossings_127 rfl rfl ?_
              refine g_iconst (pc := 129) (v := nI 0) C dX4_fewestCrossings_129 (by decide) ?_
              refine g_istore (pc := 130) (L' := [_, _, _, _, _, _, some (.int _), _, _]) C dX4_fewestCrossings_130 rfl rfl ?_
              exact inner (2 ^ P) 0 z S' qn vn _ (by omega) q2 hQ hI hkz et (fun j s hs => absurd hs (by omega))
            refine g_icmp_ne (pc := 101) C 109 dX4_fewestCrossings_101 rfl (fun c3 => ?_) (fun c3 => ?_)
            · have c3 : ¬ t / 128 = 1 := fun e => c3 (by rw [e])
              refine g_aload_n (pc := 109) C dX4_fewestCrossings_109 rfl ?_
              refine fg_X4_60 (pc := 110) C (by exact o2.1) (zk (by exact o2.2)) dX4_fewestCrossings_110 ?_
              refine gx_ti (y := nI (2 ^ P - 1)) hev2 ?_
              refine g_iload (pc := 113) C dX4_fewestCrossings_113 rfl ?_
              refine g_iconst (pc := 115) (v := -1) C dX4_fewestCrossings_115 (by decide) ?_
              refine g_ixor (pc := 116) C dX4_fewestCrossings_116 ?_
              refine g_iand (pc := 117) C dX4_fewestCrossings_117 ?_
              refine gx_ti (y := nI (plTh P t)) ((andn_nI _ (by omega) _ (Nat.mod_lt _ (by omega))).trans (by unfold plTh; rw [if_neg c3])) ?_
              exact cont
            · have c3 : t / 128 = 1 := (nI_eq (by omega) (by omega)).mp (Decidable.not_not.mp c3)
              refine g_iload (pc := 104) C dX4_fewestCrossings_104 rfl ?_
              refine g_goto (pc := 106) C 118 dX4_fewestCrossings_106 rfl ?_
              refine gx_ti (y := nI (plTh P t)) (by unfold plTh; rw [if_pos c3]) ?_
              exact cont
      · have hz256 : z ≤ 256 := by have := hI.1; omega
        have h2 := h1.o q2 (fun k e => by unfold dQ at e; omega)
        have o2 : gx_o S' 74 4 := o_st h2.1.1 rfl rfl
        have rs2 := h2.1.2.2.2.2.1
        have rr2 := h2.2.1.2.1
        have a792 : gx_a S' 79 13 256 := a_st h2.1.1 rfl rfl rfl
        have hr2 := h2.2.2.2.2.1
        refine g_iload_n (pc := 64) C dX4_fewestCrossings_64 rfl ?_
        refine g_iload_n (pc := 65) C dX4_fewestCrossings_65 rfl ?_
        refine g_icmp_ge (pc := 66) C 235 dX4_fewestCrossings_66 rfl (fun c1 => ?_) (fun c1 => ?_)
        · refine g_aload_n (pc := 235) C dX4_fewestCrossings_235 rfl ?_
          refine fgr_X4_25 (pc := 236) C (by exact o2.1) (zk (by exact o2.2)) (by exact rs2) dX4_fewestCrossings_236 ?_
          refine g_aload_n (pc := 239) C dX4_fewestCrossings_239 rfl ?_
          refine fgr_X4_45 (pc := 240) C (by exact o2.1) (zk (by exact o2.2)) (by exact rr2) dX4_fewestCrossings_240 ?_
          refine fg_X4_99 (pc := 243) C (by exact hr2.1.1.1) (zk (by exact hr2.1.1.2)) dX4_fewestCrossings_243 ?_
          refine gx_ti (y := nI b) (hr2.2.1.2.1.trans hB) ?_
          refine g_sipush (pc := 246) (v := nI 128) C dX4_fewestCrossings_246 (by decide) ?_
          refine g_imul (pc := 249) C dX4_fewestCrossings_249 ?_
          refine gx_ti (y := nI (128 * b)) ((pk_mul _ _).trans (by rw [Nat.mul_comm])) ?_
          refine g_aload_n (pc := 250) C dX4_fewestCrossings_250 rfl ?_
          refine fgr_X4_45 (pc := 251) C (by exact o2.1) (zk (by exact o2.2)) (by exact rr2) dX4_fewestCrossings_251 ?_
          refine fg_X4_138 (pc := 254) C (by exact hr2.1.1.1) (zk (by exact hr2.1.1.2)) dX4_fewestCrossings_254 ?_
          refine gx_ti (y := nI (onN u (nI 1) P)) hr2.2.1.2.2.1 ?_
          refine g_iadd (pc := 257) C dX4_fewestCrossings_257 ?_
          refine gx_ti (y := nI (128 * b + onN u (nI 1) P)) (nI_add _ _) ?_
          refine n_iald (pc := 258) (n := 256) C (by exact a792.1) (by exact a792.2.1) (zk (by exact a792.2.2)) rfl rfl (by omega) dX4_fewestCrossings_258 ?_
          rw [← hpost]
          exact g_ireturn (pc := 259) C ⟨rfl, rfl⟩ dX4_fewestCrossings_259 ⟨(q1.mono (fun k e => by unfold dG; omega)).trans (q2.mono (fun k e => by unfold dQ at e; unfold dG; omega)), fun s hs => by rw [q2.A (by unfold dQ; omega)]; exact hfit s hs, bf_end hI (by omega) hplD, hI.2.1, rfl⟩
        · exact absurd (nI_le (by omega) (by omega)) c1
  exact outer 256 0 2 _ (fun i => if i = 0 then 2 ^ P - 1 else 128 + (2 ^ P - 1)) (fun _ => 0) _ _ _ _ _ _ (by omega) ((eqO.sA (Or.inl rfl)).trans (eqO.sA (Or.inr rfl))) (fun i hi => by
    rw [gA_at]
    by_cases e : i = 0
    · subst e; rw [pk_un (by omega), pk_us, if_pos rfl]
    · have e1 : i = 1 := by omega
      subst e1; rw [pk_us, if_neg (by omega)]) (by rw [gA_ne (by decide), gA_at]; exact bf_0 hP7 hN)
