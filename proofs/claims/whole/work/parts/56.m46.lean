/-! ===== the reference's texts: isBesideHere, isFogHere, ferryLineHere ===== -/
theorem bes_of {x : Int32} {P : Nat} (hP : P ≤ 7) (h1 : nI 0 ≤ x) (h2 : x ≤ nI P - nI 1) : ∃ j, j < P ∧ x = nI j := by
  cases P with
  | zero => exact absurd (Int32.le_trans h1 h2) (by decide)
  | succ P =>
    have e : nI (P + 1) - nI 1 = nI P := nI_pred P
    rw [e] at h2
    obtain ⟨j, hj, e2⟩ := nI_of2 (x := x) (M := nI P) (n := P) (nI_toInt (by omega)) (Int32.not_lt.mpr h1) h2
    exact ⟨j, by omega, e2⟩
theorem c_X12_isBesideHere (w : Wd) (l : Launch) (S : St) (L : Nat) (hx : gx_x S L) (i : Nat → Int32) (a : Nat → Nat → Int32) (n P : Nat) (D : Nat → Int32) (h : dx i a n P D) (hn : n ≤ L) : gx_M w l yX12_isBesideHere cX12_isBesideHere 4 (some .boolean) rmX12_isBesideHere [.ref (ad (w_b w) 1000)] (rdS S i a) (pxD S i a (besF (s_A S 1001) L n P D)) := by
  have hL : L ≤ 400 := hx.2.1.2
  have hmA : ∀ i a, gx_m (rdS S i a) := fun i a => hx.1
  have h0 := lt_le (T := s_A S 1001) hn
  have hP7 := h.2.2.2.2
  generalize hr : besF (s_A S 1001) L n P D = r
  unfold besF at hr
  refine gx_start rfl 3 rfl (Nat.le_of_ble_eq_true rfl) ?_
  intro X C _ hl
  subst hl
  refine gx_L (L' := [_, _, _, _]) rfl ?_
  refine g_aload_n (pc := 0) C dX12_isBesideHere_0 rfl ?_
  refine cf_X12_117 (pc := 1) C rfl (m_z (hmA _ _) rfl) (r_pass _ _ S L hx i a n h.1 (by omega)) ⟨rfl, rfl⟩ ⟨rfl, rfl⟩ ⟨Nat.zero_le _, Nat.zero_le _⟩ rfl (Nat.le_of_ble_eq_true rfl) dX12_isBesideHere_1 ?_
  generalize ltN (s_A S 1001) L n = n0 at *
  have h1 : dx (u1 i 1108 (nI n0)) a n0 P D := ⟨rfl, h.2.1, h.2.2⟩
  have f1 : fxI l3 i (u1 i 1108 (nI n0)) := fxI.u (by decide)
  generalize u1 i 1108 (nI n0) = i1 at h1 f1
  refine g_aload_n (pc := 4) C dX12_isBesideHere_4 rfl ?_
  refine g_iconst (pc := 5) (v := nI 0) C dX12_isBesideHere_5 (by decide) ?_
  refine g_aload_n (pc := 6) C dX12_isBesideHere_6 rfl ?_
  refine mg_26 (pc := 7) C (hmA _ _) dX12_isBesideHere_7 ?_
  refine g_iconst (pc := 10) (v := nI 4) C dX12_isBesideHere_10 (by decide) ?_
  refine n_iald (pc := 11) (k := 1006) (n := 159) C rfl rfl (m_z (hmA _ _) rfl) isn_v rfl (by omega) dX12_isBesideHere_11 ?_
  refine gx_ti (y := nI P) ((congrFun h1.2.2.1 4).trans h1.2.2.2.1) ?_
  refine g_iconst (pc := 12) (v := nI 1) C dX12_isBesideHere_12 (by decide) ?_
  refine g_isub (pc := 13) C dX12_isBesideHere_13 ?_
  refine cg_X12_179 (pc := 14) C rfl (m_z (hmA _ _) rfl) (r_number _ _ S L hx i1 a h1.2.1 n0 h1.1 (by omega) (nI 0) (nI P - nI 1)) ⟨rfl, rfl⟩ ⟨Nat.zero_le _, Nat.zero_le _⟩ rfl (Nat.le_of_ble_eq_true rfl) dX12_isBesideHere_14 ?_
  rintro _ _ ⟨i2, rfl, f2, r2⟩
  generalize hu : numF (s_A S 1001) L n0 (nI 0) (nI P - nI 1) = u at hr r2
  cases u with
  | error f =>
    obtain ⟨rfl, r2⟩ := r2
    have hr : Except.error f = r := hr
    subst hr
    refine g_if_ne (pc := 17) C 22 dX12_isBesideHere_17 rfl (fun c2 => ?_) (fun c2 => ?_)
    · exact absurd rfl c2
    · refine g_iconst (pc := 20) (v := nI 0) C dX12_isBesideHere_20 (by decide) ?_
      exact g_zreturn (pc := 21) C ⟨rfl, rfl⟩ (by first | exact Or.inl rfl | exact Or.inr rfl) dX12_isBesideHere_21 ⟨i2, a, rfl, f1.trans f2, fxD.refl, rfl, r2⟩
  | ok p =>
    obtain ⟨n1, x⟩ := p
    obtain ⟨rfl, g1, g2, g3⟩ := r2
    obtain ⟨b1, b2, b3, b4⟩ := num_ok hu h0.2
    obtain ⟨jx, hjx, rfl⟩ := bes_of hP7 b3 b4
    have hr : (match numF (s_A S 1001) L n1 (nI 0) (nI P - nI 1) with
      | .error f => .error f
      | .ok (n2, y) => if nI jx = y then .error (ftN 1 (skN (s_A S 1001) L n1)) else match numF (s_A S 1001) L n2 (nI 0) (nI 9) with
        | .error f => .error f
        | .ok (n3, z) => .ok (n3, P, upd (upd D (49 + 7 * (nI jx).toNatClampNeg + y.toNatClampNeg) z) (49 + 7 * y.toNatClampNeg + (nI jx).toNatClampNeg) z)) = r := hr
    rw [nI_clamp (by omega)] at hr
    have hq1 := sk_ge (T := s_A S 1001) (L := L) (n := n1)
    have hq2 := sk_L (T := s_A S 1001) b2
    have hqe : numF (s_A S 1001) L (skN (s_A S 1001) L n1) (nI 0) (nI P - nI 1) = numF (s_A S 1001) L n1 (nI 0) (nI P - nI 1) := by unfold numF; rw [skN_idem]
    refine g_if_ne (pc := 17) C 22 dX12_isBesideHere_17 rfl (fun c2 => ?_) (fun c2 => ?_)
    · refine g_aload_n (pc := 22) C dX12_isBesideHere_22 rfl ?_
      refine mg_127 (pc := 23) C (hmA _ _) dX12_isBesideHere_23 ?_
      refine gx_ti (y := nI jx) g3 ?_
      refine g_istore_n (pc := 26) (L' := [some (.ref _), _, _, _]) C dX12_isBesideHere_26 rfl rfl ?_
      refine g_aload_n (pc := 27) C dX12_isBesideHere_27 rfl ?_
      refine cf_X12_105 (pc := 28) C rfl (m_z (hmA _ _) rfl) (r_see _ _ S L hx i2 a n1 g1 (by omega)) ⟨rfl, rfl⟩ ⟨rfl, rfl⟩ ⟨Nat.zero_le _, Nat.zero_le _⟩ rfl (Nat.le_of_ble_eq_true rfl) dX12_isBesideHere_28 ?_
      refine g_pop (pc := 31) C dX12_isBesideHere_31 rfl ?_
      generalize hq : skN (s_A S 1001) L n1 = q at *
      have h3 : dx (u1 i2 1108 (nI q)) a q P D := ⟨rfl, g2, h1.2.2⟩
      have f3 : fxI l3 i (u1 i2 1108 (nI q)) := (f1.trans f2).trans (fxI.u (by decide))
      generalize u1 i2 1108 (nI q) = i3 at h3 f3
      refine g_aload_n (pc := 32) C dX12_isBesideHere_32 rfl ?_
      refine mg_102 (pc := 33) C (hmA _ _) dX12_isBesideHere_33 ?_
      refine gx_ti (y := nI q) h3.1 ?_
      refine g_istore_n (pc := 36) (L' := [_, some (.int _), _, _]) C dX12_isBesideHere_36 rfl rfl ?_
      refine g_aload_n (pc := 37) C dX12_isBesideHere_37 rfl ?_
      refine g_iconst (pc := 38) (v := nI 0) C dX12_isBesideHere_38 (by decide) ?_
      refine g_aload_n (pc := 39) C dX12_isBesideHere_39 rfl ?_
      refine mg_26 (pc := 40) C (hmA _ _) dX12_isBesideHere_40 ?_
      refine g_iconst (pc := 43) (v := nI 4) C dX12_isBesideHere_43 (by decide) ?_
      refine n_iald (pc := 44) (k := 1006) (n := 159) C rfl rfl (m_z (hmA _ _) rfl) isn_v rfl (by omega) dX12_isBesideHere_44 ?_
      refine gx_ti (y := nI P) ((congrFun h3.2.2.1 4).trans h3.2.2.2.1) ?_
      refine g_iconst (pc := 45) (v := nI 1) C dX12_isBesideHere_45 (by decide) ?_
      refine g_isub (pc := 46) C dX12_isBesideHere_46 ?_
      refine cg_X12_179 (pc := 47) C rfl (m_z (hmA _ _) rfl) (r_number _ _ S L hx i3 a h3.2.1 q h3.1 (by omega) (nI 0) (nI P - nI 1)) ⟨rfl, rfl⟩ ⟨Nat.zero_le _, Nat.zero_le _⟩ rfl (Nat.le_of_ble_eq_true rfl) dX12_isBesideHere_47 ?_
      rintro _ _ ⟨i4, rfl, f4, r4⟩
      rw [hqe] at r4
      generalize hu2 : numF (s_A S 1001) L n1 (nI 0) (nI P - nI 1) = u at hr r4
      cases u with
      | error f =>
        obtain ⟨rfl, r4⟩ := r4
        have hr : Except.error f = r := hr
        subst hr
        refine g_if_ne (pc := 50) C 55 dX12_isBesideHere_50 rfl (fun c3 => ?_) (fun c3 => ?_)
        · exact absurd rfl c3
        · refine g_iconst (pc := 53) (v := nI 0) C dX12_isBesideHere_53 (by decide) ?_
          exact g_zreturn (pc := 54) C ⟨rfl, rfl⟩ (by first | exact Or.inl rfl | exact Or.inr rfl) dX12_isBesideHere_54 ⟨i4, a, rfl, f3.trans f4, fxD.refl, rfl, r4⟩
      | ok p =>
        obtain ⟨n2, y⟩ := p
        obtain ⟨rfl, k1, k2, k3⟩ := r4
        obtain ⟨d1, d2, d3, d4⟩ := num_ok hu2 b2
        obtain ⟨jy, hjy, rfl⟩ := bes_of hP7 d3 d4
        have hr : (if nI jx = nI jy then .error (ftN 1 q) else match numF (s_A S 1001) L n2 (nI 0) (nI 9) with
          | .error f => .error f
          | .ok (n3, z) => .ok (n3, P, upd (upd D (49 + 7 * jx + (nI jy).toNatClampNeg) z) (49 + 7 * (nI jy).toNatClampNeg + jx) z)) = r := hr
        rw [nI_clamp (by omega)] at hr
        refine g_if_ne (pc := 50) C 55 dX12_isBesideHere_50 rfl (fun c3 => ?_) (fun c3 => ?_)
        · refine g_aload_n (pc := 55) C dX12_isBesideHere_55 rfl ?_
          refine mg_127 (pc := 56) C (hmA _ _) dX12_isBesideHere_56 ?_
          refine gx_ti (y := nI jy) k3 ?_
          refine g_istore_n (pc := 59) (L' := [_, _, some (.int _), _]) C dX12_isBesideHere_59 rfl rfl ?_
          refine g_iload_n (pc := 60) C dX12_isBesideHere_60 rfl ?_
          refine g_iload_n (pc := 61) C dX12_isBesideHere_61 rfl ?_
          refine g_icmp_ne (pc := 62) C 72 dX12_isBesideHere_62 rfl (fun c4 => ?_) (fun c4 => ?_)
          · rw [if_neg c4] at hr
            have h4 : dx i4 a n2 P D := ⟨k1, k2, h3.2.2⟩
            refine g_aload_n (pc := 72) C dX12_isBesideHere_72 rfl ?_
            refine g_bipush (pc := 73) (v := nI 49) C dX12_isBesideHere_73 (by decide) ?_
            refine g_bipush (pc := 75) (v := nI 7) C dX12_isBesideHere_75 (by decide) ?_
            refine g_iload_n (pc := 77) C dX12_isBesideHere_77 rfl ?_
            refine g_imul (pc := 78) C dX12_isBesideHere_78 ?_
            refine g_iadd (pc := 79) C dX12_isBesideHere_79 ?_
            refine g_iload_n (pc := 80) C dX12_isBesideHere_80 rfl ?_
            refine g_iadd (pc := 81) C dX12_isBesideHere_81 ?_
            refine gx_ti (y := nI (49 + 7 * jx + jy)) (isn_add (isn_add isn_v (isn_mul isn_v isn_v)) isn_v) ?_
            refine g_iconst (pc := 82) (v := nI 0) C dX12_isBesideHere_82 (by decide) ?_
            refine g_bipush (pc := 83) (v := nI 9) C dX12_isBesideHere_83 (by decide) ?_
            refine cg_X12_230 (pc := 85) C rfl (m_z (hmA _ _) rfl) (c_X12_cellHere _ _ S L hx i4 a n2 P D h4 d2 (49 + 7 * jx + jy) (by omega) (by omega) (nI 0) (nI 9)) ⟨rfl, rfl⟩ ⟨Nat.zero_le _, Nat.zero_le _⟩ rfl (Nat.le_of_ble_eq_true rfl) dX12_isBesideHere_85 ?_
            rintro _ _ ⟨⟨i5, a5, rfl, f5, g5, r5⟩, hlast⟩
            unfold cellF at r5
            generalize hu3 : numF (s_A S 1001) L n2 (nI 0) (nI 9) = u at hr r5
            cases u with
            | error f =>
              obtain ⟨rfl, r5⟩ := r5
              have hr : Except.error f = r := hr
              subst hr
              refine g_if_ne (pc := 88) C 93 dX12_isBesideHere_88 rfl (fun c5 => ?_) (fun c5 => ?_)
              · exact absurd rfl c5
              · refine g_iconst (pc := 91) (v := nI 0) C dX12_isBesideHere_91 (by decide) ?_
                exact g_zreturn (pc := 92) C ⟨rfl, rfl⟩ (by first | exact Or.inl rfl | exact Or.inr rfl) dX12_isBesideHere_92 ⟨i5, a5, rfl, (f3.trans f4).trans f5, g5, rfl, r5⟩
            | ok p =>
              obtain ⟨n3, z⟩ := p
              obtain ⟨rfl, h5⟩ := r5
              have e10 : i5 1110 = z := by
                rw [hlast i5 a5 rfl rfl, h5.2.2.1, pk_us]
              have hr : Except.ok (n3, P, upd (upd D (49 + 7 * jx + jy) z) (49 + 7 * jy + jx) z) = r := hr
              subst hr
              refine g_if_ne (pc := 88) C 93 dX12_isBesideHere_88 rfl (fun c5 => ?_) (fun c5 => ?_)
              · refine g_aload_n (pc := 93) C dX12_isBesideHere_93 rfl ?_
                refine mg_26 (pc := 94) C (hmA _ _) dX12_isBesideHere_94 ?_
                refine g_bipush (pc := 97) (v := nI 49) C dX12_isBesideHere_97 (by decide) ?_
                refine g_bipush (pc := 99) (v := nI 7) C dX12_isBesideHere_99 (by decide) ?_
                refine g_iload_n (pc := 101) C dX12_isBesideHere_101 rfl ?_
                refine g_imul (pc := 102) C dX12_isBesideHere_102 ?_
                refine g_iadd (pc := 103) C dX12_isBesideHere_103 ?_
                refine g_iload_n (pc := 104) C dX12_isBesideHere_104 rfl ?_
                refine g_iadd (pc := 105) C dX12_isBesideHere_105 ?_
                refine gx_ti (y := nI (49 + 7 * jy + jx)) (isn_add (isn_add isn_v (isn_mul isn_v isn_v)) isn_v) ?_
                refine g_aload_n (pc := 106) C dX12_isBesideHere_106 rfl ?_
                refine mg_127 (pc := 107) C (hmA _ _) dX12_isBesideHere_107 ?_
                refine gx_ti (y := z) e10 ?_
                refine n_iast (pc := 110) (k := 1006) (n := 159) C rfl rfl (m_z (hmA _ _) rfl) isn_v rfl (by omega) dX12_isBesideHere_110 ?_
                refine gx_S (S' := rdS S i5 (u1 a5 1006 (upd (a5 1006) (49 + 7 * jy + jx) z))) (rd_A S i5 a5 1006 _ (by omega)) ?_
                refine g_iconst (pc := 111) (v := nI 1) C dX12_isBesideHere_111 (by decide) ?_
                exact g_zreturn (pc := 112) C ⟨rfl, rfl⟩ (by first | exact Or.inl rfl | exact Or.inr rfl) dX12_isBesideHere_112 ⟨i5, _, rfl, (f3.trans f4).trans f5, g5.trans fxD_u, rfl, h5.1, h5.2.1, by rw [← h5.2.2.1]; rfl, by rw [pk_un (by omega), ← h5.2.2.1]; exact (congrFun h5.2.2.1 4).trans h5.2.2.2.1, hP7⟩
              · exact absurd (fun q => absurd q (by decide)) c5
          · have c4 := Decidable.not_not.mp c4
            rw [if_pos c4] at hr
            subst hr
            refine g_aload_n (pc := 65) C dX12_isBesideHere_65 rfl ?_
            refine g_iconst (pc := 66) (v := nI 1) C dX12_isBesideHere_66 (by decide) ?_
            refine g_iload_n (pc := 67) C dX12_isBesideHere_67 rfl ?_
            refine cf_X12_123 (pc := 68) C rfl (m_z (hmA _ _) rfl) (r_fails _ _ S L hx i4 a k2 1 q) ⟨rfl, rfl⟩ ⟨rfl, rfl⟩ ⟨Nat.zero_le _, Nat.zero_le _⟩ rfl (Nat.le_of_ble_eq_true rfl) dX12_isBesideHere_68 ?_
            exact g_zreturn (pc := 71) C ⟨rfl, rfl⟩ (by first | exact Or.inl rfl | exact Or.inr rfl) dX12_isBesideHere_71 ⟨_, a, rfl, (f3.trans f4).trans (fxI.u (by decide)), fxD.refl, rfl, rfl⟩
        · exact absurd (fun q => absurd q (by decide)) c3
    · exact absurd (fun q => absurd q (by decide)) c2
theorem c_X12_isFogHere (w : Wd) (l : Launch) (S : St) (L : Nat) (hx : gx_x S L) (i : Nat → Int32) (a : Nat → Nat → Int32) (n P : Nat) (D : Nat → Int32) (h : dx i a n P D) (hn : n ≤ L) : gx_M w l yX12_isFogHere cX12_isFogHere 1 (some .boolean) rmX12_isFogHere [.ref (ad (w_b w) 1000)] (rdS S i a) (pxD S i a (fgF (s_A S 1001) L n P D)) := by
  have hL : L ≤ 400 := hx.2.1.2
  have hmA : ∀ i a, gx_m (rdS S i a) := fun i a => hx.1
  have h0 := lt_le (T := s_A S 1001) hn
  generalize hr : fgF (s_A S 1001) L n P D = r
  unfold fgF at hr
  refine gx_start rfl 0 rfl (Nat.le_of_ble_eq_true rfl) ?_
  intro X C _ hl
  subst hl
  refine gx_L (L' := [_]) rfl ?_
  refine g_aload_n (pc := 0) C dX12_isFogHere_0 rfl ?_
  refine cf_X12_117 (pc := 1) C rfl (m_z (hmA _ _) rfl) (r_pass _ _ S L hx i a n h.1 (by omega)) ⟨rfl, rfl⟩ ⟨rfl, rfl⟩ ⟨Nat.zero_le _, Nat.zero_le _⟩ rfl (Nat.le_of_ble_eq_true rfl) dX12_isFogHere_1 ?_
  generalize ltN (s_A S 1001) L n = n0 at *
  have h1 : dx (u1 i 1108 (nI n0)) a n0 P D := ⟨rfl, h.2.1, h.2.2⟩
  have f1 : fxI l3 i (u1 i 1108 (nI n0)) := fxI.u (by decide)
  generalize u1 i 1108 (nI n0) = i1 at h1 f1
  refine g_aload_n (pc := 4) C dX12_isFogHere_4 rfl ?_
  refine g_iconst (pc := 5) (v := nI 0) C dX12_isFogHere_5 (by decide) ?_
  refine g_bipush (pc := 6) (v := nI 60) C dX12_isFogHere_6 (by decide) ?_
  refine cg_X12_179 (pc := 8) C rfl (m_z (hmA _ _) rfl) (r_number _ _ S L hx i1 a h1.2.1 n0 h1.1 (by omega) (nI 0) (nI 60)) ⟨rfl, rfl⟩ ⟨Nat.zero_le _, Nat.zero_le _⟩ rfl (Nat.le_of_ble_eq_true rfl) dX12_isFogHere_8 ?_
  rintro _ _ ⟨i2, rfl, f2, r2⟩
  generalize hu : numF (s_A S 1001) L n0 (nI 0) (nI 60) = u at hr r2
  cases u with
  | error f =>
    obtain ⟨rfl, r2⟩ := r2
    have hr : Except.error f = r := hr
    subst hr
    refine g_if_ne (pc := 11) C 16 dX12_isFogHere_11 rfl (fun c2 => ?_) (fun c2 => ?_)
    · exact absurd rfl c2
    · refine g_iconst (pc := 14) (v := nI 0) C dX12_isFogHere_14 (by decide) ?_
      exact g_zreturn (pc := 15) C ⟨rfl, rfl⟩ (by first | exact Or.inl rfl | exact Or.inr rfl) dX12_isFogHere_15 ⟨i2, a, rfl, f1.trans f2, fxD.refl, rfl, r2⟩
  | ok p =>
    obtain ⟨n1, x⟩ := p
    obtain ⟨rfl, g1, g2, g3⟩ := r2
    obtain ⟨b1, b2, b3, b4⟩ := num_ok hu h0.2
    obtain ⟨j, hj, rfl⟩ := nI_of2 (n := 60) (by decide) (Int32.not_lt.mpr b3) b4
    have hr : Except.ok (n1, P, upd D (98 + (nI j).toNatClampNeg) (nI 1)) = r := hr
    rw [nI_clamp (by omega)] at hr
    subst hr
    refine g_if_ne (pc := 11) C 16 dX12_isFogHere_11 rfl (fun c2 => ?_) (fun c2 => ?_)
    · refine g_aload_n (pc := 16) C dX12_isFogHere_16 rfl ?_
      refine mg_26 (pc := 17) C (hmA _ _) dX12_isFogHere_17 ?_
      refine g_bipush (pc := 20) (v := nI 98) C dX12_isFogHere_20 (by decide) ?_
      refine g_aload_n (pc := 22) C dX12_isFogHere_22 rfl ?_
      refine mg_127 (pc := 23) C (hmA _ _) dX12_isFogHere_23 ?_
      refine gx_ti (y := nI j) g3 ?_
      refine g_iadd (pc := 26) C dX12_isFogHere_26 ?_
      refine gx_ti (y := nI (98 + j)) (nI_add 98 j) ?_
      refine g_iconst (pc := 27) (v := nI 1) C dX12_isFogHere_27 (by decide) ?_
      refine n_iast (pc := 28) (k := 1006) (n := 159) C rfl rfl (m_z (hmA _ _) rfl) rfl rfl (by omega) dX12_isFogHere_28 ?_
      refine gx_S (S' := rdS S i2 (u1 a 1006 (upd (a 1006) (98 + j) (nI 1)))) (rd_A S i2 a 1006 _ (by omega)) ?_
      refine g_iconst (pc := 29) (v := nI 1) C dX12_isFogHere_29 (by decide) ?_
      exact g_zreturn (pc := 30) C ⟨rfl, rfl⟩ (by first | exact Or.inl rfl | exact Or.inr rfl) dX12_isFogHere_30 ⟨i2, _, rfl, f1.trans f2, fxD_u, rfl, g1, g2, by rw [← h1.2.2.1]; rfl, by rw [pk_un (by omega)]; exact h1.2.2.2.1, h1.2.2.2.2⟩
    · exact absurd (fun q => absurd q (by decide)) c2
theorem pxD_r {S : St} {i : Nat → Int32} {a : Nat → Nat → Int32} {r r' : RC} {v : Option Value} {S' : St} (h : pxD S i a r v S') (e : r = r') : pxD S i a r' v S' := e ▸ h
theorem pxD_z {S : St} {i : Nat → Int32} {a : Nat → Nat → Int32} {r : RC} {x : Int32} {S' : St} (h : pxD S i a r (some (.int x)) S') : x = 0 ∨ x = 1 := by
  obtain ⟨i', a', -, -, -, h⟩ := h
  cases r with
  | error f => exact Or.inl (by have := h.1; cases this; rfl)
  | ok p => exact Or.inr (by have := h.1; cases this; rfl)
theorem pxD_v {S : St} {i : Nat → Int32} {a : Nat → Nat → Int32} {r : RC} {v : Option Value} {S' : St} (h : pxD S i a r v S') : ∃ x, v = some (.int x) ∧ (x = 0 ∨ x = 1) := by
  obtain ⟨i', a', -, -, -, h⟩ := h
  cases r with
  | error f => exact ⟨_, h.1, Or.inl rfl⟩
  | ok p => exact ⟨_, h.1, Or.inr rfl⟩
theorem c_X12_ferryLineHere (w : Wd) (l : Launch) (S : St) (L : Nat) (hx : gx_x S L) (i : Nat → Int32) (a : Nat → Nat → Int32) (n P : Nat) (D : Nat → Int32) (h : dx i a n P D) (hn : n ≤ L) (he : skN (s_A S 1001) L n = n) : gx_M w l yX12_ferryLineHere cX12_ferryLineHere 2 (some .boolean) rmX12_ferryLineHere [.ref (ad (w_b w) 1000), .int (nI n)] (rdS S i a) (pxD S i a (lineF (s_A S 1001) L n P D)) := by
  have hL : L ≤ 400 := hx.2.1.2
  have hmA : ∀ i a, gx_m (rdS S i a) := fun i a => hx.1
  unfold lineF
  refine gx_start rfl 0 rfl (Nat.le_of_ble_eq_true rfl) ?_
  intro X C _ hl
  subst hl
  refine gx_L (L' := [_, _]) rfl ?_
  refine g_aload_n (pc := 0) C dX12_ferryLineHere_0 rfl ?_
  refine g_ldc2 (pc := 1) (v := 439788663417) C dX12_ferryLineHere_1 kl_X12_234 ?_
  refine cf_X12_113 (pc := 4) C rfl (m_z (hmA _ _) rfl) (r_wordM _ _ S L hx i a n h.1 (by omega) he _) ⟨rfl, rfl⟩ ⟨rfl, rfl⟩ ⟨Nat.zero_le _, Nat.zero_le _⟩ rfl (Nat.le_of_ble_eq_true rfl) dX12_ferryLineHere_4 ?_
  refine g_if_eq (pc := 7) C 16 dX12_ferryLineHere_7 rfl (fun c1 => ?_) (fun c1 => ?_)
  · rw [if_neg (bI_0.mp c1)]
    refine g_aload_n (pc := 16) C dX12_ferryLineHere_16 rfl ?_
    refine mg_26 (pc := 17) C (hmA _ _) dX12_ferryLineHere_17 ?_
    refine g_iconst (pc := 20) (v := nI 0) C dX12_ferryLineHere_20 (by decide) ?_
    refine n_iald (pc := 21) (k := 1006) (n := 159) C rfl rfl (m_z (hmA _ _) rfl) isn_v rfl (by omega) dX12_ferryLineHere_21 ?_
    refine gx_ti (y := D 0) (congrFun h.2.2.1 0) ?_
    refine g_if_ne (pc := 22) C 32 dX12_ferryLineHere_22 rfl (fun c2 => ?_) (fun c2 => ?_)
    · rw [if_neg c2]
      refine g_aload_n (pc := 32) C dX12_ferryLineHere_32 rfl ?_
      refine g_ldc2 (pc := 33) (v := 123581014175598) C dX12_ferryLineHere_33 kl_X12_134 ?_
      refine cf_X12_113 (pc := 36) C rfl (m_z (hmA _ _) rfl) (r_wordM _ _ S L hx i a n h.1 (by omega) he _) ⟨rfl, rfl⟩ ⟨rfl, rfl⟩ ⟨Nat.zero_le _, Nat.zero_le _⟩ rfl (Nat.le_of_ble_eq_true rfl) dX12_ferryLineHere_36 ?_
      refine g_if_eq (pc := 39) C 49 dX12_ferryLineHere_39 rfl (fun c3 => ?_) (fun c3 => ?_)
      · rw [if_neg (bI_0.mp c3)]
        refine g_aload_n (pc := 49) C dX12_ferryLineHere_49 rfl ?_
        refine g_ldc2 (pc := 50) (v := 1668248171) C dX12_ferryLineHere_50 kl_X12_243 ?_
        refine cf_X12_113 (pc := 53) C rfl (m_z (hmA _ _) rfl) (r_wordM _ _ S L hx i a n h.1 (by omega) he _) ⟨rfl, rfl⟩ ⟨rfl, rfl⟩ ⟨Nat.zero_le _, Nat.zero_le _⟩ rfl (Nat.le_of_ble_eq_true rfl) dX12_ferryLineHere_53 ?_
        refine g_if_eq (pc := 56) C 66 dX12_ferryLineHere_56 rfl (fun c4 => ?_) (fun c4 => ?_)
        · rw [if_neg (bI_0.mp c4)]
          refine g_aload_n (pc := 66) C dX12_ferryLineHere_66 rfl ?_
          refine g_ldc2 (pc := 67) (v := 108187867505765) C dX12_ferryLineHere_67 kl_X12_245 ?_
          refine cf_X12_113 (pc := 70) C rfl (m_z (hmA _ _) rfl) (r_wordM _ _ S L hx i a n h.1 (by omega) he _) ⟨rfl, rfl⟩ ⟨rfl, rfl⟩ ⟨Nat.zero_le _, Nat.zero_le _⟩ rfl (Nat.le_of_ble_eq_true rfl) dX12_ferryLineHere_70 ?_
          refine g_if_eq (pc := 73) C 83 dX12_ferryLineHere_73 rfl (fun c5 => ?_) (fun c5 => ?_)
          · rw [if_neg (bI_0.mp c5)]
            refine g_aload_n (pc := 83) C dX12_ferryLineHere_83 rfl ?_
            refine cg_X12_250 (pc := 84) C rfl (m_z (hmA _ _) rfl) (c_X12_isFogHere _ _ S L hx i a n P D h hn) ⟨rfl, rfl⟩ ⟨Nat.zero_le _, Nat.zero_le _⟩ rfl (Nat.le_of_ble_eq_true rfl) dX12_ferryLineHere_84 ?_
            rintro _ _ hp
            obtain ⟨x, rfl, hz⟩ := pxD_v hp
            exact g_zreturn (pc := 87) C ⟨rfl, rfl⟩ hz dX12_ferryLineHere_87 hp
          · rw [if_pos (Decidable.not_not.mp (fun q => c5 (bI_0.mpr q)))]
            refine g_aload_n (pc := 76) C dX12_ferryLineHere_76 rfl ?_
            refine cg_X12_247 (pc := 77) C rfl (m_z (hmA _ _) rfl) (c_X12_isBesideHere _ _ S L hx i a n P D h hn) ⟨rfl, rfl⟩ ⟨Nat.zero_le _, Nat.zero_le _⟩ rfl (Nat.le_of_ble_eq_true rfl) dX12_ferryLineHere_77 ?_
            rintro _ _ hp
            obtain ⟨x, rfl, hz⟩ := pxD_v hp
            refine g_goto (pc := 80) C 87 dX12_ferryLineHere_80 rfl ?_
            exact g_zreturn (pc := 87) C ⟨rfl, rfl⟩ hz dX12_ferryLineHere_87 hp
        · rw [if_pos (Decidable.not_not.mp (fun q => c4 (bI_0.mpr q)))]
          refine g_aload_n (pc := 59) C dX12_ferryLineHere_59 rfl ?_
          refine g_iconst (pc := 60) (v := nI 1) C dX12_ferryLineHere_60 (by decide) ?_
          refine g_iload_n (pc := 61) C dX12_ferryLineHere_61 rfl ?_
          refine cg_X12_239 (pc := 62) C rfl (m_z (hmA _ _) rfl) (c_X12_isOneHere _ _ S L hx i a n P D h hn True) ⟨rfl, rfl⟩ ⟨Nat.zero_le _, Nat.zero_le _⟩ rfl (Nat.le_of_ble_eq_true rfl) dX12_ferryLineHere_62 ?_
          rintro _ _ hp
          have hp := pxD_r hp (if_pos trivial)
          obtain ⟨x, rfl, hz⟩ := pxD_v hp
          exact g_zreturn (pc := 65) C ⟨rfl, rfl⟩ hz dX12_ferryLineHere_65 hp
      · rw [if_pos (Decidable.not_not.mp (fun q => c3 (bI_0.mpr q)))]
        refine g_aload_n (pc := 42) C dX12_ferryLineHere_42 rfl ?_
        refine g_iconst (pc := 43) (v := nI 0) C dX12_ferryLineHere_43 (by decide) ?_
        refine g_iload_n (pc := 44) C dX12_ferryLineHere_44 rfl ?_
        refine cg_X12_239 (pc := 45) C rfl (m_z (hmA _ _) rfl) (c_X12_isOneHere _ _ S L hx i a n P D h hn False) ⟨rfl, rfl⟩ ⟨Nat.zero_le _, Nat.zero_le _⟩ rfl (Nat.le_of_ble_eq_true rfl) dX12_ferryLineHere_45 ?_
        rintro _ _ hp
        have hp := pxD_r hp (if_neg (fun q => q))
        obtain ⟨x, rfl, hz⟩ := pxD_v hp
        exact g_zreturn (pc := 48) C ⟨rfl, rfl⟩ hz dX12_ferryLineHere_48 hp
    · rw [if_pos (Decidable.not_not.mp c2)]
      refine g_aload_n (pc := 25) C dX12_ferryLineHere_25 rfl ?_
      refine g_iconst (pc := 26) (v := nI 4) C dX12_ferryLineHere_26 (by decide) ?_
      refine g_iload_n (pc := 27) C dX12_ferryLineHere_27 rfl ?_
      refine cf_X12_123 (pc := 28) C rfl (m_z (hmA _ _) rfl) (r_fails _ _ S L hx i a h.2.1 4 n) ⟨rfl, rfl⟩ ⟨rfl, rfl⟩ ⟨Nat.zero_le _, Nat.zero_le _⟩ rfl (Nat.le_of_ble_eq_true rfl) dX12_ferryLineHere_28 ?_
      exact g_zreturn (pc := 31) C ⟨rfl, rfl⟩ (by first | exact Or.inl rfl | exact Or.inr rfl) dX12_ferryLineHere_31 ⟨_, a, rfl, fxI.u (by decide), fxD.refl, rfl, rfl⟩
  · rw [if_pos (Decidable.not_not.mp (fun q => c1 (bI_0.mpr q)))]
    refine g_aload_n (pc := 10) C dX12_ferryLineHere_10 rfl ?_
    refine g_iload_n (pc := 11) C dX12_ferryLineHere_11 rfl ?_
    refine cg_X12_236 (pc := 12) C rfl (m_z (hmA _ _) rfl) (c_X12_isFerryHere _ _ S L hx i a n P D h hn) ⟨rfl, rfl⟩ ⟨Nat.zero_le _, Nat.zero_le _⟩ rfl (Nat.le_of_ble_eq_true rfl) dX12_ferryLineHere_12 ?_
    rintro _ _ hp
    obtain ⟨x, rfl, hz⟩ := pxD_v hp
    exact g_zreturn (pc := 15) C ⟨rfl, rfl⟩ hz dX12_ferryLineHere_15 hp
abbrev fwP (T : Nat → Int32) (L q : Nat) : Prop := wdP T L q 439788663417 ∨ wdP T L q 123581014175598 ∨ wdP T L q 1668248171 ∨ wdP T L q 108187867505765 ∨ wdP T L q 6713191
theorem c_X12_isFerryWord (w : Wd) (l : Launch) (S : St) (L : Nat) (hx : gx_x S L) (i : Nat → Int32) (a : Nat → Nat → Int32) (n : Nat) (h : i 1108 = nI n) (hn : n ≤ L) (he : skN (s_A S 1001) L n = n) : gx_M w l yX12_isFerryWord cX12_isFerryWord 1 (some .boolean) rmX12_isFerryWord [.ref (ad (w_b w) 1000)] (rdS S i a) (pI (bI (fwP (s_A S 1001) L n)) (rdS S i a)) := by
  have hL : L ≤ 400 := hx.2.1.2
  have hmA : ∀ i a, gx_m (rdS S i a) := fun i a => hx.1
  refine gx_start rfl 0 rfl (Nat.le_of_ble_eq_true rfl) ?_
  intro X C _ hl
  subst hl
  refine gx_L (L' := [_]) rfl ?_
  refine g_aload_n (pc := 0) C dX12_isFerryWord_0 rfl ?_
  refine g_ldc2 (pc := 1) (v := 439788663417) C dX12_isFerryWord_1 kl_X12_234 ?_
  refine cf_X12_113 (pc := 4) C rfl (m_z (hmA _ _) rfl) (r_wordM _ _ S L hx i a n h (by omega) he _) ⟨rfl, rfl⟩ ⟨rfl, rfl⟩ ⟨Nat.zero_le _, Nat.zero_le _⟩ rfl (Nat.le_of_ble_eq_true rfl) dX12_isFerryWord_4 ?_
  refine g_if_ne (pc := 7) C 50 dX12_isFerryWord_7 rfl (fun c1 => ?_) (fun c1 => ?_)
  · have c1 := Decidable.not_not.mp (fun q => c1 (bI_0.mpr q))
    refine g_iconst (pc := 50) (v := nI 1) C dX12_isFerryWord_50 (by decide) ?_
    refine g_goto (pc := 51) C 55 dX12_isFerryWord_51 rfl ?_
    exact g_zreturn (pc := 55) C ⟨rfl, rfl⟩ (by first | exact Or.inl rfl | exact Or.inr rfl) dX12_isFerryWord_55 (pI_t (Or.inl c1))
  · have c1 := bI_0.mp (Decidable.not_not.mp c1)
    refine g_aload_n (pc := 10) C dX12_isFerryWord_10 rfl ?_
    refine g_ldc2 (pc := 11) (v := 123581014175598) C dX12_isFerryWord_11 kl_X12_134 ?_
    refine cf_X12_113 (pc := 14) C rfl (m_z (hmA _ _) rfl) (r_wordM _ _ S L hx i a n h (by omega) he _) ⟨rfl, rfl⟩ ⟨rfl, rfl⟩ ⟨Nat.zero_le _, Nat.zero_le _⟩ rfl (Nat.le_of_ble_eq_true rfl) dX12_isFerryWord_14 ?_
    refine g_if_ne (pc := 17) C 50 dX12_isFerryWord_17 rfl (fun c2 => ?_) (fun c2 => ?_)
    · have c2 := Decidable.not_not.mp (fun q => c2 (bI_0.mpr q))
      refine g_iconst (pc := 50) (v := nI 1) C dX12_isFerryWord_50 (by decide) ?_
      refine g_goto (pc := 51) C 55 dX12_isFerryWord_51 rfl ?_
      exact g_zreturn (pc := 55) C ⟨rfl, rfl⟩ (by first | exact Or.inl rfl | exact Or.inr rfl) dX12_isFerryWord_55 (pI_t (Or.inr (Or.inl c2)))
    · have c2 := bI_0.mp (Decidable.not_not.mp c2)
      refine g_aload_n (pc := 20) C dX12_isFerryWord_20 rfl ?_
      refine g_ldc2 (pc := 21) (v := 1668248171) C dX12_isFerryWord_21 kl_X12_243 ?_
      refine cf_X12_113 (pc := 24) C rfl (m_z (hmA _ _) rfl) (r_wordM _ _ S L hx i a n h (by omega) he _) ⟨rfl, rfl⟩ ⟨rfl, rfl⟩ ⟨Nat.zero_le _, Nat.zero_le _⟩ rfl (Nat.le_of_ble_eq_true rfl) dX12_isFerryWord_24 ?_
      refine g_if_ne (pc := 27) C 50 dX12_isFerryWord_27 rfl (fun c3 => ?_) (fun c3 => ?_)
      · have c3 := Decidable.not_not.mp (fun q => c3 (bI_0.mpr q))
        refine g_iconst (pc := 50) (v := nI 1) C dX12_isFerryWord_50 (by decide) ?_
        refine g_goto (pc := 51) C 55 dX12_isFerryWord_51 rfl ?_
        exact g_zreturn (pc := 55) C ⟨rfl, rfl⟩ (by first | exact Or.inl rfl | exact Or.inr rfl) dX12_isFerryWord_55 (pI_t (Or.inr (Or.inr (Or.inl c3))))
      · have c3 := bI_0.mp (Decidable.not_not.mp c3)
        refine g_aload_n (pc := 30) C dX12_isFerryWord_30 rfl ?_
        refine g_ldc2 (pc := 31) (v := 108187867505765) C dX12_isFerryWord_31 kl_X12_245 ?_
        refine cf_X12_113 (pc := 34) C rfl (m_z (hmA _ _) rfl) (r_wordM _ _ S L hx i a n h (by omega) he _) ⟨rfl, rfl⟩ ⟨rfl, rfl⟩ ⟨Nat.zero_le _, Nat.zero_le _⟩ rfl (Nat.le_of_ble_eq_true rfl) dX12_isFerryWord_34 ?_
        refine g_if_ne (pc := 37) C 50 dX12_isFerryWord_37 rfl (fun c4 => ?_) (fun c4 => ?_)
        · have c4 := Decidable.not_not.mp (fun q => c4 (bI_0.mpr q))
          refine g_iconst (pc := 50) (v := nI 1) C dX12_isFerryWord_50 (by decide) ?_
          refine g_goto (pc := 51) C 55 dX12_isFerryWord_51 rfl ?_
          exact g_zreturn (pc := 55) C ⟨rfl, rfl⟩ (by first | exact Or.inl rfl | exact Or.inr rfl) dX12_isFerryWord_55 (pI_t (Or.inr (Or.inr (Or.inr (Or.inl c4)))))
        · have c4 := bI_0.mp (Decidable.not_not.mp c4)
          refine g_aload_n (pc := 40) C dX12_isFerryWord_40 rfl ?_
          refine g_ldc2 (pc := 41) (v := 6713191) C dX12_isFerryWord_41 kl_X12_156 ?_
          refine cf_X12_113 (pc := 44) C rfl (m_z (hmA _ _) rfl) (r_wordM _ _ S L hx i a n h (by omega) he _) ⟨rfl, rfl⟩ ⟨rfl, rfl⟩ ⟨Nat.zero_le _, Nat.zero_le _⟩ rfl (Nat.le_of_ble_eq_true rfl) dX12_isFerryWord_44 ?_
          refine g_if_eq (pc := 47) C 54 dX12_isFerryWord_47 rfl (fun c5 => ?_) (fun c5 => ?_)
          · have c5 := bI_0.mp c5
            refine g_iconst (pc := 54) (v := nI 0) C dX12_isFerryWord_54 (by decide) ?_
            exact g_zreturn (pc := 55) C ⟨rfl, rfl⟩ (by first | exact Or.inl rfl | exact Or.inr rfl) dX12_isFerryWord_55 (pI_f (fun q => q.elim c1 (fun q => q.elim c2 (fun q => q.elim c3 (fun q => q.elim c4 c5)))))
          · have c5 := Decidable.not_not.mp (fun q => c5 (bI_0.mpr q))
            refine g_iconst (pc := 50) (v := nI 1) C dX12_isFerryWord_50 (by decide) ?_
            refine g_goto (pc := 51) C 55 dX12_isFerryWord_51 rfl ?_
            exact g_zreturn (pc := 55) C ⟨rfl, rfl⟩ (by first | exact Or.inl rfl | exact Or.inr rfl) dX12_isFerryWord_55 (pI_t (Or.inr (Or.inr (Or.inr (Or.inr c5)))))
