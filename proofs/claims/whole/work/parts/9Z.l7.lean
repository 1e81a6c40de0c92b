/-! ===== THE CLASS: RuleReader: a FACT ===== -/
theorem val_sk {T : Nat → Int32} {L n m : Nat} : valF T L (skN T L n) m = valF T L n m := by
  unfold valF numF
  rw [skN_idem]
theorem sm_sk {T : Nat → Int32} {L n m : Nat} : smF T L (skN T L n) m = smF T L n m := by
  rw [sm_ct, sm_ct, val_sk]
theorem fact_step (w : Wd) (j : SJ) (l : Launch) (T : Nat → Int32) (L e : Nat)
    (hF : ∀ e', e = e' + 1 → ∀ U n m o d, d + e' = 10 → ruP U T L n m o → gx_MJ w j l yX8_readFact cX8_readFact 4 none (rmF e') [.ref (ad (w_b w) 4), .int (nI d)] (rk4 U n 0) (pxU U L o (factE T L e' n m)))
    (hQ : ∀ e', e = e' + 1 → ∀ U n m o d, d + e' = 10 → ruP U T L n m o → gx_MJ w j l yX8_readTest cX8_readTest 3 none (rmQ e') [.ref (ad (w_b w) 4), .int (nI d)] (rk4 U n 0) (pxU U L o (testF T L (factE T L e') n m)))
    (U : St) (n m : Nat) (o : List Nat) (d : Nat) (hde : d + e = 10) (h : ruP U T L n m o) : gx_MJ w j l yX8_readFact cX8_readFact 4 none (rmF e) [.ref (ad (w_b w) 4), .int (nI d)] (rk4 U n 0) (pxU U L o (factE T L e n m)) := by
  obtain ⟨hd, hT, hc, hn, hm, ho, hu⟩ := id h
  have hL := hd.2.1.2.2.2
  have o4 : ∀ S, 121 ≤ s_z S → gx_o S 4 7 := fun S q => o_st q rfl rfl
  have zu : 121 ≤ s_z U := hd.2.1.1
  have hs := sk_bd (T := T) hn
  have hidem : skN T L (skN T L n) = skN T L n := skN_idem
  have hsk := sm_sk (T := T) (L := L) (n := n) (m := m)
  have hcm : cmpF T L n m = match smF T L n m with
    | .error f => .error f
    | .ok (n1, m1, k1) => match sgF T L (skN T L n1) with
      | none => .error (ftN 0 (skN T L n1))
      | some (s, q) => if m1 = 60 then .error (ftN 3 (skN T L n1)) else match smF T L q (m1 + 1) with
        | .error f => .error f
        | .ok (n2, m2, k2) => .ok (n2, m2, k1 ++ k2 ++ [6 + s]) := rfl
  have hf0 : e = 0 → factE T L e n m = if wdP T L (skN T L n) 7237492 ∨ seeV T L (skN T L n) = nI 91 then .error (ftN 2 (skN T L n)) else cmpF T L n m := fun q => by subst q; rfl
  have hf1 : ∀ e', e = e' + 1 → factE T L e n m = if wdP T L (skN T L n) 7237492 then (match factE T L e' (ltN T L (skN T L n)) m with
      | .error f => .error f
      | .ok (n', m', k) => .ok (n', m', k ++ [11]))
    else if seeV T L (skN T L n) = nI 91 then (match testF T L (factE T L e') (skN T L n + 1) m with
      | .error f => .error f
      | .ok (n', m', k) => if seeV T L (skN T L n') = nI 93 then .ok (skN T L n' + 1, m', k) else .error (ftN 0 (skN T L n')))
    else cmpF T L n m := fun e' q => by subst q; rfl
  have hokF : ∀ e', okI L (factE T L e') := okI_fact hL
  generalize factE T L e n m = R at hf0 hf1 ⊢
  generalize hpost : pxU U L o R = post
  refine gx_startJ rfl 2 rfl (Nat.le_of_ble_eq_true rfl) ?_
  intro X C J hl
  subst hl
  refine gx_L (L' := [_, _, _, _]) rfl ?_
  -- a FAULT, or the end: what follows a piece that is read
  have cmpP : R = cmpF T L n m → gx_G w X (rk4 U (skN T L n) 0) 0 0 120 [some (.ref (ad (w_b w) 4)), some (.int (nI d)), some (.int (nI (skN T L n))), none] [] (gx_E w X post) := by
    intro hR
    rw [hcm] at hR
    have hP : ruP U T L (skN T L n) m o := h.nx rch.refl hs.2 hm (by omega) hu
    have hk1 := okI_sm (T := T) hL n m hn hm
    refine g_aload_n (pc := 120) C dX8_readFact_120 rfl ?_
    refine cgj_X8_67 (pc := 121) C J (by exact (o4 _ zu).1) (zk (by exact (o4 _ zu).2)) (c_X8_readSum _ _ _ U T L (skN T L n) m o hP) ⟨Nat.ble_eq_true_of_le (by simp only [rmF, rmQ, rmX5_skipBlanks, rmX5_takeWord, rmX5_takeSign, rmX5_allow, rmX8_put, rmX8_readSum, rmX8_takeComparison]; omega), Nat.ble_eq_true_of_le (by simp only [rmF, rmQ, rmX5_skipBlanks, rmX5_takeWord, rmX5_takeSign, rmX5_allow, rmX8_put, rmX8_readSum, rmX8_takeComparison]; omega)⟩ ⟨Nat.zero_le _, Nat.zero_le _⟩ rfl (Nat.le_of_ble_eq_true rfl) dX8_readFact_121 ?_
    rintro _ S1 ⟨rfl, U1, r1, h1⟩
    rw [hsk] at h1
    have hd1 := hd.ch r1
    have zu1 : 121 ≤ s_z U1 := hd1.2.1.1
    have hT1 : s_A U1 2 = T := (r1.1.A (by decide)).trans hT
    have hc1 : s_R U1 703 4 = some 5 := (r1.2 _).trans hc
    cases hr : smF T L n m with
    | error f =>
      rw [hr] at h1 hR hk1
      obtain ⟨n1, z, hn1, e1, hz, hz5⟩ := id h1
      subst e1
      refine g_aload_n (pc := 124) C dX8_readFact_124 rfl ?_
      refine fg_X8_19 (pc := 125) C (by exact (o4 _ zu1).1) (zk (by exact (o4 _ zu1).2)) dX8_readFact_125 ?_
      refine gx_ti (y := nI f) rk4_gF ?_
      refine g_if_ne (pc := 128) C 138 dX8_readFact_128 rfl (fun c1 => ?_) (fun c1 => ?_)
      · refine g_bipush (pc := 138) (v := nI 12) C dX8_readFact_138 (by decide) ?_
        refine g_istore_n (pc := 140) (L' := [_, _, some (.int _), _]) C dX8_readFact_140 rfl rfl ?_
        refine g_aload_n (pc := 141) C dX8_readFact_141 rfl ?_
        refine fg_X8_19 (pc := 142) C (by exact (o4 _ zu1).1) (zk (by exact (o4 _ zu1).2)) dX8_readFact_142 ?_
        refine gx_ti (y := nI f) rk4_gF ?_
        refine g_if_ne (pc := 145) C 158 dX8_readFact_145 rfl (fun c2 => ?_) (fun c2 => ?_)
        · rw [← hpost]
          exact g_return (pc := 158) C ⟨rfl, rfl⟩ dX8_readFact_158 (pxU_e hR r1 h1)
        · exact absurd (Decidable.not_not.mp c2) (ftpos hk1 hL)
      · exact absurd (Decidable.not_not.mp c1) (ftpos hk1 hL)
    | ok p =>
      obtain ⟨n1, m1, k1⟩ := p
      rw [hr] at h1 hR hk1
      simp only at hR
      obtain ⟨e1, hu1⟩ := h1
      obtain ⟨b1, b2, b3, b4⟩ := hk1
      subst e1
      have hs1 := sk_bd (T := T) b2
      have hP1 : ruP U1 T L n1 m1 (o ++ k1.map clK) := h.nx r1 b2 b3 (by rw [clK_len]; omega) hu1
      refine g_aload_n (pc := 124) C dX8_readFact_124 rfl ?_
      refine fg_X8_19 (pc := 125) C (by exact (o4 _ zu1).1) (zk (by exact (o4 _ zu1).2)) dX8_readFact_125 ?_
      refine gx_ti (y := 0) rk4_gF ?_
      refine g_if_ne (pc := 128) C 138 dX8_readFact_128 rfl (fun c1 => ?_) (fun c1 => ?_)
      · exact absurd rfl c1
      · refine g_aload_n (pc := 131) C dX8_readFact_131 rfl ?_
        refine cg_X8_96 (pc := 132) C (by exact (o4 _ zu1).1) (zk (by exact (o4 _ zu1).2)) (c_X8_takeComparison _ _ U1 T L n1 m1 _ hP1) ⟨Nat.ble_eq_true_of_le (by simp only [rmF, rmQ, rmX5_skipBlanks, rmX5_takeWord, rmX5_takeSign, rmX5_allow, rmX8_put, rmX8_readSum, rmX8_takeComparison]; omega), Nat.ble_eq_true_of_le (by simp only [rmF, rmQ, rmX5_skipBlanks, rmX5_takeWord, rmX5_takeSign, rmX5_allow, rmX8_put, rmX8_readSum, rmX8_takeComparison]; omega)⟩ ⟨Nat.zero_le _, Nat.zero_le _⟩ rfl (Nat.le_of_ble_eq_true rfl) dX8_readFact_132 ?_
        rintro _ S2 h2
        unfold tcP at h2
        cases hg : sgF T L (skN T L n1) with
        | none =>
          rw [hg] at h2 hR
          obtain ⟨rfl, rfl⟩ := h2
          refine g_goto (pc := 135) C 140 dX8_readFact_135 rfl ?_
          refine g_istore_n (pc := 140) (L' := [_, _, some (.int _), _]) C dX8_readFact_140 rfl rfl ?_
          refine g_aload_n (pc := 141) C dX8_readFact_141 rfl ?_
          refine fg_X8_19 (pc := 142) C (by exact (o4 _ zu1).1) (zk (by exact (o4 _ zu1).2)) dX8_readFact_142 ?_
          refine gx_ti (y := nI (ftN 0 (skN T L n1))) rk4_gF ?_
          refine g_if_ne (pc := 145) C 158 dX8_readFact_145 rfl (fun c2 => ?_) (fun c2 => ?_)
          · rw [← hpost]
            exact g_return (pc := 158) C ⟨rfl, rfl⟩ dX8_readFact_158 (pxU_e hR r1 ⟨skN T L n1, (o ++ k1.map clK).length, hs1.2, rfl, hu1.1, by rw [clK_len]; omega⟩)
          · exact absurd (Decidable.not_not.mp c2) (nI_ne0 (by unfold ftN; omega) (by unfold ftN; omega))
        | some p2 =>
          obtain ⟨s, q2⟩ := p2
          rw [hg] at h2 hR
          obtain ⟨rfl, rfl⟩ := h2
          obtain ⟨g1, g2, g3⟩ := sg_some hg
          simp only at hR
          have r2 : rch U (s_setI U1 705 4 (nI m1 + nI 1)) := r1.trans rch_I
          by_cases h60 : m1 = 60
          · rw [if_pos h60] at hR
            have ea : alw (bI (nI m1 + nI 1 ≤ nI 60)) 0 (nI (skN T L n1)) (nI 3) = nI (ftN 3 (skN T L n1)) := by
              unfold alw; rw [bI_f (fun z => (m60 b3).mp z h60), if_pos ⟨rfl, rfl⟩, ft_I]
            rw [ea]
            refine g_goto (pc := 135) C 140 dX8_readFact_135 rfl ?_
            refine g_istore_n (pc := 140) (L' := [_, _, some (.int _), _]) C dX8_readFact_140 rfl rfl ?_
            refine g_aload_n (pc := 141) C dX8_readFact_141 rfl ?_
            refine fg_X8_19 (pc := 142) C (by exact (o4 _ zu1).1) (zk (by exact (o4 _ zu1).2)) dX8_readFact_142 ?_
            refine gx_ti (y := nI (ftN 3 (skN T L n1))) rk4_gF ?_
            refine g_if_ne (pc := 145) C 158 dX8_readFact_145 rfl (fun c2 => ?_) (fun c2 => ?_)
            · rw [← hpost]
              exact g_return (pc := 158) C ⟨rfl, rfl⟩ dX8_readFact_158 (pxU_e hR r2 ⟨q2, (o ++ k1.map clK).length, g2, rfl, (gI_ne (Or.inl (by decide))).trans hu1.1, by rw [clK_len]; omega⟩)
            · exact absurd (Decidable.not_not.mp c2) (nI_ne0 (by unfold ftN; omega) (by unfold ftN; omega))
          · rw [if_neg h60] at hR
            have ea : alw (bI (nI m1 + nI 1 ≤ nI 60)) 0 (nI (skN T L n1)) (nI 3) = 0 := by
              unfold alw; rw [bI_t ((m60 b3).mpr h60), if_neg (fun z => absurd z.1 (by decide))]
            rw [ea]
            have hu2 : ruU (s_setI U1 705 4 (nI m1 + nI 1)) (o ++ k1.map clK) (m1 + 1) := ⟨(gI_ne (Or.inl (by decide))).trans hu1.1, by rw [gI_at, nI_add], fun i hi => hu1.2.2 i hi⟩
            have hP2 : ruP (s_setI U1 705 4 (nI m1 + nI 1)) T L q2 (m1 + 1) (o ++ k1.map clK) := h.nx r2 g2 (by omega) (by rw [clK_len]; omega) hu2
            have zu2 : 121 ≤ s_z (s_setI U1 705 4 (nI m1 + nI 1)) := zu1
            generalize s_setI U1 705 4 (nI m1 + nI 1) = U2 at r2 hu2 hP2 zu2 ⊢
            have hk2 := okI_sm (T := T) hL q2 (m1 + 1) g2 (by omega)
            refine g_goto (pc := 135) C 140 dX8_readFact_135 rfl ?_
            refine g_istore_n (pc := 140) (L' := [_, _, some (.int _), _]) C dX8_readFact_140 rfl rfl ?_
            refine g_aload_n (pc := 141) C dX8_readFact_141 rfl ?_
            refine fg_X8_19 (pc := 142) C (by exact (o4 _ zu2).1) (zk (by exact (o4 _ zu2).2)) dX8_readFact_142 ?_
            refine gx_ti (y := 0) rk4_gF ?_
            refine g_if_ne (pc := 145) C 158 dX8_readFact_145 rfl (fun c2 => ?_) (fun c2 => ?_)
            · exact absurd rfl c2
            · refine g_aload_n (pc := 148) C dX8_readFact_148 rfl ?_
              refine cgj_X8_67 (pc := 149) C J (by exact (o4 _ zu2).1) (zk (by exact (o4 _ zu2).2)) (c_X8_readSum _ _ _ U2 T L q2 (m1 + 1) _ hP2) ⟨Nat.ble_eq_true_of_le (by simp only [rmF, rmQ, rmX5_skipBlanks, rmX5_takeWord, rmX5_takeSign, rmX5_allow, rmX8_put, rmX8_readSum, rmX8_takeComparison]; omega), Nat.ble_eq_true_of_le (by simp only [rmF, rmQ, rmX5_skipBlanks, rmX5_takeWord, rmX5_takeSign, rmX5_allow, rmX8_put, rmX8_readSum, rmX8_takeComparison]; omega)⟩ ⟨Nat.zero_le _, Nat.zero_le _⟩ rfl (Nat.le_of_ble_eq_true rfl) dX8_readFact_149 ?_
              rintro _ S3 ⟨rfl, U3, r3, h3⟩
              have hd3 := (hd.ch r2).ch r3
              have zu3 : 121 ≤ s_z U3 := hd3.2.1.1
              have hc3 : s_R U3 703 4 = some 5 := (r3.2 _).trans ((r2.2 _).trans hc)
              cases hr2 : smF T L q2 (m1 + 1) with
              | error f =>
                rw [hr2] at h3 hR hk2
                obtain ⟨n3, z, hn3, e3, hz, hz5⟩ := h3
                subst e3
                refine g_aload_n (pc := 152) C dX8_readFact_152 rfl ?_
                refine g_iload_n (pc := 153) C dX8_readFact_153 rfl ?_
                refine g_iconst (pc := 154) (v := nI 0) C dX8_readFact_154 (by decide) ?_
                refine cf_X8_76 (pc := 155) C (by exact (o4 _ zu3).1) (zk (by exact (o4 _ zu3).2)) (c_X8_put _ _ U3 L hd3 hc3 n3 z hz5 hz (nI f) (nI (clK (6 + s))) (nI 0)) ⟨Nat.ble_eq_true_of_le (by simp only [rmF, rmQ, rmX5_skipBlanks, rmX5_takeWord, rmX5_takeSign, rmX5_allow, rmX8_put, rmX8_readSum, rmX8_takeComparison]; omega), Nat.ble_eq_true_of_le (by simp only [rmF, rmQ, rmX5_skipBlanks, rmX5_takeWord, rmX5_takeSign, rmX5_allow, rmX8_put, rmX8_readSum, rmX8_takeComparison]; omega)⟩ ⟨rfl, rfl⟩ ⟨Nat.zero_le _, Nat.zero_le _⟩ rfl (Nat.le_of_ble_eq_true rfl) dX8_readFact_155 ?_
                obtain ⟨U4, r4, e4, q4⟩ := ruE_put (f := f) (v := nI 0 * nI 32 + nI (clK (6 + s))) hn3 hz hz5
                rw [← hpost, e4]
                exact g_return (pc := 158) C ⟨rfl, rfl⟩ dX8_readFact_158 (pxU_e hR ((r2.trans r3).trans r4) q4)
              | ok p =>
                obtain ⟨n2, m2, k2⟩ := p
                rw [hr2] at h3 hR hk2
                obtain ⟨e3, hu3⟩ := h3
                obtain ⟨d1, d2, d3, d4⟩ := hk2
                subst e3
                rw [clK_ap] at hu3
                refine g_aload_n (pc := 152) C dX8_readFact_152 rfl ?_
                refine g_iload_n (pc := 153) C dX8_readFact_153 rfl ?_
                refine g_iconst (pc := 154) (v := nI 0) C dX8_readFact_154 (by decide) ?_
                refine cf_X8_76 (pc := 155) C (by exact (o4 _ zu3).1) (zk (by exact (o4 _ zu3).2)) (c_X8_put _ _ U3 L hd3 hc3 n2 (o ++ (k1 ++ k2).map clK).length (by rw [clK_len, List.length_append]; omega) hu3.1 0 (nI (clK (6 + s))) (nI 0)) ⟨Nat.ble_eq_true_of_le (by simp only [rmF, rmQ, rmX5_skipBlanks, rmX5_takeWord, rmX5_takeSign, rmX5_allow, rmX8_put, rmX8_readSum, rmX8_takeComparison]; omega), Nat.ble_eq_true_of_le (by simp only [rmF, rmQ, rmX5_skipBlanks, rmX5_takeWord, rmX5_takeSign, rmX5_allow, rmX8_put, rmX8_readSum, rmX8_takeComparison]; omega)⟩ ⟨rfl, rfl⟩ ⟨Nat.zero_le _, Nat.zero_le _⟩ rfl (Nat.le_of_ble_eq_true rfl) dX8_readFact_155 ?_
                rw [if_pos (by rw [clK_len, List.length_append]; omega)]
                have hu4 := hu3.put (c := clK (6 + s)) (v := nI 0 * nI 32 + nI (clK (6 + s))) (put0 _)
                rw [← hpost]
                exact g_return (pc := 158) C ⟨rfl, rfl⟩ dX8_readFact_158 (pxU_o hR ((r2.trans r3).trans rch_put) (by rw [clK_sn]; exact hu4))
  refine g_aload_n (pc := 0) C dX8_readFact_0 rfl ?_
  refine cf_X8_57 (pc := 1) C (by exact (o4 _ zu).1) (zk (by exact (o4 _ zu).2)) (t_skip _ _ hT hd hn 0) ⟨Nat.ble_eq_true_of_le (by simp only [rmF, rmQ, rmX5_skipBlanks, rmX5_takeWord, rmX5_takeSign, rmX5_allow, rmX8_put, rmX8_readSum, rmX8_takeComparison]; omega), Nat.ble_eq_true_of_le (by simp only [rmF, rmQ, rmX5_skipBlanks, rmX5_takeWord, rmX5_takeSign, rmX5_allow, rmX8_put, rmX8_readSum, rmX8_takeComparison]; omega)⟩ ⟨rfl, rfl⟩ ⟨Nat.zero_le _, Nat.zero_le _⟩ rfl (Nat.le_of_ble_eq_true rfl) dX8_readFact_1 ?_
  refine g_istore_n (pc := 4) (L' := [_, some (.int _), _, _]) C dX8_readFact_4 rfl rfl ?_
  generalize hq0 : skN T L n = q at hs hidem hf0 hf1 cmpP ⊢
  have cw := t_word w j (x_l X) hT hd hs.2 0 17 (by omega)
  rw [hidem] at cw
  have csg := t_sign w (x_l X) hT hd hs.2 0 91 (by omega)
  rw [hidem] at csg
  refine g_aload_n (pc := 5) C dX8_readFact_5 rfl ?_
  refine g_ldcS (pc := 6) C (js_X8_90 J) dX8_readFact_6 ?_
  refine cfj_X8_63 (pc := 8) C J (by exact (o4 _ zu).1) (zk (by exact (o4 _ zu).2)) cw ⟨Nat.ble_eq_true_of_le (by simp only [rmF, rmQ, rmX5_skipBlanks, rmX5_takeWord, rmX5_takeSign, rmX5_allow, rmX8_put, rmX8_readSum, rmX8_takeComparison]; omega), Nat.ble_eq_true_of_le (by simp only [rmF, rmQ, rmX5_skipBlanks, rmX5_takeWord, rmX5_takeSign, rmX5_allow, rmX8_put, rmX8_readSum, rmX8_takeComparison]; omega)⟩ ⟨rfl, rfl⟩ ⟨Nat.zero_le _, Nat.zero_le _⟩ rfl (Nat.le_of_ble_eq_true rfl) dX8_readFact_8 ?_
  have deep : R = .error (ftN 2 q) → ∀ a z3, a ≤ L → gx_G w X (rk4 U a (alw (nI 0) 0 (nI q) (nI 2))) 0 0 158 [some (.ref (ad (w_b w) 4)), some (.int (nI d)), some (.int (nI q)), z3] [] (gx_E w X post) := by
    intro hR a z3 ha
    rw [← hpost]
    exact g_return (pc := 158) C ⟨rfl, rfl⟩ dX8_readFact_158 (pxU_e hR rch.refl ⟨a, o.length, ha, by unfold alw; rw [if_pos ⟨rfl, rfl⟩, ft_I], hu.1, by omega⟩)
  by_cases hw : wdP T L q (jsV 17)
  · have hw2 : wdP T L q 7237492 := hw
    rw [if_pos hw]
    have hlt := lt_le (T := T) (L := L) (n := q) hs.2
    have hq1 := hw.1
    refine g_if_eq (pc := 11) C 50 dX8_readFact_11 rfl (fun c1 => ?_) (fun c1 => ?_)
    · exact absurd hw (bI_0.mp c1)
    · clear c1 cw csg
      have hf2 : ∀ e', e = e' + 1 → R = (match factE T L e' (ltN T L q) m with
        | .error f => .error f
        | .ok (n', m', k) => .ok (n', m', k ++ [11])) := fun e' z => (hf1 e' z).trans (if_pos hw2)
      generalize ltN T L q = a at hlt hq1 hf2 ⊢
      refine g_aload_n (pc := 14) C dX8_readFact_14 rfl ?_
      refine g_iload_n (pc := 15) C dX8_readFact_15 rfl ?_
      refine g_bipush (pc := 16) (v := nI 10) C dX8_readFact_16 (by decide) ?_
      cases e with
      | zero =>
        have hR := hf0 rfl
        rw [if_pos (Or.inl hw2)] at hR
        refine g_icmp_ge (pc := 18) C 25 dX8_readFact_18 rfl (fun c2 => ?_) (fun c2 => ?_)
        · refine g_iconst (pc := 25) (v := nI 0) C dX8_readFact_25 (by decide) ?_
          refine g_iload_n (pc := 26) C dX8_readFact_26 rfl ?_
          refine g_iconst (pc := 27) (v := nI 2) C dX8_readFact_27 (by decide) ?_
          refine cf_X8_53 (pc := 28) C (by exact (o4 _ zu).1) (zk (by exact (o4 _ zu).2)) (c_X5_allow_X8 _ _ U L hd a 0 (nI 0) (nI q) (nI 2) (Or.inl rfl)) ⟨Nat.ble_eq_true_of_le (by simp only [rmF, rmQ, rmX5_skipBlanks, rmX5_takeWord, rmX5_takeSign, rmX5_allow, rmX8_put, rmX8_readSum, rmX8_takeComparison]; omega), Nat.ble_eq_true_of_le (by simp only [rmF, rmQ, rmX5_skipBlanks, rmX5_takeWord, rmX5_takeSign, rmX5_allow, rmX8_put, rmX8_readSum, rmX8_takeComparison]; omega)⟩ ⟨rfl, rfl⟩ ⟨Nat.zero_le _, Nat.zero_le _⟩ rfl (Nat.le_of_ble_eq_true rfl) dX8_readFact_28 ?_
          refine g_if_eq (pc := 31) C 158 dX8_readFact_31 rfl (fun c3 => ?_) (fun c3 => ?_)
          · exact deep hR a _ hlt.2
          · exact absurd rfl c3
        · exact absurd (nI_le (show 10 ≤ d by omega) (by omega)) c2
      | succ e =>
        have hR := hf2 e rfl
        have hP : ruP U T L a m o := h.nx rch.refl hlt.2 hm (by omega) hu
        have hk1 := hokF e a m hlt.2 hm
        refine g_icmp_ge (pc := 18) C 25 dX8_readFact_18 rfl (fun c2 => ?_) (fun c2 => ?_)
        · exact absurd c2 (nI_ge (by omega) (by omega))
        · refine g_iconst (pc := 21) (v := nI 1) C dX8_readFact_21 (by decide) ?_
          refine g_goto (pc := 22) C 26 dX8_readFact_22 rfl ?_
          refine g_iload_n (pc := 26) C dX8_readFact_26 rfl ?_
          refine g_iconst (pc := 27) (v := nI 2) C dX8_readFact_27 (by decide) ?_
          refine cf_X8_53 (pc := 28) C (by exact (o4 _ zu).1) (zk (by exact (o4 _ zu).2)) (c_X5_allow_X8 _ _ U L hd a 0 (nI 1) (nI q) (nI 2) (Or.inr rfl)) ⟨Nat.ble_eq_true_of_le (by simp only [rmF, rmQ, rmX5_skipBlanks, rmX5_takeWord, rmX5_takeSign, rmX5_allow, rmX8_put, rmX8_readSum, rmX8_takeComparison]; omega), Nat.ble_eq_true_of_le (by simp only [rmF, rmQ, rmX5_skipBlanks, rmX5_takeWord, rmX5_takeSign, rmX5_allow, rmX8_put, rmX8_readSum, rmX8_takeComparison]; omega)⟩ ⟨rfl, rfl⟩ ⟨Nat.zero_le _, Nat.zero_le _⟩ rfl (Nat.le_of_ble_eq_true rfl) dX8_readFact_28 ?_
          refine gx_S (S' := rk4 U a 0) (by unfold alw; rw [if_neg (fun z => absurd z.1 (by decide))]) ?_
          refine g_if_eq (pc := 31) C 158 dX8_readFact_31 rfl (fun c3 => ?_) (fun c3 => ?_)
          · exact absurd c3 (by decide)
          · refine g_aload_n (pc := 34) C dX8_readFact_34 rfl ?_
            refine g_iload_n (pc := 35) C dX8_readFact_35 rfl ?_
            refine g_iconst (pc := 36) (v := nI 1) C dX8_readFact_36 (by decide) ?_
            refine g_iadd (pc := 37) C dX8_readFact_37 ?_
            refine gx_ti (y := nI (d + 1)) (nI_add _ _) ?_
            refine cgj_X8_85 (pc := 38) C J (by exact (o4 _ zu).1) (zk (by exact (o4 _ zu).2)) (hF e rfl U a m o (d + 1) (by omega) hP) ⟨Nat.ble_eq_true_of_le (by simp only [rmF, rmQ, rmX5_skipBlanks, rmX5_takeWord, rmX5_takeSign, rmX5_allow, rmX8_put, rmX8_readSum, rmX8_takeComparison]; omega), Nat.ble_eq_true_of_le (by simp only [rmF, rmQ, rmX5_skipBlanks, rmX5_takeWord, rmX5_takeSign, rmX5_allow, rmX8_put, rmX8_readSum, rmX8_takeComparison]; omega)⟩ ⟨Nat.zero_le _, Nat.zero_le _⟩ rfl (Nat.le_of_ble_eq_true rfl) dX8_readFact_38 ?_
            rintro _ S1 ⟨rfl, U1, r1, h1⟩
            have hd1 := hd.ch r1
            have zu1 : 121 ≤ s_z U1 := hd1.2.1.1
            have hc1 : s_R U1 703 4 = some 5 := (r1.2 _).trans hc
            cases hr : factE T L e a m with
            | error f =>
              rw [hr] at h1 hR
              obtain ⟨n3, z, hn3, e3, hz, hz5⟩ := h1
              subst e3
              refine g_aload_n (pc := 41) C dX8_readFact_41 rfl ?_
              refine g_iconst (pc := 42) (v := nI 2) C dX8_readFact_42 (by decide) ?_
              refine g_iconst (pc := 43) (v := nI 0) C dX8_readFact_43 (by decide) ?_
              refine cf_X8_76 (pc := 44) C (by exact (o4 _ zu1).1) (zk (by exact (o4 _ zu1).2)) (c_X8_put _ _ U1 L hd1 hc1 n3 z hz5 hz (nI f) (nI 2) (nI 0)) ⟨Nat.ble_eq_true_of_le (by simp only [rmF, rmQ, rmX5_skipBlanks, rmX5_takeWord, rmX5_takeSign, rmX5_allow, rmX8_put, rmX8_readSum, rmX8_takeComparison]; omega), Nat.ble_eq_true_of_le (by simp only [rmF, rmQ, rmX5_skipBlanks, rmX5_takeWord, rmX5_takeSign, rmX5_allow, rmX8_put, rmX8_readSum, rmX8_takeComparison]; omega)⟩ ⟨rfl, rfl⟩ ⟨Nat.zero_le _, Nat.zero_le _⟩ rfl (Nat.le_of_ble_eq_true rfl) dX8_readFact_44 ?_
              refine g_goto (pc := 47) C 158 dX8_readFact_47 rfl ?_
              obtain ⟨U4, r4, e4, q4⟩ := ruE_put (f := f) (v := nI 0 * nI 32 + nI 2) hn3 hz hz5
              rw [← hpost, e4]
              exact g_return (pc := 158) C ⟨rfl, rfl⟩ dX8_readFact_158 (pxU_e hR (r1.trans r4) q4)
            | ok p =>
              obtain ⟨n1, m1, k1⟩ := p
              rw [hr] at h1 hR hk1
              obtain ⟨e3, hu3⟩ := h1
              obtain ⟨b1, b2, b3, b4⟩ := hk1
              subst e3
              refine g_aload_n (pc := 41) C dX8_readFact_41 rfl ?_
              refine g_iconst (pc := 42) (v := nI 2) C dX8_readFact_42 (by decide) ?_
              refine g_iconst (pc := 43) (v := nI 0) C dX8_readFact_43 (by decide) ?_
              refine cf_X8_76 (pc := 44) C (by exact (o4 _ zu1).1) (zk (by exact (o4 _ zu1).2)) (c_X8_put _ _ U1 L hd1 hc1 n1 (o ++ k1.map clK).length (by rw [clK_len]; omega) hu3.1 0 (nI 2) (nI 0)) ⟨Nat.ble_eq_true_of_le (by simp only [rmF, rmQ, rmX5_skipBlanks, rmX5_takeWord, rmX5_takeSign, rmX5_allow, rmX8_put, rmX8_readSum, rmX8_takeComparison]; omega), Nat.ble_eq_true_of_le (by simp only [rmF, rmQ, rmX5_skipBlanks, rmX5_takeWord, rmX5_takeSign, rmX5_allow, rmX8_put, rmX8_readSum, rmX8_takeComparison]; omega)⟩ ⟨rfl, rfl⟩ ⟨Nat.zero_le _, Nat.zero_le _⟩ rfl (Nat.le_of_ble_eq_true rfl) dX8_readFact_44 ?_
              refine g_goto (pc := 47) C 158 dX8_readFact_47 rfl ?_
              rw [if_pos (by rw [clK_len]; omega)]
              have hu4 := hu3.put (c := clK 11) (v := nI 0 * nI 32 + nI 2) (put0 _)
              rw [← hpost]
              exact g_return (pc := 158) C ⟨rfl, rfl⟩ dX8_readFact_158 (pxU_o hR (r1.trans rch_put) (by rw [clK_sn]; exact hu4))
  · have hw2 : ¬ wdP T L q 7237492 := hw
    rw [if_neg hw]
    refine g_if_eq (pc := 11) C 50 dX8_readFact_11 rfl (fun c1 => ?_) (fun c1 => ?_)
    · clear c1 cw
      refine g_aload_n (pc := 50) C dX8_readFact_50 rfl ?_
      refine g_bipush (pc := 51) (v := nI 91) C dX8_readFact_51 (by decide) ?_
      refine cf_X8_92 (pc := 53) C (by exact (o4 _ zu).1) (zk (by exact (o4 _ zu).2)) csg ⟨Nat.ble_eq_true_of_le (by simp only [rmF, rmQ, rmX5_skipBlanks, rmX5_takeWord, rmX5_takeSign, rmX5_allow, rmX8_put, rmX8_readSum, rmX8_takeComparison]; omega), Nat.ble_eq_true_of_le (by simp only [rmF, rmQ, rmX5_skipBlanks, rmX5_takeWord, rmX5_takeSign, rmX5_allow, rmX8_put, rmX8_readSum, rmX8_takeComparison]; omega)⟩ ⟨rfl, rfl⟩ ⟨Nat.zero_le _, Nat.zero_le _⟩ rfl (Nat.le_of_ble_eq_true rfl) dX8_readFact_53 ?_
      by_cases hb : seeV T L q = nI 91
      · rw [if_pos hb]
        have hq1 : q < L := Nat.lt_of_not_le (fun z => by rw [see_end z] at hb; exact absurd hb (by decide))
        refine g_if_eq (pc := 56) C 120 dX8_readFact_56 rfl (fun c2 => ?_) (fun c2 => ?_)
        · exact absurd hb (bI_0.mp c2)
        · clear c2 csg
          refine g_aload_n (pc := 59) C dX8_readFact_59 rfl ?_
          refine g_iload_n (pc := 60) C dX8_readFact_60 rfl ?_
          refine g_bipush (pc := 61) (v := nI 10) C dX8_readFact_61 (by decide) ?_
          cases e with
          | zero =>
            have hR := hf0 rfl
            rw [if_pos (Or.inr hb)] at hR
            refine g_icmp_ge (pc := 63) C 70 dX8_readFact_63 rfl (fun c3 => ?_) (fun c3 => ?_)
            · refine g_iconst (pc := 70) (v := nI 0) C dX8_readFact_70 (by decide) ?_
              refine g_iload_n (pc := 71) C dX8_readFact_71 rfl ?_
              refine g_iconst (pc := 72) (v := nI 2) C dX8_readFact_72 (by decide) ?_
              refine cf_X8_53 (pc := 73) C (by exact (o4 _ zu).1) (zk (by exact (o4 _ zu).2)) (c_X5_allow_X8 _ _ U L hd (q + 1) 0 (nI 0) (nI q) (nI 2) (Or.inl rfl)) ⟨Nat.ble_eq_true_of_le (by simp only [rmF, rmQ, rmX5_skipBlanks, rmX5_takeWord, rmX5_takeSign, rmX5_allow, rmX8_put, rmX8_readSum, rmX8_takeComparison]; omega), Nat.ble_eq_true_of_le (by simp only [rmF, rmQ, rmX5_skipBlanks, rmX5_takeWord, rmX5_takeSign, rmX5_allow, rmX8_put, rmX8_readSum, rmX8_takeComparison]; omega)⟩ ⟨rfl, rfl⟩ ⟨Nat.zero_le _, Nat.zero_le _⟩ rfl (Nat.le_of_ble_eq_true rfl) dX8_readFact_73 ?_
              refine g_if_eq (pc := 76) C 158 dX8_readFact_76 rfl (fun c4 => ?_) (fun c4 => ?_)
              · exact deep hR (q + 1) _ (by omega)
              · exact absurd rfl c4
            · exact absurd (nI_le (show 10 ≤ d by omega) (by omega)) c3
          | succ e =>
            have hR := hf1 e rfl
            rw [if_neg hw2, if_pos hb] at hR
            have hP : ruP U T L (q + 1) m o := h.nx rch.refl (by omega) hm (by omega) hu
            have hk1 := okI_test (T := T) (hokF e) hL (q + 1) m (by omega) hm
            refine g_icmp_ge (pc := 63) C 70 dX8_readFact_63 rfl (fun c3 => ?_) (fun c3 => ?_)
            · exact absurd c3 (nI_ge (by omega) (by omega))
            · refine g_iconst (pc := 66) (v := nI 1) C dX8_readFact_66 (by decide) ?_
              refine g_goto (pc := 67) C 71 dX8_readFact_67 rfl ?_
              refine g_iload_n (pc := 71) C dX8_readFact_71 rfl ?_
              refine g_iconst (pc := 72) (v := nI 2) C dX8_readFact_72 (by decide) ?_
              refine cf_X8_53 (pc := 73) C (by exact (o4 _ zu).1) (zk (by exact (o4 _ zu).2)) (c_X5_allow_X8 _ _ U L hd (q + 1) 0 (nI 1) (nI q) (nI 2) (Or.inr rfl)) ⟨Nat.ble_eq_true_of_le (by simp only [rmF, rmQ, rmX5_skipBlanks, rmX5_takeWord, rmX5_takeSign, rmX5_allow, rmX8_put, rmX8_readSum, rmX8_takeComparison]; omega), Nat.ble_eq_true_of_le (by simp only [rmF, rmQ, rmX5_skipBlanks, rmX5_takeWord, rmX5_takeSign, rmX5_allow, rmX8_put, rmX8_readSum, rmX8_takeComparison]; omega)⟩ ⟨rfl, rfl⟩ ⟨Nat.zero_le _, Nat.zero_le _⟩ rfl (Nat.le_of_ble_eq_true rfl) dX8_readFact_73 ?_
              refine gx_S (S' := rk4 U (q + 1) 0) (by unfold alw; rw [if_neg (fun z => absurd z.1 (by decide))]) ?_
              refine g_if_eq (pc := 76) C 158 dX8_readFact_76 rfl (fun c4 => ?_) (fun c4 => ?_)
              · exact absurd c4 (by decide)
              · refine g_aload_n (pc := 79) C dX8_readFact_79 rfl ?_
                refine g_iload_n (pc := 80) C dX8_readFact_80 rfl ?_
                refine g_iconst (pc := 81) (v := nI 1) C dX8_readFact_81 (by decide) ?_
                refine g_iadd (pc := 82) C dX8_readFact_82 ?_
                refine gx_ti (y := nI (d + 1)) (nI_add _ _) ?_
                refine cgj_X8_73 (pc := 83) C J (by exact (o4 _ zu).1) (zk (by exact (o4 _ zu).2)) (hQ e rfl U (q + 1) m o (d + 1) (by omega) hP) ⟨Nat.ble_eq_true_of_le (by simp only [rmF, rmQ, rmX5_skipBlanks, rmX5_takeWord, rmX5_takeSign, rmX5_allow, rmX8_put, rmX8_readSum, rmX8_takeComparison]; omega), Nat.ble_eq_true_of_le (by simp only [rmF, rmQ, rmX5_skipBlanks, rmX5_takeWord, rmX5_takeSign, rmX5_allow, rmX8_put, rmX8_readSum, rmX8_takeComparison]; omega)⟩ ⟨Nat.zero_le _, Nat.zero_le _⟩ rfl (Nat.le_of_ble_eq_true rfl) dX8_readFact_83 ?_
                rintro _ S1 ⟨rfl, U1, r1, h1⟩
                have hd1 := hd.ch r1
                have zu1 : 121 ≤ s_z U1 := hd1.2.1.1
                have hT1 : s_A U1 2 = T := (r1.1.A (by decide)).trans hT
                cases hr : testF T L (factE T L e) (q + 1) m with
                | error f =>
                  rw [hr] at h1 hR hk1
                  obtain ⟨n3, z, hn3, e3, hz, hz5⟩ := id h1
                  subst e3
                  refine g_aload_n (pc := 86) C dX8_readFact_86 rfl ?_
                  refine g_aload_n (pc := 87) C dX8_readFact_87 rfl ?_
                  refine fg_X8_19 (pc := 88) C (by exact (o4 _ zu1).1) (zk (by exact (o4 _ zu1).2)) dX8_readFact_88 ?_
                  refine gx_ti (y := nI f) rk4_gF ?_
                  refine g_if_ne (pc := 91) C 103 dX8_readFact_91 rfl (fun c5 => ?_) (fun c5 => ?_)
                  · refine g_iconst (pc := 103) (v := nI 1) C dX8_readFact_103 (by decide) ?_
                    refine g_goto (pc := 104) C 108 dX8_readFact_104 rfl ?_
                    refine g_aload_n (pc := 108) C dX8_readFact_108 rfl ?_
                    refine fg_X8_15 (pc := 109) C (by exact (o4 _ zu1).1) (zk (by exact (o4 _ zu1).2)) dX8_readFact_109 ?_
                    refine gx_ti (y := nI n3) rk4_gA ?_
                    refine g_iconst (pc := 112) (v := nI 0) C dX8_readFact_112 (by decide) ?_
                    refine cf_X8_53 (pc := 113) C (by exact (o4 _ zu1).1) (zk (by exact (o4 _ zu1).2)) (c_X5_allow_X8 _ _ U1 L hd1 n3 (nI f) (nI 1) (nI n3) (nI 0) (Or.inr rfl)) ⟨Nat.ble_eq_true_of_le (by simp only [rmF, rmQ, rmX5_skipBlanks, rmX5_takeWord, rmX5_takeSign, rmX5_allow, rmX8_put, rmX8_readSum, rmX8_takeComparison]; omega), Nat.ble_eq_true_of_le (by simp only [rmF, rmQ, rmX5_skipBlanks, rmX5_takeWord, rmX5_takeSign, rmX5_allow, rmX8_put, rmX8_readSum, rmX8_takeComparison]; omega)⟩ ⟨rfl, rfl⟩ ⟨Nat.zero_le _, Nat.zero_le _⟩ rfl (Nat.le_of_ble_eq_true rfl) dX8_readFact_113 ?_
                    refine g_pop (pc := 116) C dX8_readFact_116 rfl ?_
                    refine g_goto (pc := 117) C 158 dX8_readFact_117 rfl ?_
                    rw [← hpost]
                    exact g_return (pc := 158) C ⟨rfl, rfl⟩ dX8_readFact_158 (pxU_e hR r1 ⟨n3, z, hn3, by unfold alw; rw [if_neg (fun z => absurd z.1 (by decide))], hz, hz5⟩)
                  · exact absurd (Decidable.not_not.mp c5) (ftpos hk1 hL)
                | ok p =>
                  obtain ⟨n1, m1, k1⟩ := p
                  rw [hr] at h1 hR hk1
                  simp only at hR
                  obtain ⟨e3, hu3⟩ := h1
                  obtain ⟨b1, b2, b3, b4⟩ := hk1
                  subst e3
                  have hs1 := sk_bd (T := T) b2
                  refine g_aload_n (pc := 86) C dX8_readFact_86 rfl ?_
                  refine g_aload_n (pc := 87) C dX8_readFact_87 rfl ?_
                  refine fg_X8_19 (pc := 88) C (by exact (o4 _ zu1).1) (zk (by exact (o4 _ zu1).2)) dX8_readFact_88 ?_
                  refine gx_ti (y := 0) rk4_gF ?_
                  refine g_if_ne (pc := 91) C 103 dX8_readFact_91 rfl (fun c5 => ?_) (fun c5 => ?_)
                  · exact absurd rfl c5
                  · refine g_aload_n (pc := 94) C dX8_readFact_94 rfl ?_
                    refine g_bipush (pc := 95) (v := nI 93) C dX8_readFact_95 (by decide) ?_
                    refine cf_X8_92 (pc := 97) C (by exact (o4 _ zu1).1) (zk (by exact (o4 _ zu1).2)) (t_sign _ _ hT1 hd1 b2 0 93 (by omega)) ⟨Nat.ble_eq_true_of_le (by simp only [rmF, rmQ, rmX5_skipBlanks, rmX5_takeWord, rmX5_takeSign, rmX5_allow, rmX8_put, rmX8_readSum, rmX8_takeComparison]; omega), Nat.ble_eq_true_of_le (by simp only [rmF, rmQ, rmX5_skipBlanks, rmX5_takeWord, rmX5_takeSign, rmX5_allow, rmX8_put, rmX8_readSum, rmX8_takeComparison]; omega)⟩ ⟨rfl, rfl⟩ ⟨Nat.zero_le _, Nat.zero_le _⟩ rfl (Nat.le_of_ble_eq_true rfl) dX8_readFact_97 ?_
                    by_cases hb2 : seeV T L (skN T L n1) = nI 93
                    · rw [if_pos hb2] at hR ⊢
                      refine g_if_eq (pc := 100) C 107 dX8_readFact_100 rfl (fun c6 => ?_) (fun c6 => ?_)
                      · exact absurd hb2 (bI_0.mp c6)
                      · refine g_iconst (pc := 103) (v := nI 1) C dX8_readFact_103 (by decide) ?_
                        refine g_goto (pc := 104) C 108 dX8_readFact_104 rfl ?_
                        refine g_aload_n (pc := 108) C dX8_readFact_108 rfl ?_
                        refine fg_X8_15 (pc := 109) C (by exact (o4 _ zu1).1) (zk (by exact (o4 _ zu1).2)) dX8_readFact_109 ?_
                        refine gx_ti (y := nI (skN T L n1 + 1)) rk4_gA ?_
                        refine g_iconst (pc := 112) (v := nI 0) C dX8_readFact_112 (by decide) ?_
                        refine cf_X8_53 (pc := 113) C (by exact (o4 _ zu1).1) (zk (by exact (o4 _ zu1).2)) (c_X5_allow_X8 _ _ U1 L hd1 (skN T L n1 + 1) 0 (nI 1) (nI (skN T L n1 + 1)) (nI 0) (Or.inr rfl)) ⟨Nat.ble_eq_true_of_le (by simp only [rmF, rmQ, rmX5_skipBlanks, rmX5_takeWord, rmX5_takeSign, rmX5_allow, rmX8_put, rmX8_readSum, rmX8_takeComparison]; omega), Nat.ble_eq_true_of_le (by simp only [rmF, rmQ, rmX5_skipBlanks, rmX5_takeWord, rmX5_takeSign, rmX5_allow, rmX8_put, rmX8_readSum, rmX8_takeComparison]; omega)⟩ ⟨rfl, rfl⟩ ⟨Nat.zero_le _, Nat.zero_le _⟩ rfl (Nat.le_of_ble_eq_true rfl) dX8_readFact_113 ?_
                        refine g_pop (pc := 116) C dX8_readFact_116 rfl ?_
                        refine g_goto (pc := 117) C 158 dX8_readFact_117 rfl ?_
                        refine gx_S (S' := rk4 U1 (skN T L n1 + 1) 0) (by unfold alw; rw [if_neg (fun z => absurd z.1 (by decide))]) ?_
                        rw [← hpost]
                        exact g_return (pc := 158) C ⟨rfl, rfl⟩ dX8_readFact_158 (pxU_o hR r1 hu3)
                    · rw [if_neg hb2] at hR ⊢
                      refine g_if_eq (pc := 100) C 107 dX8_readFact_100 rfl (fun c6 => ?_) (fun c6 => ?_)
                      · refine g_iconst (pc := 107) (v := nI 0) C dX8_readFact_107 (by decide) ?_
                        refine g_aload_n (pc := 108) C dX8_readFact_108 rfl ?_
                        refine fg_X8_15 (pc := 109) C (by exact (o4 _ zu1).1) (zk (by exact (o4 _ zu1).2)) dX8_readFact_109 ?_
                        refine gx_ti (y := nI (skN T L n1)) rk4_gA ?_
                        refine g_iconst (pc := 112) (v := nI 0) C dX8_readFact_112 (by decide) ?_
                        refine cf_X8_53 (pc := 113) C (by exact (o4 _ zu1).1) (zk (by exact (o4 _ zu1).2)) (c_X5_allow_X8 _ _ U1 L hd1 (skN T L n1) 0 (nI 0) (nI (skN T L n1)) (nI 0) (Or.inl rfl)) ⟨Nat.ble_eq_true_of_le (by simp only [rmF, rmQ, rmX5_skipBlanks, rmX5_takeWord, rmX5_takeSign, rmX5_allow, rmX8_put, rmX8_readSum, rmX8_takeComparison]; omega), Nat.ble_eq_true_of_le (by simp only [rmF, rmQ, rmX5_skipBlanks, rmX5_takeWord, rmX5_takeSign, rmX5_allow, rmX8_put, rmX8_readSum, rmX8_takeComparison]; omega)⟩ ⟨rfl, rfl⟩ ⟨Nat.zero_le _, Nat.zero_le _⟩ rfl (Nat.le_of_ble_eq_true rfl) dX8_readFact_113 ?_
                        refine g_pop (pc := 116) C dX8_readFact_116 rfl ?_
                        refine g_goto (pc := 117) C 158 dX8_readFact_117 rfl ?_
                        rw [← hpost]
                        exact g_return (pc := 158) C ⟨rfl, rfl⟩ dX8_readFact_158 (pxU_e hR r1 ⟨skN T L n1, (o ++ k1.map clK).length, hs1.2, by unfold alw; rw [if_pos ⟨rfl, rfl⟩, ft_I], hu3.1, by rw [clK_len]; omega⟩)
                      · exact absurd (bI_0.mpr hb2) c6
      · rw [if_neg hb]
        refine g_if_eq (pc := 56) C 120 dX8_readFact_56 rfl (fun c2 => ?_) (fun c2 => ?_)
        · refine cmpP ?_
          cases e with
          | zero => have hR := hf0 rfl; rwa [if_neg (fun z => z.elim hw2 hb)] at hR
          | succ e => have hR := hf1 e rfl; rwa [if_neg hw2, if_neg hb] at hR
        · exact absurd (bI_0.mpr hb) c2
    · exact absurd (bI_0.mpr hw) c1
theorem c_X8_readFactE (w : Wd) (j : SJ) (l : Launch) (T : Nat → Int32) (L : Nat) (hL : L ≤ 400) : ∀ e U n m o d, d + e = 10 → ruP U T L n m o → gx_MJ w j l yX8_readFact cX8_readFact 4 none (rmF e) [.ref (ad (w_b w) 4), .int (nI d)] (rk4 U n 0) (pxU U L o (factE T L e n m)) := by
  intro e
  induction e with
  | zero => intro U n m o d hde h; exact fact_step w j l T L 0 (fun e' q => by omega) (fun e' q => by omega) U n m o d hde h
  | succ e ih =>
    intro U n m o d hde h
    refine fact_step w j l T L (e + 1) (fun e' q => ?_) (fun e' q => ?_) U n m o d hde h
    · obtain rfl : e = e' := by omega
      exact ih
    · obtain rfl : e = e' := by omega
      intro U n m o d hd h
      exact c_X8_readTest w j l T L e d (partF T L (factE T L e)) (okI_seqW (okI_fact hL e) hL) (fun U n m o h => c_X8_readPart w j l T L e d (factE T L e) (okI_fact hL e) (fun U n m o h => ih U n m o d hd h) U n m o h) U n m o h
theorem c_X8_readTest0 (w : Wd) (j : SJ) (l : Launch) (U : St) (T : Nat → Int32) (L n m : Nat) (o : List Nat) (h : ruP U T L n m o) : gx_MJ w j l yX8_readTest cX8_readTest 3 none (rmQ 10) [.ref (ad (w_b w) 4), .int (nI 0)] (rk4 U n 0) (pxU U L o (testF T L (factE T L 10) n m)) := by
  have hL := h.1.2.1.2.2.2
  exact c_X8_readTest w j l T L 10 0 (partF T L (factE T L 10)) (okI_seqW (okI_fact hL 10) hL) (fun U n m o h => c_X8_readPart w j l T L 10 0 (factE T L 10) (okI_fact hL 10) (fun U n m o h => c_X8_readFactE w j l T L hL 10 U n m o 0 rfl h) U n m o h) U n m o h
