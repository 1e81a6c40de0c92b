/-! ===== the reference's texts: tested ===== -/
def px2 (S : St) (t : Nat) (i : Nat → Int32) (a : Nat → Nat → Int32) (o : List Nat) (r : RT) : Option Value → St → Prop := fun v S' => ∃ i' a', S' = rdS S i' a' ∧ fxI l6 i i' ∧ fxU t a a' ∧ match r with
  | .error f => v = some (.int (nI 0)) ∧ i' 1109 = nI f
  | .ok (n', m', k) => v = some (.int (nI 1)) ∧ tx t i' a' n' m' (o ++ k)
theorem c_X12_tested (w : Wd) (l : Launch) (S : St) (L : Nat) (hx : gx_x S L) (t : Nat) (ht6 : t < 6) (i : Nat → Int32) (a : Nat → Nat → Int32) (n m : Nat) (o : List Nat) (h : tx t i a n m o) (hn : n ≤ L) (ho : o.length ≤ n) (h60 : m ≤ 60) : gx_M w l yX12_tested cX12_tested 3 (some .boolean) rmX12_tested [.ref (ad (w_b w) 1000)] (rdS S i a) (px2 S t i a o (testF (s_A S 1001) L (factE (s_A S 1001) L 10) n m)) := by
  have hL : L ≤ 400 := hx.2.1.2
  have hmA : ∀ i a, gx_m (rdS S i a) := fun i a => hx.1
  have hall := sy_all (T := s_A S 1001) hL 401 n m hn h60 (by omega) o
  generalize hR : sy (s_A S 1001) L 401 false [] n m o = R at hall
  have hpost : ∀ v i' a', fxI l6 i i' → fxU t a a' → (match R with
    | .error f => v = some (.int (nI 0)) ∧ i' 1109 = nI f
    | .ok (n', m', o') => v = some (.int (nI 1)) ∧ tx t i' a' n' m' o') → px2 S t i a o (testF (s_A S 1001) L (factE (s_A S 1001) L 10) n m) v (rdS S i' a') := by
    intro v i' a' f1 g1 hv
    refine ⟨i', a', rfl, f1, g1, ?_⟩
    rw [hall] at hv
    generalize testF (s_A S 1001) L (factE (s_A S 1001) L 10) n m = u at hv
    cases u with
    | error f => exact hv
    | ok p => exact hv
  generalize px2 S t i a o (testF (s_A S 1001) L (factE (s_A S 1001) L 10) n m) = post at hpost
  refine gx_start rfl 2 rfl (Nat.le_of_ble_eq_true rfl) ?_
  intro X C _ hl
  subst hl
  refine gx_L (L' := [_, _, _]) rfl ?_
  have loop : ∀ e d K n m o i0 a0 z, L - n = e → syS S L t i a i0 a0 false d K n m o R → gx_G w X (rdS S i0 a0) 0 0 12 [some (.ref (ad (w_b w) 1000)), some (.int (nI 1)), z] [] (gx_E w X post) := by
    intro e
    induction e using Nat.strongRecOn with
    | _ e ih =>
      intro d K n m o i0 a0 z he h
      refine g_iload_n (pc := 12) C dX12_tested_12 rfl ?_
      refine g_if_eq (pc := 13) C 112 dX12_tested_13 rfl (fun c0 => ?_) (fun c0 => ?_)
      · exact absurd c0 (by decide)
      · refine g_aload_n (pc := 16) C dX12_tested_16 rfl ?_
        refine cg_X12_212 (pc := 17) C rfl (m_z (hmA _ _) rfl) (c_X12_fact _ _ S L hx t ht6 i a i0 a0 R d K n m o h n (Nat.le_refl n)) ⟨rfl, rfl⟩ ⟨Nat.zero_le _, Nat.zero_le _⟩ rfl (Nat.le_of_ble_eq_true rfl) dX12_tested_17 ?_
        rintro _ _ ⟨i1, a1, rfl, ⟨rfl, f1, g1, f, rfl, r1⟩ | ⟨rfl, d1, K1, n1, m1, o1, hn1, h1⟩⟩
        · refine g_if_ne (pc := 20) C 25 dX12_tested_20 rfl (fun c1 => ?_) (fun c1 => ?_)
          · exact absurd rfl c1
          · refine g_iconst (pc := 23) (v := nI 0) C dX12_tested_23 (by decide) ?_
            exact g_zreturn (pc := 24) C ⟨rfl, rfl⟩ (by first | exact Or.inl rfl | exact Or.inr rfl) dX12_tested_24 (hpost _ _ _ f1 g1 ⟨rfl, r1⟩)
        · refine g_if_ne (pc := 20) C 25 dX12_tested_20 rfl (fun c1 => ?_) (fun c1 => ?_)
          · refine g_aload_n (pc := 25) C dX12_tested_25 rfl ?_
            refine cg_X12_215 (pc := 26) C rfl (m_z (hmA _ _) rfl) (c_X12_closes _ _ S L hx t ht6 i a i1 a1 R d1 K1 n1 m1 o1 h1 n1 (Nat.le_refl n1)) ⟨rfl, rfl⟩ ⟨Nat.zero_le _, Nat.zero_le _⟩ rfl (Nat.le_of_ble_eq_true rfl) dX12_tested_26 ?_
            rintro _ _ ⟨rfl, i2, a2, rfl, d2, K2, n2, o2, hn12, h2, h3, hqe, hno⟩
            obtain ⟨f2, g2, t2, k2, hn2, hm2, hb2, hd2, hR2⟩ := h2
            obtain ⟨d2, rfl⟩ : ∃ d0, d2 = d0 + 1 := ⟨d2 - 1, by omega⟩
            rw [sy_T, hqe, h3.1, h3.2, if_neg hno, List.append_nil] at hR2
            have step : ∀ s, (s = 12 ∨ s = 13) → n2 < ltN (s_A S 1001) L n2 → ltN (s_A S 1001) L n2 ≤ L → sy (s_A S 1001) L d2 false (s :: stK (strN s) K2) (ltN (s_A S 1001) L n2) m1 (o2 ++ stP (strN s) K2) = R → gx_G w X (rdS S i2 a2) 0 0 76 [some (.ref (ad (w_b w) 1000)), some (.int (nI 1)), z] [.int (nI s)] (gx_E w X post) := by
              intro s hs hl1 hl2 hR3
              have hs4 : s = 11 ∨ s = 12 ∨ s = 13 ∨ s = 91 := by omega
              have hg : 0 < strN s ∧ strN s < 4 := by rcases hs with rfl | rfl <;> decide
              refine g_istore_n (pc := 76) (L' := [_, some (.int _), _]) C dX12_tested_76 rfl rfl ?_
              refine g_aload_n (pc := 77) C dX12_tested_77 rfl ?_
              refine cf_X12_117 (pc := 78) C rfl (m_z (hmA _ _) rfl) (r_pass _ _ S L hx i2 a2 n2 t2.1 (by omega)) ⟨rfl, rfl⟩ ⟨rfl, rfl⟩ ⟨Nat.zero_le _, Nat.zero_le _⟩ rfl (Nat.le_of_ble_eq_true rfl) dX12_tested_78 ?_
              refine g_aload_n (pc := 81) C dX12_tested_81 rfl ?_
              refine g_iload_n (pc := 82) C dX12_tested_82 rfl ?_
              refine cf_X12_170 (pc := 83) C (c_X12_strength _ _ _ (nI s)) ⟨rfl, rfl⟩ ⟨rfl, rfl⟩ ⟨Nat.zero_le _, Nat.zero_le _⟩ rfl (Nat.le_of_ble_eq_true rfl) dX12_tested_83 ?_
              have t3 : tx t (u1 i2 1108 (nI (ltN (s_A S 1001) L n2))) a2 (ltN (s_A S 1001) L n2) m1 o2 := tx_u t2 rfl rfl rfl t2.2.2.2.1
              have k3 : opn (u1 i2 1108 (nI (ltN (s_A S 1001) L n2))) a2 K2 := opn_to k2 rfl rfl rfl
              have f3 : fxI l6 i (u1 i2 1108 (nI (ltN (s_A S 1001) L n2))) := f2.trans (fxI.u (by decide))
              generalize u1 i2 1108 (nI (ltN (s_A S 1001) L n2)) = i3 at t3 k3 f3
              refine gx_ti (y := nI (strN s)) (str_nI hs4) ?_
              refine cg_X12_206 (pc := 86) C rfl (m_z (hmA _ _) rfl) (c_X12_settles _ _ S L hx t ht6 (strN s) hg.1 hg.2 K2 i3 a2 _ m1 o2 t3 k3 (by omega)) ⟨rfl, rfl⟩ ⟨Nat.zero_le _, Nat.zero_le _⟩ rfl (Nat.le_of_ble_eq_true rfl) dX12_tested_86 ?_
              rintro _ _ ⟨rfl, i4, a4, rfl, f4, g4, t4, k4⟩
              have hst := stK_len (strN s) K2
              have hl4 : (o2 ++ stP (strN s) K2).length = o2.length + (stP (strN s) K2).length := List.length_append
              generalize hK4 : stK (strN s) K2 = K4 at k4 hst hR3
              refine g_aload_n (pc := 89) C dX12_tested_89 rfl ?_
              refine mg_29 (pc := 90) C (hmA _ _) dX12_tested_90 ?_
              refine g_aload_n (pc := 93) C dX12_tested_93 rfl ?_
              refine mg_167 (pc := 94) C (hmA _ _) dX12_tested_94 ?_
              refine gx_ti (y := nI K4.length) k4.1 ?_
              refine g_iload_n (pc := 97) C dX12_tested_97 rfl ?_
              refine n_iast (pc := 98) (k := 1007) (n := 400) C rfl rfl (m_z (hmA _ _) rfl) rfl rfl (by omega) dX12_tested_98 ?_
              refine gx_S (S' := rdS S i4 (u1 a4 1007 (upd (a4 1007) K4.length (nI s)))) (rd_A S i4 a4 1007 _ (by omega)) ?_
              refine g_aload_n (pc := 99) C dX12_tested_99 rfl ?_
              refine g_dup (pc := 100) C dX12_tested_100 rfl ?_
              refine mg_167 (pc := 101) C (hmA _ _) dX12_tested_101 ?_
              refine gx_ti (y := nI K4.length) k4.1 ?_
              refine g_iconst (pc := 104) (v := nI 1) C dX12_tested_104 (by decide) ?_
              refine g_iadd (pc := 105) C dX12_tested_105 ?_
              refine gx_ti (y := nI (K4.length + 1)) (nI_add K4.length 1) ?_
              refine mp_167 (pc := 106) C (hmA _ _) dX12_tested_106 ?_
              refine gx_S (S' := rdS S (u1 i4 1116 (nI (K4.length + 1))) (u1 a4 1007 (upd (a4 1007) K4.length (nI s)))) (rd_I S i4 _ 1116 _ (by omega)) ?_
              refine g_goto (pc := 109) C 12 dX12_tested_109 rfl ?_
              have hl5 : (s :: K4).length = K4.length + 1 := rfl
              have hdp : dpN (s :: K4) = dpN K4 := by rcases hs with rfl | rfl <;> rfl
              exact ih (L - ltN (s_A S 1001) L n2) (by omega) d2 (s :: K4) _ m1 _ _ _ _ rfl ⟨(f3.trans f4).trans (fxI.u (by decide)), (g2.trans g4).trans fxU_o, tx_o (tx_u t4 t4.1 rfl rfl t4.2.2.2.1) rfl rfl, opn_push k4 rfl (by rw [hdp]; exact k4.2.1) rfl hs4, hl2, hm2, by omega, by omega, hR3⟩
            refine g_aload_n (pc := 29) C dX12_tested_29 rfl ?_
            refine g_ldc2 (pc := 30) (v := 6385252) C dX12_tested_30 kl_X12_218 ?_
            refine cf_X12_113 (pc := 33) C rfl (m_z (hmA _ _) rfl) (r_wordM _ _ S L hx i2 a2 n2 t2.1 (by omega) hqe _) ⟨rfl, rfl⟩ ⟨rfl, rfl⟩ ⟨Nat.zero_le _, Nat.zero_le _⟩ rfl (Nat.le_of_ble_eq_true rfl) dX12_tested_33 ?_
            refine g_if_ne (pc := 36) C 49 dX12_tested_36 rfl (fun c2 => ?_) (fun c2 => ?_)
            · have c2 := Decidable.not_not.mp (fun q => c2 (bI_0.mpr q))
              rw [if_pos c2] at hR2
              refine g_iconst (pc := 49) (v := nI 1) C dX12_tested_49 (by decide) ?_
              refine g_goto (pc := 50) C 54 dX12_tested_50 rfl ?_
              refine g_istore_n (pc := 54) (L' := [some (.ref _), _, _]) C dX12_tested_54 rfl rfl ?_
              refine g_iload_n (pc := 55) C dX12_tested_55 rfl ?_
              refine g_if_eq (pc := 56) C 12 dX12_tested_56 rfl (fun c3 => ?_) (fun c3 => ?_)
              · exact absurd c3 (by decide)
              · refine g_aload_n (pc := 59) C dX12_tested_59 rfl ?_
                refine g_ldc2 (pc := 60) (v := 6385252) C dX12_tested_60 kl_X12_218 ?_
                refine cf_X12_113 (pc := 63) C rfl (m_z (hmA _ _) rfl) (r_wordM _ _ S L hx i2 a2 n2 t2.1 (by omega) hqe _) ⟨rfl, rfl⟩ ⟨rfl, rfl⟩ ⟨Nat.zero_le _, Nat.zero_le _⟩ rfl (Nat.le_of_ble_eq_true rfl) dX12_tested_63 ?_
                refine g_if_eq (pc := 66) C 74 dX12_tested_66 rfl (fun c4 => ?_) (fun c4 => ?_)
                · exact absurd c2 (bI_0.mp c4)
                · refine g_bipush (pc := 69) (v := nI 12) C dX12_tested_69 (by decide) ?_
                  refine g_goto (pc := 71) C 76 dX12_tested_71 rfl ?_
                  exact step 12 (Or.inl rfl) c2.1 (lt_le (T := s_A S 1001) hn2).2 hR2
            · have c2 := bI_0.mp (Decidable.not_not.mp c2)
              rw [if_neg c2] at hR2
              refine g_aload_n (pc := 39) C dX12_tested_39 rfl ?_
              refine g_ldc2 (pc := 40) (v := 28530) C dX12_tested_40 kl_X12_220 ?_
              refine cf_X12_113 (pc := 43) C rfl (m_z (hmA _ _) rfl) (r_wordM _ _ S L hx i2 a2 n2 t2.1 (by omega) hqe _) ⟨rfl, rfl⟩ ⟨rfl, rfl⟩ ⟨Nat.zero_le _, Nat.zero_le _⟩ rfl (Nat.le_of_ble_eq_true rfl) dX12_tested_43 ?_
              refine g_if_eq (pc := 46) C 53 dX12_tested_46 rfl (fun c3 => ?_) (fun c3 => ?_)
              · have c3 := bI_0.mp c3
                rw [if_neg c3] at hR2
                refine g_iconst (pc := 53) (v := nI 0) C dX12_tested_53 (by decide) ?_
                refine g_istore_n (pc := 54) (L' := [some (.ref _), _, _]) C dX12_tested_54 rfl rfl ?_
                refine g_iload_n (pc := 55) C dX12_tested_55 rfl ?_
                refine g_if_eq (pc := 56) C 12 dX12_tested_56 rfl (fun c4 => ?_) (fun c4 => ?_)
                · refine g_iload_n (pc := 12) C dX12_tested_12 rfl ?_
                  refine g_if_eq (pc := 13) C 112 dX12_tested_13 rfl (fun c5 => ?_) (fun c5 => ?_)
                  · refine g_aload_n (pc := 112) C dX12_tested_112 rfl ?_
                    refine cf_X12_209 (pc := 113) C rfl (m_z (hmA _ _) rfl) (c_X12_isInside _ _ S hx.1 i2 a2 K2 k2 (by omega)) ⟨rfl, rfl⟩ ⟨rfl, rfl⟩ ⟨Nat.zero_le _, Nat.zero_le _⟩ rfl (Nat.le_of_ble_eq_true rfl) dX12_tested_113 ?_
                    refine g_if_eq (pc := 116) C 134 dX12_tested_116 rfl (fun c6 => ?_) (fun c6 => ?_)
                    · have c6 := bI_0.mp c6
                      rw [if_neg c6] at hR2
                      refine g_aload_n (pc := 134) C dX12_tested_134 rfl ?_
                      refine g_iconst (pc := 135) (v := nI 1) C dX12_tested_135 (by decide) ?_
                      refine cg_X12_206 (pc := 136) C rfl (m_z (hmA _ _) rfl) (c_X12_settles _ _ S L hx t ht6 1 (by omega) (by omega) K2 i2 a2 n2 m1 o2 t2 k2 (by omega)) ⟨rfl, rfl⟩ ⟨Nat.zero_le _, Nat.zero_le _⟩ rfl (Nat.le_of_ble_eq_true rfl) dX12_tested_136 ?_
                      rintro _ _ ⟨rfl, i4, a4, rfl, f4, g4, t4, k4⟩
                      refine g_iconst (pc := 139) (v := nI 1) C dX12_tested_139 (by decide) ?_
                      exact g_zreturn (pc := 140) C ⟨rfl, rfl⟩ (by first | exact Or.inl rfl | exact Or.inr rfl) dX12_tested_140 (hpost _ _ _ (f2.trans f4) (g2.trans g4) (by rw [← hR2]; exact ⟨rfl, t4⟩))
                    · have c6 := Decidable.not_not.mp (fun q => c6 (bI_0.mpr q))
                      rw [if_pos c6] at hR2
                      refine g_aload_n (pc := 119) C dX12_tested_119 rfl ?_
                      refine cf_X12_105 (pc := 120) C rfl (m_z (hmA _ _) rfl) (r_seeM _ _ S L hx i2 a2 n2 t2.1 (by omega) hqe) ⟨rfl, rfl⟩ ⟨rfl, rfl⟩ ⟨Nat.zero_le _, Nat.zero_le _⟩ rfl (Nat.le_of_ble_eq_true rfl) dX12_tested_120 ?_
                      refine g_pop (pc := 123) C dX12_tested_123 rfl ?_
                      refine g_aload_n (pc := 124) C dX12_tested_124 rfl ?_
                      refine g_iconst (pc := 125) (v := nI 0) C dX12_tested_125 (by decide) ?_
                      refine g_aload_n (pc := 126) C dX12_tested_126 rfl ?_
                      refine mg_102 (pc := 127) C (hmA _ _) dX12_tested_127 ?_
                      refine gx_ti (y := nI n2) t2.1 ?_
                      refine cf_X12_123 (pc := 130) C rfl (m_z (hmA _ _) rfl) (r_fails _ _ S L hx i2 a2 t2.2.1 0 n2) ⟨rfl, rfl⟩ ⟨rfl, rfl⟩ ⟨Nat.zero_le _, Nat.zero_le _⟩ rfl (Nat.le_of_ble_eq_true rfl) dX12_tested_130 ?_
                      exact g_zreturn (pc := 133) C ⟨rfl, rfl⟩ (by first | exact Or.inl rfl | exact Or.inr rfl) dX12_tested_133 (hpost _ _ _ (f2.trans (fxI.u (by decide))) g2 (by rw [← hR2]; exact ⟨rfl, rfl⟩))
                  · exact absurd rfl c5
                · exact absurd rfl c4
              · have c3 := Decidable.not_not.mp (fun q => c3 (bI_0.mpr q))
                rw [if_pos c3] at hR2
                refine g_iconst (pc := 49) (v := nI 1) C dX12_tested_49 (by decide) ?_
                refine g_goto (pc := 50) C 54 dX12_tested_50 rfl ?_
                refine g_istore_n (pc := 54) (L' := [some (.ref _), _, _]) C dX12_tested_54 rfl rfl ?_
                refine g_iload_n (pc := 55) C dX12_tested_55 rfl ?_
                refine g_if_eq (pc := 56) C 12 dX12_tested_56 rfl (fun c4 => ?_) (fun c4 => ?_)
                · exact absurd c4 (by decide)
                · refine g_aload_n (pc := 59) C dX12_tested_59 rfl ?_
                  refine g_ldc2 (pc := 60) (v := 6385252) C dX12_tested_60 kl_X12_218 ?_
                  refine cf_X12_113 (pc := 63) C rfl (m_z (hmA _ _) rfl) (r_wordM _ _ S L hx i2 a2 n2 t2.1 (by omega) hqe _) ⟨rfl, rfl⟩ ⟨rfl, rfl⟩ ⟨Nat.zero_le _, Nat.zero_le _⟩ rfl (Nat.le_of_ble_eq_true rfl) dX12_tested_63 ?_
                  refine g_if_eq (pc := 66) C 74 dX12_tested_66 rfl (fun c5 => ?_) (fun c5 => ?_)
                  · refine g_bipush (pc := 74) (v := nI 13) C dX12_tested_74 (by decide) ?_
                    exact step 13 (Or.inr rfl) c3.1 (lt_le (T := s_A S 1001) hn2).2 hR2
                  · exact absurd (Decidable.not_not.mp (fun q => c5 (bI_0.mpr q))) c2
          · exact absurd (fun q => absurd q (by decide)) c1
  refine g_aload_n (pc := 0) C dX12_tested_0 rfl ?_
  refine g_iconst (pc := 1) (v := nI 0) C dX12_tested_1 (by decide) ?_
  refine mp_167 (pc := 2) C (hmA _ _) dX12_tested_2 ?_
  refine gx_S (S' := rdS S (u1 i 1116 (nI 0)) a) (rd_I S i a 1116 _ (by omega)) ?_
  refine g_aload_n (pc := 5) C dX12_tested_5 rfl ?_
  refine g_iconst (pc := 6) (v := nI 0) C dX12_tested_6 (by decide) ?_
  refine mp_164 (pc := 7) C (hmA _ _) dX12_tested_7 ?_
  refine gx_S (S' := rdS S (u1 (u1 i 1116 (nI 0)) 1113 (nI 0)) a) (rd_I S _ a 1113 _ (by omega)) ?_
  refine g_iconst (pc := 10) (v := nI 1) C dX12_tested_10 (by decide) ?_
  refine g_istore_n (pc := 11) (L' := [some (.ref _), _, _]) C dX12_tested_11 rfl rfl ?_
  exact loop (L - n) 401 [] n m o _ a _ rfl ⟨(fxI.u (by decide)).trans (fxI.u (by decide)), fxU.refl, tx_u h h.1 rfl rfl h.2.2.2.1, ⟨rfl, rfl, fun j hj => absurd hj (by simp), fun k hk => by cases hk⟩, hn, h60, by simpa using ho, by omega, hR⟩
