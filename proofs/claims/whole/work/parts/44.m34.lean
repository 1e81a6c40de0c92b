/-! ===== the reference's texts: numberHere ===== -/
def flS (S : St) (kind at_ : Int32) : St := if s_I S 1109 1000 = 0 then s_setI S 1109 1000 (nI 1 + nI 8 * at_ + kind) else S
def dgF (T : Nat → Int32) (L : Nat) : Nat → Nat → Nat
  | 0, n => n
  | d + 1, n => if chP 48 57 T L n then dgF T L d (n + 1) else n
abbrev dgN (T : Nat → Int32) (L n : Nat) : Nat := dgF T L (L - n) n
theorem dgF_le {T : Nat → Int32} {L : Nat} : ∀ d n, n ≤ dgF T L d n ∧ dgF T L d n ≤ n + d
  | 0, n => ⟨Nat.le_refl n, Nat.le_refl n⟩
  | d + 1, n => by
    have := dgF_le (T := T) (L := L) d (n + 1)
    simp only [dgF]
    split <;> omega
def nbV (T : Nat → Int32) (n : Nat) : Nat → Int32
  | 0 => nI 0
  | k + 1 => if k < 5 then nI 10 * nbV T n k + T (n + k) - nI 48 else nbV T n k
abbrev nbOK (T : Nat → Int32) (L n : Nat) (lo hi : Int32) : Prop := dgN T L n - n ≤ 5 ∧ (lo ≤ nbV T n (dgN T L n - n) ∧ nbV T n (dgN T L n - n) ≤ hi)
def nbS (S : St) (L n : Nat) : St := s_setI (nxS S (dgN (s_A S 1001) L n)) 1110 1000 (nbV (s_A S 1001) n (dgN (s_A S 1001) L n - n))
def nhS (S : St) (L n : Nat) (lo hi : Int32) : St := if chP 48 57 (s_A S 1001) L n then (if nbOK (s_A S 1001) L n lo hi then nbS S L n else flS (nbS S L n) (nI 1) (nI n)) else flS (nxS S n) (nI 0) (nI n)
theorem c_X12_failsF (w : Wd) (l : Launch) (S : St) (hm : gx_m S) (kind at_ : Int32) : gx_M w l yX12_fails cX12_fails 3 (some .boolean) rmX12_fails [.ref (ad (w_b w) 1000), .int kind, .int at_] S (pI (nI 0) (flS S kind at_)) := c_X12_fails w l S hm kind at_
theorem c_X12_numberHere (w : Wd) (l : Launch) (S : St) (hm : gx_m S) (L : Nat) (ht : gx_t S L) (n : Nat) (hn : n ≤ 400) (lo hi : Int32) : gx_M w l yX12_numberHere cX12_numberHere 5 (some .boolean) rmX12_numberHere [.ref (ad (w_b w) 1000), .int lo, .int hi] (nxS S n) (pI (bI (chP 48 57 (s_A S 1001) L (skN (s_A S 1001) L n) ∧ nbOK (s_A S 1001) L (skN (s_A S 1001) L n) lo hi)) (nhS S L (skN (s_A S 1001) L n) lo hi)) := by
  have hmA : ∀ n, gx_m (nxS S n) := fun n => hm
  have htA : ∀ n, gx_t (nxS S n) L := fun n => ht
  have ht2 := ht.2
  have hsk := skF_le (T := s_A S 1001) (L := L) (L - n) n
  have hm2 : skN (s_A S 1001) L n ≤ 800 := by unfold skN; omega
  refine gx_start rfl 2 rfl (Nat.le_of_ble_eq_true rfl) ?_
  intro X C _ hl
  subst hl
  refine gx_L (L' := [_, _, _, _, _]) rfl ?_
  refine g_aload_n (pc := 0) C dX12_numberHere_0 rfl ?_
  refine cf_X12_105 (pc := 1) C rfl (m_z (hmA _) rfl) (c_X12_see _ _ S hm L ht n (by omega)) ⟨rfl, rfl⟩ ⟨rfl, rfl⟩ ⟨Nat.zero_le _, Nat.zero_le _⟩ rfl (Nat.le_of_ble_eq_true rfl) dX12_numberHere_1 ?_
  refine g_pop (pc := 4) C dX12_numberHere_4 rfl ?_
  refine g_aload_n (pc := 5) C dX12_numberHere_5 rfl ?_
  refine g_aload_n (pc := 6) C dX12_numberHere_6 rfl ?_
  refine mg_102 (pc := 7) C (hmA _) dX12_numberHere_7 ?_
  generalize skN (s_A S 1001) L n = m at hm2 ⊢
  refine gx_ti (y := nI m) rfl ?_
  refine cf_X12_120 (pc := 10) C rfl (m_z (hmA _) rfl) (c_X12_isDigit _ _ _ (hmA _) L (htA _) m (by omega)) ⟨rfl, rfl⟩ ⟨rfl, rfl⟩ ⟨Nat.zero_le _, Nat.zero_le _⟩ rfl (Nat.le_of_ble_eq_true rfl) dX12_numberHere_10 ?_
  refine gx_ti (y := bI (chP 48 57 (s_A S 1001) L m)) rfl ?_
  refine g_if_ne (pc := 13) C 26 dX12_numberHere_13 rfl (fun h => ?_) (fun h => ?_)
  · have h := Decidable.not_not.mp (fun q => h (bI_0.mpr q))
    unfold nhS
    rw [if_pos h]
    generalize hq : pI (bI (chP 48 57 (s_A S 1001) L m ∧ nbOK (s_A S 1001) L m lo hi)) (if nbOK (s_A S 1001) L m lo hi then nbS S L m else flS (nbS S L m) (nI 1) (nI m)) = post
    refine g_aload_n (pc := 26) C dX12_numberHere_26 rfl ?_
    refine mg_102 (pc := 27) C (hmA _) dX12_numberHere_27 ?_
    refine gx_ti (y := nI m) rfl ?_
    refine g_istore_n (pc := 30) (L' := [_, _, some (.int _), _, _]) C dX12_numberHere_30 rfl rfl ?_
    refine g_iconst (pc := 31) (v := nI 0) C dX12_numberHere_31 (by decide) ?_
    refine g_istore (pc := 32) (L' := [_, _, _, some (.int _), _]) C dX12_numberHere_32 rfl rfl ?_
    have fin : ∀ k, k ≤ 400 → dgN (s_A S 1001) L m = m + k → gx_G w X (nxS S (m + k)) 0 0 88 [some (.ref (ad (w_b w) 1000)), some (.int lo), some (.int hi), some (.int (nI m)), some (.int (nbV (s_A S 1001) m k))] [] (gx_E w X post) := by
      intro k hk e
      have e2 : dgN (s_A S 1001) L m - m = k := by omega
      have hmB : gx_m (nbS S L m) := hm
      have bad : ¬ nbOK (s_A S 1001) L m lo hi → gx_G w X (nbS S L m) 0 0 117 [some (.ref (ad (w_b w) 1000)), some (.int lo), some (.int hi), some (.int (nI m)), some (.int (nbV (s_A S 1001) m k))] [] (gx_E w X post) := by
        intro hno
        rw [← hq, if_neg hno]
        refine g_aload_n (pc := 117) C dX12_numberHere_117 rfl ?_
        refine g_iconst (pc := 118) (v := nI 1) C dX12_numberHere_118 (by decide) ?_
        refine g_iload_n (pc := 119) C dX12_numberHere_119 rfl ?_
        refine cf_X12_123 (pc := 120) C rfl (m_z hmB rfl) (c_X12_failsF _ _ _ hmB _ _) ⟨rfl, rfl⟩ ⟨rfl, rfl⟩ ⟨Nat.zero_le _, Nat.zero_le _⟩ rfl (Nat.le_of_ble_eq_true rfl) dX12_numberHere_120 ?_
        refine g_if_eq (pc := 123) C 130 dX12_numberHere_123 rfl (fun h3 => ?_) (fun h3 => ?_)
        · refine g_iconst (pc := 130) (v := nI 0) C dX12_numberHere_130 (by decide) ?_
          exact g_zreturn (pc := 131) C ⟨rfl, rfl⟩ (by first | exact Or.inl rfl | exact Or.inr rfl) dX12_numberHere_131 (pI_f (fun q => hno q.2))
        · exact absurd rfl h3
      refine g_aload_n (pc := 88) C dX12_numberHere_88 rfl ?_
      refine g_iload (pc := 89) C dX12_numberHere_89 rfl ?_
      refine mp_127 (pc := 91) C (hmA _) dX12_numberHere_91 ?_
      refine gx_S (S' := nbS S L m) (by unfold nbS; rw [e2, e]) ?_
      refine g_aload_n (pc := 94) C dX12_numberHere_94 rfl ?_
      refine mg_102 (pc := 95) C hmB dX12_numberHere_95 ?_
      refine gx_ti (y := nI (m + k)) (by unfold nbS; rw [e]; rfl) ?_
      refine g_iload_n (pc := 98) C dX12_numberHere_98 rfl ?_
      refine g_isub (pc := 99) C dX12_numberHere_99 ?_
      refine gx_ti (y := nI k) ((isn_sub isn_v isn_v (by omega)).trans (by rw [show m + k - m = k by omega])) ?_
      refine g_iconst (pc := 100) (v := nI 5) C dX12_numberHere_100 (by decide) ?_
      refine g_icmp_gt (pc := 101) C 117 dX12_numberHere_101 rfl (fun h3 => ?_) (fun h3 => ?_)
      · exact bad (fun q => absurd h3 (Int32.not_lt.mpr (nI_le (by have := q.1; omega) (by omega))))
      · have h3 : k ≤ 5 := (nI_leI (by omega) (by omega)).mp (Int32.not_lt.mp h3)
        refine g_iload (pc := 104) C dX12_numberHere_104 rfl ?_
        refine g_i2l (pc := 106) C dX12_numberHere_106 ?_
        refine g_iload_n (pc := 107) C dX12_numberHere_107 rfl ?_
        refine g_i2l (pc := 108) C dX12_numberHere_108 ?_
        refine g_iload_n (pc := 109) C dX12_numberHere_109 rfl ?_
        refine g_i2l (pc := 110) C dX12_numberHere_110 ?_
        refine cf_X12_130 (pc := 111) C (c_X12_in32 _ _ _ _ lo hi _ _ rfl rfl) ⟨rfl, rfl⟩ ⟨rfl, rfl⟩ ⟨Nat.zero_le _, Nat.zero_le _⟩ rfl (Nat.le_of_ble_eq_true rfl) dX12_numberHere_111 ?_
        refine g_if_ne (pc := 114) C 126 dX12_numberHere_114 rfl (fun h4 => ?_) (fun h4 => ?_)
        · have h4 := Decidable.not_not.mp (fun q => h4 (bI_0.mpr q))
          have hok : nbOK (s_A S 1001) L m lo hi := by unfold nbOK; rw [e2]; exact ⟨h3, h4⟩
          rw [← hq, if_pos hok]
          refine g_iconst (pc := 126) (v := nI 1) C dX12_numberHere_126 (by decide) ?_
          refine g_goto (pc := 127) C 131 dX12_numberHere_127 rfl ?_
          exact g_zreturn (pc := 131) C ⟨rfl, rfl⟩ (by first | exact Or.inl rfl | exact Or.inr rfl) dX12_numberHere_131 (pI_t ⟨h, hok⟩)
        · have h4 := bI_0.mp (Decidable.not_not.mp h4)
          exact bad (fun q => h4 (by have := q.2; rw [e2] at this; exact this))
    have loop : ∀ d k, L - (m + k) = d → k ≤ 400 → dgN (s_A S 1001) L m = dgF (s_A S 1001) L d (m + k) → gx_G w X (nxS S (m + k)) 0 0 34 [some (.ref (ad (w_b w) 1000)), some (.int lo), some (.int hi), some (.int (nI m)), some (.int (nbV (s_A S 1001) m k))] [] (gx_E w X post) := by
      intro d
      induction d with
      | zero =>
        intro k hd hk e
        refine g_aload_n (pc := 34) C dX12_numberHere_34 rfl ?_
        refine g_aload_n (pc := 35) C dX12_numberHere_35 rfl ?_
        refine mg_102 (pc := 36) C (hmA _) dX12_numberHere_36 ?_
        refine gx_ti (y := nI (m + k)) rfl ?_
        refine cf_X12_120 (pc := 39) C rfl (m_z (hmA _) rfl) (c_X12_isDigit _ _ _ (hmA _) L (htA _) (m + k) (by omega)) ⟨rfl, rfl⟩ ⟨rfl, rfl⟩ ⟨Nat.zero_le _, Nat.zero_le _⟩ rfl (Nat.le_of_ble_eq_true rfl) dX12_numberHere_39 ?_
        refine g_if_eq (pc := 42) C 88 dX12_numberHere_42 rfl (fun h2 => ?_) (fun h2 => ?_)
        · exact fin k hk e
        · exact absurd (bI_f (fun q => absurd q.1 (by omega))) h2
      | succ d ih =>
        intro k hd hk e
        refine g_aload_n (pc := 34) C dX12_numberHere_34 rfl ?_
        refine g_aload_n (pc := 35) C dX12_numberHere_35 rfl ?_
        refine mg_102 (pc := 36) C (hmA _) dX12_numberHere_36 ?_
        refine gx_ti (y := nI (m + k)) rfl ?_
        refine cf_X12_120 (pc := 39) C rfl (m_z (hmA _) rfl) (c_X12_isDigit _ _ _ (hmA _) L (htA _) (m + k) (by omega)) ⟨rfl, rfl⟩ ⟨rfl, rfl⟩ ⟨Nat.zero_le _, Nat.zero_le _⟩ rfl (Nat.le_of_ble_eq_true rfl) dX12_numberHere_39 ?_
        refine gx_ti (y := bI (chP 48 57 (s_A S 1001) L (m + k))) rfl ?_
        refine g_if_eq (pc := 42) C 88 dX12_numberHere_42 rfl (fun h2 => ?_) (fun h2 => ?_)
        · exact fin k hk (e.trans (if_neg (bI_0.mp h2)))
        · have h2 := Decidable.not_not.mp (fun q => h2 (bI_0.mpr q))
          have next := ih (k + 1) (by omega) (by omega) (e.trans (if_pos h2))
          have step : ∀ v, v = nbV (s_A S 1001) m (k + 1) → gx_G w X (nxS S (m + k)) 0 0 75 [some (.ref (ad (w_b w) 1000)), some (.int lo), some (.int hi), some (.int (nI m)), some (.int v)] [] (gx_E w X post) := by
            intro v hv
            subst hv
            refine g_aload_n (pc := 75) C dX12_numberHere_75 rfl ?_
            refine g_dup (pc := 76) C dX12_numberHere_76 rfl ?_
            refine mg_102 (pc := 77) C (hmA _) dX12_numberHere_77 ?_
            refine g_iconst (pc := 80) (v := nI 1) C dX12_numberHere_80 (by decide) ?_
            refine g_iadd (pc := 81) C dX12_numberHere_81 ?_
            refine gx_ti (nI_add (m + k) 1) ?_
            refine mp_102 (pc := 82) C (hmA _) dX12_numberHere_82 ?_
            refine gx_S (nx_nx S (m + k) (m + k + 1)) ?_
            refine g_goto (pc := 85) C 34 dX12_numberHere_85 rfl ?_
            exact next
          refine g_aload_n (pc := 45) C dX12_numberHere_45 rfl ?_
          refine mg_102 (pc := 46) C (hmA _) dX12_numberHere_46 ?_
          refine gx_ti (y := nI (m + k)) rfl ?_
          refine g_iload_n (pc := 49) C dX12_numberHere_49 rfl ?_
          refine g_isub (pc := 50) C dX12_numberHere_50 ?_
          refine gx_ti (y := nI k) ((isn_sub isn_v isn_v (by omega)).trans (by rw [show m + k - m = k by omega])) ?_
          refine g_iconst (pc := 51) (v := nI 5) C dX12_numberHere_51 (by decide) ?_
          refine g_icmp_ge (pc := 52) C 75 dX12_numberHere_52 rfl (fun h3 => ?_) (fun h3 => ?_)
          · have h3 : 5 ≤ k := (nI_leI (by omega) (by omega)).mp h3
            exact step _ (if_neg (by omega)).symm
          · have h3 : k < 5 := Nat.lt_of_not_le (fun q => h3 (nI_le q (by omega)))
            refine g_bipush (pc := 55) (v := nI 10) C dX12_numberHere_55 (by decide) ?_
            refine g_iload (pc := 57) C dX12_numberHere_57 rfl ?_
            refine g_imul (pc := 59) C dX12_numberHere_59 ?_
            refine g_aload_n (pc := 60) C dX12_numberHere_60 rfl ?_
            refine mg_7 (pc := 61) C (hmA _) dX12_numberHere_61 ?_
            refine g_aload_n (pc := 64) C dX12_numberHere_64 rfl ?_
            refine mg_102 (pc := 65) C (hmA _) dX12_numberHere_65 ?_
            refine gx_ti (y := nI (m + k)) rfl ?_
            refine n_bald (pc := 68) (k := 1001) (n := 400) C rfl rfl (m_z (hmA _) rfl) isn_v rfl (by omega) dX12_numberHere_68 ?_
            refine gx_ti (y := s_A S 1001 (m + k)) rfl ?_
            refine g_iadd (pc := 69) C dX12_numberHere_69 ?_
            refine g_bipush (pc := 70) (v := nI 48) C dX12_numberHere_70 (by decide) ?_
            refine g_isub (pc := 72) C dX12_numberHere_72 ?_
            refine g_istore (pc := 73) (L' := [_, _, _, some (.int _), _]) C dX12_numberHere_73 rfl rfl ?_
            exact step _ (if_pos h3).symm
    exact loop (L - m) 0 rfl (by omega) rfl
  · have h := bI_0.mp (Decidable.not_not.mp h)
    unfold nhS
    rw [if_neg h]
    refine g_aload_n (pc := 16) C dX12_numberHere_16 rfl ?_
    refine g_iconst (pc := 17) (v := nI 0) C dX12_numberHere_17 (by decide) ?_
    refine g_aload_n (pc := 18) C dX12_numberHere_18 rfl ?_
    refine mg_102 (pc := 19) C (hmA _) dX12_numberHere_19 ?_
    refine gx_ti (y := nI m) rfl ?_
    refine cf_X12_123 (pc := 22) C rfl (m_z (hmA _) rfl) (c_X12_failsF _ _ _ (hmA _) _ _) ⟨rfl, rfl⟩ ⟨rfl, rfl⟩ ⟨Nat.zero_le _, Nat.zero_le _⟩ rfl (Nat.le_of_ble_eq_true rfl) dX12_numberHere_22 ?_
    exact g_zreturn (pc := 25) C ⟨rfl, rfl⟩ (by first | exact Or.inl rfl | exact Or.inr rfl) dX12_numberHere_25 (pI_f (fun q => h q.1))
