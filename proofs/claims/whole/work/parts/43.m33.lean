/-! ===== the reference's texts: isWord, takesWord ===== -/
abbrev wdP (T : Nat → Int32) (L n : Nat) (v : Int64) : Prop := n < ltN T L n ∧ ltN T L n - n < 8 ∧ wdV T n (ltN T L n - n) = v
theorem c_X12_isWord (w : Wd) (l : Launch) (S : St) (hm : gx_m S) (L : Nat) (ht : gx_t S L) (n : Nat) (hn : n ≤ 400) (v : Int64) : gx_M w l yX12_isWord cX12_isWord 6 (some .boolean) rmX12_isWord [.ref (ad (w_b w) 1000), .long v] (nxS S n) (pI (bI (wdP (s_A S 1001) L (skN (s_A S 1001) L n) v)) (nxS S (skN (s_A S 1001) L n))) := by
  have hmA : ∀ n, gx_m (nxS S n) := fun n => hm
  have htA : ∀ n, gx_t (nxS S n) L := fun n => ht
  have ht2 := ht.2
  refine gx_start rfl 3 rfl (Nat.le_of_ble_eq_true rfl) ?_
  intro X C _ hl
  subst hl
  refine gx_L (L' := [_, _, _, _, _, _]) rfl ?_
  refine g_aload_n (pc := 0) C dX12_isWord_0 rfl ?_
  refine cf_X12_105 (pc := 1) C rfl (m_z (hmA _) rfl) (c_X12_see _ _ S hm L ht n (by omega)) ⟨rfl, rfl⟩ ⟨rfl, rfl⟩ ⟨Nat.zero_le _, Nat.zero_le _⟩ rfl (Nat.le_of_ble_eq_true rfl) dX12_isWord_1 ?_
  refine g_pop (pc := 4) C dX12_isWord_4 rfl ?_
  refine g_lconst (pc := 5) (v := 0) C dX12_isWord_5 (by decide) ?_
  refine g_lstore_n (pc := 6) (L' := [_, _, none, _, _, _]) C dX12_isWord_6 rfl rfl ?_
  refine g_iconst (pc := 7) (v := nI 0) C dX12_isWord_7 (by decide) ?_
  refine g_istore (pc := 8) (L' := [_, _, _, _, none, _]) C dX12_isWord_8 rfl rfl ?_
  have hsk := skF_le (T := s_A S 1001) (L := L) (L - n) n
  have hm2 : skN (s_A S 1001) L n ≤ 800 := by unfold skN; omega
  generalize skN (s_A S 1001) L n = m at hm2 ⊢
  have loop : ∀ d k, L - (m + k) = d → k ≤ 400 → ltN (s_A S 1001) L m = ltF (s_A S 1001) L d (m + k) → gx_G w X (nxS S m) 0 0 10 [some (.ref (ad (w_b w) 1000)), some (.long v), none, some (.long (wdV (s_A S 1001) m k)), none, some (.int (nI k))] [] (gx_E w X (pI (bI (wdP (s_A S 1001) L m v)) (nxS S m))) := by
    intro d
    have fin : ∀ k, k ≤ 400 → ltN (s_A S 1001) L m = m + k → gx_G w X (nxS S m) 0 0 56 [some (.ref (ad (w_b w) 1000)), some (.long v), none, some (.long (wdV (s_A S 1001) m k)), none, some (.int (nI k))] [] (gx_E w X (pI (bI (wdP (s_A S 1001) L m v)) (nxS S m))) := by
      intro k hk e
      have e2 : ltN (s_A S 1001) L m - m = k := by omega
      refine g_iload (pc := 56) C dX12_isWord_56 rfl ?_
      refine g_if_le (pc := 58) C 78 dX12_isWord_58 rfl (fun h => ?_) (fun h => ?_)
      · have h : k ≤ 0 := (nI_leI (a := k) (b := 0) (by omega) (by omega)).mp h
        refine g_iconst (pc := 78) (v := nI 0) C dX12_isWord_78 (by decide) ?_
        exact g_zreturn (pc := 79) C ⟨rfl, rfl⟩ (by first | exact Or.inl rfl | exact Or.inr rfl) dX12_isWord_79 (pI_f (fun q => absurd q.1 (by omega)))
      · have h : 0 < k := Nat.lt_of_not_le (fun q => h (nI_le (a := k) (b := 0) q (by omega)))
        refine g_iload (pc := 61) C dX12_isWord_61 rfl ?_
        refine g_bipush (pc := 63) (v := nI 8) C dX12_isWord_63 (by decide) ?_
        refine g_icmp_ge (pc := 65) C 78 dX12_isWord_65 rfl (fun h2 => ?_) (fun h2 => ?_)
        · have h2 : 8 ≤ k := (nI_leI (by omega) (by omega)).mp h2
          refine g_iconst (pc := 78) (v := nI 0) C dX12_isWord_78 (by decide) ?_
          exact g_zreturn (pc := 79) C ⟨rfl, rfl⟩ (by first | exact Or.inl rfl | exact Or.inr rfl) dX12_isWord_79 (pI_f (fun q => absurd q.2.1 (by omega)))
        · have h2 : k < 8 := Nat.lt_of_not_le (fun q => h2 (nI_le q (by omega)))
          refine g_lload_n (pc := 68) C dX12_isWord_68 rfl ?_
          refine g_lload_n (pc := 69) C dX12_isWord_69 rfl ?_
          refine g_lcmp (pc := 70) C dX12_isWord_70 ?_
          refine g_if_ne (pc := 71) C 78 dX12_isWord_71 rfl (fun h3 => ?_) (fun h3 => ?_)
          · refine g_iconst (pc := 78) (v := nI 0) C dX12_isWord_78 (by decide) ?_
            exact g_zreturn (pc := 79) C ⟨rfl, rfl⟩ (by first | exact Or.inl rfl | exact Or.inr rfl) dX12_isWord_79 (pI_f (fun q => h3 (lg_0.mpr (by rw [← q.2.2, e2]))))
          · have h3 := lg_0.mp (Decidable.not_not.mp h3)
            refine g_iconst (pc := 74) (v := nI 1) C dX12_isWord_74 (by decide) ?_
            refine g_goto (pc := 75) C 79 dX12_isWord_75 rfl ?_
            exact g_zreturn (pc := 79) C ⟨rfl, rfl⟩ (by first | exact Or.inl rfl | exact Or.inr rfl) dX12_isWord_79 (pI_t ⟨by omega, by omega, by rw [e2]; exact h3⟩)
    induction d with
    | zero =>
      intro k hd hk e
      have e : ltN (s_A S 1001) L m = m + k := e
      refine g_aload_n (pc := 10) C dX12_isWord_10 rfl ?_
      refine g_aload_n (pc := 11) C dX12_isWord_11 rfl ?_
      refine mg_102 (pc := 12) C (hmA _) dX12_isWord_12 ?_
      refine gx_ti (y := nI m) rfl ?_
      refine g_iload (pc := 15) C dX12_isWord_15 rfl ?_
      refine g_iadd (pc := 17) C dX12_isWord_17 ?_
      refine gx_ti (nI_add m k) ?_
      refine cf_X12_109 (pc := 18) C rfl (m_z (hmA _) rfl) (c_X12_isLetter _ _ _ (hmA _) L (htA _) (m + k) (by omega)) ⟨rfl, rfl⟩ ⟨rfl, rfl⟩ ⟨Nat.zero_le _, Nat.zero_le _⟩ rfl (Nat.le_of_ble_eq_true rfl) dX12_isWord_18 ?_
      refine g_if_eq (pc := 21) C 56 dX12_isWord_21 rfl (fun h => ?_) (fun h => ?_)
      · exact fin k hk e
      · exact absurd (bI_f (fun q => absurd q.1 (by omega))) h
    | succ d ih =>
      intro k hd hk e
      refine g_aload_n (pc := 10) C dX12_isWord_10 rfl ?_
      refine g_aload_n (pc := 11) C dX12_isWord_11 rfl ?_
      refine mg_102 (pc := 12) C (hmA _) dX12_isWord_12 ?_
      refine gx_ti (y := nI m) rfl ?_
      refine g_iload (pc := 15) C dX12_isWord_15 rfl ?_
      refine g_iadd (pc := 17) C dX12_isWord_17 ?_
      refine gx_ti (nI_add m k) ?_
      refine cf_X12_109 (pc := 18) C rfl (m_z (hmA _) rfl) (c_X12_isLetter _ _ _ (hmA _) L (htA _) (m + k) (by omega)) ⟨rfl, rfl⟩ ⟨rfl, rfl⟩ ⟨Nat.zero_le _, Nat.zero_le _⟩ rfl (Nat.le_of_ble_eq_true rfl) dX12_isWord_18 ?_
      refine gx_ti (y := bI (chP 97 122 (s_A S 1001) L (m + k))) rfl ?_
      refine g_if_eq (pc := 21) C 56 dX12_isWord_21 rfl (fun h => ?_) (fun h => ?_)
      · have h := bI_0.mp h
        exact fin k hk (e.trans (if_neg h))
      · have h := Decidable.not_not.mp (fun q => h (bI_0.mpr q))
        have e2 : ltN (s_A S 1001) L m = ltF (s_A S 1001) L d (m + (k + 1)) := e.trans (if_pos h)
        have next := ih (k + 1) (by omega) (by omega) e2
        refine g_iload (pc := 24) C dX12_isWord_24 rfl ?_
        refine g_bipush (pc := 26) (v := nI 8) C dX12_isWord_26 (by decide) ?_
        refine g_icmp_ge (pc := 28) C 50 dX12_isWord_28 rfl (fun h2 => ?_) (fun h2 => ?_)
        · have h2 : 8 ≤ k := (nI_leI (by omega) (by omega)).mp h2
          rw [show wdV (s_A S 1001) m (k + 1) = wdV (s_A S 1001) m k from if_neg (by omega)] at next
          refine g_iinc (pc := 50) (L' := [_, _, _, _, none, _]) C dX12_isWord_50 rfl (nI_1 _) rfl ?_
          refine g_goto (pc := 53) C 10 dX12_isWord_53 rfl ?_
          exact next
        · have h2 : k < 8 := Nat.lt_of_not_le (fun q => h2 (nI_le q (by omega)))
          rw [show wdV (s_A S 1001) m (k + 1) = wdV (s_A S 1001) m k <<< ((nI 8).toInt64 &&& 63) ||| (s_A S 1001 (m + k)).toInt64 from if_pos h2] at next
          refine g_lload_n (pc := 31) C dX12_isWord_31 rfl ?_
          refine g_bipush (pc := 32) (v := nI 8) C dX12_isWord_32 (by decide) ?_
          refine g_lshl (pc := 34) C dX12_isWord_34 ?_
          refine g_aload_n (pc := 35) C dX12_isWord_35 rfl ?_
          refine mg_7 (pc := 36) C (hmA _) dX12_isWord_36 ?_
          refine g_aload_n (pc := 39) C dX12_isWord_39 rfl ?_
          refine mg_102 (pc := 40) C (hmA _) dX12_isWord_40 ?_
          refine gx_ti (y := nI m) rfl ?_
          refine g_iload (pc := 43) C dX12_isWord_43 rfl ?_
          refine g_iadd (pc := 45) C dX12_isWord_45 ?_
          refine n_bald (pc := 46) (k := 1001) (n := 400) C rfl rfl (m_z (hmA _) rfl) (isn_add isn_v isn_v) rfl (by omega) dX12_isWord_46 ?_
          refine gx_ti (y := s_A S 1001 (m + k)) rfl ?_
          refine g_i2l (pc := 47) C dX12_isWord_47 ?_
          refine g_lor (pc := 48) C dX12_isWord_48 ?_
          refine g_lstore_n (pc := 49) (L' := [_, _, none, _, _, _]) C dX12_isWord_49 rfl rfl ?_
          refine g_iinc (pc := 50) (L' := [_, _, _, _, none, _]) C dX12_isWord_50 rfl (nI_1 _) rfl ?_
          refine g_goto (pc := 53) C 10 dX12_isWord_53 rfl ?_
          exact next
  exact loop (L - m) 0 rfl (by omega) rfl
theorem c_X12_takesWord (w : Wd) (l : Launch) (S : St) (hm : gx_m S) (L : Nat) (ht : gx_t S L) (n : Nat) (hn : n ≤ 400) (v : Int64) : gx_M w l yX12_takesWord cX12_takesWord 3 (some .boolean) rmX12_takesWord [.ref (ad (w_b w) 1000), .long v] (nxS S n) (pI (bI (wdP (s_A S 1001) L (skN (s_A S 1001) L n) v)) (nxS S (if wdP (s_A S 1001) L (skN (s_A S 1001) L n) v then ltN (s_A S 1001) L (skN (s_A S 1001) L n) else skN (s_A S 1001) L n))) := by
  have hmA : ∀ n, gx_m (nxS S n) := fun n => hm
  have ht2 := ht.2
  have hsk := skF_le (T := s_A S 1001) (L := L) (L - n) n
  have hm2 : skN (s_A S 1001) L n ≤ 800 := by unfold skN; omega
  refine gx_start rfl 0 rfl (Nat.le_of_ble_eq_true rfl) ?_
  intro X C _ hl
  subst hl
  refine gx_L (L' := [_, _, _]) rfl ?_
  refine g_aload_n (pc := 0) C dX12_takesWord_0 rfl ?_
  refine g_lload_n (pc := 1) C dX12_takesWord_1 rfl ?_
  refine cf_X12_113 (pc := 2) C rfl (m_z (hmA _) rfl) (c_X12_isWord _ _ S hm L ht n hn v) ⟨rfl, rfl⟩ ⟨rfl, rfl⟩ ⟨Nat.zero_le _, Nat.zero_le _⟩ rfl (Nat.le_of_ble_eq_true rfl) dX12_takesWord_2 ?_
  generalize skN (s_A S 1001) L n = m at hm2 ⊢
  refine g_if_ne (pc := 5) C 10 dX12_takesWord_5 rfl (fun h => ?_) (fun h => ?_)
  · have h := Decidable.not_not.mp (fun q => h (bI_0.mpr q))
    rw [if_pos h]
    refine g_aload_n (pc := 10) C dX12_takesWord_10 rfl ?_
    refine cf_X12_117 (pc := 11) C rfl (m_z (hmA _) rfl) (c_X12_passWord _ _ S hm L ht m (by omega)) ⟨rfl, rfl⟩ ⟨rfl, rfl⟩ ⟨Nat.zero_le _, Nat.zero_le _⟩ rfl (Nat.le_of_ble_eq_true rfl) dX12_takesWord_11 ?_
    refine g_iconst (pc := 14) (v := nI 1) C dX12_takesWord_14 (by decide) ?_
    exact g_zreturn (pc := 15) C ⟨rfl, rfl⟩ (by first | exact Or.inl rfl | exact Or.inr rfl) dX12_takesWord_15 (pI_t h)
  · have h := bI_0.mp (Decidable.not_not.mp h)
    rw [if_neg h]
    refine g_iconst (pc := 8) (v := nI 0) C dX12_takesWord_8 (by decide) ?_
    exact g_zreturn (pc := 9) C ⟨rfl, rfl⟩ (by first | exact Or.inl rfl | exact Or.inr rfl) dX12_takesWord_9 (pI_f h)
