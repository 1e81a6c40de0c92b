/-! ===== the reference's texts: fails, see, isDigit, isLetter, passWord ===== -/
def nxS (S : St) (n : Nat) : St := s_setI S 1108 1000 (nI n)
theorem nx_nx (S : St) (n m : Nat) : nxS (nxS S n) m = nxS S m := s_II S 1108 1000 _ _
theorem nx_id (S : St) (n : Nat) (h : s_I S 1108 1000 = nI n) : nxS S n = S := by
  unfold nxS; rw [← h]; exact s_I_id S 1108 1000
def gx_t (S : St) (L : Nat) : Prop := s_I S 1101 1000 = nI L ∧ L ≤ 400
def skF (T : Nat → Int32) (L : Nat) : Nat → Nat → Nat
  | 0, n => n
  | d + 1, n => if n < L ∧ T n = nI 32 then skF T L d (n + 1) else n
abbrev skN (T : Nat → Int32) (L n : Nat) : Nat := skF T L (L - n) n
def seeV (T : Nat → Int32) (L n : Nat) : Int32 := if n < L then T n &&& nI 255 else -1
abbrev chP (lo hi : Nat) (T : Nat → Int32) (L n : Nat) : Prop := n < L ∧ nI lo ≤ T n ∧ T n ≤ nI hi
def ltF (T : Nat → Int32) (L : Nat) : Nat → Nat → Nat
  | 0, n => n
  | d + 1, n => if chP 97 122 T L n then ltF T L d (n + 1) else n
abbrev ltN (T : Nat → Int32) (L n : Nat) : Nat := ltF T L (L - n) n
def wdV (T : Nat → Int32) (n : Nat) : Nat → Int64
  | 0 => 0
  | k + 1 => if k < 8 then wdV T n k <<< ((nI 8).toInt64 &&& 63) ||| (T (n + k)).toInt64 else wdV T n k
theorem skF_le {T : Nat → Int32} {L : Nat} : ∀ d n, n ≤ skF T L d n ∧ skF T L d n ≤ n + d
  | 0, n => ⟨Nat.le_refl n, Nat.le_refl n⟩
  | d + 1, n => by
    have := skF_le (T := T) (L := L) d (n + 1)
    simp only [skF]
    split <;> omega
theorem ltF_le {T : Nat → Int32} {L : Nat} : ∀ d n, n ≤ ltF T L d n ∧ ltF T L d n ≤ n + d
  | 0, n => ⟨Nat.le_refl n, Nat.le_refl n⟩
  | d + 1, n => by
    have := ltF_le (T := T) (L := L) d (n + 1)
    simp only [ltF]
    split <;> omega
theorem c_X12_fails (w : Wd) (l : Launch) (S : St) (hm : gx_m S) (kind at_ : Int32) : gx_M w l yX12_fails cX12_fails 3 (some .boolean) rmX12_fails [.ref (ad (w_b w) 1000), .int kind, .int at_] S (pI (nI 0) (if s_I S 1109 1000 = 0 then s_setI S 1109 1000 (nI 1 + nI 8 * at_ + kind) else S)) := by
  refine gx_start rfl 0 rfl (Nat.le_of_ble_eq_true rfl) ?_
  intro X C _ hl
  subst hl
  refine gx_L (L' := [_, _, _]) rfl ?_
  refine g_aload_n (pc := 0) C dX12_fails_0 rfl ?_
  refine mg_99 (pc := 1) C (by exact hm) dX12_fails_1 ?_
  refine g_if_ne (pc := 4) C 19 dX12_fails_4 rfl (fun h => ?_) (fun h => ?_)
  · rw [if_neg h]
    refine g_iconst (pc := 19) (v := nI 0) C dX12_fails_19 (by decide) ?_
    exact g_zreturn (pc := 20) C ⟨rfl, rfl⟩ (by first | exact Or.inl rfl | exact Or.inr rfl) dX12_fails_20 (⟨rfl, rfl⟩)
  · have h := Decidable.not_not.mp h
    rw [if_pos h]
    refine g_aload_n (pc := 7) C dX12_fails_7 rfl ?_
    refine g_iconst (pc := 8) (v := nI 1) C dX12_fails_8 (by decide) ?_
    refine g_bipush (pc := 9) (v := nI 8) C dX12_fails_9 (by decide) ?_
    refine g_iload_n (pc := 11) C dX12_fails_11 rfl ?_
    refine g_imul (pc := 12) C dX12_fails_12 ?_
    refine g_iadd (pc := 13) C dX12_fails_13 ?_
    refine g_iload_n (pc := 14) C dX12_fails_14 rfl ?_
    refine g_iadd (pc := 15) C dX12_fails_15 ?_
    refine mp_99 (pc := 16) C (by exact hm) dX12_fails_16 ?_
    refine g_iconst (pc := 19) (v := nI 0) C dX12_fails_19 (by decide) ?_
    exact g_zreturn (pc := 20) C ⟨rfl, rfl⟩ (by first | exact Or.inl rfl | exact Or.inr rfl) dX12_fails_20 (⟨rfl, rfl⟩)
theorem c_X12_see (w : Wd) (l : Launch) (S : St) (hm : gx_m S) (L : Nat) (ht : gx_t S L) (n : Nat) (hn : n ≤ 1000) : gx_M w l yX12_see cX12_see 1 (some .int) rmX12_see [.ref (ad (w_b w) 1000)] (nxS S n) (pI (seeV (s_A S 1001) L (skN (s_A S 1001) L n)) (nxS S (skN (s_A S 1001) L n))) := by
  obtain ⟨hL, hL4⟩ := ht
  have hmA : ∀ n, gx_m (nxS S n) := fun n => hm
  refine gx_start rfl 0 rfl (Nat.le_of_ble_eq_true rfl) ?_
  intro X C _ hl
  subst hl
  refine gx_L (L' := [_]) rfl ?_
  have fin : ∀ n, n ≤ 2000 → gx_G w X (nxS S n) 0 0 38 [some (.ref (ad (w_b w) 1000))] [] (gx_E w X (pI (seeV (s_A S 1001) L n) (nxS S n))) := by
    intro n hn
    refine g_aload_n (pc := 38) C dX12_see_38 rfl ?_
    refine mg_102 (pc := 39) C (hmA _) dX12_see_39 ?_
    refine gx_ti (y := nI n) rfl ?_
    refine g_aload_n (pc := 42) C dX12_see_42 rfl ?_
    refine mg_92 (pc := 43) C (hmA _) dX12_see_43 ?_
    refine gx_ti (y := nI L) hL ?_
    refine g_icmp_ge (pc := 46) C 65 dX12_see_46 rfl (fun h => ?_) (fun h => ?_)
    · have h : L ≤ n := (nI_leI (by omega) (by omega)).mp h
      unfold seeV
      rw [if_neg (by omega)]
      refine g_iconst (pc := 65) (v := -1) C dX12_see_65 (by decide) ?_
      exact g_ireturn (pc := 66) C ⟨rfl, rfl⟩ dX12_see_66 (⟨rfl, rfl⟩)
    · have h : n < L := Nat.lt_of_not_le (fun q => h (nI_le q (by omega)))
      unfold seeV
      rw [if_pos h]
      refine g_aload_n (pc := 49) C dX12_see_49 rfl ?_
      refine mg_7 (pc := 50) C (hmA _) dX12_see_50 ?_
      refine g_aload_n (pc := 53) C dX12_see_53 rfl ?_
      refine mg_102 (pc := 54) C (hmA _) dX12_see_54 ?_
      refine gx_ti (y := nI n) rfl ?_
      refine n_bald (pc := 57) (k := 1001) (n := 400) C rfl rfl (m_z (hmA _) rfl) isn_v rfl (by omega) dX12_see_57 ?_
      refine g_sipush (pc := 58) (v := nI 255) C dX12_see_58 (by decide) ?_
      refine g_iand (pc := 61) C dX12_see_61 ?_
      refine g_goto (pc := 62) C 66 dX12_see_62 rfl ?_
      exact g_ireturn (pc := 66) C ⟨rfl, rfl⟩ dX12_see_66 (⟨rfl, rfl⟩)
  have loop : ∀ d n, L - n = d → n ≤ 1000 → gx_G w X (nxS S n) 0 0 0 [some (.ref (ad (w_b w) 1000))] [] (gx_E w X (pI (seeV (s_A S 1001) L (skF (s_A S 1001) L d n)) (nxS S (skF (s_A S 1001) L d n)))) := by
    intro d
    induction d with
    | zero =>
      intro n hd hn
      refine g_aload_n (pc := 0) C dX12_see_0 rfl ?_
      refine mg_102 (pc := 1) C (hmA _) dX12_see_1 ?_
      refine gx_ti (y := nI n) rfl ?_
      refine g_aload_n (pc := 4) C dX12_see_4 rfl ?_
      refine mg_92 (pc := 5) C (hmA _) dX12_see_5 ?_
      refine gx_ti (y := nI L) hL ?_
      refine g_icmp_ge (pc := 8) C 38 dX12_see_8 rfl (fun h => ?_) (fun h => ?_)
      · exact fin n (by omega)
      · exact absurd (nI_le (by omega) (by omega)) h
    | succ d ih =>
      intro n hd hn
      have stop : ¬ s_A S 1001 n = nI 32 → gx_G w X (nxS S n) 0 0 38 [some (.ref (ad (w_b w) 1000))] [] (gx_E w X (pI (seeV (s_A S 1001) L (skF (s_A S 1001) L (d + 1) n)) (nxS S (skF (s_A S 1001) L (d + 1) n)))) := by
        intro hno
        rw [show skF (s_A S 1001) L (d + 1) n = n from if_neg (fun q => hno q.2)]
        exact fin n (by omega)
      refine g_aload_n (pc := 0) C dX12_see_0 rfl ?_
      refine mg_102 (pc := 1) C (hmA _) dX12_see_1 ?_
      refine gx_ti (y := nI n) rfl ?_
      refine g_aload_n (pc := 4) C dX12_see_4 rfl ?_
      refine mg_92 (pc := 5) C (hmA _) dX12_see_5 ?_
      refine gx_ti (y := nI L) hL ?_
      refine g_icmp_ge (pc := 8) C 38 dX12_see_8 rfl (fun h => ?_) (fun h => ?_)
      · exact absurd h (nI_ge (by omega) (by omega))
      · refine g_aload_n (pc := 11) C dX12_see_11 rfl ?_
        refine mg_7 (pc := 12) C (hmA _) dX12_see_12 ?_
        refine g_aload_n (pc := 15) C dX12_see_15 rfl ?_
        refine mg_102 (pc := 16) C (hmA _) dX12_see_16 ?_
        refine gx_ti (y := nI n) rfl ?_
        refine n_bald (pc := 19) (k := 1001) (n := 400) C rfl rfl (m_z (hmA _) rfl) isn_v rfl (by omega) dX12_see_19 ?_
        refine gx_ti (y := s_A S 1001 n) rfl ?_
        refine g_bipush (pc := 20) (v := nI 32) C dX12_see_20 (by decide) ?_
        refine g_icmp_ne (pc := 22) C 38 dX12_see_22 rfl (fun h2 => ?_) (fun h2 => ?_)
        · exact stop h2
        · have h2 := Decidable.not_not.mp h2
          rw [show skF (s_A S 1001) L (d + 1) n = skF (s_A S 1001) L d (n + 1) from if_pos ⟨by omega, h2⟩]
          refine g_aload_n (pc := 25) C dX12_see_25 rfl ?_
          refine g_dup (pc := 26) C dX12_see_26 rfl ?_
          refine mg_102 (pc := 27) C (hmA _) dX12_see_27 ?_
          refine g_iconst (pc := 30) (v := nI 1) C dX12_see_30 (by decide) ?_
          refine g_iadd (pc := 31) C dX12_see_31 ?_
          refine gx_ti (nI_add n 1) ?_
          refine mp_102 (pc := 32) C (hmA _) dX12_see_32 ?_
          refine gx_S (nx_nx S n (n + 1)) ?_
          refine g_goto (pc := 35) C 0 dX12_see_35 rfl ?_
          exact ih (n + 1) (by omega) (by omega)
  exact loop (L - n) n rfl hn
theorem c_X12_isDigit (w : Wd) (l : Launch) (S : St) (hm : gx_m S) (L : Nat) (ht : gx_t S L) (n : Nat) (hn : n ≤ 2000) : gx_M w l yX12_isDigit cX12_isDigit 2 (some .boolean) rmX12_isDigit [.ref (ad (w_b w) 1000), .int (nI n)] S (pI (bI (chP 48 57 (s_A S 1001) L n)) S) := by
  obtain ⟨hL, hL4⟩ := ht
  refine gx_start rfl 0 rfl (Nat.le_of_ble_eq_true rfl) ?_
  intro X C _ hl
  subst hl
  refine gx_L (L' := [_, _]) rfl ?_
  refine g_iload_n (pc := 0) C dX12_isDigit_0 rfl ?_
  refine g_aload_n (pc := 1) C dX12_isDigit_1 rfl ?_
  refine mg_92 (pc := 2) C (by exact hm) dX12_isDigit_2 ?_
  refine gx_ti hL ?_
  refine g_icmp_ge (pc := 5) C 34 dX12_isDigit_5 rfl (fun h => ?_) (fun h => ?_)
  · have h : L ≤ n := (nI_leI (by omega) (by omega)).mp h
    refine g_iconst (pc := 34) (v := nI 0) C dX12_isDigit_34 (by decide) ?_
    exact g_zreturn (pc := 35) C ⟨rfl, rfl⟩ (by first | exact Or.inl rfl | exact Or.inr rfl) dX12_isDigit_35 (pI_f (fun q => absurd q.1 (by omega)))
  · have h : n < L := Nat.lt_of_not_le (fun q => h (nI_le q (by omega)))
    refine g_aload_n (pc := 8) C dX12_isDigit_8 rfl ?_
    refine mg_7 (pc := 9) C (by exact hm) dX12_isDigit_9 ?_
    refine g_iload_n (pc := 12) C dX12_isDigit_12 rfl ?_
    refine n_bald (pc := 13) (k := 1001) (n := 400) C rfl rfl (by exact m_z hm rfl) isn_v rfl (by omega) dX12_isDigit_13 ?_
    refine g_bipush (pc := 14) (v := nI 48) C dX12_isDigit_14 (by decide) ?_
    refine g_icmp_lt (pc := 16) C 34 dX12_isDigit_16 rfl (fun h16 => ?_) (fun h16 => ?_)
    · refine g_iconst (pc := 34) (v := nI 0) C dX12_isDigit_34 (by decide) ?_
      exact g_zreturn (pc := 35) C ⟨rfl, rfl⟩ (by first | exact Or.inl rfl | exact Or.inr rfl) dX12_isDigit_35 (by first | exact pI_t ⟨h, Int32.not_lt.mp h16, Int32.not_lt.mp h27⟩ | exact pI_f (fun q => absurd h16 (Int32.not_lt.mpr q.2.1)) | exact pI_f (fun q => absurd h27 (Int32.not_lt.mpr q.2.2)))
    · refine g_aload_n (pc := 19) C dX12_isDigit_19 rfl ?_
      refine mg_7 (pc := 20) C (by exact hm) dX12_isDigit_20 ?_
      refine g_iload_n (pc := 23) C dX12_isDigit_23 rfl ?_
      refine n_bald (pc := 24) (k := 1001) (n := 400) C rfl rfl (by exact m_z hm rfl) isn_v rfl (by omega) dX12_isDigit_24 ?_
      refine g_bipush (pc := 25) (v := nI 57) C dX12_isDigit_25 (by decide) ?_
      refine g_icmp_gt (pc := 27) C 34 dX12_isDigit_27 rfl (fun h27 => ?_) (fun h27 => ?_)
      · refine g_iconst (pc := 34) (v := nI 0) C dX12_isDigit_34 (by decide) ?_
        exact g_zreturn (pc := 35) C ⟨rfl, rfl⟩ (by first | exact Or.inl rfl | exact Or.inr rfl) dX12_isDigit_35 (by first | exact pI_t ⟨h, Int32.not_lt.mp h16, Int32.not_lt.mp h27⟩ | exact pI_f (fun q => absurd h16 (Int32.not_lt.mpr q.2.1)) | exact pI_f (fun q => absurd h27 (Int32.not_lt.mpr q.2.2)))
      · refine g_iconst (pc := 30) (v := nI 1) C dX12_isDigit_30 (by decide) ?_
        refine g_goto (pc := 31) C 35 dX12_isDigit_31 rfl ?_
        exact g_zreturn (pc := 35) C ⟨rfl, rfl⟩ (by first | exact Or.inl rfl | exact Or.inr rfl) dX12_isDigit_35 (by first | exact pI_t ⟨h, Int32.not_lt.mp h16, Int32.not_lt.mp h27⟩ | exact pI_f (fun q => absurd h16 (Int32.not_lt.mpr q.2.1)) | exact pI_f (fun q => absurd h27 (Int32.not_lt.mpr q.2.2)))
theorem c_X12_isLetter (w : Wd) (l : Launch) (S : St) (hm : gx_m S) (L : Nat) (ht : gx_t S L) (n : Nat) (hn : n ≤ 2000) : gx_M w l yX12_isLetter cX12_isLetter 2 (some .boolean) rmX12_isLetter [.ref (ad (w_b w) 1000), .int (nI n)] S (pI (bI (chP 97 122 (s_A S 1001) L n)) S) := by
  obtain ⟨hL, hL4⟩ := ht
  refine gx_start rfl 0 rfl (Nat.le_of_ble_eq_true rfl) ?_
  intro X C _ hl
  subst hl
  refine gx_L (L' := [_, _]) rfl ?_
  refine g_iload_n (pc := 0) C dX12_isLetter_0 rfl ?_
  refine g_aload_n (pc := 1) C dX12_isLetter_1 rfl ?_
  refine mg_92 (pc := 2) C (by exact hm) dX12_isLetter_2 ?_
  refine gx_ti hL ?_
  refine g_icmp_ge (pc := 5) C 34 dX12_isLetter_5 rfl (fun h => ?_) (fun h => ?_)
  · have h : L ≤ n := (nI_leI (by omega) (by omega)).mp h
    refine g_iconst (pc := 34) (v := nI 0) C dX12_isLetter_34 (by decide) ?_
    exact g_zreturn (pc := 35) C ⟨rfl, rfl⟩ (by first | exact Or.inl rfl | exact Or.inr rfl) dX12_isLetter_35 (pI_f (fun q => absurd q.1 (by omega)))
  · have h : n < L := Nat.lt_of_not_le (fun q => h (nI_le q (by omega)))
    refine g_aload_n (pc := 8) C dX12_isLetter_8 rfl ?_
    refine mg_7 (pc := 9) C (by exact hm) dX12_isLetter_9 ?_
    refine g_iload_n (pc := 12) C dX12_isLetter_12 rfl ?_
    refine n_bald (pc := 13) (k := 1001) (n := 400) C rfl rfl (by exact m_z hm rfl) isn_v rfl (by omega) dX12_isLetter_13 ?_
    refine g_bipush (pc := 14) (v := nI 97) C dX12_isLetter_14 (by decide) ?_
    refine g_icmp_lt (pc := 16) C 34 dX12_isLetter_16 rfl (fun h16 => ?_) (fun h16 => ?_)
    · refine g_iconst (pc := 34) (v := nI 0) C dX12_isLetter_34 (by decide) ?_
      exact g_zreturn (pc := 35) C ⟨rfl, rfl⟩ (by first | exact Or.inl rfl | exact Or.inr rfl) dX12_isLetter_35 (by first | exact pI_t ⟨h, Int32.not_lt.mp h16, Int32.not_lt.mp h27⟩ | exact pI_f (fun q => absurd h16 (Int32.not_lt.mpr q.2.1)) | exact pI_f (fun q => absurd h27 (Int32.not_lt.mpr q.2.2)))
    · refine g_aload_n (pc := 19) C dX12_isLetter_19 rfl ?_
      refine mg_7 (pc := 20) C (by exact hm) dX12_isLetter_20 ?_
      refine g_iload_n (pc := 23) C dX12_isLetter_23 rfl ?_
      refine n_bald (pc := 24) (k := 1001) (n := 400) C rfl rfl (by exact m_z hm rfl) isn_v rfl (by omega) dX12_isLetter_24 ?_
      refine g_bipush (pc := 25) (v := nI 122) C dX12_isLetter_25 (by decide) ?_
      refine g_icmp_gt (pc := 27) C 34 dX12_isLetter_27 rfl (fun h27 => ?_) (fun h27 => ?_)
      · refine g_iconst (pc := 34) (v := nI 0) C dX12_isLetter_34 (by decide) ?_
        exact g_zreturn (pc := 35) C ⟨rfl, rfl⟩ (by first | exact Or.inl rfl | exact Or.inr rfl) dX12_isLetter_35 (by first | exact pI_t ⟨h, Int32.not_lt.mp h16, Int32.not_lt.mp h27⟩ | exact pI_f (fun q => absurd h16 (Int32.not_lt.mpr q.2.1)) | exact pI_f (fun q => absurd h27 (Int32.not_lt.mpr q.2.2)))
      · refine g_iconst (pc := 30) (v := nI 1) C dX12_isLetter_30 (by decide) ?_
        refine g_goto (pc := 31) C 35 dX12_isLetter_31 rfl ?_
        exact g_zreturn (pc := 35) C ⟨rfl, rfl⟩ (by first | exact Or.inl rfl | exact Or.inr rfl) dX12_isLetter_35 (by first | exact pI_t ⟨h, Int32.not_lt.mp h16, Int32.not_lt.mp h27⟩ | exact pI_f (fun q => absurd h16 (Int32.not_lt.mpr q.2.1)) | exact pI_f (fun q => absurd h27 (Int32.not_lt.mpr q.2.2)))
theorem c_X12_passWord (w : Wd) (l : Launch) (S : St) (hm : gx_m S) (L : Nat) (ht : gx_t S L) (n : Nat) (hn : n ≤ 1000) : gx_M w l yX12_passWord cX12_passWord 1 none rmX12_passWord [.ref (ad (w_b w) 1000)] (nxS S n) (pV (nxS S (ltN (s_A S 1001) L n))) := by
  have hmA : ∀ n, gx_m (nxS S n) := fun n => hm
  have htA : ∀ n, gx_t (nxS S n) L := fun n => ht
  refine gx_start rfl 0 rfl (Nat.le_of_ble_eq_true rfl) ?_
  intro X C _ hl
  subst hl
  refine gx_L (L' := [_]) rfl ?_
  have loop : ∀ d n, L - n = d → n ≤ 1000 → gx_G w X (nxS S n) 0 0 0 [some (.ref (ad (w_b w) 1000))] [] (gx_E w X (pV (nxS S (ltF (s_A S 1001) L d n)))) := by
    intro d
    induction d with
    | zero =>
      intro n hd hn
      refine g_aload_n (pc := 0) C dX12_passWord_0 rfl ?_
      refine g_aload_n (pc := 1) C dX12_passWord_1 rfl ?_
      refine mg_102 (pc := 2) C (hmA _) dX12_passWord_2 ?_
      refine gx_ti (y := nI n) rfl ?_
      refine cf_X12_109 (pc := 5) C rfl (m_z (hmA _) rfl) (c_X12_isLetter _ _ _ (hmA _) L (htA _) n (by omega)) ⟨rfl, rfl⟩ ⟨rfl, rfl⟩ ⟨Nat.zero_le _, Nat.zero_le _⟩ rfl (Nat.le_of_ble_eq_true rfl) dX12_passWord_5 ?_
      refine g_if_eq (pc := 8) C 24 dX12_passWord_8 rfl (fun h => ?_) (fun h => ?_)
      · exact g_return (pc := 24) C ⟨rfl, rfl⟩ dX12_passWord_24 ⟨rfl, rfl⟩
      · exact absurd (bI_f (fun q => absurd q.1 (by omega))) h
    | succ d ih =>
      intro n hd hn
      refine g_aload_n (pc := 0) C dX12_passWord_0 rfl ?_
      refine g_aload_n (pc := 1) C dX12_passWord_1 rfl ?_
      refine mg_102 (pc := 2) C (hmA _) dX12_passWord_2 ?_
      refine gx_ti (y := nI n) rfl ?_
      refine cf_X12_109 (pc := 5) C rfl (m_z (hmA _) rfl) (c_X12_isLetter _ _ _ (hmA _) L (htA _) n (by omega)) ⟨rfl, rfl⟩ ⟨rfl, rfl⟩ ⟨Nat.zero_le _, Nat.zero_le _⟩ rfl (Nat.le_of_ble_eq_true rfl) dX12_passWord_5 ?_
      refine gx_ti (y := bI (chP 97 122 (s_A S 1001) L n)) rfl ?_
      refine g_if_eq (pc := 8) C 24 dX12_passWord_8 rfl (fun h => ?_) (fun h => ?_)
      · have h := bI_0.mp h
        rw [show ltF (s_A S 1001) L (d + 1) n = n from if_neg h]
        exact g_return (pc := 24) C ⟨rfl, rfl⟩ dX12_passWord_24 ⟨rfl, rfl⟩
      · have h := Decidable.not_not.mp (fun q => h (bI_0.mpr q))
        rw [show ltF (s_A S 1001) L (d + 1) n = ltF (s_A S 1001) L d (n + 1) from if_pos h]
        have ht2 := ht.2
        refine g_aload_n (pc := 11) C dX12_passWord_11 rfl ?_
        refine g_dup (pc := 12) C dX12_passWord_12 rfl ?_
        refine mg_102 (pc := 13) C (hmA _) dX12_passWord_13 ?_
        refine g_iconst (pc := 16) (v := nI 1) C dX12_passWord_16 (by decide) ?_
        refine g_iadd (pc := 17) C dX12_passWord_17 ?_
        refine gx_ti (nI_add n 1) ?_
        refine mp_102 (pc := 18) C (hmA _) dX12_passWord_18 ?_
        refine gx_S (nx_nx S n (n + 1)) ?_
        refine g_goto (pc := 21) C 0 dX12_passWord_21 rfl ?_
        exact ih (n + 1) (by omega) (by omega)
  exact loop (L - n) n rfl hn
