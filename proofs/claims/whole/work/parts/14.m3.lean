/-! ===== the reference: fog, weight, who can board ===== -/
abbrev fogF (drawn : Int32) (said : Nat → Int32) (H : Nat) : Prop := ¬ drawn = 0 ∨ (said 10 ≤ nI 60 ∧ said (98 + H) = nI 1)
def weighF (said : Nat → Int32) (P : Nat) (fog : Prop) [Decidable fog] (much : Int32) (s : Nat) (side : Int32) : Int32 :=
  if 0 ≤ (if side = nI 1 then much / nI 2 else much) + ((if fog then said 3 else nI 0) - lightF said s P) then (if side = nI 1 then much / nI 2 else much) + ((if fog then said 3 else nI 0) - lightF said s P) else nI 0
def weightF (said : Nat → Int32) (P : Nat) (fog : Prop) [Decidable fog] (s : Nat) (mid : Prop) [Decidable mid] : Int32 := weighF said P fog (aimsF said s mid P + twosF said s P P) s (said 11)
abbrev canBF (said : Nat → Int32) (P : Nat) (fog : Prop) [Decidable fog] (s : Nat) : Prop := (s ||| onN said (said 11) P = onN said (said 11) P) ∧ nI (popN s) ≤ said 2 ∧ weightF said P fog s False ≤ said 1
abbrev canCF (said : Nat → Int32) (P : Nat) (fog : Prop) [Decidable fog] (s : Nat) : Prop := canBF said P fog s ∧ weightF said P fog s True ≤ said 1
/-- of the reference's state: so many PEOPLE, such an HOUR -/
def gx_p (S : St) (P H : Nat) : Prop := s_A S 1010 4 = nI P ∧ P ≤ 7 ∧ s_A S 1010 10 = nI H ∧ H < 2000
theorem c_X12_isFog (w : Wd) (l : Launch) (S : St) (hm : gx_m S) (P H : Nat) (hp : gx_p S P H) : gx_M w l yX12_isFog cX12_isFog 1 (some .boolean) rmX12_isFog [.ref (ad (w_b w) 1000)] S (pI (bI (fogF (s_I S 1123 1000) (s_A S 1010) H)) S) := by
  obtain ⟨hP, hP7, hH, hH2⟩ := hp
  refine gx_start rfl 0 rfl (Nat.le_of_ble_eq_true rfl) ?_
  intro X C _ hl
  subst hl
  refine gx_L (L' := [_]) rfl ?_
  refine g_aload_n (pc := 0) C dX12_isFog_0 rfl ?_
  refine mg_300 (pc := 1) C (by exact hm) dX12_isFog_1 ?_
  refine g_if_ne (pc := 4) C 38 dX12_isFog_4 rfl (fun h => ?_) (fun h => ?_)
  · refine g_iconst (pc := 38) (v := nI 1) C dX12_isFog_38 (by decide) ?_
    refine g_goto (pc := 39) C 43 dX12_isFog_39 rfl ?_
    exact g_zreturn (pc := 43) C ⟨rfl, rfl⟩ (by first | exact Or.inl rfl | exact Or.inr rfl) dX12_isFog_43 (pI_t (Or.inl h))
  · refine g_aload_n (pc := 7) C dX12_isFog_7 rfl ?_
    refine mg_39 (pc := 8) C (by exact hm) dX12_isFog_8 ?_
    refine g_bipush (pc := 11) (v := nI 10) C dX12_isFog_11 (by decide) ?_
    refine n_iald (pc := 13) (k := 1010) (n := 190) C rfl rfl (by exact m_z hm rfl) isn_v rfl (by omega) dX12_isFog_13 ?_
    refine g_bipush (pc := 14) (v := nI 60) C dX12_isFog_14 (by decide) ?_
    refine g_icmp_gt (pc := 16) C 42 dX12_isFog_16 rfl (fun h2 => ?_) (fun h2 => ?_)
    · refine g_iconst (pc := 42) (v := nI 0) C dX12_isFog_42 (by decide) ?_
      exact g_zreturn (pc := 43) C ⟨rfl, rfl⟩ (by first | exact Or.inl rfl | exact Or.inr rfl) dX12_isFog_43 (pI_f (fun q => q.elim (fun z => z (Decidable.not_not.mp h)) (fun z => absurd z.1 (Int32.not_le.mpr h2))))
    · have h60 : H ≤ 60 := by
        rw [hH] at h2
        exact Nat.le_of_not_lt (fun q => h2 (nI_lt q (by omega)))
      refine g_aload_n (pc := 19) C dX12_isFog_19 rfl ?_
      refine mg_39 (pc := 20) C (by exact hm) dX12_isFog_20 ?_
      refine g_bipush (pc := 23) (v := nI 98) C dX12_isFog_23 (by decide) ?_
      refine g_aload_n (pc := 25) C dX12_isFog_25 rfl ?_
      refine mg_39 (pc := 26) C (by exact hm) dX12_isFog_26 ?_
      refine g_bipush (pc := 29) (v := nI 10) C dX12_isFog_29 (by decide) ?_
      refine n_iald (pc := 31) (k := 1010) (n := 190) C rfl rfl (by exact m_z hm rfl) isn_v rfl (by omega) dX12_isFog_31 ?_
      refine g_iadd (pc := 32) C dX12_isFog_32 ?_
      refine n_iald (pc := 33) (k := 1010) (n := 190) C rfl rfl (by exact m_z hm rfl) (isn_add isn_v hH) rfl (by omega) dX12_isFog_33 ?_
      refine g_iconst (pc := 34) (v := nI 1) C dX12_isFog_34 (by decide) ?_
      refine g_icmp_ne (pc := 35) C 42 dX12_isFog_35 rfl (fun h3 => ?_) (fun h3 => ?_)
      · refine g_iconst (pc := 42) (v := nI 0) C dX12_isFog_42 (by decide) ?_
        exact g_zreturn (pc := 43) C ⟨rfl, rfl⟩ (by first | exact Or.inl rfl | exact Or.inr rfl) dX12_isFog_43 (pI_f (fun q => q.elim (fun z => z (Decidable.not_not.mp h)) (fun z => h3 z.2)))
      · refine g_iconst (pc := 38) (v := nI 1) C dX12_isFog_38 (by decide) ?_
        refine g_goto (pc := 39) C 43 dX12_isFog_39 rfl ?_
        exact g_zreturn (pc := 43) C ⟨rfl, rfl⟩ (by first | exact Or.inl rfl | exact Or.inr rfl) dX12_isFog_43 (pI_t (Or.inr ⟨Int32.not_lt.mp h2, Decidable.not_not.mp h3⟩))
theorem c_X12_isCrossing (w : Wd) (l : Launch) (S : St) (hm : gx_m S) : gx_M w l yX12_isCrossing cX12_isCrossing 1 (some .boolean) rmX12_isCrossing [.ref (ad (w_b w) 1000)] S (pI (bI (s_A S 1010 0 = nI 1)) S) := by
  refine gx_start rfl 0 rfl (Nat.le_of_ble_eq_true rfl) ?_
  intro X C _ hl
  subst hl
  refine gx_L (L' := [_]) rfl ?_
  refine g_aload_n (pc := 0) C dX12_isCrossing_0 rfl ?_
  refine mg_39 (pc := 1) C (by exact hm) dX12_isCrossing_1 ?_
  refine g_iconst (pc := 4) (v := nI 0) C dX12_isCrossing_4 (by decide) ?_
  refine n_iald (pc := 5) (k := 1010) (n := 190) C rfl rfl (by exact m_z hm rfl) isn_v rfl (by omega) dX12_isCrossing_5 ?_
  refine g_iconst (pc := 6) (v := nI 1) C dX12_isCrossing_6 (by decide) ?_
  refine g_icmp_ne (pc := 7) C 14 dX12_isCrossing_7 rfl (fun h7 => ?_) (fun h7 => ?_)
  · refine g_iconst (pc := 14) (v := nI 0) C dX12_isCrossing_14 (by decide) ?_
    exact g_zreturn (pc := 15) C ⟨rfl, rfl⟩ (by first | exact Or.inl rfl | exact Or.inr rfl) dX12_isCrossing_15 ((by first | exact pI_f h7 | exact pI_t (Decidable.not_not.mp h7)))
  · refine g_iconst (pc := 10) (v := nI 1) C dX12_isCrossing_10 (by decide) ?_
    refine g_goto (pc := 11) C 15 dX12_isCrossing_11 rfl ?_
    exact g_zreturn (pc := 15) C ⟨rfl, rfl⟩ (by first | exact Or.inl rfl | exact Or.inr rfl) dX12_isCrossing_15 ((by first | exact pI_f h7 | exact pI_t (Decidable.not_not.mp h7)))
theorem c_X12_isPerson (w : Wd) (l : Launch) (S : St) (hm : gx_m S) (p : Int32) : gx_M w l yX12_isPerson cX12_isPerson 2 (some .boolean) rmX12_isPerson [.ref (ad (w_b w) 1000), .int p] S (pI (bI (0 ≤ p ∧ p < s_A S 1010 4)) S) := by
  refine gx_start rfl 0 rfl (Nat.le_of_ble_eq_true rfl) ?_
  intro X C _ hl
  subst hl
  refine gx_L (L' := [_, _]) rfl ?_
  refine g_iload_n (pc := 0) C dX12_isPerson_0 rfl ?_
  refine g_if_lt (pc := 1) C 18 dX12_isPerson_1 rfl (fun h1 => ?_) (fun h1 => ?_)
  · refine g_iconst (pc := 18) (v := nI 0) C dX12_isPerson_18 (by decide) ?_
    exact g_zreturn (pc := 19) C ⟨rfl, rfl⟩ (by first | exact Or.inl rfl | exact Or.inr rfl) dX12_isPerson_19 ((by first | exact pI_t ⟨Int32.not_lt.mp h1, Int32.not_le.mp h11⟩ | exact pI_f (fun q => absurd h1 (Int32.not_lt.mpr q.1)) | exact pI_f (fun q => absurd h11 (Int32.not_le.mpr q.2))))
  · refine g_iload_n (pc := 4) C dX12_isPerson_4 rfl ?_
    refine g_aload_n (pc := 5) C dX12_isPerson_5 rfl ?_
    refine mg_39 (pc := 6) C (by exact hm) dX12_isPerson_6 ?_
    refine g_iconst (pc := 9) (v := nI 4) C dX12_isPerson_9 (by decide) ?_
    refine n_iald (pc := 10) (k := 1010) (n := 190) C rfl rfl (by exact m_z hm rfl) isn_v rfl (by omega) dX12_isPerson_10 ?_
    refine g_icmp_ge (pc := 11) C 18 dX12_isPerson_11 rfl (fun h11 => ?_) (fun h11 => ?_)
    · refine g_iconst (pc := 18) (v := nI 0) C dX12_isPerson_18 (by decide) ?_
      exact g_zreturn (pc := 19) C ⟨rfl, rfl⟩ (by first | exact Or.inl rfl | exact Or.inr rfl) dX12_isPerson_19 ((by first | exact pI_t ⟨Int32.not_lt.mp h1, Int32.not_le.mp h11⟩ | exact pI_f (fun q => absurd h1 (Int32.not_lt.mpr q.1)) | exact pI_f (fun q => absurd h11 (Int32.not_le.mpr q.2))))
    · refine g_iconst (pc := 14) (v := nI 1) C dX12_isPerson_14 (by decide) ?_
      refine g_goto (pc := 15) C 19 dX12_isPerson_15 rfl ?_
      exact g_zreturn (pc := 19) C ⟨rfl, rfl⟩ (by first | exact Or.inl rfl | exact Or.inr rfl) dX12_isPerson_19 ((by first | exact pI_t ⟨Int32.not_lt.mp h1, Int32.not_le.mp h11⟩ | exact pI_f (fun q => absurd h1 (Int32.not_lt.mpr q.1)) | exact pI_f (fun q => absurd h11 (Int32.not_le.mpr q.2))))
theorem c_X12_isSet (w : Wd) (l : Launch) (S : St) (hm : gx_m S) (P H : Nat) (hp : gx_p S P H) (set : Int32) : gx_M w l yX12_isSet cX12_isSet 2 (some .boolean) rmX12_isSet [.ref (ad (w_b w) 1000), .int set] S (pI (bI (s_A S 1010 0 = nI 1 ∧ 0 ≤ set ∧ set < nI (2 ^ P))) S) := by
  obtain ⟨hP, hP7, hH, hH2⟩ := hp
  refine gx_start rfl 0 rfl (Nat.le_of_ble_eq_true rfl) ?_
  intro X C _ hl
  subst hl
  refine gx_L (L' := [_, _]) rfl ?_
  refine g_aload_n (pc := 0) C dX12_isSet_0 rfl ?_
  refine cf_X12_297 (pc := 1) C rfl (by exact m_z hm rfl) (c_X12_isCrossing _ _ _ hm) ⟨rfl, rfl⟩ ⟨rfl, rfl⟩ ⟨Nat.zero_le _, Nat.zero_le _⟩ rfl (Nat.le_of_ble_eq_true rfl) dX12_isSet_1 ?_
  refine g_if_eq (pc := 4) C 27 dX12_isSet_4 rfl (fun h => ?_) (fun h => ?_)
  · refine g_iconst (pc := 27) (v := nI 0) C dX12_isSet_27 (by decide) ?_
    exact g_zreturn (pc := 28) C ⟨rfl, rfl⟩ (by first | exact Or.inl rfl | exact Or.inr rfl) dX12_isSet_28 (pI_f (fun q => bI_0.mp h q.1))
  · have h : s_A S 1010 0 = nI 1 := Decidable.not_not.mp (fun q => h (bI_0.mpr q))
    refine g_iload_n (pc := 7) C dX12_isSet_7 rfl ?_
    refine g_if_lt (pc := 8) C 27 dX12_isSet_8 rfl (fun h2 => ?_) (fun h2 => ?_)
    · refine g_iconst (pc := 27) (v := nI 0) C dX12_isSet_27 (by decide) ?_
      exact g_zreturn (pc := 28) C ⟨rfl, rfl⟩ (by first | exact Or.inl rfl | exact Or.inr rfl) dX12_isSet_28 (pI_f (fun q => absurd h2 (Int32.not_lt.mpr q.2.1)))
    · refine g_iload_n (pc := 11) C dX12_isSet_11 rfl ?_
      refine g_iconst (pc := 12) (v := nI 1) C dX12_isSet_12 (by decide) ?_
      refine g_aload_n (pc := 13) C dX12_isSet_13 rfl ?_
      refine mg_39 (pc := 14) C (by exact hm) dX12_isSet_14 ?_
      refine g_iconst (pc := 17) (v := nI 4) C dX12_isSet_17 (by decide) ?_
      refine n_iald (pc := 18) (k := 1010) (n := 190) C rfl rfl (by exact m_z hm rfl) isn_v rfl (by omega) dX12_isSet_18 ?_
      refine gx_ti hP ?_
      refine g_ishl (pc := 19) C dX12_isSet_19 ?_
      refine gx_ti (shl_bit P (by omega)) ?_
      refine g_icmp_ge (pc := 20) C 27 dX12_isSet_20 rfl (fun h3 => ?_) (fun h3 => ?_)
      · refine g_iconst (pc := 27) (v := nI 0) C dX12_isSet_27 (by decide) ?_
        exact g_zreturn (pc := 28) C ⟨rfl, rfl⟩ (by first | exact Or.inl rfl | exact Or.inr rfl) dX12_isSet_28 (pI_f (fun q => absurd h3 (Int32.not_le.mpr q.2.2)))
      · refine g_iconst (pc := 23) (v := nI 1) C dX12_isSet_23 (by decide) ?_
        refine g_goto (pc := 24) C 28 dX12_isSet_24 rfl ?_
        exact g_zreturn (pc := 28) C ⟨rfl, rfl⟩ (by first | exact Or.inl rfl | exact Or.inr rfl) dX12_isSet_28 (pI_t ⟨h, Int32.not_lt.mp h2, Int32.not_le.mp h3⟩)
theorem c_X12_weighs (w : Wd) (l : Launch) (S : St) (hm : gx_m S) (P H : Nat) (hp : gx_p S P H) (s : Nat) (hs : s < 128) (much side : Int32) : gx_M w l yX12_weighs cX12_weighs 5 (some .int) rmX12_weighs [.ref (ad (w_b w) 1000), .int much, .int (nI s), .int side] S (pI (weighF (s_A S 1010) P (fogF (s_I S 1123 1000) (s_A S 1010) H) much s side) S) := by
  have hp' := hp
  obtain ⟨hP, hP7, hH, hH2⟩ := hp
  refine gx_start rfl 1 rfl (Nat.le_of_ble_eq_true rfl) ?_
  intro X C _ hl
  subst hl
  refine gx_L (L' := [_, _, _, _, _]) rfl ?_
  have tail : ∀ (n : Int32), n = (if side = nI 1 then much / nI 2 else much) → gx_G w X S 0 0 14 [some (.ref (ad (w_b w) 1000)), some (.int much), some (.int (nI s)), some (.int side), some (.int n)] [] (gx_E w X (pI (weighF (s_A S 1010) P (fogF (s_I S 1123 1000) (s_A S 1010) H) much s side) S)) := by
    intro n hn
    refine g_iload (pc := 14) C dX12_weighs_14 rfl ?_
    refine g_aload_n (pc := 16) C dX12_weighs_16 rfl ?_
    refine cf_X12_317 (pc := 17) C rfl (by exact m_z hm rfl) (c_X12_isFog _ _ _ hm P H hp') ⟨rfl, rfl⟩ ⟨rfl, rfl⟩ ⟨Nat.zero_le _, Nat.zero_le _⟩ rfl (Nat.le_of_ble_eq_true rfl) dX12_weighs_17 ?_
    have fin : ∀ f : Int32, f = (if fogF (s_I S 1123 1000) (s_A S 1010) H then s_A S 1010 3 else nI 0) → gx_G w X S 0 0 33 [some (.ref (ad (w_b w) 1000)), some (.int much), some (.int (nI s)), some (.int side), some (.int n)] [.int f, .int n] (gx_E w X (pI (weighF (s_A S 1010) P (fogF (s_I S 1123 1000) (s_A S 1010) H) much s side) S)) := by
      intro f hf
      refine g_aload_n (pc := 33) C dX12_weighs_33 rfl ?_
      refine g_iload_n (pc := 34) C dX12_weighs_34 rfl ?_
      refine cf_X12_320 (pc := 35) C rfl (by exact m_z hm rfl) (c_X12_lightOf _ _ _ hm P hP hP7 s hs) ⟨rfl, rfl⟩ ⟨rfl, rfl⟩ ⟨Nat.zero_le _, Nat.zero_le _⟩ rfl (Nat.le_of_ble_eq_true rfl) dX12_weighs_35 ?_
      refine g_isub (pc := 38) C dX12_weighs_38 ?_
      refine g_iadd (pc := 39) C dX12_weighs_39 ?_
      refine g_istore (pc := 40) (L' := [_, _, _, some (.int _), _]) C dX12_weighs_40 rfl rfl ?_
      refine g_iload (pc := 42) C dX12_weighs_42 rfl ?_
      refine g_if_ge (pc := 44) C 51 dX12_weighs_44 rfl (fun h44 => ?_) (fun h44 => ?_)
      · refine g_iload (pc := 51) C dX12_weighs_51 rfl ?_
        exact g_ireturn (pc := 53) C ⟨rfl, rfl⟩ dX12_weighs_53 (⟨by simp only [weighF, ← hn, ← hf]; first | rw [if_pos h44] | rw [if_neg h44], rfl⟩)
      · refine g_iconst (pc := 47) (v := nI 0) C dX12_weighs_47 (by decide) ?_
        refine g_goto (pc := 48) C 53 dX12_weighs_48 rfl ?_
        exact g_ireturn (pc := 53) C ⟨rfl, rfl⟩ dX12_weighs_53 (⟨by simp only [weighF, ← hn, ← hf]; first | rw [if_pos h44] | rw [if_neg h44], rfl⟩)
    refine g_if_eq (pc := 20) C 32 dX12_weighs_20 rfl (fun h => ?_) (fun h => ?_)
    · refine g_iconst (pc := 32) (v := nI 0) C dX12_weighs_32 (by decide) ?_
      exact fin _ (by rw [if_neg (bI_0.mp h)])
    · refine g_aload_n (pc := 23) C dX12_weighs_23 rfl ?_
      refine mg_39 (pc := 24) C (by exact hm) dX12_weighs_24 ?_
      refine g_iconst (pc := 27) (v := nI 3) C dX12_weighs_27 (by decide) ?_
      refine n_iald (pc := 28) (k := 1010) (n := 190) C rfl rfl (by exact m_z hm rfl) isn_v rfl (by omega) dX12_weighs_28 ?_
      refine g_goto (pc := 29) C 33 dX12_weighs_29 rfl ?_
      exact fin _ (by rw [if_pos (Decidable.not_not.mp (fun q => h (bI_0.mpr q)))])
  refine g_iload_n (pc := 0) C dX12_weighs_0 rfl ?_
  refine g_iconst (pc := 1) (v := nI 1) C dX12_weighs_1 (by decide) ?_
  refine g_icmp_ne (pc := 2) C 11 dX12_weighs_2 rfl (fun h => ?_) (fun h => ?_)
  · refine g_iload_n (pc := 11) C dX12_weighs_11 rfl ?_
    refine g_istore (pc := 12) (L' := [_, _, _, some (.int _), _]) C dX12_weighs_12 rfl rfl ?_
    exact tail _ (by rw [if_neg h])
  · refine g_iload_n (pc := 5) C dX12_weighs_5 rfl ?_
    refine g_iconst (pc := 6) (v := nI 2) C dX12_weighs_6 (by decide) ?_
    refine g_idiv (pc := 7) C dX12_weighs_7 (by decide) ?_
    refine g_goto (pc := 8) C 12 dX12_weighs_8 rfl ?_
    refine g_istore (pc := 12) (L' := [_, _, _, some (.int _), _]) C dX12_weighs_12 rfl rfl ?_
    exact tail _ (by rw [if_pos (Decidable.not_not.mp h)])
theorem c_X12_weightOf (w : Wd) (l : Launch) (S : St) (hm : gx_m S) (P H : Nat) (hp : gx_p S P H) (s : Nat) (hs : s < 128) (mid : Prop) [Decidable mid] : gx_M w l yX12_weightOf cX12_weightOf 3 (some .int) rmX12_weightOf [.ref (ad (w_b w) 1000), .int (nI s), .int (bI mid)] S (pI (weightF (s_A S 1010) P (fogF (s_I S 1123 1000) (s_A S 1010) H) s mid) S) := by
  have hp' := hp
  obtain ⟨hP, hP7, hH, hH2⟩ := hp
  refine gx_start rfl 0 rfl (Nat.le_of_ble_eq_true rfl) ?_
  intro X C _ hl
  subst hl
  refine gx_L (L' := [_, _, _]) rfl ?_
  refine g_aload_n (pc := 0) C dX12_weightOf_0 rfl ?_
  refine g_aload_n (pc := 1) C dX12_weightOf_1 rfl ?_
  refine g_iload_n (pc := 2) C dX12_weightOf_2 rfl ?_
  refine g_iload_n (pc := 3) C dX12_weightOf_3 rfl ?_
  refine cf_X12_323 (pc := 4) C rfl (by exact m_z hm rfl) (c_X12_aimsOf _ _ _ hm P hP hP7 s hs mid) ⟨rfl, rfl⟩ ⟨rfl, rfl⟩ ⟨Nat.zero_le _, Nat.zero_le _⟩ rfl (Nat.le_of_ble_eq_true rfl) dX12_weightOf_4 ?_
  refine g_aload_n (pc := 7) C dX12_weightOf_7 rfl ?_
  refine g_iload_n (pc := 8) C dX12_weightOf_8 rfl ?_
  refine cf_X12_327 (pc := 9) C rfl (by exact m_z hm rfl) (c_X12_twosOf _ _ _ hm P hP hP7 s hs) ⟨rfl, rfl⟩ ⟨rfl, rfl⟩ ⟨Nat.zero_le _, Nat.zero_le _⟩ rfl (Nat.le_of_ble_eq_true rfl) dX12_weightOf_9 ?_
  refine g_iadd (pc := 12) C dX12_weightOf_12 ?_
  refine g_iload_n (pc := 13) C dX12_weightOf_13 rfl ?_
  refine g_aload_n (pc := 14) C dX12_weightOf_14 rfl ?_
  refine mg_39 (pc := 15) C (by exact hm) dX12_weightOf_15 ?_
  refine g_bipush (pc := 18) (v := nI 11) C dX12_weightOf_18 (by decide) ?_
  refine n_iald (pc := 20) (k := 1010) (n := 190) C rfl rfl (by exact m_z hm rfl) isn_v rfl (by omega) dX12_weightOf_20 ?_
  refine cf_X12_330 (pc := 21) C rfl (by exact m_z hm rfl) (c_X12_weighs _ _ _ hm P H hp' s hs _ _) ⟨rfl, rfl⟩ ⟨rfl, rfl⟩ ⟨Nat.zero_le _, Nat.zero_le _⟩ rfl (Nat.le_of_ble_eq_true rfl) dX12_weightOf_21 ?_
  exact g_ireturn (pc := 24) C ⟨rfl, rfl⟩ dX12_weightOf_24 (⟨rfl, rfl⟩)
theorem c_X12_canBoard (w : Wd) (l : Launch) (S : St) (hm : gx_m S) (P H : Nat) (hp : gx_p S P H) (s : Nat) (hs : s < 128) : gx_M w l yX12_canBoard cX12_canBoard 2 (some .boolean) rmX12_canBoard [.ref (ad (w_b w) 1000), .int (nI s)] S (pI (bI (canBF (s_A S 1010) P (fogF (s_I S 1123 1000) (s_A S 1010) H) s)) S) := by
  have hp' := hp
  obtain ⟨hP, hP7, hH, hH2⟩ := hp
  have ho : onN (s_A S 1010) (s_A S 1010 11) P < 128 := onN_128 hP7
  refine gx_start rfl 0 rfl (Nat.le_of_ble_eq_true rfl) ?_
  intro X C _ hl
  subst hl
  refine gx_L (L' := [_, _]) rfl ?_
  refine g_iload_n (pc := 0) C dX12_canBoard_0 rfl ?_
  refine g_aload_n (pc := 1) C dX12_canBoard_1 rfl ?_
  refine g_aload_n (pc := 2) C dX12_canBoard_2 rfl ?_
  refine mg_39 (pc := 3) C (by exact hm) dX12_canBoard_3 ?_
  refine g_bipush (pc := 6) (v := nI 11) C dX12_canBoard_6 (by decide) ?_
  refine n_iald (pc := 8) (k := 1010) (n := 190) C rfl rfl (by exact m_z hm rfl) isn_v rfl (by omega) dX12_canBoard_8 ?_
  refine cf_X12_334 (pc := 9) C rfl (by exact m_z hm rfl) (c_X12_onSide _ _ _ hm P hP hP7 _) ⟨rfl, rfl⟩ ⟨rfl, rfl⟩ ⟨Nat.zero_le _, Nat.zero_le _⟩ rfl (Nat.le_of_ble_eq_true rfl) dX12_canBoard_9 ?_
  refine g_iconst (pc := 12) (v := -1) C dX12_canBoard_12 (by decide) ?_
  refine g_ixor (pc := 13) C dX12_canBoard_13 ?_
  refine g_iand (pc := 14) C dX12_canBoard_14 ?_
  refine g_if_ne (pc := 15) C 50 dX12_canBoard_15 rfl (fun h => ?_) (fun h => ?_)
  · refine g_iconst (pc := 50) (v := nI 0) C dX12_canBoard_50 (by decide) ?_
    exact g_zreturn (pc := 51) C ⟨rfl, rfl⟩ (by first | exact Or.inl rfl | exact Or.inr rfl) dX12_canBoard_51 (pI_f (fun q => h ((sub_iff s hs _ ho).mpr q.1)))
  · have h := (sub_iff s hs _ ho).mp (Decidable.not_not.mp h)
    refine g_iload_n (pc := 18) C dX12_canBoard_18 rfl ?_
    refine cf_X12_337 (pc := 19) C (c_X12_bits _ _ _ s hs) ⟨rfl, rfl⟩ ⟨rfl, rfl⟩ ⟨Nat.zero_le _, Nat.zero_le _⟩ rfl (Nat.le_of_ble_eq_true rfl) dX12_canBoard_19 ?_
    refine g_aload_n (pc := 22) C dX12_canBoard_22 rfl ?_
    refine mg_39 (pc := 23) C (by exact hm) dX12_canBoard_23 ?_
    refine g_iconst (pc := 26) (v := nI 2) C dX12_canBoard_26 (by decide) ?_
    refine n_iald (pc := 27) (k := 1010) (n := 190) C rfl rfl (by exact m_z hm rfl) isn_v rfl (by omega) dX12_canBoard_27 ?_
    refine g_icmp_gt (pc := 28) C 50 dX12_canBoard_28 rfl (fun h2 => ?_) (fun h2 => ?_)
    · refine g_iconst (pc := 50) (v := nI 0) C dX12_canBoard_50 (by decide) ?_
      exact g_zreturn (pc := 51) C ⟨rfl, rfl⟩ (by first | exact Or.inl rfl | exact Or.inr rfl) dX12_canBoard_51 (pI_f (fun q => absurd q.2.1 (Int32.not_le.mpr h2)))
    · refine g_aload_n (pc := 31) C dX12_canBoard_31 rfl ?_
      refine g_iload_n (pc := 32) C dX12_canBoard_32 rfl ?_
      refine g_iconst (pc := 33) (v := nI 0) C dX12_canBoard_33 (by decide) ?_
      refine cf_X12_340 (pc := 34) C rfl (by exact m_z hm rfl) (c_X12_weightOf _ _ _ hm P H hp' s hs False) ⟨rfl, rfl⟩ ⟨rfl, rfl⟩ ⟨Nat.zero_le _, Nat.zero_le _⟩ rfl (Nat.le_of_ble_eq_true rfl) dX12_canBoard_34 ?_
      refine g_aload_n (pc := 37) C dX12_canBoard_37 rfl ?_
      refine mg_39 (pc := 38) C (by exact hm) dX12_canBoard_38 ?_
      refine g_iconst (pc := 41) (v := nI 1) C dX12_canBoard_41 (by decide) ?_
      refine n_iald (pc := 42) (k := 1010) (n := 190) C rfl rfl (by exact m_z hm rfl) isn_v rfl (by omega) dX12_canBoard_42 ?_
      refine g_icmp_gt (pc := 43) C 50 dX12_canBoard_43 rfl (fun h3 => ?_) (fun h3 => ?_)
      · refine g_iconst (pc := 50) (v := nI 0) C dX12_canBoard_50 (by decide) ?_
        exact g_zreturn (pc := 51) C ⟨rfl, rfl⟩ (by first | exact Or.inl rfl | exact Or.inr rfl) dX12_canBoard_51 (pI_f (fun q => absurd q.2.2 (Int32.not_le.mpr h3)))
      · refine g_iconst (pc := 46) (v := nI 1) C dX12_canBoard_46 (by decide) ?_
        refine g_goto (pc := 47) C 51 dX12_canBoard_47 rfl ?_
        exact g_zreturn (pc := 51) C ⟨rfl, rfl⟩ (by first | exact Or.inl rfl | exact Or.inr rfl) dX12_canBoard_51 (pI_t ⟨h, Int32.not_lt.mp h2, Int32.not_lt.mp h3⟩)
theorem c_X12_canCross (w : Wd) (l : Launch) (S : St) (hm : gx_m S) (P H : Nat) (hp : gx_p S P H) (s : Nat) (hs : s < 128) : gx_M w l yX12_canCross cX12_canCross 2 (some .boolean) rmX12_canCross [.ref (ad (w_b w) 1000), .int (nI s)] S (pI (bI (canCF (s_A S 1010) P (fogF (s_I S 1123 1000) (s_A S 1010) H) s)) S) := by
  refine gx_start rfl 0 rfl (Nat.le_of_ble_eq_true rfl) ?_
  intro X C _ hl
  subst hl
  refine gx_L (L' := [_, _]) rfl ?_
  refine g_aload_n (pc := 0) C dX12_canCross_0 rfl ?_
  refine g_iload_n (pc := 1) C dX12_canCross_1 rfl ?_
  refine cf_X12_343 (pc := 2) C rfl (by exact m_z hm rfl) (c_X12_canBoard _ _ _ hm P H hp s hs) ⟨rfl, rfl⟩ ⟨rfl, rfl⟩ ⟨Nat.zero_le _, Nat.zero_le _⟩ rfl (Nat.le_of_ble_eq_true rfl) dX12_canCross_2 ?_
  refine g_if_eq (pc := 5) C 27 dX12_canCross_5 rfl (fun h => ?_) (fun h => ?_)
  · refine g_iconst (pc := 27) (v := nI 0) C dX12_canCross_27 (by decide) ?_
    exact g_zreturn (pc := 28) C ⟨rfl, rfl⟩ (by first | exact Or.inl rfl | exact Or.inr rfl) dX12_canCross_28 (pI_f (fun q => bI_0.mp h q.1))
  · have h := Decidable.not_not.mp (fun q => h (bI_0.mpr q))
    refine g_aload_n (pc := 8) C dX12_canCross_8 rfl ?_
    refine g_iload_n (pc := 9) C dX12_canCross_9 rfl ?_
    refine g_iconst (pc := 10) (v := nI 1) C dX12_canCross_10 (by decide) ?_
    refine cf_X12_340 (pc := 11) C rfl (by exact m_z hm rfl) (c_X12_weightOf _ _ _ hm P H hp s hs True) ⟨rfl, rfl⟩ ⟨rfl, rfl⟩ ⟨Nat.zero_le _, Nat.zero_le _⟩ rfl (Nat.le_of_ble_eq_true rfl) dX12_canCross_11 ?_
    refine g_aload_n (pc := 14) C dX12_canCross_14 rfl ?_
    refine mg_39 (pc := 15) C (by exact hm) dX12_canCross_15 ?_
    refine g_iconst (pc := 18) (v := nI 1) C dX12_canCross_18 (by decide) ?_
    refine n_iald (pc := 19) (k := 1010) (n := 190) C rfl rfl (by exact m_z hm rfl) isn_v rfl (by omega) dX12_canCross_19 ?_
    refine g_icmp_gt (pc := 20) C 27 dX12_canCross_20 rfl (fun h3 => ?_) (fun h3 => ?_)
    · refine g_iconst (pc := 27) (v := nI 0) C dX12_canCross_27 (by decide) ?_
      exact g_zreturn (pc := 28) C ⟨rfl, rfl⟩ (by first | exact Or.inl rfl | exact Or.inr rfl) dX12_canCross_28 (pI_f (fun q => absurd q.2 (Int32.not_le.mpr h3)))
    · refine g_iconst (pc := 23) (v := nI 1) C dX12_canCross_23 (by decide) ?_
      refine g_goto (pc := 24) C 28 dX12_canCross_24 rfl ?_
      exact g_zreturn (pc := 28) C ⟨rfl, rfl⟩ (by first | exact Or.inl rfl | exact Or.inr rfl) dX12_canCross_28 (pI_t ⟨h, Int32.not_lt.mp h3⟩)
