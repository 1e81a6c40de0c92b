/-! ===== the reference: notes, counts, images ===== -/
theorem s_AA2 (S : St) (k j : Nat) (f g : Nat → Int32) (h : k ≠ j) : s_setA (s_setA S k f) j g = s_setA (s_setA S j g) k f := by
  have : u1 (u1 (s_A S) k f) j g = u1 (u1 (s_A S) j g) k f := by
    funext i; unfold u1
    by_cases e : i = j
    · subst e; rw [if_pos rfl, if_neg (fun q => h q.symm), if_pos rfl]
    · rw [if_neg e, if_neg e]
  show (_, _, _, _, _, _, u1 (u1 (s_A S) k f) j g, _, _) = _
  rw [this]; rfl
abbrev noteOK (said : Nat → Int32) (P : Nat) (n p side : Int32) : Prop := (nI 0 ≤ n ∧ n ≤ nI 60) ∧ (0 ≤ p ∧ p < nI P) ∧ (nI 0 ≤ side ∧ side ≤ nI 1) ∧ ¬ said 189 = nI 10
def noteF (said : Nat → Int32) (m : Nat) (n p side : Int32) : Nat → Int32 := upd (upd (upd (upd said (159 + 3 * m) n) (159 + 3 * m + 1) p) (159 + 3 * m + 2) side) 189 (nI (m + 1))
theorem c_X12_note (w : Wd) (l : Launch) (S : St) (hm : gx_m S) (P H : Nat) (hp : gx_p S P H) (m : Nat) (hn : s_A S 1010 189 = nI m) (hm10 : m ≤ 10) (n p side : Int32) : gx_M w l yX12_note cX12_note 5 (some .int) rmX12_note [.ref (ad (w_b w) 1000), .int n, .int p, .int side] S (pI (if n = -1 then nI 0 else if noteOK (s_A S 1010) P n p side then nI (m + 1) else -2) (if n = -1 then s_setA S 1010 (upd (s_A S 1010) 189 (nI 0)) else if noteOK (s_A S 1010) P n p side then s_setA S 1010 (noteF (s_A S 1010) m n p side) else S)) := by
  obtain ⟨hP, hP7, hH, hH2⟩ := id hp
  refine gx_start rfl 1 rfl (Nat.le_of_ble_eq_true rfl) ?_
  intro X C _ hl
  subst hl
  refine gx_L (L' := [_, _, _, _, _]) rfl ?_
  refine g_iload_n (pc := 0) C dX12_note_0 rfl ?_
  refine g_iconst (pc := 1) (v := -1) C dX12_note_1 (by decide) ?_
  refine g_icmp_ne (pc := 2) C 16 dX12_note_2 rfl (fun h0 => ?_) (fun h0 => ?_)
  · rw [if_neg h0, if_neg h0]
    have bad : ∀ z, ¬ noteOK (s_A S 1010) P n p side → gx_G w X S 0 0 59 [some (.ref (ad (w_b w) 1000)), some (.int n), some (.int p), some (.int side), z] [] (gx_E w X (pI (if noteOK (s_A S 1010) P n p side then nI (m + 1) else -2) (if noteOK (s_A S 1010) P n p side then s_setA S 1010 (noteF (s_A S 1010) m n p side) else S))) := by
      intro z hb
      refine g_bipush (pc := 59) (v := -2) C dX12_note_59 (by decide) ?_
      exact g_ireturn (pc := 61) C ⟨rfl, rfl⟩ dX12_note_61 (⟨by rw [if_neg hb], by rw [if_neg hb]⟩)
    refine g_iload_n (pc := 16) C dX12_note_16 rfl ?_
    refine g_i2l (pc := 17) C dX12_note_17 ?_
    refine g_lconst (pc := 18) (v := 0) C dX12_note_18 (by decide) ?_
    refine g_ldc2 (pc := 19) (v := 60) C dX12_note_19 kl_X12_426 ?_
    refine cf_X12_130 (pc := 22) C (c_X12_in32 _ _ _ _ (nI 0) (nI 60) _ _ rfl rfl) ⟨rfl, rfl⟩ ⟨rfl, rfl⟩ ⟨Nat.zero_le _, Nat.zero_le _⟩ rfl (Nat.le_of_ble_eq_true rfl) dX12_note_22 ?_
    refine g_if_eq (pc := 25) C 59 dX12_note_25 rfl (fun h => ?_) (fun h => ?_)
    · exact bad _ (fun q => bI_0.mp h q.1)
    · have h := Decidable.not_not.mp (fun q => h (bI_0.mpr q))
      refine g_aload_n (pc := 28) C dX12_note_28 rfl ?_
      refine g_iload_n (pc := 29) C dX12_note_29 rfl ?_
      refine cf_X12_349 (pc := 30) C rfl (by exact m_z hm rfl) (c_X12_isPerson _ _ _ hm _) ⟨rfl, rfl⟩ ⟨rfl, rfl⟩ ⟨Nat.zero_le _, Nat.zero_le _⟩ rfl (Nat.le_of_ble_eq_true rfl) dX12_note_30 ?_
      refine gx_ti (y := bI (0 ≤ p ∧ p < nI P)) (by rw [hP]) ?_
      refine g_if_eq (pc := 33) C 59 dX12_note_33 rfl (fun h2 => ?_) (fun h2 => ?_)
      · exact bad _ (fun q => bI_0.mp h2 q.2.1)
      · have h2 := Decidable.not_not.mp (fun q => h2 (bI_0.mpr q))
        refine g_iload_n (pc := 36) C dX12_note_36 rfl ?_
        refine g_i2l (pc := 37) C dX12_note_37 ?_
        refine g_lconst (pc := 38) (v := 0) C dX12_note_38 (by decide) ?_
        refine g_lconst (pc := 39) (v := 1) C dX12_note_39 (by decide) ?_
        refine cf_X12_130 (pc := 40) C (c_X12_in32 _ _ _ _ (nI 0) (nI 1) _ _ rfl rfl) ⟨rfl, rfl⟩ ⟨rfl, rfl⟩ ⟨Nat.zero_le _, Nat.zero_le _⟩ rfl (Nat.le_of_ble_eq_true rfl) dX12_note_40 ?_
        refine g_if_eq (pc := 43) C 59 dX12_note_43 rfl (fun h3 => ?_) (fun h3 => ?_)
        · exact bad _ (fun q => bI_0.mp h3 q.2.2.1)
        · have h3 := Decidable.not_not.mp (fun q => h3 (bI_0.mpr q))
          refine g_aload_n (pc := 46) C dX12_note_46 rfl ?_
          refine mg_39 (pc := 47) C (by exact hm) dX12_note_47 ?_
          refine g_sipush (pc := 50) (v := nI 189) C dX12_note_50 (by decide) ?_
          refine n_iald (pc := 53) (k := 1010) (n := 190) C rfl rfl (by exact m_z hm rfl) isn_v rfl (by omega) dX12_note_53 ?_
          refine g_bipush (pc := 54) (v := nI 10) C dX12_note_54 (by decide) ?_
          refine g_icmp_ne (pc := 56) C 62 dX12_note_56 rfl (fun h4 => ?_) (fun h4 => ?_)
          · have hok : noteOK (s_A S 1010) P n p side := ⟨h, h2, h3, h4⟩
            have hm9 : m < 10 := by
              refine Nat.lt_of_le_of_ne hm10 (fun e => h4 ?_)
              rw [← e]; exact hn
            rw [if_pos hok, if_pos hok]
            refine g_sipush (pc := 62) (v := nI 159) C dX12_note_62 (by decide) ?_
            refine g_iconst (pc := 65) (v := nI 3) C dX12_note_65 (by decide) ?_
            refine g_aload_n (pc := 66) C dX12_note_66 rfl ?_
            refine mg_39 (pc := 67) C (by exact hm) dX12_note_67 ?_
            refine g_sipush (pc := 70) (v := nI 189) C dX12_note_70 (by decide) ?_
            refine n_iald (pc := 73) (k := 1010) (n := 190) C rfl rfl (by exact m_z hm rfl) isn_v rfl (by omega) dX12_note_73 ?_
            refine gx_ti hn ?_
            refine g_imul (pc := 74) C dX12_note_74 ?_
            refine g_iadd (pc := 75) C dX12_note_75 ?_
            refine gx_ti (y := nI (159 + 3 * m)) (isn_add isn_v (isn_mul isn_v isn_v)) ?_
            refine g_istore (pc := 76) (L' := [_, _, _, some (.int _), _]) C dX12_note_76 rfl rfl ?_
            refine g_aload_n (pc := 78) C dX12_note_78 rfl ?_
            refine mg_39 (pc := 79) C (by exact hm) dX12_note_79 ?_
            refine g_iload (pc := 82) C dX12_note_82 rfl ?_
            refine g_iload_n (pc := 84) C dX12_note_84 rfl ?_
            refine n_iast (pc := 85) (k := 1010) (n := 190) C rfl rfl (by exact m_z hm rfl) isn_v rfl (by omega) dX12_note_85 ?_
            refine gx_S (S' := s_setA S 1010 (upd (s_A S 1010) (159 + 3 * m) n)) rfl ?_
            refine g_aload_n (pc := 86) C dX12_note_86 rfl ?_
            refine mg_39 (pc := 87) C (by exact hm) dX12_note_87 ?_
            refine g_iload (pc := 90) C dX12_note_90 rfl ?_
            refine g_iconst (pc := 92) (v := nI 1) C dX12_note_92 (by decide) ?_
            refine g_iadd (pc := 93) C dX12_note_93 ?_
            refine g_iload_n (pc := 94) C dX12_note_94 rfl ?_
            refine n_iast (pc := 95) (k := 1010) (n := 190) C rfl rfl (by exact m_z hm rfl) (isn_add isn_v isn_v) rfl (by omega) dX12_note_95 ?_
            refine gx_S (S' := s_setA S 1010 (upd (upd (s_A S 1010) (159 + 3 * m) n) (159 + 3 * m + 1) p)) (s_AA _ _ _ _) ?_
            refine g_aload_n (pc := 96) C dX12_note_96 rfl ?_
            refine mg_39 (pc := 97) C (by exact hm) dX12_note_97 ?_
            refine g_iload (pc := 100) C dX12_note_100 rfl ?_
            refine g_iconst (pc := 102) (v := nI 2) C dX12_note_102 (by decide) ?_
            refine g_iadd (pc := 103) C dX12_note_103 ?_
            refine g_iload_n (pc := 104) C dX12_note_104 rfl ?_
            refine n_iast (pc := 105) (k := 1010) (n := 190) C rfl rfl (by exact m_z hm rfl) (isn_add isn_v isn_v) rfl (by omega) dX12_note_105 ?_
            refine gx_S (S' := s_setA S 1010 (upd (upd (upd (s_A S 1010) (159 + 3 * m) n) (159 + 3 * m + 1) p) (159 + 3 * m + 2) side)) (s_AA _ _ _ _) ?_
            have e189 : upd (upd (upd (s_A S 1010) (159 + 3 * m) n) (159 + 3 * m + 1) p) (159 + 3 * m + 2) side 189 = nI m := by
              simp only [upd]
              rw [if_neg (by omega), if_neg (by omega), if_neg (by omega)]; exact hn
            refine g_aload_n (pc := 106) C dX12_note_106 rfl ?_
            refine mg_39 (pc := 107) C (by exact hm) dX12_note_107 ?_
            refine g_sipush (pc := 110) (v := nI 189) C dX12_note_110 (by decide) ?_
            refine g_dup2 (pc := 113) C dX12_note_113 rfl rfl ?_
            refine n_iald (pc := 114) (k := 1010) (n := 190) C rfl rfl (by exact m_z hm rfl) isn_v rfl (by omega) dX12_note_114 ?_
            refine gx_ti (y := nI m) e189 ?_
            refine g_iconst (pc := 115) (v := nI 1) C dX12_note_115 (by decide) ?_
            refine g_iadd (pc := 116) C dX12_note_116 ?_
            refine gx_ti (nI_add m 1) ?_
            refine n_iast (pc := 117) (k := 1010) (n := 190) C rfl rfl (by exact m_z hm rfl) isn_v rfl (by omega) dX12_note_117 ?_
            refine gx_S (S' := s_setA S 1010 (noteF (s_A S 1010) m n p side)) (s_AA _ _ _ _) ?_
            refine g_aload_n (pc := 118) C dX12_note_118 rfl ?_
            refine mg_39 (pc := 119) C (by exact hm) dX12_note_119 ?_
            refine g_sipush (pc := 122) (v := nI 189) C dX12_note_122 (by decide) ?_
            refine n_iald (pc := 125) (k := 1010) (n := 190) C rfl rfl (by exact m_z hm rfl) isn_v rfl (by omega) dX12_note_125 ?_
            exact g_ireturn (pc := 126) C ⟨rfl, rfl⟩ dX12_note_126 ⟨congrArg (fun z => some (Value.int z)) (by show noteF (s_A S 1010) m n p side 189 = nI (m + 1); simp only [noteF, upd]; rw [if_pos trivial]), rfl⟩
          · exact bad _ (fun q => q.2.2.2 (Decidable.not_not.mp h4))
  · have h0 := Decidable.not_not.mp h0
    refine g_aload_n (pc := 5) C dX12_note_5 rfl ?_
    refine mg_39 (pc := 6) C (by exact hm) dX12_note_6 ?_
    refine g_sipush (pc := 9) (v := nI 189) C dX12_note_9 (by decide) ?_
    refine g_iconst (pc := 12) (v := nI 0) C dX12_note_12 (by decide) ?_
    refine n_iast (pc := 13) (k := 1010) (n := 190) C rfl rfl (by exact m_z hm rfl) isn_v rfl (by omega) dX12_note_13 ?_
    refine g_iconst (pc := 14) (v := nI 0) C dX12_note_14 (by decide) ?_
    exact g_ireturn (pc := 15) C ⟨rfl, rfl⟩ dX12_note_15 (⟨by rw [if_pos h0], by rw [if_pos h0]⟩)
def countF (S : St) (P H : Nat) (k : Nat) : Int32 := if k < 4 then s_A S 1010 (k + 1) else if k = 4 then s_I S 1102 1000 else if k = 5 then s_I S 1121 1000 else if k = 6 then s_A S 1010 10 else if k = 7 then s_A S 1010 11 else if k = 8 then nI (onN (s_A S 1010) (nI 1) P) else if k = 9 then s_A S 1010 12 else if k = 10 then s_A S 1010 13 else if k = 11 then bI (fogF (s_I S 1123 1000) (s_A S 1010) H) else if k = 12 then s_A S 1010 189 else if k = 13 then s_I S 1125 1000 else if k = 14 then s_I S 1122 1000 else s_I S 1101 1000
theorem c_X12_countN (w : Wd) (l : Launch) (S : St) (hm : gx_m S) (what : Int32) (h : what < 0 ∨ nI 16 ≤ what) : gx_M w l yX12_count cX12_count 2 (some .int) rmX12_count [.ref (ad (w_b w) 1000), .int what] S (pI (-1) S) := by
  refine gx_start rfl 0 rfl (Nat.le_of_ble_eq_true rfl) ?_
  intro X C _ hl
  subst hl
  refine gx_L (L' := [_, _]) rfl ?_
  refine g_iload_n (pc := 0) C dX12_count_0 rfl ?_
  refine g_tableOut (pc := 1) C 174 dX12_count_1 (h.elim (fun q => Or.inl (ti_neg q)) (fun q => Or.inr (Int.lt_of_lt_of_le (by decide) (ti_ge (by omega) q)))) rfl ?_
  refine g_iconst (pc := 174) (v := -1) C dX12_count_174 (by decide) ?_
  exact g_ireturn (pc := 175) C ⟨rfl, rfl⟩ dX12_count_175 (⟨rfl, rfl⟩)
theorem c_X12_count (w : Wd) (l : Launch) (S : St) (hm : gx_m S) (P H : Nat) (hp : gx_p S P H) (k : Nat) (hk : k < 16) : gx_M w l yX12_count cX12_count 2 (some .int) rmX12_count [.ref (ad (w_b w) 1000), .int (nI k)] S (pI (countF S P H k) S) := by
  obtain ⟨hP, hP7, hH, hH2⟩ := id hp
  refine gx_start rfl 0 rfl (Nat.le_of_ble_eq_true rfl) ?_
  intro X C _ hl
  subst hl
  refine gx_L (L' := [_, _]) rfl ?_
  refine g_iload_n (pc := 0) C dX12_count_0 rfl ?_
  have : k = 0 ∨ k = 1 ∨ k = 2 ∨ k = 3 ∨ k = 4 ∨ k = 5 ∨ k = 6 ∨ k = 7 ∨ k = 8 ∨ k = 9 ∨ k = 10 ∨ k = 11 ∨ k = 12 ∨ k = 13 ∨ k = 14 ∨ k = 15 := by omega
  rcases this with rfl | rfl | rfl | rfl | rfl | rfl | rfl | rfl | rfl | rfl | rfl | rfl | rfl | rfl | rfl | rfl
  · refine g_tableIn (pc := 1) C 80 dX12_count_1 (by decide) (by decide) rfl rfl ?_
    refine g_aload_n (pc := 80) C dX12_count_80 rfl ?_
    refine mg_39 (pc := 81) C (by exact hm) dX12_count_81 ?_
    refine g_iload_n (pc := 84) C dX12_count_84 rfl ?_
    refine g_iconst (pc := 85) (v := nI 1) C dX12_count_85 (by decide) ?_
    refine g_iadd (pc := 86) C dX12_count_86 ?_
    refine n_iald (pc := 87) (k := 1010) (n := 190) C rfl rfl (by exact m_z hm rfl) (isn_add isn_v isn_v) rfl (by omega) dX12_count_87 ?_
    exact g_ireturn (pc := 88) C ⟨rfl, rfl⟩ dX12_count_88 (⟨rfl, rfl⟩)
  · refine g_tableIn (pc := 1) C 80 dX12_count_1 (by decide) (by decide) rfl rfl ?_
    refine g_aload_n (pc := 80) C dX12_count_80 rfl ?_
    refine mg_39 (pc := 81) C (by exact hm) dX12_count_81 ?_
    refine g_iload_n (pc := 84) C dX12_count_84 rfl ?_
    refine g_iconst (pc := 85) (v := nI 1) C dX12_count_85 (by decide) ?_
    refine g_iadd (pc := 86) C dX12_count_86 ?_
    refine n_iald (pc := 87) (k := 1010) (n := 190) C rfl rfl (by exact m_z hm rfl) (isn_add isn_v isn_v) rfl (by omega) dX12_count_87 ?_
    exact g_ireturn (pc := 88) C ⟨rfl, rfl⟩ dX12_count_88 (⟨rfl, rfl⟩)
  · refine g_tableIn (pc := 1) C 80 dX12_count_1 (by decide) (by decide) rfl rfl ?_
    refine g_aload_n (pc := 80) C dX12_count_80 rfl ?_
    refine mg_39 (pc := 81) C (by exact hm) dX12_count_81 ?_
    refine g_iload_n (pc := 84) C dX12_count_84 rfl ?_
    refine g_iconst (pc := 85) (v := nI 1) C dX12_count_85 (by decide) ?_
    refine g_iadd (pc := 86) C dX12_count_86 ?_
    refine n_iald (pc := 87) (k := 1010) (n := 190) C rfl rfl (by exact m_z hm rfl) (isn_add isn_v isn_v) rfl (by omega) dX12_count_87 ?_
    exact g_ireturn (pc := 88) C ⟨rfl, rfl⟩ dX12_count_88 (⟨rfl, rfl⟩)
  · refine g_tableIn (pc := 1) C 80 dX12_count_1 (by decide) (by decide) rfl rfl ?_
    refine g_aload_n (pc := 80) C dX12_count_80 rfl ?_
    refine mg_39 (pc := 81) C (by exact hm) dX12_count_81 ?_
    refine g_iload_n (pc := 84) C dX12_count_84 rfl ?_
    refine g_iconst (pc := 85) (v := nI 1) C dX12_count_85 (by decide) ?_
    refine g_iadd (pc := 86) C dX12_count_86 ?_
    refine n_iald (pc := 87) (k := 1010) (n := 190) C rfl rfl (by exact m_z hm rfl) (isn_add isn_v isn_v) rfl (by omega) dX12_count_87 ?_
    exact g_ireturn (pc := 88) C ⟨rfl, rfl⟩ dX12_count_88 (⟨rfl, rfl⟩)
  · refine g_tableIn (pc := 1) C 89 dX12_count_1 (by decide) (by decide) rfl rfl ?_
    refine g_aload_n (pc := 89) C dX12_count_89 rfl ?_
    refine mg_270 (pc := 90) C (by exact hm) dX12_count_90 ?_
    exact g_ireturn (pc := 93) C ⟨rfl, rfl⟩ dX12_count_93 (⟨rfl, rfl⟩)
  · refine g_tableIn (pc := 1) C 94 dX12_count_1 (by decide) (by decide) rfl rfl ?_
    refine g_aload_n (pc := 94) C dX12_count_94 rfl ?_
    refine mg_42 (pc := 95) C (by exact hm) dX12_count_95 ?_
    exact g_ireturn (pc := 98) C ⟨rfl, rfl⟩ dX12_count_98 (⟨rfl, rfl⟩)
  · refine g_tableIn (pc := 1) C 99 dX12_count_1 (by decide) (by decide) rfl rfl ?_
    refine g_aload_n (pc := 99) C dX12_count_99 rfl ?_
    refine mg_39 (pc := 100) C (by exact hm) dX12_count_100 ?_
    refine g_bipush (pc := 103) (v := nI 10) C dX12_count_103 (by decide) ?_
    refine n_iald (pc := 105) (k := 1010) (n := 190) C rfl rfl (by exact m_z hm rfl) isn_v rfl (by omega) dX12_count_105 ?_
    exact g_ireturn (pc := 106) C ⟨rfl, rfl⟩ dX12_count_106 (⟨rfl, rfl⟩)
  · refine g_tableIn (pc := 1) C 107 dX12_count_1 (by decide) (by decide) rfl rfl ?_
    refine g_aload_n (pc := 107) C dX12_count_107 rfl ?_
    refine mg_39 (pc := 108) C (by exact hm) dX12_count_108 ?_
    refine g_bipush (pc := 111) (v := nI 11) C dX12_count_111 (by decide) ?_
    refine n_iald (pc := 113) (k := 1010) (n := 190) C rfl rfl (by exact m_z hm rfl) isn_v rfl (by omega) dX12_count_113 ?_
    exact g_ireturn (pc := 114) C ⟨rfl, rfl⟩ dX12_count_114 (⟨rfl, rfl⟩)
  · refine g_tableIn (pc := 1) C 115 dX12_count_1 (by decide) (by decide) rfl rfl ?_
    refine g_aload_n (pc := 115) C dX12_count_115 rfl ?_
    refine g_iconst (pc := 116) (v := nI 1) C dX12_count_116 (by decide) ?_
    refine cf_X12_334 (pc := 117) C rfl (by exact m_z hm rfl) (c_X12_onSide _ _ _ hm P hP hP7 _) ⟨rfl, rfl⟩ ⟨rfl, rfl⟩ ⟨Nat.zero_le _, Nat.zero_le _⟩ rfl (Nat.le_of_ble_eq_true rfl) dX12_count_117 ?_
    exact g_ireturn (pc := 120) C ⟨rfl, rfl⟩ dX12_count_120 (⟨rfl, rfl⟩)
  · refine g_tableIn (pc := 1) C 121 dX12_count_1 (by decide) (by decide) rfl rfl ?_
    refine g_aload_n (pc := 121) C dX12_count_121 rfl ?_
    refine mg_39 (pc := 122) C (by exact hm) dX12_count_122 ?_
    refine g_bipush (pc := 125) (v := nI 12) C dX12_count_125 (by decide) ?_
    refine n_iald (pc := 127) (k := 1010) (n := 190) C rfl rfl (by exact m_z hm rfl) isn_v rfl (by omega) dX12_count_127 ?_
    exact g_ireturn (pc := 128) C ⟨rfl, rfl⟩ dX12_count_128 (⟨rfl, rfl⟩)
  · refine g_tableIn (pc := 1) C 129 dX12_count_1 (by decide) (by decide) rfl rfl ?_
    refine g_aload_n (pc := 129) C dX12_count_129 rfl ?_
    refine mg_39 (pc := 130) C (by exact hm) dX12_count_130 ?_
    refine g_bipush (pc := 133) (v := nI 13) C dX12_count_133 (by decide) ?_
    refine n_iald (pc := 135) (k := 1010) (n := 190) C rfl rfl (by exact m_z hm rfl) isn_v rfl (by omega) dX12_count_135 ?_
    exact g_ireturn (pc := 136) C ⟨rfl, rfl⟩ dX12_count_136 (⟨rfl, rfl⟩)
  · refine g_tableIn (pc := 1) C 137 dX12_count_1 (by decide) (by decide) rfl rfl ?_
    refine g_aload_n (pc := 137) C dX12_count_137 rfl ?_
    refine cf_X12_317 (pc := 138) C rfl (by exact m_z hm rfl) (c_X12_isFog _ _ _ hm P H hp) ⟨rfl, rfl⟩ ⟨rfl, rfl⟩ ⟨Nat.zero_le _, Nat.zero_le _⟩ rfl (Nat.le_of_ble_eq_true rfl) dX12_count_138 ?_
    refine g_if_eq (pc := 141) C 148 dX12_count_141 rfl (fun h => ?_) (fun h => ?_)
    · refine g_iconst (pc := 148) (v := nI 0) C dX12_count_148 (by decide) ?_
      exact g_ireturn (pc := 149) C ⟨rfl, rfl⟩ dX12_count_149 (⟨congrArg (fun z => some (Value.int z)) (bI_f (bI_0.mp h)).symm, rfl⟩)
    · refine g_iconst (pc := 144) (v := nI 1) C dX12_count_144 (by decide) ?_
      refine g_goto (pc := 145) C 149 dX12_count_145 rfl ?_
      exact g_ireturn (pc := 149) C ⟨rfl, rfl⟩ dX12_count_149 (⟨congrArg (fun z => some (Value.int z)) (bI_t (Decidable.not_not.mp (fun q => h (bI_0.mpr q)))).symm, rfl⟩)
  · refine g_tableIn (pc := 1) C 150 dX12_count_1 (by decide) (by decide) rfl rfl ?_
    refine g_aload_n (pc := 150) C dX12_count_150 rfl ?_
    refine mg_39 (pc := 151) C (by exact hm) dX12_count_151 ?_
    refine g_sipush (pc := 154) (v := nI 189) C dX12_count_154 (by decide) ?_
    refine n_iald (pc := 157) (k := 1010) (n := 190) C rfl rfl (by exact m_z hm rfl) isn_v rfl (by omega) dX12_count_157 ?_
    exact g_ireturn (pc := 158) C ⟨rfl, rfl⟩ dX12_count_158 (⟨rfl, rfl⟩)
  · refine g_tableIn (pc := 1) C 159 dX12_count_1 (by decide) (by decide) rfl rfl ?_
    refine g_aload_n (pc := 159) C dX12_count_159 rfl ?_
    refine mg_279 (pc := 160) C (by exact hm) dX12_count_160 ?_
    exact g_ireturn (pc := 163) C ⟨rfl, rfl⟩ dX12_count_163 (⟨rfl, rfl⟩)
  · refine g_tableIn (pc := 1) C 164 dX12_count_1 (by decide) (by decide) rfl rfl ?_
    refine g_aload_n (pc := 164) C dX12_count_164 rfl ?_
    refine mg_437 (pc := 165) C (by exact hm) dX12_count_165 ?_
    exact g_ireturn (pc := 168) C ⟨rfl, rfl⟩ dX12_count_168 (⟨rfl, rfl⟩)
  · refine g_tableIn (pc := 1) C 169 dX12_count_1 (by decide) (by decide) rfl rfl ?_
    refine g_aload_n (pc := 169) C dX12_count_169 rfl ?_
    refine mg_92 (pc := 170) C (by exact hm) dX12_count_170 ?_
    exact g_ireturn (pc := 173) C ⟨rfl, rfl⟩ dX12_count_173 (⟨rfl, rfl⟩)
def imageS (S : St) (k : Nat) : St := s_setA (s_setA (s_setA (s_setA S 1025 (upd (s_A S 1025) k (nI 1))) 1023 (upd (s_A S 1023) k (s_I S 1121 1000))) 1024 (upd (s_A S 1024) k (s_I S 1122 1000))) 1022 (va_cpy (s_A S 1010) (s_A S 1022) 0 (190 * k) 190)
theorem c_X12_image (w : Wd) (l : Launch) (S : St) (hm : gx_m S) (k : Int32) : gx_M w l yX12_image cX12_image 3 (some .int) rmX12_image [.ref (ad (w_b w) 1000), .int k] S (pI (if nI 0 ≤ k ∧ k ≤ nI 3 then s_A S 1010 10 else -1) (if nI 0 ≤ k ∧ k ≤ nI 3 then imageS S k.toNatClampNeg else S)) := by
  refine gx_start rfl 1 rfl (Nat.le_of_ble_eq_true rfl) ?_
  intro X C _ hl
  subst hl
  refine gx_L (L' := [_, _, _]) rfl ?_
  refine g_iload_n (pc := 0) C dX12_image_0 rfl ?_
  refine g_i2l (pc := 1) C dX12_image_1 ?_
  refine g_lconst (pc := 2) (v := 0) C dX12_image_2 (by decide) ?_
  refine g_ldc2 (pc := 3) (v := 3) C dX12_image_3 kl_X12_457 ?_
  refine cf_X12_130 (pc := 6) C (c_X12_in32 _ _ _ _ (nI 0) (nI 3) _ _ rfl rfl) ⟨rfl, rfl⟩ ⟨rfl, rfl⟩ ⟨Nat.zero_le _, Nat.zero_le _⟩ rfl (Nat.le_of_ble_eq_true rfl) dX12_image_6 ?_
  refine g_if_ne (pc := 9) C 14 dX12_image_9 rfl (fun h => ?_) (fun h => ?_)
  · have h := Decidable.not_not.mp (fun q => h (bI_0.mpr q))
    rw [if_pos h, if_pos h]
    obtain ⟨j, hj, rfl⟩ := nat_of (b := 3) (by omega) h
    rw [nI_clamp (by omega)]
    refine g_aload_n (pc := 14) C dX12_image_14 rfl ?_
    refine mg_89 (pc := 15) C (by exact hm) dX12_image_15 ?_
    refine g_iload_n (pc := 18) C dX12_image_18 rfl ?_
    refine g_iconst (pc := 19) (v := nI 1) C dX12_image_19 (by decide) ?_
    refine n_zast (pc := 20) (k := 1025) (n := 4) C rfl rfl (by exact m_z hm rfl) isn_v rfl (by omega) dX12_image_20 ?_
    refine gx_S (S' := s_setA S 1025 (upd (s_A S 1025) j (nI 1))) rfl ?_
    refine g_aload_n (pc := 21) C dX12_image_21 rfl ?_
    refine mg_83 (pc := 22) C (by exact hm) dX12_image_22 ?_
    refine g_iload_n (pc := 25) C dX12_image_25 rfl ?_
    refine g_aload_n (pc := 26) C dX12_image_26 rfl ?_
    refine mg_42 (pc := 27) C (by exact hm) dX12_image_27 ?_
    refine n_iast (pc := 30) (k := 1023) (n := 4) C rfl rfl (by exact m_z hm rfl) isn_v rfl (by omega) dX12_image_30 ?_
    refine gx_S (S' := s_setA (s_setA S 1025 (upd (s_A S 1025) j (nI 1))) 1023 (upd (s_A S 1023) j (s_I S 1121 1000))) rfl ?_
    refine g_aload_n (pc := 31) C dX12_image_31 rfl ?_
    refine mg_86 (pc := 32) C (by exact hm) dX12_image_32 ?_
    refine g_iload_n (pc := 35) C dX12_image_35 rfl ?_
    refine g_aload_n (pc := 36) C dX12_image_36 rfl ?_
    refine mg_437 (pc := 37) C (by exact hm) dX12_image_37 ?_
    refine n_iast (pc := 40) (k := 1024) (n := 4) C rfl rfl (by exact m_z hm rfl) isn_v rfl (by omega) dX12_image_40 ?_
    refine gx_S (S' := s_setA (s_setA (s_setA S 1025 (upd (s_A S 1025) j (nI 1))) 1023 (upd (s_A S 1023) j (s_I S 1121 1000))) 1024 (upd (s_A S 1024) j (s_I S 1122 1000))) rfl ?_
    generalize hT : s_setA (s_setA (s_setA S 1025 (upd (s_A S 1025) j (nI 1))) 1023 (upd (s_A S 1023) j (s_I S 1121 1000))) 1024 (upd (s_A S 1024) j (s_I S 1122 1000)) = T
    have eI : imageS S j = s_setA T 1022 (va_cpy (s_A T 1010) (s_A T 1022) 0 (190 * j) 190) := by subst hT; rfl
    have e10 : s_A S 1010 10 = s_A T 1010 10 := by subst hT; rfl
    have hmT : gx_m T := by subst hT; exact hm
    rw [eI, e10]
    clear eI e10 hT
    refine g_iconst (pc := 41) (v := nI 0) C dX12_image_41 (by decide) ?_
    refine g_istore_n (pc := 42) (L' := [_, some (.int _), _]) C dX12_image_42 rfl rfl ?_
    have loop : ∀ k n, n + k = 190 → gx_G w X (s_setA T 1022 (va_cpy (s_A T 1010) (s_A T 1022) 0 (190 * j) n)) 0 0 43 [some (.ref (ad (w_b w) 1000)), some (.int (nI j)), some (.int (nI n))] [] (gx_E w X (pI (s_A T 1010 10) (s_setA T 1022 (va_cpy (s_A T 1010) (s_A T 1022) 0 (190 * j) 190)))) := by
      have hm := hmT
      intro k
      induction k with
      | zero =>
        intro n hn
        have hn : n = 190 := hn
        subst hn
        refine g_iload_n (pc := 43) C dX12_image_43 rfl ?_
        refine g_sipush (pc := 44) (v := nI 190) C dX12_image_44 (by decide) ?_
        refine g_icmp_ge (pc := 47) C 74 dX12_image_47 rfl (fun h => ?_) (fun h => ?_)
        · refine g_aload_n (pc := 74) C dX12_image_74 rfl ?_
          refine mg_39 (pc := 75) C (by exact hm) dX12_image_75 ?_
          refine g_bipush (pc := 78) (v := nI 10) C dX12_image_78 (by decide) ?_
          refine n_iald (pc := 80) (k := 1010) (n := 190) C rfl rfl (by exact m_z hm rfl) isn_v rfl (by omega) dX12_image_80 ?_
          exact g_ireturn (pc := 81) C ⟨rfl, rfl⟩ dX12_image_81 ⟨rfl, rfl⟩
        · exact absurd (nI_le (Nat.le_refl 190) (by omega)) h
      | succ k ih =>
        intro n hn
        refine g_iload_n (pc := 43) C dX12_image_43 rfl ?_
        refine g_sipush (pc := 44) (v := nI 190) C dX12_image_44 (by decide) ?_
        refine g_icmp_ge (pc := 47) C 74 dX12_image_47 rfl (fun h => ?_) (fun h => ?_)
        · exact absurd h (nI_ge (by omega) (by omega))
        · refine g_aload_n (pc := 50) C dX12_image_50 rfl ?_
          refine mg_80 (pc := 51) C (by exact hm) dX12_image_51 ?_
          refine g_sipush (pc := 54) (v := nI 190) C dX12_image_54 (by decide) ?_
          refine g_iload_n (pc := 57) C dX12_image_57 rfl ?_
          refine g_imul (pc := 58) C dX12_image_58 ?_
          refine g_iload_n (pc := 59) C dX12_image_59 rfl ?_
          refine g_iadd (pc := 60) C dX12_image_60 ?_
          refine g_aload_n (pc := 61) C dX12_image_61 rfl ?_
          refine mg_39 (pc := 62) C (by exact hm) dX12_image_62 ?_
          refine g_iload_n (pc := 65) C dX12_image_65 rfl ?_
          refine n_iald (pc := 66) (k := 1010) (n := 190) C rfl rfl (by exact m_z hm rfl) isn_v rfl (by omega) dX12_image_66 ?_
          refine n_iast (pc := 67) (k := 1022) (n := 760) C rfl rfl (by exact m_z hm rfl) (isn_add (isn_mul isn_v isn_v) isn_v) rfl (by omega) dX12_image_67 ?_
          refine gx_S (S' := s_setA T 1022 (va_cpy (s_A T 1010) (s_A T 1022) 0 (190 * j) (n + 1))) ?_ ?_
          · rw [s_AA]
            refine congrArg _ ?_
            have := cpy_step (f := s_A T 1010) (g := s_A T 1022) (sp := 0) (dp := 190 * j) (n := n)
            rw [Nat.zero_add] at this
            exact this
          · refine g_iinc (pc := 68) (L' := [_, some (.int _), _]) C dX12_image_68 rfl (nI_1 _) rfl ?_
            refine g_goto (pc := 71) C 43 dX12_image_71 rfl ?_
            exact ih (n + 1) (by omega)
    refine gx_S ?_ (loop 190 0 rfl)
    rw [cpy_0, s_A_id]
  · have h := bI_0.mp (Decidable.not_not.mp h)
    refine g_iconst (pc := 12) (v := -1) C dX12_image_12 (by decide) ?_
    exact g_ireturn (pc := 13) C ⟨rfl, rfl⟩ dX12_image_13 (⟨by rw [if_neg h], by rw [if_neg h]⟩)
def backS (S : St) (k : Nat) : St := s_setA (s_setI (s_setI (s_setI S 1121 1000 (s_A S 1023 k)) 1122 1000 (s_A S 1024 k)) 1125 1000 (nI 0)) 1010 (va_cpy (s_A S 1022) (s_A S 1010) (190 * k) 0 190)
abbrev backOK (S : St) (k : Int32) : Prop := (nI 0 ≤ k ∧ k ≤ nI 3) ∧ ¬ s_A S 1025 k.toNatClampNeg = 0
theorem c_X12_back (w : Wd) (l : Launch) (S : St) (hm : gx_m S) (k : Int32) : gx_M w l yX12_back cX12_back 3 (some .int) rmX12_back [.ref (ad (w_b w) 1000), .int k] S (pI (if backOK S k then s_A S 1022 (190 * k.toNatClampNeg + 10) else -1) (if backOK S k then backS S k.toNatClampNeg else S)) := by
  refine gx_start rfl 1 rfl (Nat.le_of_ble_eq_true rfl) ?_
  intro X C _ hl
  subst hl
  refine gx_L (L' := [_, _, _]) rfl ?_
  refine g_iload_n (pc := 0) C dX12_back_0 rfl ?_
  refine g_i2l (pc := 1) C dX12_back_1 ?_
  refine g_lconst (pc := 2) (v := 0) C dX12_back_2 (by decide) ?_
  refine g_ldc2 (pc := 3) (v := 3) C dX12_back_3 kl_X12_457 ?_
  refine cf_X12_130 (pc := 6) C (c_X12_in32 _ _ _ _ (nI 0) (nI 3) _ _ rfl rfl) ⟨rfl, rfl⟩ ⟨rfl, rfl⟩ ⟨Nat.zero_le _, Nat.zero_le _⟩ rfl (Nat.le_of_ble_eq_true rfl) dX12_back_6 ?_
  refine g_if_eq (pc := 9) C 21 dX12_back_9 rfl (fun h => ?_) (fun h => ?_)
  · have h := bI_0.mp h
    refine g_iconst (pc := 21) (v := -1) C dX12_back_21 (by decide) ?_
    exact g_ireturn (pc := 22) C ⟨rfl, rfl⟩ dX12_back_22 (⟨by rw [if_neg (fun q => h q.1)], by rw [if_neg (fun q => h q.1)]⟩)
  · have h := Decidable.not_not.mp (fun q => h (bI_0.mpr q))
    obtain ⟨j, hj, rfl⟩ := nat_of (b := 3) (by omega) h
    have ec : (nI j).toNatClampNeg = j := nI_clamp (by omega)
    refine g_aload_n (pc := 12) C dX12_back_12 rfl ?_
    refine mg_89 (pc := 13) C (by exact hm) dX12_back_13 ?_
    refine g_iload_n (pc := 16) C dX12_back_16 rfl ?_
    refine n_zald (pc := 17) (k := 1025) (n := 4) C rfl rfl (by exact m_z hm rfl) isn_v rfl (by omega) dX12_back_17 ?_
    refine g_if_ne (pc := 18) C 23 dX12_back_18 rfl (fun h2 => ?_) (fun h2 => ?_)
    · have hok : backOK S (nI j) := ⟨h, by rw [ec]; exact h2⟩
      rw [if_pos hok, if_pos hok, ec]
      refine g_aload_n (pc := 23) C dX12_back_23 rfl ?_
      refine g_aload_n (pc := 24) C dX12_back_24 rfl ?_
      refine mg_83 (pc := 25) C (by exact hm) dX12_back_25 ?_
      refine g_iload_n (pc := 28) C dX12_back_28 rfl ?_
      refine n_iald (pc := 29) (k := 1023) (n := 4) C rfl rfl (by exact m_z hm rfl) isn_v rfl (by omega) dX12_back_29 ?_
      refine mp_42 (pc := 30) C (by exact hm) dX12_back_30 ?_
      refine gx_S (S' := s_setI S 1121 1000 (s_A S 1023 j)) rfl ?_
      refine g_aload_n (pc := 33) C dX12_back_33 rfl ?_
      refine g_aload_n (pc := 34) C dX12_back_34 rfl ?_
      refine mg_86 (pc := 35) C (by exact hm) dX12_back_35 ?_
      refine g_iload_n (pc := 38) C dX12_back_38 rfl ?_
      refine n_iald (pc := 39) (k := 1024) (n := 4) C rfl rfl (by exact m_z hm rfl) isn_v rfl (by omega) dX12_back_39 ?_
      refine mp_437 (pc := 40) C (by exact hm) dX12_back_40 ?_
      refine gx_S (S' := s_setI (s_setI S 1121 1000 (s_A S 1023 j)) 1122 1000 (s_A S 1024 j)) rfl ?_
      refine g_aload_n (pc := 43) C dX12_back_43 rfl ?_
      refine g_iconst (pc := 44) (v := nI 0) C dX12_back_44 (by decide) ?_
      refine mp_279 (pc := 45) C (by exact hm) dX12_back_45 ?_
      generalize hT : s_setI (s_setI (s_setI S 1121 1000 (s_A S 1023 j)) 1122 1000 (s_A S 1024 j)) 1125 1000 (nI 0) = T
      have eI : backS S j = s_setA T 1010 (va_cpy (s_A T 1022) (s_A T 1010) (190 * j) 0 190) := by subst hT; rfl
      have e10 : s_A S 1022 (190 * j + 10) = s_A T 1022 (190 * j + 10) := by subst hT; rfl
      have hmT : gx_m T := by subst hT; exact hm
      rw [eI, e10]
      clear eI e10 hT
      refine g_iconst (pc := 48) (v := nI 0) C dX12_back_48 (by decide) ?_
      refine g_istore_n (pc := 49) (L' := [_, some (.int _), _]) C dX12_back_49 rfl rfl ?_
      have loop : ∀ k n, n + k = 190 → gx_G w X (s_setA T 1010 (va_cpy (s_A T 1022) (s_A T 1010) (190 * j) 0 n)) 0 0 50 [some (.ref (ad (w_b w) 1000)), some (.int (nI j)), some (.int (nI n))] [] (gx_E w X (pI (s_A T 1022 (190 * j + 10)) (s_setA T 1010 (va_cpy (s_A T 1022) (s_A T 1010) (190 * j) 0 190)))) := by
        have hm := hmT
        intro k
        induction k with
        | zero =>
          intro n hn
          have hn : n = 190 := hn
          subst hn
          refine g_iload_n (pc := 50) C dX12_back_50 rfl ?_
          refine g_sipush (pc := 51) (v := nI 190) C dX12_back_51 (by decide) ?_
          refine g_icmp_ge (pc := 54) C 81 dX12_back_54 rfl (fun h => ?_) (fun h => ?_)
          · refine g_aload_n (pc := 81) C dX12_back_81 rfl ?_
            refine mg_39 (pc := 82) C (by exact hm) dX12_back_82 ?_
            refine g_bipush (pc := 85) (v := nI 10) C dX12_back_85 (by decide) ?_
            refine n_iald (pc := 87) (k := 1010) (n := 190) C rfl rfl (by exact m_z hm rfl) isn_v rfl (by omega) dX12_back_87 ?_
            exact g_ireturn (pc := 88) C ⟨rfl, rfl⟩ dX12_back_88 ⟨congrArg (fun z => some (Value.int z)) (by show va_cpy (s_A T 1022) (s_A T 1010) (190 * j) 0 190 10 = _; simp only [va_cpy]; rw [if_pos (by omega)]), rfl⟩
          · exact absurd (nI_le (Nat.le_refl 190) (by omega)) h
        | succ k ih =>
          intro n hn
          refine g_iload_n (pc := 50) C dX12_back_50 rfl ?_
          refine g_sipush (pc := 51) (v := nI 190) C dX12_back_51 (by decide) ?_
          refine g_icmp_ge (pc := 54) C 81 dX12_back_54 rfl (fun h => ?_) (fun h => ?_)
          · exact absurd h (nI_ge (by omega) (by omega))
          · refine g_aload_n (pc := 57) C dX12_back_57 rfl ?_
            refine mg_39 (pc := 58) C (by exact hm) dX12_back_58 ?_
            refine g_iload_n (pc := 61) C dX12_back_61 rfl ?_
            refine g_aload_n (pc := 62) C dX12_back_62 rfl ?_
            refine mg_80 (pc := 63) C (by exact hm) dX12_back_63 ?_
            refine g_sipush (pc := 66) (v := nI 190) C dX12_back_66 (by decide) ?_
            refine g_iload_n (pc := 69) C dX12_back_69 rfl ?_
            refine g_imul (pc := 70) C dX12_back_70 ?_
            refine g_iload_n (pc := 71) C dX12_back_71 rfl ?_
            refine g_iadd (pc := 72) C dX12_back_72 ?_
            refine n_iald (pc := 73) (k := 1022) (n := 760) C rfl rfl (by exact m_z hm rfl) (isn_add (isn_mul isn_v isn_v) isn_v) rfl (by omega) dX12_back_73 ?_
            refine n_iast (pc := 74) (k := 1010) (n := 190) C rfl rfl (by exact m_z hm rfl) isn_v rfl (by omega) dX12_back_74 ?_
            refine gx_S (S' := s_setA T 1010 (va_cpy (s_A T 1022) (s_A T 1010) (190 * j) 0 (n + 1))) ?_ ?_
            · rw [s_AA]
              refine congrArg _ ?_
              have := cpy_step (f := s_A T 1022) (g := s_A T 1010) (sp := 190 * j) (dp := 0) (n := n)
              rw [Nat.zero_add] at this
              exact this
            · refine g_iinc (pc := 75) (L' := [_, some (.int _), _]) C dX12_back_75 rfl (nI_1 _) rfl ?_
              refine g_goto (pc := 78) C 50 dX12_back_78 rfl ?_
              exact ih (n + 1) (by omega)
      refine gx_S ?_ (loop 190 0 rfl)
      rw [cpy_0, s_A_id]
    · have h2 := Decidable.not_not.mp h2
      refine g_iconst (pc := 21) (v := -1) C dX12_back_21 (by decide) ?_
      exact g_ireturn (pc := 22) C ⟨rfl, rfl⟩ dX12_back_22 (⟨by rw [if_neg (fun q => q.2 (by rw [ec]; exact h2))], by rw [if_neg (fun q => q.2 (by rw [ec]; exact h2))]⟩)
