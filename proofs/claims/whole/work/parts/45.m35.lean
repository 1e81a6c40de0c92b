/-! ===== the reference's texts: wordHere, strength, makes ===== -/
theorem skF_end {T : Nat → Int32} {L : Nat} : ∀ d n, L - n = d → L ≤ skF T L d n ∨ ¬ T (skF T L d n) = nI 32
  | 0, n, h => Or.inl (by simp only [skF]; omega)
  | d + 1, n, h => by
    by_cases e : n < L ∧ T n = nI 32
    · rw [show skF T L (d + 1) n = skF T L d (n + 1) from if_pos e]
      exact skF_end d (n + 1) (by omega)
    · rw [show skF T L (d + 1) n = n from if_neg e]
      exact Or.inr (fun q => e ⟨by omega, q⟩)
theorem skN_idem {T : Nat → Int32} {L n : Nat} : skN T L (skN T L n) = skN T L n := by
  have h := skF_end (T := T) (L := L) (L - n) n rfl
  unfold skN
  generalize skF T L (L - n) n = m at h ⊢
  cases e : L - m with
  | zero => rfl
  | succ d => exact if_neg (fun q => h.elim (fun z => absurd q.1 (by omega)) (fun z => z q.2))
theorem skN_le {T : Nat → Int32} {L n : Nat} (hn : n ≤ 400) (hL : L ≤ 400) : skN T L n ≤ 400 := by
  have := skF_le (T := T) (L := L) (L - n) n
  unfold skN; omega
theorem c_X12_isWordM (w : Wd) (l : Launch) (S : St) (hm : gx_m S) (L : Nat) (ht : gx_t S L) (n : Nat) (hn : n ≤ 400) (he : skN (s_A S 1001) L n = n) (v : Int64) : gx_M w l yX12_isWord cX12_isWord 6 (some .boolean) rmX12_isWord [.ref (ad (w_b w) 1000), .long v] (nxS S n) (pI (bI (wdP (s_A S 1001) L n v)) (nxS S n)) := by
  have := c_X12_isWord w l S hm L ht n hn v
  rw [he] at this
  exact this
def whF (T : Nat → Int32) (L m : Nat) : Int32 := if bI (wdP T L m 123581014175598) = 0 then if bI (wdP T L m 6383981) = 0 then if bI (wdP T L m 444301539187) = 0 then if bI (wdP T L m 465624852596) = 0 then if bI (wdP T L m 1936286821) = 0 then if bI (wdP T L m 1752135026) = 0 then if bI (wdP T L m 131277443786868) = 0 then if bI (wdP T L m 1919905645) = 0 then if bI (wdP T L m 107075403346532) = 0 then if bI (wdP T L m 512735409267) = 0 then if bI (wdP T L m 1836020325) = 0 then if bI (wdP T L m 6713191) = 0 then -1 else nI 11 else nI 10 else nI 9 else nI 8 else nI 7 else nI 6 else nI 5 else nI 4 else nI 3 else nI 2 else nI 1 else nI 0
theorem c_X12_wordHere (w : Wd) (l : Launch) (S : St) (hm : gx_m S) (L : Nat) (ht : gx_t S L) (n : Nat) (hn : n ≤ 400) : gx_M w l yX12_wordHere cX12_wordHere 1 (some .int) rmX12_wordHere [.ref (ad (w_b w) 1000)] (nxS S n) (pI (whF (s_A S 1001) L (skN (s_A S 1001) L n)) (nxS S (skN (s_A S 1001) L n))) := by
  have hmA : ∀ n, gx_m (nxS S n) := fun n => hm
  have he : skN (s_A S 1001) L (skN (s_A S 1001) L n) = skN (s_A S 1001) L n := skN_idem
  have hm2 : skN (s_A S 1001) L n ≤ 400 := skN_le hn ht.2
  refine gx_start rfl 0 rfl (Nat.le_of_ble_eq_true rfl) ?_
  intro X C _ hl
  subst hl
  refine gx_L (L' := [_]) rfl ?_
  refine g_aload_n (pc := 0) C dX12_wordHere_0 rfl ?_
  refine g_ldc2 (pc := 1) (v := 123581014175598) C dX12_wordHere_1 kl_X12_134 ?_
  refine cf_X12_113 (pc := 4) C rfl (m_z (hmA _) rfl) (c_X12_isWord _ _ S hm L ht n hn _) ⟨rfl, rfl⟩ ⟨rfl, rfl⟩ ⟨Nat.zero_le _, Nat.zero_le _⟩ rfl (Nat.le_of_ble_eq_true rfl) dX12_wordHere_4 ?_
  generalize skN (s_A S 1001) L n = m at he hm2 ⊢
  refine g_if_eq (pc := 7) C 12 dX12_wordHere_7 rfl (fun h7 => ?_) (fun h7 => ?_)
  · refine g_aload_n (pc := 12) C dX12_wordHere_12 rfl ?_
    refine g_ldc2 (pc := 13) (v := 6383981) C dX12_wordHere_13 kl_X12_136 ?_
    refine cf_X12_113 (pc := 16) C rfl (m_z (hmA _) rfl) (c_X12_isWordM _ _ S hm L ht m hm2 he _) ⟨rfl, rfl⟩ ⟨rfl, rfl⟩ ⟨Nat.zero_le _, Nat.zero_le _⟩ rfl (Nat.le_of_ble_eq_true rfl) dX12_wordHere_16 ?_
    refine g_if_eq (pc := 19) C 24 dX12_wordHere_19 rfl (fun h19 => ?_) (fun h19 => ?_)
    · refine g_aload_n (pc := 24) C dX12_wordHere_24 rfl ?_
      refine g_ldc2 (pc := 25) (v := 444301539187) C dX12_wordHere_25 kl_X12_138 ?_
      refine cf_X12_113 (pc := 28) C rfl (m_z (hmA _) rfl) (c_X12_isWordM _ _ S hm L ht m hm2 he _) ⟨rfl, rfl⟩ ⟨rfl, rfl⟩ ⟨Nat.zero_le _, Nat.zero_le _⟩ rfl (Nat.le_of_ble_eq_true rfl) dX12_wordHere_28 ?_
      refine g_if_eq (pc := 31) C 36 dX12_wordHere_31 rfl (fun h31 => ?_) (fun h31 => ?_)
      · refine g_aload_n (pc := 36) C dX12_wordHere_36 rfl ?_
        refine g_ldc2 (pc := 37) (v := 465624852596) C dX12_wordHere_37 kl_X12_140 ?_
        refine cf_X12_113 (pc := 40) C rfl (m_z (hmA _) rfl) (c_X12_isWordM _ _ S hm L ht m hm2 he _) ⟨rfl, rfl⟩ ⟨rfl, rfl⟩ ⟨Nat.zero_le _, Nat.zero_le _⟩ rfl (Nat.le_of_ble_eq_true rfl) dX12_wordHere_40 ?_
        refine g_if_eq (pc := 43) C 48 dX12_wordHere_43 rfl (fun h43 => ?_) (fun h43 => ?_)
        · refine g_aload_n (pc := 48) C dX12_wordHere_48 rfl ?_
          refine g_ldc2 (pc := 49) (v := 1936286821) C dX12_wordHere_49 kl_X12_142 ?_
          refine cf_X12_113 (pc := 52) C rfl (m_z (hmA _) rfl) (c_X12_isWordM _ _ S hm L ht m hm2 he _) ⟨rfl, rfl⟩ ⟨rfl, rfl⟩ ⟨Nat.zero_le _, Nat.zero_le _⟩ rfl (Nat.le_of_ble_eq_true rfl) dX12_wordHere_52 ?_
          refine g_if_eq (pc := 55) C 60 dX12_wordHere_55 rfl (fun h55 => ?_) (fun h55 => ?_)
          · refine g_aload_n (pc := 60) C dX12_wordHere_60 rfl ?_
            refine g_ldc2 (pc := 61) (v := 1752135026) C dX12_wordHere_61 kl_X12_144 ?_
            refine cf_X12_113 (pc := 64) C rfl (m_z (hmA _) rfl) (c_X12_isWordM _ _ S hm L ht m hm2 he _) ⟨rfl, rfl⟩ ⟨rfl, rfl⟩ ⟨Nat.zero_le _, Nat.zero_le _⟩ rfl (Nat.le_of_ble_eq_true rfl) dX12_wordHere_64 ?_
            refine g_if_eq (pc := 67) C 72 dX12_wordHere_67 rfl (fun h67 => ?_) (fun h67 => ?_)
            · refine g_aload_n (pc := 72) C dX12_wordHere_72 rfl ?_
              refine g_ldc2 (pc := 73) (v := 131277443786868) C dX12_wordHere_73 kl_X12_146 ?_
              refine cf_X12_113 (pc := 76) C rfl (m_z (hmA _) rfl) (c_X12_isWordM _ _ S hm L ht m hm2 he _) ⟨rfl, rfl⟩ ⟨rfl, rfl⟩ ⟨Nat.zero_le _, Nat.zero_le _⟩ rfl (Nat.le_of_ble_eq_true rfl) dX12_wordHere_76 ?_
              refine g_if_eq (pc := 79) C 85 dX12_wordHere_79 rfl (fun h79 => ?_) (fun h79 => ?_)
              · refine g_aload_n (pc := 85) C dX12_wordHere_85 rfl ?_
                refine g_ldc2 (pc := 86) (v := 1919905645) C dX12_wordHere_86 kl_X12_148 ?_
                refine cf_X12_113 (pc := 89) C rfl (m_z (hmA _) rfl) (c_X12_isWordM _ _ S hm L ht m hm2 he _) ⟨rfl, rfl⟩ ⟨rfl, rfl⟩ ⟨Nat.zero_le _, Nat.zero_le _⟩ rfl (Nat.le_of_ble_eq_true rfl) dX12_wordHere_89 ?_
                refine g_if_eq (pc := 92) C 98 dX12_wordHere_92 rfl (fun h92 => ?_) (fun h92 => ?_)
                · refine g_aload_n (pc := 98) C dX12_wordHere_98 rfl ?_
                  refine g_ldc2 (pc := 99) (v := 107075403346532) C dX12_wordHere_99 kl_X12_150 ?_
                  refine cf_X12_113 (pc := 102) C rfl (m_z (hmA _) rfl) (c_X12_isWordM _ _ S hm L ht m hm2 he _) ⟨rfl, rfl⟩ ⟨rfl, rfl⟩ ⟨Nat.zero_le _, Nat.zero_le _⟩ rfl (Nat.le_of_ble_eq_true rfl) dX12_wordHere_102 ?_
                  refine g_if_eq (pc := 105) C 111 dX12_wordHere_105 rfl (fun h105 => ?_) (fun h105 => ?_)
                  · refine g_aload_n (pc := 111) C dX12_wordHere_111 rfl ?_
                    refine g_ldc2 (pc := 112) (v := 512735409267) C dX12_wordHere_112 kl_X12_152 ?_
                    refine cf_X12_113 (pc := 115) C rfl (m_z (hmA _) rfl) (c_X12_isWordM _ _ S hm L ht m hm2 he _) ⟨rfl, rfl⟩ ⟨rfl, rfl⟩ ⟨Nat.zero_le _, Nat.zero_le _⟩ rfl (Nat.le_of_ble_eq_true rfl) dX12_wordHere_115 ?_
                    refine g_if_eq (pc := 118) C 124 dX12_wordHere_118 rfl (fun h118 => ?_) (fun h118 => ?_)
                    · refine g_aload_n (pc := 124) C dX12_wordHere_124 rfl ?_
                      refine g_ldc2 (pc := 125) (v := 1836020325) C dX12_wordHere_125 kl_X12_154 ?_
                      refine cf_X12_113 (pc := 128) C rfl (m_z (hmA _) rfl) (c_X12_isWordM _ _ S hm L ht m hm2 he _) ⟨rfl, rfl⟩ ⟨rfl, rfl⟩ ⟨Nat.zero_le _, Nat.zero_le _⟩ rfl (Nat.le_of_ble_eq_true rfl) dX12_wordHere_128 ?_
                      refine g_if_eq (pc := 131) C 139 dX12_wordHere_131 rfl (fun h131 => ?_) (fun h131 => ?_)
                      · refine g_aload_n (pc := 139) C dX12_wordHere_139 rfl ?_
                        refine g_ldc2 (pc := 140) (v := 6713191) C dX12_wordHere_140 kl_X12_156 ?_
                        refine cf_X12_113 (pc := 143) C rfl (m_z (hmA _) rfl) (c_X12_isWordM _ _ S hm L ht m hm2 he _) ⟨rfl, rfl⟩ ⟨rfl, rfl⟩ ⟨Nat.zero_le _, Nat.zero_le _⟩ rfl (Nat.le_of_ble_eq_true rfl) dX12_wordHere_143 ?_
                        refine g_if_eq (pc := 146) C 154 dX12_wordHere_146 rfl (fun h146 => ?_) (fun h146 => ?_)
                        · refine g_iconst (pc := 154) (v := -1) C dX12_wordHere_154 (by decide) ?_
                          exact g_ireturn (pc := 155) C ⟨rfl, rfl⟩ dX12_wordHere_155 (by unfold whF; (first | rw [if_neg h7] | rw [if_pos h7, if_neg h19] | rw [if_pos h7, if_pos h19, if_neg h31] | rw [if_pos h7, if_pos h19, if_pos h31, if_neg h43] | rw [if_pos h7, if_pos h19, if_pos h31, if_pos h43, if_neg h55] | rw [if_pos h7, if_pos h19, if_pos h31, if_pos h43, if_pos h55, if_neg h67] | rw [if_pos h7, if_pos h19, if_pos h31, if_pos h43, if_pos h55, if_pos h67, if_neg h79] | rw [if_pos h7, if_pos h19, if_pos h31, if_pos h43, if_pos h55, if_pos h67, if_pos h79, if_neg h92] | rw [if_pos h7, if_pos h19, if_pos h31, if_pos h43, if_pos h55, if_pos h67, if_pos h79, if_pos h92, if_neg h105] | rw [if_pos h7, if_pos h19, if_pos h31, if_pos h43, if_pos h55, if_pos h67, if_pos h79, if_pos h92, if_pos h105, if_neg h118] | rw [if_pos h7, if_pos h19, if_pos h31, if_pos h43, if_pos h55, if_pos h67, if_pos h79, if_pos h92, if_pos h105, if_pos h118, if_neg h131] | rw [if_pos h7, if_pos h19, if_pos h31, if_pos h43, if_pos h55, if_pos h67, if_pos h79, if_pos h92, if_pos h105, if_pos h118, if_pos h131, if_neg h146] | rw [if_pos h7, if_pos h19, if_pos h31, if_pos h43, if_pos h55, if_pos h67, if_pos h79, if_pos h92, if_pos h105, if_pos h118, if_pos h131, if_pos h146]); exact ⟨rfl, rfl⟩)
                        · refine g_bipush (pc := 149) (v := nI 11) C dX12_wordHere_149 (by decide) ?_
                          refine g_goto (pc := 151) C 155 dX12_wordHere_151 rfl ?_
                          exact g_ireturn (pc := 155) C ⟨rfl, rfl⟩ dX12_wordHere_155 (by unfold whF; (first | rw [if_neg h7] | rw [if_pos h7, if_neg h19] | rw [if_pos h7, if_pos h19, if_neg h31] | rw [if_pos h7, if_pos h19, if_pos h31, if_neg h43] | rw [if_pos h7, if_pos h19, if_pos h31, if_pos h43, if_neg h55] | rw [if_pos h7, if_pos h19, if_pos h31, if_pos h43, if_pos h55, if_neg h67] | rw [if_pos h7, if_pos h19, if_pos h31, if_pos h43, if_pos h55, if_pos h67, if_neg h79] | rw [if_pos h7, if_pos h19, if_pos h31, if_pos h43, if_pos h55, if_pos h67, if_pos h79, if_neg h92] | rw [if_pos h7, if_pos h19, if_pos h31, if_pos h43, if_pos h55, if_pos h67, if_pos h79, if_pos h92, if_neg h105] | rw [if_pos h7, if_pos h19, if_pos h31, if_pos h43, if_pos h55, if_pos h67, if_pos h79, if_pos h92, if_pos h105, if_neg h118] | rw [if_pos h7, if_pos h19, if_pos h31, if_pos h43, if_pos h55, if_pos h67, if_pos h79, if_pos h92, if_pos h105, if_pos h118, if_neg h131] | rw [if_pos h7, if_pos h19, if_pos h31, if_pos h43, if_pos h55, if_pos h67, if_pos h79, if_pos h92, if_pos h105, if_pos h118, if_pos h131, if_neg h146] | rw [if_pos h7, if_pos h19, if_pos h31, if_pos h43, if_pos h55, if_pos h67, if_pos h79, if_pos h92, if_pos h105, if_pos h118, if_pos h131, if_pos h146]); exact ⟨rfl, rfl⟩)
                      · refine g_bipush (pc := 134) (v := nI 10) C dX12_wordHere_134 (by decide) ?_
                        refine g_goto (pc := 136) C 155 dX12_wordHere_136 rfl ?_
                        exact g_ireturn (pc := 155) C ⟨rfl, rfl⟩ dX12_wordHere_155 (by unfold whF; (first | rw [if_neg h7] | rw [if_pos h7, if_neg h19] | rw [if_pos h7, if_pos h19, if_neg h31] | rw [if_pos h7, if_pos h19, if_pos h31, if_neg h43] | rw [if_pos h7, if_pos h19, if_pos h31, if_pos h43, if_neg h55] | rw [if_pos h7, if_pos h19, if_pos h31, if_pos h43, if_pos h55, if_neg h67] | rw [if_pos h7, if_pos h19, if_pos h31, if_pos h43, if_pos h55, if_pos h67, if_neg h79] | rw [if_pos h7, if_pos h19, if_pos h31, if_pos h43, if_pos h55, if_pos h67, if_pos h79, if_neg h92] | rw [if_pos h7, if_pos h19, if_pos h31, if_pos h43, if_pos h55, if_pos h67, if_pos h79, if_pos h92, if_neg h105] | rw [if_pos h7, if_pos h19, if_pos h31, if_pos h43, if_pos h55, if_pos h67, if_pos h79, if_pos h92, if_pos h105, if_neg h118] | rw [if_pos h7, if_pos h19, if_pos h31, if_pos h43, if_pos h55, if_pos h67, if_pos h79, if_pos h92, if_pos h105, if_pos h118, if_neg h131] | rw [if_pos h7, if_pos h19, if_pos h31, if_pos h43, if_pos h55, if_pos h67, if_pos h79, if_pos h92, if_pos h105, if_pos h118, if_pos h131, if_neg h146] | rw [if_pos h7, if_pos h19, if_pos h31, if_pos h43, if_pos h55, if_pos h67, if_pos h79, if_pos h92, if_pos h105, if_pos h118, if_pos h131, if_pos h146]); exact ⟨rfl, rfl⟩)
                    · refine g_bipush (pc := 121) (v := nI 9) C dX12_wordHere_121 (by decide) ?_
                      exact g_ireturn (pc := 123) C ⟨rfl, rfl⟩ dX12_wordHere_123 (by unfold whF; (first | rw [if_neg h7] | rw [if_pos h7, if_neg h19] | rw [if_pos h7, if_pos h19, if_neg h31] | rw [if_pos h7, if_pos h19, if_pos h31, if_neg h43] | rw [if_pos h7, if_pos h19, if_pos h31, if_pos h43, if_neg h55] | rw [if_pos h7, if_pos h19, if_pos h31, if_pos h43, if_pos h55, if_neg h67] | rw [if_pos h7, if_pos h19, if_pos h31, if_pos h43, if_pos h55, if_pos h67, if_neg h79] | rw [if_pos h7, if_pos h19, if_pos h31, if_pos h43, if_pos h55, if_pos h67, if_pos h79, if_neg h92] | rw [if_pos h7, if_pos h19, if_pos h31, if_pos h43, if_pos h55, if_pos h67, if_pos h79, if_pos h92, if_neg h105] | rw [if_pos h7, if_pos h19, if_pos h31, if_pos h43, if_pos h55, if_pos h67, if_pos h79, if_pos h92, if_pos h105, if_neg h118] | rw [if_pos h7, if_pos h19, if_pos h31, if_pos h43, if_pos h55, if_pos h67, if_pos h79, if_pos h92, if_pos h105, if_pos h118, if_neg h131] | rw [if_pos h7, if_pos h19, if_pos h31, if_pos h43, if_pos h55, if_pos h67, if_pos h79, if_pos h92, if_pos h105, if_pos h118, if_pos h131, if_neg h146] | rw [if_pos h7, if_pos h19, if_pos h31, if_pos h43, if_pos h55, if_pos h67, if_pos h79, if_pos h92, if_pos h105, if_pos h118, if_pos h131, if_pos h146]); exact ⟨rfl, rfl⟩)
                  · refine g_bipush (pc := 108) (v := nI 8) C dX12_wordHere_108 (by decide) ?_
                    exact g_ireturn (pc := 110) C ⟨rfl, rfl⟩ dX12_wordHere_110 (by unfold whF; (first | rw [if_neg h7] | rw [if_pos h7, if_neg h19] | rw [if_pos h7, if_pos h19, if_neg h31] | rw [if_pos h7, if_pos h19, if_pos h31, if_neg h43] | rw [if_pos h7, if_pos h19, if_pos h31, if_pos h43, if_neg h55] | rw [if_pos h7, if_pos h19, if_pos h31, if_pos h43, if_pos h55, if_neg h67] | rw [if_pos h7, if_pos h19, if_pos h31, if_pos h43, if_pos h55, if_pos h67, if_neg h79] | rw [if_pos h7, if_pos h19, if_pos h31, if_pos h43, if_pos h55, if_pos h67, if_pos h79, if_neg h92] | rw [if_pos h7, if_pos h19, if_pos h31, if_pos h43, if_pos h55, if_pos h67, if_pos h79, if_pos h92, if_neg h105] | rw [if_pos h7, if_pos h19, if_pos h31, if_pos h43, if_pos h55, if_pos h67, if_pos h79, if_pos h92, if_pos h105, if_neg h118] | rw [if_pos h7, if_pos h19, if_pos h31, if_pos h43, if_pos h55, if_pos h67, if_pos h79, if_pos h92, if_pos h105, if_pos h118, if_neg h131] | rw [if_pos h7, if_pos h19, if_pos h31, if_pos h43, if_pos h55, if_pos h67, if_pos h79, if_pos h92, if_pos h105, if_pos h118, if_pos h131, if_neg h146] | rw [if_pos h7, if_pos h19, if_pos h31, if_pos h43, if_pos h55, if_pos h67, if_pos h79, if_pos h92, if_pos h105, if_pos h118, if_pos h131, if_pos h146]); exact ⟨rfl, rfl⟩)
                · refine g_bipush (pc := 95) (v := nI 7) C dX12_wordHere_95 (by decide) ?_
                  exact g_ireturn (pc := 97) C ⟨rfl, rfl⟩ dX12_wordHere_97 (by unfold whF; (first | rw [if_neg h7] | rw [if_pos h7, if_neg h19] | rw [if_pos h7, if_pos h19, if_neg h31] | rw [if_pos h7, if_pos h19, if_pos h31, if_neg h43] | rw [if_pos h7, if_pos h19, if_pos h31, if_pos h43, if_neg h55] | rw [if_pos h7, if_pos h19, if_pos h31, if_pos h43, if_pos h55, if_neg h67] | rw [if_pos h7, if_pos h19, if_pos h31, if_pos h43, if_pos h55, if_pos h67, if_neg h79] | rw [if_pos h7, if_pos h19, if_pos h31, if_pos h43, if_pos h55, if_pos h67, if_pos h79, if_neg h92] | rw [if_pos h7, if_pos h19, if_pos h31, if_pos h43, if_pos h55, if_pos h67, if_pos h79, if_pos h92, if_neg h105] | rw [if_pos h7, if_pos h19, if_pos h31, if_pos h43, if_pos h55, if_pos h67, if_pos h79, if_pos h92, if_pos h105, if_neg h118] | rw [if_pos h7, if_pos h19, if_pos h31, if_pos h43, if_pos h55, if_pos h67, if_pos h79, if_pos h92, if_pos h105, if_pos h118, if_neg h131] | rw [if_pos h7, if_pos h19, if_pos h31, if_pos h43, if_pos h55, if_pos h67, if_pos h79, if_pos h92, if_pos h105, if_pos h118, if_pos h131, if_neg h146] | rw [if_pos h7, if_pos h19, if_pos h31, if_pos h43, if_pos h55, if_pos h67, if_pos h79, if_pos h92, if_pos h105, if_pos h118, if_pos h131, if_pos h146]); exact ⟨rfl, rfl⟩)
              · refine g_bipush (pc := 82) (v := nI 6) C dX12_wordHere_82 (by decide) ?_
                exact g_ireturn (pc := 84) C ⟨rfl, rfl⟩ dX12_wordHere_84 (by unfold whF; (first | rw [if_neg h7] | rw [if_pos h7, if_neg h19] | rw [if_pos h7, if_pos h19, if_neg h31] | rw [if_pos h7, if_pos h19, if_pos h31, if_neg h43] | rw [if_pos h7, if_pos h19, if_pos h31, if_pos h43, if_neg h55] | rw [if_pos h7, if_pos h19, if_pos h31, if_pos h43, if_pos h55, if_neg h67] | rw [if_pos h7, if_pos h19, if_pos h31, if_pos h43, if_pos h55, if_pos h67, if_neg h79] | rw [if_pos h7, if_pos h19, if_pos h31, if_pos h43, if_pos h55, if_pos h67, if_pos h79, if_neg h92] | rw [if_pos h7, if_pos h19, if_pos h31, if_pos h43, if_pos h55, if_pos h67, if_pos h79, if_pos h92, if_neg h105] | rw [if_pos h7, if_pos h19, if_pos h31, if_pos h43, if_pos h55, if_pos h67, if_pos h79, if_pos h92, if_pos h105, if_neg h118] | rw [if_pos h7, if_pos h19, if_pos h31, if_pos h43, if_pos h55, if_pos h67, if_pos h79, if_pos h92, if_pos h105, if_pos h118, if_neg h131] | rw [if_pos h7, if_pos h19, if_pos h31, if_pos h43, if_pos h55, if_pos h67, if_pos h79, if_pos h92, if_pos h105, if_pos h118, if_pos h131, if_neg h146] | rw [if_pos h7, if_pos h19, if_pos h31, if_pos h43, if_pos h55, if_pos h67, if_pos h79, if_pos h92, if_pos h105, if_pos h118, if_pos h131, if_pos h146]); exact ⟨rfl, rfl⟩)
            · refine g_iconst (pc := 70) (v := nI 5) C dX12_wordHere_70 (by decide) ?_
              exact g_ireturn (pc := 71) C ⟨rfl, rfl⟩ dX12_wordHere_71 (by unfold whF; (first | rw [if_neg h7] | rw [if_pos h7, if_neg h19] | rw [if_pos h7, if_pos h19, if_neg h31] | rw [if_pos h7, if_pos h19, if_pos h31, if_neg h43] | rw [if_pos h7, if_pos h19, if_pos h31, if_pos h43, if_neg h55] | rw [if_pos h7, if_pos h19, if_pos h31, if_pos h43, if_pos h55, if_neg h67] | rw [if_pos h7, if_pos h19, if_pos h31, if_pos h43, if_pos h55, if_pos h67, if_neg h79] | rw [if_pos h7, if_pos h19, if_pos h31, if_pos h43, if_pos h55, if_pos h67, if_pos h79, if_neg h92] | rw [if_pos h7, if_pos h19, if_pos h31, if_pos h43, if_pos h55, if_pos h67, if_pos h79, if_pos h92, if_neg h105] | rw [if_pos h7, if_pos h19, if_pos h31, if_pos h43, if_pos h55, if_pos h67, if_pos h79, if_pos h92, if_pos h105, if_neg h118] | rw [if_pos h7, if_pos h19, if_pos h31, if_pos h43, if_pos h55, if_pos h67, if_pos h79, if_pos h92, if_pos h105, if_pos h118, if_neg h131] | rw [if_pos h7, if_pos h19, if_pos h31, if_pos h43, if_pos h55, if_pos h67, if_pos h79, if_pos h92, if_pos h105, if_pos h118, if_pos h131, if_neg h146] | rw [if_pos h7, if_pos h19, if_pos h31, if_pos h43, if_pos h55, if_pos h67, if_pos h79, if_pos h92, if_pos h105, if_pos h118, if_pos h131, if_pos h146]); exact ⟨rfl, rfl⟩)
          · refine g_iconst (pc := 58) (v := nI 4) C dX12_wordHere_58 (by decide) ?_
            exact g_ireturn (pc := 59) C ⟨rfl, rfl⟩ dX12_wordHere_59 (by unfold whF; (first | rw [if_neg h7] | rw [if_pos h7, if_neg h19] | rw [if_pos h7, if_pos h19, if_neg h31] | rw [if_pos h7, if_pos h19, if_pos h31, if_neg h43] | rw [if_pos h7, if_pos h19, if_pos h31, if_pos h43, if_neg h55] | rw [if_pos h7, if_pos h19, if_pos h31, if_pos h43, if_pos h55, if_neg h67] | rw [if_pos h7, if_pos h19, if_pos h31, if_pos h43, if_pos h55, if_pos h67, if_neg h79] | rw [if_pos h7, if_pos h19, if_pos h31, if_pos h43, if_pos h55, if_pos h67, if_pos h79, if_neg h92] | rw [if_pos h7, if_pos h19, if_pos h31, if_pos h43, if_pos h55, if_pos h67, if_pos h79, if_pos h92, if_neg h105] | rw [if_pos h7, if_pos h19, if_pos h31, if_pos h43, if_pos h55, if_pos h67, if_pos h79, if_pos h92, if_pos h105, if_neg h118] | rw [if_pos h7, if_pos h19, if_pos h31, if_pos h43, if_pos h55, if_pos h67, if_pos h79, if_pos h92, if_pos h105, if_pos h118, if_neg h131] | rw [if_pos h7, if_pos h19, if_pos h31, if_pos h43, if_pos h55, if_pos h67, if_pos h79, if_pos h92, if_pos h105, if_pos h118, if_pos h131, if_neg h146] | rw [if_pos h7, if_pos h19, if_pos h31, if_pos h43, if_pos h55, if_pos h67, if_pos h79, if_pos h92, if_pos h105, if_pos h118, if_pos h131, if_pos h146]); exact ⟨rfl, rfl⟩)
        · refine g_iconst (pc := 46) (v := nI 3) C dX12_wordHere_46 (by decide) ?_
          exact g_ireturn (pc := 47) C ⟨rfl, rfl⟩ dX12_wordHere_47 (by unfold whF; (first | rw [if_neg h7] | rw [if_pos h7, if_neg h19] | rw [if_pos h7, if_pos h19, if_neg h31] | rw [if_pos h7, if_pos h19, if_pos h31, if_neg h43] | rw [if_pos h7, if_pos h19, if_pos h31, if_pos h43, if_neg h55] | rw [if_pos h7, if_pos h19, if_pos h31, if_pos h43, if_pos h55, if_neg h67] | rw [if_pos h7, if_pos h19, if_pos h31, if_pos h43, if_pos h55, if_pos h67, if_neg h79] | rw [if_pos h7, if_pos h19, if_pos h31, if_pos h43, if_pos h55, if_pos h67, if_pos h79, if_neg h92] | rw [if_pos h7, if_pos h19, if_pos h31, if_pos h43, if_pos h55, if_pos h67, if_pos h79, if_pos h92, if_neg h105] | rw [if_pos h7, if_pos h19, if_pos h31, if_pos h43, if_pos h55, if_pos h67, if_pos h79, if_pos h92, if_pos h105, if_neg h118] | rw [if_pos h7, if_pos h19, if_pos h31, if_pos h43, if_pos h55, if_pos h67, if_pos h79, if_pos h92, if_pos h105, if_pos h118, if_neg h131] | rw [if_pos h7, if_pos h19, if_pos h31, if_pos h43, if_pos h55, if_pos h67, if_pos h79, if_pos h92, if_pos h105, if_pos h118, if_pos h131, if_neg h146] | rw [if_pos h7, if_pos h19, if_pos h31, if_pos h43, if_pos h55, if_pos h67, if_pos h79, if_pos h92, if_pos h105, if_pos h118, if_pos h131, if_pos h146]); exact ⟨rfl, rfl⟩)
      · refine g_iconst (pc := 34) (v := nI 2) C dX12_wordHere_34 (by decide) ?_
        exact g_ireturn (pc := 35) C ⟨rfl, rfl⟩ dX12_wordHere_35 (by unfold whF; (first | rw [if_neg h7] | rw [if_pos h7, if_neg h19] | rw [if_pos h7, if_pos h19, if_neg h31] | rw [if_pos h7, if_pos h19, if_pos h31, if_neg h43] | rw [if_pos h7, if_pos h19, if_pos h31, if_pos h43, if_neg h55] | rw [if_pos h7, if_pos h19, if_pos h31, if_pos h43, if_pos h55, if_neg h67] | rw [if_pos h7, if_pos h19, if_pos h31, if_pos h43, if_pos h55, if_pos h67, if_neg h79] | rw [if_pos h7, if_pos h19, if_pos h31, if_pos h43, if_pos h55, if_pos h67, if_pos h79, if_neg h92] | rw [if_pos h7, if_pos h19, if_pos h31, if_pos h43, if_pos h55, if_pos h67, if_pos h79, if_pos h92, if_neg h105] | rw [if_pos h7, if_pos h19, if_pos h31, if_pos h43, if_pos h55, if_pos h67, if_pos h79, if_pos h92, if_pos h105, if_neg h118] | rw [if_pos h7, if_pos h19, if_pos h31, if_pos h43, if_pos h55, if_pos h67, if_pos h79, if_pos h92, if_pos h105, if_pos h118, if_neg h131] | rw [if_pos h7, if_pos h19, if_pos h31, if_pos h43, if_pos h55, if_pos h67, if_pos h79, if_pos h92, if_pos h105, if_pos h118, if_pos h131, if_neg h146] | rw [if_pos h7, if_pos h19, if_pos h31, if_pos h43, if_pos h55, if_pos h67, if_pos h79, if_pos h92, if_pos h105, if_pos h118, if_pos h131, if_pos h146]); exact ⟨rfl, rfl⟩)
    · refine g_iconst (pc := 22) (v := nI 1) C dX12_wordHere_22 (by decide) ?_
      exact g_ireturn (pc := 23) C ⟨rfl, rfl⟩ dX12_wordHere_23 (by unfold whF; (first | rw [if_neg h7] | rw [if_pos h7, if_neg h19] | rw [if_pos h7, if_pos h19, if_neg h31] | rw [if_pos h7, if_pos h19, if_pos h31, if_neg h43] | rw [if_pos h7, if_pos h19, if_pos h31, if_pos h43, if_neg h55] | rw [if_pos h7, if_pos h19, if_pos h31, if_pos h43, if_pos h55, if_neg h67] | rw [if_pos h7, if_pos h19, if_pos h31, if_pos h43, if_pos h55, if_pos h67, if_neg h79] | rw [if_pos h7, if_pos h19, if_pos h31, if_pos h43, if_pos h55, if_pos h67, if_pos h79, if_neg h92] | rw [if_pos h7, if_pos h19, if_pos h31, if_pos h43, if_pos h55, if_pos h67, if_pos h79, if_pos h92, if_neg h105] | rw [if_pos h7, if_pos h19, if_pos h31, if_pos h43, if_pos h55, if_pos h67, if_pos h79, if_pos h92, if_pos h105, if_neg h118] | rw [if_pos h7, if_pos h19, if_pos h31, if_pos h43, if_pos h55, if_pos h67, if_pos h79, if_pos h92, if_pos h105, if_pos h118, if_neg h131] | rw [if_pos h7, if_pos h19, if_pos h31, if_pos h43, if_pos h55, if_pos h67, if_pos h79, if_pos h92, if_pos h105, if_pos h118, if_pos h131, if_neg h146] | rw [if_pos h7, if_pos h19, if_pos h31, if_pos h43, if_pos h55, if_pos h67, if_pos h79, if_pos h92, if_pos h105, if_pos h118, if_pos h131, if_pos h146]); exact ⟨rfl, rfl⟩)
  · refine g_iconst (pc := 10) (v := nI 0) C dX12_wordHere_10 (by decide) ?_
    exact g_ireturn (pc := 11) C ⟨rfl, rfl⟩ dX12_wordHere_11 (by unfold whF; (first | rw [if_neg h7] | rw [if_pos h7, if_neg h19] | rw [if_pos h7, if_pos h19, if_neg h31] | rw [if_pos h7, if_pos h19, if_pos h31, if_neg h43] | rw [if_pos h7, if_pos h19, if_pos h31, if_pos h43, if_neg h55] | rw [if_pos h7, if_pos h19, if_pos h31, if_pos h43, if_pos h55, if_neg h67] | rw [if_pos h7, if_pos h19, if_pos h31, if_pos h43, if_pos h55, if_pos h67, if_neg h79] | rw [if_pos h7, if_pos h19, if_pos h31, if_pos h43, if_pos h55, if_pos h67, if_pos h79, if_neg h92] | rw [if_pos h7, if_pos h19, if_pos h31, if_pos h43, if_pos h55, if_pos h67, if_pos h79, if_pos h92, if_neg h105] | rw [if_pos h7, if_pos h19, if_pos h31, if_pos h43, if_pos h55, if_pos h67, if_pos h79, if_pos h92, if_pos h105, if_neg h118] | rw [if_pos h7, if_pos h19, if_pos h31, if_pos h43, if_pos h55, if_pos h67, if_pos h79, if_pos h92, if_pos h105, if_pos h118, if_neg h131] | rw [if_pos h7, if_pos h19, if_pos h31, if_pos h43, if_pos h55, if_pos h67, if_pos h79, if_pos h92, if_pos h105, if_pos h118, if_pos h131, if_neg h146] | rw [if_pos h7, if_pos h19, if_pos h31, if_pos h43, if_pos h55, if_pos h67, if_pos h79, if_pos h92, if_pos h105, if_pos h118, if_pos h131, if_pos h146]); exact ⟨rfl, rfl⟩)
def strF (k : Int32) : Int32 := if k = nI 13 then nI 1 else if k = nI 12 then nI 2 else if k = nI 11 then nI 3 else nI 0
theorem c_X12_strength (w : Wd) (l : Launch) (S : St) (k : Int32) : gx_M w l yX12_strength cX12_strength 1 (some .int) rmX12_strength [.int k] S (pI (strF k) S) := by
  refine gx_start rfl 0 rfl (Nat.le_of_ble_eq_true rfl) ?_
  intro X C _ hl
  subst hl
  refine gx_L (L' := [_]) rfl ?_
  unfold strF
  refine g_iload_n (pc := 0) C dX12_strength_0 rfl ?_
  refine g_bipush (pc := 1) (v := nI 13) C dX12_strength_1 (by decide) ?_
  refine g_icmp_ne (pc := 3) C 10 dX12_strength_3 rfl (fun h => ?_) (fun h => ?_)
  · rw [if_neg h]
    refine g_iload_n (pc := 10) C dX12_strength_10 rfl ?_
    refine g_bipush (pc := 11) (v := nI 12) C dX12_strength_11 (by decide) ?_
    refine g_icmp_ne (pc := 13) C 20 dX12_strength_13 rfl (fun h2 => ?_) (fun h2 => ?_)
    · rw [if_neg h2]
      refine g_iload_n (pc := 20) C dX12_strength_20 rfl ?_
      refine g_bipush (pc := 21) (v := nI 11) C dX12_strength_21 (by decide) ?_
      refine g_icmp_ne (pc := 23) C 30 dX12_strength_23 rfl (fun h3 => ?_) (fun h3 => ?_)
      · rw [if_neg h3]
        refine g_iconst (pc := 30) (v := nI 0) C dX12_strength_30 (by decide) ?_
        exact g_ireturn (pc := 31) C ⟨rfl, rfl⟩ dX12_strength_31 (⟨rfl, rfl⟩)
      · rw [if_pos (Decidable.not_not.mp h3)]
        refine g_iconst (pc := 26) (v := nI 3) C dX12_strength_26 (by decide) ?_
        refine g_goto (pc := 27) C 31 dX12_strength_27 rfl ?_
        exact g_ireturn (pc := 31) C ⟨rfl, rfl⟩ dX12_strength_31 (⟨rfl, rfl⟩)
    · rw [if_pos (Decidable.not_not.mp h2)]
      refine g_iconst (pc := 16) (v := nI 2) C dX12_strength_16 (by decide) ?_
      refine g_goto (pc := 17) C 31 dX12_strength_17 rfl ?_
      exact g_ireturn (pc := 31) C ⟨rfl, rfl⟩ dX12_strength_31 (⟨rfl, rfl⟩)
  · rw [if_pos (Decidable.not_not.mp h)]
    refine g_iconst (pc := 6) (v := nI 1) C dX12_strength_6 (by decide) ?_
    refine g_goto (pc := 7) C 31 dX12_strength_7 rfl ?_
    exact g_ireturn (pc := 31) C ⟨rfl, rfl⟩ dX12_strength_31 (⟨rfl, rfl⟩)
theorem c_X12_makes (w : Wd) (l : Launch) (S : St) (hm : gx_m S) (at_ : Int32) : gx_M w l yX12_makes cX12_makes 2 (some .boolean) rmX12_makes [.ref (ad (w_b w) 1000), .int at_] S (pI (bI (¬ s_I S 1112 1000 = nI 60)) (if s_I S 1112 1000 = nI 60 then flS S (nI 3) at_ else s_setI S 1112 1000 (s_I S 1112 1000 + nI 1))) := by
  refine gx_start rfl 0 rfl (Nat.le_of_ble_eq_true rfl) ?_
  intro X C _ hl
  subst hl
  refine gx_L (L' := [_, _]) rfl ?_
  refine g_aload_n (pc := 0) C dX12_makes_0 rfl ?_
  refine mg_161 (pc := 1) C (by exact hm) dX12_makes_1 ?_
  refine g_bipush (pc := 4) (v := nI 60) C dX12_makes_4 (by decide) ?_
  refine g_icmp_ne (pc := 6) C 16 dX12_makes_6 rfl (fun h => ?_) (fun h => ?_)
  · rw [if_neg h]
    refine g_aload_n (pc := 16) C dX12_makes_16 rfl ?_
    refine g_dup (pc := 17) C dX12_makes_17 rfl ?_
    refine mg_161 (pc := 18) C (by exact hm) dX12_makes_18 ?_
    refine g_iconst (pc := 21) (v := nI 1) C dX12_makes_21 (by decide) ?_
    refine g_iadd (pc := 22) C dX12_makes_22 ?_
    refine mp_161 (pc := 23) C (by exact hm) dX12_makes_23 ?_
    refine g_iconst (pc := 26) (v := nI 1) C dX12_makes_26 (by decide) ?_
    exact g_zreturn (pc := 27) C ⟨rfl, rfl⟩ (by first | exact Or.inl rfl | exact Or.inr rfl) dX12_makes_27 (pI_t h)
  · have h := Decidable.not_not.mp h
    rw [if_pos h]
    refine g_aload_n (pc := 9) C dX12_makes_9 rfl ?_
    refine g_iconst (pc := 10) (v := nI 3) C dX12_makes_10 (by decide) ?_
    refine g_iload_n (pc := 11) C dX12_makes_11 rfl ?_
    refine cf_X12_123 (pc := 12) C rfl (by exact m_z hm rfl) (c_X12_failsF _ _ _ hm _ _) ⟨rfl, rfl⟩ ⟨rfl, rfl⟩ ⟨Nat.zero_le _, Nat.zero_le _⟩ rfl (Nat.le_of_ble_eq_true rfl) dX12_makes_12 ?_
    exact g_zreturn (pc := 15) C ⟨rfl, rfl⟩ (by first | exact Or.inl rfl | exact Or.inr rfl) dX12_makes_15 (pI_f (fun q => q h))
