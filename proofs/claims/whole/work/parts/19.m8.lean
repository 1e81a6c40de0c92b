/-! ===== the reference: who comes aboard, a trip ===== -/
theorem upd12 (W : Nat → Int64) (v0 v1 v2 v3 v4 v5 v6 v7 v8 v9 v10 v11 : Int64) : ∀ i, i < 12 → vp_updL (vp_updL (vp_updL (vp_updL (vp_updL (vp_updL (vp_updL (vp_updL (vp_updL (vp_updL (vp_updL (vp_updL W 0 v0) 1 v1) 2 v2) 3 v3) 4 v4) 5 v5) 6 v6) 7 v7) 8 v8) 9 v9) 10 v10) 11 v11 i = if i = 0 then v0 else if i = 1 then v1 else if i = 2 then v2 else if i = 3 then v3 else if i = 4 then v4 else if i = 5 then v5 else if i = 6 then v6 else if i = 7 then v7 else if i = 8 then v8 else if i = 9 then v9 else if i = 10 then v10 else v11 := by
  intro i hi
  have : i = 0 ∨ i = 1 ∨ i = 2 ∨ i = 3 ∨ i = 4 ∨ i = 5 ∨ i = 6 ∨ i = 7 ∨ i = 8 ∨ i = 9 ∨ i = 10 ∨ i = 11 := by omega
  rcases this with rfl | rfl | rfl | rfl | rfl | rfl | rfl | rfl | rfl | rfl | rfl | rfl
  all_goals simp [vp_updL]
theorem wd_eq {drawn : Int32} {said : Nat → Int32} {P H p s : Nat} {W : Nat → Int64} {v11 : Int64} (h11 : v11 = if fogF drawn said H then 1 else 0) : ∀ i, i < 12 → vp_updL (vp_updL (vp_updL (vp_updL (vp_updL (vp_updL (vp_updL (vp_updL (vp_updL (vp_updL (vp_updL (vp_updL W 0 (nI p).toInt64) 1 (said (14 + p)).toInt64) 2 (said (28 + p)).toInt64) 3 (said (35 + p)).toInt64) 4 (said 11).toInt64) 5 (said 10).toInt64) 6 (weightF said P (fogF drawn said H) s False).toInt64) 7 (said 1 - weightF said P (fogF drawn said H) s False).toInt64) 8 (nI (popN s)).toInt64) 9 (nI (popN (onN said (said 11) P - (onN said (said 11) P &&& s)))).toInt64) 10 (weightF said P (fogF drawn said H) (s ||| 2 ^ p) False - weightF said P (fogF drawn said H) s False).toInt64) 11 v11 i = wdF drawn said P H p s i := by
  intro i hi
  rw [upd12 _ _ _ _ _ _ _ _ _ _ _ _ _ i hi]
  unfold wdF
  rw [← h11]
theorem c_X12_sumOf (w : Wd) (l : Launch) (S : St) (hm : gx_m S) (P H : Nat) (hp : gx_p S P H) (p s : Nat) (hpp : p < P) (hs : s < 128) (fr : Option ((Nat → Int64) → Int64)) (hfr : frW S fr) (B W : Nat → Int64) (t : Int32) : gx_M w l yX12_sumOf cX12_sumOf 4 (some .long) rmX12_sumOf [.ref (ad (w_b w) 1000), .int (nI p), .int (nI s)] (scw S B W t) (fun a S' => ∃ B' W' t', a = some (.long (sumF fr (s_I S 1123 1000) (s_A S 1010) P H p s)) ∧ S' = scw S B' W' t') := by
  obtain ⟨hP, hP7, hH, hH2⟩ := id hp
  have ho : onN (s_A S 1010) (s_A S 1010 11) P < 128 := onN_128 hP7
  refine gx_start rfl 1 rfl (Nat.le_of_ble_eq_true rfl) ?_
  intro X C _ hl
  subst hl
  refine gx_L (L' := [_, _, _, _]) rfl ?_
  refine g_aload_n (pc := 0) C dX12_sumOf_0 rfl ?_
  refine mg_42 (pc := 1) C (by exact hm) dX12_sumOf_1 ?_
  cases fr with
  | none =>
    have hfr : s_I S 1121 1000 = -1 := hfr
    refine gx_ti hfr ?_
    refine g_if_ge (pc := 4) C 23 dX12_sumOf_4 rfl (fun h => ?_) (fun h => ?_)
    · exact absurd h (by decide)
    · refine g_aload_n (pc := 7) C dX12_sumOf_7 rfl ?_
      refine mg_39 (pc := 8) C (by exact hm) dX12_sumOf_8 ?_
      refine g_bipush (pc := 11) (v := nI 11) C dX12_sumOf_11 (by decide) ?_
      refine n_iald (pc := 13) (k := 1010) (n := 190) C rfl rfl (by exact m_z hm rfl) isn_v rfl (by omega) dX12_sumOf_13 ?_
      refine g_if_ne (pc := 14) C 21 dX12_sumOf_14 rfl (fun h2 => ?_) (fun h2 => ?_)
      · have h2 : ¬ s_A S 1010 11 = 0 := h2
        refine g_lconst (pc := 21) (v := 0) C dX12_sumOf_21 (by decide) ?_
        exact g_lreturn (pc := 22) C ⟨rfl, rfl⟩ dX12_sumOf_22 ⟨B, W, t, by simp only [sumF]; rw [if_neg h2], rfl⟩
      · have h2 : s_A S 1010 11 = 0 := Decidable.not_not.mp h2
        refine g_lconst (pc := 17) (v := 1) C dX12_sumOf_17 (by decide) ?_
        refine g_goto (pc := 18) C 22 dX12_sumOf_18 rfl ?_
        exact g_lreturn (pc := 22) C ⟨rfl, rfl⟩ dX12_sumOf_22 ⟨B, W, t, by simp only [sumF]; rw [if_pos h2], rfl⟩
  | some F =>
    obtain ⟨r, hr, hrf, hW⟩ := hfr
    have hext := hW
    obtain ⟨_, _, _, _, _, _, _, _, -, -, -, -, -, -, hext⟩ := hext
    refine gx_ti hrf ?_
    refine g_if_ge (pc := 4) C 23 dX12_sumOf_4 rfl (fun h => ?_) (fun h => ?_)
    · refine g_aload_n (pc := 23) C dX12_sumOf_23 rfl ?_
      refine g_iload_n (pc := 24) C dX12_sumOf_24 rfl ?_
      refine g_iconst (pc := 25) (v := nI 0) C dX12_sumOf_25 (by decide) ?_
      refine cf_X12_340 (pc := 26) C rfl (by exact m_z hm rfl) (c_X12_weightOf _ _ _ (by exact hm) P H (by exact hp) s hs False) ⟨rfl, rfl⟩ ⟨rfl, rfl⟩ ⟨Nat.zero_le _, Nat.zero_le _⟩ rfl (Nat.le_of_ble_eq_true rfl) dX12_sumOf_26 ?_
      refine gx_ti (y := weightF (s_A S 1010) P (fogF (s_I S 1123 1000) (s_A S 1010) H) s False) rfl ?_
      refine g_istore_n (pc := 29) (L' := [_, _, some (.int _), _]) C dX12_sumOf_29 rfl rfl ?_
      refine g_aload_n (pc := 30) C dX12_sumOf_30 rfl ?_
      refine mg_36 (pc := 31) C (by exact hm) dX12_sumOf_31 ?_
      refine g_iconst (pc := 34) (v := nI 0) C dX12_sumOf_34 (by decide) ?_
      refine g_iload_n (pc := 35) C dX12_sumOf_35 rfl ?_
      refine g_i2l (pc := 36) C dX12_sumOf_36 ?_
      refine n_last (pc := 37) (k := 1009) (n := 12) C rfl rfl (by exact m_z hm rfl) isn_v rfl (by omega) dX12_sumOf_37 ?_
      refine gx_S (S' := scw S B (vp_updL W 0 (nI p).toInt64) t) (scw_W S B W _ t) ?_
      generalize hW1 : vp_updL W 0 (nI p).toInt64 = W1
      refine g_aload_n (pc := 38) C dX12_sumOf_38 rfl ?_
      refine mg_36 (pc := 39) C (by exact hm) dX12_sumOf_39 ?_
      refine g_iconst (pc := 42) (v := nI 1) C dX12_sumOf_42 (by decide) ?_
      refine g_aload_n (pc := 43) C dX12_sumOf_43 rfl ?_
      refine mg_39 (pc := 44) C (by exact hm) dX12_sumOf_44 ?_
      refine g_bipush (pc := 47) (v := nI 14) C dX12_sumOf_47 (by decide) ?_
      refine g_iload_n (pc := 49) C dX12_sumOf_49 rfl ?_
      refine g_iadd (pc := 50) C dX12_sumOf_50 ?_
      refine n_iald (pc := 51) (k := 1010) (n := 190) C rfl rfl (by exact m_z hm rfl) (isn_add isn_v isn_v) rfl (by omega) dX12_sumOf_51 ?_
      refine g_i2l (pc := 52) C dX12_sumOf_52 ?_
      refine n_last (pc := 53) (k := 1009) (n := 12) C rfl rfl (by exact m_z hm rfl) isn_v rfl (by omega) dX12_sumOf_53 ?_
      refine gx_S (S' := scw S B (vp_updL W1 1 (s_A S 1010 (14 + p)).toInt64) t) (scw_W S B W1 _ t) ?_
      generalize hW2 : vp_updL W1 1 (s_A S 1010 (14 + p)).toInt64 = W2
      refine g_aload_n (pc := 54) C dX12_sumOf_54 rfl ?_
      refine mg_36 (pc := 55) C (by exact hm) dX12_sumOf_55 ?_
      refine g_iconst (pc := 58) (v := nI 2) C dX12_sumOf_58 (by decide) ?_
      refine g_aload_n (pc := 59) C dX12_sumOf_59 rfl ?_
      refine mg_39 (pc := 60) C (by exact hm) dX12_sumOf_60 ?_
      refine g_bipush (pc := 63) (v := nI 28) C dX12_sumOf_63 (by decide) ?_
      refine g_iload_n (pc := 65) C dX12_sumOf_65 rfl ?_
      refine g_iadd (pc := 66) C dX12_sumOf_66 ?_
      refine n_iald (pc := 67) (k := 1010) (n := 190) C rfl rfl (by exact m_z hm rfl) (isn_add isn_v isn_v) rfl (by omega) dX12_sumOf_67 ?_
      refine g_i2l (pc := 68) C dX12_sumOf_68 ?_
      refine n_last (pc := 69) (k := 1009) (n := 12) C rfl rfl (by exact m_z hm rfl) isn_v rfl (by omega) dX12_sumOf_69 ?_
      refine gx_S (S' := scw S B (vp_updL W2 2 (s_A S 1010 (28 + p)).toInt64) t) (scw_W S B W2 _ t) ?_
      generalize hW3 : vp_updL W2 2 (s_A S 1010 (28 + p)).toInt64 = W3
      refine g_aload_n (pc := 70) C dX12_sumOf_70 rfl ?_
      refine mg_36 (pc := 71) C (by exact hm) dX12_sumOf_71 ?_
      refine g_iconst (pc := 74) (v := nI 3) C dX12_sumOf_74 (by decide) ?_
      refine g_aload_n (pc := 75) C dX12_sumOf_75 rfl ?_
      refine mg_39 (pc := 76) C (by exact hm) dX12_sumOf_76 ?_
      refine g_bipush (pc := 79) (v := nI 35) C dX12_sumOf_79 (by decide) ?_
      refine g_iload_n (pc := 81) C dX12_sumOf_81 rfl ?_
      refine g_iadd (pc := 82) C dX12_sumOf_82 ?_
      refine n_iald (pc := 83) (k := 1010) (n := 190) C rfl rfl (by exact m_z hm rfl) (isn_add isn_v isn_v) rfl (by omega) dX12_sumOf_83 ?_
      refine g_i2l (pc := 84) C dX12_sumOf_84 ?_
      refine n_last (pc := 85) (k := 1009) (n := 12) C rfl rfl (by exact m_z hm rfl) isn_v rfl (by omega) dX12_sumOf_85 ?_
      refine gx_S (S' := scw S B (vp_updL W3 3 (s_A S 1010 (35 + p)).toInt64) t) (scw_W S B W3 _ t) ?_
      generalize hW4 : vp_updL W3 3 (s_A S 1010 (35 + p)).toInt64 = W4
      refine g_aload_n (pc := 86) C dX12_sumOf_86 rfl ?_
      refine mg_36 (pc := 87) C (by exact hm) dX12_sumOf_87 ?_
      refine g_iconst (pc := 90) (v := nI 4) C dX12_sumOf_90 (by decide) ?_
      refine g_aload_n (pc := 91) C dX12_sumOf_91 rfl ?_
      refine mg_39 (pc := 92) C (by exact hm) dX12_sumOf_92 ?_
      refine g_bipush (pc := 95) (v := nI 11) C dX12_sumOf_95 (by decide) ?_
      refine n_iald (pc := 97) (k := 1010) (n := 190) C rfl rfl (by exact m_z hm rfl) isn_v rfl (by omega) dX12_sumOf_97 ?_
      refine g_i2l (pc := 98) C dX12_sumOf_98 ?_
      refine n_last (pc := 99) (k := 1009) (n := 12) C rfl rfl (by exact m_z hm rfl) isn_v rfl (by omega) dX12_sumOf_99 ?_
      refine gx_S (S' := scw S B (vp_updL W4 4 (s_A S 1010 11).toInt64) t) (scw_W S B W4 _ t) ?_
      generalize hW5 : vp_updL W4 4 (s_A S 1010 11).toInt64 = W5
      refine g_aload_n (pc := 100) C dX12_sumOf_100 rfl ?_
      refine mg_36 (pc := 101) C (by exact hm) dX12_sumOf_101 ?_
      refine g_iconst (pc := 104) (v := nI 5) C dX12_sumOf_104 (by decide) ?_
      refine g_aload_n (pc := 105) C dX12_sumOf_105 rfl ?_
      refine mg_39 (pc := 106) C (by exact hm) dX12_sumOf_106 ?_
      refine g_bipush (pc := 109) (v := nI 10) C dX12_sumOf_109 (by decide) ?_
      refine n_iald (pc := 111) (k := 1010) (n := 190) C rfl rfl (by exact m_z hm rfl) isn_v rfl (by omega) dX12_sumOf_111 ?_
      refine g_i2l (pc := 112) C dX12_sumOf_112 ?_
      refine n_last (pc := 113) (k := 1009) (n := 12) C rfl rfl (by exact m_z hm rfl) isn_v rfl (by omega) dX12_sumOf_113 ?_
      refine gx_S (S' := scw S B (vp_updL W5 5 (s_A S 1010 10).toInt64) t) (scw_W S B W5 _ t) ?_
      generalize hW6 : vp_updL W5 5 (s_A S 1010 10).toInt64 = W6
      refine g_aload_n (pc := 114) C dX12_sumOf_114 rfl ?_
      refine mg_36 (pc := 115) C (by exact hm) dX12_sumOf_115 ?_
      refine g_bipush (pc := 118) (v := nI 6) C dX12_sumOf_118 (by decide) ?_
      refine g_iload_n (pc := 120) C dX12_sumOf_120 rfl ?_
      refine g_i2l (pc := 121) C dX12_sumOf_121 ?_
      refine n_last (pc := 122) (k := 1009) (n := 12) C rfl rfl (by exact m_z hm rfl) isn_v rfl (by omega) dX12_sumOf_122 ?_
      refine gx_S (S' := scw S B (vp_updL W6 6 (weightF (s_A S 1010) P (fogF (s_I S 1123 1000) (s_A S 1010) H) s False).toInt64) t) (scw_W S B W6 _ t) ?_
      generalize hW7 : vp_updL W6 6 (weightF (s_A S 1010) P (fogF (s_I S 1123 1000) (s_A S 1010) H) s False).toInt64 = W7
      refine g_aload_n (pc := 123) C dX12_sumOf_123 rfl ?_
      refine mg_36 (pc := 124) C (by exact hm) dX12_sumOf_124 ?_
      refine g_bipush (pc := 127) (v := nI 7) C dX12_sumOf_127 (by decide) ?_
      refine g_aload_n (pc := 129) C dX12_sumOf_129 rfl ?_
      refine mg_39 (pc := 130) C (by exact hm) dX12_sumOf_130 ?_
      refine g_iconst (pc := 133) (v := nI 1) C dX12_sumOf_133 (by decide) ?_
      refine n_iald (pc := 134) (k := 1010) (n := 190) C rfl rfl (by exact m_z hm rfl) isn_v rfl (by omega) dX12_sumOf_134 ?_
      refine g_iload_n (pc := 135) C dX12_sumOf_135 rfl ?_
      refine g_isub (pc := 136) C dX12_sumOf_136 ?_
      refine g_i2l (pc := 137) C dX12_sumOf_137 ?_
      refine n_last (pc := 138) (k := 1009) (n := 12) C rfl rfl (by exact m_z hm rfl) isn_v rfl (by omega) dX12_sumOf_138 ?_
      refine gx_S (S' := scw S B (vp_updL W7 7 (s_A S 1010 1 - weightF (s_A S 1010) P (fogF (s_I S 1123 1000) (s_A S 1010) H) s False).toInt64) t) (scw_W S B W7 _ t) ?_
      generalize hW8 : vp_updL W7 7 (s_A S 1010 1 - weightF (s_A S 1010) P (fogF (s_I S 1123 1000) (s_A S 1010) H) s False).toInt64 = W8
      refine g_aload_n (pc := 139) C dX12_sumOf_139 rfl ?_
      refine mg_36 (pc := 140) C (by exact hm) dX12_sumOf_140 ?_
      refine g_bipush (pc := 143) (v := nI 8) C dX12_sumOf_143 (by decide) ?_
      refine g_iload_n (pc := 145) C dX12_sumOf_145 rfl ?_
      refine cf_X12_337 (pc := 146) C (c_X12_bits _ _ _ s hs) ⟨rfl, rfl⟩ ⟨rfl, rfl⟩ ⟨Nat.zero_le _, Nat.zero_le _⟩ rfl (Nat.le_of_ble_eq_true rfl) dX12_sumOf_146 ?_
      refine g_i2l (pc := 149) C dX12_sumOf_149 ?_
      refine n_last (pc := 150) (k := 1009) (n := 12) C rfl rfl (by exact m_z hm rfl) isn_v rfl (by omega) dX12_sumOf_150 ?_
      refine gx_S (S' := scw S B (vp_updL W8 8 (nI (popN s)).toInt64) t) (scw_W S B W8 _ t) ?_
      generalize hW9 : vp_updL W8 8 (nI (popN s)).toInt64 = W9
      refine g_aload_n (pc := 151) C dX12_sumOf_151 rfl ?_
      refine mg_36 (pc := 152) C (by exact hm) dX12_sumOf_152 ?_
      refine g_bipush (pc := 155) (v := nI 9) C dX12_sumOf_155 (by decide) ?_
      refine g_aload_n (pc := 157) C dX12_sumOf_157 rfl ?_
      refine g_aload_n (pc := 158) C dX12_sumOf_158 rfl ?_
      refine mg_39 (pc := 159) C (by exact hm) dX12_sumOf_159 ?_
      refine g_bipush (pc := 162) (v := nI 11) C dX12_sumOf_162 (by decide) ?_
      refine n_iald (pc := 164) (k := 1010) (n := 190) C rfl rfl (by exact m_z hm rfl) isn_v rfl (by omega) dX12_sumOf_164 ?_
      refine cf_X12_334 (pc := 165) C rfl (by exact m_z hm rfl) (c_X12_onSide _ _ _ (by exact hm) P (by exact hP) hP7 _) ⟨rfl, rfl⟩ ⟨rfl, rfl⟩ ⟨Nat.zero_le _, Nat.zero_le _⟩ rfl (Nat.le_of_ble_eq_true rfl) dX12_sumOf_165 ?_
      refine g_iload_n (pc := 168) C dX12_sumOf_168 rfl ?_
      refine g_iconst (pc := 169) (v := -1) C dX12_sumOf_169 (by decide) ?_
      refine g_ixor (pc := 170) C dX12_sumOf_170 ?_
      refine g_iand (pc := 171) C dX12_sumOf_171 ?_
      refine gx_ti (andn_nI _ ho _ hs) ?_
      refine cf_X12_337 (pc := 172) C (c_X12_bits _ _ _ (onN (s_A S 1010) (s_A S 1010 11) P - (onN (s_A S 1010) (s_A S 1010 11) P &&& s)) (by omega)) ⟨rfl, rfl⟩ ⟨rfl, rfl⟩ ⟨Nat.zero_le _, Nat.zero_le _⟩ rfl (Nat.le_of_ble_eq_true rfl) dX12_sumOf_172 ?_
      refine g_i2l (pc := 175) C dX12_sumOf_175 ?_
      refine n_last (pc := 176) (k := 1009) (n := 12) C rfl rfl (by exact m_z hm rfl) isn_v rfl (by omega) dX12_sumOf_176 ?_
      refine gx_S (S' := scw S B (vp_updL W9 9 (nI (popN (onN (s_A S 1010) (s_A S 1010 11) P - (onN (s_A S 1010) (s_A S 1010 11) P &&& s)))).toInt64) t) (scw_W S B W9 _ t) ?_
      generalize hW10 : vp_updL W9 9 (nI (popN (onN (s_A S 1010) (s_A S 1010 11) P - (onN (s_A S 1010) (s_A S 1010 11) P &&& s)))).toInt64 = W10
      refine g_aload_n (pc := 177) C dX12_sumOf_177 rfl ?_
      refine mg_36 (pc := 178) C (by exact hm) dX12_sumOf_178 ?_
      refine g_bipush (pc := 181) (v := nI 10) C dX12_sumOf_181 (by decide) ?_
      refine g_aload_n (pc := 183) C dX12_sumOf_183 rfl ?_
      refine g_iload_n (pc := 184) C dX12_sumOf_184 rfl ?_
      refine g_iconst (pc := 185) (v := nI 1) C dX12_sumOf_185 (by decide) ?_
      refine g_iload_n (pc := 186) C dX12_sumOf_186 rfl ?_
      refine g_ishl (pc := 187) C dX12_sumOf_187 ?_
      refine gx_ti (shl_bit p (by omega)) ?_
      refine g_ior (pc := 188) C dX12_sumOf_188 ?_
      refine gx_ti (or_set p (by omega) s hs).1 ?_
      refine g_iconst (pc := 189) (v := nI 0) C dX12_sumOf_189 (by decide) ?_
      refine cf_X12_340 (pc := 190) C rfl (by exact m_z hm rfl) (c_X12_weightOf _ _ _ (by exact hm) P H (by exact hp) (s ||| 2 ^ p) (or_lt s hs p (by omega)) False) ⟨rfl, rfl⟩ ⟨rfl, rfl⟩ ⟨Nat.zero_le _, Nat.zero_le _⟩ rfl (Nat.le_of_ble_eq_true rfl) dX12_sumOf_190 ?_
      refine g_iload_n (pc := 193) C dX12_sumOf_193 rfl ?_
      refine g_isub (pc := 194) C dX12_sumOf_194 ?_
      refine g_i2l (pc := 195) C dX12_sumOf_195 ?_
      refine n_last (pc := 196) (k := 1009) (n := 12) C rfl rfl (by exact m_z hm rfl) isn_v rfl (by omega) dX12_sumOf_196 ?_
      refine gx_S (S' := scw S B (vp_updL W10 10 (weightF (s_A S 1010) P (fogF (s_I S 1123 1000) (s_A S 1010) H) (s ||| 2 ^ p) False - weightF (s_A S 1010) P (fogF (s_I S 1123 1000) (s_A S 1010) H) s False).toInt64) t) (scw_W S B W10 _ t) ?_
      generalize hW11 : vp_updL W10 10 (weightF (s_A S 1010) P (fogF (s_I S 1123 1000) (s_A S 1010) H) (s ||| 2 ^ p) False - weightF (s_A S 1010) P (fogF (s_I S 1123 1000) (s_A S 1010) H) s False).toInt64 = W11
      refine g_aload_n (pc := 197) C dX12_sumOf_197 rfl ?_
      refine mg_36 (pc := 198) C (by exact hm) dX12_sumOf_198 ?_
      refine g_bipush (pc := 201) (v := nI 11) C dX12_sumOf_201 (by decide) ?_
      refine g_aload_n (pc := 203) C dX12_sumOf_203 rfl ?_
      refine cf_X12_317 (pc := 204) C rfl (by exact m_z hm rfl) (c_X12_isFog _ _ _ (by exact hm) P H (by exact hp)) ⟨rfl, rfl⟩ ⟨rfl, rfl⟩ ⟨Nat.zero_le _, Nat.zero_le _⟩ rfl (Nat.le_of_ble_eq_true rfl) dX12_sumOf_204 ?_
      have fin : ∀ v : Int64, v = (if fogF (s_I S 1123 1000) (s_A S 1010) H then 1 else 0) → ∀ (W : Nat → Int64) (L : List (Option Value)), (∃ x3, L = [some (.ref (ad (w_b w) 1000)), some (.int (nI p)), some (.int (nI s)), x3]) → (∀ i, i < 12 → vp_updL W 11 v i = wdF (s_I S 1123 1000) (s_A S 1010) P H p s i) → gx_G w X (scw S B W t) 0 0 215 L [.long v, .int (nI 11), .ref (ad (w_b w) 1009)] (gx_E w X (fun a S' => ∃ B' W' t', a = some (.long (sumF (some F) (s_I S 1123 1000) (s_A S 1010) P H p s)) ∧ S' = scw S B' W' t')) := by
        intro v hv W L hL hwd
        obtain ⟨x3, rfl⟩ := hL
        refine n_last (pc := 215) (k := 1009) (n := 12) C rfl rfl (by exact m_z hm rfl) isn_v rfl (by omega) dX12_sumOf_215 ?_
        refine gx_S (scw_W S B _ _ t) ?_
        refine g_aload_n (pc := 216) C dX12_sumOf_216 rfl ?_
        refine g_aload_n (pc := 217) C dX12_sumOf_217 rfl ?_
        refine mg_42 (pc := 218) C (by exact hm) dX12_sumOf_218 ?_
        refine gx_ti hrf ?_
        refine cg_X12_356 (pc := 221) C rfl (by exact m_z hm rfl) (c_X12_summedBy _ _ (s_setB S 1009 (vp_updL W 11 v)) hm r hr F hW B t) ⟨rfl, rfl⟩ ⟨Nat.zero_le _, Nat.zero_le _⟩ rfl (Nat.le_of_ble_eq_true rfl) dX12_sumOf_221 ?_
        rintro _ _ ⟨B', t', rfl, rfl⟩
        exact g_lreturn (pc := 224) C ⟨rfl, rfl⟩ dX12_sumOf_224 ⟨B', vp_updL W 11 v, t', by simp only [sumF]; exact congrArg (fun z => some (Value.long z)) (hext _ _ hwd), rfl⟩
      refine gx_ti (y := bI (fogF (s_I S 1123 1000) (s_A S 1010) H)) rfl ?_
      refine g_if_eq (pc := 207) C 214 dX12_sumOf_207 rfl (fun h3 => ?_) (fun h3 => ?_)
      · refine g_lconst (pc := 214) (v := 0) C dX12_sumOf_214 (by decide) ?_
        have e : (0 : Int64) = (if fogF (s_I S 1123 1000) (s_A S 1010) H then 1 else 0) := by rw [if_neg (bI_0.mp h3)]
        subst hW1 hW2 hW3 hW4 hW5 hW6 hW7 hW8 hW9 hW10 hW11
        exact fin 0 e _ _ ⟨_, rfl⟩ (wd_eq e)
      · refine g_lconst (pc := 210) (v := 1) C dX12_sumOf_210 (by decide) ?_
        refine g_goto (pc := 211) C 215 dX12_sumOf_211 rfl ?_
        have e : (1 : Int64) = (if fogF (s_I S 1123 1000) (s_A S 1010) H then 1 else 0) := by rw [if_pos (Decidable.not_not.mp (fun q => h3 (bI_0.mpr q)))]
        subst hW1 hW2 hW3 hW4 hW5 hW6 hW7 hW8 hW9 hW10 hW11
        exact fin 1 e _ _ ⟨_, rfl⟩ (wd_eq e)
    · exact absurd (nI_pos' (by omega)) h
