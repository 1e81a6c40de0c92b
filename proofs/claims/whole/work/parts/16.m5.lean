/-! ===== the reference: a set crosses ===== -/
def grwF (said : Nat → Int32) (s n : Nat) : Nat → Int32 := fun j => if 14 ≤ j ∧ j < 14 + n ∧ s.testBit (j - 14) = true then grownF said (j - 14) (said j) else said j
def crsF (g : Nat → Int32) (s n : Nat) : Nat → Int32 := fun j => if 21 ≤ j ∧ j < 21 + n ∧ s.testBit (j - 21) = true then nI 1 - g 11 else g j
abbrev goOK (drawn : Int32) (said : Nat → Int32) (P H s : Nat) : Prop := weightF (grwF said s P) P (fogF drawn (grwF said s P) H) s False ≤ grwF said s P 1
def goG (drawn : Int32) (said : Nat → Int32) (P H s : Nat) : Nat → Int32 := if goOK drawn said P H s then upd (crsF (grwF said s P) s P) 11 (nI 1 - crsF (grwF said s P) s P 11) else upd (grwF said s P) 12 (grwF said s P 12 + nI 1)
def goF (drawn : Int32) (said : Nat → Int32) (P H s : Nat) : Nat → Int32 := upd (goG drawn said P H s) 10 (goG drawn said P H s 10 + nI 1)
theorem grwF_lo {said : Nat → Int32} {s n j : Nat} (h : j < 14 ∨ 21 ≤ j) (hn : n ≤ 7) : grwF said s n j = said j := by
  simp only [grwF]; rw [if_neg (by omega)]
theorem grwF_at {said : Nat → Int32} {s n : Nat} : grwF said s n (14 + n) = said (14 + n) := by
  simp only [grwF]; rw [if_neg (by omega)]
theorem grwF_y {said : Nat → Int32} {s n : Nat} (hn : n < 7) (h : s.testBit n = true) : upd (grwF said s n) (14 + n) (grownF (grwF said s n) n (grwF said s n (14 + n))) = grwF said s (n + 1) := by
  have e1 : grownF (grwF said s n) n (grwF said s n (14 + n)) = grownF said n (said (14 + n)) := by
    unfold grownF; rw [grwF_at, grwF_lo (by omega) (by omega)]
  rw [e1]
  funext j; simp only [upd, grwF]
  by_cases e : j = 14 + n
  · subst e
    rw [if_pos rfl, if_pos ⟨by omega, by omega, by rw [Nat.add_sub_cancel_left]; exact h⟩, Nat.add_sub_cancel_left]
  · rw [if_neg e]
    by_cases h2 : 14 ≤ j ∧ j < 14 + n ∧ s.testBit (j - 14) = true
    · rw [if_pos h2, if_pos ⟨h2.1, by omega, h2.2.2⟩]
    · rw [if_neg h2, if_neg (fun q => h2 ⟨q.1, by omega, q.2.2⟩)]
theorem grwF_n {said : Nat → Int32} {s n : Nat} (h : ¬ s.testBit n = true) : grwF said s n = grwF said s (n + 1) := by
  funext j; simp only [grwF]
  by_cases h2 : 14 ≤ j ∧ j < 14 + n ∧ s.testBit (j - 14) = true
  · rw [if_pos h2, if_pos ⟨h2.1, by omega, h2.2.2⟩]
  · rw [if_neg h2, if_neg (fun q => h2 ⟨q.1, by
      refine Nat.lt_of_le_of_ne (by omega) (fun e => h ?_)
      have : j - 14 = n := by omega
      rw [this] at q; exact q.2.2, q.2.2⟩)]
theorem crsF_lo {g : Nat → Int32} {s n j : Nat} (h : j < 21 ∨ 28 ≤ j) (hn : n ≤ 7) : crsF g s n j = g j := by
  simp only [crsF]; rw [if_neg (by omega)]
theorem crsF_y {g : Nat → Int32} {s n : Nat} (hn : n < 7) (h : s.testBit n = true) : upd (crsF g s n) (21 + n) (nI 1 - crsF g s n 11) = crsF g s (n + 1) := by
  rw [crsF_lo (by omega) (by omega)]
  funext j; simp only [upd, crsF]
  by_cases e : j = 21 + n
  · subst e
    rw [if_pos rfl, if_pos ⟨by omega, by omega, by rw [Nat.add_sub_cancel_left]; exact h⟩]
  · rw [if_neg e]
    by_cases h2 : 21 ≤ j ∧ j < 21 + n ∧ s.testBit (j - 21) = true
    · rw [if_pos h2, if_pos ⟨h2.1, by omega, h2.2.2⟩]
    · rw [if_neg h2, if_neg (fun q => h2 ⟨q.1, by omega, q.2.2⟩)]
theorem crsF_n {g : Nat → Int32} {s n : Nat} (h : ¬ s.testBit n = true) : crsF g s n = crsF g s (n + 1) := by
  funext j; simp only [crsF]
  by_cases h2 : 21 ≤ j ∧ j < 21 + n ∧ s.testBit (j - 21) = true
  · rw [if_pos h2, if_pos ⟨h2.1, by omega, h2.2.2⟩]
  · rw [if_neg h2, if_neg (fun q => h2 ⟨q.1, by
      refine Nat.lt_of_le_of_ne (by omega) (fun e => h ?_)
      have : j - 21 = n := by omega
      rw [this] at q; exact q.2.2, q.2.2⟩)]
theorem c_X12_goesOver (w : Wd) (l : Launch) (S : St) (hm : gx_m S) (P H : Nat) (hp : gx_p S P H) (s : Nat) (hs : s < 128) : gx_M w l yX12_goesOver cX12_goesOver 4 (some .boolean) rmX12_goesOver [.ref (ad (w_b w) 1000), .int (nI s)] S (pI (bI (goOK (s_I S 1123 1000) (s_A S 1010) P H s)) (s_setA S 1010 (goF (s_I S 1123 1000) (s_A S 1010) P H s))) := by
  obtain ⟨hP, hP7, hH, hH2⟩ := hp
  refine gx_start rfl 2 rfl (Nat.le_of_ble_eq_true rfl) ?_
  intro X C _ hl
  subst hl
  refine gx_L (L' := [_, _, _, _]) rfl ?_
  refine g_iconst (pc := 0) (v := nI 0) C dX12_goesOver_0 (by decide) ?_
  refine g_istore_n (pc := 1) (L' := [_, some (.int _), _, _]) C dX12_goesOver_1 rfl rfl ?_
  have fin : ∀ (g : Nat → Int32) (v : Int32) (z : Option Value), (v = 0 ∨ v = 1) → v = bI (goOK (s_I S 1123 1000) (s_A S 1010) P H s) → g = goG (s_I S 1123 1000) (s_A S 1010) P H s → gx_G w X (s_setA S 1010 g) 0 0 148 [some (.ref (ad (w_b w) 1000)), some (.int (nI s)), some (.int v), z] [] (gx_E w X (pI (bI (goOK (s_I S 1123 1000) (s_A S 1010) P H s)) (s_setA S 1010 (goF (s_I S 1123 1000) (s_A S 1010) P H s)))) := by
    intro g v z hz hv hg
    refine g_aload_n (pc := 148) C dX12_goesOver_148 rfl ?_
    refine mg_39 (pc := 149) C (by exact hm) dX12_goesOver_149 ?_
    refine g_bipush (pc := 152) (v := nI 10) C dX12_goesOver_152 (by decide) ?_
    refine g_dup2 (pc := 154) C dX12_goesOver_154 rfl rfl ?_
    refine n_iald (pc := 155) (k := 1010) (n := 190) C rfl rfl (by exact m_z hm rfl) isn_v rfl (by omega) dX12_goesOver_155 ?_
    refine g_iconst (pc := 156) (v := nI 1) C dX12_goesOver_156 (by decide) ?_
    refine g_iadd (pc := 157) C dX12_goesOver_157 ?_
    refine n_iast (pc := 158) (k := 1010) (n := 190) C rfl rfl (by exact m_z hm rfl) isn_v rfl (by omega) dX12_goesOver_158 ?_
    refine g_iload_n (pc := 159) C dX12_goesOver_159 rfl ?_
    exact g_zreturn (pc := 160) C ⟨rfl, rfl⟩ hz dX12_goesOver_160 ⟨by rw [hv], by rw [s_AA, hg]; rfl⟩
  have cross : goOK (s_I S 1123 1000) (s_A S 1010) P H s → ∀ k n, n + k = P → gx_G w X (s_setA S 1010 (crsF (grwF (s_A S 1010) s P) s n)) 0 0 76 [some (.ref (ad (w_b w) 1000)), some (.int (nI s)), some (.int (nI 1)), some (.int (nI n))] [] (gx_E w X (pI (bI (goOK (s_I S 1123 1000) (s_A S 1010) P H s)) (s_setA S 1010 (goF (s_I S 1123 1000) (s_A S 1010) P H s)))) := by
    intro hok k
    induction k with
    | zero =>
      intro n hn
      have hn : n = P := hn
      subst hn
      refine g_iload_n (pc := 76) C dX12_goesOver_76 rfl ?_
      refine g_aload_n (pc := 77) C dX12_goesOver_77 rfl ?_
      refine mg_39 (pc := 78) C (by exact hm) dX12_goesOver_78 ?_
      refine g_iconst (pc := 81) (v := nI 4) C dX12_goesOver_81 (by decide) ?_
      refine n_iald (pc := 82) (k := 1010) (n := 190) C rfl rfl (by exact m_z hm rfl) isn_v rfl (by omega) dX12_goesOver_82 ?_
      refine gx_ti (y := nI n) ?_ ?_
      · show crsF (grwF (s_A S 1010) s n) s n 4 = nI n
        rw [crsF_lo (by omega) (by omega), grwF_lo (by omega) (by omega)]; exact hP
      refine g_icmp_ge (pc := 83) C 118 dX12_goesOver_83 rfl (fun h => ?_) (fun h => ?_)
      · refine g_aload_n (pc := 118) C dX12_goesOver_118 rfl ?_
        refine mg_39 (pc := 119) C (by exact hm) dX12_goesOver_119 ?_
        refine g_bipush (pc := 122) (v := nI 11) C dX12_goesOver_122 (by decide) ?_
        refine g_iconst (pc := 124) (v := nI 1) C dX12_goesOver_124 (by decide) ?_
        refine g_aload_n (pc := 125) C dX12_goesOver_125 rfl ?_
        refine mg_39 (pc := 126) C (by exact hm) dX12_goesOver_126 ?_
        refine g_bipush (pc := 129) (v := nI 11) C dX12_goesOver_129 (by decide) ?_
        refine n_iald (pc := 131) (k := 1010) (n := 190) C rfl rfl (by exact m_z hm rfl) isn_v rfl (by omega) dX12_goesOver_131 ?_
        refine g_isub (pc := 132) C dX12_goesOver_132 ?_
        refine n_iast (pc := 133) (k := 1010) (n := 190) C rfl rfl (by exact m_z hm rfl) isn_v rfl (by omega) dX12_goesOver_133 ?_
        refine g_goto (pc := 134) C 148 dX12_goesOver_134 rfl ?_
        refine gx_S (s_AA _ _ _ _) ?_
        exact fin _ _ _ (Or.inr rfl) (bI_t hok).symm (by unfold goG; rw [if_pos hok]; rfl)
      · exact absurd (nI_le (Nat.le_refl n) (by omega)) h
    | succ k ih =>
      intro n hn
      refine g_iload_n (pc := 76) C dX12_goesOver_76 rfl ?_
      refine g_aload_n (pc := 77) C dX12_goesOver_77 rfl ?_
      refine mg_39 (pc := 78) C (by exact hm) dX12_goesOver_78 ?_
      refine g_iconst (pc := 81) (v := nI 4) C dX12_goesOver_81 (by decide) ?_
      refine n_iald (pc := 82) (k := 1010) (n := 190) C rfl rfl (by exact m_z hm rfl) isn_v rfl (by omega) dX12_goesOver_82 ?_
      refine gx_ti (y := nI P) ?_ ?_
      · show crsF (grwF (s_A S 1010) s P) s n 4 = nI P
        rw [crsF_lo (by omega) (by omega), grwF_lo (by omega) (by omega)]; exact hP
      refine g_icmp_ge (pc := 83) C 118 dX12_goesOver_83 rfl (fun h => ?_) (fun h => ?_)
      · exact absurd h (nI_ge (by omega) (by omega))
      · refine g_iload_n (pc := 86) C dX12_goesOver_86 rfl ?_
        refine g_iload_n (pc := 87) C dX12_goesOver_87 rfl ?_
        refine cf_X12_308 (pc := 88) C (c_X12_isOfN _ _ _ s n hs (by omega)) ⟨rfl, rfl⟩ ⟨rfl, rfl⟩ ⟨Nat.zero_le _, Nat.zero_le _⟩ rfl (Nat.le_of_ble_eq_true rfl) dX12_goesOver_88 ?_
        refine g_if_eq (pc := 91) C 112 dX12_goesOver_91 rfl (fun h2 => ?_) (fun h2 => ?_)
        · have h2 := bI_0.mp h2
          refine g_iinc (pc := 112) (L' := [_, _, some (.int _), _]) C dX12_goesOver_112 rfl (nI_1 _) rfl ?_
          refine g_goto (pc := 115) C 76 dX12_goesOver_115 rfl ?_
          rw [crsF_n h2]
          exact ih (n + 1) (by omega)
        · have h2 : s.testBit n = true := Decidable.not_not.mp (fun q => h2 (bI_0.mpr q))
          refine g_aload_n (pc := 94) C dX12_goesOver_94 rfl ?_
          refine mg_39 (pc := 95) C (by exact hm) dX12_goesOver_95 ?_
          refine g_bipush (pc := 98) (v := nI 21) C dX12_goesOver_98 (by decide) ?_
          refine g_iload_n (pc := 100) C dX12_goesOver_100 rfl ?_
          refine g_iadd (pc := 101) C dX12_goesOver_101 ?_
          refine g_iconst (pc := 102) (v := nI 1) C dX12_goesOver_102 (by decide) ?_
          refine g_aload_n (pc := 103) C dX12_goesOver_103 rfl ?_
          refine mg_39 (pc := 104) C (by exact hm) dX12_goesOver_104 ?_
          refine g_bipush (pc := 107) (v := nI 11) C dX12_goesOver_107 (by decide) ?_
          refine n_iald (pc := 109) (k := 1010) (n := 190) C rfl rfl (by exact m_z hm rfl) isn_v rfl (by omega) dX12_goesOver_109 ?_
          refine g_isub (pc := 110) C dX12_goesOver_110 ?_
          refine n_iast (pc := 111) (k := 1010) (n := 190) C rfl rfl (by exact m_z hm rfl) (isn_add isn_v isn_v) rfl (by omega) dX12_goesOver_111 ?_
          refine gx_S (S' := s_setA S 1010 (crsF (grwF (s_A S 1010) s P) s (n + 1))) ?_ ?_
          · rw [s_AA]
            exact congrArg _ (crsF_y (g := grwF (s_A S 1010) s P) (s := s) (n := n) (by omega) h2)
          · refine g_iinc (pc := 112) (L' := [_, _, some (.int _), _]) C dX12_goesOver_112 rfl (nI_1 _) rfl ?_
            refine g_goto (pc := 115) C 76 dX12_goesOver_115 rfl ?_
            exact ih (n + 1) (by omega)
  have loop : ∀ k n, n + k = P → gx_G w X (s_setA S 1010 (grwF (s_A S 1010) s n)) 0 0 2 [some (.ref (ad (w_b w) 1000)), some (.int (nI s)), some (.int (nI n)), none] [] (gx_E w X (pI (bI (goOK (s_I S 1123 1000) (s_A S 1010) P H s)) (s_setA S 1010 (goF (s_I S 1123 1000) (s_A S 1010) P H s)))) := by
    intro k
    induction k with
    | zero =>
      intro n hn
      have hn : n = P := hn
      subst hn
      refine g_iload_n (pc := 2) C dX12_goesOver_2 rfl ?_
      refine g_aload_n (pc := 3) C dX12_goesOver_3 rfl ?_
      refine mg_39 (pc := 4) C (by exact hm) dX12_goesOver_4 ?_
      refine g_iconst (pc := 7) (v := nI 4) C dX12_goesOver_7 (by decide) ?_
      refine n_iald (pc := 8) (k := 1010) (n := 190) C rfl rfl (by exact m_z hm rfl) isn_v rfl (by omega) dX12_goesOver_8 ?_
      refine gx_ti (y := nI n) ?_ ?_
      · show grwF (s_A S 1010) s n 4 = nI n
        rw [grwF_lo (by omega) (by omega)]; exact hP
      refine g_icmp_ge (pc := 9) C 49 dX12_goesOver_9 rfl (fun h => ?_) (fun h => ?_)
      · have hp2 : gx_p (s_setA S 1010 (grwF (s_A S 1010) s n)) n H := by
          refine ⟨?_, hP7, ?_, hH2⟩
          · show grwF (s_A S 1010) s n 4 = nI n
            rw [grwF_lo (by omega) (by omega)]; exact hP
          · show grwF (s_A S 1010) s n 10 = nI H
            rw [grwF_lo (by omega) (by omega)]; exact hH
        refine g_aload_n (pc := 49) C dX12_goesOver_49 rfl ?_
        refine g_iload_n (pc := 50) C dX12_goesOver_50 rfl ?_
        refine g_iconst (pc := 51) (v := nI 0) C dX12_goesOver_51 (by decide) ?_
        refine cf_X12_340 (pc := 52) C rfl (by exact m_z hm rfl) (c_X12_weightOf _ _ (s_setA S 1010 (grwF (s_A S 1010) s n)) hm n H hp2 s hs False) ⟨rfl, rfl⟩ ⟨rfl, rfl⟩ ⟨Nat.zero_le _, Nat.zero_le _⟩ rfl (Nat.le_of_ble_eq_true rfl) dX12_goesOver_52 ?_
        refine g_aload_n (pc := 55) C dX12_goesOver_55 rfl ?_
        refine mg_39 (pc := 56) C (by exact hm) dX12_goesOver_56 ?_
        refine g_iconst (pc := 59) (v := nI 1) C dX12_goesOver_59 (by decide) ?_
        refine n_iald (pc := 60) (k := 1010) (n := 190) C rfl rfl (by exact m_z hm rfl) isn_v rfl (by omega) dX12_goesOver_60 ?_
        refine g_icmp_gt (pc := 61) C 68 dX12_goesOver_61 rfl (fun h2 => ?_) (fun h2 => ?_)
        · have hno : ¬ goOK (s_I S 1123 1000) (s_A S 1010) n H s := Int32.not_le.mpr h2
          refine g_iconst (pc := 68) (v := nI 0) C dX12_goesOver_68 (by decide) ?_
          refine g_istore_n (pc := 69) (L' := [_, some (.int _), _, _]) C dX12_goesOver_69 rfl rfl ?_
          refine g_iload_n (pc := 70) C dX12_goesOver_70 rfl ?_
          refine g_if_eq (pc := 71) C 137 dX12_goesOver_71 rfl (fun h3 => ?_) (fun h3 => ?_)
          · refine g_aload_n (pc := 137) C dX12_goesOver_137 rfl ?_
            refine mg_39 (pc := 138) C (by exact hm) dX12_goesOver_138 ?_
            refine g_bipush (pc := 141) (v := nI 12) C dX12_goesOver_141 (by decide) ?_
            refine g_dup2 (pc := 143) C dX12_goesOver_143 rfl rfl ?_
            refine n_iald (pc := 144) (k := 1010) (n := 190) C rfl rfl (by exact m_z hm rfl) isn_v rfl (by omega) dX12_goesOver_144 ?_
            refine g_iconst (pc := 145) (v := nI 1) C dX12_goesOver_145 (by decide) ?_
            refine g_iadd (pc := 146) C dX12_goesOver_146 ?_
            refine n_iast (pc := 147) (k := 1010) (n := 190) C rfl rfl (by exact m_z hm rfl) isn_v rfl (by omega) dX12_goesOver_147 ?_
            refine gx_S (s_AA _ _ _ _) ?_
            exact fin _ _ _ (Or.inl rfl) (bI_f hno).symm (by unfold goG; rw [if_neg hno]; rfl)
          · exact absurd rfl h3
        · have hok : goOK (s_I S 1123 1000) (s_A S 1010) n H s := Int32.not_lt.mp h2
          refine g_iconst (pc := 64) (v := nI 1) C dX12_goesOver_64 (by decide) ?_
          refine g_goto (pc := 65) C 69 dX12_goesOver_65 rfl ?_
          refine g_istore_n (pc := 69) (L' := [_, some (.int _), _, _]) C dX12_goesOver_69 rfl rfl ?_
          refine g_iload_n (pc := 70) C dX12_goesOver_70 rfl ?_
          refine g_if_eq (pc := 71) C 137 dX12_goesOver_71 rfl (fun h3 => ?_) (fun h3 => ?_)
          · exact absurd h3 (by decide)
          · refine g_iconst (pc := 74) (v := nI 0) C dX12_goesOver_74 (by decide) ?_
            refine g_istore_n (pc := 75) (L' := [_, _, some (.int _), _]) C dX12_goesOver_75 rfl rfl ?_
            refine gx_S ?_ (cross hok n 0 (by omega))
            refine congrArg _ ?_
            funext j
            simp only [crsF]
            rw [if_neg (by omega)]
      · exact absurd (nI_le (Nat.le_refl n) (by omega)) h
    | succ k ih =>
      intro n hn
      refine g_iload_n (pc := 2) C dX12_goesOver_2 rfl ?_
      refine g_aload_n (pc := 3) C dX12_goesOver_3 rfl ?_
      refine mg_39 (pc := 4) C (by exact hm) dX12_goesOver_4 ?_
      refine g_iconst (pc := 7) (v := nI 4) C dX12_goesOver_7 (by decide) ?_
      refine n_iald (pc := 8) (k := 1010) (n := 190) C rfl rfl (by exact m_z hm rfl) isn_v rfl (by omega) dX12_goesOver_8 ?_
      refine gx_ti (y := nI P) ?_ ?_
      · show grwF (s_A S 1010) s n 4 = nI P
        rw [grwF_lo (by omega) (by omega)]; exact hP
      refine g_icmp_ge (pc := 9) C 49 dX12_goesOver_9 rfl (fun h => ?_) (fun h => ?_)
      · exact absurd h (nI_ge (by omega) (by omega))
      · refine g_iload_n (pc := 12) C dX12_goesOver_12 rfl ?_
        refine g_iload_n (pc := 13) C dX12_goesOver_13 rfl ?_
        refine cf_X12_308 (pc := 14) C (c_X12_isOfN _ _ _ s n hs (by omega)) ⟨rfl, rfl⟩ ⟨rfl, rfl⟩ ⟨Nat.zero_le _, Nat.zero_le _⟩ rfl (Nat.le_of_ble_eq_true rfl) dX12_goesOver_14 ?_
        refine g_if_eq (pc := 17) C 43 dX12_goesOver_17 rfl (fun h2 => ?_) (fun h2 => ?_)
        · have h2 := bI_0.mp h2
          refine g_iinc (pc := 43) (L' := [_, some (.int _), _, _]) C dX12_goesOver_43 rfl (nI_1 _) rfl ?_
          refine g_goto (pc := 46) C 2 dX12_goesOver_46 rfl ?_
          rw [grwF_n h2]
          exact ih (n + 1) (by omega)
        · have h2 : s.testBit n = true := Decidable.not_not.mp (fun q => h2 (bI_0.mpr q))
          refine g_aload_n (pc := 20) C dX12_goesOver_20 rfl ?_
          refine mg_39 (pc := 21) C (by exact hm) dX12_goesOver_21 ?_
          refine g_bipush (pc := 24) (v := nI 14) C dX12_goesOver_24 (by decide) ?_
          refine g_iload_n (pc := 26) C dX12_goesOver_26 rfl ?_
          refine g_iadd (pc := 27) C dX12_goesOver_27 ?_
          refine g_aload_n (pc := 28) C dX12_goesOver_28 rfl ?_
          refine g_iload_n (pc := 29) C dX12_goesOver_29 rfl ?_
          refine g_aload_n (pc := 30) C dX12_goesOver_30 rfl ?_
          refine mg_39 (pc := 31) C (by exact hm) dX12_goesOver_31 ?_
          refine g_bipush (pc := 34) (v := nI 14) C dX12_goesOver_34 (by decide) ?_
          refine g_iload_n (pc := 36) C dX12_goesOver_36 rfl ?_
          refine g_iadd (pc := 37) C dX12_goesOver_37 ?_
          refine n_iald (pc := 38) (k := 1010) (n := 190) C rfl rfl (by exact m_z hm rfl) (isn_add isn_v isn_v) rfl (by omega) dX12_goesOver_38 ?_
          refine cf_X12_311 (pc := 39) C rfl (by exact m_z hm rfl) (c_X12_grown _ _ (s_setA S 1010 (grwF (s_A S 1010) s n)) hm n (by omega) _) ⟨rfl, rfl⟩ ⟨rfl, rfl⟩ ⟨Nat.zero_le _, Nat.zero_le _⟩ rfl (Nat.le_of_ble_eq_true rfl) dX12_goesOver_39 ?_
          refine n_iast (pc := 42) (k := 1010) (n := 190) C rfl rfl (by exact m_z hm rfl) (isn_add isn_v isn_v) rfl (by omega) dX12_goesOver_42 ?_
          refine gx_S (S' := s_setA S 1010 (grwF (s_A S 1010) s (n + 1))) ?_ ?_
          · rw [s_AA]
            exact congrArg _ (grwF_y (said := s_A S 1010) (s := s) (n := n) (by omega) h2)
          · refine g_iinc (pc := 43) (L' := [_, some (.int _), _, _]) C dX12_goesOver_43 rfl (nI_1 _) rfl ?_
            refine g_goto (pc := 46) C 2 dX12_goesOver_46 rfl ?_
            exact ih (n + 1) (by omega)
  refine gx_S ?_ (loop P 0 (by omega))
  rw [show grwF (s_A S 1010) s 0 = s_A S 1010 from by funext j; simp only [grwF]; rw [if_neg (by omega)], s_A_id]
