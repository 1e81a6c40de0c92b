/-! ===== the reference: weights ===== -/
def grownF (said : Nat → Int32) (p : Nat) (aim : Int32) : Int32 := if aim ≤ 0 then nI 0 else atMostF (aim + said (28 + p)) (nI 99)
def aimsF (said : Nat → Int32) (s : Nat) (mid : Prop) [Decidable mid] : Nat → Int32
  | 0 => nI 0
  | n + 1 => if s.testBit n = true then aimsF said s mid n + (if mid then grownF said n (said (14 + n)) else said (14 + n)) else aimsF said s mid n
/-- of a the twos with b from a + 1 on, k of them -/
def twosI (said : Nat → Int32) (s a : Nat) : Nat → Int32
  | 0 => nI 0
  | k + 1 => twosI said s a k + (if s.testBit a = true ∧ s.testBit (a + 1 + k) = true then said (49 + 7 * a + (a + 1 + k)) else nI 0)
def twosF (said : Nat → Int32) (s P : Nat) : Nat → Int32
  | 0 => nI 0
  | a + 1 => twosF said s P a + twosI said s a (P - (a + 1))
def lightF (said : Nat → Int32) (s : Nat) : Nat → Int32
  | 0 => nI 0
  | n + 1 => lightF said s n + (if s.testBit n = true then said (35 + n) else nI 0)
theorem c_X12_grown (w : Wd) (l : Launch) (S : St) (hm : gx_m S) (p : Nat) (hp : p < 7) (aim : Int32) : gx_M w l yX12_grown cX12_grown 3 (some .int) rmX12_grown [.ref (ad (w_b w) 1000), .int (nI p), .int aim] S (pI (grownF (s_A S 1010) p aim) S) := by
  refine gx_start rfl 0 rfl (Nat.le_of_ble_eq_true rfl) ?_
  intro X C _ hl
  subst hl
  refine gx_L (L' := [_, _, _]) rfl ?_
  refine g_iload_n (pc := 0) C dX12_grown_0 rfl ?_
  refine g_if_le (pc := 1) C 23 dX12_grown_1 rfl (fun h1 => ?_) (fun h1 => ?_)
  · refine g_iconst (pc := 23) (v := nI 0) C dX12_grown_23 (by decide) ?_
    exact g_ireturn (pc := 24) C ⟨rfl, rfl⟩ dX12_grown_24 (⟨by simp [grownF, h1], rfl⟩)
  · refine g_iload_n (pc := 4) C dX12_grown_4 rfl ?_
    refine g_aload_n (pc := 5) C dX12_grown_5 rfl ?_
    refine mg_39 (pc := 6) C (by exact hm) dX12_grown_6 ?_
    refine g_bipush (pc := 9) (v := nI 28) C dX12_grown_9 (by decide) ?_
    refine g_iload_n (pc := 11) C dX12_grown_11 rfl ?_
    refine g_iadd (pc := 12) C dX12_grown_12 ?_
    refine n_iald (pc := 13) (k := 1010) (n := 190) C rfl rfl (by exact m_z hm rfl) (isn_add isn_v isn_v) rfl (by omega) dX12_grown_13 ?_
    refine g_iadd (pc := 14) C dX12_grown_14 ?_
    refine g_bipush (pc := 15) (v := nI 99) C dX12_grown_15 (by decide) ?_
    refine cf_X12_304 (pc := 17) C (c_X12_atMost _ _ _ _ _) ⟨rfl, rfl⟩ ⟨rfl, rfl⟩ ⟨Nat.zero_le _, Nat.zero_le _⟩ rfl (Nat.le_of_ble_eq_true rfl) dX12_grown_17 ?_
    refine g_goto (pc := 20) C 24 dX12_grown_20 rfl ?_
    exact g_ireturn (pc := 24) C ⟨rfl, rfl⟩ dX12_grown_24 (⟨by simp [grownF, h1], rfl⟩)
theorem c_X12_aimsOf (w : Wd) (l : Launch) (S : St) (hm : gx_m S) (P : Nat) (hP : s_A S 1010 4 = nI P) (hP7 : P ≤ 7) (s : Nat) (hs : s < 128) (mid : Prop) [Decidable mid] : gx_M w l yX12_aimsOf cX12_aimsOf 5 (some .int) rmX12_aimsOf [.ref (ad (w_b w) 1000), .int (nI s), .int (bI mid)] S (pI (aimsF (s_A S 1010) s mid P) S) := by
  refine gx_start rfl 2 rfl (Nat.le_of_ble_eq_true rfl) ?_
  intro X C _ hl
  subst hl
  refine gx_L (L' := [_, _, _, _, _]) rfl ?_
  refine g_iconst (pc := 0) (v := nI 0) C dX12_aimsOf_0 (by decide) ?_
  refine g_istore_n (pc := 1) (L' := [_, _, some (.int _), _, _]) C dX12_aimsOf_1 rfl rfl ?_
  refine g_iconst (pc := 2) (v := nI 0) C dX12_aimsOf_2 (by decide) ?_
  refine g_istore (pc := 3) (L' := [_, _, _, some (.int _), _]) C dX12_aimsOf_3 rfl rfl ?_
  have loop : ∀ k n, n + k = P → gx_G w X S 0 0 5 [some (.ref (ad (w_b w) 1000)), some (.int (nI s)), some (.int (bI mid)), some (.int (aimsF (s_A S 1010) s mid n)), some (.int (nI n))] [] (gx_E w X (pI (aimsF (s_A S 1010) s mid P) S)) := by
    intro k
    induction k with
    | zero =>
      intro n hn
      have hn : n = P := hn
      subst hn
      refine g_iload (pc := 5) C dX12_aimsOf_5 rfl ?_
      refine g_aload_n (pc := 7) C dX12_aimsOf_7 rfl ?_
      refine mg_39 (pc := 8) C (by exact hm) dX12_aimsOf_8 ?_
      refine g_iconst (pc := 11) (v := nI 4) C dX12_aimsOf_11 (by decide) ?_
      refine n_iald (pc := 12) (k := 1010) (n := 190) C rfl rfl (by exact m_z hm rfl) isn_v rfl (by omega) dX12_aimsOf_12 ?_
      refine gx_ti hP ?_
      refine g_icmp_ge (pc := 13) C 67 dX12_aimsOf_13 rfl (fun h => ?_) (fun h => ?_)
      · refine g_iload_n (pc := 67) C dX12_aimsOf_67 rfl ?_
        exact g_ireturn (pc := 68) C ⟨rfl, rfl⟩ dX12_aimsOf_68 ⟨rfl, rfl⟩
      · exact absurd (nI_le (Nat.le_refl n) (by omega)) h
    | succ k ih =>
      intro n hn
      refine g_iload (pc := 5) C dX12_aimsOf_5 rfl ?_
      refine g_aload_n (pc := 7) C dX12_aimsOf_7 rfl ?_
      refine mg_39 (pc := 8) C (by exact hm) dX12_aimsOf_8 ?_
      refine g_iconst (pc := 11) (v := nI 4) C dX12_aimsOf_11 (by decide) ?_
      refine n_iald (pc := 12) (k := 1010) (n := 190) C rfl rfl (by exact m_z hm rfl) isn_v rfl (by omega) dX12_aimsOf_12 ?_
      refine gx_ti hP ?_
      refine g_icmp_ge (pc := 13) C 67 dX12_aimsOf_13 rfl (fun h => ?_) (fun h => ?_)
      · exact absurd h (nI_ge (by omega) (by omega))
      · refine g_iload_n (pc := 16) C dX12_aimsOf_16 rfl ?_
        refine g_iload (pc := 17) C dX12_aimsOf_17 rfl ?_
        refine cf_X12_308 (pc := 19) C (c_X12_isOfN _ _ _ s n hs (by omega)) ⟨rfl, rfl⟩ ⟨rfl, rfl⟩ ⟨Nat.zero_le _, Nat.zero_le _⟩ rfl (Nat.le_of_ble_eq_true rfl) dX12_aimsOf_19 ?_
        refine g_if_eq (pc := 22) C 61 dX12_aimsOf_22 rfl (fun h2 => ?_) (fun h2 => ?_)
        · have h2 := bI_0.mp h2
          refine g_iinc (pc := 61) (L' := [_, _, _, some (.int _), _]) C dX12_aimsOf_61 rfl (nI_1 _) rfl ?_
          refine g_goto (pc := 64) C 5 dX12_aimsOf_64 rfl ?_
          refine gx_L ?_ (ih (n + 1) (by omega))
          simp [aimsF, h2]
        · have h2 : s.testBit n = true := Decidable.not_not.mp (fun q => h2 (bI_0.mpr q))
          refine g_iload_n (pc := 25) C dX12_aimsOf_25 rfl ?_
          refine g_iload_n (pc := 26) C dX12_aimsOf_26 rfl ?_
          refine g_if_eq (pc := 27) C 49 dX12_aimsOf_27 rfl (fun h3 => ?_) (fun h3 => ?_)
          · have h3 := bI_0.mp h3
            refine g_aload_n (pc := 49) C dX12_aimsOf_49 rfl ?_
            refine mg_39 (pc := 50) C (by exact hm) dX12_aimsOf_50 ?_
            refine g_bipush (pc := 53) (v := nI 14) C dX12_aimsOf_53 (by decide) ?_
            refine g_iload (pc := 55) C dX12_aimsOf_55 rfl ?_
            refine g_iadd (pc := 57) C dX12_aimsOf_57 ?_
            refine n_iald (pc := 58) (k := 1010) (n := 190) C rfl rfl (by exact m_z hm rfl) (isn_add isn_v isn_v) rfl (by omega) dX12_aimsOf_58 ?_
            refine g_iadd (pc := 59) C dX12_aimsOf_59 ?_
            refine g_istore_n (pc := 60) (L' := [_, _, some (.int _), _, _]) C dX12_aimsOf_60 rfl rfl ?_
            refine g_iinc (pc := 61) (L' := [_, _, _, some (.int _), _]) C dX12_aimsOf_61 rfl (nI_1 _) rfl ?_
            refine g_goto (pc := 64) C 5 dX12_aimsOf_64 rfl ?_
            refine gx_L ?_ (ih (n + 1) (by omega))
            simp [aimsF, h2, h3]
          · have h3 : mid := Decidable.not_not.mp (fun q => h3 (bI_0.mpr q))
            refine g_aload_n (pc := 30) C dX12_aimsOf_30 rfl ?_
            refine g_iload (pc := 31) C dX12_aimsOf_31 rfl ?_
            refine g_aload_n (pc := 33) C dX12_aimsOf_33 rfl ?_
            refine mg_39 (pc := 34) C (by exact hm) dX12_aimsOf_34 ?_
            refine g_bipush (pc := 37) (v := nI 14) C dX12_aimsOf_37 (by decide) ?_
            refine g_iload (pc := 39) C dX12_aimsOf_39 rfl ?_
            refine g_iadd (pc := 41) C dX12_aimsOf_41 ?_
            refine n_iald (pc := 42) (k := 1010) (n := 190) C rfl rfl (by exact m_z hm rfl) (isn_add isn_v isn_v) rfl (by omega) dX12_aimsOf_42 ?_
            refine cf_X12_311 (pc := 43) C rfl (by exact m_z hm rfl) (c_X12_grown _ _ _ hm n (by omega) _) ⟨rfl, rfl⟩ ⟨rfl, rfl⟩ ⟨Nat.zero_le _, Nat.zero_le _⟩ rfl (Nat.le_of_ble_eq_true rfl) dX12_aimsOf_43 ?_
            refine g_goto (pc := 46) C 59 dX12_aimsOf_46 rfl ?_
            refine g_iadd (pc := 59) C dX12_aimsOf_59 ?_
            refine g_istore_n (pc := 60) (L' := [_, _, some (.int _), _, _]) C dX12_aimsOf_60 rfl rfl ?_
            refine g_iinc (pc := 61) (L' := [_, _, _, some (.int _), _]) C dX12_aimsOf_61 rfl (nI_1 _) rfl ?_
            refine g_goto (pc := 64) C 5 dX12_aimsOf_64 rfl ?_
            refine gx_L ?_ (ih (n + 1) (by omega))
            simp [aimsF, h2, h3]
  exact loop P 0 (by omega)
theorem c_X12_lightOf (w : Wd) (l : Launch) (S : St) (hm : gx_m S) (P : Nat) (hP : s_A S 1010 4 = nI P) (hP7 : P ≤ 7) (s : Nat) (hs : s < 128) : gx_M w l yX12_lightOf cX12_lightOf 4 (some .int) rmX12_lightOf [.ref (ad (w_b w) 1000), .int (nI s)] S (pI (lightF (s_A S 1010) s P) S) := by
  refine gx_start rfl 2 rfl (Nat.le_of_ble_eq_true rfl) ?_
  intro X C _ hl
  subst hl
  refine gx_L (L' := [_, _, _, _]) rfl ?_
  refine g_iconst (pc := 0) (v := nI 0) C dX12_lightOf_0 (by decide) ?_
  refine g_istore_n (pc := 1) (L' := [_, some (.int _), _, _]) C dX12_lightOf_1 rfl rfl ?_
  refine g_iconst (pc := 2) (v := nI 0) C dX12_lightOf_2 (by decide) ?_
  refine g_istore_n (pc := 3) (L' := [_, _, some (.int _), _]) C dX12_lightOf_3 rfl rfl ?_
  have loop : ∀ k n, n + k = P → gx_G w X S 0 0 4 [some (.ref (ad (w_b w) 1000)), some (.int (nI s)), some (.int (lightF (s_A S 1010) s n)), some (.int (nI n))] [] (gx_E w X (pI (lightF (s_A S 1010) s P) S)) := by
    intro k
    induction k with
    | zero =>
      intro n hn
      have hn : n = P := hn
      subst hn
      refine g_iload_n (pc := 4) C dX12_lightOf_4 rfl ?_
      refine g_aload_n (pc := 5) C dX12_lightOf_5 rfl ?_
      refine mg_39 (pc := 6) C (by exact hm) dX12_lightOf_6 ?_
      refine g_iconst (pc := 9) (v := nI 4) C dX12_lightOf_9 (by decide) ?_
      refine n_iald (pc := 10) (k := 1010) (n := 190) C rfl rfl (by exact m_z hm rfl) isn_v rfl (by omega) dX12_lightOf_10 ?_
      refine gx_ti hP ?_
      refine g_icmp_ge (pc := 11) C 44 dX12_lightOf_11 rfl (fun h => ?_) (fun h => ?_)
      · refine g_iload_n (pc := 44) C dX12_lightOf_44 rfl ?_
        exact g_ireturn (pc := 45) C ⟨rfl, rfl⟩ dX12_lightOf_45 ⟨rfl, rfl⟩
      · exact absurd (nI_le (Nat.le_refl n) (by omega)) h
    | succ k ih =>
      intro n hn
      refine g_iload_n (pc := 4) C dX12_lightOf_4 rfl ?_
      refine g_aload_n (pc := 5) C dX12_lightOf_5 rfl ?_
      refine mg_39 (pc := 6) C (by exact hm) dX12_lightOf_6 ?_
      refine g_iconst (pc := 9) (v := nI 4) C dX12_lightOf_9 (by decide) ?_
      refine n_iald (pc := 10) (k := 1010) (n := 190) C rfl rfl (by exact m_z hm rfl) isn_v rfl (by omega) dX12_lightOf_10 ?_
      refine gx_ti hP ?_
      refine g_icmp_ge (pc := 11) C 44 dX12_lightOf_11 rfl (fun h => ?_) (fun h => ?_)
      · exact absurd h (nI_ge (by omega) (by omega))
      · refine g_iload_n (pc := 14) C dX12_lightOf_14 rfl ?_
        refine g_iload_n (pc := 15) C dX12_lightOf_15 rfl ?_
        refine g_iload_n (pc := 16) C dX12_lightOf_16 rfl ?_
        refine cf_X12_308 (pc := 17) C (c_X12_isOfN _ _ _ s n hs (by omega)) ⟨rfl, rfl⟩ ⟨rfl, rfl⟩ ⟨Nat.zero_le _, Nat.zero_le _⟩ rfl (Nat.le_of_ble_eq_true rfl) dX12_lightOf_17 ?_
        refine g_if_eq (pc := 20) C 35 dX12_lightOf_20 rfl (fun h2 => ?_) (fun h2 => ?_)
        · have h2 := bI_0.mp h2
          refine g_iconst (pc := 35) (v := nI 0) C dX12_lightOf_35 (by decide) ?_
          refine g_iadd (pc := 36) C dX12_lightOf_36 ?_
          refine g_istore_n (pc := 37) (L' := [_, some (.int _), _, _]) C dX12_lightOf_37 rfl rfl ?_
          refine g_iinc (pc := 38) (L' := [_, _, some (.int _), _]) C dX12_lightOf_38 rfl (nI_1 _) rfl ?_
          refine g_goto (pc := 41) C 4 dX12_lightOf_41 rfl ?_
          refine gx_L ?_ (ih (n + 1) (by omega))
          simp [lightF, h2]
        · have h2 : s.testBit n = true := Decidable.not_not.mp (fun q => h2 (bI_0.mpr q))
          refine g_aload_n (pc := 23) C dX12_lightOf_23 rfl ?_
          refine mg_39 (pc := 24) C (by exact hm) dX12_lightOf_24 ?_
          refine g_bipush (pc := 27) (v := nI 35) C dX12_lightOf_27 (by decide) ?_
          refine g_iload_n (pc := 29) C dX12_lightOf_29 rfl ?_
          refine g_iadd (pc := 30) C dX12_lightOf_30 ?_
          refine n_iald (pc := 31) (k := 1010) (n := 190) C rfl rfl (by exact m_z hm rfl) (isn_add isn_v isn_v) rfl (by omega) dX12_lightOf_31 ?_
          refine g_goto (pc := 32) C 36 dX12_lightOf_32 rfl ?_
          refine g_iadd (pc := 36) C dX12_lightOf_36 ?_
          refine g_istore_n (pc := 37) (L' := [_, some (.int _), _, _]) C dX12_lightOf_37 rfl rfl ?_
          refine g_iinc (pc := 38) (L' := [_, _, some (.int _), _]) C dX12_lightOf_38 rfl (nI_1 _) rfl ?_
          refine g_goto (pc := 41) C 4 dX12_lightOf_41 rfl ?_
          refine gx_L ?_ (ih (n + 1) (by omega))
          simp [lightF, h2]
  exact loop P 0 (by omega)
theorem c_X12_twosOf (w : Wd) (l : Launch) (S : St) (hm : gx_m S) (P : Nat) (hP : s_A S 1010 4 = nI P) (hP7 : P ≤ 7) (s : Nat) (hs : s < 128) : gx_M w l yX12_twosOf cX12_twosOf 5 (some .int) rmX12_twosOf [.ref (ad (w_b w) 1000), .int (nI s)] S (pI (twosF (s_A S 1010) s P P) S) := by
  refine gx_start rfl 3 rfl (Nat.le_of_ble_eq_true rfl) ?_
  intro X C _ hl
  subst hl
  refine gx_L (L' := [_, _, _, _, _]) rfl ?_
  refine g_iconst (pc := 0) (v := nI 0) C dX12_twosOf_0 (by decide) ?_
  refine g_istore_n (pc := 1) (L' := [_, some (.int _), _, _, _]) C dX12_twosOf_1 rfl rfl ?_
  refine g_iconst (pc := 2) (v := nI 0) C dX12_twosOf_2 (by decide) ?_
  refine g_istore_n (pc := 3) (L' := [_, _, some (.int _), _, _]) C dX12_twosOf_3 rfl rfl ?_
  have loop : ∀ k a z, a + k = P → gx_G w X S 0 0 4 [some (.ref (ad (w_b w) 1000)), some (.int (nI s)), some (.int (twosF (s_A S 1010) s P a)), some (.int (nI a)), z] [] (gx_E w X (pI (twosF (s_A S 1010) s P P) S)) := by
    intro k
    induction k with
    | zero =>
      intro n z hn
      have hn : n = P := hn
      subst hn
      refine g_iload_n (pc := 4) C dX12_twosOf_4 rfl ?_
      refine g_aload_n (pc := 5) C dX12_twosOf_5 rfl ?_
      refine mg_39 (pc := 6) C (by exact hm) dX12_twosOf_6 ?_
      refine g_iconst (pc := 9) (v := nI 4) C dX12_twosOf_9 (by decide) ?_
      refine n_iald (pc := 10) (k := 1010) (n := 190) C rfl rfl (by exact m_z hm rfl) isn_v rfl (by omega) dX12_twosOf_10 ?_
      refine gx_ti hP ?_
      refine g_icmp_ge (pc := 11) C 73 dX12_twosOf_11 rfl (fun h => ?_) (fun h => ?_)
      · refine g_iload_n (pc := 73) C dX12_twosOf_73 rfl ?_
        exact g_ireturn (pc := 74) C ⟨rfl, rfl⟩ dX12_twosOf_74 ⟨rfl, rfl⟩
      · exact absurd (nI_le (Nat.le_refl n) (by omega)) h
    | succ k ih =>
      intro a z hn
      refine g_iload_n (pc := 4) C dX12_twosOf_4 rfl ?_
      refine g_aload_n (pc := 5) C dX12_twosOf_5 rfl ?_
      refine mg_39 (pc := 6) C (by exact hm) dX12_twosOf_6 ?_
      refine g_iconst (pc := 9) (v := nI 4) C dX12_twosOf_9 (by decide) ?_
      refine n_iald (pc := 10) (k := 1010) (n := 190) C rfl rfl (by exact m_z hm rfl) isn_v rfl (by omega) dX12_twosOf_10 ?_
      refine gx_ti hP ?_
      refine g_icmp_ge (pc := 11) C 73 dX12_twosOf_11 rfl (fun h => ?_) (fun h => ?_)
      · exact absurd h (nI_ge (by omega) (by omega))
      · refine g_iload_n (pc := 14) C dX12_twosOf_14 rfl ?_
        refine g_iconst (pc := 15) (v := nI 1) C dX12_twosOf_15 (by decide) ?_
        refine g_iadd (pc := 16) C dX12_twosOf_16 ?_
        refine gx_ti (nI_add a 1) ?_
        refine g_istore (pc := 17) (L' := [_, _, _, some (.int _), _]) C dX12_twosOf_17 rfl rfl ?_
        have inner : ∀ j b, a + 1 + b + j = P → gx_G w X S 0 0 19 [some (.ref (ad (w_b w) 1000)), some (.int (nI s)), some (.int (twosF (s_A S 1010) s P a + twosI (s_A S 1010) s a b)), some (.int (nI a)), some (.int (nI (a + 1 + b)))] [] (gx_E w X (pI (twosF (s_A S 1010) s P P) S)) := by
          intro j
          induction j with
          | zero =>
            intro b hb
            refine g_iload (pc := 19) C dX12_twosOf_19 rfl ?_
            refine g_aload_n (pc := 21) C dX12_twosOf_21 rfl ?_
            refine mg_39 (pc := 22) C (by exact hm) dX12_twosOf_22 ?_
            refine g_iconst (pc := 25) (v := nI 4) C dX12_twosOf_25 (by decide) ?_
            refine n_iald (pc := 26) (k := 1010) (n := 190) C rfl rfl (by exact m_z hm rfl) isn_v rfl (by omega) dX12_twosOf_26 ?_
            refine gx_ti hP ?_
            refine g_icmp_ge (pc := 27) C 67 dX12_twosOf_27 rfl (fun h => ?_) (fun h => ?_)
            · refine g_iinc (pc := 67) (L' := [_, _, some (.int _), _, _]) C dX12_twosOf_67 rfl (nI_1 _) rfl ?_
              refine g_goto (pc := 70) C 4 dX12_twosOf_70 rfl ?_
              refine gx_L ?_ (ih (a + 1) (some (.int (nI (a + 1 + b)))) (by omega))
              have : P - (a + 1) = b := by omega
              simp only [twosF, this]
            · exact absurd (nI_le (by omega) (by omega)) h
          | succ j jh =>
            intro b hb
            refine g_iload (pc := 19) C dX12_twosOf_19 rfl ?_
            refine g_aload_n (pc := 21) C dX12_twosOf_21 rfl ?_
            refine mg_39 (pc := 22) C (by exact hm) dX12_twosOf_22 ?_
            refine g_iconst (pc := 25) (v := nI 4) C dX12_twosOf_25 (by decide) ?_
            refine n_iald (pc := 26) (k := 1010) (n := 190) C rfl rfl (by exact m_z hm rfl) isn_v rfl (by omega) dX12_twosOf_26 ?_
            refine gx_ti hP ?_
            refine g_icmp_ge (pc := 27) C 67 dX12_twosOf_27 rfl (fun h => ?_) (fun h => ?_)
            · exact absurd h (nI_ge (by omega) (by omega))
            · refine g_iload_n (pc := 30) C dX12_twosOf_30 rfl ?_
              refine g_iload_n (pc := 31) C dX12_twosOf_31 rfl ?_
              refine g_iload_n (pc := 32) C dX12_twosOf_32 rfl ?_
              refine cf_X12_308 (pc := 33) C (c_X12_isOfN _ _ _ s a hs (by omega)) ⟨rfl, rfl⟩ ⟨rfl, rfl⟩ ⟨Nat.zero_le _, Nat.zero_le _⟩ rfl (Nat.le_of_ble_eq_true rfl) dX12_twosOf_33 ?_
              refine g_if_eq (pc := 36) C 58 dX12_twosOf_36 rfl (fun h2 => ?_) (fun h2 => ?_)
              · have h2 := bI_0.mp h2
                refine g_iconst (pc := 58) (v := nI 0) C dX12_twosOf_58 (by decide) ?_
                refine g_iadd (pc := 59) C dX12_twosOf_59 ?_
                refine g_istore_n (pc := 60) (L' := [_, some (.int _), _, _, _]) C dX12_twosOf_60 rfl rfl ?_
                refine g_iinc (pc := 61) (L' := [_, _, _, some (.int _), _]) C dX12_twosOf_61 rfl (nI_1 _) rfl ?_
                refine g_goto (pc := 64) C 19 dX12_twosOf_64 rfl ?_
                refine gx_L ?_ (jh (b + 1) (by omega))
                rw [show a + 1 + (b + 1) = a + 1 + b + 1 from rfl]; simp [twosI, h2, Int32.add_assoc]
              · have h2 : s.testBit a = true := Decidable.not_not.mp (fun q => h2 (bI_0.mpr q))
                refine g_iload_n (pc := 39) C dX12_twosOf_39 rfl ?_
                refine g_iload (pc := 40) C dX12_twosOf_40 rfl ?_
                refine cf_X12_308 (pc := 42) C (c_X12_isOfN _ _ _ s (a + 1 + b) hs (by omega)) ⟨rfl, rfl⟩ ⟨rfl, rfl⟩ ⟨Nat.zero_le _, Nat.zero_le _⟩ rfl (Nat.le_of_ble_eq_true rfl) dX12_twosOf_42 ?_
                refine g_if_eq (pc := 45) C 58 dX12_twosOf_45 rfl (fun h3 => ?_) (fun h3 => ?_)
                · have h3 := bI_0.mp h3
                  refine g_iconst (pc := 58) (v := nI 0) C dX12_twosOf_58 (by decide) ?_
                  refine g_iadd (pc := 59) C dX12_twosOf_59 ?_
                  refine g_istore_n (pc := 60) (L' := [_, some (.int _), _, _, _]) C dX12_twosOf_60 rfl rfl ?_
                  refine g_iinc (pc := 61) (L' := [_, _, _, some (.int _), _]) C dX12_twosOf_61 rfl (nI_1 _) rfl ?_
                  refine g_goto (pc := 64) C 19 dX12_twosOf_64 rfl ?_
                  refine gx_L ?_ (jh (b + 1) (by omega))
                  rw [show a + 1 + (b + 1) = a + 1 + b + 1 from rfl]; simp [twosI, h2, h3, Int32.add_assoc]
                · have h3 : s.testBit (a + 1 + b) = true := Decidable.not_not.mp (fun q => h3 (bI_0.mpr q))
                  refine g_aload_n (pc := 48) C dX12_twosOf_48 rfl ?_
                  refine g_iload_n (pc := 49) C dX12_twosOf_49 rfl ?_
                  refine g_iload (pc := 50) C dX12_twosOf_50 rfl ?_
                  refine cf_X12_314 (pc := 52) C rfl (by exact m_z hm rfl) (c_X12_besideOf _ _ _ hm a (a + 1 + b) (by omega) (by omega)) ⟨rfl, rfl⟩ ⟨rfl, rfl⟩ ⟨Nat.zero_le _, Nat.zero_le _⟩ rfl (Nat.le_of_ble_eq_true rfl) dX12_twosOf_52 ?_
                  refine g_goto (pc := 55) C 59 dX12_twosOf_55 rfl ?_
                  refine g_iadd (pc := 59) C dX12_twosOf_59 ?_
                  refine g_istore_n (pc := 60) (L' := [_, some (.int _), _, _, _]) C dX12_twosOf_60 rfl rfl ?_
                  refine g_iinc (pc := 61) (L' := [_, _, _, some (.int _), _]) C dX12_twosOf_61 rfl (nI_1 _) rfl ?_
                  refine g_goto (pc := 64) C 19 dX12_twosOf_64 rfl ?_
                  refine gx_L ?_ (jh (b + 1) (by omega))
                  rw [show a + 1 + (b + 1) = a + 1 + b + 1 from rfl]; simp [twosI, h2, h3, Int32.add_assoc]
        refine gx_L ?_ (inner (P - (a + 1)) 0 (by omega))
        simp [twosI, nI_0]
  exact loop P 0 _ (by omega)
