/-! ===== the reference: what is told of now; acts kept and undone ===== -/
theorem person_of {p : Int32} {P : Nat} (hP : P ≤ 7) (h : 0 ≤ p ∧ p < nI P) : ∃ j, j < P ∧ p = nI j ∧ p.toNatClampNeg = j := by
  rcases pk_ix p (n := P) (by omega) with h1 | h1 | ⟨j, hj, rfl⟩
  · exact absurd h1 (Int32.not_lt.mpr h.1)
  · exact absurd h.2 (Int32.not_lt.mpr h1)
  · exact ⟨j, hj, rfl, nI_clamp (by omega)⟩
theorem ti_neg {x : Int32} (h : x < 0) : x.toInt < 0 := by simpa using Int32.lt_iff_toInt_lt.mp h
theorem ti_ge {x : Int32} {n : Nat} (hn : n < 2 ^ 31) (h : nI n ≤ x) : (n : Int) ≤ x.toInt := by
  have := Int32.le_iff_toInt_le.mp h
  rwa [nI_toInt hn] at this
def personF (said : Nat → Int32) (P : Nat) (p what : Int32) : Int32 := if 0 ≤ p ∧ p < nI P then (if what = nI 0 then said (14 + p.toNatClampNeg) else if what = nI 1 then said (28 + p.toNatClampNeg) else if what = nI 2 then said (35 + p.toNatClampNeg) else if what = nI 3 then said (21 + p.toNatClampNeg) else -1) else -1
theorem c_X12_person (w : Wd) (l : Launch) (S : St) (hm : gx_m S) (P H : Nat) (hp : gx_p S P H) (p what : Int32) : gx_M w l yX12_person cX12_person 3 (some .int) rmX12_person [.ref (ad (w_b w) 1000), .int p, .int what] S (pI (personF (s_A S 1010) P p what) S) := by
  obtain ⟨hP, hP7, hH, hH2⟩ := id hp
  refine gx_start rfl 0 rfl (Nat.le_of_ble_eq_true rfl) ?_
  intro X C _ hl
  subst hl
  refine gx_L (L' := [_, _, _]) rfl ?_
  refine g_aload_n (pc := 0) C dX12_person_0 rfl ?_
  refine g_iload_n (pc := 1) C dX12_person_1 rfl ?_
  refine cf_X12_349 (pc := 2) C rfl (by exact m_z hm rfl) (c_X12_isPerson _ _ _ hm _) ⟨rfl, rfl⟩ ⟨rfl, rfl⟩ ⟨Nat.zero_le _, Nat.zero_le _⟩ rfl (Nat.le_of_ble_eq_true rfl) dX12_person_2 ?_
  refine gx_ti (y := bI (0 ≤ p ∧ p < nI P)) (by rw [hP]) ?_
  refine g_if_ne (pc := 5) C 10 dX12_person_5 rfl (fun h => ?_) (fun h => ?_)
  · have h : 0 ≤ p ∧ p < nI P := Decidable.not_not.mp (fun q => h (bI_0.mpr q))
    obtain ⟨j, hj, e, ec⟩ := person_of hP7 h
    subst e
    refine g_iload_n (pc := 10) C dX12_person_10 rfl ?_
    rcases pk_ix what (n := 4) (by omega) with h1 | h1 | ⟨k, hk, rfl⟩
    · refine g_tableOut (pc := 11) C 80 dX12_person_11 (Or.inl (ti_neg h1)) rfl ?_
      refine g_iconst (pc := 80) (v := -1) C dX12_person_80 (by decide) ?_
      exact g_ireturn (pc := 81) C ⟨rfl, rfl⟩ dX12_person_81 (⟨by unfold personF; rw [if_pos h, if_neg (fun q => absurd h1 (by rw [q]; decide)), if_neg (fun q => absurd h1 (by rw [q]; decide)), if_neg (fun q => absurd h1 (by rw [q]; decide)), if_neg (fun q => absurd h1 (by rw [q]; decide))], rfl⟩)
    · refine g_tableOut (pc := 11) C 80 dX12_person_11 (Or.inr (Int.lt_of_lt_of_le (by decide) (ti_ge (by omega) h1))) rfl ?_
      refine g_iconst (pc := 80) (v := -1) C dX12_person_80 (by decide) ?_
      exact g_ireturn (pc := 81) C ⟨rfl, rfl⟩ dX12_person_81 (⟨by unfold personF; rw [if_pos h, if_neg (fun q => absurd h1 (by rw [q]; decide)), if_neg (fun q => absurd h1 (by rw [q]; decide)), if_neg (fun q => absurd h1 (by rw [q]; decide)), if_neg (fun q => absurd h1 (by rw [q]; decide))], rfl⟩)
    · have : k = 0 ∨ k = 1 ∨ k = 2 ∨ k = 3 := by omega
      rcases this with rfl | rfl | rfl | rfl
      · refine g_tableIn (pc := 11) C 40 dX12_person_11 (by decide) (by decide) rfl rfl ?_
        refine g_aload_n (pc := 40) C dX12_person_40 rfl ?_
        refine mg_39 (pc := 41) C (by exact hm) dX12_person_41 ?_
        refine g_bipush (pc := 44) (v := nI 14) C dX12_person_44 (by decide) ?_
        refine g_iload_n (pc := 46) C dX12_person_46 rfl ?_
        refine g_iadd (pc := 47) C dX12_person_47 ?_
        refine n_iald (pc := 48) (k := 1010) (n := 190) C rfl rfl (by exact m_z hm rfl) (isn_add isn_v isn_v) rfl (by omega) dX12_person_48 ?_
        exact g_ireturn (pc := 49) C ⟨rfl, rfl⟩ dX12_person_49 (⟨by unfold personF; rw [if_pos h, ec]; rfl, rfl⟩)
      · refine g_tableIn (pc := 11) C 50 dX12_person_11 (by decide) (by decide) rfl rfl ?_
        refine g_aload_n (pc := 50) C dX12_person_50 rfl ?_
        refine mg_39 (pc := 51) C (by exact hm) dX12_person_51 ?_
        refine g_bipush (pc := 54) (v := nI 28) C dX12_person_54 (by decide) ?_
        refine g_iload_n (pc := 56) C dX12_person_56 rfl ?_
        refine g_iadd (pc := 57) C dX12_person_57 ?_
        refine n_iald (pc := 58) (k := 1010) (n := 190) C rfl rfl (by exact m_z hm rfl) (isn_add isn_v isn_v) rfl (by omega) dX12_person_58 ?_
        exact g_ireturn (pc := 59) C ⟨rfl, rfl⟩ dX12_person_59 (⟨by unfold personF; rw [if_pos h, ec]; rfl, rfl⟩)
      · refine g_tableIn (pc := 11) C 60 dX12_person_11 (by decide) (by decide) rfl rfl ?_
        refine g_aload_n (pc := 60) C dX12_person_60 rfl ?_
        refine mg_39 (pc := 61) C (by exact hm) dX12_person_61 ?_
        refine g_bipush (pc := 64) (v := nI 35) C dX12_person_64 (by decide) ?_
        refine g_iload_n (pc := 66) C dX12_person_66 rfl ?_
        refine g_iadd (pc := 67) C dX12_person_67 ?_
        refine n_iald (pc := 68) (k := 1010) (n := 190) C rfl rfl (by exact m_z hm rfl) (isn_add isn_v isn_v) rfl (by omega) dX12_person_68 ?_
        exact g_ireturn (pc := 69) C ⟨rfl, rfl⟩ dX12_person_69 (⟨by unfold personF; rw [if_pos h, ec]; rfl, rfl⟩)
      · refine g_tableIn (pc := 11) C 70 dX12_person_11 (by decide) (by decide) rfl rfl ?_
        refine g_aload_n (pc := 70) C dX12_person_70 rfl ?_
        refine mg_39 (pc := 71) C (by exact hm) dX12_person_71 ?_
        refine g_bipush (pc := 74) (v := nI 21) C dX12_person_74 (by decide) ?_
        refine g_iload_n (pc := 76) C dX12_person_76 rfl ?_
        refine g_iadd (pc := 77) C dX12_person_77 ?_
        refine n_iald (pc := 78) (k := 1010) (n := 190) C rfl rfl (by exact m_z hm rfl) (isn_add isn_v isn_v) rfl (by omega) dX12_person_78 ?_
        exact g_ireturn (pc := 79) C ⟨rfl, rfl⟩ dX12_person_79 (⟨by unfold personF; rw [if_pos h, ec]; rfl, rfl⟩)
  · have h := bI_0.mp (Decidable.not_not.mp h)
    refine g_iconst (pc := 8) (v := -1) C dX12_person_8 (by decide) ?_
    exact g_ireturn (pc := 9) C ⟨rfl, rfl⟩ dX12_person_9 (⟨by unfold personF; rw [if_neg h], rfl⟩)
def besideF (said : Nat → Int32) (P : Nat) (a b : Int32) : Int32 := if (0 ≤ a ∧ a < nI P) ∧ (0 ≤ b ∧ b < nI P) then said (49 + 7 * a.toNatClampNeg + b.toNatClampNeg) else -1
theorem c_X12_beside (w : Wd) (l : Launch) (S : St) (hm : gx_m S) (P H : Nat) (hp : gx_p S P H) (a b : Int32) : gx_M w l yX12_beside cX12_beside 3 (some .int) rmX12_beside [.ref (ad (w_b w) 1000), .int a, .int b] S (pI (besideF (s_A S 1010) P a b) S) := by
  obtain ⟨hP, hP7, hH, hH2⟩ := id hp
  refine gx_start rfl 0 rfl (Nat.le_of_ble_eq_true rfl) ?_
  intro X C _ hl
  subst hl
  refine gx_L (L' := [_, _, _]) rfl ?_
  refine g_aload_n (pc := 0) C dX12_beside_0 rfl ?_
  refine g_iload_n (pc := 1) C dX12_beside_1 rfl ?_
  refine cf_X12_349 (pc := 2) C rfl (by exact m_z hm rfl) (c_X12_isPerson _ _ _ hm _) ⟨rfl, rfl⟩ ⟨rfl, rfl⟩ ⟨Nat.zero_le _, Nat.zero_le _⟩ rfl (Nat.le_of_ble_eq_true rfl) dX12_beside_2 ?_
  refine gx_ti (y := bI (0 ≤ a ∧ a < nI P)) (by rw [hP]) ?_
  refine g_if_eq (pc := 5) C 25 dX12_beside_5 rfl (fun h => ?_) (fun h => ?_)
  · have h := bI_0.mp h
    refine g_iconst (pc := 25) (v := -1) C dX12_beside_25 (by decide) ?_
    exact g_ireturn (pc := 26) C ⟨rfl, rfl⟩ dX12_beside_26 (⟨by unfold besideF; rw [if_neg (fun q => h q.1)], rfl⟩)
  · have h : 0 ≤ a ∧ a < nI P := Decidable.not_not.mp (fun q => h (bI_0.mpr q))
    refine g_aload_n (pc := 8) C dX12_beside_8 rfl ?_
    refine g_iload_n (pc := 9) C dX12_beside_9 rfl ?_
    refine cf_X12_349 (pc := 10) C rfl (by exact m_z hm rfl) (c_X12_isPerson _ _ _ hm _) ⟨rfl, rfl⟩ ⟨rfl, rfl⟩ ⟨Nat.zero_le _, Nat.zero_le _⟩ rfl (Nat.le_of_ble_eq_true rfl) dX12_beside_10 ?_
    refine gx_ti (y := bI (0 ≤ b ∧ b < nI P)) (by rw [hP]) ?_
    refine g_if_eq (pc := 13) C 25 dX12_beside_13 rfl (fun h2 => ?_) (fun h2 => ?_)
    · have h2 := bI_0.mp h2
      refine g_iconst (pc := 25) (v := -1) C dX12_beside_25 (by decide) ?_
      exact g_ireturn (pc := 26) C ⟨rfl, rfl⟩ dX12_beside_26 (⟨by unfold besideF; rw [if_neg (fun q => h2 q.2)], rfl⟩)
    · have h2 : 0 ≤ b ∧ b < nI P := Decidable.not_not.mp (fun q => h2 (bI_0.mpr q))
      obtain ⟨j, hj, rfl, ec⟩ := person_of hP7 h
      obtain ⟨k, hk, rfl, ec2⟩ := person_of hP7 h2
      refine g_aload_n (pc := 16) C dX12_beside_16 rfl ?_
      refine g_iload_n (pc := 17) C dX12_beside_17 rfl ?_
      refine g_iload_n (pc := 18) C dX12_beside_18 rfl ?_
      refine cf_X12_314 (pc := 19) C rfl (by exact m_z hm rfl) (c_X12_besideOf _ _ _ hm j k (by omega) (by omega)) ⟨rfl, rfl⟩ ⟨rfl, rfl⟩ ⟨Nat.zero_le _, Nat.zero_le _⟩ rfl (Nat.le_of_ble_eq_true rfl) dX12_beside_19 ?_
      refine g_goto (pc := 22) C 26 dX12_beside_22 rfl ?_
      exact g_ireturn (pc := 26) C ⟨rfl, rfl⟩ dX12_beside_26 (⟨by unfold besideF; rw [if_pos ⟨h, h2⟩, ec, ec2], rfl⟩)
theorem c_X12_isRule (w : Wd) (l : Launch) (S : St) (hm : gx_m S) (k : Int32) : gx_M w l yX12_isRule cX12_isRule 2 (some .boolean) rmX12_isRule [.ref (ad (w_b w) 1000), .int k] S (pI (bI (0 ≤ k ∧ k < s_I S 1102 1000)) S) := by
  refine gx_start rfl 0 rfl (Nat.le_of_ble_eq_true rfl) ?_
  intro X C _ hl
  subst hl
  refine gx_L (L' := [_, _]) rfl ?_
  refine g_iload_n (pc := 0) C dX12_isRule_0 rfl ?_
  refine g_if_lt (pc := 1) C 16 dX12_isRule_1 rfl (fun h1 => ?_) (fun h1 => ?_)
  · refine g_iconst (pc := 16) (v := nI 0) C dX12_isRule_16 (by decide) ?_
    exact g_zreturn (pc := 17) C ⟨rfl, rfl⟩ (by first | exact Or.inl rfl | exact Or.inr rfl) dX12_isRule_17 ((by first | exact pI_t ⟨Int32.not_lt.mp h1, Int32.not_le.mp h9⟩ | exact pI_f (fun q => absurd h1 (Int32.not_lt.mpr q.1)) | exact pI_f (fun q => absurd h9 (Int32.not_le.mpr q.2))))
  · refine g_iload_n (pc := 4) C dX12_isRule_4 rfl ?_
    refine g_aload_n (pc := 5) C dX12_isRule_5 rfl ?_
    refine mg_270 (pc := 6) C (by exact hm) dX12_isRule_6 ?_
    refine g_icmp_ge (pc := 9) C 16 dX12_isRule_9 rfl (fun h9 => ?_) (fun h9 => ?_)
    · refine g_iconst (pc := 16) (v := nI 0) C dX12_isRule_16 (by decide) ?_
      exact g_zreturn (pc := 17) C ⟨rfl, rfl⟩ (by first | exact Or.inl rfl | exact Or.inr rfl) dX12_isRule_17 ((by first | exact pI_t ⟨Int32.not_lt.mp h1, Int32.not_le.mp h9⟩ | exact pI_f (fun q => absurd h1 (Int32.not_lt.mpr q.1)) | exact pI_f (fun q => absurd h9 (Int32.not_le.mpr q.2))))
    · refine g_iconst (pc := 12) (v := nI 1) C dX12_isRule_12 (by decide) ?_
      refine g_goto (pc := 13) C 17 dX12_isRule_13 rfl ?_
      exact g_zreturn (pc := 17) C ⟨rfl, rfl⟩ (by first | exact Or.inl rfl | exact Or.inr rfl) dX12_isRule_17 ((by first | exact pI_t ⟨Int32.not_lt.mp h1, Int32.not_le.mp h9⟩ | exact pI_f (fun q => absurd h1 (Int32.not_lt.mpr q.1)) | exact pI_f (fun q => absurd h9 (Int32.not_le.mpr q.2))))
theorem c_X12_force (w : Wd) (l : Launch) (S : St) (hm : gx_m S) (k : Int32) : gx_M w l yX12_force cX12_force 3 (some .int) rmX12_force [.ref (ad (w_b w) 1000), .int k] S (pI (if k = -1 ∨ (0 ≤ k ∧ k < s_I S 1102 1000) then s_I S 1121 1000 else -2) (if k = -1 ∨ (0 ≤ k ∧ k < s_I S 1102 1000) then s_setI S 1121 1000 k else S)) := by
  refine gx_start rfl 1 rfl (Nat.le_of_ble_eq_true rfl) ?_
  intro X C _ hl
  subst hl
  refine gx_L (L' := [_, _, _]) rfl ?_
  refine g_iload_n (pc := 0) C dX12_force_0 rfl ?_
  refine g_iconst (pc := 1) (v := -1) C dX12_force_1 (by decide) ?_
  refine g_icmp_eq (pc := 2) C 16 dX12_force_2 rfl (fun h => ?_) (fun h => ?_)
  · refine g_aload_n (pc := 16) C dX12_force_16 rfl ?_
    refine mg_42 (pc := 17) C (by exact hm) dX12_force_17 ?_
    refine g_istore_n (pc := 20) (L' := [_, some (.int _), _]) C dX12_force_20 rfl rfl ?_
    refine g_aload_n (pc := 21) C dX12_force_21 rfl ?_
    refine g_iload_n (pc := 22) C dX12_force_22 rfl ?_
    refine mp_42 (pc := 23) C (by exact hm) dX12_force_23 ?_
    refine g_iload_n (pc := 26) C dX12_force_26 rfl ?_
    exact g_ireturn (pc := 27) C ⟨rfl, rfl⟩ dX12_force_27 (⟨by rw [if_pos (Or.inl h)], by rw [if_pos (Or.inl h)]⟩)
  · refine g_aload_n (pc := 5) C dX12_force_5 rfl ?_
    refine g_iload_n (pc := 6) C dX12_force_6 rfl ?_
    refine cf_X12_346 (pc := 7) C rfl (by exact m_z hm rfl) (c_X12_isRule _ _ _ hm _) ⟨rfl, rfl⟩ ⟨rfl, rfl⟩ ⟨Nat.zero_le _, Nat.zero_le _⟩ rfl (Nat.le_of_ble_eq_true rfl) dX12_force_7 ?_
    refine g_if_ne (pc := 10) C 16 dX12_force_10 rfl (fun h2 => ?_) (fun h2 => ?_)
    · have h2 := Decidable.not_not.mp (fun q => h2 (bI_0.mpr q))
      refine g_aload_n (pc := 16) C dX12_force_16 rfl ?_
      refine mg_42 (pc := 17) C (by exact hm) dX12_force_17 ?_
      refine g_istore_n (pc := 20) (L' := [_, some (.int _), _]) C dX12_force_20 rfl rfl ?_
      refine g_aload_n (pc := 21) C dX12_force_21 rfl ?_
      refine g_iload_n (pc := 22) C dX12_force_22 rfl ?_
      refine mp_42 (pc := 23) C (by exact hm) dX12_force_23 ?_
      refine g_iload_n (pc := 26) C dX12_force_26 rfl ?_
      exact g_ireturn (pc := 27) C ⟨rfl, rfl⟩ dX12_force_27 (⟨by rw [if_pos (Or.inr h2)], by rw [if_pos (Or.inr h2)]⟩)
    · have h2 := bI_0.mp (Decidable.not_not.mp h2)
      refine g_bipush (pc := 13) (v := -2) C dX12_force_13 (by decide) ?_
      exact g_ireturn (pc := 15) C ⟨rfl, rfl⟩ dX12_force_15 (⟨by rw [if_neg (fun q => q.elim h h2)], by rw [if_neg (fun q => q.elim h h2)]⟩)
theorem c_X12_seed (w : Wd) (l : Launch) (S : St) (hm : gx_m S) (n : Int32) : gx_M w l yX12_seed cX12_seed 3 (some .int) rmX12_seed [.ref (ad (w_b w) 1000), .int n] S (pI (if 0 ≤ n then s_I S 1122 1000 else -1) (if 0 ≤ n then s_setI S 1122 1000 n else S)) := by
  refine gx_start rfl 1 rfl (Nat.le_of_ble_eq_true rfl) ?_
  intro X C _ hl
  subst hl
  refine gx_L (L' := [_, _, _]) rfl ?_
  refine g_iload_n (pc := 0) C dX12_seed_0 rfl ?_
  refine g_if_ge (pc := 1) C 6 dX12_seed_1 rfl (fun h1 => ?_) (fun h1 => ?_)
  · refine g_aload_n (pc := 6) C dX12_seed_6 rfl ?_
    refine mg_437 (pc := 7) C (by exact hm) dX12_seed_7 ?_
    refine g_istore_n (pc := 10) (L' := [_, some (.int _), _]) C dX12_seed_10 rfl rfl ?_
    refine g_aload_n (pc := 11) C dX12_seed_11 rfl ?_
    refine g_iload_n (pc := 12) C dX12_seed_12 rfl ?_
    refine mp_437 (pc := 13) C (by exact hm) dX12_seed_13 ?_
    refine g_iload_n (pc := 16) C dX12_seed_16 rfl ?_
    exact g_ireturn (pc := 17) C ⟨rfl, rfl⟩ dX12_seed_17 ((by first | exact ⟨by rw [if_pos h1], by rw [if_pos h1]⟩ | exact ⟨by rw [if_neg h1], by rw [if_neg h1]⟩))
  · refine g_iconst (pc := 4) (v := -1) C dX12_seed_4 (by decide) ?_
    exact g_ireturn (pc := 5) C ⟨rfl, rfl⟩ dX12_seed_5 ((by first | exact ⟨by rw [if_pos h1], by rw [if_pos h1]⟩ | exact ⟨by rw [if_neg h1], by rw [if_neg h1]⟩))
/-- a set that is told: of PEOPLE that there are -/
theorem set_of {x : Int32} {P : Nat} (hP : P ≤ 7) (h : 0 ≤ x ∧ x < nI (2 ^ P)) : ∃ s, s < 2 ^ P ∧ s < 128 ∧ x = nI s ∧ x.toNatClampNeg = s := by
  have h2 : 2 ^ P ≤ 2 ^ 7 := Nat.pow_le_pow_right (by decide) hP
  rcases pk_ix x (n := 2 ^ P) (by omega) with h1 | h1 | ⟨j, hj, rfl⟩
  · exact absurd h1 (Int32.not_lt.mpr h.1)
  · exact absurd h.2 (Int32.not_lt.mpr h1)
  · exact ⟨j, hj, by omega, rfl, nI_clamp (by omega)⟩
def weightA (drawn : Int32) (said : Nat → Int32) (P H : Nat) (x : Int32) : Int32 := if said 0 = nI 1 ∧ 0 ≤ x ∧ x < nI (2 ^ P) then weightF said P (fogF drawn said H) x.toNatClampNeg False else -1
theorem c_X12_weight (w : Wd) (l : Launch) (S : St) (hm : gx_m S) (P H : Nat) (hp : gx_p S P H) (x : Int32) : gx_M w l yX12_weight cX12_weight 2 (some .int) rmX12_weight [.ref (ad (w_b w) 1000), .int x] S (pI (weightA (s_I S 1123 1000) (s_A S 1010) P H x) S) := by
  obtain ⟨hP, hP7, hH, hH2⟩ := id hp
  refine gx_start rfl 0 rfl (Nat.le_of_ble_eq_true rfl) ?_
  intro X C _ hl
  subst hl
  refine gx_L (L' := [_, _]) rfl ?_
  refine g_aload_n (pc := 0) C dX12_weight_0 rfl ?_
  refine g_iload_n (pc := 1) C dX12_weight_1 rfl ?_
  refine cf_X12_376 (pc := 2) C rfl (by exact m_z hm rfl) (c_X12_isSet _ _ _ hm P H hp _) ⟨rfl, rfl⟩ ⟨rfl, rfl⟩ ⟨Nat.zero_le _, Nat.zero_le _⟩ rfl (Nat.le_of_ble_eq_true rfl) dX12_weight_2 ?_
  refine g_if_eq (pc := 5) C 17 dX12_weight_5 rfl (fun h => ?_) (fun h => ?_)
  · have h := bI_0.mp h
    refine g_iconst (pc := 17) (v := -1) C dX12_weight_17 (by decide) ?_
    exact g_ireturn (pc := 18) C ⟨rfl, rfl⟩ dX12_weight_18 (⟨by unfold weightA; rw [if_neg h], rfl⟩)
  · have h := Decidable.not_not.mp (fun q => h (bI_0.mpr q))
    obtain ⟨s, -, hs, rfl, ec⟩ := set_of hP7 h.2
    refine g_aload_n (pc := 8) C dX12_weight_8 rfl ?_
    refine g_iload_n (pc := 9) C dX12_weight_9 rfl ?_
    refine g_iconst (pc := 10) (v := nI 0) C dX12_weight_10 (by decide) ?_
    refine cf_X12_340 (pc := 11) C rfl (by exact m_z hm rfl) (c_X12_weightOf _ _ _ hm P H hp s hs False) ⟨rfl, rfl⟩ ⟨rfl, rfl⟩ ⟨Nat.zero_le _, Nat.zero_le _⟩ rfl (Nat.le_of_ble_eq_true rfl) dX12_weight_11 ?_
    refine g_goto (pc := 14) C 18 dX12_weight_14 rfl ?_
    exact g_ireturn (pc := 18) C ⟨rfl, rfl⟩ dX12_weight_18 (⟨by unfold weightA; rw [if_pos h, ec], rfl⟩)
