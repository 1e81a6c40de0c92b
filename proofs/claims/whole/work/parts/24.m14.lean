/-! ===== the reference: trip, cross, toss, talk ===== -/
theorem scw_id (S : St) : scw S (s_B S 1008) (s_B S 1009) (s_I S 1118 1000) = S := by
  have h1 : u1 (u1 (s_B S) 1009 (s_B S 1009)) 1008 (s_B S 1008) = s_B S := by
    funext j; unfold u1
    by_cases e : j = 1008
    · subst e; simp
    · simp only [e, if_false]
      by_cases e2 : j = 1009
      · subst e2; simp
      · simp [e2]
  show s_setI (_, _, _, _, _, _, _, u1 (u1 (s_B S) 1009 (s_B S 1009)) 1008 (s_B S 1008), _) 1118 1000 (s_I S 1118 1000) = S
  rw [h1]
  exact s_I_id S 1118 1000
abbrev tripOK (said : Nat → Int32) : Prop := said 0 = nI 1 ∧ ¬ said 10 = nI 999
theorem c_X12_trip (w : Wd) (l : Launch) (S : St) (hm : gx_m S) (P H : Nat) (hp : gx_p S P H) (fr : Option ((Nat → Int64) → Int64)) (hfr : frW S fr) (u : Nat) (hu : s_I S 1125 1000 = nI u) (hu2 : u ≤ 20) : gx_M w l yX12_trip cX12_trip 1 (some .int) rmX12_trip [.ref (ad (w_b w) 1000)] S (fun a S' => if tripOK (s_A S 1010) then (∃ B' W' t', a = some (.int (nI (setF fr (s_I S 1123 1000) (s_A S 1010) P H))) ∧ S' = scw (s_setA (keepU S u) 1010 (passF fr (s_I S 1123 1000) (s_A S 1010) P H)) B' W' t') else (a = some (.int (-1)) ∧ S' = S)) := by
  refine gx_start rfl 0 rfl (Nat.le_of_ble_eq_true rfl) ?_
  intro X C _ hl
  subst hl
  refine gx_L (L' := [_]) rfl ?_
  refine g_aload_n (pc := 0) C dX12_trip_0 rfl ?_
  refine cf_X12_297 (pc := 1) C rfl (by exact m_z hm rfl) (c_X12_isCrossing _ _ _ hm) ⟨rfl, rfl⟩ ⟨rfl, rfl⟩ ⟨Nat.zero_le _, Nat.zero_le _⟩ rfl (Nat.le_of_ble_eq_true rfl) dX12_trip_1 ?_
  refine g_if_eq (pc := 4) C 20 dX12_trip_4 rfl (fun h => ?_) (fun h => ?_)
  · have h := bI_0.mp h
    refine g_iconst (pc := 20) (v := -1) C dX12_trip_20 (by decide) ?_
    exact g_ireturn (pc := 21) C ⟨rfl, rfl⟩ dX12_trip_21 ((by rw [if_neg (fun q => h q.1)]; exact ⟨rfl, rfl⟩))
  · have h := Decidable.not_not.mp (fun q => h (bI_0.mpr q))
    refine g_aload_n (pc := 7) C dX12_trip_7 rfl ?_
    refine mg_39 (pc := 8) C (by exact hm) dX12_trip_8 ?_
    refine g_bipush (pc := 11) (v := nI 10) C dX12_trip_11 (by decide) ?_
    refine n_iald (pc := 13) (k := 1010) (n := 190) C rfl rfl (by exact m_z hm rfl) isn_v rfl (by omega) dX12_trip_13 ?_
    refine g_sipush (pc := 14) (v := nI 999) C dX12_trip_14 (by decide) ?_
    refine g_icmp_ne (pc := 17) C 22 dX12_trip_17 rfl (fun h2 => ?_) (fun h2 => ?_)
    · have hok : tripOK (s_A S 1010) := ⟨h, h2⟩
      refine g_aload_n (pc := 22) C dX12_trip_22 rfl ?_
      refine cf_X12_370 (pc := 23) C rfl (by exact m_z hm rfl) (c_X12_keepsAct _ _ _ (by exact hm) u (by exact hu) hu2) ⟨rfl, rfl⟩ ⟨rfl, rfl⟩ ⟨Nat.zero_le _, Nat.zero_le _⟩ rfl (Nat.le_of_ble_eq_true rfl) dX12_trip_23 ?_
      refine g_aload_n (pc := 26) C dX12_trip_26 rfl ?_
      refine gx_S (scw_id (keepU S u)).symm ?_
      refine cg_X12_373 (pc := 27) C rfl (by exact m_z hm rfl) (c_X12_passes _ _ (keepU S u) hm P H hp fr hfr _ _ _) ⟨rfl, rfl⟩ ⟨Nat.zero_le _, Nat.zero_le _⟩ rfl (Nat.le_of_ble_eq_true rfl) dX12_trip_27 ?_
      rintro _ _ ⟨B', W', t', rfl, rfl⟩
      exact g_ireturn (pc := 30) C ⟨rfl, rfl⟩ dX12_trip_30 (by rw [if_pos hok]; exact ⟨B', W', t', rfl, rfl⟩)
    · have h2 := Decidable.not_not.mp h2
      refine g_iconst (pc := 20) (v := -1) C dX12_trip_20 (by decide) ?_
      exact g_ireturn (pc := 21) C ⟨rfl, rfl⟩ dX12_trip_21 ((by rw [if_neg (fun q => q.2 h2)]; exact ⟨rfl, rfl⟩))
abbrev crossOK (drawn : Int32) (said : Nat → Int32) (P H : Nat) (x : Int32) : Prop := (said 0 = nI 1 ∧ 0 ≤ x ∧ x < nI (2 ^ P)) ∧ ¬ said 10 = nI 999 ∧ canBF said P (fogF drawn said H) x.toNatClampNeg
theorem c_X12_cross (w : Wd) (l : Launch) (S : St) (hm : gx_m S) (P H : Nat) (hp : gx_p S P H) (u : Nat) (hu : s_I S 1125 1000 = nI u) (hu2 : u ≤ 20) (x : Int32) : gx_M w l yX12_cross cX12_cross 2 (some .int) rmX12_cross [.ref (ad (w_b w) 1000), .int x] S (pI (if crossOK (s_I S 1123 1000) (s_A S 1010) P H x then bI (goOK (s_I S 1123 1000) (s_A S 1010) P H x.toNatClampNeg) else -1) (if crossOK (s_I S 1123 1000) (s_A S 1010) P H x then s_setA (keepU S u) 1010 (goF (s_I S 1123 1000) (s_A S 1010) P H x.toNatClampNeg) else S)) := by
  obtain ⟨hP, hP7, hH, hH2⟩ := id hp
  refine gx_start rfl 0 rfl (Nat.le_of_ble_eq_true rfl) ?_
  intro X C _ hl
  subst hl
  refine gx_L (L' := [_, _]) rfl ?_
  refine g_aload_n (pc := 0) C dX12_cross_0 rfl ?_
  refine g_iload_n (pc := 1) C dX12_cross_1 rfl ?_
  refine cf_X12_376 (pc := 2) C rfl (by exact m_z hm rfl) (c_X12_isSet _ _ _ hm P H hp _) ⟨rfl, rfl⟩ ⟨rfl, rfl⟩ ⟨Nat.zero_le _, Nat.zero_le _⟩ rfl (Nat.le_of_ble_eq_true rfl) dX12_cross_2 ?_
  refine g_if_eq (pc := 5) C 29 dX12_cross_5 rfl (fun h => ?_) (fun h => ?_)
  · have h := bI_0.mp h
    refine g_iconst (pc := 29) (v := -1) C dX12_cross_29 (by decide) ?_
    exact g_ireturn (pc := 30) C ⟨rfl, rfl⟩ dX12_cross_30 (⟨by rw [if_neg (fun q => h q.1)], by rw [if_neg (fun q => h q.1)]⟩)
  · have h := Decidable.not_not.mp (fun q => h (bI_0.mpr q))
    obtain ⟨s, -, hs, rfl, ec⟩ := set_of hP7 h.2
    refine g_aload_n (pc := 8) C dX12_cross_8 rfl ?_
    refine mg_39 (pc := 9) C (by exact hm) dX12_cross_9 ?_
    refine g_bipush (pc := 12) (v := nI 10) C dX12_cross_12 (by decide) ?_
    refine n_iald (pc := 14) (k := 1010) (n := 190) C rfl rfl (by exact m_z hm rfl) isn_v rfl (by omega) dX12_cross_14 ?_
    refine g_sipush (pc := 15) (v := nI 999) C dX12_cross_15 (by decide) ?_
    refine g_icmp_eq (pc := 18) C 29 dX12_cross_18 rfl (fun h2 => ?_) (fun h2 => ?_)
    · refine g_iconst (pc := 29) (v := -1) C dX12_cross_29 (by decide) ?_
      exact g_ireturn (pc := 30) C ⟨rfl, rfl⟩ dX12_cross_30 (⟨by rw [if_neg (fun q => q.2.1 h2)], by rw [if_neg (fun q => q.2.1 h2)]⟩)
    · refine g_aload_n (pc := 21) C dX12_cross_21 rfl ?_
      refine g_iload_n (pc := 22) C dX12_cross_22 rfl ?_
      refine cf_X12_343 (pc := 23) C rfl (by exact m_z hm rfl) (c_X12_canBoard _ _ _ hm P H hp s hs) ⟨rfl, rfl⟩ ⟨rfl, rfl⟩ ⟨Nat.zero_le _, Nat.zero_le _⟩ rfl (Nat.le_of_ble_eq_true rfl) dX12_cross_23 ?_
      refine g_if_ne (pc := 26) C 31 dX12_cross_26 rfl (fun h3 => ?_) (fun h3 => ?_)
      · have h3 := Decidable.not_not.mp (fun q => h3 (bI_0.mpr q))
        have hok : crossOK (s_I S 1123 1000) (s_A S 1010) P H (nI s) := ⟨h, h2, by rw [ec]; exact h3⟩
        rw [if_pos hok, if_pos hok, ec]
        refine g_aload_n (pc := 31) C dX12_cross_31 rfl ?_
        refine cf_X12_370 (pc := 32) C rfl (by exact m_z hm rfl) (c_X12_keepsAct _ _ _ (by exact hm) u (by exact hu) hu2) ⟨rfl, rfl⟩ ⟨rfl, rfl⟩ ⟨Nat.zero_le _, Nat.zero_le _⟩ rfl (Nat.le_of_ble_eq_true rfl) dX12_cross_32 ?_
        refine g_aload_n (pc := 35) C dX12_cross_35 rfl ?_
        refine g_iload_n (pc := 36) C dX12_cross_36 rfl ?_
        refine cf_X12_367 (pc := 37) C rfl (by exact m_z hm rfl) (c_X12_goesOver _ _ (keepU S u) (by exact hm) P H (by exact hp) s hs) ⟨rfl, rfl⟩ ⟨rfl, rfl⟩ ⟨Nat.zero_le _, Nat.zero_le _⟩ rfl (Nat.le_of_ble_eq_true rfl) dX12_cross_37 ?_
        refine gx_ti (y := bI (goOK (s_I S 1123 1000) (s_A S 1010) P H s)) rfl ?_
        refine g_if_eq (pc := 40) C 47 dX12_cross_40 rfl (fun h4 => ?_) (fun h4 => ?_)
        · refine g_iconst (pc := 47) (v := nI 0) C dX12_cross_47 (by decide) ?_
          exact g_ireturn (pc := 48) C ⟨rfl, rfl⟩ dX12_cross_48 (⟨by rw [bI_f (bI_0.mp h4)], rfl⟩)
        · refine g_iconst (pc := 43) (v := nI 1) C dX12_cross_43 (by decide) ?_
          refine g_goto (pc := 44) C 48 dX12_cross_44 rfl ?_
          exact g_ireturn (pc := 48) C ⟨rfl, rfl⟩ dX12_cross_48 (⟨by rw [bI_t (Decidable.not_not.mp (fun q => h4 (bI_0.mpr q)))], rfl⟩)
      · have h3 := bI_0.mp (Decidable.not_not.mp h3)
        refine g_iconst (pc := 29) (v := -1) C dX12_cross_29 (by decide) ?_
        exact g_ireturn (pc := 30) C ⟨rfl, rfl⟩ dX12_cross_30 (⟨by rw [if_neg (fun q => h3 (by have := q.2.2; rw [ec] at this; exact this))], by rw [if_neg (fun q => h3 (by have := q.2.2; rw [ec] at this; exact this))]⟩)
abbrev tossOK (said : Nat → Int32) (P : Nat) (p much : Int32) : Prop := (0 ≤ p ∧ p < nI P) ∧ (1 ≤ much.toInt64 ∧ much.toInt64 ≤ (said (14 + p.toNatClampNeg)).toInt64)
def tossF (said : Nat → Int32) (j : Nat) (much : Int32) : Nat → Int32 := upd (upd said (14 + j) (said (14 + j) - much)) 13 (said 13 + much)
theorem c_X12_toss (w : Wd) (l : Launch) (S : St) (hm : gx_m S) (P H : Nat) (hp : gx_p S P H) (u : Nat) (hu : s_I S 1125 1000 = nI u) (hu2 : u ≤ 20) (p much : Int32) : gx_M w l yX12_toss cX12_toss 3 (some .int) rmX12_toss [.ref (ad (w_b w) 1000), .int p, .int much] S (pI (if tossOK (s_A S 1010) P p much then s_A S 1010 (14 + p.toNatClampNeg) - much else -1) (if tossOK (s_A S 1010) P p much then s_setA (keepU S u) 1010 (tossF (s_A S 1010) p.toNatClampNeg much) else S)) := by
  obtain ⟨hP, hP7, hH, hH2⟩ := id hp
  refine gx_start rfl 0 rfl (Nat.le_of_ble_eq_true rfl) ?_
  intro X C _ hl
  subst hl
  refine gx_L (L' := [_, _, _]) rfl ?_
  refine g_aload_n (pc := 0) C dX12_toss_0 rfl ?_
  refine g_iload_n (pc := 1) C dX12_toss_1 rfl ?_
  refine cf_X12_349 (pc := 2) C rfl (by exact m_z hm rfl) (c_X12_isPerson _ _ _ hm _) ⟨rfl, rfl⟩ ⟨rfl, rfl⟩ ⟨Nat.zero_le _, Nat.zero_le _⟩ rfl (Nat.le_of_ble_eq_true rfl) dX12_toss_2 ?_
  refine gx_ti (y := bI (0 ≤ p ∧ p < nI P)) (by rw [hP]) ?_
  refine g_if_eq (pc := 5) C 27 dX12_toss_5 rfl (fun h => ?_) (fun h => ?_)
  · have h := bI_0.mp h
    refine g_iconst (pc := 27) (v := -1) C dX12_toss_27 (by decide) ?_
    exact g_ireturn (pc := 28) C ⟨rfl, rfl⟩ dX12_toss_28 (⟨by rw [if_neg (fun q => h q.1)], by rw [if_neg (fun q => h q.1)]⟩)
  · have h : 0 ≤ p ∧ p < nI P := Decidable.not_not.mp (fun q => h (bI_0.mpr q))
    obtain ⟨j, hj, rfl, ec⟩ := person_of hP7 h
    refine g_iload_n (pc := 8) C dX12_toss_8 rfl ?_
    refine g_i2l (pc := 9) C dX12_toss_9 ?_
    refine g_lconst (pc := 10) (v := 1) C dX12_toss_10 (by decide) ?_
    refine g_aload_n (pc := 11) C dX12_toss_11 rfl ?_
    refine mg_39 (pc := 12) C (by exact hm) dX12_toss_12 ?_
    refine g_bipush (pc := 15) (v := nI 14) C dX12_toss_15 (by decide) ?_
    refine g_iload_n (pc := 17) C dX12_toss_17 rfl ?_
    refine g_iadd (pc := 18) C dX12_toss_18 ?_
    refine n_iald (pc := 19) (k := 1010) (n := 190) C rfl rfl (by exact m_z hm rfl) (isn_add isn_v isn_v) rfl (by omega) dX12_toss_19 ?_
    refine g_i2l (pc := 20) C dX12_toss_20 ?_
    refine cf_X12_130 (pc := 21) C (c_X12_in _ _ _ _ _ _) ⟨rfl, rfl⟩ ⟨rfl, rfl⟩ ⟨Nat.zero_le _, Nat.zero_le _⟩ rfl (Nat.le_of_ble_eq_true rfl) dX12_toss_21 ?_
    refine g_if_ne (pc := 24) C 29 dX12_toss_24 rfl (fun h2 => ?_) (fun h2 => ?_)
    · have h2 := Decidable.not_not.mp (fun q => h2 (bI_0.mpr q))
      have hok : tossOK (s_A S 1010) P (nI j) much := ⟨h, by rw [ec]; exact h2⟩
      rw [if_pos hok, if_pos hok, ec]
      refine g_aload_n (pc := 29) C dX12_toss_29 rfl ?_
      refine cf_X12_370 (pc := 30) C rfl (by exact m_z hm rfl) (c_X12_keepsAct _ _ _ (by exact hm) u (by exact hu) hu2) ⟨rfl, rfl⟩ ⟨rfl, rfl⟩ ⟨Nat.zero_le _, Nat.zero_le _⟩ rfl (Nat.le_of_ble_eq_true rfl) dX12_toss_30 ?_
      refine g_aload_n (pc := 33) C dX12_toss_33 rfl ?_
      refine mg_39 (pc := 34) C (by exact hm) dX12_toss_34 ?_
      refine g_bipush (pc := 37) (v := nI 14) C dX12_toss_37 (by decide) ?_
      refine g_iload_n (pc := 39) C dX12_toss_39 rfl ?_
      refine g_iadd (pc := 40) C dX12_toss_40 ?_
      refine g_dup2 (pc := 41) C dX12_toss_41 rfl rfl ?_
      refine n_iald (pc := 42) (k := 1010) (n := 190) C rfl rfl (by exact m_z hm rfl) (isn_add isn_v isn_v) rfl (by omega) dX12_toss_42 ?_
      refine g_iload_n (pc := 43) C dX12_toss_43 rfl ?_
      refine g_isub (pc := 44) C dX12_toss_44 ?_
      refine n_iast (pc := 45) (k := 1010) (n := 190) C rfl rfl (by exact m_z hm rfl) (isn_add isn_v isn_v) rfl (by omega) dX12_toss_45 ?_
      refine gx_S (S' := s_setA (keepU S u) 1010 (upd (s_A S 1010) (14 + j) (s_A S 1010 (14 + j) - much))) rfl ?_
      refine g_aload_n (pc := 46) C dX12_toss_46 rfl ?_
      refine mg_39 (pc := 47) C (by exact hm) dX12_toss_47 ?_
      refine g_bipush (pc := 50) (v := nI 13) C dX12_toss_50 (by decide) ?_
      refine g_dup2 (pc := 52) C dX12_toss_52 rfl rfl ?_
      refine n_iald (pc := 53) (k := 1010) (n := 190) C rfl rfl (by exact m_z hm rfl) isn_v rfl (by omega) dX12_toss_53 ?_
      refine g_iload_n (pc := 54) C dX12_toss_54 rfl ?_
      refine g_iadd (pc := 55) C dX12_toss_55 ?_
      refine n_iast (pc := 56) (k := 1010) (n := 190) C rfl rfl (by exact m_z hm rfl) isn_v rfl (by omega) dX12_toss_56 ?_
      refine gx_S (S' := s_setA (keepU S u) 1010 (tossF (s_A S 1010) j much)) ?_ ?_
      · rw [s_AA]
        refine congrArg _ (congrArg (upd _ 13) ?_)
        show upd (s_A S 1010) (14 + j) (s_A S 1010 (14 + j) - much) 13 + much = s_A S 1010 13 + much
        simp only [upd]; rw [if_neg (by omega)]
      refine g_aload_n (pc := 57) C dX12_toss_57 rfl ?_
      refine mg_39 (pc := 58) C (by exact hm) dX12_toss_58 ?_
      refine g_bipush (pc := 61) (v := nI 14) C dX12_toss_61 (by decide) ?_
      refine g_iload_n (pc := 63) C dX12_toss_63 rfl ?_
      refine g_iadd (pc := 64) C dX12_toss_64 ?_
      refine n_iald (pc := 65) (k := 1010) (n := 190) C rfl rfl (by exact m_z hm rfl) (isn_add isn_v isn_v) rfl (by omega) dX12_toss_65 ?_
      exact g_ireturn (pc := 66) C ⟨rfl, rfl⟩ dX12_toss_66 ⟨congrArg (fun z => some (Value.int z)) (by show tossF (s_A S 1010) j much (14 + j) = _; simp only [tossF, upd]; rw [if_neg (by omega), if_pos trivial]), rfl⟩
    · have h2 := bI_0.mp (Decidable.not_not.mp h2)
      refine g_iconst (pc := 27) (v := -1) C dX12_toss_27 (by decide) ?_
      exact g_ireturn (pc := 28) C ⟨rfl, rfl⟩ dX12_toss_28 (⟨by rw [if_neg (fun q => h2 (by have := q.2; rw [ec] at this; exact this))], by rw [if_neg (fun q => h2 (by have := q.2; rw [ec] at this; exact this))]⟩)
abbrev talkOK (said : Nat → Int32) (P : Nat) (p much : Int32) : Prop := (0 ≤ p ∧ p < nI P) ∧ (1 ≤ much.toInt64 ∧ much.toInt64 ≤ 20) ∧ said (35 + p.toNatClampNeg) ≤ 0
def talkF (said : Nat → Int32) (j : Nat) (much : Int32) : Nat → Int32 := upd said (14 + j) (atMostF (said (14 + j) + much) (nI 99))
theorem c_X12_talk (w : Wd) (l : Launch) (S : St) (hm : gx_m S) (P H : Nat) (hp : gx_p S P H) (u : Nat) (hu : s_I S 1125 1000 = nI u) (hu2 : u ≤ 20) (p much : Int32) : gx_M w l yX12_talk cX12_talk 3 (some .int) rmX12_talk [.ref (ad (w_b w) 1000), .int p, .int much] S (pI (if talkOK (s_A S 1010) P p much then atMostF (s_A S 1010 (14 + p.toNatClampNeg) + much) (nI 99) else -1) (if talkOK (s_A S 1010) P p much then s_setA (keepU S u) 1010 (talkF (s_A S 1010) p.toNatClampNeg much) else S)) := by
  obtain ⟨hP, hP7, hH, hH2⟩ := id hp
  refine gx_start rfl 0 rfl (Nat.le_of_ble_eq_true rfl) ?_
  intro X C _ hl
  subst hl
  refine gx_L (L' := [_, _, _]) rfl ?_
  refine g_aload_n (pc := 0) C dX12_talk_0 rfl ?_
  refine g_iload_n (pc := 1) C dX12_talk_1 rfl ?_
  refine cf_X12_349 (pc := 2) C rfl (by exact m_z hm rfl) (c_X12_isPerson _ _ _ hm _) ⟨rfl, rfl⟩ ⟨rfl, rfl⟩ ⟨Nat.zero_le _, Nat.zero_le _⟩ rfl (Nat.le_of_ble_eq_true rfl) dX12_talk_2 ?_
  refine gx_ti (y := bI (0 ≤ p ∧ p < nI P)) (by rw [hP]) ?_
  refine g_if_eq (pc := 5) C 32 dX12_talk_5 rfl (fun h => ?_) (fun h => ?_)
  · have h := bI_0.mp h
    refine g_iconst (pc := 32) (v := -1) C dX12_talk_32 (by decide) ?_
    exact g_ireturn (pc := 33) C ⟨rfl, rfl⟩ dX12_talk_33 (⟨by rw [if_neg (fun q => h q.1)], by rw [if_neg (fun q => h q.1)]⟩)
  · have h : 0 ≤ p ∧ p < nI P := Decidable.not_not.mp (fun q => h (bI_0.mpr q))
    obtain ⟨j, hj, rfl, ec⟩ := person_of hP7 h
    refine g_iload_n (pc := 8) C dX12_talk_8 rfl ?_
    refine g_i2l (pc := 9) C dX12_talk_9 ?_
    refine g_lconst (pc := 10) (v := 1) C dX12_talk_10 (by decide) ?_
    refine g_ldc2 (pc := 11) (v := 20) C dX12_talk_11 kl_X12_379 ?_
    refine cf_X12_130 (pc := 14) C (c_X12_in _ _ _ _ _ _) ⟨rfl, rfl⟩ ⟨rfl, rfl⟩ ⟨Nat.zero_le _, Nat.zero_le _⟩ rfl (Nat.le_of_ble_eq_true rfl) dX12_talk_14 ?_
    refine g_if_eq (pc := 17) C 32 dX12_talk_17 rfl (fun h2 => ?_) (fun h2 => ?_)
    · have h2 := bI_0.mp h2
      refine g_iconst (pc := 32) (v := -1) C dX12_talk_32 (by decide) ?_
      exact g_ireturn (pc := 33) C ⟨rfl, rfl⟩ dX12_talk_33 (⟨by rw [if_neg (fun q => h2 q.2.1)], by rw [if_neg (fun q => h2 q.2.1)]⟩)
    · have h2 := Decidable.not_not.mp (fun q => h2 (bI_0.mpr q))
      refine g_aload_n (pc := 20) C dX12_talk_20 rfl ?_
      refine mg_39 (pc := 21) C (by exact hm) dX12_talk_21 ?_
      refine g_bipush (pc := 24) (v := nI 35) C dX12_talk_24 (by decide) ?_
      refine g_iload_n (pc := 26) C dX12_talk_26 rfl ?_
      refine g_iadd (pc := 27) C dX12_talk_27 ?_
      refine n_iald (pc := 28) (k := 1010) (n := 190) C rfl rfl (by exact m_z hm rfl) (isn_add isn_v isn_v) rfl (by omega) dX12_talk_28 ?_
      refine g_if_le (pc := 29) C 34 dX12_talk_29 rfl (fun h3 => ?_) (fun h3 => ?_)
      · have hok : talkOK (s_A S 1010) P (nI j) much := ⟨h, h2, by rw [ec]; exact h3⟩
        rw [if_pos hok, if_pos hok, ec]
        refine g_aload_n (pc := 34) C dX12_talk_34 rfl ?_
        refine cf_X12_370 (pc := 35) C rfl (by exact m_z hm rfl) (c_X12_keepsAct _ _ _ (by exact hm) u (by exact hu) hu2) ⟨rfl, rfl⟩ ⟨rfl, rfl⟩ ⟨Nat.zero_le _, Nat.zero_le _⟩ rfl (Nat.le_of_ble_eq_true rfl) dX12_talk_35 ?_
        refine g_aload_n (pc := 38) C dX12_talk_38 rfl ?_
        refine mg_39 (pc := 39) C (by exact hm) dX12_talk_39 ?_
        refine g_bipush (pc := 42) (v := nI 14) C dX12_talk_42 (by decide) ?_
        refine g_iload_n (pc := 44) C dX12_talk_44 rfl ?_
        refine g_iadd (pc := 45) C dX12_talk_45 ?_
        refine g_aload_n (pc := 46) C dX12_talk_46 rfl ?_
        refine mg_39 (pc := 47) C (by exact hm) dX12_talk_47 ?_
        refine g_bipush (pc := 50) (v := nI 14) C dX12_talk_50 (by decide) ?_
        refine g_iload_n (pc := 52) C dX12_talk_52 rfl ?_
        refine g_iadd (pc := 53) C dX12_talk_53 ?_
        refine n_iald (pc := 54) (k := 1010) (n := 190) C rfl rfl (by exact m_z hm rfl) (isn_add isn_v isn_v) rfl (by omega) dX12_talk_54 ?_
        refine g_iload_n (pc := 55) C dX12_talk_55 rfl ?_
        refine g_iadd (pc := 56) C dX12_talk_56 ?_
        refine g_bipush (pc := 57) (v := nI 99) C dX12_talk_57 (by decide) ?_
        refine cf_X12_304 (pc := 59) C (c_X12_atMost _ _ _ _ _) ⟨rfl, rfl⟩ ⟨rfl, rfl⟩ ⟨Nat.zero_le _, Nat.zero_le _⟩ rfl (Nat.le_of_ble_eq_true rfl) dX12_talk_59 ?_
        refine n_iast (pc := 62) (k := 1010) (n := 190) C rfl rfl (by exact m_z hm rfl) (isn_add isn_v isn_v) rfl (by omega) dX12_talk_62 ?_
        refine gx_S (S' := s_setA (keepU S u) 1010 (talkF (s_A S 1010) j much)) rfl ?_
        refine g_aload_n (pc := 63) C dX12_talk_63 rfl ?_
        refine mg_39 (pc := 64) C (by exact hm) dX12_talk_64 ?_
        refine g_bipush (pc := 67) (v := nI 14) C dX12_talk_67 (by decide) ?_
        refine g_iload_n (pc := 69) C dX12_talk_69 rfl ?_
        refine g_iadd (pc := 70) C dX12_talk_70 ?_
        refine n_iald (pc := 71) (k := 1010) (n := 190) C rfl rfl (by exact m_z hm rfl) (isn_add isn_v isn_v) rfl (by omega) dX12_talk_71 ?_
        exact g_ireturn (pc := 72) C ⟨rfl, rfl⟩ dX12_talk_72 ⟨congrArg (fun z => some (Value.int z)) (by show talkF (s_A S 1010) j much (14 + j) = _; simp only [talkF, upd]; rw [if_pos trivial]), rfl⟩
      · refine g_iconst (pc := 32) (v := -1) C dX12_talk_32 (by decide) ?_
        exact g_ireturn (pc := 33) C ⟨rfl, rfl⟩ dX12_talk_33 (⟨by rw [if_neg (fun q => h3 (by have := q.2.2; rw [ec] at this; exact this))], by rw [if_neg (fun q => h3 (by have := q.2.2; rw [ec] at this; exact this))]⟩)
