/-! ===== the reference: over, waits, soothe ===== -/
theorem pn0 (S : St) (fr : Option ((Nat → Int64) → Int64)) (P H : Nat) : s_setA (keepS S) 1010 (pnF fr (s_I S 1123 1000) (s_A S 1010) P H 0) = keepS S := s_A_id (keepS S) 1010
/-- the first of so many hours, from i on, at whose begin all are over -/
def overF (fr : Option ((Nat → Int64) → Int64)) (drawn : Int32) (said : Nat → Int32) (P H : Nat) : Nat → Nat → Int32
  | 0, _ => -2
  | k + 1, i => if onN (pnF fr drawn said P H i) (nI 0) P = 0 then nI (H + i) else overF fr drawn said P H k (i + 1)
theorem c_X12_over (w : Wd) (l : Launch) (S : St) (hm : gx_m S) (P H : Nat) (hp : gx_p S P H) (hH1 : H ≤ 999) (fr : Option ((Nat → Int64) → Int64)) (hfr : frW S fr) : gx_M w l yX12_over cX12_over 3 (some .int) rmX12_over [.ref (ad (w_b w) 1000)] S (fun a S' => if s_A S 1010 0 = nI 1 then (∃ B' W' t', a = some (.int (overF fr (s_I S 1123 1000) (s_A S 1010) P H 100 0)) ∧ S' = scw (keepS S) B' W' t') else (a = some (.int (-1)) ∧ S' = S)) := by
  obtain ⟨hP, hP7, hH, hH2⟩ := id hp
  refine gx_start rfl 2 rfl (Nat.le_of_ble_eq_true rfl) ?_
  intro X C _ hl
  subst hl
  refine gx_L (L' := [_, _, _]) rfl ?_
  refine g_aload_n (pc := 0) C dX12_over_0 rfl ?_
  refine cf_X12_297 (pc := 1) C rfl (by exact m_z hm rfl) (c_X12_isCrossing _ _ _ hm) ⟨rfl, rfl⟩ ⟨rfl, rfl⟩ ⟨Nat.zero_le _, Nat.zero_le _⟩ rfl (Nat.le_of_ble_eq_true rfl) dX12_over_1 ?_
  refine g_if_ne (pc := 4) C 9 dX12_over_4 rfl (fun h => ?_) (fun h => ?_)
  · have h := Decidable.not_not.mp (fun q => h (bI_0.mpr q))
    refine g_bipush (pc := 9) (v := -2) C dX12_over_9 (by decide) ?_
    refine g_istore_n (pc := 11) (L' := [some (.ref _), _, _]) C dX12_over_11 rfl rfl ?_
    refine g_aload_n (pc := 12) C dX12_over_12 rfl ?_
    refine cf_X12_385 (pc := 13) C rfl (by exact m_z hm rfl) (c_X12_keeps _ _ _ (by exact hm)) ⟨rfl, rfl⟩ ⟨rfl, rfl⟩ ⟨Nat.zero_le _, Nat.zero_le _⟩ rfl (Nat.le_of_ble_eq_true rfl) dX12_over_13 ?_
    refine g_iconst (pc := 16) (v := nI 0) C dX12_over_16 (by decide) ?_
    refine g_istore_n (pc := 17) (L' := [_, some (.int _), _]) C dX12_over_17 rfl rfl ?_
    refine gx_S (scw_id (keepS S)).symm ?_
    have fin : ∀ (v : Int32) i B W t, v = overF fr (s_I S 1123 1000) (s_A S 1010) P H 100 0 → gx_G w X (scw (s_setA (keepS S) 1010 (pnF fr (s_I S 1123 1000) (s_A S 1010) P H i)) B W t) 0 0 55 [some (.ref (ad (w_b w) 1000)), some (.int v), some (.int (nI i))] [] (gx_E w X (fun a S' => if s_A S 1010 0 = nI 1 then (∃ B' W' t', a = some (.int (overF fr (s_I S 1123 1000) (s_A S 1010) P H 100 0)) ∧ S' = scw (keepS S) B' W' t') else (a = some (.int (-1)) ∧ S' = S))) := by
      intro v i B W t hv
      refine g_aload_n (pc := 55) C dX12_over_55 rfl ?_
      refine cf_X12_388 (pc := 56) C rfl (by exact m_z hm rfl) (c_X12_laysBack _ _ _ (by exact hm)) ⟨rfl, rfl⟩ ⟨rfl, rfl⟩ ⟨Nat.zero_le _, Nat.zero_le _⟩ rfl (Nat.le_of_ble_eq_true rfl) dX12_over_56 ?_
      refine gx_S (lay_back S _ (fun j hj => pnF_out hP7 hj i) B W t) ?_
      refine g_iload_n (pc := 59) C dX12_over_59 rfl ?_
      exact g_ireturn (pc := 60) C ⟨rfl, rfl⟩ dX12_over_60 (by rw [if_pos h, hv]; exact ⟨B, W, t, rfl, rfl⟩)
    have loop : ∀ k i B W t, i + k = 100 → overF fr (s_I S 1123 1000) (s_A S 1010) P H k i = overF fr (s_I S 1123 1000) (s_A S 1010) P H 100 0 → gx_G w X (scw (s_setA (keepS S) 1010 (pnF fr (s_I S 1123 1000) (s_A S 1010) P H i)) B W t) 0 0 18 [some (.ref (ad (w_b w) 1000)), some (.int (-2)), some (.int (nI i))] [] (gx_E w X (fun a S' => if s_A S 1010 0 = nI 1 then (∃ B' W' t', a = some (.int (overF fr (s_I S 1123 1000) (s_A S 1010) P H 100 0)) ∧ S' = scw (keepS S) B' W' t') else (a = some (.int (-1)) ∧ S' = S))) := by
      intro k
      induction k with
      | zero =>
        intro i B W t hi hr
        have hi : i = 100 := hi
        subst hi
        refine g_iload_n (pc := 18) C dX12_over_18 rfl ?_
        refine g_bipush (pc := 19) (v := nI 100) C dX12_over_19 (by decide) ?_
        refine g_icmp_ge (pc := 21) C 55 dX12_over_21 rfl (fun h2 => ?_) (fun h2 => ?_)
        · exact fin _ 100 B W t hr
        · exact absurd (nI_le (Nat.le_refl 100) (by omega)) h2
      | succ k ih =>
        intro i B W t hi hr
        have hp2 : gx_p (s_setA (keepS S) 1010 (pnF fr (s_I S 1123 1000) (s_A S 1010) P H i)) P (H + i) := gx_pn (S := keepS S) hp (by omega)
        refine g_iload_n (pc := 18) C dX12_over_18 rfl ?_
        refine g_bipush (pc := 19) (v := nI 100) C dX12_over_19 (by decide) ?_
        refine g_icmp_ge (pc := 21) C 55 dX12_over_21 rfl (fun h2 => ?_) (fun h2 => ?_)
        · exact absurd h2 (nI_ge (by omega) (by omega))
        · refine g_iload_n (pc := 24) C dX12_over_24 rfl ?_
          refine g_if_ge (pc := 25) C 55 dX12_over_25 rfl (fun h3 => ?_) (fun h3 => ?_)
          · exact absurd h3 (by decide)
          · refine g_aload_n (pc := 28) C dX12_over_28 rfl ?_
            refine g_iconst (pc := 29) (v := nI 0) C dX12_over_29 (by decide) ?_
            refine cf_X12_334 (pc := 30) C rfl (by exact m_z hm rfl) (c_X12_onSide _ _ _ (by exact hm) P (by exact hp2.1) hP7 _) ⟨rfl, rfl⟩ ⟨rfl, rfl⟩ ⟨Nat.zero_le _, Nat.zero_le _⟩ rfl (Nat.le_of_ble_eq_true rfl) dX12_over_30 ?_
            refine gx_ti (y := nI (onN (pnF fr (s_I S 1123 1000) (s_A S 1010) P H i) (nI 0) P)) rfl ?_
            have ho : onN (pnF fr (s_I S 1123 1000) (s_A S 1010) P H i) (nI 0) P < 128 := onN_128 hP7
            refine g_if_ne (pc := 33) C 44 dX12_over_33 rfl (fun h4 => ?_) (fun h4 => ?_)
            · have h4 : ¬ onN (pnF fr (s_I S 1123 1000) (s_A S 1010) P H i) (nI 0) P = 0 := fun q => h4 (by rw [q]; rfl)
              simp only [overF] at hr
              rw [if_neg h4] at hr
              refine g_aload_n (pc := 44) C dX12_over_44 rfl ?_
              refine cg_X12_373 (pc := 45) C rfl (by exact m_z hm rfl) (c_X12_passes _ _ (s_setA (keepS S) 1010 (pnF fr (s_I S 1123 1000) (s_A S 1010) P H i)) hm P (H + i) hp2 fr hfr B W t) ⟨rfl, rfl⟩ ⟨Nat.zero_le _, Nat.zero_le _⟩ rfl (Nat.le_of_ble_eq_true rfl) dX12_over_45 ?_
              rintro _ _ ⟨B', W', t', rfl, rfl⟩
              refine gx_S (scw_A (keepS S) _ _ B' W' t') ?_
              refine g_pop (pc := 48) C dX12_over_48 rfl ?_
              refine g_iinc (pc := 49) (L' := [_, some (.int _), _]) C dX12_over_49 rfl (nI_1 _) rfl ?_
              refine g_goto (pc := 52) C 18 dX12_over_52 rfl ?_
              exact ih (i + 1) B' W' t' (by omega) hr
            · have h4 : onN (pnF fr (s_I S 1123 1000) (s_A S 1010) P H i) (nI 0) P = 0 := (nI_eq (b := 0) (by omega) (by omega)).mp (Decidable.not_not.mp h4)
              simp only [overF] at hr
              rw [if_pos h4] at hr
              refine g_aload_n (pc := 36) C dX12_over_36 rfl ?_
              refine mg_39 (pc := 37) C (by exact hm) dX12_over_37 ?_
              refine g_bipush (pc := 40) (v := nI 10) C dX12_over_40 (by decide) ?_
              refine n_iald (pc := 42) (k := 1010) (n := 190) C rfl rfl (by exact m_z hm rfl) isn_v rfl (by omega) dX12_over_42 ?_
              refine gx_ti (y := nI (H + i)) hp2.2.2.1 ?_
              refine g_istore_n (pc := 43) (L' := [some (.ref _), _, _]) C dX12_over_43 rfl rfl ?_
              refine g_aload_n (pc := 44) C dX12_over_44 rfl ?_
              refine cg_X12_373 (pc := 45) C rfl (by exact m_z hm rfl) (c_X12_passes _ _ (s_setA (keepS S) 1010 (pnF fr (s_I S 1123 1000) (s_A S 1010) P H i)) hm P (H + i) hp2 fr hfr B W t) ⟨rfl, rfl⟩ ⟨Nat.zero_le _, Nat.zero_le _⟩ rfl (Nat.le_of_ble_eq_true rfl) dX12_over_45 ?_
              rintro _ _ ⟨B', W', t', rfl, rfl⟩
              refine gx_S (scw_A (keepS S) _ _ B' W' t') ?_
              refine g_pop (pc := 48) C dX12_over_48 rfl ?_
              refine g_iinc (pc := 49) (L' := [_, some (.int _), _]) C dX12_over_49 rfl (nI_1 _) rfl ?_
              refine g_goto (pc := 52) C 18 dX12_over_52 rfl ?_
              refine g_iload_n (pc := 18) C dX12_over_18 rfl ?_
              refine g_bipush (pc := 19) (v := nI 100) C dX12_over_19 (by decide) ?_
              refine g_icmp_ge (pc := 21) C 55 dX12_over_21 rfl (fun h5 => ?_) (fun h5 => ?_)
              · exact fin _ (i + 1) B' W' t' hr
              · refine g_iload_n (pc := 24) C dX12_over_24 rfl ?_
                refine g_if_ge (pc := 25) C 55 dX12_over_25 rfl (fun h6 => ?_) (fun h6 => ?_)
                · exact fin _ (i + 1) B' W' t' hr
                · exact absurd (nI_pos' (by omega)) h6
    refine gx_S ?_ (loop 100 0 (s_B (keepS S) 1008) (s_B (keepS S) 1009) (s_I (keepS S) 1118 1000) rfl rfl)
    rw [pn0]
  · have h := bI_0.mp (Decidable.not_not.mp h)
    refine g_iconst (pc := 7) (v := -1) C dX12_over_7 (by decide) ?_
    exact g_ireturn (pc := 8) C ⟨rfl, rfl⟩ dX12_over_8 ((by rw [if_neg h]; exact ⟨rfl, rfl⟩))
/-- the first of so many hours, from i on, in which p is aboard -/
def waitsF (fr : Option ((Nat → Int64) → Int64)) (drawn : Int32) (said : Nat → Int32) (P H p : Nat) : Nat → Nat → Int32
  | 0, _ => -2
  | k + 1, i => if (setF fr drawn (pnF fr drawn said P H i) P (H + i)).testBit p = true then nI (H + i) else waitsF fr drawn said P H p k (i + 1)
theorem tripF_128 {nx : Nat → Option Nat} (h : ∀ s p, s < 128 → nx s = some p → p < 7) : ∀ k s, s < 128 → tripF nx k s < 128
  | 0, _, hs => hs
  | k + 1, s, hs => by
    simp only [tripF]
    cases e : nx s with
    | none => exact hs
    | some p => exact tripF_128 h k _ (or_lt s hs p (h s p hs e))
theorem setF_128 {fr : Option ((Nat → Int64) → Int64)} {drawn : Int32} {said : Nat → Int32} {P H : Nat} (hP : P ≤ 7) : setF fr drawn said P H < 128 := tripF_128 (fun s p _ h => Nat.lt_of_lt_of_le (nxF_some h).1 hP) 128 0 (by omega)
theorem c_X12_waits (w : Wd) (l : Launch) (S : St) (hm : gx_m S) (P H : Nat) (hp : gx_p S P H) (hH1 : H ≤ 999) (fr : Option ((Nat → Int64) → Int64)) (hfr : frW S fr) (p : Int32) : gx_M w l yX12_waits cX12_waits 5 (some .int) rmX12_waits [.ref (ad (w_b w) 1000), .int p] S (fun a S' => if 0 ≤ p ∧ p < nI P then (∃ B' W' t', a = some (.int (waitsF fr (s_I S 1123 1000) (s_A S 1010) P H p.toNatClampNeg 100 0)) ∧ S' = scw (keepS S) B' W' t') else (a = some (.int (-1)) ∧ S' = S)) := by
  obtain ⟨hP, hP7, hH, hH2⟩ := id hp
  refine gx_start rfl 3 rfl (Nat.le_of_ble_eq_true rfl) ?_
  intro X C _ hl
  subst hl
  refine gx_L (L' := [_, _, _, _, _]) rfl ?_
  refine g_aload_n (pc := 0) C dX12_waits_0 rfl ?_
  refine g_iload_n (pc := 1) C dX12_waits_1 rfl ?_
  refine cf_X12_349 (pc := 2) C rfl (by exact m_z hm rfl) (c_X12_isPerson _ _ _ hm _) ⟨rfl, rfl⟩ ⟨rfl, rfl⟩ ⟨Nat.zero_le _, Nat.zero_le _⟩ rfl (Nat.le_of_ble_eq_true rfl) dX12_waits_2 ?_
  refine gx_ti (y := bI (0 ≤ p ∧ p < nI P)) (by rw [hP]) ?_
  refine g_if_ne (pc := 5) C 10 dX12_waits_5 rfl (fun h => ?_) (fun h => ?_)
  · have h : 0 ≤ p ∧ p < nI P := Decidable.not_not.mp (fun q => h (bI_0.mpr q))
    obtain ⟨q, hq, rfl, ec⟩ := person_of hP7 h
    rw [ec]
    refine g_bipush (pc := 10) (v := -2) C dX12_waits_10 (by decide) ?_
    refine g_istore_n (pc := 12) (L' := [_, some (.int _), _, _, _]) C dX12_waits_12 rfl rfl ?_
    refine g_aload_n (pc := 13) C dX12_waits_13 rfl ?_
    refine cf_X12_385 (pc := 14) C rfl (by exact m_z hm rfl) (c_X12_keeps _ _ _ (by exact hm)) ⟨rfl, rfl⟩ ⟨rfl, rfl⟩ ⟨Nat.zero_le _, Nat.zero_le _⟩ rfl (Nat.le_of_ble_eq_true rfl) dX12_waits_14 ?_
    refine g_iconst (pc := 17) (v := nI 0) C dX12_waits_17 (by decide) ?_
    refine g_istore_n (pc := 18) (L' := [_, _, some (.int _), _, _]) C dX12_waits_18 rfl rfl ?_
    refine gx_S (scw_id (keepS S)).symm ?_
    have fin : ∀ (v : Int32) i z B W t, v = waitsF fr (s_I S 1123 1000) (s_A S 1010) P H q 100 0 → gx_G w X (scw (s_setA (keepS S) 1010 (pnF fr (s_I S 1123 1000) (s_A S 1010) P H i)) B W t) 0 0 58 [some (.ref (ad (w_b w) 1000)), some (.int (nI q)), some (.int v), some (.int (nI i)), z] [] (gx_E w X (fun a S' => if 0 ≤ nI q ∧ nI q < nI P then (∃ B' W' t', a = some (.int (waitsF fr (s_I S 1123 1000) (s_A S 1010) P H q 100 0)) ∧ S' = scw (keepS S) B' W' t') else (a = some (.int (-1)) ∧ S' = S))) := by
      intro v i z B W t hv
      refine g_aload_n (pc := 58) C dX12_waits_58 rfl ?_
      refine cf_X12_388 (pc := 59) C rfl (by exact m_z hm rfl) (c_X12_laysBack _ _ _ (by exact hm)) ⟨rfl, rfl⟩ ⟨rfl, rfl⟩ ⟨Nat.zero_le _, Nat.zero_le _⟩ rfl (Nat.le_of_ble_eq_true rfl) dX12_waits_59 ?_
      refine gx_S (lay_back S _ (fun j hj => pnF_out hP7 hj i) B W t) ?_
      refine g_iload_n (pc := 62) C dX12_waits_62 rfl ?_
      exact g_ireturn (pc := 63) C ⟨rfl, rfl⟩ dX12_waits_63 (by rw [if_pos h, hv]; exact ⟨B, W, t, rfl, rfl⟩)
    have loop : ∀ k i z B W t, i + k = 100 → waitsF fr (s_I S 1123 1000) (s_A S 1010) P H q k i = waitsF fr (s_I S 1123 1000) (s_A S 1010) P H q 100 0 → gx_G w X (scw (s_setA (keepS S) 1010 (pnF fr (s_I S 1123 1000) (s_A S 1010) P H i)) B W t) 0 0 19 [some (.ref (ad (w_b w) 1000)), some (.int (nI q)), some (.int (-2)), some (.int (nI i)), z] [] (gx_E w X (fun a S' => if 0 ≤ nI q ∧ nI q < nI P then (∃ B' W' t', a = some (.int (waitsF fr (s_I S 1123 1000) (s_A S 1010) P H q 100 0)) ∧ S' = scw (keepS S) B' W' t') else (a = some (.int (-1)) ∧ S' = S))) := by
      intro k
      induction k with
      | zero =>
        intro i z B W t hi hr
        have hi : i = 100 := hi
        subst hi
        refine g_iload_n (pc := 19) C dX12_waits_19 rfl ?_
        refine g_bipush (pc := 20) (v := nI 100) C dX12_waits_20 (by decide) ?_
        refine g_icmp_ge (pc := 22) C 58 dX12_waits_22 rfl (fun h2 => ?_) (fun h2 => ?_)
        · exact fin _ 100 _ B W t hr
        · exact absurd (nI_le (Nat.le_refl 100) (by omega)) h2
      | succ k ih =>
        intro i z B W t hi hr
        have hp2 : gx_p (s_setA (keepS S) 1010 (pnF fr (s_I S 1123 1000) (s_A S 1010) P H i)) P (H + i) := gx_pn (S := keepS S) hp (by omega)
        refine g_iload_n (pc := 19) C dX12_waits_19 rfl ?_
        refine g_bipush (pc := 20) (v := nI 100) C dX12_waits_20 (by decide) ?_
        refine g_icmp_ge (pc := 22) C 58 dX12_waits_22 rfl (fun h2 => ?_) (fun h2 => ?_)
        · exact absurd h2 (nI_ge (by omega) (by omega))
        · refine g_iload_n (pc := 25) C dX12_waits_25 rfl ?_
          refine g_if_ge (pc := 26) C 58 dX12_waits_26 rfl (fun h3 => ?_) (fun h3 => ?_)
          · exact absurd h3 (by decide)
          · refine g_aload_n (pc := 29) C dX12_waits_29 rfl ?_
            refine mg_39 (pc := 30) C (by exact hm) dX12_waits_30 ?_
            refine g_bipush (pc := 33) (v := nI 10) C dX12_waits_33 (by decide) ?_
            refine n_iald (pc := 35) (k := 1010) (n := 190) C rfl rfl (by exact m_z hm rfl) isn_v rfl (by omega) dX12_waits_35 ?_
            refine gx_ti (y := nI (H + i)) hp2.2.2.1 ?_
            refine g_istore (pc := 36) (L' := [_, _, _, some (.int _), _]) C dX12_waits_36 rfl rfl ?_
            refine g_aload_n (pc := 38) C dX12_waits_38 rfl ?_
            refine cg_X12_373 (pc := 39) C rfl (by exact m_z hm rfl) (c_X12_passes _ _ (s_setA (keepS S) 1010 (pnF fr (s_I S 1123 1000) (s_A S 1010) P H i)) hm P (H + i) hp2 fr hfr B W t) ⟨rfl, rfl⟩ ⟨Nat.zero_le _, Nat.zero_le _⟩ rfl (Nat.le_of_ble_eq_true rfl) dX12_waits_39 ?_
            rintro _ _ ⟨B', W', t', rfl, rfl⟩
            refine gx_S (scw_A (keepS S) _ _ B' W' t') ?_
            refine gx_ti (y := nI (setF fr (s_I S 1123 1000) (pnF fr (s_I S 1123 1000) (s_A S 1010) P H i) P (H + i))) rfl ?_
            refine g_iload_n (pc := 42) C dX12_waits_42 rfl ?_
            refine cf_X12_308 (pc := 43) C (c_X12_isOfN _ _ _ _ q (setF_128 hP7) (by omega)) ⟨rfl, rfl⟩ ⟨rfl, rfl⟩ ⟨Nat.zero_le _, Nat.zero_le _⟩ rfl (Nat.le_of_ble_eq_true rfl) dX12_waits_43 ?_
            refine g_if_eq (pc := 46) C 52 dX12_waits_46 rfl (fun h4 => ?_) (fun h4 => ?_)
            · have h4 := bI_0.mp h4
              simp only [waitsF] at hr
              rw [if_neg h4] at hr
              refine g_iinc (pc := 52) (L' := [_, _, some (.int _), _, _]) C dX12_waits_52 rfl (nI_1 _) rfl ?_
              refine g_goto (pc := 55) C 19 dX12_waits_55 rfl ?_
              exact ih (i + 1) _ B' W' t' (by omega) hr
            · have h4 := Decidable.not_not.mp (fun q => h4 (bI_0.mpr q))
              simp only [waitsF] at hr
              rw [if_pos h4] at hr
              refine g_iload (pc := 49) C dX12_waits_49 rfl ?_
              refine g_istore_n (pc := 51) (L' := [_, some (.int _), _, _, _]) C dX12_waits_51 rfl rfl ?_
              refine g_iinc (pc := 52) (L' := [_, _, some (.int _), _, _]) C dX12_waits_52 rfl (nI_1 _) rfl ?_
              refine g_goto (pc := 55) C 19 dX12_waits_55 rfl ?_
              refine g_iload_n (pc := 19) C dX12_waits_19 rfl ?_
              refine g_bipush (pc := 20) (v := nI 100) C dX12_waits_20 (by decide) ?_
              refine g_icmp_ge (pc := 22) C 58 dX12_waits_22 rfl (fun h5 => ?_) (fun h5 => ?_)
              · exact fin _ (i + 1) _ B' W' t' hr
              · refine g_iload_n (pc := 25) C dX12_waits_25 rfl ?_
                refine g_if_ge (pc := 26) C 58 dX12_waits_26 rfl (fun h6 => ?_) (fun h6 => ?_)
                · exact fin _ (i + 1) _ B' W' t' hr
                · exact absurd (nI_pos' (by omega)) h6
    refine gx_S ?_ (loop 100 0 _ (s_B (keepS S) 1008) (s_B (keepS S) 1009) (s_I (keepS S) 1118 1000) rfl rfl)
    rw [pn0]
  · have h := bI_0.mp (Decidable.not_not.mp h)
    refine g_iconst (pc := 8) (v := -1) C dX12_waits_8 (by decide) ?_
    exact g_ireturn (pc := 9) C ⟨rfl, rfl⟩ dX12_waits_9 ((by rw [if_neg h]; exact ⟨rfl, rfl⟩))
