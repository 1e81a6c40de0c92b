/-! ===== the reference: what is asked of trips ===== -/
theorem in64 {x a b : Int32} : (a.toInt64 ≤ x.toInt64 ∧ x.toInt64 ≤ b.toInt64) ↔ (a ≤ x ∧ x ≤ b) := by
  simp only [Int64.le_iff_toInt_le, Int32.le_iff_toInt_le, Int32.toInt_toInt64]
theorem c_X12_in32 (w : Wd) (l : Launch) (S : St) (x a b : Int32) (A B : Int64) (hA : A = a.toInt64) (hB : B = b.toInt64) : gx_M w l yX12_in cX12_in 6 (some .boolean) rmX12_in [.long x.toInt64, .long A, .long B] S (pI (bI (a ≤ x ∧ x ≤ b)) S) := by
  subst hA hB
  have h := c_X12_in w l S x.toInt64 a.toInt64 b.toInt64
  rw [show bI (a.toInt64 ≤ x.toInt64 ∧ x.toInt64 ≤ b.toInt64) = bI (a ≤ x ∧ x ≤ b) from by unfold bI; simp only [in64]] at h
  exact h
theorem nat_of {x : Int32} {b : Nat} (hb : b + 1 < 2 ^ 31) (h : nI 0 ≤ x ∧ x ≤ nI b) : ∃ j, j ≤ b ∧ x = nI j := by
  rcases pk_ix x (n := b + 1) (by omega) with h1 | h1 | ⟨j, hj, rfl⟩
  · exact absurd h1 (Int32.not_lt.mpr h.1)
  · exact absurd (Int32.le_trans h1 h.2) (nI_ge (by omega) (by omega))
  · exact ⟨j, by omega, rfl⟩
theorem lay_back (S : St) (f : Nat → Int32) (h : ∀ j, (j < 10 ∨ 28 ≤ j) → f j = s_A S 1010 j) (B W : Nat → Int64) (t : Int32) : layS (scw (s_setA (keepS S) 1010 f) B W t) = scw (keepS S) B W t := by
  rw [lay_scw]
  refine congrArg (fun q => scw q B W t) ?_
  have e : va_cpy (s_A (keepS S) 1012) f 0 10 18 = s_A (keepS S) 1010 := by
    funext j
    show (if 10 ≤ j ∧ j < 10 + 18 then (if 0 ≤ 0 + (j - 10) ∧ 0 + (j - 10) < 0 + 18 then s_A S 1010 (10 + (0 + (j - 10) - 0)) else s_A S 1012 (0 + (j - 10))) else f j) = s_A S 1010 j
    split
    · rw [if_pos (by omega)]
      congr 1; omega
    · exact h j (by omega)
  rw [e, s_A_id]
abbrev aheadOK (said : Nat → Int32) (P : Nat) (p n what : Int32) : Prop := said 0 = nI 1 ∧ (nI 0 ≤ n ∧ n ≤ nI 100) ∧ (nI 0 ≤ what ∧ what ≤ nI 2) ∧ (nI 2 ≤ what ∨ (0 ≤ p ∧ p < nI P))
def aheadF (fr : Option ((Nat → Int64) → Int64)) (drawn : Int32) (said : Nat → Int32) (P H : Nat) (p n what : Int32) : Int32 := if what = nI 0 then pnF fr drawn said P H n.toNatClampNeg (21 + p.toNatClampNeg) else if what = nI 1 then pnF fr drawn said P H n.toNatClampNeg (14 + p.toNatClampNeg) else pnF fr drawn said P H n.toNatClampNeg 12
theorem c_X12_ahead (w : Wd) (l : Launch) (S : St) (hm : gx_m S) (P H : Nat) (hp : gx_p S P H) (hH1 : H ≤ 999) (fr : Option ((Nat → Int64) → Int64)) (hfr : frW S fr) (p n what : Int32) : gx_M w l yX12_ahead cX12_ahead 5 (some .int) rmX12_ahead [.ref (ad (w_b w) 1000), .int p, .int n, .int what] S (fun a S' => if aheadOK (s_A S 1010) P p n what then (∃ B' W' t', a = some (.int (aheadF fr (s_I S 1123 1000) (s_A S 1010) P H p n what)) ∧ S' = scw (keepS S) B' W' t') else (a = some (.int (-1)) ∧ S' = S)) := by
  obtain ⟨hP, hP7, hH, hH2⟩ := id hp
  refine gx_start rfl 1 rfl (Nat.le_of_ble_eq_true rfl) ?_
  intro X C _ hl
  subst hl
  refine gx_L (L' := [_, _, _, _, _]) rfl ?_
  have bad : ∀ z, ¬ aheadOK (s_A S 1010) P p n what → gx_G w X S 0 0 44 [some (.ref (ad (w_b w) 1000)), some (.int p), some (.int n), some (.int what), z] [] (gx_E w X (fun a S' => if aheadOK (s_A S 1010) P p n what then (∃ B' W' t', a = some (.int (aheadF fr (s_I S 1123 1000) (s_A S 1010) P H p n what)) ∧ S' = scw (keepS S) B' W' t') else (a = some (.int (-1)) ∧ S' = S))) := by
    intro z hb
    refine g_iconst (pc := 44) (v := -1) C dX12_ahead_44 (by decide) ?_
    exact g_ireturn (pc := 45) C ⟨rfl, rfl⟩ dX12_ahead_45 ((by rw [if_neg hb]; exact ⟨rfl, rfl⟩))
  have good : ∀ z, aheadOK (s_A S 1010) P p n what → gx_G w X S 0 0 46 [some (.ref (ad (w_b w) 1000)), some (.int p), some (.int n), some (.int what), z] [] (gx_E w X (fun a S' => if aheadOK (s_A S 1010) P p n what then (∃ B' W' t', a = some (.int (aheadF fr (s_I S 1123 1000) (s_A S 1010) P H p n what)) ∧ S' = scw (keepS S) B' W' t') else (a = some (.int (-1)) ∧ S' = S))) := by
    intro z hok
    obtain ⟨hcr, hn, hwh, hpp⟩ := id hok
    obtain ⟨m, hm100, rfl⟩ := nat_of (by omega) hn
    have ecm : (nI m).toNatClampNeg = m := nI_clamp (by omega)
    refine g_aload_n (pc := 46) C dX12_ahead_46 rfl ?_
    refine cf_X12_385 (pc := 47) C rfl (by exact m_z hm rfl) (c_X12_keeps _ _ _ (by exact hm)) ⟨rfl, rfl⟩ ⟨rfl, rfl⟩ ⟨Nat.zero_le _, Nat.zero_le _⟩ rfl (Nat.le_of_ble_eq_true rfl) dX12_ahead_47 ?_
    refine g_iconst (pc := 50) (v := nI 0) C dX12_ahead_50 (by decide) ?_
    refine g_istore (pc := 51) (L' := [_, _, _, some (.int _), _]) C dX12_ahead_51 rfl rfl ?_
    refine gx_S (scw_id (keepS S)).symm ?_
    have fin : ∀ (v : Int32) B W t, v = aheadF fr (s_I S 1123 1000) (s_A S 1010) P H p (nI m) what → gx_G w X (scw (s_setA (keepS S) 1010 (pnF fr (s_I S 1123 1000) (s_A S 1010) P H m)) B W t) 0 0 110 [some (.ref (ad (w_b w) 1000)), some (.int p), some (.int (nI m)), some (.int what), some (.int (nI m))] [.int v] (gx_E w X (fun a S' => if aheadOK (s_A S 1010) P p (nI m) what then (∃ B' W' t', a = some (.int (aheadF fr (s_I S 1123 1000) (s_A S 1010) P H p (nI m) what)) ∧ S' = scw (keepS S) B' W' t') else (a = some (.int (-1)) ∧ S' = S))) := by
      intro v B W t hv
      refine g_istore (pc := 110) (L' := [_, _, _, some (.int _), _]) C dX12_ahead_110 rfl rfl ?_
      refine g_aload_n (pc := 112) C dX12_ahead_112 rfl ?_
      refine cf_X12_388 (pc := 113) C rfl (by exact m_z hm rfl) (c_X12_laysBack _ _ _ (by exact hm)) ⟨rfl, rfl⟩ ⟨rfl, rfl⟩ ⟨Nat.zero_le _, Nat.zero_le _⟩ rfl (Nat.le_of_ble_eq_true rfl) dX12_ahead_113 ?_
      refine gx_S (lay_back S _ (fun j hj => pnF_out hP7 hj m) B W t) ?_
      refine g_iload (pc := 116) C dX12_ahead_116 rfl ?_
      exact g_ireturn (pc := 118) C ⟨rfl, rfl⟩ dX12_ahead_118 (by rw [if_pos hok, hv]; exact ⟨B, W, t, rfl, rfl⟩)
    have loop : ∀ k i B W t, i + k = m → gx_G w X (scw (s_setA (keepS S) 1010 (pnF fr (s_I S 1123 1000) (s_A S 1010) P H i)) B W t) 0 0 53 [some (.ref (ad (w_b w) 1000)), some (.int p), some (.int (nI m)), some (.int what), some (.int (nI i))] [] (gx_E w X (fun a S' => if aheadOK (s_A S 1010) P p (nI m) what then (∃ B' W' t', a = some (.int (aheadF fr (s_I S 1123 1000) (s_A S 1010) P H p (nI m) what)) ∧ S' = scw (keepS S) B' W' t') else (a = some (.int (-1)) ∧ S' = S))) := by
      intro k
      induction k with
      | zero =>
        intro i B W t hi
        have hi : i = m := hi
        subst hi
        refine g_iload (pc := 53) C dX12_ahead_53 rfl ?_
        refine g_iload_n (pc := 55) C dX12_ahead_55 rfl ?_
        refine g_icmp_ge (pc := 56) C 70 dX12_ahead_56 rfl (fun h => ?_) (fun h => ?_)
        · refine g_iload_n (pc := 70) C dX12_ahead_70 rfl ?_
          refine g_if_ne (pc := 71) C 86 dX12_ahead_71 rfl (fun h0 => ?_) (fun h0 => ?_)
          · refine g_iload_n (pc := 86) C dX12_ahead_86 rfl ?_
            refine g_iconst (pc := 87) (v := nI 1) C dX12_ahead_87 (by decide) ?_
            refine g_icmp_ne (pc := 88) C 103 dX12_ahead_88 rfl (fun h1 => ?_) (fun h1 => ?_)
            · refine g_aload_n (pc := 103) C dX12_ahead_103 rfl ?_
              refine mg_39 (pc := 104) C (by exact hm) dX12_ahead_104 ?_
              refine g_bipush (pc := 107) (v := nI 12) C dX12_ahead_107 (by decide) ?_
              refine n_iald (pc := 109) (k := 1010) (n := 190) C rfl rfl (by exact m_z hm rfl) isn_v rfl (by omega) dX12_ahead_109 ?_
              refine fin _ B W t ?_
              unfold aheadF
              rw [if_neg (fun q => h0 (by rw [q]; rfl)), if_neg h1, ecm]; rfl
            · have h1 := Decidable.not_not.mp h1
              have hpe : 0 ≤ p ∧ p < nI P := hpp.elim (fun q => absurd q (by rw [h1]; decide)) id
              obtain ⟨j, hj, rfl, ec⟩ := person_of hP7 hpe
              refine g_aload_n (pc := 91) C dX12_ahead_91 rfl ?_
              refine mg_39 (pc := 92) C (by exact hm) dX12_ahead_92 ?_
              refine g_bipush (pc := 95) (v := nI 14) C dX12_ahead_95 (by decide) ?_
              refine g_iload_n (pc := 97) C dX12_ahead_97 rfl ?_
              refine g_iadd (pc := 98) C dX12_ahead_98 ?_
              refine n_iald (pc := 99) (k := 1010) (n := 190) C rfl rfl (by exact m_z hm rfl) (isn_add isn_v isn_v) rfl (by omega) dX12_ahead_99 ?_
              refine g_goto (pc := 100) C 110 dX12_ahead_100 rfl ?_
              refine fin _ B W t ?_
              unfold aheadF
              rw [if_neg (fun q => h0 (by rw [q]; rfl)), if_pos h1, ecm, ec]; rfl
          · have h0 : what = nI 0 := Decidable.not_not.mp h0
            have hpe : 0 ≤ p ∧ p < nI P := hpp.elim (fun q => absurd q (by rw [h0]; decide)) id
            obtain ⟨j, hj, rfl, ec⟩ := person_of hP7 hpe
            refine g_aload_n (pc := 74) C dX12_ahead_74 rfl ?_
            refine mg_39 (pc := 75) C (by exact hm) dX12_ahead_75 ?_
            refine g_bipush (pc := 78) (v := nI 21) C dX12_ahead_78 (by decide) ?_
            refine g_iload_n (pc := 80) C dX12_ahead_80 rfl ?_
            refine g_iadd (pc := 81) C dX12_ahead_81 ?_
            refine n_iald (pc := 82) (k := 1010) (n := 190) C rfl rfl (by exact m_z hm rfl) (isn_add isn_v isn_v) rfl (by omega) dX12_ahead_82 ?_
            refine g_goto (pc := 83) C 110 dX12_ahead_83 rfl ?_
            refine fin _ B W t ?_
            unfold aheadF
            rw [if_pos h0, ecm, ec]; rfl
        · exact absurd (nI_le (Nat.le_refl i) (by omega)) h
      | succ k ih =>
        intro i B W t hi
        refine g_iload (pc := 53) C dX12_ahead_53 rfl ?_
        refine g_iload_n (pc := 55) C dX12_ahead_55 rfl ?_
        refine g_icmp_ge (pc := 56) C 70 dX12_ahead_56 rfl (fun h => ?_) (fun h => ?_)
        · exact absurd h (nI_ge (by omega) (by omega))
        · refine g_aload_n (pc := 59) C dX12_ahead_59 rfl ?_
          refine cg_X12_373 (pc := 60) C rfl (by exact m_z hm rfl) (c_X12_passes _ _ (s_setA (keepS S) 1010 (pnF fr (s_I S 1123 1000) (s_A S 1010) P H i)) hm P (H + i) (gx_pn (S := keepS S) hp (by omega)) fr hfr B W t) ⟨rfl, rfl⟩ ⟨Nat.zero_le _, Nat.zero_le _⟩ rfl (Nat.le_of_ble_eq_true rfl) dX12_ahead_60 ?_
          rintro _ _ ⟨B', W', t', rfl, rfl⟩
          refine gx_S (scw_A (keepS S) _ _ B' W' t') ?_
          refine g_pop (pc := 63) C dX12_ahead_63 rfl ?_
          refine g_iinc (pc := 64) (L' := [_, _, _, some (.int _), _]) C dX12_ahead_64 rfl (nI_1 _) rfl ?_
          refine g_goto (pc := 67) C 53 dX12_ahead_67 rfl ?_
          exact ih (i + 1) B' W' t' (by omega)
    refine gx_S ?_ (loop m 0 (s_B (keepS S) 1008) (s_B (keepS S) 1009) (s_I (keepS S) 1118 1000) (by omega))
    rw [show pnF fr (s_I S 1123 1000) (s_A S 1010) P H 0 = s_A (keepS S) 1010 from rfl, s_A_id]
  refine g_aload_n (pc := 0) C dX12_ahead_0 rfl ?_
  refine cf_X12_297 (pc := 1) C rfl (by exact m_z hm rfl) (c_X12_isCrossing _ _ _ hm) ⟨rfl, rfl⟩ ⟨rfl, rfl⟩ ⟨Nat.zero_le _, Nat.zero_le _⟩ rfl (Nat.le_of_ble_eq_true rfl) dX12_ahead_1 ?_
  refine g_if_eq (pc := 4) C 44 dX12_ahead_4 rfl (fun h => ?_) (fun h => ?_)
  · exact bad _ (fun q => bI_0.mp h q.1)
  · have h := Decidable.not_not.mp (fun q => h (bI_0.mpr q))
    refine g_iload_n (pc := 7) C dX12_ahead_7 rfl ?_
    refine g_i2l (pc := 8) C dX12_ahead_8 ?_
    refine g_lconst (pc := 9) (v := 0) C dX12_ahead_9 (by decide) ?_
    refine g_ldc2 (pc := 10) (v := 100) C dX12_ahead_10 kl_X12_381 ?_
    refine cf_X12_130 (pc := 13) C (c_X12_in32 _ _ _ _ (nI 0) (nI 100) _ _ rfl rfl) ⟨rfl, rfl⟩ ⟨rfl, rfl⟩ ⟨Nat.zero_le _, Nat.zero_le _⟩ rfl (Nat.le_of_ble_eq_true rfl) dX12_ahead_13 ?_
    refine g_if_eq (pc := 16) C 44 dX12_ahead_16 rfl (fun h2 => ?_) (fun h2 => ?_)
    · exact bad _ (fun q => bI_0.mp h2 q.2.1)
    · have h2 := Decidable.not_not.mp (fun q => h2 (bI_0.mpr q))
      refine g_iload_n (pc := 19) C dX12_ahead_19 rfl ?_
      refine g_i2l (pc := 20) C dX12_ahead_20 ?_
      refine g_lconst (pc := 21) (v := 0) C dX12_ahead_21 (by decide) ?_
      refine g_ldc2 (pc := 22) (v := 2) C dX12_ahead_22 kl_X12_383 ?_
      refine cf_X12_130 (pc := 25) C (c_X12_in32 _ _ _ _ (nI 0) (nI 2) _ _ rfl rfl) ⟨rfl, rfl⟩ ⟨rfl, rfl⟩ ⟨Nat.zero_le _, Nat.zero_le _⟩ rfl (Nat.le_of_ble_eq_true rfl) dX12_ahead_25 ?_
      refine g_if_eq (pc := 28) C 44 dX12_ahead_28 rfl (fun h3 => ?_) (fun h3 => ?_)
      · exact bad _ (fun q => bI_0.mp h3 q.2.2.1)
      · have h3 := Decidable.not_not.mp (fun q => h3 (bI_0.mpr q))
        refine g_iload_n (pc := 31) C dX12_ahead_31 rfl ?_
        refine g_iconst (pc := 32) (v := nI 2) C dX12_ahead_32 (by decide) ?_
        refine g_icmp_ge (pc := 33) C 46 dX12_ahead_33 rfl (fun h4 => ?_) (fun h4 => ?_)
        · exact good _ ⟨h, h2, h3, Or.inl h4⟩
        · refine g_aload_n (pc := 36) C dX12_ahead_36 rfl ?_
          refine g_iload_n (pc := 37) C dX12_ahead_37 rfl ?_
          refine cf_X12_349 (pc := 38) C rfl (by exact m_z hm rfl) (c_X12_isPerson _ _ _ hm _) ⟨rfl, rfl⟩ ⟨rfl, rfl⟩ ⟨Nat.zero_le _, Nat.zero_le _⟩ rfl (Nat.le_of_ble_eq_true rfl) dX12_ahead_38 ?_
          refine gx_ti (y := bI (0 ≤ p ∧ p < nI P)) (by rw [hP]) ?_
          refine g_if_ne (pc := 41) C 46 dX12_ahead_41 rfl (fun h5 => ?_) (fun h5 => ?_)
          · exact good _ ⟨h, h2, h3, Or.inr (Decidable.not_not.mp (fun q => h5 (bI_0.mpr q)))⟩
          · exact bad _ (fun q => q.2.2.2.elim h4 (bI_0.mp (Decidable.not_not.mp h5)))
