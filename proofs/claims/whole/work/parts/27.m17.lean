/-! ===== the reference: soothe ===== -/
theorem keep_back (S : St) (f g : Nat → Int32) (h : ∀ j, (j < 10 ∨ 28 ≤ j) → g j = s_A S 1010 j) (B W : Nat → Int64) (t : Int32) : scw (s_setA (s_setA (keepS S) 1010 f) 1010 (va_cpy (s_A (keepS S) 1012) g 0 10 18)) B W t = scw (keepS S) B W t := by
  rw [scw_A, ← lay_scw (keepS S) g B W t]
  exact lay_back S g h B W t
theorem scw_setA (S : St) (f : Nat → Int32) (B W : Nat → Int64) (t : Int32) : s_setA (scw S B W t) 1010 f = scw (s_setA S 1010 f) B W t := rfl
theorem keep_said (S : St) (B W : Nat → Int64) (t : Int32) : s_A (scw (keepS S) B W t) 1010 = s_A S 1010 := rfl
def sooF (c : Nat → Nat) (c0 : Nat) : Nat → Option Nat × Nat
  | 0 => (none, c0)
  | p + 1 => if (sooF c c0 p).2 < c p then (some p, c p) else sooF c c0 p
theorem sooF_lt {c : Nat → Nat} {c0 : Nat} (h0 : c0 < 8) (h : ∀ p, c p < 8) : ∀ n, (sooF c c0 n).2 < 8
  | 0 => h0
  | n + 1 => by
    simp only [sooF]; split
    · exact h n
    · exact sooF_lt h0 h n
/-- how many are over behind n trips -/
def ovN (fr : Option ((Nat → Int64) → Int64)) (drawn : Int32) (said : Nat → Int32) (P H n : Nat) : Nat := popN (onN (pnF fr drawn said P H n) (nI 1) P)
theorem ovN_lt {fr : Option ((Nat → Int64) → Int64)} {drawn : Int32} {said : Nat → Int32} {P H n : Nat} (hP : P ≤ 7) : ovN fr drawn said P H n < 8 := Nat.lt_succ_of_le (popN_le _ (onN_128 hP))
abbrev sooOK (said : Nat → Int32) (n what : Int32) : Prop := said 0 = nI 1 ∧ (nI 1 ≤ n ∧ n ≤ nI 30) ∧ (nI 0 ≤ what ∧ what ≤ nI 1)
def sooA (fr : Option ((Nat → Int64) → Int64)) (drawn : Int32) (said : Nat → Int32) (P H n : Nat) : Option Nat × Nat := sooF (fun p => ovN fr drawn (upd said (14 + p) (nI 0)) P H n) (ovN fr drawn said P H n) P
theorem c_X12_soothe (w : Wd) (l : Launch) (S : St) (hm : gx_m S) (P H : Nat) (hp : gx_p S P H) (hH1 : H ≤ 999) (fr : Option ((Nat → Int64) → Int64)) (hfr : frW S fr) (n what : Int32) : gx_M w l yX12_soothe cX12_soothe 7 (some .int) rmX12_soothe [.ref (ad (w_b w) 1000), .int n, .int what] S (fun a S' => if sooOK (s_A S 1010) n what then (∃ B' W' t', a = some (.int (if what = nI 0 then oI (sooA fr (s_I S 1123 1000) (s_A S 1010) P H n.toNatClampNeg).1 else nI (sooA fr (s_I S 1123 1000) (s_A S 1010) P H n.toNatClampNeg).2)) ∧ S' = scw (keepS S) B' W' t') else (a = some (.int (-2)) ∧ S' = S)) := by
  obtain ⟨hP, hP7, hH, hH2⟩ := id hp
  refine gx_start rfl 4 rfl (Nat.le_of_ble_eq_true rfl) ?_
  intro X C _ hl
  subst hl
  refine gx_L (L' := [_, _, _, _, _, _, _]) rfl ?_
  have bad : ∀ z3 z4 z5 z6, ¬ sooOK (s_A S 1010) n what → gx_G w X S 0 0 29 [some (.ref (ad (w_b w) 1000)), some (.int n), some (.int what), z3, z4, z5, z6] [] (gx_E w X (fun a S' => if sooOK (s_A S 1010) n what then (∃ B' W' t', a = some (.int (if what = nI 0 then oI (sooA fr (s_I S 1123 1000) (s_A S 1010) P H n.toNatClampNeg).1 else nI (sooA fr (s_I S 1123 1000) (s_A S 1010) P H n.toNatClampNeg).2)) ∧ S' = scw (keepS S) B' W' t') else (a = some (.int (-2)) ∧ S' = S))) := by
    intro z3 z4 z5 z6 hb
    refine g_bipush (pc := 29) (v := -2) C dX12_soothe_29 (by decide) ?_
    exact g_ireturn (pc := 31) C ⟨rfl, rfl⟩ dX12_soothe_31 ((by rw [if_neg hb]; exact ⟨rfl, rfl⟩))
  refine g_aload_n (pc := 0) C dX12_soothe_0 rfl ?_
  refine cf_X12_297 (pc := 1) C rfl (by exact m_z hm rfl) (c_X12_isCrossing _ _ _ hm) ⟨rfl, rfl⟩ ⟨rfl, rfl⟩ ⟨Nat.zero_le _, Nat.zero_le _⟩ rfl (Nat.le_of_ble_eq_true rfl) dX12_soothe_1 ?_
  refine g_if_eq (pc := 4) C 29 dX12_soothe_4 rfl (fun h => ?_) (fun h => ?_)
  · exact bad _ _ _ _ (fun q => bI_0.mp h q.1)
  · have h := Decidable.not_not.mp (fun q => h (bI_0.mpr q))
    refine g_iload_n (pc := 7) C dX12_soothe_7 rfl ?_
    refine g_i2l (pc := 8) C dX12_soothe_8 ?_
    refine g_lconst (pc := 9) (v := 1) C dX12_soothe_9 (by decide) ?_
    refine g_ldc2 (pc := 10) (v := 30) C dX12_soothe_10 kl_X12_421 ?_
    refine cf_X12_130 (pc := 13) C (c_X12_in32 _ _ _ _ (nI 1) (nI 30) _ _ rfl rfl) ⟨rfl, rfl⟩ ⟨rfl, rfl⟩ ⟨Nat.zero_le _, Nat.zero_le _⟩ rfl (Nat.le_of_ble_eq_true rfl) dX12_soothe_13 ?_
    refine g_if_eq (pc := 16) C 29 dX12_soothe_16 rfl (fun h2 => ?_) (fun h2 => ?_)
    · exact bad _ _ _ _ (fun q => bI_0.mp h2 q.2.1)
    · have h2 := Decidable.not_not.mp (fun q => h2 (bI_0.mpr q))
      refine g_iload_n (pc := 19) C dX12_soothe_19 rfl ?_
      refine g_i2l (pc := 20) C dX12_soothe_20 ?_
      refine g_lconst (pc := 21) (v := 0) C dX12_soothe_21 (by decide) ?_
      refine g_lconst (pc := 22) (v := 1) C dX12_soothe_22 (by decide) ?_
      refine cf_X12_130 (pc := 23) C (c_X12_in32 _ _ _ _ (nI 0) (nI 1) _ _ rfl rfl) ⟨rfl, rfl⟩ ⟨rfl, rfl⟩ ⟨Nat.zero_le _, Nat.zero_le _⟩ rfl (Nat.le_of_ble_eq_true rfl) dX12_soothe_23 ?_
      refine g_if_ne (pc := 26) C 32 dX12_soothe_26 rfl (fun h3 => ?_) (fun h3 => ?_)
      · have h3 := Decidable.not_not.mp (fun q => h3 (bI_0.mpr q))
        have hok : sooOK (s_A S 1010) n what := ⟨h, h2, h3⟩
        obtain ⟨m, hm30, rfl⟩ := nat_of (b := 30) (by omega) ⟨Int32.le_trans (by decide) h2.1, h2.2⟩
        have ecm : (nI m).toNatClampNeg = m := nI_clamp (by omega)
        rw [ecm]
        refine g_aload_n (pc := 32) C dX12_soothe_32 rfl ?_
        refine cf_X12_385 (pc := 33) C rfl (by exact m_z hm rfl) (c_X12_keeps _ _ _ (by exact hm)) ⟨rfl, rfl⟩ ⟨rfl, rfl⟩ ⟨Nat.zero_le _, Nat.zero_le _⟩ rfl (Nat.le_of_ble_eq_true rfl) dX12_soothe_33 ?_
        refine g_iconst (pc := 36) (v := -1) C dX12_soothe_36 (by decide) ?_
        refine g_istore_n (pc := 37) (L' := [_, _, some (.int _), _, _, _, _]) C dX12_soothe_37 rfl rfl ?_
        refine g_aload_n (pc := 38) C dX12_soothe_38 rfl ?_
        refine g_iload_n (pc := 39) C dX12_soothe_39 rfl ?_
        refine gx_S (scw_id (keepS S)).symm ?_
        refine cg_X12_423 (pc := 40) C rfl (by exact m_z hm rfl) (c_X12_overIn _ _ (keepS S) hm P H hp m (by omega) fr hfr _ _ _) ⟨rfl, rfl⟩ ⟨Nat.zero_le _, Nat.zero_le _⟩ rfl (Nat.le_of_ble_eq_true rfl) dX12_soothe_40 ?_
        rintro _ _ ⟨B0, W0, t0, rfl, rfl⟩
        refine gx_S (S' := scw (keepS S) B0 W0 t0) ?_ ?_
        · rw [← keep_back S (s_A S 1010) (pnF fr (s_I S 1123 1000) (s_A S 1010) P H m) (fun j hj => pnF_out hP7 hj m) B0 W0 t0]
          rw [show s_setA (keepS S) 1010 (s_A S 1010) = keepS S from s_A_id (keepS S) 1010]; rfl
        refine gx_ti (y := nI (ovN fr (s_I S 1123 1000) (s_A S 1010) P H m)) rfl ?_
        refine g_istore (pc := 43) (L' := [_, _, _, some (.int _), _, _, _]) C dX12_soothe_43 rfl rfl ?_
        refine g_iconst (pc := 45) (v := nI 0) C dX12_soothe_45 (by decide) ?_
        refine g_istore (pc := 46) (L' := [_, _, _, _, some (.int _), _, _]) C dX12_soothe_46 rfl rfl ?_
        have loop : ∀ k i z B W t, i + k = P → gx_G w X (scw (keepS S) B W t) 0 0 48 [some (.ref (ad (w_b w) 1000)), some (.int (nI m)), some (.int what), some (.int (oI (sooF (fun p => ovN fr (s_I S 1123 1000) (upd (s_A S 1010) (14 + p) (nI 0)) P H m) (ovN fr (s_I S 1123 1000) (s_A S 1010) P H m) i).1)), some (.int (nI (sooF (fun p => ovN fr (s_I S 1123 1000) (upd (s_A S 1010) (14 + p) (nI 0)) P H m) (ovN fr (s_I S 1123 1000) (s_A S 1010) P H m) i).2)), some (.int (nI i)), z] [] (gx_E w X (fun a S' => if sooOK (s_A S 1010) (nI m) what then (∃ B' W' t', a = some (.int (if what = nI 0 then oI (sooA fr (s_I S 1123 1000) (s_A S 1010) P H m).1 else nI (sooA fr (s_I S 1123 1000) (s_A S 1010) P H m).2)) ∧ S' = scw (keepS S) B' W' t') else (a = some (.int (-2)) ∧ S' = S))) := by
          intro k
          induction k with
          | zero =>
            intro i z B W t hi
            have hi : i = P := hi
            subst hi
            refine g_iload (pc := 48) C dX12_soothe_48 rfl ?_
            refine g_aload_n (pc := 50) C dX12_soothe_50 rfl ?_
            refine mg_39 (pc := 51) C (by exact hm) dX12_soothe_51 ?_
            refine g_iconst (pc := 54) (v := nI 4) C dX12_soothe_54 (by decide) ?_
            refine n_iald (pc := 55) (k := 1010) (n := 190) C rfl rfl (by exact m_z hm rfl) isn_v rfl (by omega) dX12_soothe_55 ?_
            refine gx_ti (y := nI i) hP ?_
            refine g_icmp_ge (pc := 56) C 100 dX12_soothe_56 rfl (fun h4 => ?_) (fun h4 => ?_)
            · refine g_iload_n (pc := 100) C dX12_soothe_100 rfl ?_
              refine g_if_ne (pc := 101) C 108 dX12_soothe_101 rfl (fun h5 => ?_) (fun h5 => ?_)
              · refine g_iload (pc := 108) C dX12_soothe_108 rfl ?_
                exact g_ireturn (pc := 110) C ⟨rfl, rfl⟩ dX12_soothe_110 (by rw [if_pos hok, if_neg (fun q => h5 (by rw [q]; rfl))]; exact ⟨B, W, t, rfl, rfl⟩)
              · have h5 : what = nI 0 := Decidable.not_not.mp h5
                refine g_iload_n (pc := 104) C dX12_soothe_104 rfl ?_
                refine g_goto (pc := 105) C 110 dX12_soothe_105 rfl ?_
                exact g_ireturn (pc := 110) C ⟨rfl, rfl⟩ dX12_soothe_110 (by rw [if_pos hok, if_pos h5]; exact ⟨B, W, t, rfl, rfl⟩)
            · exact absurd (nI_le (Nat.le_refl i) (by omega)) h4
          | succ k ih =>
            intro i z B W t hi
            have hc := sooF_lt (c := fun p => ovN fr (s_I S 1123 1000) (upd (s_A S 1010) (14 + p) (nI 0)) P H m) (c0 := ovN fr (s_I S 1123 1000) (s_A S 1010) P H m) (ovN_lt hP7) (fun p => ovN_lt hP7) i
            have hc2 : ovN fr (s_I S 1123 1000) (upd (s_A S 1010) (14 + i) (nI 0)) P H m < 8 := ovN_lt hP7
            refine g_iload (pc := 48) C dX12_soothe_48 rfl ?_
            refine g_aload_n (pc := 50) C dX12_soothe_50 rfl ?_
            refine mg_39 (pc := 51) C (by exact hm) dX12_soothe_51 ?_
            refine g_iconst (pc := 54) (v := nI 4) C dX12_soothe_54 (by decide) ?_
            refine n_iald (pc := 55) (k := 1010) (n := 190) C rfl rfl (by exact m_z hm rfl) isn_v rfl (by omega) dX12_soothe_55 ?_
            refine gx_ti (y := nI P) hP ?_
            refine g_icmp_ge (pc := 56) C 100 dX12_soothe_56 rfl (fun h4 => ?_) (fun h4 => ?_)
            · exact absurd h4 (nI_ge (by omega) (by omega))
            · refine g_aload_n (pc := 59) C dX12_soothe_59 rfl ?_
              refine mg_39 (pc := 60) C (by exact hm) dX12_soothe_60 ?_
              refine g_bipush (pc := 63) (v := nI 14) C dX12_soothe_63 (by decide) ?_
              refine g_iload (pc := 65) C dX12_soothe_65 rfl ?_
              refine g_iadd (pc := 67) C dX12_soothe_67 ?_
              refine g_iconst (pc := 68) (v := nI 0) C dX12_soothe_68 (by decide) ?_
              refine n_iast (pc := 69) (k := 1010) (n := 190) C rfl rfl (by exact m_z hm rfl) (isn_add isn_v isn_v) rfl (by omega) dX12_soothe_69 ?_
              refine g_aload_n (pc := 70) C dX12_soothe_70 rfl ?_
              refine g_iload_n (pc := 71) C dX12_soothe_71 rfl ?_
              refine gx_S (S' := scw (s_setA (keepS S) 1010 (upd (s_A S 1010) (14 + i) (nI 0))) B W t) (by rw [keep_said, scw_setA]) ?_
              have hp2 : gx_p (s_setA (keepS S) 1010 (upd (s_A S 1010) (14 + i) (nI 0))) P H := by
                refine ⟨?_, hP7, ?_, hH2⟩
                · show upd (s_A S 1010) (14 + i) (nI 0) 4 = nI P
                  simp only [upd]; rw [if_neg (by omega)]; exact hP
                · show upd (s_A S 1010) (14 + i) (nI 0) 10 = nI H
                  simp only [upd]; rw [if_neg (by omega)]; exact hH
              refine cg_X12_423 (pc := 72) C rfl (by exact m_z hm rfl) (c_X12_overIn _ _ (s_setA (keepS S) 1010 (upd (s_A S 1010) (14 + i) (nI 0))) hm P H hp2 m (by omega) fr hfr _ _ _) ⟨rfl, rfl⟩ ⟨Nat.zero_le _, Nat.zero_le _⟩ rfl (Nat.le_of_ble_eq_true rfl) dX12_soothe_72 ?_
              rintro _ _ ⟨B', W', t', rfl, rfl⟩
              refine gx_S (S' := scw (keepS S) B' W' t') ?_ ?_
              · exact keep_back S (upd (s_A S 1010) (14 + i) (nI 0)) (pnF fr (s_I S 1123 1000) (upd (s_A S 1010) (14 + i) (nI 0)) P H m) (fun j hj => by rw [pnF_out hP7 hj m]; simp only [upd]; rw [if_neg (by omega)]) B' W' t'
              refine gx_ti (y := nI (ovN fr (s_I S 1123 1000) (upd (s_A S 1010) (14 + i) (nI 0)) P H m)) rfl ?_
              refine g_istore (pc := 75) (L' := [_, _, _, _, _, some (.int _), _]) C dX12_soothe_75 rfl rfl ?_
              refine g_iload (pc := 77) C dX12_soothe_77 rfl ?_
              refine g_iload (pc := 79) C dX12_soothe_79 rfl ?_
              refine g_icmp_gt (pc := 81) C 87 dX12_soothe_81 rfl (fun h5 => ?_) (fun h5 => ?_)
              · have h5 := (nI_ltI (by omega) (by omega)).mp h5
                refine g_iload (pc := 87) C dX12_soothe_87 rfl ?_
                refine g_istore_n (pc := 89) (L' := [_, _, some (.int _), _, _, _, _]) C dX12_soothe_89 rfl rfl ?_
                refine g_iload (pc := 90) C dX12_soothe_90 rfl ?_
                refine g_istore (pc := 92) (L' := [_, _, _, some (.int _), _, _, _]) C dX12_soothe_92 rfl rfl ?_
                refine g_iinc (pc := 94) (L' := [_, _, _, _, some (.int _), _, _]) C dX12_soothe_94 rfl (nI_1 _) rfl ?_
                refine g_goto (pc := 97) C 48 dX12_soothe_97 rfl ?_
                have := ih (i + 1) (some (.int (nI (ovN fr (s_I S 1123 1000) (upd (s_A S 1010) (14 + i) (nI 0)) P H m)))) B' W' t' (by omega)
                rw [show sooF (fun p => ovN fr (s_I S 1123 1000) (upd (s_A S 1010) (14 + p) (nI 0)) P H m) (ovN fr (s_I S 1123 1000) (s_A S 1010) P H m) (i + 1) = (some i, ovN fr (s_I S 1123 1000) (upd (s_A S 1010) (14 + i) (nI 0)) P H m) from if_pos h5] at this
                exact this
              · have h5 : ¬ (sooF (fun p => ovN fr (s_I S 1123 1000) (upd (s_A S 1010) (14 + p) (nI 0)) P H m) (ovN fr (s_I S 1123 1000) (s_A S 1010) P H m) i).2 < ovN fr (s_I S 1123 1000) (upd (s_A S 1010) (14 + i) (nI 0)) P H m := fun q => h5 (nI_lt q (by omega))
                refine g_goto (pc := 84) C 94 dX12_soothe_84 rfl ?_
                refine g_iinc (pc := 94) (L' := [_, _, _, _, some (.int _), _, _]) C dX12_soothe_94 rfl (nI_1 _) rfl ?_
                refine g_goto (pc := 97) C 48 dX12_soothe_97 rfl ?_
                have := ih (i + 1) (some (.int (nI (ovN fr (s_I S 1123 1000) (upd (s_A S 1010) (14 + i) (nI 0)) P H m)))) B' W' t' (by omega)
                rw [show sooF (fun p => ovN fr (s_I S 1123 1000) (upd (s_A S 1010) (14 + p) (nI 0)) P H m) (ovN fr (s_I S 1123 1000) (s_A S 1010) P H m) (i + 1) = sooF (fun p => ovN fr (s_I S 1123 1000) (upd (s_A S 1010) (14 + p) (nI 0)) P H m) (ovN fr (s_I S 1123 1000) (s_A S 1010) P H m) i from if_neg h5] at this
                exact this
        exact loop P 0 _ B0 W0 t0 (by omega)
      · exact bad _ _ _ _ (fun q => bI_0.mp (Decidable.not_not.mp h3) q.2.2)
