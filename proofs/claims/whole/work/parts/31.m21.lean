/-! ===== the reference: drawn fog ===== -/
def remL (x y : Int64) : Int64 := x - x / y * y
def dnx (x : Int64) : Int64 := remL (x * 1103515245 + 12345) 2147483648
def dval (x : Int64) : Int32 := (remL (x / 65536) (nI 100).toInt64).toInt32
theorem c_X12_draw (w : Wd) (l : Launch) (S : St) (hm : gx_m S) : gx_M w l yX12_draw cX12_draw 2 (some .int) rmX12_draw [.ref (ad (w_b w) 1000), .int (nI 100)] S (pI (dval (dnx (s_L S 1137 1000))) (s_setL S 1137 1000 (dnx (s_L S 1137 1000)))) := by
  refine gx_start rfl 0 rfl (Nat.le_of_ble_eq_true rfl) ?_
  intro X C _ hl
  subst hl
  refine gx_L (L' := [_, _]) rfl ?_
  refine g_aload_n (pc := 0) C dX12_draw_0 rfl ?_
  refine g_aload_n (pc := 1) C dX12_draw_1 rfl ?_
  refine mg_440 (pc := 2) C (by exact hm) dX12_draw_2 ?_
  refine g_ldc2 (pc := 5) (v := 1103515245) C dX12_draw_5 kl_X12_444 ?_
  refine g_lmul (pc := 8) C dX12_draw_8 ?_
  refine g_ldc2 (pc := 9) (v := 12345) C dX12_draw_9 kl_X12_446 ?_
  refine g_ladd (pc := 12) C dX12_draw_12 ?_
  refine g_ldc2 (pc := 13) (v := 2147483648) C dX12_draw_13 kl_X12_448 ?_
  refine g_lrem (pc := 16) C dX12_draw_16 (by decide) ?_
  refine mp_440 (pc := 17) C (by exact hm) dX12_draw_17 ?_
  refine g_aload_n (pc := 20) C dX12_draw_20 rfl ?_
  refine mg_440 (pc := 21) C (by exact hm) dX12_draw_21 ?_
  refine g_ldc2 (pc := 24) (v := 65536) C dX12_draw_24 kl_X12_450 ?_
  refine g_ldiv (pc := 27) C dX12_draw_27 (by decide) ?_
  refine g_iload_n (pc := 28) C dX12_draw_28 rfl ?_
  refine g_i2l (pc := 29) C dX12_draw_29 ?_
  refine g_lrem (pc := 30) C dX12_draw_30 (by decide) ?_
  refine g_l2i (pc := 31) C dX12_draw_31 ?_
  exact g_ireturn (pc := 32) C ⟨rfl, rfl⟩ dX12_draw_32 (⟨rfl, rfl⟩)
def fgT (T : St) (d : Int32) (x : Int64) (B W : Nat → Int64) (t : Int32) : St := scw (s_setL (s_setI T 1123 1000 d) 1137 1000 x) B W t
theorem fg_I (T : St) (d d' : Int32) (x : Int64) (B W : Nat → Int64) (t : Int32) : s_setI (fgT T d x B W t) 1123 1000 d' = fgT T d' x B W t := by
  have : u2 (u2 (u2 (s_I T) 1123 1000 d) 1118 1000 t) 1123 1000 d' = u2 (u2 (s_I T) 1123 1000 d') 1118 1000 t := by
    funext g j; unfold u2
    by_cases e : g = 1123
    · subst e; simp
      split <;> rfl
    · simp [e]
  show (_, _, _, _, u2 (u2 (u2 (s_I T) 1123 1000 d) 1118 1000 t) 1123 1000 d', _, _, _, _) = _
  rw [this]; rfl
theorem fg_L (T : St) (d : Int32) (x x' : Int64) (B W : Nat → Int64) (t : Int32) : s_setL (fgT T d x B W t) 1137 1000 x' = fgT T d x' B W t := by
  have : u2 (u2 (s_L T) 1137 1000 x) 1137 1000 x' = u2 (s_L T) 1137 1000 x' := by
    funext g j; unfold u2; split
    · split <;> rfl
    · rfl
  show (_, _, _, _, _, u2 (u2 (s_L T) 1137 1000 x) 1137 1000 x', _, _, _) = _
  rw [this]; rfl
theorem fg_P (T : St) (d : Int32) (x : Int64) (g : Nat → Int32) (B W : Nat → Int64) (t : Int32) : scw (s_setA (s_setL (s_setI T 1123 1000 d) 1137 1000 x) 1010 g) B W t = fgT (s_setA T 1010 g) d x B W t := rfl
theorem fg_Y (T : St) (d : Int32) (x : Int64) (B W : Nat → Int64) (t : Int32) : layS (fgT T d x B W t) = fgT (layS T) d x B W t := rfl
theorem lay_keep (S : St) (f : Nat → Int32) (h : ∀ j, (j < 10 ∨ 28 ≤ j) → f j = s_A S 1010 j) : layS (s_setA (keepS S) 1010 f) = keepS S := by
  show s_setA (s_setA (keepS S) 1010 f) 1010 (va_cpy (s_A (keepS S) 1012) f 0 10 18) = keepS S
  rw [s_AA]
  have e : va_cpy (s_A (keepS S) 1012) f 0 10 18 = s_A (keepS S) 1010 := by
    funext j
    show (if 10 ≤ j ∧ j < 10 + 18 then (if 0 ≤ 0 + (j - 10) ∧ 0 + (j - 10) < 0 + 18 then s_A S 1010 (10 + (0 + (j - 10) - 0)) else s_A S 1012 (0 + (j - 10))) else f j) = s_A S 1010 j
    split
    · rw [if_pos (by omega)]
      congr 1; omega
    · exact h j (by omega)
  rw [e, s_A_id]
/-- so many trips, each with a draw ahead of it -/
def fgI (fr : Option ((Nat → Int64) → Int64)) (said : Nat → Int32) (P H : Nat) (p : Int32) (x : Int64) : Nat → (Nat → Int32) × Int64
  | 0 => (said, x)
  | k + 1 => (passF fr (bI (dval (dnx (fgI fr said P H p x k).2) < p)) (fgI fr said P H p x k).1 P (H + k), dnx (fgI fr said P H p x k).2)
theorem fgI_out {fr : Option ((Nat → Int64) → Int64)} {said : Nat → Int32} {P H j : Nat} {p : Int32} {x : Int64} (hP : P ≤ 7) (h : j < 10 ∨ 28 ≤ j) : ∀ n, (fgI fr said P H p x n).1 j = said j
  | 0 => rfl
  | n + 1 => (passF_out hP h).trans (fgI_out hP h n)
theorem fgI_hour {fr : Option ((Nat → Int64) → Int64)} {said : Nat → Int32} {P H : Nat} {p : Int32} {x : Int64} (hP : P ≤ 7) (hh : said 10 = nI H) : ∀ n, (fgI fr said P H p x n).1 10 = nI (H + n)
  | 0 => hh
  | n + 1 => by
    show passF fr _ (fgI fr said P H p x n).1 P (H + n) 10 = _
    rw [passF_hour hP, fgI_hour hP hh n, nI_add]; rfl
/-- m times: draws, how many are over, how often it shipped -/
def fgO (fr : Option ((Nat → Int64) → Int64)) (said : Nat → Int32) (P H : Nat) (p : Int32) (n : Nat) (x : Int64) : Nat → Int64 × Int32 × Int32
  | 0 => (x, nI 0, nI 0)
  | y + 1 => ((fgI fr said P H p (fgO fr said P H p n x y).1 n).2, (fgO fr said P H p n x y).2.1 + nI (popN (onN (fgI fr said P H p (fgO fr said P H p n x y).1 n).1 (nI 1) P)), (fgO fr said P H p n x y).2.2 + ((fgI fr said P H p (fgO fr said P H p n x y).1 n).1 12 - said 12))
abbrev fogsOK (said : Nat → Int32) (m n p what : Int32) : Prop := said 0 = nI 1 ∧ (nI 1 ≤ m ∧ m ≤ nI 10) ∧ (nI 1 ≤ n ∧ n ≤ nI 60) ∧ (nI 0 ≤ p ∧ p ≤ nI 100) ∧ (nI 0 ≤ what ∧ what ≤ nI 1)
theorem c_X12_fogs (w : Wd) (l : Launch) (S : St) (hm : gx_m S) (P H : Nat) (hp : gx_p S P H) (hH1 : H ≤ 999) (fr : Option ((Nat → Int64) → Int64)) (hfr : frW S fr) (hdr : s_I S 1123 1000 = nI 0) (m n p what : Int32) : gx_M w l yX12_fogs cX12_fogs 10 (some .int) rmX12_fogs [.ref (ad (w_b w) 1000), .int m, .int n, .int p, .int what] S (fun a S' => if fogsOK (s_A S 1010) m n p what then (∃ x' B' W' t', a = some (.int (if what = nI 0 then (fgO fr (s_A S 1010) P H p n.toNatClampNeg (s_I S 1122 1000).toInt64 m.toNatClampNeg).2.1 else (fgO fr (s_A S 1010) P H p n.toNatClampNeg (s_I S 1122 1000).toInt64 m.toNatClampNeg).2.2)) ∧ S' = scw (s_setL (keepS S) 1137 1000 x') B' W' t') else (a = some (.int (-1)) ∧ S' = S)) := by
  obtain ⟨hP, hP7, hH, hH2⟩ := id hp
  refine gx_start rfl 5 rfl (Nat.le_of_ble_eq_true rfl) ?_
  intro X C _ hl
  subst hl
  refine gx_L (L' := [_, _, _, _, _, _, _, _, _, _]) rfl ?_
  have bad : ∀ z5 z6 z7 z8 z9, ¬ fogsOK (s_A S 1010) m n p what → gx_G w X S 0 0 54 [some (.ref (ad (w_b w) 1000)), some (.int m), some (.int n), some (.int p), some (.int what), z5, z6, z7, z8, z9] [] (gx_E w X (fun a S' => if fogsOK (s_A S 1010) m n p what then (∃ x' B' W' t', a = some (.int (if what = nI 0 then (fgO fr (s_A S 1010) P H p n.toNatClampNeg (s_I S 1122 1000).toInt64 m.toNatClampNeg).2.1 else (fgO fr (s_A S 1010) P H p n.toNatClampNeg (s_I S 1122 1000).toInt64 m.toNatClampNeg).2.2)) ∧ S' = scw (s_setL (keepS S) 1137 1000 x') B' W' t') else (a = some (.int (-1)) ∧ S' = S))) := by
    intro z5 z6 z7 z8 z9 hb
    refine g_iconst (pc := 54) (v := -1) C dX12_fogs_54 (by decide) ?_
    exact g_ireturn (pc := 55) C ⟨rfl, rfl⟩ dX12_fogs_55 ((by rw [if_neg hb]; exact ⟨rfl, rfl⟩))
  refine g_aload_n (pc := 0) C dX12_fogs_0 rfl ?_
  refine cf_X12_297 (pc := 1) C rfl (by exact m_z hm rfl) (c_X12_isCrossing _ _ _ hm) ⟨rfl, rfl⟩ ⟨rfl, rfl⟩ ⟨Nat.zero_le _, Nat.zero_le _⟩ rfl (Nat.le_of_ble_eq_true rfl) dX12_fogs_1 ?_
  refine g_if_eq (pc := 4) C 54 dX12_fogs_4 rfl (fun h => ?_) (fun h => ?_)
  · exact bad _ _ _ _ _ (fun q => bI_0.mp h q.1)
  · have h := Decidable.not_not.mp (fun q => h (bI_0.mpr q))
    refine g_iload_n (pc := 7) C dX12_fogs_7 rfl ?_
    refine g_i2l (pc := 8) C dX12_fogs_8 ?_
    refine g_lconst (pc := 9) (v := 1) C dX12_fogs_9 (by decide) ?_
    refine g_ldc2 (pc := 10) (v := 10) C dX12_fogs_10 kl_X12_452 ?_
    refine cf_X12_130 (pc := 13) C (c_X12_in32 _ _ _ _ (nI 1) (nI 10) _ _ rfl rfl) ⟨rfl, rfl⟩ ⟨rfl, rfl⟩ ⟨Nat.zero_le _, Nat.zero_le _⟩ rfl (Nat.le_of_ble_eq_true rfl) dX12_fogs_13 ?_
    refine g_if_eq (pc := 16) C 54 dX12_fogs_16 rfl (fun h2 => ?_) (fun h2 => ?_)
    · exact bad _ _ _ _ _ (fun q => bI_0.mp h2 q.2.1)
    · have h2 := Decidable.not_not.mp (fun q => h2 (bI_0.mpr q))
      refine g_iload_n (pc := 19) C dX12_fogs_19 rfl ?_
      refine g_i2l (pc := 20) C dX12_fogs_20 ?_
      refine g_lconst (pc := 21) (v := 1) C dX12_fogs_21 (by decide) ?_
      refine g_ldc2 (pc := 22) (v := 60) C dX12_fogs_22 kl_X12_426 ?_
      refine cf_X12_130 (pc := 25) C (c_X12_in32 _ _ _ _ (nI 1) (nI 60) _ _ rfl rfl) ⟨rfl, rfl⟩ ⟨rfl, rfl⟩ ⟨Nat.zero_le _, Nat.zero_le _⟩ rfl (Nat.le_of_ble_eq_true rfl) dX12_fogs_25 ?_
      refine g_if_eq (pc := 28) C 54 dX12_fogs_28 rfl (fun h3 => ?_) (fun h3 => ?_)
      · exact bad _ _ _ _ _ (fun q => bI_0.mp h3 q.2.2.1)
      · have h3 := Decidable.not_not.mp (fun q => h3 (bI_0.mpr q))
        refine g_iload_n (pc := 31) C dX12_fogs_31 rfl ?_
        refine g_i2l (pc := 32) C dX12_fogs_32 ?_
        refine g_lconst (pc := 33) (v := 0) C dX12_fogs_33 (by decide) ?_
        refine g_ldc2 (pc := 34) (v := 100) C dX12_fogs_34 kl_X12_381 ?_
        refine cf_X12_130 (pc := 37) C (c_X12_in32 _ _ _ _ (nI 0) (nI 100) _ _ rfl rfl) ⟨rfl, rfl⟩ ⟨rfl, rfl⟩ ⟨Nat.zero_le _, Nat.zero_le _⟩ rfl (Nat.le_of_ble_eq_true rfl) dX12_fogs_37 ?_
        refine g_if_eq (pc := 40) C 54 dX12_fogs_40 rfl (fun h4 => ?_) (fun h4 => ?_)
        · exact bad _ _ _ _ _ (fun q => bI_0.mp h4 q.2.2.2.1)
        · have h4 := Decidable.not_not.mp (fun q => h4 (bI_0.mpr q))
          refine g_iload (pc := 43) C dX12_fogs_43 rfl ?_
          refine g_i2l (pc := 45) C dX12_fogs_45 ?_
          refine g_lconst (pc := 46) (v := 0) C dX12_fogs_46 (by decide) ?_
          refine g_lconst (pc := 47) (v := 1) C dX12_fogs_47 (by decide) ?_
          refine cf_X12_130 (pc := 48) C (c_X12_in32 _ _ _ _ (nI 0) (nI 1) _ _ rfl rfl) ⟨rfl, rfl⟩ ⟨rfl, rfl⟩ ⟨Nat.zero_le _, Nat.zero_le _⟩ rfl (Nat.le_of_ble_eq_true rfl) dX12_fogs_48 ?_
          refine g_if_ne (pc := 51) C 56 dX12_fogs_51 rfl (fun h5 => ?_) (fun h5 => ?_)
          · have h5 := Decidable.not_not.mp (fun q => h5 (bI_0.mpr q))
            have hok : fogsOK (s_A S 1010) m n p what := ⟨h, h2, h3, h4, h5⟩
            obtain ⟨mm, hm10, rfl⟩ := nat_of (b := 10) (by omega) ⟨Int32.le_trans (by decide) h2.1, h2.2⟩
            obtain ⟨nn, hn60, rfl⟩ := nat_of (b := 60) (by omega) ⟨Int32.le_trans (by decide) h3.1, h3.2⟩
            have e1 : (nI mm).toNatClampNeg = mm := nI_clamp (by omega)
            have e2 : (nI nn).toNatClampNeg = nn := nI_clamp (by omega)
            rw [e1, e2]
            refine g_aload_n (pc := 56) C dX12_fogs_56 rfl ?_
            refine g_aload_n (pc := 57) C dX12_fogs_57 rfl ?_
            refine mg_437 (pc := 58) C (by exact hm) dX12_fogs_58 ?_
            refine g_i2l (pc := 61) C dX12_fogs_61 ?_
            refine mp_440 (pc := 62) C (by exact hm) dX12_fogs_62 ?_
            refine gx_S (S' := s_setL S 1137 1000 (s_I S 1122 1000).toInt64) rfl ?_
            refine g_iconst (pc := 65) (v := nI 0) C dX12_fogs_65 (by decide) ?_
            refine g_istore (pc := 66) (L' := [_, _, _, _, some (.int _), _, _, _, _, _]) C dX12_fogs_66 rfl rfl ?_
            refine g_iconst (pc := 68) (v := nI 0) C dX12_fogs_68 (by decide) ?_
            refine g_istore (pc := 69) (L' := [_, _, _, _, _, some (.int _), _, _, _, _]) C dX12_fogs_69 rfl rfl ?_
            refine g_aload_n (pc := 71) C dX12_fogs_71 rfl ?_
            refine cf_X12_385 (pc := 72) C rfl (by exact m_z hm rfl) (c_X12_keeps _ _ _ (by exact hm)) ⟨rfl, rfl⟩ ⟨rfl, rfl⟩ ⟨Nat.zero_le _, Nat.zero_le _⟩ rfl (Nat.le_of_ble_eq_true rfl) dX12_fogs_72 ?_
            refine g_iconst (pc := 75) (v := nI 0) C dX12_fogs_75 (by decide) ?_
            refine g_istore (pc := 76) (L' := [_, _, _, _, _, _, some (.int _), _, _, _]) C dX12_fogs_76 rfl rfl ?_
            refine gx_S (S' := fgT (keepS S) (nI 0) (s_I S 1122 1000).toInt64 (s_B S 1008) (s_B S 1009) (s_I S 1118 1000)) ?_ ?_
            · have : s_setI (keepS S) 1123 1000 (nI 0) = keepS S := by
                rw [← hdr]; exact s_I_id (keepS S) 1123 1000
              unfold fgT
              rw [this]
              exact (scw_id (s_setL (keepS S) 1137 1000 (s_I S 1122 1000).toInt64)).symm
            have loop : ∀ k y z8 z9 B W t, y + k = mm → gx_G w X (fgT (keepS S) (nI 0) (fgO fr (s_A S 1010) P H p nn (s_I S 1122 1000).toInt64 y).1 B W t) 0 0 78 [some (.ref (ad (w_b w) 1000)), some (.int (nI mm)), some (.int (nI nn)), some (.int p), some (.int what), some (.int (fgO fr (s_A S 1010) P H p nn (s_I S 1122 1000).toInt64 y).2.1), some (.int (fgO fr (s_A S 1010) P H p nn (s_I S 1122 1000).toInt64 y).2.2), some (.int (nI y)), z8, z9] [] (gx_E w X (fun a S' => if fogsOK (s_A S 1010) (nI mm) (nI nn) p what then (∃ x' B' W' t', a = some (.int (if what = nI 0 then (fgO fr (s_A S 1010) P H p nn (s_I S 1122 1000).toInt64 mm).2.1 else (fgO fr (s_A S 1010) P H p nn (s_I S 1122 1000).toInt64 mm).2.2)) ∧ S' = scw (s_setL (keepS S) 1137 1000 x') B' W' t') else (a = some (.int (-1)) ∧ S' = S))) := by
              intro k
              induction k with
              | zero =>
                intro y z8 z9 B W t hy
                have hy : y = mm := hy
                subst hy
                have efin : fgT (keepS S) (nI 0) (fgO fr (s_A S 1010) P H p nn (s_I S 1122 1000).toInt64 y).1 B W t = scw (s_setL (keepS S) 1137 1000 (fgO fr (s_A S 1010) P H p nn (s_I S 1122 1000).toInt64 y).1) B W t := by
                  have : s_setI (keepS S) 1123 1000 (nI 0) = keepS S := by
                    rw [← hdr]; exact s_I_id (keepS S) 1123 1000
                  unfold fgT
                  rw [this]
                refine g_iload (pc := 78) C dX12_fogs_78 rfl ?_
                refine g_iload_n (pc := 80) C dX12_fogs_80 rfl ?_
                refine g_icmp_ge (pc := 81) C 175 dX12_fogs_81 rfl (fun h6 => ?_) (fun h6 => ?_)
                · refine g_iload (pc := 175) C dX12_fogs_175 rfl ?_
                  refine g_if_ne (pc := 177) C 185 dX12_fogs_177 rfl (fun h7 => ?_) (fun h7 => ?_)
                  · refine g_iload (pc := 185) C dX12_fogs_185 rfl ?_
                    exact g_ireturn (pc := 187) C ⟨rfl, rfl⟩ dX12_fogs_187 (by rw [if_pos hok, if_neg (fun q => h7 (by rw [q]; rfl)), efin]; exact ⟨_, B, W, t, rfl, rfl⟩)
                  · have h7 : what = nI 0 := Decidable.not_not.mp h7
                    refine g_iload (pc := 180) C dX12_fogs_180 rfl ?_
                    refine g_goto (pc := 182) C 187 dX12_fogs_182 rfl ?_
                    exact g_ireturn (pc := 187) C ⟨rfl, rfl⟩ dX12_fogs_187 (by rw [if_pos hok, if_pos h7, efin]; exact ⟨_, B, W, t, rfl, rfl⟩)
                · exact absurd (nI_le (Nat.le_refl y) (by omega)) h6
              | succ k ih =>
                intro y z8 z9 B W t hy
                generalize hx0 : (fgO fr (s_A S 1010) P H p nn (s_I S 1122 1000).toInt64 y).1 = x0
                generalize hv1 : (fgO fr (s_A S 1010) P H p nn (s_I S 1122 1000).toInt64 y).2.1 = v1
                generalize hv2 : (fgO fr (s_A S 1010) P H p nn (s_I S 1122 1000).toInt64 y).2.2 = v2
                refine g_iload (pc := 78) C dX12_fogs_78 rfl ?_
                refine g_iload_n (pc := 80) C dX12_fogs_80 rfl ?_
                refine g_icmp_ge (pc := 81) C 175 dX12_fogs_81 rfl (fun h6 => ?_) (fun h6 => ?_)
                · exact absurd h6 (nI_ge (by omega) (by omega))
                · refine g_aload_n (pc := 84) C dX12_fogs_84 rfl ?_
                  refine mg_39 (pc := 85) C (by exact hm) dX12_fogs_85 ?_
                  refine g_bipush (pc := 88) (v := nI 12) C dX12_fogs_88 (by decide) ?_
                  refine n_iald (pc := 90) (k := 1010) (n := 190) C rfl rfl (by exact m_z hm rfl) isn_v rfl (by omega) dX12_fogs_90 ?_
                  refine gx_ti (y := s_A S 1010 12) rfl ?_
                  refine g_istore (pc := 91) (L' := [_, _, _, _, _, _, _, some (.int _), _, _]) C dX12_fogs_91 rfl rfl ?_
                  refine g_iconst (pc := 93) (v := nI 0) C dX12_fogs_93 (by decide) ?_
                  refine g_istore (pc := 94) (L' := [_, _, _, _, _, _, _, _, some (.int _), _]) C dX12_fogs_94 rfl rfl ?_
                  refine gx_S (S' := fgT (s_setA (keepS S) 1010 (fgI fr (s_A S 1010) P H p x0 0).1) (nI 0) (fgI fr (s_A S 1010) P H p x0 0).2 B W t) ?_ ?_
                  · show fgT (keepS S) (nI 0) x0 B W t = fgT (s_setA (keepS S) 1010 (s_A (keepS S) 1010)) (nI 0) x0 B W t
                    rw [s_A_id]
                  have inner : ∀ j i d B W t, i + j = nn → gx_G w X (fgT (s_setA (keepS S) 1010 (fgI fr (s_A S 1010) P H p x0 i).1) d (fgI fr (s_A S 1010) P H p x0 i).2 B W t) 0 0 96 [some (.ref (ad (w_b w) 1000)), some (.int (nI mm)), some (.int (nI nn)), some (.int p), some (.int what), some (.int v1), some (.int v2), some (.int (nI y)), some (.int (s_A S 1010 12)), some (.int (nI i))] [] (gx_E w X (fun a S' => if fogsOK (s_A S 1010) (nI mm) (nI nn) p what then (∃ x' B' W' t', a = some (.int (if what = nI 0 then (fgO fr (s_A S 1010) P H p nn (s_I S 1122 1000).toInt64 mm).2.1 else (fgO fr (s_A S 1010) P H p nn (s_I S 1122 1000).toInt64 mm).2.2)) ∧ S' = scw (s_setL (keepS S) 1137 1000 x') B' W' t') else (a = some (.int (-1)) ∧ S' = S))) := by
                    intro j
                    induction j with
                    | zero =>
                      intro i d B W t hi
                      have hi : i = nn := hi
                      subst hi
                      generalize hsd : fgI fr (s_A S 1010) P H p x0 i = fi
                      have hout : ∀ j, (j < 10 ∨ 28 ≤ j) → fi.1 j = s_A S 1010 j := fun j hj => by rw [← hsd]; exact fgI_out hP7 hj i
                      have hP2 : fi.1 4 = nI P := (hout 4 (by omega)).trans hP
                      refine g_iload (pc := 96) C dX12_fogs_96 rfl ?_
                      refine g_iload_n (pc := 98) C dX12_fogs_98 rfl ?_
                      refine g_icmp_ge (pc := 99) C 132 dX12_fogs_99 rfl (fun h7 => ?_) (fun h7 => ?_)
                      · refine g_aload_n (pc := 132) C dX12_fogs_132 rfl ?_
                        refine g_iconst (pc := 133) (v := nI 0) C dX12_fogs_133 (by decide) ?_
                        refine mp_300 (pc := 134) C (by exact hm) (by first | exact Or.inl rfl | exact Or.inr rfl) dX12_fogs_134 ?_
                        refine gx_S (fg_I _ _ _ _ B W t) ?_
                        refine g_iload (pc := 137) C dX12_fogs_137 rfl ?_
                        refine g_aload_n (pc := 139) C dX12_fogs_139 rfl ?_
                        refine g_iconst (pc := 140) (v := nI 1) C dX12_fogs_140 (by decide) ?_
                        refine cf_X12_334 (pc := 141) C rfl (by exact m_z hm rfl) (c_X12_onSide _ _ (fgT (s_setA (keepS S) 1010 fi.1) (nI 0) fi.2 B W t) (by exact hm) P (by exact hP2) hP7 _) ⟨rfl, rfl⟩ ⟨rfl, rfl⟩ ⟨Nat.zero_le _, Nat.zero_le _⟩ rfl (Nat.le_of_ble_eq_true rfl) dX12_fogs_141 ?_
                        refine gx_ti (y := nI (onN fi.1 (nI 1) P)) rfl ?_
                        refine cf_X12_337 (pc := 144) C (c_X12_bits _ _ _ _ (onN_128 hP7)) ⟨rfl, rfl⟩ ⟨rfl, rfl⟩ ⟨Nat.zero_le _, Nat.zero_le _⟩ rfl (Nat.le_of_ble_eq_true rfl) dX12_fogs_144 ?_
                        refine g_iadd (pc := 147) C dX12_fogs_147 ?_
                        refine g_istore (pc := 148) (L' := [_, _, _, _, some (.int _), _, _, _, _, _]) C dX12_fogs_148 rfl rfl ?_
                        refine g_iload (pc := 150) C dX12_fogs_150 rfl ?_
                        refine g_aload_n (pc := 152) C dX12_fogs_152 rfl ?_
                        refine mg_39 (pc := 153) C (by exact hm) dX12_fogs_153 ?_
                        refine g_bipush (pc := 156) (v := nI 12) C dX12_fogs_156 (by decide) ?_
                        refine n_iald (pc := 158) (k := 1010) (n := 190) C rfl rfl (by exact m_z hm rfl) isn_v rfl (by omega) dX12_fogs_158 ?_
                        refine gx_ti (y := fi.1 12) rfl ?_
                        refine g_iload (pc := 159) C dX12_fogs_159 rfl ?_
                        refine g_isub (pc := 161) C dX12_fogs_161 ?_
                        refine g_iadd (pc := 162) C dX12_fogs_162 ?_
                        refine g_istore (pc := 163) (L' := [_, _, _, _, _, some (.int _), _, _, _, _]) C dX12_fogs_163 rfl rfl ?_
                        refine g_aload_n (pc := 165) C dX12_fogs_165 rfl ?_
                        refine cf_X12_388 (pc := 166) C rfl (by exact m_z hm rfl) (c_X12_laysBack _ _ _ (by exact hm)) ⟨rfl, rfl⟩ ⟨rfl, rfl⟩ ⟨Nat.zero_le _, Nat.zero_le _⟩ rfl (Nat.le_of_ble_eq_true rfl) dX12_fogs_166 ?_
                        refine gx_S (S' := fgT (keepS S) (nI 0) fi.2 B W t) ?_ ?_
                        · rw [fg_Y, lay_keep S fi.1 hout]
                        · refine g_iinc (pc := 169) (L' := [_, _, _, _, _, _, some (.int _), _, _, _]) C dX12_fogs_169 rfl (nI_1 _) rfl ?_
                          refine g_goto (pc := 172) C 78 dX12_fogs_172 rfl ?_
                          have := ih (y + 1) (some (.int (s_A S 1010 12))) (some (.int (nI i))) B W t (by omega)
                          rw [show fgO fr (s_A S 1010) P H p i (s_I S 1122 1000).toInt64 (y + 1) = (fi.2, v1 + nI (popN (onN fi.1 (nI 1) P)), v2 + (fi.1 12 - s_A S 1010 12)) from by simp only [fgO]; rw [hx0, hv1, hv2, hsd]] at this
                          exact this
                      · exact absurd (nI_le (Nat.le_refl i) (by omega)) h7
                    | succ j jh =>
                      intro i d B W t hi
                      have hnx : fgI fr (s_A S 1010) P H p x0 (i + 1) = (passF fr (bI (dval (dnx (fgI fr (s_A S 1010) P H p x0 i).2) < p)) (fgI fr (s_A S 1010) P H p x0 i).1 P (H + i), dnx (fgI fr (s_A S 1010) P H p x0 i).2) := rfl
                      have hout : ∀ j, (j < 10 ∨ 28 ≤ j) → (fgI fr (s_A S 1010) P H p x0 i).1 j = s_A S 1010 j := fun j hj => fgI_out hP7 hj i
                      have hhr : (fgI fr (s_A S 1010) P H p x0 i).1 10 = nI (H + i) := fgI_hour hP7 hH i
                      have hjh := jh (i + 1)
                      rw [hnx] at hjh
                      generalize fgI fr (s_A S 1010) P H p x0 i = fi at hout hhr hjh ⊢
                      have go : ∀ (dd : Int32), dd = bI (dval (dnx fi.2) < p) → gx_G w X (fgT (s_setA (keepS S) 1010 fi.1) dd (dnx fi.2) B W t) 0 0 121 [some (.ref (ad (w_b w) 1000)), some (.int (nI mm)), some (.int (nI nn)), some (.int p), some (.int what), some (.int v1), some (.int v2), some (.int (nI y)), some (.int (s_A S 1010 12)), some (.int (nI i))] [] (gx_E w X (fun a S' => if fogsOK (s_A S 1010) (nI mm) (nI nn) p what then (∃ x' B' W' t', a = some (.int (if what = nI 0 then (fgO fr (s_A S 1010) P H p nn (s_I S 1122 1000).toInt64 mm).2.1 else (fgO fr (s_A S 1010) P H p nn (s_I S 1122 1000).toInt64 mm).2.2)) ∧ S' = scw (s_setL (keepS S) 1137 1000 x') B' W' t') else (a = some (.int (-1)) ∧ S' = S))) := by
                        intro dd hdd
                        refine g_aload_n (pc := 121) C dX12_fogs_121 rfl ?_
                        refine cg_X12_373 (pc := 122) C rfl (by exact m_z hm rfl) (c_X12_passes _ _ (s_setL (s_setI (s_setA (keepS S) 1010 fi.1) 1123 1000 dd) 1137 1000 (dnx fi.2)) hm P (H + i) ⟨(hout 4 (by omega)).trans hP, hP7, hhr, by omega⟩ fr hfr B W t) ⟨rfl, rfl⟩ ⟨Nat.zero_le _, Nat.zero_le _⟩ rfl (Nat.le_of_ble_eq_true rfl) dX12_fogs_122 ?_
                        rintro _ _ ⟨B', W', t', rfl, rfl⟩
                        refine gx_S (S' := fgT (s_setA (keepS S) 1010 (passF fr dd fi.1 P (H + i))) dd (dnx fi.2) B' W' t') ?_ ?_
                        · rw [fg_P]
                          exact congrArg (fun q => fgT q dd (dnx fi.2) B' W' t') (s_AA (keepS S) 1010 fi.1 (passF fr dd fi.1 P (H + i)))
                        · refine g_pop (pc := 125) C dX12_fogs_125 rfl ?_
                          refine g_iinc (pc := 126) (L' := [_, _, _, _, _, _, _, _, some (.int _), _]) C dX12_fogs_126 rfl (nI_1 _) rfl ?_
                          refine g_goto (pc := 129) C 96 dX12_fogs_129 rfl ?_
                          rw [hdd]
                          exact hjh _ B' W' t' (by omega)
                      refine g_iload (pc := 96) C dX12_fogs_96 rfl ?_
                      refine g_iload_n (pc := 98) C dX12_fogs_98 rfl ?_
                      refine g_icmp_ge (pc := 99) C 132 dX12_fogs_99 rfl (fun h7 => ?_) (fun h7 => ?_)
                      · exact absurd h7 (nI_ge (by omega) (by omega))
                      · refine g_aload_n (pc := 102) C dX12_fogs_102 rfl ?_
                        refine g_aload_n (pc := 103) C dX12_fogs_103 rfl ?_
                        refine g_bipush (pc := 104) (v := nI 100) C dX12_fogs_104 (by decide) ?_
                        refine cf_X12_454 (pc := 106) C rfl (by exact m_z hm rfl) (c_X12_draw _ _ (fgT (s_setA (keepS S) 1010 fi.1) d fi.2 B W t) (by exact hm)) ⟨rfl, rfl⟩ ⟨rfl, rfl⟩ ⟨Nat.zero_le _, Nat.zero_le _⟩ rfl (Nat.le_of_ble_eq_true rfl) dX12_fogs_106 ?_
                        refine gx_S (S' := fgT (s_setA (keepS S) 1010 fi.1) d (dnx fi.2) B W t) (fg_L _ _ _ _ B W t) ?_
                        refine gx_ti (y := dval (dnx fi.2)) rfl ?_
                        refine g_iload_n (pc := 109) C dX12_fogs_109 rfl ?_
                        refine g_icmp_ge (pc := 110) C 117 dX12_fogs_110 rfl (fun h8 => ?_) (fun h8 => ?_)
                        · refine g_iconst (pc := 117) (v := nI 0) C dX12_fogs_117 (by decide) ?_
                          refine mp_300 (pc := 118) C (by exact hm) (by first | exact Or.inl rfl | exact Or.inr rfl) dX12_fogs_118 ?_
                          refine gx_S (fg_I _ _ _ _ B W t) ?_
                          exact go _ (by rw [bI_f (Int32.not_lt.mpr h8)])
                        · refine g_iconst (pc := 113) (v := nI 1) C dX12_fogs_113 (by decide) ?_
                          refine g_goto (pc := 114) C 118 dX12_fogs_114 rfl ?_
                          refine mp_300 (pc := 118) C (by exact hm) (by first | exact Or.inl rfl | exact Or.inr rfl) dX12_fogs_118 ?_
                          refine gx_S (fg_I _ _ _ _ B W t) ?_
                          exact go _ (by rw [bI_t (Int32.not_le.mp h8)])
                  exact inner nn 0 (nI 0) B W t (by omega)
            exact loop mm 0 _ _ _ _ _ (by omega)
          · exact bad _ _ _ _ _ (fun q => bI_0.mp (Decidable.not_not.mp h5) q.2.2.2.2)
