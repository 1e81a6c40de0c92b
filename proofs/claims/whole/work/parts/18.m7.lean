/-! ===== the reference: by whom a rule goes ===== -/
def clF (sv : Nat → Int64) (tv : Nat → Option Int64) : Nat → Nat → Int64
  | 0, _ => 0
  | k + 1, c => match tv c with
    | none => sv c
    | some t => if t = 1 then sv c else clF sv tv k (c + 1)
/-- rule r of the reference, as it lies in its rows, reckons F of the words -/
def ruleW (S : St) (r : Nat) (F : (Nat → Int64) → Int64) : Prop := ∃ (nc len : Nat) (sg b1 n1 b2 n2 : Nat → Nat) (hasT : Nat → Bool), nc ≤ 12 ∧ len ≤ 400 ∧ s_A S 1005 r = nI nc ∧ (∀ i, i < len → s_A S 1002 (400 * r + i) = nI (sg i) ∧ sg i < 16000000 ∧ sg i % 16 ≠ 15) ∧
  (∀ c, c < nc → b1 c + n1 c ≤ len ∧ s_A S 1004 (48 * r + 4 * c) = nI (b1 c) ∧ s_A S 1004 (48 * r + 4 * c + 1) = nI (b1 c + n1 c) ∧ (hasT c = false → s_A S 1004 (48 * r + 4 * c + 2) = -1) ∧ (hasT c = true → b2 c + n2 c ≤ len ∧ s_A S 1004 (48 * r + 4 * c + 2) = nI (b2 c) ∧ s_A S 1004 (48 * r + 4 * c + 3) = nI (b2 c + n2 c))) ∧
  (∀ wd : Nat → Int64, ∃ sv tv, (∀ c, c < nc → runM wd sg (b1 c) (n1 c) [] = some [sv c] ∧ (hasT c = false → tv c = none) ∧ (hasT c = true → ∃ t, tv c = some t ∧ runM wd sg (b2 c) (n2 c) [] = some [t])) ∧ F wd = clF sv tv nc 0) ∧
  ∀ wd wd' : Nat → Int64, (∀ i, i < 12 → wd i = wd' i) → F wd = F wd'
theorem c_X12_summedBy (w : Wd) (l : Launch) (S : St) (hm : gx_m S) (r : Nat) (hr : r < 6) (F : (Nat → Int64) → Int64) (hW : ruleW S r F) (B : Nat → Int64) (t : Int32) : gx_M w l yX12_summedBy cX12_summedBy 4 (some .long) rmX12_summedBy [.ref (ad (w_b w) 1000), .int (nI r)] (scr S B t) (fun a S' => ∃ B' t', a = some (.long (F (s_B S 1009))) ∧ S' = scr S B' t') := by
  obtain ⟨nc, len, sg, b1, n1, b2, n2, hasT, hnc, hlen, hc, hsg, hcl, hF, -⟩ := hW
  obtain ⟨sv, tv, hv, hF⟩ := hF (s_B S 1009)
  refine gx_start rfl 2 rfl (Nat.le_of_ble_eq_true rfl) ?_
  intro X C _ hl
  subst hl
  refine gx_L (L' := [_, _, _, _]) rfl ?_
  refine g_iconst (pc := 0) (v := nI 0) C dX12_summedBy_0 (by decide) ?_
  refine g_istore_n (pc := 1) (L' := [_, some (.int _), _, _]) C dX12_summedBy_1 rfl rfl ?_
  have loop : ∀ k c B t z, c + k = nc → clF sv tv k c = F (s_B S 1009) → gx_G w X (scr S B t) 0 0 2 [some (.ref (ad (w_b w) 1000)), some (.int (nI r)), some (.int (nI c)), z] [] (gx_E w X (fun a S' => ∃ B' t', a = some (.long (F (s_B S 1009))) ∧ S' = scr S B' t')) := by
    intro k
    induction k with
    | zero =>
      intro c B t z hk hres
      have hk : c = nc := hk
      subst hk
      refine g_iload_n (pc := 2) C dX12_summedBy_2 rfl ?_
      refine g_aload_n (pc := 3) C dX12_summedBy_3 rfl ?_
      refine mg_23 (pc := 4) C (by exact hm) dX12_summedBy_4 ?_
      refine g_iload_n (pc := 7) C dX12_summedBy_7 rfl ?_
      refine n_iald (pc := 8) (k := 1005) (n := 6) C rfl rfl (by exact m_z hm rfl) isn_v rfl (by omega) dX12_summedBy_8 ?_
      refine gx_ti hc ?_
      refine g_icmp_ge (pc := 9) C 84 dX12_summedBy_9 rfl (fun h => ?_) (fun h => ?_)
      · refine g_lconst (pc := 84) (v := 0) C dX12_summedBy_84 (by decide) ?_
        exact g_lreturn (pc := 85) C ⟨rfl, rfl⟩ dX12_summedBy_85 ⟨B, t, by rw [← hres]; rfl, rfl⟩
      · exact absurd (nI_le (Nat.le_refl _) (by omega)) h
    | succ k ih =>
      intro c B t z hk hres
      obtain ⟨q1, q2, q3, q4, q5⟩ := hcl c (by omega)
      obtain ⟨v1, v2, v3⟩ := hv c (by omega)
      have sums : ∀ B t, F (s_B S 1009) = sv c → gx_G w X (scr S B t) 0 0 58 [some (.ref (ad (w_b w) 1000)), some (.int (nI r)), some (.int (nI c)), some (.int (nI (48 * r + 4 * c)))] [] (gx_E w X (fun a S' => ∃ B' t', a = some (.long (F (s_B S 1009))) ∧ S' = scr S B' t')) := by
        intro B t he
        refine g_aload_n (pc := 58) C dX12_summedBy_58 rfl ?_
        refine g_iload_n (pc := 59) C dX12_summedBy_59 rfl ?_
        refine g_aload_n (pc := 60) C dX12_summedBy_60 rfl ?_
        refine mg_20 (pc := 61) C (by exact hm) dX12_summedBy_61 ?_
        refine g_iload_n (pc := 64) C dX12_summedBy_64 rfl ?_
        refine n_iald (pc := 65) (k := 1004) (n := 288) C rfl rfl (by exact m_z hm rfl) isn_v rfl (by omega) dX12_summedBy_65 ?_
        refine gx_ti q2 ?_
        refine g_aload_n (pc := 66) C dX12_summedBy_66 rfl ?_
        refine mg_20 (pc := 67) C (by exact hm) dX12_summedBy_67 ?_
        refine g_iload_n (pc := 70) C dX12_summedBy_70 rfl ?_
        refine g_iconst (pc := 71) (v := nI 1) C dX12_summedBy_71 (by decide) ?_
        refine g_iadd (pc := 72) C dX12_summedBy_72 ?_
        refine n_iald (pc := 73) (k := 1004) (n := 288) C rfl rfl (by exact m_z hm rfl) (isn_add isn_v isn_v) rfl (by omega) dX12_summedBy_73 ?_
        refine gx_ti q3 ?_
        refine cg_X12_352 (pc := 74) C rfl (by exact m_z hm rfl) (c_X12_reckons _ _ S hm r (b1 c) (n1 c) hr (by omega) sg (fun i hi => ⟨(hsg i (by omega)).1, (hsg i (by omega)).2.1⟩) (fun i hi => (hsg i (by omega)).2.2) (sv c) v1 B t) ⟨rfl, rfl⟩ ⟨Nat.zero_le _, Nat.zero_le _⟩ rfl (Nat.le_of_ble_eq_true rfl) dX12_summedBy_74 ?_
        rintro _ _ ⟨B', rfl, rfl⟩
        exact g_lreturn (pc := 77) C ⟨rfl, rfl⟩ dX12_summedBy_77 ⟨B', nI 0, by rw [he], rfl⟩
      refine g_iload_n (pc := 2) C dX12_summedBy_2 rfl ?_
      refine g_aload_n (pc := 3) C dX12_summedBy_3 rfl ?_
      refine mg_23 (pc := 4) C (by exact hm) dX12_summedBy_4 ?_
      refine g_iload_n (pc := 7) C dX12_summedBy_7 rfl ?_
      refine n_iald (pc := 8) (k := 1005) (n := 6) C rfl rfl (by exact m_z hm rfl) isn_v rfl (by omega) dX12_summedBy_8 ?_
      refine gx_ti hc ?_
      refine g_icmp_ge (pc := 9) C 84 dX12_summedBy_9 rfl (fun h => ?_) (fun h => ?_)
      · exact absurd h (nI_ge (by omega) (by omega))
      · refine g_bipush (pc := 12) (v := nI 48) C dX12_summedBy_12 (by decide) ?_
        refine g_iload_n (pc := 14) C dX12_summedBy_14 rfl ?_
        refine g_imul (pc := 15) C dX12_summedBy_15 ?_
        refine g_iconst (pc := 16) (v := nI 4) C dX12_summedBy_16 (by decide) ?_
        refine g_iload_n (pc := 17) C dX12_summedBy_17 rfl ?_
        refine g_imul (pc := 18) C dX12_summedBy_18 ?_
        refine g_iadd (pc := 19) C dX12_summedBy_19 ?_
        refine gx_ti (y := nI (48 * r + 4 * c)) (isn_add (isn_mul isn_v isn_v) (isn_mul isn_v isn_v)) ?_
        refine g_istore_n (pc := 20) (L' := [_, _, some (.int _), _]) C dX12_summedBy_20 rfl rfl ?_
        refine g_aload_n (pc := 21) C dX12_summedBy_21 rfl ?_
        refine mg_20 (pc := 22) C (by exact hm) dX12_summedBy_22 ?_
        refine g_iload_n (pc := 25) C dX12_summedBy_25 rfl ?_
        refine g_iconst (pc := 26) (v := nI 2) C dX12_summedBy_26 (by decide) ?_
        refine g_iadd (pc := 27) C dX12_summedBy_27 ?_
        refine n_iald (pc := 28) (k := 1004) (n := 288) C rfl rfl (by exact m_z hm rfl) (isn_add isn_v isn_v) rfl (by omega) dX12_summedBy_28 ?_
        cases hT : hasT c with
        | false =>
          have e2 : tv c = none := v2 hT
          refine gx_ti (q4 hT) ?_
          refine g_if_lt (pc := 29) C 58 dX12_summedBy_29 rfl (fun h2 => ?_) (fun h2 => ?_)
          · exact sums B t (by rw [← hres]; simp only [clF, e2])
          · exact absurd (by decide) h2
        | true =>
          obtain ⟨p1, p2, p3⟩ := q5 hT
          obtain ⟨tt, e1, e2⟩ := v3 hT
          refine gx_ti p2 ?_
          refine g_if_lt (pc := 29) C 58 dX12_summedBy_29 rfl (fun h2 => ?_) (fun h2 => ?_)
          · exact absurd h2 (nI_pos (by omega))
          · refine g_aload_n (pc := 32) C dX12_summedBy_32 rfl ?_
            refine g_iload_n (pc := 33) C dX12_summedBy_33 rfl ?_
            refine g_aload_n (pc := 34) C dX12_summedBy_34 rfl ?_
            refine mg_20 (pc := 35) C (by exact hm) dX12_summedBy_35 ?_
            refine g_iload_n (pc := 38) C dX12_summedBy_38 rfl ?_
            refine g_iconst (pc := 39) (v := nI 2) C dX12_summedBy_39 (by decide) ?_
            refine g_iadd (pc := 40) C dX12_summedBy_40 ?_
            refine n_iald (pc := 41) (k := 1004) (n := 288) C rfl rfl (by exact m_z hm rfl) (isn_add isn_v isn_v) rfl (by omega) dX12_summedBy_41 ?_
            refine gx_ti p2 ?_
            refine g_aload_n (pc := 42) C dX12_summedBy_42 rfl ?_
            refine mg_20 (pc := 43) C (by exact hm) dX12_summedBy_43 ?_
            refine g_iload_n (pc := 46) C dX12_summedBy_46 rfl ?_
            refine g_iconst (pc := 47) (v := nI 3) C dX12_summedBy_47 (by decide) ?_
            refine g_iadd (pc := 48) C dX12_summedBy_48 ?_
            refine n_iald (pc := 49) (k := 1004) (n := 288) C rfl rfl (by exact m_z hm rfl) (isn_add isn_v isn_v) rfl (by omega) dX12_summedBy_49 ?_
            refine gx_ti p3 ?_
            refine cg_X12_352 (pc := 50) C rfl (by exact m_z hm rfl) (c_X12_reckons _ _ S hm r (b2 c) (n2 c) hr (by omega) sg (fun i hi => ⟨(hsg i (by omega)).1, (hsg i (by omega)).2.1⟩) (fun i hi => (hsg i (by omega)).2.2) tt e2 B t) ⟨rfl, rfl⟩ ⟨Nat.zero_le _, Nat.zero_le _⟩ rfl (Nat.le_of_ble_eq_true rfl) dX12_summedBy_50 ?_
            rintro _ _ ⟨B', rfl, rfl⟩
            refine g_lconst (pc := 53) (v := 1) C dX12_summedBy_53 (by decide) ?_
            refine g_lcmp (pc := 54) C dX12_summedBy_54 ?_
            refine g_if_ne (pc := 55) C 78 dX12_summedBy_55 rfl (fun h3 => ?_) (fun h3 => ?_)
            · have h3 : ¬ tt = 1 := fun q => h3 (lg_0.mpr q)
              refine g_iinc (pc := 78) (L' := [_, some (.int _), _, _]) C dX12_summedBy_78 rfl (nI_1 _) rfl ?_
              refine g_goto (pc := 81) C 2 dX12_summedBy_81 rfl ?_
              exact ih (c + 1) B' _ _ (by omega) (by rw [← hres]; simp only [clF, e1]; rw [if_neg h3])
            · have h3 : tt = 1 := lg_0.mp (Decidable.not_not.mp h3)
              exact sums B' (nI 0) (by rw [← hres]; simp only [clF, e1]; rw [if_pos h3])
  exact loop nc 0 B t _ (by omega) hF.symm
/-- the words of a rule -/
def wdF (drawn : Int32) (said : Nat → Int32) (P H p s : Nat) : Nat → Int64 := fun i =>
  if i = 0 then (nI p).toInt64 else if i = 1 then (said (14 + p)).toInt64 else if i = 2 then (said (28 + p)).toInt64 else if i = 3 then (said (35 + p)).toInt64 else if i = 4 then (said 11).toInt64 else if i = 5 then (said 10).toInt64
  else if i = 6 then (weightF said P (fogF drawn said H) s False).toInt64 else if i = 7 then (said 1 - weightF said P (fogF drawn said H) s False).toInt64 else if i = 8 then (nI (popN s)).toInt64 else if i = 9 then (nI (popN (onN said (said 11) P - (onN said (said 11) P &&& s)))).toInt64
  else if i = 10 then (weightF said P (fogF drawn said H) (s ||| 2 ^ p) False - weightF said P (fogF drawn said H) s False).toInt64 else (if fogF drawn said H then 1 else 0)
/-- which rule is in force: none, or what it reckons -/
def frW (S : St) (fr : Option ((Nat → Int64) → Int64)) : Prop := match fr with
  | none => s_I S 1121 1000 = -1
  | some F => ∃ r, r < 6 ∧ s_I S 1121 1000 = nI r ∧ ruleW S r F
def sumF (fr : Option ((Nat → Int64) → Int64)) (drawn : Int32) (said : Nat → Int32) (P H p s : Nat) : Int64 := match fr with
  | none => if said 11 = 0 then 1 else 0
  | some F => F (wdF drawn said P H p s)
/-- what trips leave behind of rows that are of no further use -/
def scw (S : St) (B W : Nat → Int64) (t : Int32) : St := scr (s_setB S 1009 W) B t
theorem s_BB (S : St) (k : Nat) (f g : Nat → Int64) : s_setB (s_setB S k f) k g = s_setB S k g := by
  have : u1 (u1 (s_B S) k f) k g = u1 (s_B S) k g := by
    funext j; unfold u1; split <;> rfl
  show (_, _, _, _, _, _, _, u1 (u1 (s_B S) k f) k g, _) = _
  rw [this]; rfl
theorem scw_W (S : St) (B W W2 : Nat → Int64) (t : Int32) : s_setB (scw S B W t) 1009 W2 = scw S B W2 t := by
  have : u1 (u1 (u1 (s_B S) 1009 W) 1008 B) 1009 W2 = u1 (u1 (s_B S) 1009 W2) 1008 B := by
    funext j; unfold u1
    by_cases e : j = 1009
    · subst e; simp
    · simp [e]
  show (_, _, _, _, _, _, _, u1 (u1 (u1 (s_B S) 1009 W) 1008 B) 1009 W2, _) = _
  rw [this]; rfl
