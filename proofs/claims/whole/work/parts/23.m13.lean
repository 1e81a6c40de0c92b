/-! ===== the reference: acts ===== -/
def shU (was : Nat → Int32) (u : Nat) : Nat → Int32 := if u = 20 then va_cpy was was 18 0 342 else was
def nU (u : Nat) : Nat := if u = 20 then 19 else u
/-- an act is kept: how it was ahead of it -/
def keepU (S : St) (u : Nat) : St := s_setI (s_setA S 1011 (va_cpy (s_A S 1010) (shU (s_A S 1011) u) 10 (18 * nU u) 18)) 1125 1000 (nI (nU u + 1))
theorem s_AI (S : St) (k f j : Nat) (g : Nat → Int32) (v : Int32) : s_setA (s_setI S f j v) k g = s_setI (s_setA S k g) f j v := rfl
theorem s_II (S : St) (f j : Nat) (v v2 : Int32) : s_setI (s_setI S f j v) f j v2 = s_setI S f j v2 := by
  have h2 : u2 (u2 (s_I S) f j v) f j v2 = u2 (s_I S) f j v2 := by
    funext g i; unfold u2; split
    · split <;> rfl
    · rfl
  show (_, _, _, _, u2 (u2 (s_I S) f j v) f j v2, _, _, _, _) = _
  rw [h2]; rfl
theorem s_I_id (S : St) (f j : Nat) : s_setI S f j (s_I S f j) = S := by
  have : u2 (s_I S) f j (s_I S f j) = s_I S := by
    funext g i; unfold u2; split
    · split
      · rename_i h1 h2; rw [h1, h2]
      · rfl
    · rfl
  show (_, _, _, _, u2 (s_I S) f j (s_I S f j), _, _, _, _) = _
  rw [this]; rfl
theorem c_X12_keepsAct (w : Wd) (l : Launch) (S : St) (hm : gx_m S) (u : Nat) (hu : s_I S 1125 1000 = nI u) (hu2 : u ≤ 20) : gx_M w l yX12_keepsAct cX12_keepsAct 2 none rmX12_keepsAct [.ref (ad (w_b w) 1000)] S (pV (keepU S u)) := by
  refine gx_start rfl 1 rfl (Nat.le_of_ble_eq_true rfl) ?_
  intro X C _ hl
  subst hl
  refine gx_L (L' := [_, _]) rfl ?_
  refine g_aload_n (pc := 0) C dX12_keepsAct_0 rfl ?_
  refine mg_279 (pc := 1) C (by exact hm) dX12_keepsAct_1 ?_
  refine gx_ti hu ?_
  refine g_bipush (pc := 4) (v := nI 20) C dX12_keepsAct_4 (by decide) ?_
  have tail : ∀ (g : Nat → Int32) (v : Nat) (z : Option Value), v ≤ 19 → g = shU (s_A S 1011) u → v = nU u → gx_G w X (s_setI (s_setA S 1011 g) 1125 1000 (nI v)) 0 0 50 [some (.ref (ad (w_b w) 1000)), z] [] (gx_E w X (pV (keepU S u))) := by
    intro g v z hv hg hvu
    refine g_iconst (pc := 50) (v := nI 0) C dX12_keepsAct_50 (by decide) ?_
    refine g_istore_n (pc := 51) (L' := [some (.ref _), _]) C dX12_keepsAct_51 rfl rfl ?_
    have loop : ∀ k n, n + k = 18 → gx_G w X (s_setI (s_setA S 1011 (va_cpy (s_A S 1010) g 10 (18 * v) n)) 1125 1000 (nI v)) 0 0 52 [some (.ref (ad (w_b w) 1000)), some (.int (nI n))] [] (gx_E w X (pV (keepU S u))) := by
      intro k
      induction k with
      | zero =>
        intro n hn
        have hn : n = 18 := hn
        subst hn
        refine g_iload_n (pc := 52) C dX12_keepsAct_52 rfl ?_
        refine g_bipush (pc := 53) (v := nI 18) C dX12_keepsAct_53 (by decide) ?_
        refine g_icmp_ge (pc := 55) C 87 dX12_keepsAct_55 rfl (fun h => ?_) (fun h => ?_)
        · refine g_aload_n (pc := 87) C dX12_keepsAct_87 rfl ?_
          refine g_dup (pc := 88) C dX12_keepsAct_88 rfl ?_
          refine mg_279 (pc := 89) C (by exact hm) dX12_keepsAct_89 ?_
          refine g_iconst (pc := 92) (v := nI 1) C dX12_keepsAct_92 (by decide) ?_
          refine g_iadd (pc := 93) C dX12_keepsAct_93 ?_
          refine gx_ti (nI_add v 1) ?_
          refine mp_279 (pc := 94) C (by exact hm) dX12_keepsAct_94 ?_
          exact g_return (pc := 97) C ⟨rfl, rfl⟩ dX12_keepsAct_97 ⟨rfl, by rw [s_II]; unfold keepU; rw [← hg, ← hvu]⟩
        · exact absurd (nI_le (Nat.le_refl 18) (by omega)) h
      | succ k ih =>
        intro n hn
        refine g_iload_n (pc := 52) C dX12_keepsAct_52 rfl ?_
        refine g_bipush (pc := 53) (v := nI 18) C dX12_keepsAct_53 (by decide) ?_
        refine g_icmp_ge (pc := 55) C 87 dX12_keepsAct_55 rfl (fun h => ?_) (fun h => ?_)
        · exact absurd h (nI_ge (by omega) (by omega))
        · refine g_aload_n (pc := 58) C dX12_keepsAct_58 rfl ?_
          refine mg_46 (pc := 59) C (by exact hm) dX12_keepsAct_59 ?_
          refine g_bipush (pc := 62) (v := nI 18) C dX12_keepsAct_62 (by decide) ?_
          refine g_aload_n (pc := 64) C dX12_keepsAct_64 rfl ?_
          refine mg_279 (pc := 65) C (by exact hm) dX12_keepsAct_65 ?_
          refine g_imul (pc := 68) C dX12_keepsAct_68 ?_
          refine g_iload_n (pc := 69) C dX12_keepsAct_69 rfl ?_
          refine g_iadd (pc := 70) C dX12_keepsAct_70 ?_
          refine g_aload_n (pc := 71) C dX12_keepsAct_71 rfl ?_
          refine mg_39 (pc := 72) C (by exact hm) dX12_keepsAct_72 ?_
          refine g_bipush (pc := 75) (v := nI 10) C dX12_keepsAct_75 (by decide) ?_
          refine g_iload_n (pc := 77) C dX12_keepsAct_77 rfl ?_
          refine g_iadd (pc := 78) C dX12_keepsAct_78 ?_
          refine n_iald (pc := 79) (k := 1010) (n := 190) C rfl rfl (by exact m_z hm rfl) (isn_add isn_v isn_v) rfl (by omega) dX12_keepsAct_79 ?_
          refine n_iast (pc := 80) (k := 1011) (n := 360) C rfl rfl (by exact m_z hm rfl) (isn_add (isn_mul isn_v isn_v) isn_v) rfl (by omega) dX12_keepsAct_80 ?_
          refine gx_S (S' := s_setI (s_setA S 1011 (va_cpy (s_A S 1010) g 10 (18 * v) (n + 1))) 1125 1000 (nI v)) ?_ ?_
          · rw [s_AI, s_AA]
            exact congrArg (fun q => s_setI (s_setA S 1011 q) 1125 1000 (nI v)) cpy_step
          · refine g_iinc (pc := 81) (L' := [some (.ref _), _]) C dX12_keepsAct_81 rfl (nI_1 _) rfl ?_
            refine g_goto (pc := 84) C 52 dX12_keepsAct_84 rfl ?_
            exact ih (n + 1) (by omega)
    refine gx_S ?_ (loop 18 0 rfl)
    rw [cpy_0]
  refine g_icmp_ne (pc := 6) C 50 dX12_keepsAct_6 rfl (fun h => ?_) (fun h => ?_)
  · have hne : ¬ u = 20 := fun q => h (by rw [q])
    refine gx_S ?_ (tail (s_A S 1011) u _ (by omega) (by unfold shU; rw [if_neg hne]) (by unfold nU; rw [if_neg hne]))
    rw [s_A_id, ← hu, s_I_id]
  · have he : u = 20 := (nI_eq (by omega) (by omega)).mp (Decidable.not_not.mp h)
    refine g_bipush (pc := 9) (v := nI 18) C dX12_keepsAct_9 (by decide) ?_
    refine g_istore_n (pc := 11) (L' := [some (.ref _), _]) C dX12_keepsAct_11 rfl rfl ?_
    have loop : ∀ k n, n + k = 342 → gx_G w X (s_setA S 1011 (va_cpy (s_A S 1011) (s_A S 1011) 18 0 n)) 0 0 12 [some (.ref (ad (w_b w) 1000)), some (.int (nI (18 + n)))] [] (gx_E w X (pV (keepU S u))) := by
      intro k
      induction k with
      | zero =>
        intro n hn
        have hn : n = 342 := hn
        subst hn
        refine g_iload_n (pc := 12) C dX12_keepsAct_12 rfl ?_
        refine g_sipush (pc := 13) (v := nI 360) C dX12_keepsAct_13 (by decide) ?_
        refine g_icmp_ge (pc := 16) C 40 dX12_keepsAct_16 rfl (fun h => ?_) (fun h => ?_)
        · refine g_aload_n (pc := 40) C dX12_keepsAct_40 rfl ?_
          refine g_dup (pc := 41) C dX12_keepsAct_41 rfl ?_
          refine mg_279 (pc := 42) C (by exact hm) dX12_keepsAct_42 ?_
          refine g_iconst (pc := 45) (v := nI 1) C dX12_keepsAct_45 (by decide) ?_
          refine g_isub (pc := 46) C dX12_keepsAct_46 ?_
          refine gx_ti (y := nI 19) (by show s_I S 1125 1000 - nI 1 = nI 19; rw [hu, he]; rfl) ?_
          refine mp_279 (pc := 47) C (by exact hm) dX12_keepsAct_47 ?_
          exact tail _ 19 _ (by omega) (by unfold shU; rw [if_pos he]) (by unfold nU; rw [if_pos he])
        · exact absurd (nI_le (Nat.le_refl 360) (by omega)) h
      | succ k ih =>
        intro n hn
        refine g_iload_n (pc := 12) C dX12_keepsAct_12 rfl ?_
        refine g_sipush (pc := 13) (v := nI 360) C dX12_keepsAct_13 (by decide) ?_
        refine g_icmp_ge (pc := 16) C 40 dX12_keepsAct_16 rfl (fun h => ?_) (fun h => ?_)
        · exact absurd h (nI_ge (by omega) (by omega))
        · refine g_aload_n (pc := 19) C dX12_keepsAct_19 rfl ?_
          refine mg_46 (pc := 20) C (by exact hm) dX12_keepsAct_20 ?_
          refine g_iload_n (pc := 23) C dX12_keepsAct_23 rfl ?_
          refine g_bipush (pc := 24) (v := nI 18) C dX12_keepsAct_24 (by decide) ?_
          refine g_isub (pc := 26) C dX12_keepsAct_26 ?_
          refine g_aload_n (pc := 27) C dX12_keepsAct_27 rfl ?_
          refine mg_46 (pc := 28) C (by exact hm) dX12_keepsAct_28 ?_
          refine g_iload_n (pc := 31) C dX12_keepsAct_31 rfl ?_
          refine n_iald (pc := 32) (k := 1011) (n := 360) C rfl rfl (by exact m_z hm rfl) isn_v rfl (by omega) dX12_keepsAct_32 ?_
          refine n_iast (pc := 33) (k := 1011) (n := 360) C rfl rfl (by exact m_z hm rfl) (isn_sub isn_v isn_v (by omega)) rfl (by omega) dX12_keepsAct_33 ?_
          refine gx_S (S' := s_setA S 1011 (va_cpy (s_A S 1011) (s_A S 1011) 18 0 (n + 1))) ?_ ?_
          · rw [s_AA]
            refine congrArg _ ?_
            have e := cpy_step (f := s_A S 1011) (g := s_A S 1011) (sp := 18) (dp := 0) (n := n)
            rw [Nat.zero_add] at e
            rw [← e]
            have e2 : 18 + n - 18 = n := by omega
            rw [e2]
            refine congrArg (upd _ n) ?_
            show va_cpy (s_A S 1011) (s_A S 1011) 18 0 n (18 + n) = s_A S 1011 (18 + n)
            simp only [va_cpy]
            rw [if_neg (by omega)]
          · refine g_iinc (pc := 34) (L' := [some (.ref _), _]) C dX12_keepsAct_34 rfl (nI_1 _) rfl ?_
            refine g_goto (pc := 37) C 12 dX12_keepsAct_37 rfl ?_
            exact ih (n + 1) (by omega)
    refine gx_S ?_ (loop 342 0 rfl)
    rw [cpy_0, s_A_id]
def undoS (S : St) (u : Nat) : St := s_setI (s_setA S 1010 (va_cpy (s_A S 1011) (s_A S 1010) (18 * (u - 1)) 10 18)) 1125 1000 (nI (u - 1))
theorem c_X12_undo (w : Wd) (l : Launch) (S : St) (hm : gx_m S) (u : Nat) (hu : s_I S 1125 1000 = nI u) (hu2 : u ≤ 20) : gx_M w l yX12_undo cX12_undo 2 (some .int) rmX12_undo [.ref (ad (w_b w) 1000)] S (pI (if u = 0 then -1 else nI (u - 1)) (if u = 0 then S else undoS S u)) := by
  refine gx_start rfl 1 rfl (Nat.le_of_ble_eq_true rfl) ?_
  intro X C _ hl
  subst hl
  refine gx_L (L' := [_, _]) rfl ?_
  refine g_aload_n (pc := 0) C dX12_undo_0 rfl ?_
  refine mg_279 (pc := 1) C (by exact hm) dX12_undo_1 ?_
  refine gx_ti hu ?_
  refine g_if_ne (pc := 4) C 9 dX12_undo_4 rfl (fun h => ?_) (fun h => ?_)
  · have hne : ¬ u = 0 := fun q => h (by rw [q]; rfl)
    obtain ⟨v, rfl⟩ : ∃ v, u = v + 1 := ⟨u - 1, by omega⟩
    rw [if_neg hne, if_neg hne]
    refine g_aload_n (pc := 9) C dX12_undo_9 rfl ?_
    refine g_dup (pc := 10) C dX12_undo_10 rfl ?_
    refine mg_279 (pc := 11) C (by exact hm) dX12_undo_11 ?_
    refine g_iconst (pc := 14) (v := nI 1) C dX12_undo_14 (by decide) ?_
    refine g_isub (pc := 15) C dX12_undo_15 ?_
    refine gx_ti (y := nI v) (by show s_I S 1125 1000 - nI 1 = nI v; rw [hu]; exact nI_pred v) ?_
    refine mp_279 (pc := 16) C (by exact hm) dX12_undo_16 ?_
    refine g_iconst (pc := 19) (v := nI 0) C dX12_undo_19 (by decide) ?_
    refine g_istore_n (pc := 20) (L' := [some (.ref _), _]) C dX12_undo_20 rfl rfl ?_
    have loop : ∀ k n, n + k = 18 → gx_G w X (s_setI (s_setA S 1010 (va_cpy (s_A S 1011) (s_A S 1010) (18 * v) 10 n)) 1125 1000 (nI v)) 0 0 21 [some (.ref (ad (w_b w) 1000)), some (.int (nI n))] [] (gx_E w X (pI (nI (v + 1 - 1)) (undoS S (v + 1)))) := by
      intro k
      induction k with
      | zero =>
        intro n hn
        have hn : n = 18 := hn
        subst hn
        refine g_iload_n (pc := 21) C dX12_undo_21 rfl ?_
        refine g_bipush (pc := 22) (v := nI 18) C dX12_undo_22 (by decide) ?_
        refine g_icmp_ge (pc := 24) C 56 dX12_undo_24 rfl (fun h => ?_) (fun h => ?_)
        · refine g_aload_n (pc := 56) C dX12_undo_56 rfl ?_
          refine mg_279 (pc := 57) C (by exact hm) dX12_undo_57 ?_
          exact g_ireturn (pc := 60) C ⟨rfl, rfl⟩ dX12_undo_60 ⟨rfl, rfl⟩
        · exact absurd (nI_le (Nat.le_refl 18) (by omega)) h
      | succ k ih =>
        intro n hn
        refine g_iload_n (pc := 21) C dX12_undo_21 rfl ?_
        refine g_bipush (pc := 22) (v := nI 18) C dX12_undo_22 (by decide) ?_
        refine g_icmp_ge (pc := 24) C 56 dX12_undo_24 rfl (fun h => ?_) (fun h => ?_)
        · exact absurd h (nI_ge (by omega) (by omega))
        · refine g_aload_n (pc := 27) C dX12_undo_27 rfl ?_
          refine mg_39 (pc := 28) C (by exact hm) dX12_undo_28 ?_
          refine g_bipush (pc := 31) (v := nI 10) C dX12_undo_31 (by decide) ?_
          refine g_iload_n (pc := 33) C dX12_undo_33 rfl ?_
          refine g_iadd (pc := 34) C dX12_undo_34 ?_
          refine g_aload_n (pc := 35) C dX12_undo_35 rfl ?_
          refine mg_46 (pc := 36) C (by exact hm) dX12_undo_36 ?_
          refine g_bipush (pc := 39) (v := nI 18) C dX12_undo_39 (by decide) ?_
          refine g_aload_n (pc := 41) C dX12_undo_41 rfl ?_
          refine mg_279 (pc := 42) C (by exact hm) dX12_undo_42 ?_
          refine g_imul (pc := 45) C dX12_undo_45 ?_
          refine g_iload_n (pc := 46) C dX12_undo_46 rfl ?_
          refine g_iadd (pc := 47) C dX12_undo_47 ?_
          refine n_iald (pc := 48) (k := 1011) (n := 360) C rfl rfl (by exact m_z hm rfl) (isn_add (isn_mul isn_v isn_v) isn_v) rfl (by omega) dX12_undo_48 ?_
          refine n_iast (pc := 49) (k := 1010) (n := 190) C rfl rfl (by exact m_z hm rfl) (isn_add isn_v isn_v) rfl (by omega) dX12_undo_49 ?_
          refine gx_S (S' := s_setI (s_setA S 1010 (va_cpy (s_A S 1011) (s_A S 1010) (18 * v) 10 (n + 1))) 1125 1000 (nI v)) ?_ ?_
          · rw [s_AI, s_AA]
            exact congrArg (fun q => s_setI (s_setA S 1010 q) 1125 1000 (nI v)) cpy_step
          · refine g_iinc (pc := 50) (L' := [some (.ref _), _]) C dX12_undo_50 rfl (nI_1 _) rfl ?_
            refine g_goto (pc := 53) C 21 dX12_undo_53 rfl ?_
            exact ih (n + 1) (by omega)
    refine gx_S ?_ (loop 18 0 rfl)
    rw [cpy_0, s_A_id]
  · have h0 : u = 0 := (nI_eq (b := 0) (by omega) (by omega)).mp (Decidable.not_not.mp h)
    refine g_iconst (pc := 7) (v := -1) C dX12_undo_7 (by decide) ?_
    exact g_ireturn (pc := 8) C ⟨rfl, rfl⟩ dX12_undo_8 (⟨by rw [if_pos h0], by rw [if_pos h0]⟩)
