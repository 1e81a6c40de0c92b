/-! ===== the reference: rows copied, a crossing ===== -/
theorem s_AA (S : St) (k : Nat) (f g : Nat → Int32) : s_setA (s_setA S k f) k g = s_setA S k g := by
  have : u1 (u1 (s_A S) k f) k g = u1 (s_A S) k g := by
    funext j; unfold u1; split <;> rfl
  show (_, _, _, _, _, _, u1 (u1 (s_A S) k f) k g, _, _) = _
  rw [this]; rfl
theorem s_A_id (S : St) (k : Nat) : s_setA S k (s_A S k) = S := by
  have : u1 (s_A S) k (s_A S k) = s_A S := by
    funext j; unfold u1; split
    · rename_i h; rw [h]
    · rfl
  show (_, _, _, _, _, _, u1 (s_A S) k (s_A S k), _, _) = _
  rw [this]; rfl
theorem cpy_step {f g : Nat → Int32} {sp dp n : Nat} : upd (va_cpy f g sp dp n) (dp + n) (f (sp + n)) = va_cpy f g sp dp (n + 1) := by
  funext j
  simp only [upd, va_cpy]
  by_cases e : j = dp + n
  · subst e
    rw [if_pos rfl, if_pos ⟨by omega, by omega⟩]
    congr 1; omega
  · rw [if_neg e]
    by_cases h : dp ≤ j ∧ j < dp + n
    · rw [if_pos h, if_pos ⟨h.1, by omega⟩]
    · rw [if_neg h, if_neg (by omega)]
theorem cpy_0 {f g : Nat → Int32} {sp dp : Nat} : va_cpy f g sp dp 0 = g := by
  funext j
  simp only [va_cpy]
  rw [if_neg (by omega)]
def keepS (S : St) : St := s_setA S 1012 (va_cpy (s_A S 1010) (s_A S 1012) 10 0 18)
def layS (S : St) : St := s_setA S 1010 (va_cpy (s_A S 1012) (s_A S 1010) 0 10 18)
theorem c_X12_keeps (w : Wd) (l : Launch) (S : St) (hm : gx_m S) : gx_M w l yX12_keeps cX12_keeps 2 none rmX12_keeps [.ref (ad (w_b w) 1000)] S (pV (keepS S)) := by
  refine gx_start rfl 1 rfl (Nat.le_of_ble_eq_true rfl) ?_
  intro X C _ hl
  subst hl
  refine gx_L (L' := [_, _]) rfl ?_
  refine g_iconst (pc := 0) (v := nI 0) C dX12_keeps_0 (by decide) ?_
  refine g_istore_n (pc := 1) (L' := [some (.ref _), _]) C dX12_keeps_1 rfl rfl ?_
  have loop : ∀ k n, n + k = 18 → gx_G w X (s_setA S 1012 (va_cpy (s_A S 1010) (s_A S 1012) 10 0 n)) 0 0 2 [some (.ref (ad (w_b w) 1000)), some (.int (nI n))] [] (gx_E w X (pV (keepS S))) := by
    intro k
    induction k with
    | zero =>
      intro n hn
      have hn : n = 18 := hn
      subst hn
      refine g_iload_n (pc := 2) C dX12_keeps_2 rfl ?_
      refine g_bipush (pc := 3) (v := nI 18) C dX12_keeps_3 (by decide) ?_
      refine g_icmp_ge (pc := 5) C 29 dX12_keeps_5 rfl (fun h => ?_) (fun h => ?_)
      · exact g_return (pc := 29) C ⟨rfl, rfl⟩ dX12_keeps_29 ⟨rfl, rfl⟩
      · exact absurd (nI_le (Nat.le_refl 18) (by omega)) h
    | succ k ih =>
      intro n hn
      refine g_iload_n (pc := 2) C dX12_keeps_2 rfl ?_
      refine g_bipush (pc := 3) (v := nI 18) C dX12_keeps_3 (by decide) ?_
      refine g_icmp_ge (pc := 5) C 29 dX12_keeps_5 rfl (fun h => ?_) (fun h => ?_)
      · exact absurd h (nI_ge (by omega) (by omega))
      · refine g_aload_n (pc := 8) C dX12_keeps_8 rfl ?_
        refine mg_49 (pc := 9) C (by exact hm) dX12_keeps_9 ?_
        refine g_iload_n (pc := 12) C dX12_keeps_12 rfl ?_
        refine g_aload_n (pc := 13) C dX12_keeps_13 rfl ?_
        refine mg_39 (pc := 14) C (by exact hm) dX12_keeps_14 ?_
        refine g_bipush (pc := 17) (v := nI 10) C dX12_keeps_17 (by decide) ?_
        refine g_iload_n (pc := 19) C dX12_keeps_19 rfl ?_
        refine g_iadd (pc := 20) C dX12_keeps_20 ?_
        refine n_iald (pc := 21) (k := 1010) (n := 190) C rfl rfl (by exact m_z hm rfl) (isn_add isn_v isn_v) rfl (by omega) dX12_keeps_21 ?_
        refine n_iast (pc := 22) (k := 1012) (n := 18) C rfl rfl (by exact m_z hm rfl) isn_v rfl (by omega) dX12_keeps_22 ?_
        refine gx_S (S' := s_setA S 1012 (va_cpy (s_A S 1010) (s_A S 1012) 10 0 (n + 1))) ?_ ?_
        · rw [s_AA]
          refine congrArg _ ?_
          have := cpy_step (f := s_A S 1010) (g := s_A S 1012) (sp := 10) (dp := 0) (n := n)
          rw [Nat.zero_add] at this
          exact this
        · refine g_iinc (pc := 23) (L' := [some (.ref _), _]) C dX12_keeps_23 rfl (nI_1 _) rfl ?_
          refine g_goto (pc := 26) C 2 dX12_keeps_26 rfl ?_
          exact ih (n + 1) (by omega)
  refine gx_S ?_ (loop 18 0 rfl)
  rw [cpy_0, s_A_id]
theorem c_X12_laysBack (w : Wd) (l : Launch) (S : St) (hm : gx_m S) : gx_M w l yX12_laysBack cX12_laysBack 2 none rmX12_laysBack [.ref (ad (w_b w) 1000)] S (pV (layS S)) := by
  refine gx_start rfl 1 rfl (Nat.le_of_ble_eq_true rfl) ?_
  intro X C _ hl
  subst hl
  refine gx_L (L' := [_, _]) rfl ?_
  refine g_iconst (pc := 0) (v := nI 0) C dX12_laysBack_0 (by decide) ?_
  refine g_istore_n (pc := 1) (L' := [some (.ref _), _]) C dX12_laysBack_1 rfl rfl ?_
  have loop : ∀ k n, n + k = 18 → gx_G w X (s_setA S 1010 (va_cpy (s_A S 1012) (s_A S 1010) 0 10 n)) 0 0 2 [some (.ref (ad (w_b w) 1000)), some (.int (nI n))] [] (gx_E w X (pV (layS S))) := by
    intro k
    induction k with
    | zero =>
      intro n hn
      have hn : n = 18 := hn
      subst hn
      refine g_iload_n (pc := 2) C dX12_laysBack_2 rfl ?_
      refine g_bipush (pc := 3) (v := nI 18) C dX12_laysBack_3 (by decide) ?_
      refine g_icmp_ge (pc := 5) C 29 dX12_laysBack_5 rfl (fun h => ?_) (fun h => ?_)
      · exact g_return (pc := 29) C ⟨rfl, rfl⟩ dX12_laysBack_29 ⟨rfl, rfl⟩
      · exact absurd (nI_le (Nat.le_refl 18) (by omega)) h
    | succ k ih =>
      intro n hn
      refine g_iload_n (pc := 2) C dX12_laysBack_2 rfl ?_
      refine g_bipush (pc := 3) (v := nI 18) C dX12_laysBack_3 (by decide) ?_
      refine g_icmp_ge (pc := 5) C 29 dX12_laysBack_5 rfl (fun h => ?_) (fun h => ?_)
      · exact absurd h (nI_ge (by omega) (by omega))
      · refine g_aload_n (pc := 8) C dX12_laysBack_8 rfl ?_
        refine mg_39 (pc := 9) C (by exact hm) dX12_laysBack_9 ?_
        refine g_bipush (pc := 12) (v := nI 10) C dX12_laysBack_12 (by decide) ?_
        refine g_iload_n (pc := 14) C dX12_laysBack_14 rfl ?_
        refine g_iadd (pc := 15) C dX12_laysBack_15 ?_
        refine g_aload_n (pc := 16) C dX12_laysBack_16 rfl ?_
        refine mg_49 (pc := 17) C (by exact hm) dX12_laysBack_17 ?_
        refine g_iload_n (pc := 20) C dX12_laysBack_20 rfl ?_
        refine n_iald (pc := 21) (k := 1012) (n := 18) C rfl rfl (by exact m_z hm rfl) isn_v rfl (by omega) dX12_laysBack_21 ?_
        refine n_iast (pc := 22) (k := 1010) (n := 190) C rfl rfl (by exact m_z hm rfl) (isn_add isn_v isn_v) rfl (by omega) dX12_laysBack_22 ?_
        refine gx_S (S' := s_setA S 1010 (va_cpy (s_A S 1012) (s_A S 1010) 0 10 (n + 1))) ?_ ?_
        · rw [s_AA]
          refine congrArg _ ?_
          have := cpy_step (f := s_A S 1012) (g := s_A S 1010) (sp := 0) (dp := 10) (n := n)
          rw [Nat.zero_add] at this
          exact this
        · refine g_iinc (pc := 23) (L' := [some (.ref _), _]) C dX12_laysBack_23 rfl (nI_1 _) rfl ?_
          refine g_goto (pc := 26) C 2 dX12_laysBack_26 rfl ?_
          exact ih (n + 1) (by omega)
  refine gx_S ?_ (loop 18 0 rfl)
  rw [cpy_0, s_A_id]
/-- 'begins': the first n of the numbers from 10 on are 0 -/
def begA (said : Nat → Int32) (n : Nat) : Nat → Int32 := fun j => if 10 ≤ j ∧ j < 10 + n then nI 0 else said j
def begB (said : Nat → Int32) (n : Nat) : Nat → Int32 := fun j => if 14 ≤ j ∧ j < 14 + n then said (42 + (j - 14)) else if 21 ≤ j ∧ j < 21 + n then nI 0 else said j
def begF (said : Nat → Int32) : Nat → Int32 := begB (begA said 4) 7
theorem begA_step {said : Nat → Int32} {n : Nat} : upd (begA said n) (10 + n) (nI 0) = begA said (n + 1) := by
  funext j; simp only [upd, begA]
  by_cases e : j = 10 + n
  · subst e; rw [if_pos rfl, if_pos ⟨by omega, by omega⟩]
  · rw [if_neg e]
    by_cases h : 10 ≤ j ∧ j < 10 + n
    · rw [if_pos h, if_pos ⟨h.1, by omega⟩]
    · rw [if_neg h, if_neg (by omega)]
theorem begB_step {said : Nat → Int32} {n : Nat} (hn : n < 7) : upd (upd (begB said n) (14 + n) (begB said n (42 + n))) (21 + n) (nI 0) = begB said (n + 1) := by
  funext j; simp only [upd, begB]
  (repeat' split) <;> first | rfl | (exfalso; omega) | (congr 1; omega)
theorem c_X12_begins (w : Wd) (l : Launch) (S : St) (hm : gx_m S) : gx_M w l yX12_begins cX12_begins 2 none rmX12_begins [.ref (ad (w_b w) 1000)] S (pV (s_setA S 1010 (begF (s_A S 1010)))) := by
  refine gx_start rfl 1 rfl (Nat.le_of_ble_eq_true rfl) ?_
  intro X C _ hl
  subst hl
  refine gx_L (L' := [_, _]) rfl ?_
  refine g_bipush (pc := 0) (v := nI 10) C dX12_begins_0 (by decide) ?_
  refine g_istore_n (pc := 2) (L' := [some (.ref _), _]) C dX12_begins_2 rfl rfl ?_
  have loop2 : ∀ k n, n + k = 7 → gx_G w X (s_setA S 1010 (begB (begA (s_A S 1010) 4) n)) 0 0 24 [some (.ref (ad (w_b w) 1000)), some (.int (nI n))] [] (gx_E w X (pV (s_setA S 1010 (begF (s_A S 1010))))) := by
    intro k
    induction k with
    | zero =>
      intro n hn
      have hn : n = 7 := hn
      subst hn
      refine g_iload_n (pc := 24) C dX12_begins_24 rfl ?_
      refine g_bipush (pc := 25) (v := nI 7) C dX12_begins_25 (by decide) ?_
      refine g_icmp_ge (pc := 27) C 64 dX12_begins_27 rfl (fun h => ?_) (fun h => ?_)
      · exact g_return (pc := 64) C ⟨rfl, rfl⟩ dX12_begins_64 ⟨rfl, rfl⟩
      · exact absurd (nI_le (Nat.le_refl 7) (by omega)) h
    | succ k ih =>
      intro n hn
      refine g_iload_n (pc := 24) C dX12_begins_24 rfl ?_
      refine g_bipush (pc := 25) (v := nI 7) C dX12_begins_25 (by decide) ?_
      refine g_icmp_ge (pc := 27) C 64 dX12_begins_27 rfl (fun h => ?_) (fun h => ?_)
      · exact absurd h (nI_ge (by omega) (by omega))
      · refine g_aload_n (pc := 30) C dX12_begins_30 rfl ?_
        refine mg_39 (pc := 31) C (by exact hm) dX12_begins_31 ?_
        refine g_bipush (pc := 34) (v := nI 14) C dX12_begins_34 (by decide) ?_
        refine g_iload_n (pc := 36) C dX12_begins_36 rfl ?_
        refine g_iadd (pc := 37) C dX12_begins_37 ?_
        refine g_aload_n (pc := 38) C dX12_begins_38 rfl ?_
        refine mg_39 (pc := 39) C (by exact hm) dX12_begins_39 ?_
        refine g_bipush (pc := 42) (v := nI 42) C dX12_begins_42 (by decide) ?_
        refine g_iload_n (pc := 44) C dX12_begins_44 rfl ?_
        refine g_iadd (pc := 45) C dX12_begins_45 ?_
        refine n_iald (pc := 46) (k := 1010) (n := 190) C rfl rfl (by exact m_z hm rfl) (isn_add isn_v isn_v) rfl (by omega) dX12_begins_46 ?_
        refine n_iast (pc := 47) (k := 1010) (n := 190) C rfl rfl (by exact m_z hm rfl) (isn_add isn_v isn_v) rfl (by omega) dX12_begins_47 ?_
        refine g_aload_n (pc := 48) C dX12_begins_48 rfl ?_
        refine mg_39 (pc := 49) C (by exact hm) dX12_begins_49 ?_
        refine g_bipush (pc := 52) (v := nI 21) C dX12_begins_52 (by decide) ?_
        refine g_iload_n (pc := 54) C dX12_begins_54 rfl ?_
        refine g_iadd (pc := 55) C dX12_begins_55 ?_
        refine g_iconst (pc := 56) (v := nI 0) C dX12_begins_56 (by decide) ?_
        refine n_iast (pc := 57) (k := 1010) (n := 190) C rfl rfl (by exact m_z hm rfl) (isn_add isn_v isn_v) rfl (by omega) dX12_begins_57 ?_
        refine gx_S (S' := s_setA S 1010 (begB (begA (s_A S 1010) 4) (n + 1))) ?_ ?_
        · rw [s_AA, s_AA]
          exact congrArg _ (begB_step (said := begA (s_A S 1010) 4) (n := n) (by omega))
        · refine g_iinc (pc := 58) (L' := [some (.ref _), _]) C dX12_begins_58 rfl (nI_1 _) rfl ?_
          refine g_goto (pc := 61) C 24 dX12_begins_61 rfl ?_
          exact ih (n + 1) (by omega)
  have loop : ∀ k n, n + k = 4 → gx_G w X (s_setA S 1010 (begA (s_A S 1010) n)) 0 0 3 [some (.ref (ad (w_b w) 1000)), some (.int (nI (10 + n)))] [] (gx_E w X (pV (s_setA S 1010 (begF (s_A S 1010))))) := by
    intro k
    induction k with
    | zero =>
      intro n hn
      have hn : n = 4 := hn
      subst hn
      refine g_iload_n (pc := 3) C dX12_begins_3 rfl ?_
      refine g_bipush (pc := 4) (v := nI 14) C dX12_begins_4 (by decide) ?_
      refine g_icmp_ge (pc := 6) C 22 dX12_begins_6 rfl (fun h => ?_) (fun h => ?_)
      · refine g_iconst (pc := 22) (v := nI 0) C dX12_begins_22 (by decide) ?_
        refine g_istore_n (pc := 23) (L' := [some (.ref _), _]) C dX12_begins_23 rfl rfl ?_
        refine gx_S ?_ (loop2 7 0 rfl)
        refine congrArg _ ?_
        funext j
        simp only [begB]
        rw [if_neg (by omega), if_neg (by omega)]
      · exact absurd (nI_le (Nat.le_refl 14) (by omega)) h
    | succ k ih =>
      intro n hn
      refine g_iload_n (pc := 3) C dX12_begins_3 rfl ?_
      refine g_bipush (pc := 4) (v := nI 14) C dX12_begins_4 (by decide) ?_
      refine g_icmp_ge (pc := 6) C 22 dX12_begins_6 rfl (fun h => ?_) (fun h => ?_)
      · exact absurd h (nI_ge (by omega) (by omega))
      · refine g_aload_n (pc := 9) C dX12_begins_9 rfl ?_
        refine mg_39 (pc := 10) C (by exact hm) dX12_begins_10 ?_
        refine g_iload_n (pc := 13) C dX12_begins_13 rfl ?_
        refine g_iconst (pc := 14) (v := nI 0) C dX12_begins_14 (by decide) ?_
        refine n_iast (pc := 15) (k := 1010) (n := 190) C rfl rfl (by exact m_z hm rfl) isn_v rfl (by omega) dX12_begins_15 ?_
        refine gx_S (S' := s_setA S 1010 (begA (s_A S 1010) (n + 1))) ?_ ?_
        · rw [s_AA]
          exact congrArg _ begA_step
        · refine g_iinc (pc := 16) (L' := [some (.ref _), _]) C dX12_begins_16 rfl (nI_1 _) rfl ?_
          refine g_goto (pc := 19) C 3 dX12_begins_19 rfl ?_
          exact ih (n + 1) (by omega)
  refine gx_S ?_ (loop 4 0 rfl)
  rw [show begA (s_A S 1010) 0 = s_A S 1010 from by funext j; simp only [begA]; rw [if_neg (by omega)], s_A_id]
