/-! ===== the reference's texts: the store of a reading; puts, opens ===== -/
def rdI (I : Nat → Nat → Int32) (i : Nat → Int32) : Nat → Nat → Int32 := fun f k => if 1108 ≤ f ∧ f ≤ 1116 ∧ k = 1000 then i f else I f k
def rdA (A : Nat → Nat → Int32) (a : Nat → Nat → Int32) : Nat → Nat → Int32 := fun k => if 1002 ≤ k ∧ k ≤ 1007 then a k else A k
def rdS (S : St) (i : Nat → Int32) (a : Nat → Nat → Int32) : St := (S.1, S.2.1, S.2.2.1, S.2.2.2.1, rdI S.2.2.2.2.1 i, S.2.2.2.2.2.1, rdA S.2.2.2.2.2.2.1 a, S.2.2.2.2.2.2.2.1, S.2.2.2.2.2.2.2.2)
theorem rd_I (S : St) (i : Nat → Int32) (a : Nat → Nat → Int32) (f : Nat) (v : Int32) (h : 1108 ≤ f ∧ f ≤ 1116) : s_setI (rdS S i a) f 1000 v = rdS S (u1 i f v) a := by
  have e : u2 (rdI S.2.2.2.2.1 i) f 1000 v = rdI S.2.2.2.2.1 (u1 i f v) := by
    funext g j
    unfold u2 rdI u1
    by_cases e1 : g = f
    · subst e1
      by_cases e2 : j = 1000
      · rw [if_pos rfl, if_pos e2, if_pos ⟨h.1, h.2, e2⟩, if_pos rfl]
      · rw [if_pos rfl, if_neg e2, if_neg (fun q => e2 q.2.2), if_neg (fun q => e2 q.2.2)]
    · rw [if_neg e1]
      by_cases e3 : 1108 ≤ g ∧ g ≤ 1116 ∧ j = 1000
      · rw [if_pos e3, if_pos e3, if_neg e1]
      · rw [if_neg e3, if_neg e3]
  show (_, _, _, _, u2 (rdI S.2.2.2.2.1 i) f 1000 v, _, _, _, _) = _
  rw [e]; rfl
theorem rd_A (S : St) (i : Nat → Int32) (a : Nat → Nat → Int32) (k : Nat) (g : Nat → Int32) (h : 1002 ≤ k ∧ k ≤ 1007) : s_setA (rdS S i a) k g = rdS S i (u1 a k g) := by
  have e : u1 (rdA S.2.2.2.2.2.2.1 a) k g = rdA S.2.2.2.2.2.2.1 (u1 a k g) := by
    funext j
    unfold u1 rdA
    by_cases e1 : j = k
    · rw [if_pos e1, if_pos (by omega)]; exact (if_pos e1).symm
    · rw [if_neg e1]
      by_cases e3 : 1002 ≤ j ∧ j ≤ 1007
      · rw [if_pos e3, if_pos e3]; exact (if_neg e1).symm
      · rw [if_neg e3, if_neg e3]
  show (_, _, _, _, _, _, u1 (rdA S.2.2.2.2.2.2.1 a) k g, _, _) = _
  rw [e]; rfl
theorem rd_id (S : St) : rdS S (fun f => s_I S f 1000) (s_A S) = S := by
  have e1 : rdI S.2.2.2.2.1 (fun f => s_I S f 1000) = S.2.2.2.2.1 := by
    funext f k
    unfold rdI
    split
    · next h => rw [h.2.2]; rfl
    · rfl
  have e2 : rdA S.2.2.2.2.2.2.1 (s_A S) = S.2.2.2.2.2.2.1 := by
    funext k
    unfold rdA
    split <;> rfl
  unfold rdS
  rw [e1, e2]
theorem rd_fl (S : St) (i : Nat → Int32) (a : Nat → Nat → Int32) (k at_ : Int32) : flS (rdS S i a) k at_ = rdS S (if i 1109 = 0 then u1 i 1109 (nI 1 + nI 8 * at_ + k) else i) a := by
  have e : s_I (rdS S i a) 1109 1000 = i 1109 := rfl
  unfold flS
  rw [e]
  split
  · exact rd_I S i a 1109 _ (by omega)
  · rfl
theorem rd_nx (S : St) (i : Nat → Int32) (a : Nat → Nat → Int32) (n : Nat) : nxS (rdS S i a) n = rdS S (u1 i 1108 (nI n)) a := rd_I S i a 1108 _ (by omega)
def putA (a : Nat → Nat → Int32) (t n : Nat) (x : Int32) : Nat → Nat → Int32 := u1 (u1 a 1002 (upd (a 1002) (400 * t + n) x)) 1003 (upd (a 1003) t (nI (n + 1)))
theorem c_X12_puts (w : Wd) (l : Launch) (S : St) (hm : gx_m S) (i : Nat → Int32) (a : Nat → Nat → Int32) (t n : Nat) (ht : i 1111 = nI t) (ht6 : t < 6) (hn : a 1003 t = nI n) (hn4 : n < 400) (s v : Int32) : gx_M w l yX12_puts cX12_puts 3 none rmX12_puts [.ref (ad (w_b w) 1000), .int s, .int v] (rdS S i a) (pV (rdS S i (putA a t n (s + nI 16 * v)))) := by
  have hmA : ∀ i a, gx_m (rdS S i a) := fun i a => hm
  refine gx_start rfl 0 rfl (Nat.le_of_ble_eq_true rfl) ?_
  intro X C _ hl
  subst hl
  refine gx_L (L' := [_, _, _]) rfl ?_
  refine g_aload_n (pc := 0) C dX12_puts_0 rfl ?_
  refine mg_13 (pc := 1) C (hmA _ _) dX12_puts_1 ?_
  refine g_sipush (pc := 4) (v := nI 400) C dX12_puts_4 (by decide) ?_
  refine g_aload_n (pc := 7) C dX12_puts_7 rfl ?_
  refine mg_158 (pc := 8) C (hmA _ _) dX12_puts_8 ?_
  refine gx_ti (y := nI t) ht ?_
  refine g_imul (pc := 11) C dX12_puts_11 ?_
  refine g_aload_n (pc := 12) C dX12_puts_12 rfl ?_
  refine mg_17 (pc := 13) C (hmA _ _) dX12_puts_13 ?_
  refine g_aload_n (pc := 16) C dX12_puts_16 rfl ?_
  refine mg_158 (pc := 17) C (hmA _ _) dX12_puts_17 ?_
  refine gx_ti (y := nI t) ht ?_
  refine n_iald (pc := 20) (k := 1003) (n := 7) C rfl rfl (m_z (hmA _ _) rfl) isn_v rfl (by omega) dX12_puts_20 ?_
  refine gx_ti (y := nI n) hn ?_
  refine g_iadd (pc := 21) C dX12_puts_21 ?_
  refine g_iload_n (pc := 22) C dX12_puts_22 rfl ?_
  refine g_bipush (pc := 23) (v := nI 16) C dX12_puts_23 (by decide) ?_
  refine g_iload_n (pc := 25) C dX12_puts_25 rfl ?_
  refine g_imul (pc := 26) C dX12_puts_26 ?_
  refine g_iadd (pc := 27) C dX12_puts_27 ?_
  refine n_iast (pc := 28) (k := 1002) (n := 2400) C rfl rfl (m_z (hmA _ _) rfl) (isn_add (isn_mul isn_v isn_v) isn_v) rfl (by omega) dX12_puts_28 ?_
  refine gx_S (S' := rdS S i (u1 a 1002 (upd (a 1002) (400 * t + n) (s + nI 16 * v)))) (rd_A S i a 1002 _ (by omega)) ?_
  refine g_aload_n (pc := 29) C dX12_puts_29 rfl ?_
  refine mg_17 (pc := 30) C (hmA _ _) dX12_puts_30 ?_
  refine g_aload_n (pc := 33) C dX12_puts_33 rfl ?_
  refine mg_158 (pc := 34) C (hmA _ _) dX12_puts_34 ?_
  refine gx_ti (y := nI t) ht ?_
  refine g_dup2 (pc := 37) C dX12_puts_37 rfl rfl ?_
  refine n_iald (pc := 38) (k := 1003) (n := 7) C rfl rfl (m_z (hmA _ _) rfl) isn_v rfl (by omega) dX12_puts_38 ?_
  refine gx_ti (y := nI n) hn ?_
  refine g_iconst (pc := 39) (v := nI 1) C dX12_puts_39 (by decide) ?_
  refine g_iadd (pc := 40) C dX12_puts_40 ?_
  refine gx_ti (nI_add n 1) ?_
  refine n_iast (pc := 41) (k := 1003) (n := 7) C rfl rfl (m_z (hmA _ _) rfl) isn_v rfl (by omega) dX12_puts_41 ?_
  exact g_return (pc := 42) C ⟨rfl, rfl⟩ dX12_puts_42 ⟨rfl, rd_A S i (u1 a 1002 (upd (a 1002) (400 * t + n) (s + nI 16 * v))) 1003 _ (by omega)⟩
theorem c_X12_opens (w : Wd) (l : Launch) (S : St) (hm : gx_m S) (i : Nat → Int32) (a : Nat → Nat → Int32) (o : Nat) (ho : i 1116 = nI o) (ho4 : o < 400) (what : Int32) : gx_M w l yX12_opens cX12_opens 2 (some .boolean) rmX12_opens [.ref (ad (w_b w) 1000), .int what] (rdS S i a) (pI (bI (¬ i 1113 = nI 10)) (if i 1113 = nI 10 then rdS S (if i 1109 = 0 then u1 i 1109 (nI 1 + nI 8 * i 1108 + nI 2) else i) a else rdS S (u1 (u1 i 1113 (i 1113 + nI 1)) 1116 (nI (o + 1))) (u1 a 1007 (upd (a 1007) o what)))) := by
  have hmA : ∀ i a, gx_m (rdS S i a) := fun i a => hm
  refine gx_start rfl 0 rfl (Nat.le_of_ble_eq_true rfl) ?_
  intro X C _ hl
  subst hl
  refine gx_L (L' := [_, _]) rfl ?_
  refine g_aload_n (pc := 0) C dX12_opens_0 rfl ?_
  refine mg_164 (pc := 1) C (hmA _ _) dX12_opens_1 ?_
  refine gx_ti (y := i 1113) rfl ?_
  refine g_bipush (pc := 4) (v := nI 10) C dX12_opens_4 (by decide) ?_
  refine g_icmp_ne (pc := 6) C 19 dX12_opens_6 rfl (fun h => ?_) (fun h => ?_)
  · rw [if_neg h]
    refine g_aload_n (pc := 19) C dX12_opens_19 rfl ?_
    refine g_dup (pc := 20) C dX12_opens_20 rfl ?_
    refine mg_164 (pc := 21) C (hmA _ _) dX12_opens_21 ?_
    refine g_iconst (pc := 24) (v := nI 1) C dX12_opens_24 (by decide) ?_
    refine g_iadd (pc := 25) C dX12_opens_25 ?_
    refine mp_164 (pc := 26) C (hmA _ _) dX12_opens_26 ?_
    refine gx_S (S' := rdS S (u1 i 1113 (i 1113 + nI 1)) a) (rd_I S i a 1113 _ (by omega)) ?_
    refine g_aload_n (pc := 29) C dX12_opens_29 rfl ?_
    refine mg_29 (pc := 30) C (hmA _ _) dX12_opens_30 ?_
    refine g_aload_n (pc := 33) C dX12_opens_33 rfl ?_
    refine mg_167 (pc := 34) C (hmA _ _) dX12_opens_34 ?_
    refine gx_ti (y := nI o) ho ?_
    refine g_iload_n (pc := 37) C dX12_opens_37 rfl ?_
    refine n_iast (pc := 38) (k := 1007) (n := 400) C rfl rfl (m_z (hmA _ _) rfl) isn_v rfl (by omega) dX12_opens_38 ?_
    refine gx_S (S' := rdS S (u1 i 1113 (i 1113 + nI 1)) (u1 a 1007 (upd (a 1007) o what))) (rd_A S _ a 1007 _ (by omega)) ?_
    refine g_aload_n (pc := 39) C dX12_opens_39 rfl ?_
    refine g_dup (pc := 40) C dX12_opens_40 rfl ?_
    refine mg_167 (pc := 41) C (hmA _ _) dX12_opens_41 ?_
    refine gx_ti (y := nI o) ho ?_
    refine g_iconst (pc := 44) (v := nI 1) C dX12_opens_44 (by decide) ?_
    refine g_iadd (pc := 45) C dX12_opens_45 ?_
    refine gx_ti (nI_add o 1) ?_
    refine mp_167 (pc := 46) C (hmA _ _) dX12_opens_46 ?_
    refine gx_S (rd_I S _ _ 1116 _ (by omega)) ?_
    refine g_iconst (pc := 49) (v := nI 1) C dX12_opens_49 (by decide) ?_
    exact g_zreturn (pc := 50) C ⟨rfl, rfl⟩ (by first | exact Or.inl rfl | exact Or.inr rfl) dX12_opens_50 (pI_t h)
  · have h := Decidable.not_not.mp h
    rw [if_pos h, ← rd_fl]
    refine g_aload_n (pc := 9) C dX12_opens_9 rfl ?_
    refine g_iconst (pc := 10) (v := nI 2) C dX12_opens_10 (by decide) ?_
    refine g_aload_n (pc := 11) C dX12_opens_11 rfl ?_
    refine mg_102 (pc := 12) C (hmA _ _) dX12_opens_12 ?_
    refine gx_ti (y := i 1108) rfl ?_
    refine cf_X12_123 (pc := 15) C rfl (m_z (hmA _ _) rfl) (c_X12_failsF _ _ _ (hmA _ _) _ _) ⟨rfl, rfl⟩ ⟨rfl, rfl⟩ ⟨Nat.zero_le _, Nat.zero_le _⟩ rfl (Nat.le_of_ble_eq_true rfl) dX12_opens_15 ?_
    exact g_zreturn (pc := 18) C ⟨rfl, rfl⟩ (by first | exact Or.inl rfl | exact Or.inr rfl) dX12_opens_18 (pI_f (fun q => q h))
