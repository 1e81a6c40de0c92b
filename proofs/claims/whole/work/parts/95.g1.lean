/-! ===== THE CLASS: Tape ===== -/
def tpK (S : St) (n : Nat) : Prop := 121 ≤ s_z S ∧ s_R S 900 1 = some 2 ∧ s_I S 901 1 = nI n ∧ n ≤ 400
def tqS (S : St) (T : Nat → Int32) (n : Int32) : St := s_setI (s_setA S 2 T) 901 1 n
theorem c_X10_at (w : Wd) (l : Launch) (S : St) (n m : Nat) (h : tpK S n) (hm : m < 1000000) : gx_M w l yX10_at cX10_at 2 (some .int) rmX10_at [.ref (ad (w_b w) 1), .int (nI m)] S (pI (seeV (s_A S 2) n m) S) := by
  obtain ⟨hz, r1, i1, hn⟩ := h
  have o1 : gx_o S 1 9 := o_st hz rfl rfl
  have a2 : gx_a S 2 12 400 := a_st hz rfl rfl rfl
  refine gx_start rfl 0 rfl (Nat.le_of_ble_eq_true rfl) ?_
  intro X C _ hl
  subst hl
  refine gx_L (L' := [_, _]) rfl ?_
  refine g_iload_n (pc := 0) C dX10_at_0 rfl ?_
  refine g_if_lt (pc := 1) C 25 dX10_at_1 rfl (fun c1 => ?_) (fun c1 => ?_)
  · exact absurd c1 (nI_pos (by omega))
  · refine g_iload_n (pc := 4) C dX10_at_4 rfl ?_
    refine g_aload_n (pc := 5) C dX10_at_5 rfl ?_
    refine fg_X10_15 (pc := 6) C (by exact o1.1) (zk (by exact o1.2)) dX10_at_6 ?_
    refine gx_ti (y := nI n) i1 ?_
    refine g_icmp_ge (pc := 9) C 25 dX10_at_9 rfl (fun c2 => ?_) (fun c2 => ?_)
    · have c2 : ¬ m < n := fun q => absurd c2 (nI_ge q (by omega))
      refine g_iconst (pc := 25) (v := -1) C dX10_at_25 (by decide) ?_
      exact g_ireturn (pc := 26) C ⟨rfl, rfl⟩ dX10_at_26 ⟨by unfold seeV; rw [if_neg c2], rfl⟩
    · have c2 : m < n := Nat.lt_of_not_le (fun q => c2 (nI_le q (by omega)))
      refine g_aload_n (pc := 12) C dX10_at_12 rfl ?_
      refine fgr_X10_9 (pc := 13) C (by exact o1.1) (zk (by exact o1.2)) (by exact r1) dX10_at_13 ?_
      refine g_iload_n (pc := 16) C dX10_at_16 rfl ?_
      refine n_bald (pc := 17) (n := 400) C (by exact a2.1) (by exact a2.2.1) (zk (by exact a2.2.2)) isn_v rfl (by omega) dX10_at_17 ?_
      refine g_sipush (pc := 18) (v := nI 255) C dX10_at_18 (by decide) ?_
      refine g_iand (pc := 21) C dX10_at_21 ?_
      refine g_goto (pc := 22) C 26 dX10_at_22 rfl ?_
      exact g_ireturn (pc := 26) C ⟨rfl, rfl⟩ dX10_at_26 ⟨by unfold seeV; rw [if_pos c2], rfl⟩
theorem c_X10_add (w : Wd) (l : Launch) (S : St) (n : Nat) (v : Int32) (h : tpK S n) (h4 : n + 4 ≤ 400) : gx_M w l yX10_add cX10_add 3 none rmX10_add [.ref (ad (w_b w) 1), .int v] S (pV (tqS S (fourF (s_A S 2) n v 4) (nI (n + 4)))) := by
  obtain ⟨hz, r1, i1, hn⟩ := h
  generalize hpost : pV (tqS S (fourF (s_A S 2) n v 4) (nI (n + 4))) = post
  refine gx_start rfl 1 rfl (Nat.le_of_ble_eq_true rfl) ?_
  intro X C _ hl
  subst hl
  refine gx_L (L' := [_, _, _]) rfl ?_
  refine g_bipush (pc := 0) (v := nI 24) C dX10_add_0 (by decide) ?_
  refine g_istore_n (pc := 2) (L' := [_, some (.int _), _]) C dX10_add_2 rfl rfl ?_
  have loop : ∀ d k, k + d = 4 → gx_G w X (tqS S (fourF (s_A S 2) n v k) (nI (n + k))) 0 0 3 [some (.ref (ad (w_b w) 1)), some (.int v), some (.int (ozF k))] [] (gx_E w X post) := by
    intro d
    induction d with
    | zero =>
      intro k hk
      have hk : k = 4 := hk
      subst hk
      refine g_iload_n (pc := 3) C dX10_add_3 rfl ?_
      refine g_if_lt (pc := 4) C 46 dX10_add_4 rfl (fun c1 => ?_) (fun c1 => ?_)
      · rw [← hpost]
        exact g_return (pc := 46) C ⟨rfl, rfl⟩ dX10_add_46 ⟨rfl, rfl⟩
      · exact absurd (by decide) c1
    | succ d ih =>
      intro k hk
      obtain ⟨z1, z2⟩ := ozF_s k (by omega)
      have o1 : gx_o (tqS S (fourF (s_A S 2) n v k) (nI (n + k))) 1 9 := o_st hz rfl rfl
      have a2 : gx_a (tqS S (fourF (s_A S 2) n v k) (nI (n + k))) 2 12 400 := a_st hz rfl rfl rfl
      have r1' : s_R (tqS S (fourF (s_A S 2) n v k) (nI (n + k))) 900 1 = some 2 := r1
      have i1' : s_I (tqS S (fourF (s_A S 2) n v k) (nI (n + k))) 901 1 = nI (n + k) := gI_at
      refine g_iload_n (pc := 3) C dX10_add_3 rfl ?_
      refine g_if_lt (pc := 4) C 46 dX10_add_4 rfl (fun c1 => ?_) (fun c1 => ?_)
      · exact absurd c1 z2
      · refine g_aload_n (pc := 7) C dX10_add_7 rfl ?_
        refine fg_X10_15 (pc := 8) C (by exact o1.1) (zk (by exact o1.2)) dX10_add_8 ?_
        refine gx_ti (y := nI (n + k)) i1' ?_
        refine g_sipush (pc := 11) (v := nI 400) C dX10_add_11 (by decide) ?_
        refine g_icmp_ge (pc := 14) C 40 dX10_add_14 rfl (fun c2 => ?_) (fun c2 => ?_)
        · exact absurd c2 (nI_ge (by omega) (by omega))
        · refine g_aload_n (pc := 17) C dX10_add_17 rfl ?_
          refine fgr_X10_9 (pc := 18) C (by exact o1.1) (zk (by exact o1.2)) (by exact r1') dX10_add_18 ?_
          refine g_aload_n (pc := 21) C dX10_add_21 rfl ?_
          refine fg_X10_15 (pc := 22) C (by exact o1.1) (zk (by exact o1.2)) dX10_add_22 ?_
          refine gx_ti (y := nI (n + k)) i1' ?_
          refine g_iload_n (pc := 25) C dX10_add_25 rfl ?_
          refine g_iload_n (pc := 26) C dX10_add_26 rfl ?_
          refine g_ishr (pc := 27) C dX10_add_27 ?_
          refine g_i2b (pc := 28) C dX10_add_28 ?_
          refine n_bast (pc := 29) (n := 400) C (by exact a2.1) (by exact a2.2.1) (zk (by exact a2.2.2)) rfl rfl (by omega) dX10_add_29 ?_
          refine gx_S (S' := tqS S (fourF (s_A S 2) n v (k + 1)) (nI (n + k))) ?_ ?_
          · rw [← fourF_s]
            show s_setA (s_setI (s_setA S 2 (fourF (s_A S 2) n v k)) 901 1 (nI (n + k))) 2 _ = s_setI (s_setA S 2 _) 901 1 (nI (n + k))
            rw [s_IA, s_AA]
            rfl
          have o1 : gx_o (tqS S (fourF (s_A S 2) n v (k + 1)) (nI (n + k))) 1 9 := o_st hz rfl rfl
          have i1' : s_I (tqS S (fourF (s_A S 2) n v (k + 1)) (nI (n + k))) 901 1 = nI (n + k) := gI_at
          refine g_aload_n (pc := 30) C dX10_add_30 rfl ?_
          refine g_dup (pc := 31) C dX10_add_31 rfl ?_
          refine fg_X10_15 (pc := 32) C (by exact o1.1) (zk (by exact o1.2)) dX10_add_32 ?_
          refine gx_ti (y := nI (n + k)) i1' ?_
          refine g_iconst (pc := 35) (v := nI 1) C dX10_add_35 (by decide) ?_
          refine g_iadd (pc := 36) C dX10_add_36 ?_
          refine gx_ti (y := nI (n + (k + 1))) (nI_add _ _) ?_
          refine fp_X10_15 (pc := 37) C (by exact o1.1) (zk (by exact o1.2)) dX10_add_37 ?_
          refine gx_S (S' := tqS S (fourF (s_A S 2) n v (k + 1)) (nI (n + (k + 1)))) ?_ ?_
          · show s_setI (s_setI (s_setA S 2 _) 901 1 (nI (n + k))) 901 1 _ = s_setI (s_setA S 2 _) 901 1 _
            rw [s_II]
          refine g_iinc (pc := 40) (L' := [_, some (.int _), _]) C dX10_add_40 rfl z1 rfl ?_
          refine g_goto (pc := 43) C 3 dX10_add_43 rfl ?_
          exact ih (k + 1) (by omega)
  refine gx_S (S' := tqS S (fourF (s_A S 2) n v 0) (nI (n + 0))) ?_ (loop 4 0 rfl)
  rw [fourF_0]
  show S = s_setI (s_setA S 2 (s_A S 2)) 901 1 (nI n)
  rw [s_A_id, ← i1, s_I_id]
