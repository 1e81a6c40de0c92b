/-! ===== THE CLASS: Crossing: what is written into it ===== -/
def cr0 (S : St) (c ce : Nat) : St := s_setA (s_setL (s_setI (s_setI (s_setI (s_setI (s_setI S 0 c (nI 0)) 1 c (nI 0)) 2 c (nI 0)) 3 c (nI 0)) 4 c (nI 0)) 5 c 0) ce (filF (s_A S ce) (nI 0) 49)
theorem c_X0_clear (w : Wd) (l : Launch) (S : St) (c ca cg cl ce : Nat) (h : crK S c ca cg cl ce) : gx_M w l yX0_clear cX0_clear 1 none rmX0_clear [.ref (ad (w_b w) c)] S (pV (cr0 S c ce)) := by
  obtain ⟨o1, r1, a1, r2, a2, r3, a3, r4, a4⟩ := h
  refine gx_start rfl 0 rfl (Nat.le_of_ble_eq_true rfl) ?_
  intro X C _ hl
  subst hl
  refine gx_L (L' := [_]) rfl ?_
  refine g_aload_n (pc := 0) C dX0_clear_0 rfl ?_
  refine g_iconst (pc := 1) (v := nI 0) C dX0_clear_1 (by decide) ?_
  refine fp_X0_24 (pc := 2) C (by exact o1.1) (zk (by exact o1.2)) (by first | exact Or.inl rfl | exact Or.inr rfl) dX0_clear_2 ?_
  refine g_aload_n (pc := 5) C dX0_clear_5 rfl ?_
  refine g_iconst (pc := 6) (v := nI 0) C dX0_clear_6 (by decide) ?_
  refine fp_X0_28 (pc := 7) C (by exact o1.1) (zk (by exact o1.2)) dX0_clear_7 ?_
  refine g_aload_n (pc := 10) C dX0_clear_10 rfl ?_
  refine g_iconst (pc := 11) (v := nI 0) C dX0_clear_11 (by decide) ?_
  refine fp_X0_32 (pc := 12) C (by exact o1.1) (zk (by exact o1.2)) dX0_clear_12 ?_
  refine g_aload_n (pc := 15) C dX0_clear_15 rfl ?_
  refine g_iconst (pc := 16) (v := nI 0) C dX0_clear_16 (by decide) ?_
  refine fp_X0_35 (pc := 17) C (by exact o1.1) (zk (by exact o1.2)) dX0_clear_17 ?_
  refine g_aload_n (pc := 20) C dX0_clear_20 rfl ?_
  refine g_iconst (pc := 21) (v := nI 0) C dX0_clear_21 (by decide) ?_
  refine fp_X0_38 (pc := 22) C (by exact o1.1) (zk (by exact o1.2)) dX0_clear_22 ?_
  refine g_aload_n (pc := 25) C dX0_clear_25 rfl ?_
  refine g_lconst (pc := 26) (v := 0) C dX0_clear_26 (by decide) ?_
  refine fp_X0_41 (pc := 27) C (by exact o1.1) (zk (by exact o1.2)) dX0_clear_27 ?_
  generalize hS1 : s_setL (s_setI (s_setI (s_setI (s_setI (s_setI S 0 c (nI 0)) 1 c (nI 0)) 2 c (nI 0)) 3 c (nI 0)) 4 c (nI 0)) 5 c 0 = S1
  have o11 : gx_o S1 c 0 := by rw [← hS1]; exact o1
  have r41 : s_R S1 9 c = some ce := by rw [← hS1]; exact r4
  have a41 : gx_a S1 ce 13 49 := by rw [← hS1]; exact a4
  have eA : s_A S1 ce = s_A S ce := by rw [← hS1]; rfl
  refine g_aload_n (pc := 30) C dX0_clear_30 rfl ?_
  refine fgr_X0_21 (pc := 31) C (by exact o11.1) (zk (by exact o11.2)) (by exact r41) dX0_clear_31 ?_
  refine g_iconst (pc := 34) (v := nI 0) C dX0_clear_34 (by decide) ?_
  refine cf_X0_45 (pc := 35) C (c_fill _ _ S1 ce 49 (nI 0) a41 (by omega)) ⟨rfl, rfl⟩ ⟨rfl, rfl⟩ ⟨Nat.zero_le _, Nat.zero_le _⟩ rfl (Nat.le_of_ble_eq_true rfl) dX0_clear_35 ?_
  exact g_return (pc := 38) C ⟨rfl, rfl⟩ dX0_clear_38 ⟨rfl, by unfold cr0; rw [hS1, eA]⟩
def crA (S : St) (c ca cg cl P : Nat) (x y z : Int32) : St := s_setI (s_setA (s_setA (s_setA S ca (upd (s_A S ca) P x)) cg (upd (s_A S cg) P y)) cl (upd (s_A S cl) P z)) 4 c (nI (P + 1))
theorem c_X0_add (w : Wd) (l : Launch) (S : St) (c ca cg cl ce P : Nat) (x y z : Int32) (h : crK S c ca cg cl ce) (hne : ca ≠ cg ∧ ca ≠ cl ∧ cg ≠ cl) (hp : s_I S 4 c = nI P) (hP : P < 7) : gx_M w l yX0_add cX0_add 4 none rmX0_add [.ref (ad (w_b w) c), .int x, .int y, .int z] S (pV (crA S c ca cg cl P x y z)) := by
  obtain ⟨o1, r1, a1, r2, a2, r3, a3, r4, a4⟩ := h
  refine gx_start rfl 0 rfl (Nat.le_of_ble_eq_true rfl) ?_
  intro X C _ hl
  subst hl
  refine gx_L (L' := [_, _, _, _]) rfl ?_
  refine g_aload_n (pc := 0) C dX0_add_0 rfl ?_
  refine fg_X0_38 (pc := 1) C (by exact o1.1) (zk (by exact o1.2)) dX0_add_1 ?_
  refine gx_ti (y := nI P) hp ?_
  refine g_bipush (pc := 4) (v := nI 7) C dX0_add_4 (by decide) ?_
  refine g_icmp_ge (pc := 6) C 49 dX0_add_6 rfl (fun c1 => ?_) (fun c1 => ?_)
  · exact absurd c1 (nI_ge (by omega) (by omega))
  · refine g_aload_n (pc := 9) C dX0_add_9 rfl ?_
    refine fgr_X0_9 (pc := 10) C (by exact o1.1) (zk (by exact o1.2)) (by exact r1) dX0_add_10 ?_
    refine g_aload_n (pc := 13) C dX0_add_13 rfl ?_
    refine fg_X0_38 (pc := 14) C (by exact o1.1) (zk (by exact o1.2)) dX0_add_14 ?_
    refine gx_ti (y := nI P) hp ?_
    refine g_iload_n (pc := 17) C dX0_add_17 rfl ?_
    refine n_iast (pc := 18) (n := 7) C (by exact a1.1) (by exact a1.2.1) (zk (by exact a1.2.2)) rfl rfl (by omega) dX0_add_18 ?_
    refine g_aload_n (pc := 19) C dX0_add_19 rfl ?_
    refine fgr_X0_15 (pc := 20) C (by exact o1.1) (zk (by exact o1.2)) (by exact r2) dX0_add_20 ?_
    refine g_aload_n (pc := 23) C dX0_add_23 rfl ?_
    refine fg_X0_38 (pc := 24) C (by exact o1.1) (zk (by exact o1.2)) dX0_add_24 ?_
    refine gx_ti (y := nI P) hp ?_
    refine g_iload_n (pc := 27) C dX0_add_27 rfl ?_
    refine n_iast (pc := 28) (n := 7) C (by exact a2.1) (by exact a2.2.1) (zk (by exact a2.2.2)) rfl rfl (by omega) dX0_add_28 ?_
    refine g_aload_n (pc := 29) C dX0_add_29 rfl ?_
    refine fgr_X0_18 (pc := 30) C (by exact o1.1) (zk (by exact o1.2)) (by exact r3) dX0_add_30 ?_
    refine g_aload_n (pc := 33) C dX0_add_33 rfl ?_
    refine fg_X0_38 (pc := 34) C (by exact o1.1) (zk (by exact o1.2)) dX0_add_34 ?_
    refine gx_ti (y := nI P) hp ?_
    refine g_iload_n (pc := 37) C dX0_add_37 rfl ?_
    refine n_iast (pc := 38) (n := 7) C (by exact a3.1) (by exact a3.2.1) (zk (by exact a3.2.2)) rfl rfl (by omega) dX0_add_38 ?_
    refine g_aload_n (pc := 39) C dX0_add_39 rfl ?_
    refine g_dup (pc := 40) C dX0_add_40 rfl ?_
    refine fg_X0_38 (pc := 41) C (by exact o1.1) (zk (by exact o1.2)) dX0_add_41 ?_
    refine gx_ti (y := nI P) hp ?_
    refine g_iconst (pc := 44) (v := nI 1) C dX0_add_44 (by decide) ?_
    refine g_iadd (pc := 45) C dX0_add_45 ?_
    refine gx_ti (y := nI (P + 1)) (nI_add _ _) ?_
    refine fp_X0_38 (pc := 46) C (by exact o1.1) (zk (by exact o1.2)) dX0_add_46 ?_
    exact g_return (pc := 49) C ⟨rfl, rfl⟩ dX0_add_49 ⟨rfl, by unfold crA; rw [gA_ne (fun e => hne.1 e.symm), gA_ne (fun e => hne.2.2 e.symm), gA_ne (fun e => hne.2.1 e.symm)]⟩
theorem c_X0_setExtra (w : Wd) (l : Launch) (S : St) (c ca cg cl ce P : Nat) (u : Nat → Int32) (h : crS S c ca cg cl ce P u) (p q : Nat) (x : Int32) (hp : p < P) (hq : q < P) : gx_M w l yX0_setExtra cX0_setExtra 4 none rmX0_setExtra [.ref (ad (w_b w) c), .int (nI p), .int (nI q), .int x] S (pV (s_setA S ce (upd (upd (s_A S ce) (7 * p + q) x) (7 * q + p) x))) := by
  obtain ⟨⟨o1, r1, a1, r2, a2, r3, a3, r4, a4⟩, hV, hP7⟩ := id h
  refine gx_start rfl 0 rfl (Nat.le_of_ble_eq_true rfl) ?_
  intro X C _ hl
  subst hl
  refine gx_L (L' := [_, _, _, _]) rfl ?_
  refine g_aload_n (pc := 0) C dX0_setExtra_0 rfl ?_
  refine g_iload_n (pc := 1) C dX0_setExtra_1 rfl ?_
  refine cf_X0_55 (pc := 2) C (by exact o1.1) (zk (by exact o1.2)) (c_X0_has _ _ S c ca cg cl ce P u h (nI p)) ⟨rfl, rfl⟩ ⟨rfl, rfl⟩ ⟨Nat.zero_le _, Nat.zero_le _⟩ rfl (Nat.le_of_ble_eq_true rfl) dX0_setExtra_2 ?_
  refine g_if_eq (pc := 5) C 40 dX0_setExtra_5 rfl (fun c1 => ?_) (fun c1 => ?_)
  · exact absurd ⟨nI_le (Nat.zero_le p) (by omega), nI_lt hp (by omega)⟩ (bI_0.mp c1)
  · refine g_aload_n (pc := 8) C dX0_setExtra_8 rfl ?_
    refine g_iload_n (pc := 9) C dX0_setExtra_9 rfl ?_
    refine cf_X0_55 (pc := 10) C (by exact o1.1) (zk (by exact o1.2)) (c_X0_has _ _ S c ca cg cl ce P u h (nI q)) ⟨rfl, rfl⟩ ⟨rfl, rfl⟩ ⟨Nat.zero_le _, Nat.zero_le _⟩ rfl (Nat.le_of_ble_eq_true rfl) dX0_setExtra_10 ?_
    refine g_if_eq (pc := 13) C 40 dX0_setExtra_13 rfl (fun c2 => ?_) (fun c2 => ?_)
    · exact absurd ⟨nI_le (Nat.zero_le q) (by omega), nI_lt hq (by omega)⟩ (bI_0.mp c2)
    · refine g_aload_n (pc := 16) C dX0_setExtra_16 rfl ?_
      refine fgr_X0_21 (pc := 17) C (by exact o1.1) (zk (by exact o1.2)) (by exact r4) dX0_setExtra_17 ?_
      refine g_iload_n (pc := 20) C dX0_setExtra_20 rfl ?_
      refine g_bipush (pc := 21) (v := nI 7) C dX0_setExtra_21 (by decide) ?_
      refine g_imul (pc := 23) C dX0_setExtra_23 ?_
      refine gx_ti (y := nI (7 * p)) ((pk_mul _ _).trans (by rw [Nat.mul_comm])) ?_
      refine g_iload_n (pc := 24) C dX0_setExtra_24 rfl ?_
      refine g_iadd (pc := 25) C dX0_setExtra_25 ?_
      refine gx_ti (y := nI (7 * p + q)) (nI_add _ _) ?_
      refine g_iload_n (pc := 26) C dX0_setExtra_26 rfl ?_
      refine n_iast (pc := 27) (n := 49) C (by exact a4.1) (by exact a4.2.1) (zk (by exact a4.2.2)) rfl rfl (by omega) dX0_setExtra_27 ?_
      refine g_aload_n (pc := 28) C dX0_setExtra_28 rfl ?_
      refine fgr_X0_21 (pc := 29) C (by exact o1.1) (zk (by exact o1.2)) (by exact r4) dX0_setExtra_29 ?_
      refine g_iload_n (pc := 32) C dX0_setExtra_32 rfl ?_
      refine g_bipush (pc := 33) (v := nI 7) C dX0_setExtra_33 (by decide) ?_
      refine g_imul (pc := 35) C dX0_setExtra_35 ?_
      refine gx_ti (y := nI (7 * q)) ((pk_mul _ _).trans (by rw [Nat.mul_comm])) ?_
      refine g_iload_n (pc := 36) C dX0_setExtra_36 rfl ?_
      refine g_iadd (pc := 37) C dX0_setExtra_37 ?_
      refine gx_ti (y := nI (7 * q + p)) (nI_add _ _) ?_
      refine g_iload_n (pc := 38) C dX0_setExtra_38 rfl ?_
      refine n_iast (pc := 39) (n := 49) C (by exact a4.1) (by exact a4.2.1) (zk (by exact a4.2.2)) rfl rfl (by omega) dX0_setExtra_39 ?_
      exact g_return (pc := 40) C ⟨rfl, rfl⟩ dX0_setExtra_40 ⟨rfl, by rw [gA_at, s_AA]⟩
