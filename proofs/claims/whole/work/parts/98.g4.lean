/-! ===== THE CLASS: AimFerry: its cells; acts that are kept ===== -/
def afK (S : St) : Prop := 121 ≤ s_z S ∧ s_R S 1000 0 = some 1 ∧ s_R S 1003 0 = some 6 ∧ s_R S 1004 0 = some 7 ∧ s_R S 1005 0 = some 16 ∧ s_R S 1006 0 = some 33 ∧ s_R S 1007 0 = some 74 ∧ s_R S 1008 0 = some 82 ∧ ∀ k, k < 20 → s_Q S 33 k = some (34 + 2 * k) ∧ rvK S (34 + 2 * k) (35 + 2 * k)
theorem c_X11_forgetActs (w : Wd) (l : Launch) (S : St) (h : afK S) : gx_M w l yX11_forgetActs cX11_forgetActs 1 none rmX11_forgetActs [.ref (ad (w_b w) 0)] S (pV (s_setI (s_setI S 1011 0 (nI 0)) 1012 0 (nI 0))) := by
  have o0 : gx_o S 0 10 := o_st h.1 rfl rfl
  refine gx_start rfl 0 rfl (Nat.le_of_ble_eq_true rfl) ?_
  intro X C _ hl
  subst hl
  refine gx_L (L' := [_]) rfl ?_
  refine g_aload_n (pc := 0) C dX11_forgetActs_0 rfl ?_
  refine g_iconst (pc := 1) (v := nI 0) C dX11_forgetActs_1 (by decide) ?_
  refine fp_X11_184 (pc := 2) C (by exact o0.1) (zk (by exact o0.2)) dX11_forgetActs_2 ?_
  refine g_aload_n (pc := 5) C dX11_forgetActs_5 rfl ?_
  refine g_iconst (pc := 6) (v := nI 0) C dX11_forgetActs_6 (by decide) ?_
  refine fp_X11_187 (pc := 7) C (by exact o0.1) (zk (by exact o0.2)) dX11_forgetActs_7 ?_
  exact g_return (pc := 10) C ⟨rfl, rfl⟩ dX11_forgetActs_10 ⟨rfl, rfl⟩
theorem c_X11_rememberAct (w : Wd) (l : Launch) (S : St) (P j z : Nat) (u : Nat → Int32) (h : afK S) (hs : scK S 7 13 14 15) (hr : rvS S 13 14 P u) (hP : P ≤ 7) (hj : s_I S 1012 0 = nI j) (hj2 : j < 20) (hz : s_I S 1011 0 = nI z) (hz2 : z ≤ 20) : gx_M w l yX11_rememberAct cX11_rememberAct 1 none rmX11_rememberAct [.ref (ad (w_b w) 0)] S (fun v S' => v = none ∧ eqO (fun k => k = 0 ∨ k = 34 + 2 * j ∨ k = 35 + 2 * j) S S' ∧ (∀ f, s_R S' f 0 = s_R S f 0) ∧ (∀ f, f ≠ 1011 → f ≠ 1012 → s_I S' f 0 = s_I S f 0) ∧ s_I S' 1012 0 = nI ((j + 1) % 20) ∧ s_I S' 1011 0 = nI (min 20 (z + 1)) ∧ rvS S' (34 + 2 * j) (35 + 2 * j) P u) := by
  have o0 : gx_o S 0 10 := o_st h.1 rfl rfl
  have a33 : gx_a S 33 16 20 := a_st h.1 rfl rfl rfl
  have rp := h.2.2.2.2.2.1
  have rn := h.2.2.2.1
  obtain ⟨hq, hk⟩ := h.2.2.2.2.2.2.2.2 j hj2
  generalize hpost : (fun (v : Option Value) (S' : St) => v = none ∧ eqO (fun k => k = 0 ∨ k = 34 + 2 * j ∨ k = 35 + 2 * j) S S' ∧ (∀ f, s_R S' f 0 = s_R S f 0) ∧ (∀ f, f ≠ 1011 → f ≠ 1012 → s_I S' f 0 = s_I S f 0) ∧ s_I S' 1012 0 = nI ((j + 1) % 20) ∧ s_I S' 1011 0 = nI (min 20 (z + 1)) ∧ rvS S' (34 + 2 * j) (35 + 2 * j) P u) = post
  refine gx_start rfl 0 rfl (Nat.le_of_ble_eq_true rfl) ?_
  intro X C _ hl
  subst hl
  refine gx_L (L' := [_]) rfl ?_
  refine g_aload_n (pc := 0) C dX11_rememberAct_0 rfl ?_
  refine fgr_X11_60 (pc := 1) C (by exact o0.1) (zk (by exact o0.2)) (by exact rp) dX11_rememberAct_1 ?_
  refine g_aload_n (pc := 4) C dX11_rememberAct_4 rfl ?_
  refine fg_X11_187 (pc := 5) C (by exact o0.1) (zk (by exact o0.2)) dX11_rememberAct_5 ?_
  refine gx_ti (y := nI j) hj ?_
  refine g_aalds16 (pc := 8) (n := 20) C (by exact a33.1) (by exact a33.2.1) (zk (by exact a33.2.2)) rfl rfl (by omega) (by exact hq) dX11_rememberAct_8 ?_
  refine g_aload_n (pc := 9) C dX11_rememberAct_9 rfl ?_
  refine fgr_X11_46 (pc := 10) C (by exact o0.1) (zk (by exact o0.2)) (by exact rn) dX11_rememberAct_10 ?_
  refine fgr_X11_120 (pc := 13) C (by exact hs.1.1) (zk (by exact hs.1.2)) (by exact hs.2.1) dX11_rememberAct_13 ?_
  refine cg_X11_190 (pc := 16) C (by exact hk.1.1) (zk (by exact hk.1.2)) (c_X6_copyFrom _ _ S (34 + 2 * j) (35 + 2 * j) 13 14 P u hP hk hr) ⟨rfl, rfl⟩ ⟨Nat.zero_le _, Nat.zero_le _⟩ rfl (Nat.le_of_ble_eq_true rfl) dX11_rememberAct_16 ?_
  rintro _ S1 ⟨rfl, q1, h1⟩
  have d0 : ¬ dR (34 + 2 * j) (35 + 2 * j) 0 := by unfold dR; omega
  have o1 : gx_o S1 0 10 := q1.o o0
  have j1 : s_I S1 1012 0 = nI j := (q1.I d0).trans hj
  have z1 : s_I S1 1011 0 = nI z := (q1.I d0).trans hz
  refine g_aload_n (pc := 19) C dX11_rememberAct_19 rfl ?_
  refine g_aload_n (pc := 20) C dX11_rememberAct_20 rfl ?_
  refine fg_X11_187 (pc := 21) C (by exact o1.1) (zk (by exact o1.2)) dX11_rememberAct_21 ?_
  refine gx_ti (y := nI j) j1 ?_
  refine g_iconst (pc := 24) (v := nI 1) C dX11_rememberAct_24 (by decide) ?_
  refine g_iadd (pc := 25) C dX11_rememberAct_25 ?_
  refine gx_ti (y := nI (j + 1)) (nI_add _ _) ?_
  refine g_bipush (pc := 26) (v := nI 20) C dX11_rememberAct_26 (by decide) ?_
  refine g_irem (pc := 28) C dX11_rememberAct_28 (by decide) ?_
  refine gx_ti (y := nI ((j + 1) % 20)) (pk_rem (by omega) (by omega) (by omega)) ?_
  refine fp_X11_187 (pc := 29) C (by exact o1.1) (zk (by exact o1.2)) dX11_rememberAct_29 ?_
  refine g_aload_n (pc := 32) C dX11_rememberAct_32 rfl ?_
  refine g_bipush (pc := 33) (v := nI 20) C dX11_rememberAct_33 (by decide) ?_
  refine g_aload_n (pc := 35) C dX11_rememberAct_35 rfl ?_
  refine fg_X11_184 (pc := 36) C (by exact o1.1) (zk (by exact o1.2)) dX11_rememberAct_36 ?_
  refine gx_ti (y := nI z) ((gI_ne (Or.inl (by decide))).trans z1) ?_
  refine g_iconst (pc := 39) (v := nI 1) C dX11_rememberAct_39 (by decide) ?_
  refine g_iadd (pc := 40) C dX11_rememberAct_40 ?_
  refine gx_ti (y := nI (z + 1)) (nI_add _ _) ?_
  refine g_mmin (pc := 41) C wl_X11_179 ⟨rfl, rfl⟩ ⟨Nat.zero_le _, Nat.zero_le _⟩ rfl (Nat.le_of_ble_eq_true rfl) dX11_rememberAct_41 ?_
  refine gx_ti (y := nI (min 20 (z + 1))) (mn_n (by omega) (by omega)) ?_
  refine fp_X11_184 (pc := 44) C (by exact o1.1) (zk (by exact o1.2)) dX11_rememberAct_44 ?_
  rw [← hpost]
  exact g_return (pc := 47) C ⟨rfl, rfl⟩ dX11_rememberAct_47 ⟨rfl, (q1.mono (fun k e => Or.inr e)).trans ((eqO.sI (Or.inl rfl)).trans (eqO.sI (Or.inl rfl))), fun f => q1.R d0, fun f f1 f2 => (gI_ne (Or.inl f1)).trans ((gI_ne (Or.inl f2)).trans (q1.I d0)), (gI_ne (Or.inl (by decide))).trans gI_at, gI_at, (h1.to (D := fun k => k = 0) (eqO.sI rfl) ⟨by omega, by omega⟩).to (D := fun k => k = 0) (eqO.sI rfl) ⟨by omega, by omega⟩⟩
