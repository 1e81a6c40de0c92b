/-! ===== THE CLASS: AimFerry: undo, end ===== -/
theorem c_X11_undo (w : Wd) (l : Launch) (S : St) (P j z : Nat) (u : Nat → Int32) (h : afK S) (hs : scK S 7 13 14 15) (hP : P ≤ 7) (hj : s_I S 1012 0 = nI j) (hj2 : j < 20) (hz : s_I S 1011 0 = nI z) (hz2 : z ≤ 20) (hu : 0 < z → rvS S (34 + 2 * ((j + 19) % 20)) (35 + 2 * ((j + 19) % 20)) P u) : gx_M w l yX11_undo cX11_undo 1 (some .int) rmX11_undo [.ref (ad (w_b w) 0)] S (fun v S' => if z = 0 then (v = some (.int (-1)) ∧ S' = S) else (v = some (.int (nI (z - 1))) ∧ eqO (fun k => k = 0 ∨ k = 13 ∨ k = 14) S S' ∧ (∀ f, s_R S' f 0 = s_R S f 0) ∧ (∀ f, f ≠ 1011 → f ≠ 1012 → s_I S' f 0 = s_I S f 0) ∧ s_I S' 1012 0 = nI ((j + 19) % 20) ∧ s_I S' 1011 0 = nI (z - 1) ∧ rvS S' 13 14 P u)) := by
  have o0 : gx_o S 0 10 := o_st h.1 rfl rfl
  generalize hpost : (fun (v : Option Value) (S' : St) => if z = 0 then (v = some (.int (-1)) ∧ S' = S) else (v = some (.int (nI (z - 1))) ∧ eqO (fun k => k = 0 ∨ k = 13 ∨ k = 14) S S' ∧ (∀ f, s_R S' f 0 = s_R S f 0) ∧ (∀ f, f ≠ 1011 → f ≠ 1012 → s_I S' f 0 = s_I S f 0) ∧ s_I S' 1012 0 = nI ((j + 19) % 20) ∧ s_I S' 1011 0 = nI (z - 1) ∧ rvS S' 13 14 P u)) = post
  refine gx_start rfl 0 rfl (Nat.le_of_ble_eq_true rfl) ?_
  intro X C _ hl
  subst hl
  refine gx_L (L' := [_]) rfl ?_
  refine g_aload_n (pc := 0) C dX11_undo_0 rfl ?_
  refine fg_X11_184 (pc := 1) C (by exact o0.1) (zk (by exact o0.2)) dX11_undo_1 ?_
  refine gx_ti hz ?_
  by_cases z0 : z = 0
  · refine g_if_ne (pc := 4) C 9 dX11_undo_4 rfl (fun c1 => ?_) (fun c1 => ?_)
    · exact absurd (by rw [z0]; rfl) c1
    · refine g_iconst (pc := 7) (v := -1) C dX11_undo_7 (by decide) ?_
      rw [← hpost]
      exact g_ireturn (pc := 8) C ⟨rfl, rfl⟩ dX11_undo_8 (by rw [if_pos z0]; exact ⟨rfl, rfl⟩)
  · refine g_if_ne (pc := 4) C 9 dX11_undo_4 rfl (fun c1 => ?_) (fun c1 => ?_)
    · refine g_aload_n (pc := 9) C dX11_undo_9 rfl ?_
      refine g_aload_n (pc := 10) C dX11_undo_10 rfl ?_
      refine fg_X11_187 (pc := 11) C (by exact o0.1) (zk (by exact o0.2)) dX11_undo_11 ?_
      refine gx_ti (y := nI j) hj ?_
      refine g_bipush (pc := 14) (v := nI 20) C dX11_undo_14 (by decide) ?_
      refine g_iadd (pc := 16) C dX11_undo_16 ?_
      refine gx_ti (y := nI (j + 20)) (nI_add _ _) ?_
      refine g_iconst (pc := 17) (v := nI 1) C dX11_undo_17 (by decide) ?_
      refine g_isub (pc := 18) C dX11_undo_18 ?_
      refine gx_ti (y := nI (j + 20 - 1)) (pk_sub (by omega)) ?_
      refine g_bipush (pc := 19) (v := nI 20) C dX11_undo_19 (by decide) ?_
      refine g_irem (pc := 21) C dX11_undo_21 (by decide) ?_
      refine gx_ti (y := nI ((j + 19) % 20)) ((pk_rem (by omega) (by omega) (by omega)).trans (by congr 1)) ?_
      refine fp_X11_187 (pc := 22) C (by exact o0.1) (zk (by exact o0.2)) dX11_undo_22 ?_
      refine g_aload_n (pc := 25) C dX11_undo_25 rfl ?_
      refine g_dup (pc := 26) C dX11_undo_26 rfl ?_
      refine fg_X11_184 (pc := 27) C (by exact o0.1) (zk (by exact o0.2)) dX11_undo_27 ?_
      refine gx_ti (y := nI z) ((gI_ne (Or.inl (by decide))).trans hz) ?_
      refine g_iconst (pc := 30) (v := nI 1) C dX11_undo_30 (by decide) ?_
      refine g_isub (pc := 31) C dX11_undo_31 ?_
      refine gx_ti (y := nI (z - 1)) (pk_sub (by omega)) ?_
      refine fp_X11_184 (pc := 32) C (by exact o0.1) (zk (by exact o0.2)) dX11_undo_32 ?_
      generalize hS1 : s_setI (s_setI S 1012 0 (nI ((j + 19) % 20))) 1011 0 (nI (z - 1)) = S1
      have q1 : eqO (fun k => k = 0) S S1 := by rw [← hS1]; exact (eqO.sI (D := fun k => k = 0) rfl).trans (eqO.sI rfl)
      have R1 : ∀ f, s_R S1 f 0 = s_R S f 0 := fun f => by rw [← hS1]; rfl
      have I1 : ∀ f, f ≠ 1011 → f ≠ 1012 → s_I S1 f 0 = s_I S f 0 := fun f f1 f2 => by rw [← hS1, gI_ne (Or.inl f1), gI_ne (Or.inl f2)]
      have j1 : s_I S1 1012 0 = nI ((j + 19) % 20) := by rw [← hS1, gI_ne (Or.inl (by decide))]; exact gI_at
      have z1 : s_I S1 1011 0 = nI (z - 1) := by rw [← hS1]; exact gI_at
      have hm : (j + 19) % 20 < 20 := Nat.mod_lt _ (by omega)
      generalize (j + 19) % 20 = jj at *
      have o1 : gx_o S1 0 10 := q1.o o0
      have s1 : scK S1 7 13 14 15 := hs.to q1 (by omega) (by omega)
      have h1 : rvS S1 (34 + 2 * jj) (35 + 2 * jj) P u := (hu (by omega)).to q1 ⟨by omega, by omega⟩
      have a33 : gx_a S1 33 16 20 := q1.a (a_st h.1 rfl rfl rfl)
      have rp : s_R S1 1006 0 = some 33 := (R1 _).trans h.2.2.2.2.2.1
      have rn : s_R S1 1004 0 = some 7 := (R1 _).trans h.2.2.2.1
      have hq : s_Q S1 33 jj = some (34 + 2 * jj) := by rw [q1.Q (by omega)]; exact (h.2.2.2.2.2.2.2.2 jj hm).1
      refine g_aload_n (pc := 35) C dX11_undo_35 rfl ?_
      refine fgr_X11_46 (pc := 36) C (by exact o1.1) (zk (by exact o1.2)) (by exact rn) dX11_undo_36 ?_
      refine fgr_X11_120 (pc := 39) C (by exact s1.1.1) (zk (by exact s1.1.2)) (by exact s1.2.1) dX11_undo_39 ?_
      refine g_aload_n (pc := 42) C dX11_undo_42 rfl ?_
      refine fgr_X11_60 (pc := 43) C (by exact o1.1) (zk (by exact o1.2)) (by exact rp) dX11_undo_43 ?_
      refine g_aload_n (pc := 46) C dX11_undo_46 rfl ?_
      refine fg_X11_187 (pc := 47) C (by exact o1.1) (zk (by exact o1.2)) dX11_undo_47 ?_
      refine gx_ti (y := nI jj) j1 ?_
      refine g_aalds16 (pc := 50) (n := 20) C (by exact a33.1) (by exact a33.2.1) (zk (by exact a33.2.2)) rfl rfl (by omega) (by exact hq) dX11_undo_50 ?_
      refine cg_X11_190 (pc := 51) C (by exact s1.2.2.2.2.1.1) (zk (by exact s1.2.2.2.2.1.2)) (c_X6_copyFrom _ _ S1 13 14 (34 + 2 * jj) (35 + 2 * jj) P u hP s1.2.2.2.2 h1) ⟨rfl, rfl⟩ ⟨Nat.zero_le _, Nat.zero_le _⟩ rfl (Nat.le_of_ble_eq_true rfl) dX11_undo_51 ?_
      rintro _ S2 ⟨rfl, q2, h2⟩
      have d0 : ¬ dR 13 14 0 := by unfold dR; omega
      have o2 : gx_o S2 0 10 := q2.o o1
      have z2 : s_I S2 1011 0 = nI (z - 1) := (q2.I d0).trans z1
      refine g_aload_n (pc := 54) C dX11_undo_54 rfl ?_
      refine fg_X11_184 (pc := 55) C (by exact o2.1) (zk (by exact o2.2)) dX11_undo_55 ?_
      refine gx_ti z2 ?_
      rw [← hpost]
      exact g_ireturn (pc := 58) C ⟨rfl, rfl⟩ dX11_undo_58 (by rw [if_neg z0]; exact ⟨rfl, (q1.mono (fun k e => Or.inl e)).trans (q2.mono (fun k e => Or.inr e)), fun f => (q2.R d0).trans (R1 f), fun f f1 f2 => (q2.I d0).trans (I1 f f1 f2), (q2.I d0).trans j1, z2, h2⟩)
    · exact absurd ((nI_eq (b := 0) (by omega) (by omega)).mp (Decidable.not_not.mp c1)) z0
