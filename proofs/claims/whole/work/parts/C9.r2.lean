/-! ===== how it begins ===== -/
theorem i0_af : afK sME := by
  refine ⟨by decide +kernel, by decide +kernel, by decide +kernel, by decide +kernel, by decide +kernel, by decide +kernel, by decide +kernel, by decide +kernel, ?_⟩
  unfold rvK gx_o gx_a okK
  decide +kernel
theorem i0_cr : crK sME 8 9 10 11 12 := by
  unfold crK gx_o gx_a okK
  decide +kernel
theorem i0_sp : crK sME 90 91 92 93 94 := by
  unfold crK gx_o gx_a okK
  decide +kernel
theorem i0_fog : ∀ h, h ≤ 60 → (fgB (s_L sME 5 8) h ↔ s_A sME 1010 (98 + h) = nI 1) := by
  unfold fgB
  decide +kernel
theorem i0_rv : rvS sME 13 14 0 (s_A sME 1010) := by
  refine ⟨?_, ⟨by decide +kernel, by decide +kernel, by decide +kernel, by decide +kernel, by decide +kernel, fun p hp => absurd hp (by omega)⟩, Or.inl (by decide +kernel), fun p hp => absurd hp (by omega)⟩
  unfold rvK gx_o gx_a okK
  decide +kernel
theorem i0_sc : scK sME 7 13 14 15 := by
  unfold scK rvK gx_o gx_a okK
  decide +kernel
theorem i0_ft : ftK sME := by
  unfold ftK plK rvK gx_o gx_a okK
  decide +kernel
theorem i0_pz : pzK sME := by
  unfold pzK rvK gx_o gx_a okK
  decide +kernel
theorem i0_im0 : s_Q sME 16 0 = some 17 ∧ scK sME 17 18 19 20 := by
  refine ⟨by decide +kernel, ?_⟩
  unfold scK rvK gx_o gx_a okK
  decide +kernel
theorem i0_im1 : s_Q sME 16 1 = some 21 ∧ scK sME 21 22 23 24 := by
  refine ⟨by decide +kernel, ?_⟩
  unfold scK rvK gx_o gx_a okK
  decide +kernel
theorem i0_im2 : s_Q sME 16 2 = some 25 ∧ scK sME 25 26 27 28 := by
  refine ⟨by decide +kernel, ?_⟩
  unfold scK rvK gx_o gx_a okK
  decide +kernel
theorem i0_im3 : s_Q sME 16 3 = some 29 ∧ scK sME 29 30 31 32 := by
  refine ⟨by decide +kernel, ?_⟩
  unfold scK rvK gx_o gx_a okK
  decide +kernel
theorem i0_im : imK sME := fun k hk => by
  have h : k = 0 ∨ k = 1 ∨ k = 2 ∨ k = 3 := by omega
  rcases h with rfl | rfl | rfl | rfl
  · exact i0_im0
  · exact i0_im1
  · exact i0_im2
  · exact i0_im3
theorem i0_6 : gx_a sME 6 17 6 := by
  unfold gx_a okK
  decide +kernel
theorem i0_iv : ∀ k, k < 4 → s_I sME 805 (17 + 4 * k) = 0 := by decide +kernel
theorem i0_mm : ∀ k, k < 4 → s_A sME 1025 k = 0 := by decide +kernel
set_option maxRecDepth 100000 in
theorem i0_tp : s_A sME 2 = s_A sME 1001 := rfl
theorem mr_lo : ∀ f, f < 1200 → mRef f = none ∨ s_R sME f 1000 = mRef f := by decide +kernel
theorem mr_hi : ∀ f, 1200 ≤ f → mRef f = none := fun f hf => by
  unfold mRef
  repeat rw [if_neg (by omega)]
theorem rl_none {S : St} {Fs : Nat → (Nat → Int64) → Int64} (h : gx_a S 6 17 6) : rlS S 0 Fs := ⟨h, by decide, fun r hr => absurd hr (Nat.not_lt_zero r)⟩
theorem i0_rl : rlS sME 0 (fun _ _ => 0) := rl_none i0_6
theorem i0_m : gx_m sME := by
  refine ⟨fun f j h => ?_, by decide +kernel⟩
  by_cases hf : f < 1200
  · rcases mr_lo f hf with e | e
    · rw [e] at h; cases h
    · rw [e]; exact h
  · rw [mr_hi f (by omega)] at h; cases h
def q0 : K5 := (90, 91, 92, 93, 94)
theorem i0_C : CI sME q0 8 9 10 11 12 0 0 0 0 0 0 0 (s_A sME 1010) (-1) (s_I sME 803 7) (fun _ _ => 0) (fun _ _ => 0) (s_A sME 1001) (fun _ => none) := by
  refine ⟨⟨⟨i0_af, ⟨by decide +kernel, by decide +kernel, by decide +kernel, ⟨i0_cr, ⟨by decide +kernel, by decide +kernel, by decide +kernel, by decide +kernel, by decide +kernel, fun p hp => absurd hp (by omega), fun p hp => absurd hp (by omega), i0_fog⟩, by decide⟩, ?_, i0_rv⟩, i0_sc, i0_ft, i0_pz⟩, ⟨by decide +kernel, by decide, by decide +kernel, fun q hq => absurd hq (by omega)⟩, ⟨⟨fun p hp => absurd hp (by omega), fun p hp => absurd hp (by omega), ⟨0, by decide, by decide +kernel⟩, fun p hp => absurd hp (by omega)⟩, ⟨0, by decide, by decide +kernel⟩, ⟨0, by decide, by decide +kernel⟩, fun p hp => absurd hp (by omega), fun p hp => absurd hp (by omega)⟩, ⟨by decide +kernel, by decide⟩, ⟨Or.inl ⟨by decide +kernel, rfl⟩, by decide +kernel⟩, ⟨i0_rl, by decide +kernel⟩, ⟨by decide +kernel, Or.inl rfl⟩, rfl, by decide +kernel⟩, ⟨⟨by decide +kernel, by decide, by decide +kernel, by decide⟩, fun i hi => absurd hi (by omega)⟩, ⟨⟨by decide +kernel, by decide +kernel, by decide +kernel, by decide⟩, i0_tp, fun i hi => absurd hi (by omega)⟩, ⟨by decide +kernel, by decide +kernel, by decide +kernel, by decide +kernel, by decide +kernel⟩, ⟨⟨by decide +kernel, i0_sp, ?_⟩, ?_, fun r hr => absurd hr (by omega)⟩, i0_im, i0_iv⟩
  · unfold cK5 ck; decide
  · unfold q0 k5D cK5 ck; decide
  · unfold ap5 ap q0; decide
theorem i0_R : RI sME 0 0 0 0 0 (s_A sME 1010) (-1) (s_I sME 803 7) (fun _ _ => 0) (fun _ _ => 0) (s_A sME 1001) (fun _ => none) :=
  ⟨i0_m, ⟨rfl, by decide +kernel, by decide, by decide +kernel, by decide⟩, ⟨by decide +kernel, by decide +kernel, by decide +kernel⟩, ⟨by decide +kernel, by decide, fun r hr => absurd hr (by omega)⟩, ⟨by decide +kernel, by decide, fun i hi => absurd hi (by omega), fun i hi => absurd hi (by omega)⟩, ⟨by decide +kernel, by decide, rfl⟩, i0_mm⟩
theorem i0 : INV sME := INV.mk i0_C i0_R
