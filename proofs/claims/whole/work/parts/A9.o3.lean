/-! ===== constructors ===== -/
def mkA (S : St) (o f kd n : Nat) : St := s_setR (s_new S kd n) f o (some (kz (s_z S)))
def fitB (z kd n : Nat) : Bool := if z < 95 then (lXk.getD z 99 == kd && lXn.getD z 0 == n) else if z < 121 then (lMk.getD (z - 95) 99 == kd && lMn.getD (z - 95) 0 == n) else true
theorem fit_dyn {z kd n : Nat} (h : 121 ≤ z) : fitB z kd n = true := by unfold fitB; rw [if_neg (by omega), if_neg (by omega)]
theorem fit_kn {S : St} {kd n : Nat} (h : fitB (s_z S) kd n = true) : s_k (s_new S kd n) (kz (s_z S)) = kd ∧ s_n (s_new S kd n) (kz (s_z S)) = n := by
  unfold fitB at h
  have e1 : (s_new S kd n).1 (kz (s_z S)) = kd := if_pos rfl
  have e2 : (s_new S kd n).2.1 (kz (s_z S)) = n := if_pos rfl
  unfold s_k s_n
  by_cases h1 : s_z S < 95
  · rw [if_pos h1] at h
    have ek : kz (s_z S) = s_z S := by unfold kz; rw [if_pos h1]
    simp only [Bool.and_eq_true, beq_iff_eq] at h
    rw [ek, if_pos (by omega), if_pos (by omega)]
    exact h
  · rw [if_neg h1] at h
    by_cases h2 : s_z S < 121
    · rw [if_pos h2] at h
      have ek : kz (s_z S) = 1000 + (s_z S - 95) := by unfold kz; rw [if_neg h1, if_pos h2]
      simp only [Bool.and_eq_true, beq_iff_eq] at h
      rw [ek, if_neg (by omega), if_pos (by omega), if_neg (by omega), if_pos (by omega), show 1000 + (s_z S - 95) - 1000 = s_z S - 95 from by omega]
      exact h
    · have ek : kz (s_z S) = 2000 + (s_z S - 121) := by unfold kz; rw [if_neg h1, if_neg h2]
      rw [e1, e2]
      rw [ek, if_neg (by omega), if_neg (by omega), if_neg (by omega), if_neg (by omega)]
      exact ⟨rfl, rfl⟩
abbrev hasK (b : Nat) (S : St) (k kd : Nat) : Prop := s_k S k = kd ∧ ad b k < b + s_z S
theorem kz_ne {b k : Nat} {S : St} (h : ad b k < b + s_z S) : k ≠ kz (s_z S) := fun e => by
  rw [e, kz_ad] at h; omega
theorem nw_o {b k kd kd' n : Nat} {S : St} (h : hasK b S k kd) : hasK b (s_new S kd' n) k kd := ⟨(nw_k (kz_ne h.2)).trans h.1, by rw [nw_z]; have := h.2; omega⟩
theorem nw_h {b kd n : Nat} {S : St} (h : fitB (s_z S) kd n = true) : hasK b (s_new S kd n) (kz (s_z S)) kd := ⟨(fit_kn h).1, by rw [kz_ad, nw_z]; omega⟩
theorem zc {b k : Nat} {S : St} (h : ad 0 k < s_z S) : ad b k < b + s_z S := by
  unfold ad at *
  by_cases h1 : k < 1000
  · rw [if_pos h1] at *; omega
  · rw [if_neg h1] at *
    by_cases h2 : k < 2000
    · rw [if_pos h2] at *; omega
    · rw [if_neg h2] at *; omega
def rmIX6_init : Room := { frames := 2, cells := 1, slots := 7, locals := 40 }
def mk_X6_init (S : St) (o : Nat) : St := (mkA S o 505 13 7)
theorem c_X6_init (w : Wd) (l : Launch) (S : St) (o : Nat) (ho : hasK (w_b w) S o 5) (hf : fitB (s_z S) 13 7 = true ∧ True) : gx_M w l yX6_init cX6_init 1 none rmIX6_init [.ref (ad (w_b w) o)] S (pV (mk_X6_init S o)) := by
  refine gx_start rfl 0 rfl (Nat.le_of_ble_eq_true rfl) ?_
  intro X C hI hl
  subst hl
  refine gx_L (L' := [_]) rfl ?_
  refine g_aload_n (pc := 0) C dX6_init_0 rfl ?_
  refine go_X6_3 (pc := 1) C rfl (Nat.le_of_ble_eq_true rfl) ⟨rfl, rfl⟩ dX6_init_1 ?_
  refine g_aload_n (pc := 4) C dX6_init_4 rfl ?_
  refine g_bipush (pc := 5) (v := nI 7) C dX6_init_5 (by decide) ?_
  refine gm_int (pc := 7) C rfl (by decide) (fit_kn (S := S) hf.1).1 (fit_kn (S := S) hf.1).2 ⟨by decide, by decide⟩ dX6_init_7 ?_
  have h1 : hasK (w_b w) (s_new S 13 7) o _ := nw_o ho
  refine fps_X6_9 (pc := 9) C h1.1 h1.2 (hI rfl) dX6_init_9 ?_
  refine gx_S (S' := (mkA S o 505 13 7)) rfl ?_
  have h2 : hasK (w_b w) (mkA S o 505 13 7) o _ := h1
  exact g_return (pc := 12) C ⟨rfl, rfl⟩ dX6_init_12 ⟨rfl, rfl⟩
def rmIX0_init : Room := { frames := 2, cells := 4, slots := 70, locals := 40 }
def mk_X0_init (S : St) (o : Nat) : St := (mkA (mkA (mkA (mkA S o 6 13 7) o 7 13 7) o 8 13 7) o 9 13 49)
theorem c_X0_init (w : Wd) (l : Launch) (S : St) (o : Nat) (ho : hasK (w_b w) S o 0) (hf : fitB (s_z S) 13 7 = true ∧ fitB (s_z S + 1) 13 7 = true ∧ fitB (s_z S + 2) 13 7 = true ∧ fitB (s_z S + 3) 13 49 = true ∧ True) : gx_M w l yX0_init cX0_init 1 none rmIX0_init [.ref (ad (w_b w) o)] S (pV (mk_X0_init S o)) := by
  refine gx_start rfl 0 rfl (Nat.le_of_ble_eq_true rfl) ?_
  intro X C hI hl
  subst hl
  refine gx_L (L' := [_]) rfl ?_
  refine g_aload_n (pc := 0) C dX0_init_0 rfl ?_
  refine go_X0_3 (pc := 1) C rfl (Nat.le_of_ble_eq_true rfl) ⟨rfl, rfl⟩ dX0_init_1 ?_
  refine g_aload_n (pc := 4) C dX0_init_4 rfl ?_
  refine g_bipush (pc := 5) (v := nI 7) C dX0_init_5 (by decide) ?_
  refine gm_int (pc := 7) C rfl (by decide) (fit_kn (S := S) hf.1).1 (fit_kn (S := S) hf.1).2 ⟨by decide, by decide⟩ dX0_init_7 ?_
  have h1 : hasK (w_b w) (s_new S 13 7) o _ := nw_o ho
  refine fps_X0_9 (pc := 9) C h1.1 h1.2 (hI rfl) dX0_init_9 ?_
  refine gx_S (S' := (mkA S o 6 13 7)) rfl ?_
  have h2 : hasK (w_b w) (mkA S o 6 13 7) o _ := h1
  refine g_aload_n (pc := 12) C dX0_init_12 rfl ?_
  refine g_bipush (pc := 13) (v := nI 7) C dX0_init_13 (by decide) ?_
  refine gm_int (pc := 15) C rfl (by decide) (fit_kn (S := (mkA S o 6 13 7)) hf.2.1).1 (fit_kn (S := (mkA S o 6 13 7)) hf.2.1).2 ⟨by decide, by decide⟩ dX0_init_15 ?_
  have h3 : hasK (w_b w) (s_new (mkA S o 6 13 7) 13 7) o _ := nw_o h2
  refine fps_X0_15 (pc := 17) C h3.1 h3.2 (hI rfl) dX0_init_17 ?_
  refine gx_S (S' := (mkA (mkA S o 6 13 7) o 7 13 7)) rfl ?_
  have h4 : hasK (w_b w) (mkA (mkA S o 6 13 7) o 7 13 7) o _ := h3
  refine g_aload_n (pc := 20) C dX0_init_20 rfl ?_
  refine g_bipush (pc := 21) (v := nI 7) C dX0_init_21 (by decide) ?_
  refine gm_int (pc := 23) C rfl (by decide) (fit_kn (S := (mkA (mkA S o 6 13 7) o 7 13 7)) hf.2.2.1).1 (fit_kn (S := (mkA (mkA S o 6 13 7) o 7 13 7)) hf.2.2.1).2 ⟨by decide, by decide⟩ dX0_init_23 ?_
  have h5 : hasK (w_b w) (s_new (mkA (mkA S o 6 13 7) o 7 13 7) 13 7) o _ := nw_o h4
  refine fps_X0_18 (pc := 25) C h5.1 h5.2 (hI rfl) dX0_init_25 ?_
  refine gx_S (S' := (mkA (mkA (mkA S o 6 13 7) o 7 13 7) o 8 13 7)) rfl ?_
  have h6 : hasK (w_b w) (mkA (mkA (mkA S o 6 13 7) o 7 13 7) o 8 13 7) o _ := h5
  refine g_aload_n (pc := 28) C dX0_init_28 rfl ?_
  refine g_bipush (pc := 29) (v := nI 49) C dX0_init_29 (by decide) ?_
  refine gm_int (pc := 31) C rfl (by decide) (fit_kn (S := (mkA (mkA (mkA S o 6 13 7) o 7 13 7) o 8 13 7)) hf.2.2.2.1).1 (fit_kn (S := (mkA (mkA (mkA S o 6 13 7) o 7 13 7) o 8 13 7)) hf.2.2.2.1).2 ⟨by decide, by decide⟩ dX0_init_31 ?_
  have h7 : hasK (w_b w) (s_new (mkA (mkA (mkA S o 6 13 7) o 7 13 7) o 8 13 7) 13 49) o _ := nw_o h6
  refine fps_X0_21 (pc := 33) C h7.1 h7.2 (hI rfl) dX0_init_33 ?_
  refine gx_S (S' := (mkA (mkA (mkA (mkA S o 6 13 7) o 7 13 7) o 8 13 7) o 9 13 49)) rfl ?_
  have h8 : hasK (w_b w) (mkA (mkA (mkA (mkA S o 6 13 7) o 7 13 7) o 8 13 7) o 9 13 49) o _ := h7
  exact g_return (pc := 36) C ⟨rfl, rfl⟩ dX0_init_36 ⟨rfl, rfl⟩
def rmIX3_init : Room := { frames := 2, cells := 2, slots := 52, locals := 40 }
def mk_X3_init (S : St) (o : Nat) : St := (mkA (mkA S o 300 14 12) o 301 14 40)
theorem c_X3_init (w : Wd) (l : Launch) (S : St) (o : Nat) (ho : hasK (w_b w) S o 3) (hf : fitB (s_z S) 14 12 = true ∧ fitB (s_z S + 1) 14 40 = true ∧ True) : gx_M w l yX3_init cX3_init 1 none rmIX3_init [.ref (ad (w_b w) o)] S (pV (mk_X3_init S o)) := by
  refine gx_start rfl 0 rfl (Nat.le_of_ble_eq_true rfl) ?_
  intro X C hI hl
  subst hl
  refine gx_L (L' := [_]) rfl ?_
  refine g_aload_n (pc := 0) C dX3_init_0 rfl ?_
  refine go_X3_3 (pc := 1) C rfl (Nat.le_of_ble_eq_true rfl) ⟨rfl, rfl⟩ dX3_init_1 ?_
  refine g_aload_n (pc := 4) C dX3_init_4 rfl ?_
  refine g_bipush (pc := 5) (v := nI 12) C dX3_init_5 (by decide) ?_
  refine gm_long (pc := 7) C rfl (by decide) (fit_kn (S := S) hf.1).1 (fit_kn (S := S) hf.1).2 ⟨by decide, by decide⟩ dX3_init_7 ?_
  have h1 : hasK (w_b w) (s_new S 14 12) o _ := nw_o ho
  refine fps_X3_11 (pc := 9) C h1.1 h1.2 (hI rfl) dX3_init_9 ?_
  refine gx_S (S' := (mkA S o 300 14 12)) rfl ?_
  have h2 : hasK (w_b w) (mkA S o 300 14 12) o _ := h1
  refine g_aload_n (pc := 12) C dX3_init_12 rfl ?_
  refine g_bipush (pc := 13) (v := nI 40) C dX3_init_13 (by decide) ?_
  refine gm_long (pc := 15) C rfl (by decide) (fit_kn (S := (mkA S o 300 14 12)) hf.2.1).1 (fit_kn (S := (mkA S o 300 14 12)) hf.2.1).2 ⟨by decide, by decide⟩ dX3_init_15 ?_
  have h3 : hasK (w_b w) (s_new (mkA S o 300 14 12) 14 40) o _ := nw_o h2
  refine fps_X3_17 (pc := 17) C h3.1 h3.2 (hI rfl) dX3_init_17 ?_
  refine gx_S (S' := (mkA (mkA S o 300 14 12) o 301 14 40)) rfl ?_
  have h4 : hasK (w_b w) (mkA (mkA S o 300 14 12) o 301 14 40) o _ := h3
  exact g_return (pc := 20) C ⟨rfl, rfl⟩ dX3_init_20 ⟨rfl, rfl⟩
def rmIX10_init : Room := { frames := 2, cells := 1, slots := 400, locals := 40 }
def mk_X10_init (S : St) (o : Nat) : St := (mkA S o 900 12 400)
theorem c_X10_init (w : Wd) (l : Launch) (S : St) (o : Nat) (ho : hasK (w_b w) S o 9) (hf : fitB (s_z S) 12 400 = true ∧ True) : gx_M w l yX10_init cX10_init 1 none rmIX10_init [.ref (ad (w_b w) o)] S (pV (mk_X10_init S o)) := by
  refine gx_start rfl 0 rfl (Nat.le_of_ble_eq_true rfl) ?_
  intro X C hI hl
  subst hl
  refine gx_L (L' := [_]) rfl ?_
  refine g_aload_n (pc := 0) C dX10_init_0 rfl ?_
  refine go_X10_3 (pc := 1) C rfl (Nat.le_of_ble_eq_true rfl) ⟨rfl, rfl⟩ dX10_init_1 ?_
  refine g_aload_n (pc := 4) C dX10_init_4 rfl ?_
  refine g_sipush (pc := 5) (v := nI 400) C dX10_init_5 (by decide) ?_
  refine gm_byte (pc := 8) C rfl (by decide) (fit_kn (S := S) hf.1).1 (fit_kn (S := S) hf.1).2 ⟨by decide, by decide⟩ dX10_init_8 ?_
  have h1 : hasK (w_b w) (s_new S 12 400) o _ := nw_o ho
  refine fps_X10_9 (pc := 10) C h1.1 h1.2 (hI rfl) dX10_init_10 ?_
  refine gx_S (S' := (mkA S o 900 12 400)) rfl ?_
  have h2 : hasK (w_b w) (mkA S o 900 12 400) o _ := h1
  exact g_return (pc := 13) C ⟨rfl, rfl⟩ dX10_init_13 ⟨rfl, rfl⟩
def rmIX5_init_X1 : Room := { frames := 2, cells := 0, slots := 0, locals := 40 }
def mk_X5_init_X1 (S : St) (o p1 : Nat) : St := (s_setR S 100 o (some p1))
theorem c_X5_init_X1 (w : Wd) (l : Launch) (S : St) (o p1 : Nat) (ho : hasK (w_b w) S o 1) (hf : True) : gx_M w l yX5_init cX5_init 2 none rmIX5_init_X1 [.ref (ad (w_b w) o), .ref (ad (w_b w) p1)] S (pV (mk_X5_init_X1 S o p1)) := by
  refine gx_start rfl 0 rfl (Nat.le_of_ble_eq_true rfl) ?_
  intro X C hI hl
  subst hl
  refine gx_L (L' := [_, _]) rfl ?_
  refine g_aload_n (pc := 0) C dX5_init_0 rfl ?_
  refine go_X5_3 (pc := 1) C rfl (Nat.le_of_ble_eq_true rfl) ⟨rfl, rfl⟩ dX5_init_1 ?_
  refine g_aload_n (pc := 4) C dX5_init_4 rfl ?_
  refine g_aload_n (pc := 5) C dX5_init_5 rfl ?_
  refine fps_X5_9_X1 (pc := 6) C ho.1 ho.2 (hI rfl) dX5_init_6 ?_
  refine gx_S (S' := (s_setR S 100 o (some p1))) rfl ?_
  have h1 : hasK (w_b w) (s_setR S 100 o (some p1)) o _ := ho
  exact g_return (pc := 9) C ⟨rfl, rfl⟩ dX5_init_9 ⟨rfl, rfl⟩
def rmIX5_init_X8 : Room := { frames := 2, cells := 0, slots := 0, locals := 40 }
def mk_X5_init_X8 (S : St) (o p1 : Nat) : St := (s_setR S 700 o (some p1))
theorem c_X5_init_X8 (w : Wd) (l : Launch) (S : St) (o p1 : Nat) (ho : hasK (w_b w) S o 7) (hf : True) : gx_M w l yX5_init cX5_init 2 none rmIX5_init_X8 [.ref (ad (w_b w) o), .ref (ad (w_b w) p1)] S (pV (mk_X5_init_X8 S o p1)) := by
  refine gx_start rfl 0 rfl (Nat.le_of_ble_eq_true rfl) ?_
  intro X C hI hl
  subst hl
  refine gx_L (L' := [_, _]) rfl ?_
  refine g_aload_n (pc := 0) C dX5_init_0 rfl ?_
  refine go_X5_3 (pc := 1) C rfl (Nat.le_of_ble_eq_true rfl) ⟨rfl, rfl⟩ dX5_init_1 ?_
  refine g_aload_n (pc := 4) C dX5_init_4 rfl ?_
  refine g_aload_n (pc := 5) C dX5_init_5 rfl ?_
  refine fps_X5_9_X8 (pc := 6) C ho.1 ho.2 (hI rfl) dX5_init_6 ?_
  refine gx_S (S' := (s_setR S 700 o (some p1))) rfl ?_
  have h1 : hasK (w_b w) (s_setR S 700 o (some p1)) o _ := ho
  exact g_return (pc := 9) C ⟨rfl, rfl⟩ dX5_init_9 ⟨rfl, rfl⟩
def rmIX1_init : Room := { frames := 3, cells := 0, slots := 0, locals := 61 }
def mk_X1_init (S : St) (o p1 : Nat) : St := (mk_X5_init_X1 S o p1)
theorem c_X1_init (w : Wd) (l : Launch) (S : St) (o p1 : Nat) (ho : hasK (w_b w) S o 1) (hf : True) : gx_M w l yX1_init cX1_init 2 none rmIX1_init [.ref (ad (w_b w) o), .ref (ad (w_b w) p1)] S (pV (mk_X1_init S o p1)) := by
  refine gx_start rfl 0 rfl (Nat.le_of_ble_eq_true rfl) ?_
  intro X C hI hl
  subst hl
  refine gx_L (L' := [_, _]) rfl ?_
  refine g_aload_n (pc := 0) C dX1_init_0 rfl ?_
  refine g_aload_n (pc := 1) C dX1_init_1 rfl ?_
  refine ci_X1_3 (pc := 2) C (c_X5_init_X1 w _ S o p1 ho trivial) ⟨rfl, rfl⟩ ⟨by decide, by decide⟩ rfl (Nat.le_of_ble_eq_true rfl) dX1_init_2 ?_
  rintro _ _ ⟨rfl, rfl⟩
  have h1 : hasK (w_b w) (mk_X5_init_X1 S o p1) o _ := ho
  exact g_return (pc := 5) C ⟨rfl, rfl⟩ dX1_init_5 ⟨rfl, rfl⟩
def rmIX8_init : Room := { frames := 3, cells := 1, slots := 512, locals := 61 }
def mk_X8_init (S : St) (o p1 : Nat) : St := (mkA (mk_X5_init_X8 S o p1) o 703 13 512)
theorem c_X8_init (w : Wd) (l : Launch) (S : St) (o p1 : Nat) (ho : hasK (w_b w) S o 7) (hf : fitB (s_z S) 13 512 = true ∧ True) : gx_M w l yX8_init cX8_init 2 none rmIX8_init [.ref (ad (w_b w) o), .ref (ad (w_b w) p1)] S (pV (mk_X8_init S o p1)) := by
  refine gx_start rfl 0 rfl (Nat.le_of_ble_eq_true rfl) ?_
  intro X C hI hl
  subst hl
  refine gx_L (L' := [_, _]) rfl ?_
  refine g_aload_n (pc := 0) C dX8_init_0 rfl ?_
  refine g_aload_n (pc := 1) C dX8_init_1 rfl ?_
  refine ci_X8_3 (pc := 2) C (c_X5_init_X8 w _ S o p1 ho trivial) ⟨rfl, rfl⟩ ⟨by decide, by decide⟩ rfl (Nat.le_of_ble_eq_true rfl) dX8_init_2 ?_
  rintro _ _ ⟨rfl, rfl⟩
  have h1 : hasK (w_b w) (mk_X5_init_X8 S o p1) o _ := ho
  refine g_aload_n (pc := 5) C dX8_init_5 rfl ?_
  refine g_sipush (pc := 6) (v := nI 512) C dX8_init_6 (by decide) ?_
  refine gm_int (pc := 9) C rfl (by decide) (fit_kn (S := (mk_X5_init_X8 S o p1)) hf.1).1 (fit_kn (S := (mk_X5_init_X8 S o p1)) hf.1).2 ⟨by decide, by decide⟩ dX8_init_9 ?_
  have h2 : hasK (w_b w) (s_new (mk_X5_init_X8 S o p1) 13 512) o _ := nw_o h1
  refine fps_X8_11 (pc := 11) C h2.1 h2.2 (hI rfl) dX8_init_11 ?_
  refine gx_S (S' := (mkA (mk_X5_init_X8 S o p1) o 703 13 512)) rfl ?_
  have h3 : hasK (w_b w) (mkA (mk_X5_init_X8 S o p1) o 703 13 512) o _ := h2
  exact g_return (pc := 14) C ⟨rfl, rfl⟩ dX8_init_14 ⟨rfl, rfl⟩
def rmIX7_init : Room := { frames := 2, cells := 0, slots := 0, locals := 40 }
def mk_X7_init (S : St) (o p1 : Nat) : St := (s_setR S 600 o (some p1))
theorem c_X7_init (w : Wd) (l : Launch) (S : St) (o p1 : Nat) (ho : hasK (w_b w) S o 6) (hf : True) : gx_M w l yX7_init cX7_init 2 none rmIX7_init [.ref (ad (w_b w) o), .ref (ad (w_b w) p1)] S (pV (mk_X7_init S o p1)) := by
  refine gx_start rfl 0 rfl (Nat.le_of_ble_eq_true rfl) ?_
  intro X C hI hl
  subst hl
  refine gx_L (L' := [_, _]) rfl ?_
  refine g_aload_n (pc := 0) C dX7_init_0 rfl ?_
  refine go_X7_1 (pc := 1) C rfl (Nat.le_of_ble_eq_true rfl) ⟨rfl, rfl⟩ dX7_init_1 ?_
  refine g_aload_n (pc := 4) C dX7_init_4 rfl ?_
  refine g_aload_n (pc := 5) C dX7_init_5 rfl ?_
  refine fps_X7_7 (pc := 6) C ho.1 ho.2 (hI rfl) dX7_init_6 ?_
  refine gx_S (S' := (s_setR S 600 o (some p1))) rfl ?_
  have h1 : hasK (w_b w) (s_setR S 600 o (some p1)) o _ := ho
  exact g_return (pc := 9) C ⟨rfl, rfl⟩ dX7_init_9 ⟨rfl, rfl⟩
def rmIX9_init : Room := { frames := 3, cells := 3, slots := 23, locals := 60 }
def mk_X9_init (S : St) (o p1 : Nat) : St := (s_setR (mkA (s_setI (s_setR (mk_X6_init (s_new S 5 0) (kz (s_z S))) 801 o (some (kz (s_z S)))) 802 o (-1)) o 806 13 10) 800 o (some p1))
theorem c_X9_init (w : Wd) (j : SJ) (l : Launch) (S : St) (o p1 : Nat) (ho : hasK (w_b w) S o 8) (hf : fitB (s_z S) 5 0 = true ∧ fitB (s_z S + 1) 13 7 = true ∧ fitB (s_z S + 2) 13 10 = true ∧ True) : gx_MV w j l yX9_init cX9_init 2 none rmIX9_init [.ref (ad (w_b w) o), .ref (ad (w_b w) p1)] S (pV (mk_X9_init S o p1)) := by
  refine gx_startV rfl 0 rfl (Nat.le_of_ble_eq_true rfl) ?_
  intro X C V hI hl
  subst hl
  refine gx_L (L' := [_, _]) rfl ?_
  refine g_aload_n (pc := 0) C dX9_init_0 rfl ?_
  refine go_X9_3 (pc := 1) C rfl (Nat.le_of_ble_eq_true rfl) ⟨rfl, rfl⟩ dX9_init_1 ?_
  refine g_aload_n (pc := 4) C dX9_init_4 rfl ?_
  refine gn_X9_9 (pc := 5) C (fit_kn (S := S) hf.1).1 (fit_kn (S := S) hf.1).2 ⟨by decide, by decide⟩ dX9_init_5 ?_
  have h1 : hasK (w_b w) (s_new S 5 0) o _ := nw_o ho
  have h2 : hasK (w_b w) (s_new S 5 0) (kz (s_z S)) 5 := nw_h (S := S) hf.1
  refine g_dup (pc := 8) C dX9_init_8 rfl ?_
  refine ci_X9_11 (pc := 9) C V (c_X6_init w _ (s_new S 5 0) (kz (s_z S)) h2 ⟨hf.2.1, trivial⟩) ⟨rfl, rfl⟩ ⟨by decide, by decide⟩ rfl (Nat.le_of_ble_eq_true rfl) dX9_init_9 ?_
  rintro _ _ ⟨rfl, rfl⟩
  have h3 : hasK (w_b w) (mk_X6_init (s_new S 5 0) (kz (s_z S))) o _ := (nw_o (kd' := 13) (n := 7) h1)
  have h4 : hasK (w_b w) (mk_X6_init (s_new S 5 0) (kz (s_z S))) (kz (s_z S)) _ := (nw_o (kd' := 13) (n := 7) h2)
  refine fps_X9_12 (pc := 12) C h3.1 h3.2 (hI rfl) dX9_init_12 ?_
  refine gx_S (S' := (s_setR (mk_X6_init (s_new S 5 0) (kz (s_z S))) 801 o (some (kz (s_z S))))) rfl ?_
  have h5 : hasK (w_b w) (s_setR (mk_X6_init (s_new S 5 0) (kz (s_z S))) 801 o (some (kz (s_z S)))) o _ := h3
  have h6 : hasK (w_b w) (s_setR (mk_X6_init (s_new S 5 0) (kz (s_z S))) 801 o (some (kz (s_z S)))) (kz (s_z S)) _ := h4
  refine g_aload_n (pc := 15) C dX9_init_15 rfl ?_
  refine g_iconst (pc := 16) (v := -1) C dX9_init_16 (by decide) ?_
  refine fp_X9_18 (pc := 17) C h5.1 h5.2 dX9_init_17 ?_
  refine gx_S (S' := (s_setI (s_setR (mk_X6_init (s_new S 5 0) (kz (s_z S))) 801 o (some (kz (s_z S)))) 802 o (-1))) rfl ?_
  have h7 : hasK (w_b w) (s_setI (s_setR (mk_X6_init (s_new S 5 0) (kz (s_z S))) 801 o (some (kz (s_z S)))) 802 o (-1)) o _ := h5
  have h8 : hasK (w_b w) (s_setI (s_setR (mk_X6_init (s_new S 5 0) (kz (s_z S))) 801 o (some (kz (s_z S)))) 802 o (-1)) (kz (s_z S)) _ := h6
  refine g_aload_n (pc := 20) C dX9_init_20 rfl ?_
  refine g_bipush (pc := 21) (v := nI 10) C dX9_init_21 (by decide) ?_
  refine gm_int (pc := 23) C rfl (by decide) (fit_kn (S := (s_setI (s_setR (mk_X6_init (s_new S 5 0) (kz (s_z S))) 801 o (some (kz (s_z S)))) 802 o (-1))) hf.2.2.1).1 (fit_kn (S := (s_setI (s_setR (mk_X6_init (s_new S 5 0) (kz (s_z S))) 801 o (some (kz (s_z S)))) 802 o (-1))) hf.2.2.1).2 ⟨by decide, by decide⟩ dX9_init_23 ?_
  have h9 : hasK (w_b w) (s_new (s_setI (s_setR (mk_X6_init (s_new S 5 0) (kz (s_z S))) 801 o (some (kz (s_z S)))) 802 o (-1)) 13 10) o _ := nw_o h7
  have h10 : hasK (w_b w) (s_new (s_setI (s_setR (mk_X6_init (s_new S 5 0) (kz (s_z S))) 801 o (some (kz (s_z S)))) 802 o (-1)) 13 10) (kz (s_z S)) _ := nw_o h8
  refine fps_X9_22 (pc := 25) C h9.1 h9.2 (hI rfl) dX9_init_25 ?_
  refine gx_S (S' := (mkA (s_setI (s_setR (mk_X6_init (s_new S 5 0) (kz (s_z S))) 801 o (some (kz (s_z S)))) 802 o (-1)) o 806 13 10)) rfl ?_
  have h11 : hasK (w_b w) (mkA (s_setI (s_setR (mk_X6_init (s_new S 5 0) (kz (s_z S))) 801 o (some (kz (s_z S)))) 802 o (-1)) o 806 13 10) o _ := h9
  have h12 : hasK (w_b w) (mkA (s_setI (s_setR (mk_X6_init (s_new S 5 0) (kz (s_z S))) 801 o (some (kz (s_z S)))) 802 o (-1)) o 806 13 10) (kz (s_z S)) _ := h10
  refine g_aload_n (pc := 28) C dX9_init_28 rfl ?_
  refine g_aload_n (pc := 29) C dX9_init_29 rfl ?_
  refine fps_X9_26 (pc := 30) C h11.1 h11.2 dX9_init_30 ?_
  refine gx_S (S' := (s_setR (mkA (s_setI (s_setR (mk_X6_init (s_new S 5 0) (kz (s_z S))) 801 o (some (kz (s_z S)))) 802 o (-1)) o 806 13 10) 800 o (some p1))) rfl ?_
  have h13 : hasK (w_b w) (s_setR (mkA (s_setI (s_setR (mk_X6_init (s_new S 5 0) (kz (s_z S))) 801 o (some (kz (s_z S)))) 802 o (-1)) o 806 13 10) 800 o (some p1)) o _ := h11
  have h14 : hasK (w_b w) (s_setR (mkA (s_setI (s_setR (mk_X6_init (s_new S 5 0) (kz (s_z S))) 801 o (some (kz (s_z S)))) 802 o (-1)) o 806 13 10) 800 o (some p1)) (kz (s_z S)) _ := h12
  exact g_return (pc := 33) C ⟨rfl, rfl⟩ dX9_init_33 ⟨rfl, rfl⟩
def rmIX4_init : Room := { frames := 3, cells := 7, slots := 795, locals := 60 }
def mk_X4_init (S : St) (o : Nat) : St := (mkA (mkA (mkA (s_setR (mk_X6_init (s_new (mkA (mkA S o 400 13 7) o 402 13 7) 5 0) (kz (s_z (mkA (mkA S o 400 13 7) o 402 13 7)))) 403 o (some (kz (s_z (mkA (mkA S o 400 13 7) o 402 13 7))))) o 404 13 256) o 405 13 256) o 406 15 256)
theorem c_X4_init (w : Wd) (j : SJ) (l : Launch) (S : St) (o : Nat) (ho : hasK (w_b w) S o 4) (hf : fitB (s_z S) 13 7 = true ∧ fitB (s_z S + 1) 13 7 = true ∧ fitB (s_z S + 2) 5 0 = true ∧ fitB (s_z S + 3) 13 7 = true ∧ fitB (s_z S + 4) 13 256 = true ∧ fitB (s_z S + 5) 13 256 = true ∧ fitB (s_z S + 6) 15 256 = true ∧ True) : gx_MV w j l yX4_init cX4_init 1 none rmIX4_init [.ref (ad (w_b w) o)] S (pV (mk_X4_init S o)) := by
  refine gx_startV rfl 0 rfl (Nat.le_of_ble_eq_true rfl) ?_
  intro X C V hI hl
  subst hl
  refine gx_L (L' := [_]) rfl ?_
  refine g_aload_n (pc := 0) C dX4_init_0 rfl ?_
  refine go_X4_3 (pc := 1) C rfl (Nat.le_of_ble_eq_true rfl) ⟨rfl, rfl⟩ dX4_init_1 ?_
  refine g_aload_n (pc := 4) C dX4_init_4 rfl ?_
  refine g_bipush (pc := 5) (v := nI 7) C dX4_init_5 (by decide) ?_
  refine gm_int (pc := 7) C rfl (by decide) (fit_kn (S := S) hf.1).1 (fit_kn (S := S) hf.1).2 ⟨by decide, by decide⟩ dX4_init_7 ?_
  have h1 : hasK (w_b w) (s_new S 13 7) o _ := nw_o ho
  refine fps_X4_9 (pc := 9) C h1.1 h1.2 (hI rfl) dX4_init_9 ?_
  refine gx_S (S' := (mkA S o 400 13 7)) rfl ?_
  have h2 : hasK (w_b w) (mkA S o 400 13 7) o _ := h1
  refine g_aload_n (pc := 12) C dX4_init_12 rfl ?_
  refine g_bipush (pc := 13) (v := nI 7) C dX4_init_13 (by decide) ?_
  refine gm_int (pc := 15) C rfl (by decide) (fit_kn (S := (mkA S o 400 13 7)) hf.2.1).1 (fit_kn (S := (mkA S o 400 13 7)) hf.2.1).2 ⟨by decide, by decide⟩ dX4_init_15 ?_
  have h3 : hasK (w_b w) (s_new (mkA S o 400 13 7) 13 7) o _ := nw_o h2
  refine fps_X4_15 (pc := 17) C h3.1 h3.2 (hI rfl) dX4_init_17 ?_
  refine gx_S (S' := (mkA (mkA S o 400 13 7) o 402 13 7)) rfl ?_
  have h4 : hasK (w_b w) (mkA (mkA S o 400 13 7) o 402 13 7) o _ := h3
  refine g_aload_n (pc := 20) C dX4_init_20 rfl ?_
  refine gn_X4_18 (pc := 21) C (fit_kn (S := (mkA (mkA S o 400 13 7) o 402 13 7)) hf.2.2.1).1 (fit_kn (S := (mkA (mkA S o 400 13 7) o 402 13 7)) hf.2.2.1).2 ⟨by decide, by decide⟩ dX4_init_21 ?_
  have h5 : hasK (w_b w) (s_new (mkA (mkA S o 400 13 7) o 402 13 7) 5 0) o _ := nw_o h4
  have h6 : hasK (w_b w) (s_new (mkA (mkA S o 400 13 7) o 402 13 7) 5 0) (kz (s_z (mkA (mkA S o 400 13 7) o 402 13 7))) 5 := nw_h (S := (mkA (mkA S o 400 13 7) o 402 13 7)) hf.2.2.1
  refine g_dup (pc := 24) C dX4_init_24 rfl ?_
  refine ci_X4_20 (pc := 25) C V (c_X6_init w _ (s_new (mkA (mkA S o 400 13 7) o 402 13 7) 5 0) (kz (s_z (mkA (mkA S o 400 13 7) o 402 13 7))) h6 ⟨hf.2.2.2.1, trivial⟩) ⟨rfl, rfl⟩ ⟨by decide, by decide⟩ rfl (Nat.le_of_ble_eq_true rfl) dX4_init_25 ?_
  rintro _ _ ⟨rfl, rfl⟩
  have h7 : hasK (w_b w) (mk_X6_init (s_new (mkA (mkA S o 400 13 7) o 402 13 7) 5 0) (kz (s_z (mkA (mkA S o 400 13 7) o 402 13 7)))) o _ := (nw_o (kd' := 13) (n := 7) h5)
  have h8 : hasK (w_b w) (mk_X6_init (s_new (mkA (mkA S o 400 13 7) o 402 13 7) 5 0) (kz (s_z (mkA (mkA S o 400 13 7) o 402 13 7)))) (kz (s_z (mkA (mkA S o 400 13 7) o 402 13 7))) _ := (nw_o (kd' := 13) (n := 7) h6)
  refine fps_X4_21 (pc := 28) C h7.1 h7.2 (hI rfl) dX4_init_28 ?_
  refine gx_S (S' := (s_setR (mk_X6_init (s_new (mkA (mkA S o 400 13 7) o 402 13 7) 5 0) (kz (s_z (mkA (mkA S o 400 13 7) o 402 13 7)))) 403 o (some (kz (s_z (mkA (mkA S o 400 13 7) o 402 13 7)))))) rfl ?_
  have h9 : hasK (w_b w) (s_setR (mk_X6_init (s_new (mkA (mkA S o 400 13 7) o 402 13 7) 5 0) (kz (s_z (mkA (mkA S o 400 13 7) o 402 13 7)))) 403 o (some (kz (s_z (mkA (mkA S o 400 13 7) o 402 13 7))))) o _ := h7
  have h10 : hasK (w_b w) (s_setR (mk_X6_init (s_new (mkA (mkA S o 400 13 7) o 402 13 7) 5 0) (kz (s_z (mkA (mkA S o 400 13 7) o 402 13 7)))) 403 o (some (kz (s_z (mkA (mkA S o 400 13 7) o 402 13 7))))) (kz (s_z (mkA (mkA S o 400 13 7) o 402 13 7))) _ := h8
  refine g_aload_n (pc := 31) C dX4_init_31 rfl ?_
  refine g_sipush (pc := 32) (v := nI 256) C dX4_init_32 (by decide) ?_
  refine gm_int (pc := 35) C rfl (by decide) (fit_kn (S := (s_setR (mk_X6_init (s_new (mkA (mkA S o 400 13 7) o 402 13 7) 5 0) (kz (s_z (mkA (mkA S o 400 13 7) o 402 13 7)))) 403 o (some (kz (s_z (mkA (mkA S o 400 13 7) o 402 13 7)))))) hf.2.2.2.2.1).1 (fit_kn (S := (s_setR (mk_X6_init (s_new (mkA (mkA S o 400 13 7) o 402 13 7) 5 0) (kz (s_z (mkA (mkA S o 400 13 7) o 402 13 7)))) 403 o (some (kz (s_z (mkA (mkA S o 400 13 7) o 402 13 7)))))) hf.2.2.2.2.1).2 ⟨by decide, by decide⟩ dX4_init_35 ?_
  have h11 : hasK (w_b w) (s_new (s_setR (mk_X6_init (s_new (mkA (mkA S o 400 13 7) o 402 13 7) 5 0) (kz (s_z (mkA (mkA S o 400 13 7) o 402 13 7)))) 403 o (some (kz (s_z (mkA (mkA S o 400 13 7) o 402 13 7))))) 13 256) o _ := nw_o h9
  have h12 : hasK (w_b w) (s_new (s_setR (mk_X6_init (s_new (mkA (mkA S o 400 13 7) o 402 13 7) 5 0) (kz (s_z (mkA (mkA S o 400 13 7) o 402 13 7)))) 403 o (some (kz (s_z (mkA (mkA S o 400 13 7) o 402 13 7))))) 13 256) (kz (s_z (mkA (mkA S o 400 13 7) o 402 13 7))) _ := nw_o h10
  refine fps_X4_25 (pc := 37) C h11.1 h11.2 (hI rfl) dX4_init_37 ?_
  refine gx_S (S' := (mkA (s_setR (mk_X6_init (s_new (mkA (mkA S o 400 13 7) o 402 13 7) 5 0) (kz (s_z (mkA (mkA S o 400 13 7) o 402 13 7)))) 403 o (some (kz (s_z (mkA (mkA S o 400 13 7) o 402 13 7))))) o 404 13 256)) rfl ?_
  have h13 : hasK (w_b w) (mkA (s_setR (mk_X6_init (s_new (mkA (mkA S o 400 13 7) o 402 13 7) 5 0) (kz (s_z (mkA (mkA S o 400 13 7) o 402 13 7)))) 403 o (some (kz (s_z (mkA (mkA S o 400 13 7) o 402 13 7))))) o 404 13 256) o _ := h11
  have h14 : hasK (w_b w) (mkA (s_setR (mk_X6_init (s_new (mkA (mkA S o 400 13 7) o 402 13 7) 5 0) (kz (s_z (mkA (mkA S o 400 13 7) o 402 13 7)))) 403 o (some (kz (s_z (mkA (mkA S o 400 13 7) o 402 13 7))))) o 404 13 256) (kz (s_z (mkA (mkA S o 400 13 7) o 402 13 7))) _ := h12
  refine g_aload_n (pc := 40) C dX4_init_40 rfl ?_
  refine g_sipush (pc := 41) (v := nI 256) C dX4_init_41 (by decide) ?_
  refine gm_int (pc := 44) C rfl (by decide) (fit_kn (S := (mkA (s_setR (mk_X6_init (s_new (mkA (mkA S o 400 13 7) o 402 13 7) 5 0) (kz (s_z (mkA (mkA S o 400 13 7) o 402 13 7)))) 403 o (some (kz (s_z (mkA (mkA S o 400 13 7) o 402 13 7))))) o 404 13 256)) hf.2.2.2.2.2.1).1 (fit_kn (S := (mkA (s_setR (mk_X6_init (s_new (mkA (mkA S o 400 13 7) o 402 13 7) 5 0) (kz (s_z (mkA (mkA S o 400 13 7) o 402 13 7)))) 403 o (some (kz (s_z (mkA (mkA S o 400 13 7) o 402 13 7))))) o 404 13 256)) hf.2.2.2.2.2.1).2 ⟨by decide, by decide⟩ dX4_init_44 ?_
  have h15 : hasK (w_b w) (s_new (mkA (s_setR (mk_X6_init (s_new (mkA (mkA S o 400 13 7) o 402 13 7) 5 0) (kz (s_z (mkA (mkA S o 400 13 7) o 402 13 7)))) 403 o (some (kz (s_z (mkA (mkA S o 400 13 7) o 402 13 7))))) o 404 13 256) 13 256) o _ := nw_o h13
  have h16 : hasK (w_b w) (s_new (mkA (s_setR (mk_X6_init (s_new (mkA (mkA S o 400 13 7) o 402 13 7) 5 0) (kz (s_z (mkA (mkA S o 400 13 7) o 402 13 7)))) 403 o (some (kz (s_z (mkA (mkA S o 400 13 7) o 402 13 7))))) o 404 13 256) 13 256) (kz (s_z (mkA (mkA S o 400 13 7) o 402 13 7))) _ := nw_o h14
  refine fps_X4_28 (pc := 46) C h15.1 h15.2 (hI rfl) dX4_init_46 ?_
  refine gx_S (S' := (mkA (mkA (s_setR (mk_X6_init (s_new (mkA (mkA S o 400 13 7) o 402 13 7) 5 0) (kz (s_z (mkA (mkA S o 400 13 7) o 402 13 7)))) 403 o (some (kz (s_z (mkA (mkA S o 400 13 7) o 402 13 7))))) o 404 13 256) o 405 13 256)) rfl ?_
  have h17 : hasK (w_b w) (mkA (mkA (s_setR (mk_X6_init (s_new (mkA (mkA S o 400 13 7) o 402 13 7) 5 0) (kz (s_z (mkA (mkA S o 400 13 7) o 402 13 7)))) 403 o (some (kz (s_z (mkA (mkA S o 400 13 7) o 402 13 7))))) o 404 13 256) o 405 13 256) o _ := h15
  have h18 : hasK (w_b w) (mkA (mkA (s_setR (mk_X6_init (s_new (mkA (mkA S o 400 13 7) o 402 13 7) 5 0) (kz (s_z (mkA (mkA S o 400 13 7) o 402 13 7)))) 403 o (some (kz (s_z (mkA (mkA S o 400 13 7) o 402 13 7))))) o 404 13 256) o 405 13 256) (kz (s_z (mkA (mkA S o 400 13 7) o 402 13 7))) _ := h16
  refine g_aload_n (pc := 49) C dX4_init_49 rfl ?_
  refine g_sipush (pc := 50) (v := nI 256) C dX4_init_50 (by decide) ?_
  refine gm_boolean (pc := 53) C rfl (by decide) (fit_kn (S := (mkA (mkA (s_setR (mk_X6_init (s_new (mkA (mkA S o 400 13 7) o 402 13 7) 5 0) (kz (s_z (mkA (mkA S o 400 13 7) o 402 13 7)))) 403 o (some (kz (s_z (mkA (mkA S o 400 13 7) o 402 13 7))))) o 404 13 256) o 405 13 256)) hf.2.2.2.2.2.2.1).1 (fit_kn (S := (mkA (mkA (s_setR (mk_X6_init (s_new (mkA (mkA S o 400 13 7) o 402 13 7) 5 0) (kz (s_z (mkA (mkA S o 400 13 7) o 402 13 7)))) 403 o (some (kz (s_z (mkA (mkA S o 400 13 7) o 402 13 7))))) o 404 13 256) o 405 13 256)) hf.2.2.2.2.2.2.1).2 ⟨by decide, by decide⟩ dX4_init_53 ?_
  have h19 : hasK (w_b w) (s_new (mkA (mkA (s_setR (mk_X6_init (s_new (mkA (mkA S o 400 13 7) o 402 13 7) 5 0) (kz (s_z (mkA (mkA S o 400 13 7) o 402 13 7)))) 403 o (some (kz (s_z (mkA (mkA S o 400 13 7) o 402 13 7))))) o 404 13 256) o 405 13 256) 15 256) o _ := nw_o h17
  have h20 : hasK (w_b w) (s_new (mkA (mkA (s_setR (mk_X6_init (s_new (mkA (mkA S o 400 13 7) o 402 13 7) 5 0) (kz (s_z (mkA (mkA S o 400 13 7) o 402 13 7)))) 403 o (some (kz (s_z (mkA (mkA S o 400 13 7) o 402 13 7))))) o 404 13 256) o 405 13 256) 15 256) (kz (s_z (mkA (mkA S o 400 13 7) o 402 13 7))) _ := nw_o h18
  refine fps_X4_31 (pc := 55) C h19.1 h19.2 (hI rfl) dX4_init_55 ?_
  refine gx_S (S' := (mkA (mkA (mkA (s_setR (mk_X6_init (s_new (mkA (mkA S o 400 13 7) o 402 13 7) 5 0) (kz (s_z (mkA (mkA S o 400 13 7) o 402 13 7)))) 403 o (some (kz (s_z (mkA (mkA S o 400 13 7) o 402 13 7))))) o 404 13 256) o 405 13 256) o 406 15 256)) rfl ?_
  have h21 : hasK (w_b w) (mkA (mkA (mkA (s_setR (mk_X6_init (s_new (mkA (mkA S o 400 13 7) o 402 13 7) 5 0) (kz (s_z (mkA (mkA S o 400 13 7) o 402 13 7)))) 403 o (some (kz (s_z (mkA (mkA S o 400 13 7) o 402 13 7))))) o 404 13 256) o 405 13 256) o 406 15 256) o _ := h19
  have h22 : hasK (w_b w) (mkA (mkA (mkA (s_setR (mk_X6_init (s_new (mkA (mkA S o 400 13 7) o 402 13 7) 5 0) (kz (s_z (mkA (mkA S o 400 13 7) o 402 13 7)))) 403 o (some (kz (s_z (mkA (mkA S o 400 13 7) o 402 13 7))))) o 404 13 256) o 405 13 256) o 406 15 256) (kz (s_z (mkA (mkA S o 400 13 7) o 402 13 7))) _ := h20
  exact g_return (pc := 58) C ⟨rfl, rfl⟩ dX4_init_58 ⟨rfl, rfl⟩
def rmIX2_init : Room := { frames := 3, cells := 7, slots := 89, locals := 60 }
def mk_X2_init (S : St) (o : Nat) : St := (mkA (mkA (s_setR (mk_X6_init (s_new (s_setR (mk_X3_init (s_new S 3 0) (kz (s_z S))) 200 o (some (kz (s_z S)))) 5 0) (kz (s_z (s_setR (mk_X3_init (s_new S 3 0) (kz (s_z S))) 200 o (some (kz (s_z S))))))) 207 o (some (kz (s_z (s_setR (mk_X3_init (s_new S 3 0) (kz (s_z S))) 200 o (some (kz (s_z S)))))))) o 208 13 8) o 209 13 7)
theorem c_X2_init (w : Wd) (j : SJ) (l : Launch) (S : St) (o : Nat) (ho : hasK (w_b w) S o 2) (hf : fitB (s_z S) 3 0 = true ∧ fitB (s_z S + 1) 14 12 = true ∧ fitB (s_z S + 2) 14 40 = true ∧ fitB (s_z S + 3) 5 0 = true ∧ fitB (s_z S + 4) 13 7 = true ∧ fitB (s_z S + 5) 13 8 = true ∧ fitB (s_z S + 6) 13 7 = true ∧ True) : gx_MV w j l yX2_init cX2_init 1 none rmIX2_init [.ref (ad (w_b w) o)] S (pV (mk_X2_init S o)) := by
  refine gx_startV rfl 0 rfl (Nat.le_of_ble_eq_true rfl) ?_
  intro X C V hI hl
  subst hl
  refine gx_L (L' := [_]) rfl ?_
  refine g_aload_n (pc := 0) C dX2_init_0 rfl ?_
  refine go_X2_3 (pc := 1) C rfl (Nat.le_of_ble_eq_true rfl) ⟨rfl, rfl⟩ dX2_init_1 ?_
  refine g_aload_n (pc := 4) C dX2_init_4 rfl ?_
  refine gn_X2_9 (pc := 5) C (fit_kn (S := S) hf.1).1 (fit_kn (S := S) hf.1).2 ⟨by decide, by decide⟩ dX2_init_5 ?_
  have h1 : hasK (w_b w) (s_new S 3 0) o _ := nw_o ho
  have h2 : hasK (w_b w) (s_new S 3 0) (kz (s_z S)) 3 := nw_h (S := S) hf.1
  refine g_dup (pc := 8) C dX2_init_8 rfl ?_
  refine ci_X2_11 (pc := 9) C V (c_X3_init w _ (s_new S 3 0) (kz (s_z S)) h2 ⟨hf.2.1, hf.2.2.1, trivial⟩) ⟨rfl, rfl⟩ ⟨by decide, by decide⟩ rfl (Nat.le_of_ble_eq_true rfl) dX2_init_9 ?_
  rintro _ _ ⟨rfl, rfl⟩
  have h3 : hasK (w_b w) (mk_X3_init (s_new S 3 0) (kz (s_z S))) o _ := (nw_o (kd' := 14) (n := 40) (nw_o (kd' := 14) (n := 12) h1))
  have h4 : hasK (w_b w) (mk_X3_init (s_new S 3 0) (kz (s_z S))) (kz (s_z S)) _ := (nw_o (kd' := 14) (n := 40) (nw_o (kd' := 14) (n := 12) h2))
  refine fps_X2_12 (pc := 12) C h3.1 h3.2 (hI rfl) dX2_init_12 ?_
  refine gx_S (S' := (s_setR (mk_X3_init (s_new S 3 0) (kz (s_z S))) 200 o (some (kz (s_z S))))) rfl ?_
  have h5 : hasK (w_b w) (s_setR (mk_X3_init (s_new S 3 0) (kz (s_z S))) 200 o (some (kz (s_z S)))) o _ := h3
  have h6 : hasK (w_b w) (s_setR (mk_X3_init (s_new S 3 0) (kz (s_z S))) 200 o (some (kz (s_z S)))) (kz (s_z S)) _ := h4
  refine g_aload_n (pc := 15) C dX2_init_15 rfl ?_
  refine gn_X2_18 (pc := 16) C (fit_kn (S := (s_setR (mk_X3_init (s_new S 3 0) (kz (s_z S))) 200 o (some (kz (s_z S))))) hf.2.2.2.1).1 (fit_kn (S := (s_setR (mk_X3_init (s_new S 3 0) (kz (s_z S))) 200 o (some (kz (s_z S))))) hf.2.2.2.1).2 ⟨by decide, by decide⟩ dX2_init_16 ?_
  have h7 : hasK (w_b w) (s_new (s_setR (mk_X3_init (s_new S 3 0) (kz (s_z S))) 200 o (some (kz (s_z S)))) 5 0) o _ := nw_o h5
  have h8 : hasK (w_b w) (s_new (s_setR (mk_X3_init (s_new S 3 0) (kz (s_z S))) 200 o (some (kz (s_z S)))) 5 0) (kz (s_z S)) _ := nw_o h6
  have h9 : hasK (w_b w) (s_new (s_setR (mk_X3_init (s_new S 3 0) (kz (s_z S))) 200 o (some (kz (s_z S)))) 5 0) (kz (s_z (s_setR (mk_X3_init (s_new S 3 0) (kz (s_z S))) 200 o (some (kz (s_z S)))))) 5 := nw_h (S := (s_setR (mk_X3_init (s_new S 3 0) (kz (s_z S))) 200 o (some (kz (s_z S))))) hf.2.2.2.1
  refine g_dup (pc := 19) C dX2_init_19 rfl ?_
  refine ci_X2_20 (pc := 20) C V (c_X6_init w _ (s_new (s_setR (mk_X3_init (s_new S 3 0) (kz (s_z S))) 200 o (some (kz (s_z S)))) 5 0) (kz (s_z (s_setR (mk_X3_init (s_new S 3 0) (kz (s_z S))) 200 o (some (kz (s_z S)))))) h9 ⟨hf.2.2.2.2.1, trivial⟩) ⟨rfl, rfl⟩ ⟨by decide, by decide⟩ rfl (Nat.le_of_ble_eq_true rfl) dX2_init_20 ?_
  rintro _ _ ⟨rfl, rfl⟩
  have h10 : hasK (w_b w) (mk_X6_init (s_new (s_setR (mk_X3_init (s_new S 3 0) (kz (s_z S))) 200 o (some (kz (s_z S)))) 5 0) (kz (s_z (s_setR (mk_X3_init (s_new S 3 0) (kz (s_z S))) 200 o (some (kz (s_z S))))))) o _ := (nw_o (kd' := 13) (n := 7) h7)
  have h11 : hasK (w_b w) (mk_X6_init (s_new (s_setR (mk_X3_init (s_new S 3 0) (kz (s_z S))) 200 o (some (kz (s_z S)))) 5 0) (kz (s_z (s_setR (mk_X3_init (s_new S 3 0) (kz (s_z S))) 200 o (some (kz (s_z S))))))) (kz (s_z S)) _ := (nw_o (kd' := 13) (n := 7) h8)
  have h12 : hasK (w_b w) (mk_X6_init (s_new (s_setR (mk_X3_init (s_new S 3 0) (kz (s_z S))) 200 o (some (kz (s_z S)))) 5 0) (kz (s_z (s_setR (mk_X3_init (s_new S 3 0) (kz (s_z S))) 200 o (some (kz (s_z S))))))) (kz (s_z (s_setR (mk_X3_init (s_new S 3 0) (kz (s_z S))) 200 o (some (kz (s_z S)))))) _ := (nw_o (kd' := 13) (n := 7) h9)
  refine fps_X2_21 (pc := 23) C h10.1 h10.2 (hI rfl) dX2_init_23 ?_
  refine gx_S (S' := (s_setR (mk_X6_init (s_new (s_setR (mk_X3_init (s_new S 3 0) (kz (s_z S))) 200 o (some (kz (s_z S)))) 5 0) (kz (s_z (s_setR (mk_X3_init (s_new S 3 0) (kz (s_z S))) 200 o (some (kz (s_z S))))))) 207 o (some (kz (s_z (s_setR (mk_X3_init (s_new S 3 0) (kz (s_z S))) 200 o (some (kz (s_z S))))))))) rfl ?_
  have h13 : hasK (w_b w) (s_setR (mk_X6_init (s_new (s_setR (mk_X3_init (s_new S 3 0) (kz (s_z S))) 200 o (some (kz (s_z S)))) 5 0) (kz (s_z (s_setR (mk_X3_init (s_new S 3 0) (kz (s_z S))) 200 o (some (kz (s_z S))))))) 207 o (some (kz (s_z (s_setR (mk_X3_init (s_new S 3 0) (kz (s_z S))) 200 o (some (kz (s_z S)))))))) o _ := h10
  have h14 : hasK (w_b w) (s_setR (mk_X6_init (s_new (s_setR (mk_X3_init (s_new S 3 0) (kz (s_z S))) 200 o (some (kz (s_z S)))) 5 0) (kz (s_z (s_setR (mk_X3_init (s_new S 3 0) (kz (s_z S))) 200 o (some (kz (s_z S))))))) 207 o (some (kz (s_z (s_setR (mk_X3_init (s_new S 3 0) (kz (s_z S))) 200 o (some (kz (s_z S)))))))) (kz (s_z S)) _ := h11
  have h15 : hasK (w_b w) (s_setR (mk_X6_init (s_new (s_setR (mk_X3_init (s_new S 3 0) (kz (s_z S))) 200 o (some (kz (s_z S)))) 5 0) (kz (s_z (s_setR (mk_X3_init (s_new S 3 0) (kz (s_z S))) 200 o (some (kz (s_z S))))))) 207 o (some (kz (s_z (s_setR (mk_X3_init (s_new S 3 0) (kz (s_z S))) 200 o (some (kz (s_z S)))))))) (kz (s_z (s_setR (mk_X3_init (s_new S 3 0) (kz (s_z S))) 200 o (some (kz (s_z S)))))) _ := h12
  refine g_aload_n (pc := 26) C dX2_init_26 rfl ?_
  refine g_bipush (pc := 27) (v := nI 8) C dX2_init_27 (by decide) ?_
  refine gm_int (pc := 29) C rfl (by decide) (fit_kn (S := (s_setR (mk_X6_init (s_new (s_setR (mk_X3_init (s_new S 3 0) (kz (s_z S))) 200 o (some (kz (s_z S)))) 5 0) (kz (s_z (s_setR (mk_X3_init (s_new S 3 0) (kz (s_z S))) 200 o (some (kz (s_z S))))))) 207 o (some (kz (s_z (s_setR (mk_X3_init (s_new S 3 0) (kz (s_z S))) 200 o (some (kz (s_z S))))))))) hf.2.2.2.2.2.1).1 (fit_kn (S := (s_setR (mk_X6_init (s_new (s_setR (mk_X3_init (s_new S 3 0) (kz (s_z S))) 200 o (some (kz (s_z S)))) 5 0) (kz (s_z (s_setR (mk_X3_init (s_new S 3 0) (kz (s_z S))) 200 o (some (kz (s_z S))))))) 207 o (some (kz (s_z (s_setR (mk_X3_init (s_new S 3 0) (kz (s_z S))) 200 o (some (kz (s_z S))))))))) hf.2.2.2.2.2.1).2 ⟨by decide, by decide⟩ dX2_init_29 ?_
  have h16 : hasK (w_b w) (s_new (s_setR (mk_X6_init (s_new (s_setR (mk_X3_init (s_new S 3 0) (kz (s_z S))) 200 o (some (kz (s_z S)))) 5 0) (kz (s_z (s_setR (mk_X3_init (s_new S 3 0) (kz (s_z S))) 200 o (some (kz (s_z S))))))) 207 o (some (kz (s_z (s_setR (mk_X3_init (s_new S 3 0) (kz (s_z S))) 200 o (some (kz (s_z S)))))))) 13 8) o _ := nw_o h13
  have h17 : hasK (w_b w) (s_new (s_setR (mk_X6_init (s_new (s_setR (mk_X3_init (s_new S 3 0) (kz (s_z S))) 200 o (some (kz (s_z S)))) 5 0) (kz (s_z (s_setR (mk_X3_init (s_new S 3 0) (kz (s_z S))) 200 o (some (kz (s_z S))))))) 207 o (some (kz (s_z (s_setR (mk_X3_init (s_new S 3 0) (kz (s_z S))) 200 o (some (kz (s_z S)))))))) 13 8) (kz (s_z S)) _ := nw_o h14
  have h18 : hasK (w_b w) (s_new (s_setR (mk_X6_init (s_new (s_setR (mk_X3_init (s_new S 3 0) (kz (s_z S))) 200 o (some (kz (s_z S)))) 5 0) (kz (s_z (s_setR (mk_X3_init (s_new S 3 0) (kz (s_z S))) 200 o (some (kz (s_z S))))))) 207 o (some (kz (s_z (s_setR (mk_X3_init (s_new S 3 0) (kz (s_z S))) 200 o (some (kz (s_z S)))))))) 13 8) (kz (s_z (s_setR (mk_X3_init (s_new S 3 0) (kz (s_z S))) 200 o (some (kz (s_z S)))))) _ := nw_o h15
  refine fps_X2_25 (pc := 31) C h16.1 h16.2 (hI rfl) dX2_init_31 ?_
  refine gx_S (S' := (mkA (s_setR (mk_X6_init (s_new (s_setR (mk_X3_init (s_new S 3 0) (kz (s_z S))) 200 o (some (kz (s_z S)))) 5 0) (kz (s_z (s_setR (mk_X3_init (s_new S 3 0) (kz (s_z S))) 200 o (some (kz (s_z S))))))) 207 o (some (kz (s_z (s_setR (mk_X3_init (s_new S 3 0) (kz (s_z S))) 200 o (some (kz (s_z S)))))))) o 208 13 8)) rfl ?_
  have h19 : hasK (w_b w) (mkA (s_setR (mk_X6_init (s_new (s_setR (mk_X3_init (s_new S 3 0) (kz (s_z S))) 200 o (some (kz (s_z S)))) 5 0) (kz (s_z (s_setR (mk_X3_init (s_new S 3 0) (kz (s_z S))) 200 o (some (kz (s_z S))))))) 207 o (some (kz (s_z (s_setR (mk_X3_init (s_new S 3 0) (kz (s_z S))) 200 o (some (kz (s_z S)))))))) o 208 13 8) o _ := h16
  have h20 : hasK (w_b w) (mkA (s_setR (mk_X6_init (s_new (s_setR (mk_X3_init (s_new S 3 0) (kz (s_z S))) 200 o (some (kz (s_z S)))) 5 0) (kz (s_z (s_setR (mk_X3_init (s_new S 3 0) (kz (s_z S))) 200 o (some (kz (s_z S))))))) 207 o (some (kz (s_z (s_setR (mk_X3_init (s_new S 3 0) (kz (s_z S))) 200 o (some (kz (s_z S)))))))) o 208 13 8) (kz (s_z S)) _ := h17
  have h21 : hasK (w_b w) (mkA (s_setR (mk_X6_init (s_new (s_setR (mk_X3_init (s_new S 3 0) (kz (s_z S))) 200 o (some (kz (s_z S)))) 5 0) (kz (s_z (s_setR (mk_X3_init (s_new S 3 0) (kz (s_z S))) 200 o (some (kz (s_z S))))))) 207 o (some (kz (s_z (s_setR (mk_X3_init (s_new S 3 0) (kz (s_z S))) 200 o (some (kz (s_z S)))))))) o 208 13 8) (kz (s_z (s_setR (mk_X3_init (s_new S 3 0) (kz (s_z S))) 200 o (some (kz (s_z S)))))) _ := h18
  refine g_aload_n (pc := 34) C dX2_init_34 rfl ?_
  refine g_bipush (pc := 35) (v := nI 7) C dX2_init_35 (by decide) ?_
  refine gm_int (pc := 37) C rfl (by decide) (fit_kn (S := (mkA (s_setR (mk_X6_init (s_new (s_setR (mk_X3_init (s_new S 3 0) (kz (s_z S))) 200 o (some (kz (s_z S)))) 5 0) (kz (s_z (s_setR (mk_X3_init (s_new S 3 0) (kz (s_z S))) 200 o (some (kz (s_z S))))))) 207 o (some (kz (s_z (s_setR (mk_X3_init (s_new S 3 0) (kz (s_z S))) 200 o (some (kz (s_z S)))))))) o 208 13 8)) hf.2.2.2.2.2.2.1).1 (fit_kn (S := (mkA (s_setR (mk_X6_init (s_new (s_setR (mk_X3_init (s_new S 3 0) (kz (s_z S))) 200 o (some (kz (s_z S)))) 5 0) (kz (s_z (s_setR (mk_X3_init (s_new S 3 0) (kz (s_z S))) 200 o (some (kz (s_z S))))))) 207 o (some (kz (s_z (s_setR (mk_X3_init (s_new S 3 0) (kz (s_z S))) 200 o (some (kz (s_z S)))))))) o 208 13 8)) hf.2.2.2.2.2.2.1).2 ⟨by decide, by decide⟩ dX2_init_37 ?_
  have h22 : hasK (w_b w) (s_new (mkA (s_setR (mk_X6_init (s_new (s_setR (mk_X3_init (s_new S 3 0) (kz (s_z S))) 200 o (some (kz (s_z S)))) 5 0) (kz (s_z (s_setR (mk_X3_init (s_new S 3 0) (kz (s_z S))) 200 o (some (kz (s_z S))))))) 207 o (some (kz (s_z (s_setR (mk_X3_init (s_new S 3 0) (kz (s_z S))) 200 o (some (kz (s_z S)))))))) o 208 13 8) 13 7) o _ := nw_o h19
  have h23 : hasK (w_b w) (s_new (mkA (s_setR (mk_X6_init (s_new (s_setR (mk_X3_init (s_new S 3 0) (kz (s_z S))) 200 o (some (kz (s_z S)))) 5 0) (kz (s_z (s_setR (mk_X3_init (s_new S 3 0) (kz (s_z S))) 200 o (some (kz (s_z S))))))) 207 o (some (kz (s_z (s_setR (mk_X3_init (s_new S 3 0) (kz (s_z S))) 200 o (some (kz (s_z S)))))))) o 208 13 8) 13 7) (kz (s_z S)) _ := nw_o h20
  have h24 : hasK (w_b w) (s_new (mkA (s_setR (mk_X6_init (s_new (s_setR (mk_X3_init (s_new S 3 0) (kz (s_z S))) 200 o (some (kz (s_z S)))) 5 0) (kz (s_z (s_setR (mk_X3_init (s_new S 3 0) (kz (s_z S))) 200 o (some (kz (s_z S))))))) 207 o (some (kz (s_z (s_setR (mk_X3_init (s_new S 3 0) (kz (s_z S))) 200 o (some (kz (s_z S)))))))) o 208 13 8) 13 7) (kz (s_z (s_setR (mk_X3_init (s_new S 3 0) (kz (s_z S))) 200 o (some (kz (s_z S)))))) _ := nw_o h21
  refine fps_X2_29 (pc := 39) C h22.1 h22.2 (hI rfl) dX2_init_39 ?_
  refine gx_S (S' := (mkA (mkA (s_setR (mk_X6_init (s_new (s_setR (mk_X3_init (s_new S 3 0) (kz (s_z S))) 200 o (some (kz (s_z S)))) 5 0) (kz (s_z (s_setR (mk_X3_init (s_new S 3 0) (kz (s_z S))) 200 o (some (kz (s_z S))))))) 207 o (some (kz (s_z (s_setR (mk_X3_init (s_new S 3 0) (kz (s_z S))) 200 o (some (kz (s_z S)))))))) o 208 13 8) o 209 13 7)) rfl ?_
  have h25 : hasK (w_b w) (mkA (mkA (s_setR (mk_X6_init (s_new (s_setR (mk_X3_init (s_new S 3 0) (kz (s_z S))) 200 o (some (kz (s_z S)))) 5 0) (kz (s_z (s_setR (mk_X3_init (s_new S 3 0) (kz (s_z S))) 200 o (some (kz (s_z S))))))) 207 o (some (kz (s_z (s_setR (mk_X3_init (s_new S 3 0) (kz (s_z S))) 200 o (some (kz (s_z S)))))))) o 208 13 8) o 209 13 7) o _ := h22
  have h26 : hasK (w_b w) (mkA (mkA (s_setR (mk_X6_init (s_new (s_setR (mk_X3_init (s_new S 3 0) (kz (s_z S))) 200 o (some (kz (s_z S)))) 5 0) (kz (s_z (s_setR (mk_X3_init (s_new S 3 0) (kz (s_z S))) 200 o (some (kz (s_z S))))))) 207 o (some (kz (s_z (s_setR (mk_X3_init (s_new S 3 0) (kz (s_z S))) 200 o (some (kz (s_z S)))))))) o 208 13 8) o 209 13 7) (kz (s_z S)) _ := h23
  have h27 : hasK (w_b w) (mkA (mkA (s_setR (mk_X6_init (s_new (s_setR (mk_X3_init (s_new S 3 0) (kz (s_z S))) 200 o (some (kz (s_z S)))) 5 0) (kz (s_z (s_setR (mk_X3_init (s_new S 3 0) (kz (s_z S))) 200 o (some (kz (s_z S))))))) 207 o (some (kz (s_z (s_setR (mk_X3_init (s_new S 3 0) (kz (s_z S))) 200 o (some (kz (s_z S)))))))) o 208 13 8) o 209 13 7) (kz (s_z (s_setR (mk_X3_init (s_new S 3 0) (kz (s_z S))) 200 o (some (kz (s_z S)))))) _ := h24
  exact g_return (pc := 42) C ⟨rfl, rfl⟩ dX2_init_42 ⟨rfl, rfl⟩
