/-! ===== THE CLASS: Puzzles ===== -/
def dZ : Nat → Prop := fun k => 74 ≤ k ∧ k ≤ 81
def pzK (S : St) : Prop := 121 ≤ s_z S ∧ s_R S 400 74 = some 75 ∧ s_R S 402 74 = some 76 ∧ s_R S 403 74 = some 77 ∧ s_R S 404 74 = some 79 ∧ s_R S 405 74 = some 80 ∧ s_R S 406 74 = some 81 ∧ rvK S 77 78
theorem dZ_now : ∀ k, dZ k → ¬ (k = 7 ∨ k = 13 ∨ k = 14 ∨ ck k) := by
  intro k h
  unfold dZ at h
  unfold ck
  omega
def midU (u : Nat → Int32) (P : Nat) : Nat → Int32 := grwF u (2 ^ P - 1) P
def pzV (S : St) (c P H : Nat) (u : Nat → Int32) : Prop := s_R S 407 74 = some c ∧ s_R S 408 74 = some 13 ∧ s_I S 409 74 = bI (fogF 0 u H) ∧ s_I S 410 74 = nI (2 ^ P - 1) ∧ s_I S 411 74 = nI (onN u (u 11) P)
/-- the Puzzles, begun with the Scene of now -/
def pzS (S : St) (c ca cg cl ce P H : Nat) (u : Nat → Int32) : Prop := pzK S ∧ pzV S c P H u ∧ crS S c ca cg cl ce P u ∧ cK5 c ca cg cl ce ∧ rvS S 13 14 P u ∧ rvS S 77 78 P (midU u P)
theorem all_bit {P n : Nat} (h : n < P) : (2 ^ P - 1).testBit n = true := by rw [Nat.testBit_two_pow_sub_one]; exact decide_eq_true h
theorem p128 {P : Nat} (h : P ≤ 7) : 0 < 2 ^ P ∧ 2 ^ P ≤ 128 := ⟨Nat.two_pow_pos P, Nat.pow_le_pow_right (by decide) h⟩
theorem aims_mid {u : Nat → Int32} {P s : Nat} : ∀ n, n ≤ P → aimsF (midU u P) s False n = aimsF u s True n
  | 0, _ => rfl
  | n + 1, hn => by
    have e : midU u P (14 + n) = grownF u n (u (14 + n)) := by
      unfold midU
      rw [grw_in, if_pos ⟨by omega, all_bit (by omega)⟩]
    simp only [aimsF]
    rw [aims_mid n (by omega), e, if_neg not_false, if_pos trivial]
theorem twosI_ext {u v : Nat → Int32} {s a : Nat} (e : ∀ j, j < 10 ∨ 28 ≤ j → v j = u j) : ∀ k, twosI v s a k = twosI u s a k
  | 0 => rfl
  | k + 1 => by
    simp only [twosI]
    rw [twosI_ext e k, e _ (by omega)]
theorem twos_ext {u v : Nat → Int32} {s P : Nat} (e : ∀ j, j < 10 ∨ 28 ≤ j → v j = u j) : ∀ a, twosF v s P a = twosF u s P a
  | 0 => rfl
  | a + 1 => by
    simp only [twosF]
    rw [twos_ext e a, twosI_ext e]
theorem light_ext {u v : Nat → Int32} {s : Nat} (e : ∀ j, j < 10 ∨ 28 ≤ j → v j = u j) : ∀ a, lightF v s a = lightF u s a
  | 0 => rfl
  | a + 1 => by
    simp only [lightF]
    rw [light_ext e a, e _ (by omega)]
theorem weight_mid {u : Nat → Int32} {P s : Nat} (hP : P ≤ 7) (fog : Prop) [Decidable fog] : weightF (midU u P) P fog s False = weightF u P fog s True := by
  have e : ∀ j, j < 10 ∨ 28 ≤ j → midU u P j = u j := grw_e hP
  unfold weightF weighF
  rw [aims_mid P (Nat.le_refl P), twos_ext e, light_ext e, e 3 (by omega), show midU u P 11 = u 11 from grwF_lo (by omega) hP]
theorem on_mid {u : Nat → Int32} {P : Nat} {x : Int32} (hP : P ≤ 7) : onN (midU u P) x P = onN u x P := onN_ext P (fun p hp => grwF_lo (by omega) hP)
theorem safe_iff {u : Nat → Int32} {P s : Nat} (hP : P ≤ 7) (hb : bdU P u) (ha : sdA P u) (hs : s < 128) (fog : Prop) [Decidable fog] : cbP (midU u P) P fog (nI s) ↔ canCF u P fog s := by
  have e11 : midU u P 11 = u 11 := grwF_lo (by omega) hP
  have e1 : midU u P 1 = u 1 := grwF_lo (by omega) hP
  have e2 : midU u P 2 = u 2 := grwF_lo (by omega) hP
  have et : (nI s).toBitVec.toNat = s := pk_tn (by omega)
  have hm := weight_mono (s := s) hb ha hP fog
  unfold cbP hereP canBF canCF canBF
  rw [et, e11, on_mid hP, e1, e2, weight_mid hP, sub_iff s hs _ (onN_128 hP)]
  constructor
  · rintro ⟨h1, -, h2, h3⟩; exact ⟨⟨h1, h2, Int32.le_trans hm h3⟩, h3⟩
  · rintro ⟨⟨h1, h2, -⟩, h3⟩; exact ⟨h1, h1, h2, h3⟩
theorem c_X4_begin (w : Wd) (l : Launch) (S : St) (c ca cg cl ce P H : Nat) (u : Nat → Int32) (hk : pzK S) (hw : nwS S c ca cg cl ce P u) (hs : scK S 7 13 14 15) (ha : sdA P u) (hH : u 10 = nI H) (hH2 : H < 2000) : gx_M w l yX4_begin cX4_begin 2 none rmX4_begin [.ref (ad (w_b w) 74), .ref (ad (w_b w) 7)] S (fun v S' => v = none ∧ eqO dZ S S' ∧ pzS S' c ca cg cl ce P H u) := by
  obtain ⟨hz, r1, r2, hc, hk5, hr⟩ := id hw
  have hP7 := hc.2.2
  have h2P := p128 hP7
  have o7 : gx_o S 7 8 := o_st hz rfl rfl
  have o74 : gx_o S 74 4 := o_st hz rfl rfl
  generalize hpost : (fun (v : Option Value) (S' : St) => v = none ∧ eqO dZ S S' ∧ pzS S' c ca cg cl ce P H u) = post
  have d74 : ∀ k, k = 74 → ¬ (k = 7 ∨ k = 13 ∨ k = 14 ∨ ck k) := fun k e => dZ_now k (by unfold dZ; omega)
  refine gx_start rfl 0 rfl (Nat.le_of_ble_eq_true rfl) ?_
  intro X C _ hl
  subst hl
  refine gx_L (L' := [_, _]) rfl ?_
  refine g_aload_n (pc := 0) C dX4_begin_0 rfl ?_
  refine g_aload_n (pc := 1) C dX4_begin_1 rfl ?_
  refine fgr_X4_35 (pc := 2) C (by exact o7.1) (zk (by exact o7.2)) (by exact r1) dX4_begin_2 ?_
  refine fps_X4_41 (pc := 5) C (by exact o74.1) (zk (by exact o74.2)) dX4_begin_5 ?_
  refine g_aload_n (pc := 8) C dX4_begin_8 rfl ?_
  refine g_aload_n (pc := 9) C dX4_begin_9 rfl ?_
  refine fgr_X4_42 (pc := 10) C (by exact o7.1) (zk (by exact o7.2)) (by exact r2) dX4_begin_10 ?_
  refine fps_X4_45 (pc := 13) C (by exact o74.1) (zk (by exact o74.2)) dX4_begin_13 ?_
  generalize hS1 : s_setR (s_setR S 407 74 (some c)) 408 74 (some 13) = S1
  have q1 : eqO (fun k => k = 74) S S1 := by rw [← hS1]; exact (eqO.sR (D := fun k => k = 74) rfl).trans (eqO.sR rfl)
  have w1 := hw.to q1 d74
  have s1 : scK S1 7 13 14 15 := hs.to q1 (by omega) (by omega)
  have R1 : ∀ g k, g ≠ 407 → g ≠ 408 → s_R S1 g k = s_R S g k := fun g k h1 h2 => by rw [← hS1, gR_ne (Or.inl h2), gR_ne (Or.inl h1)]
  have R7 : s_R S1 407 74 = some c := by rw [← hS1, gR_ne (Or.inl (by decide))]; exact gR_at
  have R8 : s_R S1 408 74 = some 13 := by rw [← hS1]; exact gR_at
  obtain ⟨hz1, r11, r21, hc1, -, hr1⟩ := id w1
  have o71 : gx_o S1 7 8 := o_st hz1 rfl rfl
  have o741 : gx_o S1 74 4 := o_st hz1 rfl rfl
  refine g_aload_n (pc := 16) C dX4_begin_16 rfl ?_
  refine g_aload_n (pc := 17) C dX4_begin_17 rfl ?_
  refine cf_X4_46 (pc := 18) C (by exact o71.1) (zk (by exact o71.2)) (c_X9_isFog _ _ S1 7 13 14 15 c ca cg cl ce P H u s1 r11 hc1 hr1 hH hH2) ⟨rfl, rfl⟩ ⟨rfl, rfl⟩ ⟨Nat.zero_le _, Nat.zero_le _⟩ rfl (Nat.le_of_ble_eq_true rfl) dX4_begin_18 ?_
  refine fp_X4_50 (pc := 21) C (by exact o741.1) (zk (by exact o741.2)) bI_z dX4_begin_21 ?_
  generalize hS2 : s_setI S1 409 74 (bI (fogF 0 u H)) = S2
  have q2 : eqO (fun k => k = 74) S1 S2 := by rw [← hS2]; exact eqO.sI rfl
  have w2 := w1.to q2 d74
  obtain ⟨hz2, r12, r22, hc2, -, hr2⟩ := id w2
  have o742 : gx_o S2 74 4 := o_st hz2 rfl rfl
  have R72 : s_R S2 407 74 = some c := by rw [← hS2]; exact R7
  have R82 : s_R S2 408 74 = some 13 := by rw [← hS2]; exact R8
  refine g_aload_n (pc := 24) C dX4_begin_24 rfl ?_
  refine g_aload_n (pc := 25) C dX4_begin_25 rfl ?_
  refine fgr_X4_41 (pc := 26) C (by exact o742.1) (zk (by exact o742.2)) (by exact R72) dX4_begin_26 ?_
  refine cf_X4_54 (pc := 29) C (by exact hc2.1.1.1) (zk (by exact hc2.1.1.2)) (c_X0_everybody _ _ S2 c ca cg cl ce P u hc2) ⟨rfl, rfl⟩ ⟨rfl, rfl⟩ ⟨Nat.zero_le _, Nat.zero_le _⟩ rfl (Nat.le_of_ble_eq_true rfl) dX4_begin_29 ?_
  refine fp_X4_60 (pc := 32) C (by exact o742.1) (zk (by exact o742.2)) dX4_begin_32 ?_
  generalize hS3 : s_setI S2 410 74 (nI (2 ^ P - 1)) = S3
  have q3 : eqO (fun k => k = 74) S2 S3 := by rw [← hS3]; exact eqO.sI rfl
  have w3 := w2.to q3 d74
  obtain ⟨hz3, r13, r23, hc3, -, hr3⟩ := id w3
  have o743 : gx_o S3 74 4 := o_st hz3 rfl rfl
  have R73 : s_R S3 407 74 = some c := by rw [← hS3]; exact R72
  have R83 : s_R S3 408 74 = some 13 := by rw [← hS3]; exact R82
  refine g_aload_n (pc := 35) C dX4_begin_35 rfl ?_
  refine g_aload_n (pc := 36) C dX4_begin_36 rfl ?_
  refine fgr_X4_45 (pc := 37) C (by exact o743.1) (zk (by exact o743.2)) (by exact R83) dX4_begin_37 ?_
  refine g_aload_n (pc := 40) C dX4_begin_40 rfl ?_
  refine fgr_X4_41 (pc := 41) C (by exact o743.1) (zk (by exact o743.2)) (by exact R73) dX4_begin_41 ?_
  refine cf_X4_63 (pc := 44) C (by exact hr3.1.1.1) (zk (by exact hr3.1.1.2)) (c_X6_here _ _ S3 c ca cg cl ce 13 14 P u hc3 hr3) ⟨rfl, rfl⟩ ⟨rfl, rfl⟩ ⟨Nat.zero_le _, Nat.zero_le _⟩ rfl (Nat.le_of_ble_eq_true rfl) dX4_begin_44 ?_
  refine fp_X4_67 (pc := 47) C (by exact o743.1) (zk (by exact o743.2)) dX4_begin_47 ?_
  generalize hS4 : s_setI S3 411 74 (nI (onN u (u 11) P)) = S4
  have q4 : eqO (fun k => k = 74) S3 S4 := by rw [← hS4]; exact eqO.sI rfl
  have w4 := w3.to q4 d74
  obtain ⟨hz4, r14, r24, hc4, -, hr4⟩ := id w4
  have q04 : eqO (fun k => k = 74) S S4 := ((q1.trans q2).trans q3).trans q4
  have R4 : ∀ g k, g ≠ 407 → g ≠ 408 → s_R S4 g k = s_R S g k := fun g k h1 h2 => by rw [← hS4, ← hS3, ← hS2]; exact R1 g k h1 h2
  have K4 : pzK S4 := ⟨hz4, (R4 _ _ (by decide) (by decide)).trans hk.2.1, (R4 _ _ (by decide) (by decide)).trans hk.2.2.1, (R4 _ _ (by decide) (by decide)).trans hk.2.2.2.1, (R4 _ _ (by decide) (by decide)).trans hk.2.2.2.2.1, (R4 _ _ (by decide) (by decide)).trans hk.2.2.2.2.2.1, (R4 _ _ (by decide) (by decide)).trans hk.2.2.2.2.2.2.1, hk.2.2.2.2.2.2.2.to q04 (by omega)⟩
  have V4 : pzV S4 c P H u := ⟨by rw [← hS4]; exact R73, by rw [← hS4]; exact R83, by rw [← hS4, gI_ne (Or.inl (by decide)), ← hS3, gI_ne (Or.inl (by decide)), ← hS2]; exact gI_at, by rw [← hS4, gI_ne (Or.inl (by decide)), ← hS3]; exact gI_at, by rw [← hS4]; exact gI_at⟩
  have o744 : gx_o S4 74 4 := o_st hz4 rfl rfl
  have rm4 := K4.2.2.2.1
  have km4 := K4.2.2.2.2.2.2.2
  have rv4 := V4.2.1
  refine g_aload_n (pc := 50) C dX4_begin_50 rfl ?_
  refine fgr_X4_21 (pc := 51) C (by exact o744.1) (zk (by exact o744.2)) (by exact rm4) dX4_begin_51 ?_
  refine g_aload_n (pc := 54) C dX4_begin_54 rfl ?_
  refine fgr_X4_45 (pc := 55) C (by exact o744.1) (zk (by exact o744.2)) (by exact rv4) dX4_begin_55 ?_
  refine cg_X4_69 (pc := 58) C (by exact km4.1.1) (zk (by exact km4.1.2)) (c_X6_copyFrom _ _ S4 77 78 13 14 P u hP7 km4 hr4) ⟨rfl, rfl⟩ ⟨Nat.zero_le _, Nat.zero_le _⟩ rfl (Nat.le_of_ble_eq_true rfl) dX4_begin_58 ?_
  rintro _ S5 ⟨rfl, q5, h5⟩
  have d5 : ¬ dR 77 78 74 := by unfold dR; omega
  have z5 : ∀ k, dR 77 78 k → dZ k := fun k h => by unfold dR at h; unfold dZ; omega
  have w5 := w4.to q5 (fun k h => dZ_now k (z5 k h))
  obtain ⟨hz5, r15, r25, hc5, -, hr5⟩ := id w5
  have R7 := fun f => q5.R (f := f) d5
  have I7 := fun f => q5.I (f := f) d5
  have K5 : pzK S5 := ⟨hz5, (R7 _).trans K4.2.1, (R7 _).trans K4.2.2.1, (R7 _).trans K4.2.2.2.1, (R7 _).trans K4.2.2.2.2.1, (R7 _).trans K4.2.2.2.2.2.1, (R7 _).trans K4.2.2.2.2.2.2.1, h5.1⟩
  have V5 : pzV S5 c P H u := ⟨(R7 _).trans V4.1, (R7 _).trans V4.2.1, (I7 _).trans V4.2.2.1, (I7 _).trans V4.2.2.2.1, (I7 _).trans V4.2.2.2.2⟩
  have o745 : gx_o S5 74 4 := o_st hz5 rfl rfl
  have rm5 := K5.2.2.2.1
  have rc5 := V5.1
  refine g_aload_n (pc := 61) C dX4_begin_61 rfl ?_
  refine fgr_X4_21 (pc := 62) C (by exact o745.1) (zk (by exact o745.2)) (by exact rm5) dX4_begin_62 ?_
  refine g_aload_n (pc := 65) C dX4_begin_65 rfl ?_
  refine fgr_X4_41 (pc := 66) C (by exact o745.1) (zk (by exact o745.2)) (by exact rc5) dX4_begin_66 ?_
  refine g_aload_n (pc := 69) C dX4_begin_69 rfl ?_
  refine fg_X4_60 (pc := 70) C (by exact o745.1) (zk (by exact o745.2)) dX4_begin_70 ?_
  have hcg : (78 : Nat) ≠ cg := fun e => by have := hk5.2.2.1; unfold ck at this; omega
  refine gx_ti (y := nI (2 ^ P - 1)) V5.2.2.2.1 ?_
  refine cg_X4_73 (pc := 73) C (by exact h5.1.1.1) (zk (by exact h5.1.1.2)) (c_X6_grow _ _ S5 c ca cg cl ce 77 78 P u hc5 h5 hcg ha.2.1 (2 ^ P - 1) (by omega)) ⟨rfl, rfl⟩ ⟨Nat.zero_le _, Nat.zero_le _⟩ rfl (Nat.le_of_ble_eq_true rfl) dX4_begin_73 ?_
  rintro _ S6 ⟨rfl, q6, h6⟩
  have w6 := w5.to q6 (fun k h => dZ_now k (z5 k h))
  obtain ⟨hz6, r16, r26, hc6, -, hr6⟩ := id w6
  have R8 := fun f => q6.R (f := f) d5
  have I8 := fun f => q6.I (f := f) d5
  rw [← hpost]
  exact g_return (pc := 76) C ⟨rfl, rfl⟩ dX4_begin_76 ⟨rfl, ((q04.mono (fun k e => by unfold dZ; omega)).trans (q5.mono z5)).trans (q6.mono z5), ⟨hz6, (R8 _).trans K5.2.1, (R8 _).trans K5.2.2.1, (R8 _).trans K5.2.2.2.1, (R8 _).trans K5.2.2.2.2.1, (R8 _).trans K5.2.2.2.2.2.1, (R8 _).trans K5.2.2.2.2.2.2.1, h6.1⟩, ⟨(R8 _).trans V5.1, (R8 _).trans V5.2.1, (I8 _).trans V5.2.2.1, (I8 _).trans V5.2.2.2.1, (I8 _).trans V5.2.2.2.2⟩, hc6, hk5, hr6, h6⟩
theorem c_X4_isSafe (w : Wd) (l : Launch) (S : St) (c ca cg cl ce P H : Nat) (u : Nat → Int32) (h : pzS S c ca cg cl ce P H u) (hb : bdU P u) (ha : sdA P u) (s : Nat) (hs : s < 128) : gx_M w l yX4_isSafe cX4_isSafe 2 (some .boolean) rmX4_isSafe [.ref (ad (w_b w) 74), .int (nI s)] S (pI (bI (ccF 0 u P H s = true)) S) := by
  obtain ⟨hk, hv, hc, hk5, hr, hm⟩ := h
  have hP7 := hc.2.2
  have o74 : gx_o S 74 4 := o_st hk.1 rfl rfl
  have e : ∀ j, j < 10 ∨ 28 ≤ j → midU u P j = u j := grw_e hP7
  have rm := hk.2.2.2.1
  have rc := hv.1
  refine gx_start rfl 0 rfl (Nat.le_of_ble_eq_true rfl) ?_
  intro X C _ hl
  subst hl
  refine gx_L (L' := [_, _]) rfl ?_
  refine g_aload_n (pc := 0) C dX4_isSafe_0 rfl ?_
  refine fgr_X4_21 (pc := 1) C (by exact o74.1) (zk (by exact o74.2)) (by exact rm) dX4_isSafe_1 ?_
  refine g_aload_n (pc := 4) C dX4_isSafe_4 rfl ?_
  refine fgr_X4_41 (pc := 5) C (by exact o74.1) (zk (by exact o74.2)) (by exact rc) dX4_isSafe_5 ?_
  refine g_iload_n (pc := 8) C dX4_isSafe_8 rfl ?_
  refine g_aload_n (pc := 9) C dX4_isSafe_9 rfl ?_
  refine fg_X4_50 (pc := 10) C (by exact o74.1) (zk (by exact o74.2)) dX4_isSafe_10 ?_
  refine gx_ti (y := bI (fogF 0 u H)) hv.2.2.1 ?_
  refine cf_X4_77 (pc := 13) C (by exact hm.1.1.1) (zk (by exact hm.1.1.2)) (c_X6_canBoard _ _ S c ca cg cl ce 77 78 P (midU u P) (hc.u e) hm (ha.1.u e) (nI s) (fogF 0 u H)) ⟨rfl, rfl⟩ ⟨rfl, rfl⟩ ⟨Nat.zero_le _, Nat.zero_le _⟩ rfl (Nat.le_of_ble_eq_true rfl) dX4_isSafe_13 ?_
  exact g_zreturn (pc := 16) C ⟨rfl, rfl⟩ bI_z dX4_isSafe_16 ⟨by rw [bI_iff ((safe_iff hP7 hb ha hs (fogF 0 u H)).trans (decide_eq_true_iff (p := canCF u P (fogF 0 u H) s)).symm)]; rfl, rfl⟩
