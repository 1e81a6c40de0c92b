/-! ===== THE CLASS: AimFerry: image, back ===== -/
def imK (S : St) : Prop := ∀ k, k < 4 → s_Q S 16 k = some (17 + 4 * k) ∧ scK S (17 + 4 * k) (18 + 4 * k) (19 + 4 * k) (20 + 4 * k)
def dI (k : Nat) : Nat → Prop := fun j => j = 17 + 4 * k ∨ j = 18 + 4 * k ∨ j = 19 + 4 * k ∨ j = 20 + 4 * k
def imgP (S S' : St) (k c P m : Nat) (u : Nat → Int32) (f x : Int32) : Prop := eqO (dI k) S S' ∧ s_R S' 800 (17 + 4 * k) = some c ∧ s_I S' 802 (17 + 4 * k) = f ∧ s_I S' 803 (17 + 4 * k) = x ∧ s_I S' 805 (17 + 4 * k) = nI 1 ∧ scK S' (17 + 4 * k) (18 + 4 * k) (19 + 4 * k) (20 + 4 * k) ∧ rvS S' (18 + 4 * k) (19 + 4 * k) P u ∧ noS S' (17 + 4 * k) (20 + 4 * k) P m u
theorem c_X11_image (w : Wd) (l : Launch) (S : St) (c ca cg cl ce P H m nr : Nat) (u : Nat → Int32) (f x : Int32) (Fs : Nat → (Nat → Int64) → Int64) (h : aK S c ca cg cl ce P H m nr u f x Fs) (hi : imK S) (y : Int32) : gx_M w l yX11_image cX11_image 2 (some .int) rmX11_image [.ref (ad (w_b w) 0), .int y] S (fun v S' => if nI 0 ≤ y ∧ y ≤ nI 3 then (v = some (.int (u 10)) ∧ imgP S S' y.toNatClampNeg c P m u f x) else (v = some (.int (-1)) ∧ S' = S)) := by
  have hP7 := aK.P7 h
  have a16 : gx_a S 16 18 4 := a_st (aK.af h).1 rfl rfl rfl
  have ri := (aK.af h).2.2.2.2.1
  generalize hpost : (fun (v : Option Value) (S' : St) => if nI 0 ≤ y ∧ y ≤ nI 3 then (v = some (.int (u 10)) ∧ imgP S S' y.toNatClampNeg c P m u f x) else (v = some (.int (-1)) ∧ S' = S)) = post
  refine gx_start rfl 0 rfl (Nat.le_of_ble_eq_true rfl) ?_
  intro X C _ hl
  subst hl
  refine gx_L (L' := [_, _]) rfl ?_
  refine g_iload_n (pc := 0) C dX11_image_0 rfl ?_
  refine g_iconst (pc := 1) (v := nI 0) C dX11_image_1 (by decide) ?_
  refine g_iconst (pc := 2) (v := nI 3) C dX11_image_2 (by decide) ?_
  refine cf_X11_194 (pc := 3) C (c_X11_within _ _ S y (nI 0) (nI 3)) ⟨rfl, rfl⟩ ⟨rfl, rfl⟩ ⟨Nat.zero_le _, Nat.zero_le _⟩ rfl (Nat.le_of_ble_eq_true rfl) dX11_image_3 ?_
  refine g_if_ne (pc := 6) C 11 dX11_image_6 rfl (fun c1 => ?_) (fun c1 => ?_)
  · have c1 := Decidable.not_not.mp (fun q => c1 (bI_0.mpr q))
    obtain ⟨k, hk, rfl⟩ := nat_of (by omega) c1
    have ek : (nI k).toNatClampNeg = k := nI_clamp (by omega)
    rw [ek] at hpost
    obtain ⟨hq, hs⟩ := hi k (by omega)
    refine g_aload_n (pc := 11) C dX11_image_11 rfl ?_
    refine fgr_X11_50 (pc := 12) C (by exact (aK.o0 h).1) (zk (by exact (aK.o0 h).2)) (by exact ri) dX11_image_12 ?_
    refine g_iload_n (pc := 15) C dX11_image_15 rfl ?_
    refine g_aalds18 (pc := 16) (n := 4) C (by exact a16.1) (by exact a16.2.1) (zk (by exact a16.2.2)) isn_v rfl (by omega) (by exact hq) dX11_image_16 ?_
    refine g_aload_n (pc := 17) C dX11_image_17 rfl ?_
    refine fgr_X11_46 (pc := 18) C (by exact (aK.o0 h).1) (zk (by exact (aK.o0 h).2)) (by exact (aK.rn h)) dX11_image_18 ?_
    refine cg_X11_332 (pc := 21) C (by exact hs.1.1) (zk (by exact hs.1.2)) (c_X9_copyFrom _ _ S (17 + 4 * k) (18 + 4 * k) (19 + 4 * k) (20 + 4 * k) 7 13 14 15 c P m u hs (aK.sc h) (aK.rc h) (aK.rv h) (aK.no h) hP7 (by omega)) ⟨rfl, rfl⟩ ⟨Nat.zero_le _, Nat.zero_le _⟩ rfl (Nat.le_of_ble_eq_true rfl) dX11_image_21 ?_
    rintro _ S1 ⟨rfl, q1, r8, i2, i3, i5, s1, v1, n1⟩
    have q1 : eqO (dI k) S S1 := q1
    have d0 : ∀ j, j < 17 → ¬ dI k j := fun j hj q => by unfold dI at q; omega
    have o0 : gx_o S1 0 10 := q1.o (aK.o0 h)
    have r5 : s_R S1 1005 0 = some 16 := (q1.R (d0 _ (by omega))).trans ri
    have a16b : gx_a S1 16 18 4 := q1.a a16
    have hq1 : s_Q S1 16 k = some (17 + 4 * k) := by rw [q1.Q (d0 _ (by omega))]; exact hq
    refine g_aload_n (pc := 24) C dX11_image_24 rfl ?_
    refine fgr_X11_50 (pc := 25) C (by exact o0.1) (zk (by exact o0.2)) (by exact r5) dX11_image_25 ?_
    refine g_iload_n (pc := 28) C dX11_image_28 rfl ?_
    refine g_aalds18 (pc := 29) (n := 4) C (by exact a16b.1) (by exact a16b.2.1) (zk (by exact a16b.2.2)) isn_v rfl (by omega) (by exact hq1) dX11_image_29 ?_
    refine g_iconst (pc := 30) (v := nI 1) C dX11_image_30 (by decide) ?_
    refine fp_X11_334 (pc := 31) C (by exact s1.1.1) (zk (by exact s1.1.2)) (by first | exact Or.inl rfl | exact Or.inr rfl) dX11_image_31 ?_
    have q2 : eqO (dI k) S (s_setI S1 805 (17 + 4 * k) (nI 1)) := q1.trans (eqO.sI (Or.inl rfl))
    have p2 : imgP S (s_setI S1 805 (17 + 4 * k) (nI 1)) k c P m u f x := ⟨q2, r8, (gI_ne (Or.inl (by decide))).trans (i2.trans (aK.fv h)), (gI_ne (Or.inl (by decide))).trans (i3.trans (aK.xv h)), gI_at, ⟨s1.1, s1.2.1, s1.2.2.1, s1.2.2.2.1, s1.2.2.2.2.1, s1.2.2.2.2.2.1, s1.2.2.2.2.2.2⟩, v1.to (D := fun j => j = 17 + 4 * k) (eqO.sI rfl) ⟨by omega, by omega⟩, ⟨(gI_ne (Or.inl (by decide))).trans n1.1, n1.2⟩⟩
    generalize s_setI S1 805 (17 + 4 * k) (nI 1) = S2 at q2 p2 ⊢
    have o0 : gx_o S2 0 10 := q2.o (aK.o0 h)
    have rn : s_R S2 1004 0 = some 7 := (q2.R (d0 _ (by omega))).trans (aK.rn h)
    have o7 : gx_o S2 7 8 := q2.o (aK.o7 h)
    have rr : s_R S2 801 7 = some 13 := (q2.R (d0 _ (by omega))).trans (aK.rr h)
    have ov : gx_o S2 13 5 := q2.o (aK.ov h)
    refine g_aload_n (pc := 34) C dX11_image_34 rfl ?_
    refine fgr_X11_46 (pc := 35) C (by exact o0.1) (zk (by exact o0.2)) (by exact rn) dX11_image_35 ?_
    refine fgr_X11_120 (pc := 38) C (by exact o7.1) (zk (by exact o7.2)) (by exact rr) dX11_image_38 ?_
    refine fg_X11_146 (pc := 41) C (by exact ov.1) (zk (by exact ov.2)) dX11_image_41 ?_
    refine gx_ti (y := u 10) ((q2.I (d0 _ (by omega))).trans (aK.rv h).2.1.1) ?_
    rw [← hpost]
    exact g_ireturn (pc := 44) C ⟨rfl, rfl⟩ dX11_image_44 (by rw [if_pos c1]; exact ⟨rfl, p2⟩)
  · refine g_iconst (pc := 9) (v := -1) C dX11_image_9 (by decide) ?_
    rw [← hpost]
    exact g_ireturn (pc := 10) C ⟨rfl, rfl⟩ dX11_image_10 (by rw [if_neg (bI_0.mp (Decidable.not_not.mp c1))]; exact ⟨rfl, rfl⟩)
def dB : Nat → Prop := fun j => j = 0 ∨ j = 7 ∨ j = 13 ∨ j = 14 ∨ j = 15
def backP (S S' : St) (k c P m : Nat) (u : Nat → Int32) : Prop := eqO dB S S' ∧ (∀ f, s_R S' f 0 = s_R S f 0) ∧ (∀ f, f ≠ 1011 → f ≠ 1012 → s_I S' f 0 = s_I S f 0) ∧ s_I S' 1011 0 = nI 0 ∧ s_I S' 1012 0 = nI 0 ∧ s_R S' 800 7 = some c ∧ s_I S' 802 7 = s_I S 802 (17 + 4 * k) ∧ s_I S' 803 7 = s_I S 803 (17 + 4 * k) ∧ scK S' 7 13 14 15 ∧ rvS S' 13 14 P u ∧ noS S' 7 15 P m u
theorem c_X11_back (w : Wd) (l : Launch) (S : St) (ha : afK S) (hs7 : scK S 7 13 14 15) (hi : imK S) (c P m : Nat → Nat) (u : Nat → Nat → Int32) (him : ∀ k, k < 4 → ¬ s_I S 805 (17 + 4 * k) = 0 → s_R S 800 (17 + 4 * k) = some (c k) ∧ P k ≤ 7 ∧ rvS S (18 + 4 * k) (19 + 4 * k) (P k) (u k) ∧ noS S (17 + 4 * k) (20 + 4 * k) (P k) (m k) (u k)) (y : Int32) : gx_M w l yX11_back cX11_back 2 (some .int) rmX11_back [.ref (ad (w_b w) 0), .int y] S (fun v S' => if (nI 0 ≤ y ∧ y ≤ nI 3) ∧ ¬ s_I S 805 (17 + 4 * y.toNatClampNeg) = 0 then (v = some (.int (u y.toNatClampNeg 10)) ∧ backP S S' y.toNatClampNeg (c y.toNatClampNeg) (P y.toNatClampNeg) (m y.toNatClampNeg) (u y.toNatClampNeg)) else (v = some (.int (-1)) ∧ S' = S)) := by
  have o0 : gx_o S 0 10 := o_st ha.1 rfl rfl
  have a16 : gx_a S 16 18 4 := a_st ha.1 rfl rfl rfl
  have ri := ha.2.2.2.2.1
  have rn := ha.2.2.2.1
  generalize hpost : (fun (v : Option Value) (S' : St) => if (nI 0 ≤ y ∧ y ≤ nI 3) ∧ ¬ s_I S 805 (17 + 4 * y.toNatClampNeg) = 0 then (v = some (.int (u y.toNatClampNeg 10)) ∧ backP S S' y.toNatClampNeg (c y.toNatClampNeg) (P y.toNatClampNeg) (m y.toNatClampNeg) (u y.toNatClampNeg)) else (v = some (.int (-1)) ∧ S' = S)) = post
  refine gx_start rfl 0 rfl (Nat.le_of_ble_eq_true rfl) ?_
  intro X C _ hl
  subst hl
  refine gx_L (L' := [_, _]) rfl ?_
  have bad : ¬ ((nI 0 ≤ y ∧ y ≤ nI 3) ∧ ¬ s_I S 805 (17 + 4 * y.toNatClampNeg) = 0) → gx_G w X S 0 0 21 [some (.ref (ad (w_b w) 0)), some (.int y)] [] (gx_E w X post) := by
    intro hb
    refine g_iconst (pc := 21) (v := -1) C dX11_back_21 (by decide) ?_
    rw [← hpost]
    exact g_ireturn (pc := 22) C ⟨rfl, rfl⟩ dX11_back_22 (by rw [if_neg hb]; exact ⟨rfl, rfl⟩)
  refine g_iload_n (pc := 0) C dX11_back_0 rfl ?_
  refine g_iconst (pc := 1) (v := nI 0) C dX11_back_1 (by decide) ?_
  refine g_iconst (pc := 2) (v := nI 3) C dX11_back_2 (by decide) ?_
  refine cf_X11_194 (pc := 3) C (c_X11_within _ _ S y (nI 0) (nI 3)) ⟨rfl, rfl⟩ ⟨rfl, rfl⟩ ⟨Nat.zero_le _, Nat.zero_le _⟩ rfl (Nat.le_of_ble_eq_true rfl) dX11_back_3 ?_
  refine g_if_eq (pc := 6) C 21 dX11_back_6 rfl (fun c1 => ?_) (fun c1 => ?_)
  · exact bad (fun q => bI_0.mp c1 q.1)
  · have c1 := Decidable.not_not.mp (fun q => c1 (bI_0.mpr q))
    obtain ⟨k, hk, rfl⟩ := nat_of (by omega) c1
    have ek : (nI k).toNatClampNeg = k := nI_clamp (by omega)
    obtain ⟨hq, hs⟩ := hi k (by omega)
    refine g_aload_n (pc := 9) C dX11_back_9 rfl ?_
    refine fgr_X11_50 (pc := 10) C (by exact o0.1) (zk (by exact o0.2)) (by exact ri) dX11_back_10 ?_
    refine g_iload_n (pc := 13) C dX11_back_13 rfl ?_
    refine g_aalds18 (pc := 14) (n := 4) C (by exact a16.1) (by exact a16.2.1) (zk (by exact a16.2.2)) isn_v rfl (by omega) (by exact hq) dX11_back_14 ?_
    refine fg_X11_334 (pc := 15) C (by exact hs.1.1) (zk (by exact hs.1.2)) dX11_back_15 ?_
    refine g_if_ne (pc := 18) C 23 dX11_back_18 rfl (fun c2 => ?_) (fun c2 => ?_)
    · have hok : (nI 0 ≤ nI k ∧ nI k ≤ nI 3) ∧ ¬ s_I S 805 (17 + 4 * (nI k).toNatClampNeg) = 0 := ⟨c1, by rw [ek]; exact c2⟩
      obtain ⟨rc, hP7, hv, hn⟩ := him k (by omega) c2
      refine g_aload_n (pc := 23) C dX11_back_23 rfl ?_
      refine fgr_X11_46 (pc := 24) C (by exact o0.1) (zk (by exact o0.2)) (by exact rn) dX11_back_24 ?_
      refine g_aload_n (pc := 27) C dX11_back_27 rfl ?_
      refine fgr_X11_50 (pc := 28) C (by exact o0.1) (zk (by exact o0.2)) (by exact ri) dX11_back_28 ?_
      refine g_iload_n (pc := 31) C dX11_back_31 rfl ?_
      refine g_aalds18 (pc := 32) (n := 4) C (by exact a16.1) (by exact a16.2.1) (zk (by exact a16.2.2)) isn_v rfl (by omega) (by exact hq) dX11_back_32 ?_
      refine cg_X11_332 (pc := 33) C (by exact hs7.1.1) (zk (by exact hs7.1.2)) (c_X9_copyFrom _ _ S 7 13 14 15 (17 + 4 * k) (18 + 4 * k) (19 + 4 * k) (20 + 4 * k) (c k) (P k) (m k) (u k) hs7 hs rc hv hn hP7 (by omega)) ⟨rfl, rfl⟩ ⟨Nat.zero_le _, Nat.zero_le _⟩ rfl (Nat.le_of_ble_eq_true rfl) dX11_back_33 ?_
      rintro _ S1 ⟨rfl, q1, r8, i2, i3, i5, s1, v1, n1⟩
      have d0 : ¬ ((0 : Nat) = 7 ∨ (0 : Nat) = 13 ∨ (0 : Nat) = 14 ∨ (0 : Nat) = 15) := by omega
      have o1 : gx_o S1 0 10 := q1.o o0
      have af1 : afK S1 := ha.o q1 (fun j q => by omega)
      refine g_aload_n (pc := 36) C dX11_back_36 rfl ?_
      refine cf_X11_97 (pc := 37) C (by exact o1.1) (zk (by exact o1.2)) (c_X11_forgetActs _ _ S1 af1) ⟨rfl, rfl⟩ ⟨rfl, rfl⟩ ⟨Nat.zero_le _, Nat.zero_le _⟩ rfl (Nat.le_of_ble_eq_true rfl) dX11_back_37 ?_
      have q2 : eqO dB S (s_setI (s_setI S1 1011 0 (nI 0)) 1012 0 (nI 0)) := (q1.mono (fun j q => Or.inr q)).trans ((eqO.sI (Or.inl rfl)).trans (eqO.sI (Or.inl rfl)))
      have e2 : eqO (fun j => j = 0) S1 (s_setI (s_setI S1 1011 0 (nI 0)) 1012 0 (nI 0)) := (eqO.sI (D := fun j => j = 0) rfl).trans (eqO.sI rfl)
      have p2 : backP S (s_setI (s_setI S1 1011 0 (nI 0)) 1012 0 (nI 0)) k (c k) (P k) (m k) (u k) := ⟨q2, fun f => q1.R d0, fun f f1 f2 => (gI_ne (Or.inl f2)).trans ((gI_ne (Or.inl f1)).trans (q1.I d0)), (gI_ne (Or.inl (by decide))).trans gI_at, gI_at, r8, (e2.I (by decide)).trans i2, (e2.I (by decide)).trans i3, s1.to e2 (by decide) (by decide), v1.to e2 ⟨by decide, by decide⟩, n1.to e2 (by decide) (by decide)⟩
      generalize s_setI (s_setI S1 1011 0 (nI 0)) 1012 0 (nI 0) = S2 at q2 e2 p2 ⊢
      have o2 : gx_o S2 0 10 := q2.o o0
      have rn2 : s_R S2 1004 0 = some 7 := (p2.2.1 _).trans rn
      have s2 := p2.2.2.2.2.2.2.2.2.1
      refine g_aload_n (pc := 40) C dX11_back_40 rfl ?_
      refine fgr_X11_46 (pc := 41) C (by exact o2.1) (zk (by exact o2.2)) (by exact rn2) dX11_back_41 ?_
      refine fgr_X11_120 (pc := 44) C (by exact s2.1.1) (zk (by exact s2.1.2)) (by exact s2.2.1) dX11_back_44 ?_
      refine fg_X11_146 (pc := 47) C (by exact s2.2.2.2.2.1.1) (zk (by exact s2.2.2.2.2.1.2)) dX11_back_47 ?_
      refine gx_ti (y := u k 10) p2.2.2.2.2.2.2.2.2.2.1.2.1.1 ?_
      rw [← hpost]
      exact g_ireturn (pc := 50) C ⟨rfl, rfl⟩ dX11_back_50 (by rw [if_pos hok, ek]; exact ⟨rfl, p2⟩)
    · exact bad (fun q => q.2 (by rw [ek]; exact Decidable.not_not.mp c2))
