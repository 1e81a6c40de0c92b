/-! ===== AimFerry.ferry ===== -/
def rmFE : Room := { frames := 16, cells := 5, slots := 80, locals := 400 }
def feP (S : St) (c ca cg cl ce : Nat) (S1 : St) : Prop := eqO (fun k => k = 3 ∨ k = c ∨ k = ca ∨ k = cg ∨ k = cl ∨ k = ce) S S1 ∧ (∀ f, f ≠ 103 → s_R S1 f 3 = s_R S f 3) ∧ ∀ f, s_R S1 f c = s_R S f c
def beP (S S' : St) (c P : Nat) (u : Nat → Int32) : Prop := eqO (fun k => k = 7 ∨ k = 13 ∨ k = 14) S S' ∧ s_R S' 800 7 = some c ∧ s_I S' 804 7 = nI 0 ∧ (∀ f, f ≠ 804 → s_I S' f 7 = s_I S f 7) ∧ scK S' 7 13 14 15 ∧ rvS S' 13 14 P (begF u)
def feU (S : St) : St := mk_X0_init (s_new S 0 0) (kz (s_z S))
def feS (S : St) : St := s_setI (s_setI (s_setR (feU S) 1009 0 (some (kz (s_z S)))) 1011 0 (nI 0)) 1012 0 (nI 0)
def pxFer (S : St) (c ca cg cl ce : Nat) (r : Nat → Int32) (R : Except Nat (Nat × (Nat → Int32))) : Option Value → St → Prop := fun v S' => ∃ S1, feP S c ca cg cl ce S1 ∧ match R with
  | .error f => v = some (.int (-2 - nI f)) ∧ S' = s_setI S1 901 1 (nI 0)
  | .ok (P, D) => v = some (.int (nI P)) ∧ crZ S1 c ca cg cl ce P D ∧ ∃ S2, beP (s_setI S1 901 1 (nI 0)) S2 c P (nsF D r 190) ∧ S' = feS S2
theorem mkA_N {S T : St} {o f kd n : Nat} (e : eqN S T) (ho : ∀ k, okK S k → k ≠ o) : eqN S (mkA T o f kd n) := (e.trans eqN.new).set (D := fun k => k = o) (eqO.sR rfl) (fun k hk g => ho k hk g)
theorem feU_N {S : St} : eqN S (feU S) := mkA_N (mkA_N (mkA_N (mkA_N eqN.new (fun k hk => ok_ne hk)) (fun k hk => ok_ne hk)) (fun k hk => ok_ne hk)) (fun k hk => ok_ne hk)
theorem mkA_z {S : St} {o f kd n : Nat} : s_z (mkA S o f kd n) = s_z S + 1 := nw_z S kd n
theorem mkA_o {S : St} {o f kd n k kd' : Nat} (h : gx_o S k kd') : gx_o (mkA S o f kd n) k kd' := o_nw (kd' := kd) (n := n) h
theorem mkA_a {S : St} {o f kd n k kd' n' : Nat} (h : gx_a S k kd' n') : gx_a (mkA S o f kd n) k kd' n' := a_nw (kd' := kd) (n := n) h
theorem mkA_at {S : St} {o f kd n : Nat} (h : 121 ≤ s_z S) : gx_a (mkA S o f kd n) (kz (s_z S)) kd n := a_at h
theorem mkA_R {S : St} {o f kd n g : Nat} (h : okK S o) (hg : g ≠ f) : s_R (mkA S o f kd n) g o = s_R S g o := (gR_ne (Or.inl hg)).trans (nw_R (ok_ne h))
theorem feU_cr {S : St} (hz : 121 ≤ s_z S) : crK (feU S) (kz (s_z S)) (kz (s_z S + 1)) (kz (s_z S + 2)) (kz (s_z S + 3)) (kz (s_z S + 4)) := by
  have z0 : s_z (s_new S 0 0) = s_z S + 1 := nw_z S 0 0
  have o0 : gx_o (s_new S 0 0) (kz (s_z S)) 0 := o_at hz
  unfold feU mk_X0_init
  generalize kz (s_z S) = k0 at *
  generalize s_new S 0 0 = V at *
  have z1 : s_z (mkA V k0 6 13 7) = s_z S + 2 := by rw [mkA_z, z0]
  have z2 : s_z (mkA (mkA V k0 6 13 7) k0 7 13 7) = s_z S + 3 := by rw [mkA_z, z1]
  have z3 : s_z (mkA (mkA (mkA V k0 6 13 7) k0 7 13 7) k0 8 13 7) = s_z S + 4 := by rw [mkA_z, z2]
  have o1 : gx_o (mkA V k0 6 13 7) k0 0 := mkA_o o0
  have o2 : gx_o (mkA (mkA V k0 6 13 7) k0 7 13 7) k0 0 := mkA_o o1
  have o3 : gx_o (mkA (mkA (mkA V k0 6 13 7) k0 7 13 7) k0 8 13 7) k0 0 := mkA_o o2
  have a1 : gx_a (mkA V k0 6 13 7) (kz (s_z S + 1)) 13 7 := by rw [← z0]; exact mkA_at (by omega)
  have a2 : gx_a (mkA (mkA V k0 6 13 7) k0 7 13 7) (kz (s_z S + 2)) 13 7 := by rw [← z1]; exact mkA_at (by omega)
  have a3 : gx_a (mkA (mkA (mkA V k0 6 13 7) k0 7 13 7) k0 8 13 7) (kz (s_z S + 3)) 13 7 := by rw [← z2]; exact mkA_at (by omega)
  have a4 : gx_a (mkA (mkA (mkA (mkA V k0 6 13 7) k0 7 13 7) k0 8 13 7) k0 9 13 49) (kz (s_z S + 4)) 13 49 := by rw [← z3]; exact mkA_at (by omega)
  have r1 : s_R (mkA V k0 6 13 7) 6 k0 = some (kz (s_z S + 1)) := by rw [← z0]; exact gR_at
  have r2 : s_R (mkA (mkA V k0 6 13 7) k0 7 13 7) 7 k0 = some (kz (s_z S + 2)) := by rw [← z1]; exact gR_at
  have r3 : s_R (mkA (mkA (mkA V k0 6 13 7) k0 7 13 7) k0 8 13 7) 8 k0 = some (kz (s_z S + 3)) := by rw [← z2]; exact gR_at
  have r4 : s_R (mkA (mkA (mkA (mkA V k0 6 13 7) k0 7 13 7) k0 8 13 7) k0 9 13 49) 9 k0 = some (kz (s_z S + 4)) := by rw [← z3]; exact gR_at
  exact ⟨mkA_o o3, (mkA_R o3.2 (by decide)).trans ((mkA_R o2.2 (by decide)).trans ((mkA_R o1.2 (by decide)).trans r1)), mkA_a (mkA_a (mkA_a a1)), (mkA_R o3.2 (by decide)).trans ((mkA_R o2.2 (by decide)).trans r2), mkA_a (mkA_a a2), (mkA_R o3.2 (by decide)).trans r3, mkA_a a3, r4, a4⟩
theorem feU_5 {S : St} (hz : 121 ≤ s_z S) : k5D (kz (s_z S)) (kz (s_z S + 1)) (kz (s_z S + 2)) (kz (s_z S + 3)) (kz (s_z S + 4)) := by
  rw [kz_dyn hz, kz_dyn (z := s_z S + 1) (by omega), kz_dyn (z := s_z S + 2) (by omega), kz_dyn (z := s_z S + 3) (by omega), kz_dyn (z := s_z S + 4) (by omega)]
  exact ⟨⟨Or.inr (Or.inr (by omega)), Or.inr (Or.inr (by omega)), Or.inr (Or.inr (by omega)), Or.inr (Or.inr (by omega)), Or.inr (Or.inr (by omega))⟩, by omega, by omega, by omega, by omega, by omega, by omega⟩
theorem ok_far {S : St} {k : Nat} (h : okK S k) (i : Nat) : k ≠ kz (s_z S + i) := fun e => by
  obtain ⟨h1, h2⟩ := h
  rw [kz_dyn (by omega)] at e
  omega
theorem ns_lo {D r : Nat → Int32} {t : Nat} (h : t < 159) : nsF D r 190 t = D t := by
  unfold nsF; rw [if_pos (by omega), if_pos h]
theorem crS_of {U : St} {c ca cg cl ce P : Nat} {D : Nat → Int32} (hK : crK U c ca cg cl ce) (h : crZ U c ca cg cl ce P D) : crS U c ca cg cl ce P D := by
  obtain ⟨⟨i0, i1, i2, i3, i4⟩, h4, hP, h5, -, h6, h7⟩ := h
  exact ⟨hK, ⟨i0, i1, i2, i3, i4, h5, fun p hp q hq => h6 p (by omega) q (by omega), h7⟩, hP⟩
theorem feP.cr {S S1 : St} {c ca cg cl ce : Nat} (h : feP S c ca cg cl ce S1) (hK : crK S c ca cg cl ce) : crK S1 c ca cg cl ce := ⟨h.1.o hK.1, (h.2.2 _).trans hK.2.1, h.1.a hK.2.2.1, (h.2.2 _).trans hK.2.2.2.1, h.1.a hK.2.2.2.2.1, (h.2.2 _).trans hK.2.2.2.2.2.1, h.1.a hK.2.2.2.2.2.2.1, (h.2.2 _).trans hK.2.2.2.2.2.2.2.1, h.1.a hK.2.2.2.2.2.2.2.2⟩
theorem ck_st {k : Nat} (h : ck k) : k ≠ 0 ∧ k ≠ 1 ∧ k ≠ 2 ∧ k ≠ 3 ∧ k ≠ 4 ∧ k ≠ 5 ∧ k ≠ 6 ∧ k ≠ 7 ∧ k ≠ 13 ∧ k ≠ 14 ∧ k ≠ 15 := by unfold ck at h; omega
theorem c_X11_ferry (w : Wd) (j : SJ) (l : Launch) (S : St) (L c ca cg cl ce : Nat) (D0 r : Nat → Int32) (hD0 : ∀ i, i < 159 → D0 i = nI 0) (h : afK S) (hsc : scK S 7 13 14 15) (hd : rd3K S L) (h3 : s_R S 1001 0 = some 3) (h9 : s_R S 1009 0 = some c) (hK : crK S c ca cg cl ce) (h5 : k5D c ca cg cl ce) : gx_MV w j l yX11_ferry cX11_ferry 2 (some .int) rmFE [.ref (ad (w_b w) 0)] S (pxFer S c ca cg cl ce r (rdC (s_A S 2) L 401 0 0 0 D0)) := by
  have q0 : gx_o S 0 10 := o_st h.1 rfl rfl
  have q3 : gx_o S 3 1 := o_st h.1 rfl rfl
  have hL := hd.2.1.2.2.2
  have s1 := ck_st h5.1.1
  have s2 := ck_st h5.1.2.1
  have s3 := ck_st h5.1.2.2.1
  have s4 := ck_st h5.1.2.2.2.1
  have s5 := ck_st h5.1.2.2.2.2
  have hread := fun l => c_X1_read w j l S c ca cg cl ce L D0 hD0 hd hK h5
  generalize rdC (s_A S 2) L 401 0 0 0 D0 = R at hread ⊢
  generalize hpost : pxFer S c ca cg cl ce r R = post
  refine gx_startV rfl 1 rfl (Nat.le_of_ble_eq_true rfl) ?_
  intro X C V _ hl
  subst hl
  refine gx_L (L' := [_, _]) rfl ?_
  refine g_aload_n (pc := 0) C dX11_ferry_0 rfl ?_
  refine fgr_X11_21 (pc := 1) C q0.1 (zk q0.2) h3 dX11_ferry_1 ?_
  refine g_aload_n (pc := 4) C dX11_ferry_4 rfl ?_
  refine fgr_X11_79 (pc := 5) C q0.1 (zk q0.2) h9 dX11_ferry_5 ?_
  refine cgj_X11_90 (pc := 8) C V.1 q3.1 (zk q3.2) (hread _) ⟨rfl, rfl⟩ ⟨by decide, by decide⟩ rfl (Nat.le_of_ble_eq_true rfl) dX11_ferry_8 ?_
  rintro v S1 ⟨e, eR3, eRc, p⟩
  have hfe : feP S c ca cg cl ce S1 := ⟨e, eR3, eRc⟩
  have hz1 : 121 ≤ s_z S1 := by rw [e.1]; exact h.1
  have p0 : gx_o S1 0 10 := o_st hz1 rfl rfl
  have p1 : gx_o S1 1 9 := o_st hz1 rfl rfl
  have r1 : s_R S1 1000 0 = some 1 := (e.R (by omega)).trans h.2.1
  have tail : ∀ (y : Int32), (¬ y = 0 → post (some (.int (-2 - y))) (s_setI S1 901 1 (nI 0))) → (y = 0 → gx_G w X (s_setI S1 901 1 (nI 0)) 0 0 29 [some (.ref (ad (w_b w) 0)), some (.int y)] [] (gx_E w X post)) → gx_G w X S1 0 0 11 [some (.ref (ad (w_b w) 0)), none] [.int y] (gx_E w X post) := by
    intro y hy1 hy2
    refine g_istore_n (pc := 11) (L' := [some (.ref (ad (w_b w) 0)), some (.int y)]) C dX11_ferry_11 rfl rfl ?_
    refine g_aload_n (pc := 12) C dX11_ferry_12 rfl ?_
    refine fgr_X11_10 (pc := 13) C p0.1 (zk p0.2) r1 dX11_ferry_13 ?_
    refine g_iconst (pc := 16) (v := nI 0) C dX11_ferry_16 (by decide) ?_
    refine fp_X11_82 (pc := 17) C p1.1 (zk p1.2) dX11_ferry_17 ?_
    refine g_iload_n (pc := 20) C dX11_ferry_20 rfl ?_
    refine g_if_eq (pc := 21) C 29 dX11_ferry_21 rfl (fun c => hy2 c) (fun c => ?_)
    refine g_bipush (pc := 24) (v := -2) C dX11_ferry_24 (by decide) ?_
    refine g_iload_n (pc := 26) C dX11_ferry_26 rfl ?_
    refine g_isub (pc := 27) C dX11_ferry_27 ?_
    exact g_ireturn (pc := 28) C ⟨rfl, rfl⟩ dX11_ferry_28 (hy1 c)
  cases R with
  | error f =>
    obtain ⟨rfl, f0, fL⟩ := p
    exact tail _ (fun _ => by rw [← hpost]; exact ⟨S1, hfe, rfl, rfl⟩) (fun c => absurd c (nI_ne0 f0 (by omega)))
  | ok pp =>
    obtain ⟨P, D⟩ := pp
    obtain ⟨rfl, hZ⟩ := p
    refine tail _ (fun c => absurd rfl c) (fun _ => ?_)
    have e1 : eqO (fun k => k = 1) S1 (s_setI S1 901 1 (nI 0)) := eqO.sI rfl
    have hck : ∀ k, ck k → ¬ (k = 0 ∨ (33 ≤ k ∧ k < 74)) := fun k hk => by unfold ck at hk; omega
    have haf0 : afK S1 := h.o e (fun k g => by
      rcases g with rfl | rfl | rfl | rfl | rfl | rfl
      · omega
      · exact hck _ h5.1.1
      · exact hck _ h5.1.2.1
      · exact hck _ h5.1.2.2.1
      · exact hck _ h5.1.2.2.2.1
      · exact hck _ h5.1.2.2.2.2)
    have haf1 : afK (s_setI S1 901 1 (nI 0)) := haf0.o e1 (fun k g => by omega)
    have hcr : crS (s_setI S1 901 1 (nI 0)) c ca cg cl ce P (nsF D r 190) := ((crS_of (hfe.cr hK) hZ).to e1 ⟨s1.2.1, s2.2.1, s3.2.1, s4.2.1, s5.2.1⟩).co (fun t ht => ns_lo ht)
    have hsc1 : scK (s_setI S1 901 1 (nI 0)) 7 13 14 15 := (hsc.to e (by omega) (by omega)).to e1 (by omega) (by omega)
    have r9 : s_R (s_setI S1 901 1 (nI 0)) 1009 0 = some c := (e.R (by omega)).trans h9
    have hp0 : ∀ S2, beP (s_setI S1 901 1 (nI 0)) S2 c P (nsF D r 190) → post (some (.int (nI P))) (feS S2) := fun S2 b => by rw [← hpost]; exact ⟨S1, hfe, rfl, hZ, S2, b, rfl⟩
    generalize s_setI S1 901 1 (nI 0) = Sa at haf1 hcr hsc1 r9 hp0 ⊢
    clear tail hpost haf0 e1
    have hza := haf1.1
    have t0 : gx_o Sa 0 10 := o_st hza rfl rfl
    have t7 : gx_o Sa 7 8 := o_st hza rfl rfl
    refine g_aload_n (pc := 29) C dX11_ferry_29 rfl ?_
    refine fgr_X11_46 (pc := 30) C t0.1 (zk t0.2) haf1.2.2.2.1 dX11_ferry_30 ?_
    refine g_aload_n (pc := 33) C dX11_ferry_33 rfl ?_
    refine fgr_X11_79 (pc := 34) C t0.1 (zk t0.2) r9 dX11_ferry_34 ?_
    refine cg_X11_94 (pc := 37) C t7.1 (zk t7.2) (c_X9_begin w _ Sa 7 13 14 15 c ca cg cl ce P (nsF D r 190) hsc1 hcr ⟨by omega, by omega, by omega, by omega, by omega⟩ ⟨by decide, by decide⟩) ⟨rfl, rfl⟩ ⟨by decide, by decide⟩ rfl (Nat.le_of_ble_eq_true rfl) dX11_ferry_37 ?_
    rintro _ S2 ⟨rfl, b1, b2, b3, b4, b5, b6⟩
    have hz2 : 121 ≤ s_z S2 := by rw [b1.1]; exact hza
    have hp := hp0 S2 ⟨b1, b2, b3, b4, b5, b6⟩
    have haf2 : afK S2 := haf1.o b1 (fun k g => by omega)
    have oc : gx_o S2 c 0 := b1.o hcr.1.1
    have iP : s_I S2 4 c = nI P := (b1.I (by omega)).trans hcr.2.1.2.2.2.2.1
    have on := o_at (S := S2) (kd := 0) (n := 0) hz2
    refine g_aload_n (pc := 40) C dX11_ferry_40 rfl ?_
    refine gn_X11_40 (pc := 41) C (fit_kn (fit_dyn hz2)).1 (fit_kn (fit_dyn hz2)).2 ⟨by decide, by decide⟩ dX11_ferry_41 ?_
    refine g_dup (pc := 44) C dX11_ferry_44 rfl ?_
    refine ci_X11_42 (pc := 45) C V (c_X0_init w _ (s_new S2 0 0) (kz (s_z S2)) ⟨on.1, zk on.2⟩ ⟨fit_dyn (by rw [nw_z]; omega), fit_dyn (by rw [nw_z]; omega), fit_dyn (by rw [nw_z]; omega), fit_dyn (by rw [nw_z]; omega), trivial⟩) ⟨rfl, rfl⟩ ⟨by decide, by decide⟩ rfl (Nat.le_of_ble_eq_true rfl) dX11_ferry_45 ?_
    rintro _ _ ⟨rfl, rfl⟩
    refine gx_S (S' := feU S2) rfl ?_
    have en := feU_N (S := S2)
    have hz3 := en.z hz2
    have u0 : gx_o (feU S2) 0 10 := o_st hz3 rfl rfl
    refine fps_X11_79 (pc := 48) C u0.1 (zk u0.2) dX11_ferry_48 ?_
    have haf3 : afK (s_setR (feU S2) 1009 0 (some (kz (s_z S2)))) := (haf2.nw en : afK (feU S2))
    have v0 : gx_o (s_setR (feU S2) 1009 0 (some (kz (s_z S2)))) 0 10 := u0
    refine g_aload_n (pc := 51) C dX11_ferry_51 rfl ?_
    refine cg_X11_97 (pc := 52) C v0.1 (zk v0.2) (c_X11_forgetActs w _ _ haf3) ⟨rfl, rfl⟩ ⟨by decide, by decide⟩ rfl (Nat.le_of_ble_eq_true rfl) dX11_ferry_52 ?_
    rintro _ _ ⟨rfl, rfl⟩
    refine gx_S (S' := feS S2) rfl ?_
    have w0 : gx_o (feS S2) 0 10 := v0
    have w7 : gx_o (feS S2) 7 8 := (o_st hz3 rfl rfl : gx_o (feU S2) 7 8)
    have wc : gx_o (feS S2) c 0 := (en.o oc : gx_o (feU S2) c 0)
    have x4 : s_R (feS S2) 1004 0 = some 7 := haf3.2.2.2.1
    have x8 : s_R (feS S2) 800 7 = some c := ((en.R (ok5 hz2 (by decide))).trans b2 : s_R (feU S2) 800 7 = some c)
    have xP : s_I (feS S2) 4 c = nI P := ((en.I oc.2).trans iP : s_I (feU S2) 4 c = nI P)
    refine g_aload_n (pc := 55) C dX11_ferry_55 rfl ?_
    refine fgr_X11_46 (pc := 56) C w0.1 (zk w0.2) x4 dX11_ferry_56 ?_
    refine fgr_X11_54 (pc := 59) C w7.1 (zk w7.2) x8 dX11_ferry_59 ?_
    refine fg_X11_100 (pc := 62) C wc.1 (zk wc.2) dX11_ferry_62 ?_
    refine gx_ti (y := nI P) xP ?_
    exact g_ireturn (pc := 65) C ⟨rfl, rfl⟩ dX11_ferry_65 hp
