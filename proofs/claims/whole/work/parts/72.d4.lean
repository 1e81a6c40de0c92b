/-! ===== THE CLASS: TRIPS that are asked ===== -/
theorem o_st {S : St} {k kd : Nat} (hz : 121 ≤ s_z S) (hk : Nat.blt k 95 = true) (h : lXk.getD k 99 = kd) : gx_o S k kd := by
  have hk : k < 95 := Nat.le_of_ble_eq_true hk
  exact ⟨by unfold s_k; rw [if_pos (by omega)]; exact h, hz, Or.inl hk⟩
theorem a_st {S : St} {k kd n : Nat} (hz : 121 ≤ s_z S) (hk : Nat.blt k 95 = true) (h : lXk.getD k 99 = kd) (h2 : lXn.getD k 0 = n) : gx_a S k kd n := by
  have hk : k < 95 := Nat.le_of_ble_eq_true hk
  exact ⟨by unfold s_k; rw [if_pos (by omega)]; exact h, by unfold s_n; rw [if_pos (by omega)]; exact h2, hz, Or.inl hk⟩
def ftK (S : St) : Prop := 121 ≤ s_z S ∧ s_R S 200 82 = some 83 ∧ s_R S 207 82 = some 86 ∧ s_R S 208 82 = some 88 ∧ s_R S 209 82 = some 89 ∧ plK S 83 84 85 ∧ rvK S 86 87
def ck (k : Nat) : Prop := (8 ≤ k ∧ k ≤ 12) ∨ (90 ≤ k ∧ k ≤ 94) ∨ 2000 ≤ k
def cK5 (c ca cg cl ce : Nat) : Prop := ck c ∧ ck ca ∧ ck cg ∧ ck cl ∧ ck ce
def dF : Nat → Prop := fun k => 82 ≤ k ∧ k ≤ 89
theorem apart_ft {c ca cg cl ce : Nat} (h : cK5 c ca cg cl ce) : apart 83 84 85 c ca cg cl ce 86 87 := by
  obtain ⟨h1, h2, h3, h4, h5⟩ := h
  unfold ck at h1 h2 h3 h4 h5
  unfold apart dP
  omega
theorem dF_c {c ca cg cl ce : Nat} (h : cK5 c ca cg cl ce) : ¬ dF c ∧ ¬ dF ca ∧ ¬ dF cg ∧ ¬ dF cl ∧ ¬ dF ce := by
  obtain ⟨h1, h2, h3, h4, h5⟩ := h
  unfold ck at h1 h2 h3 h4 h5
  unfold dF
  omega
theorem dT_dF : ∀ k, dT 83 84 85 86 87 k → dF k := by
  intro k h
  unfold dT dP dR at h
  unfold dF
  omega
theorem ftK.z {S T : St} (h : ftK S) {D : Nat → Prop} (e : eqO D S T) (hD : ¬ D 82) (hp : plK T 83 84 85) (hr : rvK T 86 87) : ftK T := ⟨by rw [e.1]; exact h.1, (e.R hD).trans h.2.1, (e.R hD).trans h.2.2.1, (e.R hD).trans h.2.2.2.1, (e.R hD).trans h.2.2.2.2.1, hp, hr⟩
theorem ftK.o {S T : St} (h : ftK S) {D : Nat → Prop} (e : eqO D S T) (hD : ∀ k, D k → ¬ (82 ≤ k ∧ k ≤ 87)) : ftK T := by
  obtain ⟨h0, h1, h2, h3, h4, ⟨p1, p2, p3, p4, p5, p6⟩, ⟨r1, r2, r3⟩⟩ := h
  have d82 : ¬ D 82 := fun q => hD _ q (by omega)
  have d83 : ¬ D 83 := fun q => hD _ q (by omega)
  have d86 : ¬ D 86 := fun q => hD _ q (by omega)
  exact ⟨by rw [e.1]; exact h0, (e.R d82).trans h1, (e.R d82).trans h2, (e.R d82).trans h3, (e.R d82).trans h4, ⟨e.o p1, (e.R d83).trans p2, e.a p3, (e.R d83).trans p4, e.a p5, p6⟩, ⟨e.o r1, (e.R d86).trans r2, e.a r3⟩⟩
theorem amU_grw {P s : Nat} {u : Nat → Int32} (h : amU P u) (hg : grU P u) : amU P (grwF u s P) := by
  intro p hp
  obtain ⟨a, ha, ea⟩ := h p hp
  obtain ⟨⟨g, hg9, eg⟩, -⟩ := hg p hp
  rw [grw_in]
  by_cases e : p < P ∧ s.testBit p = true
  · rw [if_pos e]
    unfold grownF
    by_cases e2 : u (14 + p) ≤ 0
    · rw [if_pos e2]; exact ⟨0, by omega, rfl⟩
    · rw [if_neg e2, ea, eg, nI_add]
      unfold atMostF
      by_cases e3 : nI (a + g) ≤ nI 99
      · rw [if_pos e3]; exact ⟨a + g, (nI_leI (by omega) (by omega)).mp e3, rfl⟩
      · rw [if_neg e3]; exact ⟨99, by omega, rfl⟩
  · rw [if_neg e]; exact ⟨a, ha, ea⟩
theorem amU_ext {P : Nat} {u v : Nat → Int32} (h : amU P u) (e : ∀ p, p < P → v (14 + p) = u (14 + p)) : amU P v := fun p hp => by rw [e p hp]; exact h p hp
theorem sdA.u {P : Nat} {u v : Nat → Int32} (h : sdA P u) (ha : amU P v) (e : ∀ j, j < 10 ∨ 28 ≤ j → v j = u j) : sdA P v := ⟨h.1.u e, ha, by rw [e 2 (by omega)]; exact h.2.2.1, fun p hp => by rw [e (28 + p) (by omega), e (42 + p) (by omega)]; exact h.2.2.2 p hp⟩
theorem sdA_pass {P H : Nat} {u : Nat → Int32} {fr : Option ((Nat → Int64) → Int64)} {dr : Int32} (hP : P ≤ 7) (h : sdA P u) : sdA P (passF fr dr u P H) := by
  refine h.u ?_ (fun j hj => passF_out hP hj)
  unfold passF
  split
  · refine amU_ext (amU_grw (s := setF fr dr u P H) h.2.1 h.2.2.2) (fun p hp => ?_)
    unfold goF goG
    rw [pk_un (by omega)]
    split
    · rw [pk_un (by omega), crsF_lo (by omega) hP]
    · rw [pk_un (by omega)]
  · exact amU_ext h.2.1 (fun p hp => pk_un (by omega))
theorem sdA_pn {P H : Nat} {u : Nat → Int32} {fr : Option ((Nat → Int64) → Int64)} {dr : Int32} (hP : P ≤ 7) (h : sdA P u) : ∀ n, sdA P (pnF fr dr u P H n)
  | 0 => h
  | n + 1 => sdA_pass hP (sdA_pn hP h n)
theorem c_X2_sailOn (w : Wd) (l : Launch) (S : St) (c ca cg cl ce P H n : Nat) (ro : Option Nat) (fr : Option ((Nat → Int64) → Int64)) (u : Nat → Int32) (hf : ftK S) (hc : crS S c ca cg cl ce P u) (hk : cK5 c ca cg cl ce) (h : rvS S 86 87 P u) (ha : sdA P u) (hfr : frC2 S ro fr) (hH : u 10 = nI H) (hn : H + n < 2000) : gx_M w l yX2_sailOn cX2_sailOn 5 none rmX2_sailOn [.ref (ad (w_b w) 82), .ref (ad (w_b w) c), va_rf (ro.map (ad (w_b w))), .int (nI n)] S (fun v S' => v = none ∧ eqO (dT 83 84 85 86 87) S S' ∧ ftK S' ∧ rvS S' 86 87 P (pnF fr (nI 0) u P H n)) := by
  have hP7 := hc.2.2
  have hap := apart_ft hk
  have hdc := dF_c hk
  generalize hpost : (fun (v : Option Value) (S' : St) => v = none ∧ eqO (dT 83 84 85 86 87) S S' ∧ ftK S' ∧ rvS S' 86 87 P (pnF fr (nI 0) u P H n)) = post
  refine gx_start rfl 1 (by cases ro <;> rfl) (Nat.le_of_ble_eq_true (by cases ro <;> rfl)) ?_
  intro X C _ hl
  subst hl
  refine gx_L (L' := [some (.ref (ad (w_b w) 82)), some (.ref (ad (w_b w) c)), some (va_rf (ro.map (ad (w_b w)))), some (.int (nI n)), none]) (by cases ro <;> rfl) ?_
  refine g_iconst (pc := 0) (v := nI 0) C dX2_sailOn_0 (by decide) ?_
  refine g_istore (pc := 1) (L' := [_, _, _, some (.int _), _]) C dX2_sailOn_1 rfl rfl ?_
  have loop : ∀ d i S1, i + d = n → eqO (dT 83 84 85 86 87) S S1 → ftK S1 → rvS S1 86 87 P (pnF fr (nI 0) u P H i) → gx_G w X S1 0 0 3 [some (.ref (ad (w_b w) 82)), some (.ref (ad (w_b w) c)), some (va_rf (ro.map (ad (w_b w)))), some (.int (nI n)), some (.int (nI i))] [] (gx_E w X post) := by
    intro d
    induction d with
    | zero =>
      intro i S1 hi q1 f1 h1
      have hi : i = n := hi
      subst hi
      refine g_iload (pc := 3) C dX2_sailOn_3 rfl ?_
      refine g_iload_n (pc := 5) C dX2_sailOn_5 rfl ?_
      refine g_icmp_ge (pc := 6) C 30 dX2_sailOn_6 rfl (fun c1 => ?_) (fun c1 => ?_)
      · rw [← hpost]
        exact g_return (pc := 30) C ⟨rfl, rfl⟩ dX2_sailOn_30 ⟨rfl, q1, f1, h1⟩
      · exact absurd (nI_le (Nat.le_refl i) (by omega)) c1
    | succ d ih =>
      intro i S1 hi q1 f1 h1
      have of1 : gx_o S1 82 2 := o_st f1.1 rfl rfl
      have op1 : gx_o S1 83 3 := f1.2.2.2.2.2.1.1
      have rp1 := f1.2.1
      have rt1 := f1.2.2.1
      have hc1 : crS S1 c ca cg cl ce P (pnF fr (nI 0) u P H i) := (hc.to (q1.mono dT_dF) hdc).u (fun j hj => pnF_out hP7 hj i)
      refine g_iload (pc := 3) C dX2_sailOn_3 rfl ?_
      refine g_iload_n (pc := 5) C dX2_sailOn_5 rfl ?_
      refine g_icmp_ge (pc := 6) C 30 dX2_sailOn_6 rfl (fun c1 => ?_) (fun c1 => ?_)
      · exact absurd c1 (nI_ge (by omega) (by omega))
      · refine g_aload_n (pc := 9) C dX2_sailOn_9 rfl ?_
        refine fgr_X2_12 (pc := 10) C (by exact of1.1) (zk (by exact of1.2)) (by exact rp1) dX2_sailOn_10 ?_
        refine g_aload_n (pc := 13) C dX2_sailOn_13 rfl ?_
        refine g_aload_n (pc := 14) C dX2_sailOn_14 rfl ?_
        refine fgr_X2_21 (pc := 15) C (by exact of1.1) (zk (by exact of1.2)) (by exact rt1) dX2_sailOn_15 ?_
        refine g_aload_nV (pc := 18) C dX2_sailOn_18 rfl ?_
        refine g_iconst (pc := 19) (v := nI 0) C dX2_sailOn_19 (by decide) ?_
        refine cg_X2_49 (pc := 20) C (by exact op1.1) (zk (by exact op1.2)) (c_X3_sail _ _ S1 83 84 85 c ca cg cl ce 86 87 P (H + i) ro fr False (pnF fr (nI 0) u P H i) f1.2.2.2.2.2.1 hc1 h1 (sdA_pn hP7 ha i) (hfr.to (q1.mono dT_dF) (fun k q => by unfold dF at q; omega)) hap (pnF_hour hP7 hH i) (by omega)) ⟨rfl, rfl⟩ ⟨Nat.zero_le _, Nat.zero_le _⟩ rfl (Nat.le_of_ble_eq_true rfl) dX2_sailOn_20 ?_
        rintro _ S2 ⟨rfl, q2, p2, h2⟩
        refine g_pop (pc := 23) C dX2_sailOn_23 rfl ?_
        refine g_iinc (pc := 24) (L' := [_, _, _, some (.int _), _]) C dX2_sailOn_24 rfl (nI_1 _) rfl ?_
        refine g_goto (pc := 27) C 3 dX2_sailOn_27 rfl ?_
        exact ih (i + 1) S2 (by omega) (q1.trans q2) (f1.z q2 (by unfold dT dP dR; omega) p2 h2.1) h2
  exact loop n 0 S (by omega) eqO.refl hf h
/-- now: a Scene whose Crossing and River say u -/
def nwS (S : St) (c ca cg cl ce P : Nat) (u : Nat → Int32) : Prop := 121 ≤ s_z S ∧ s_R S 800 7 = some c ∧ s_R S 801 7 = some 13 ∧ crS S c ca cg cl ce P u ∧ cK5 c ca cg cl ce ∧ rvS S 13 14 P u
theorem nwS.to {S T : St} {c ca cg cl ce P : Nat} {u : Nat → Int32} {D : Nat → Prop} (h : nwS S c ca cg cl ce P u) (e : eqO D S T) (hD : ∀ k, D k → ¬ (k = 7 ∨ k = 13 ∨ k = 14 ∨ ck k)) : nwS T c ca cg cl ce P u := by
  obtain ⟨h0, h1, h2, h3, h4, h5⟩ := h
  have d7 : ¬ D 7 := fun q => hD _ q (by omega)
  refine ⟨by rw [e.1]; exact h0, (e.R d7).trans h1, (e.R d7).trans h2, h3.to e ?_, h4, h5.to e ⟨fun q => hD _ q (by omega), fun q => hD _ q (by omega)⟩⟩
  obtain ⟨k1, k2, k3, k4, k5⟩ := h4
  exact ⟨fun q => hD _ q (Or.inr (Or.inr (Or.inr k1))), fun q => hD _ q (Or.inr (Or.inr (Or.inr k2))), fun q => hD _ q (Or.inr (Or.inr (Or.inr k3))), fun q => hD _ q (Or.inr (Or.inr (Or.inr k4))), fun q => hD _ q (Or.inr (Or.inr (Or.inr k5)))⟩
theorem dF_now : ∀ k, dF k → ¬ (k = 7 ∨ k = 13 ∨ k = 14 ∨ ck k) := by
  intro k h
  unfold dF at h
  unfold ck
  omega
theorem dR_dF : ∀ k, dR 86 87 k → dF k := by
  intro k h
  unfold dR at h
  unfold dF
  omega
theorem c_X2_after (w : Wd) (l : Launch) (S : St) (c ca cg cl ce P H n : Nat) (ro : Option Nat) (fr : Option ((Nat → Int64) → Int64)) (u : Nat → Int32) (hf : ftK S) (hw : nwS S c ca cg cl ce P u) (ha : sdA P u) (hfr : frC2 S ro fr) (hH : u 10 = nI H) (hn : H + n < 2000) : gx_M w l yX2_after cX2_after 4 (some (.object "AimFerry$River")) rmX2_after [.ref (ad (w_b w) 82), .ref (ad (w_b w) 7), va_rf (ro.map (ad (w_b w))), .int (nI n)] S (fun v S' => v = some (.ref (ad (w_b w) 86)) ∧ eqO dF S S' ∧ ftK S' ∧ rvS S' 86 87 P (pnF fr (nI 0) u P H n)) := by
  obtain ⟨hz, r1, r2, hc, hk, hr⟩ := id hw
  have hP7 := hc.2.2
  have o7 : gx_o S 7 8 := o_st hz rfl rfl
  have of0 : gx_o S 82 2 := o_st hz rfl rfl
  have rt0 := hf.2.2.1
  have ort := hf.2.2.2.2.2.2.1
  refine gx_start rfl 0 (by cases ro <;> rfl) (Nat.le_of_ble_eq_true (by cases ro <;> rfl)) ?_
  intro X C _ hl
  subst hl
  refine gx_L (L' := [some (.ref (ad (w_b w) 82)), some (.ref (ad (w_b w) 7)), some (va_rf (ro.map (ad (w_b w)))), some (.int (nI n))]) (by cases ro <;> rfl) ?_
  refine g_aload_n (pc := 0) C dX2_after_0 rfl ?_
  refine fgr_X2_21 (pc := 1) C (by exact of0.1) (zk (by exact of0.2)) (by exact rt0) dX2_after_1 ?_
  refine g_aload_n (pc := 4) C dX2_after_4 rfl ?_
  refine fgr_X2_32 (pc := 5) C (by exact o7.1) (zk (by exact o7.2)) (by exact r2) dX2_after_5 ?_
  refine cg_X2_37 (pc := 8) C (by exact ort.1) (zk (by exact ort.2)) (c_X6_copyFrom _ _ S 86 87 13 14 P u hP7 hf.2.2.2.2.2.2 hr) ⟨rfl, rfl⟩ ⟨Nat.zero_le _, Nat.zero_le _⟩ rfl (Nat.le_of_ble_eq_true rfl) dX2_after_8 ?_
  rintro _ S1 ⟨rfl, q1, h1⟩
  have f1 : ftK S1 := hf.z q1 (by unfold dR; omega) ⟨q1.o hf.2.2.2.2.2.1.1, (q1.R (by unfold dR; omega)).trans hf.2.2.2.2.2.1.2.1, q1.a hf.2.2.2.2.2.1.2.2.1, (q1.R (by unfold dR; omega)).trans hf.2.2.2.2.2.1.2.2.2.1, q1.a hf.2.2.2.2.2.1.2.2.2.2.1, hf.2.2.2.2.2.1.2.2.2.2.2⟩ h1.1
  have q1F := q1.mono dR_dF
  have w1 := hw.to q1F dF_now
  obtain ⟨hz1, r11, r21, hc1, -, -⟩ := id w1
  have o71 : gx_o S1 7 8 := o_st hz1 rfl rfl
  have of1 : gx_o S1 82 2 := o_st hz1 rfl rfl
  refine g_aload_n (pc := 11) C dX2_after_11 rfl ?_
  refine g_aload_n (pc := 12) C dX2_after_12 rfl ?_
  refine fgr_X2_41 (pc := 13) C (by exact o71.1) (zk (by exact o71.2)) (by exact r11) dX2_after_13 ?_
  refine g_aload_nV (pc := 16) C dX2_after_16 rfl ?_
  refine g_iload_n (pc := 17) C dX2_after_17 rfl ?_
  refine cg_X2_45 (pc := 18) C (by exact of1.1) (zk (by exact of1.2)) (c_X2_sailOn _ _ S1 c ca cg cl ce P H n ro fr u f1 hc1 hk h1 ha (hfr.to q1F (fun k q => by unfold dF at q; omega)) hH hn) ⟨rfl, rfl⟩ ⟨Nat.zero_le _, Nat.zero_le _⟩ rfl (Nat.le_of_ble_eq_true rfl) dX2_after_18 ?_
  rintro _ S2 ⟨rfl, q2, f2, h2⟩
  have of2 : gx_o S2 82 2 := o_st f2.1 rfl rfl
  have rt2 := f2.2.2.1
  refine g_aload_n (pc := 21) C dX2_after_21 rfl ?_
  refine fgr_X2_21 (pc := 22) C (by exact of2.1) (zk (by exact of2.2)) (by exact rt2) dX2_after_22 ?_
  exact g_areturn (pc := 25) C (by first | exact Or.inl ⟨_, rfl⟩ | exact Or.inr ⟨_, rfl⟩) (by first | exact Or.inl rfl | exact Or.inr ⟨_, rfl⟩) ⟨rfl, rfl⟩ dX2_after_25 (⟨rfl, q1F.trans (q2.mono dT_dF), f2, h2⟩)
