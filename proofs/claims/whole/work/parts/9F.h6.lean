/-! ===== THE CLASS: AimFerry: acts ===== -/
def dA : Nat → Prop := fun k => k = 0 ∨ k = 13 ∨ k = 14 ∨ (34 ≤ k ∧ k < 74) ∨ (82 ≤ k ∧ k ≤ 89)
/-- the acts that are kept: the class's row goes round, W is from the oldest on -/
def pastS (S : St) (z j P : Nat) (W : Nat → Nat → Int32) : Prop := (s_I S 1012 0 = nI j ∧ j < 20 ∧ s_I S 1011 0 = nI z ∧ z ≤ 20) ∧ ∀ i, i < z → rvS S (34 + 2 * ((j + 20 - z + i) % 20)) (35 + 2 * ((j + 20 - z + i) % 20)) P (W i)
def keepW (W : Nat → Nat → Int32) (z : Nat) (u : Nat → Int32) : Nat → Nat → Int32 := fun i => if z = 20 then (if i < 19 then W (i + 1) else u) else if i < z then W i else u
def actP (S S' : St) (z j P : Nat) (W : Nat → Nat → Int32) (u u' : Nat → Int32) : Prop := eqO dA S S' ∧ (∀ f, s_R S' f 0 = s_R S f 0) ∧ (∀ f, f ≠ 1011 → f ≠ 1012 → s_I S' f 0 = s_I S f 0) ∧ afK S' ∧ ftK S' ∧ rvS S' 13 14 P u' ∧ pastS S' (min 20 (z + 1)) ((j + 1) % 20) P (keepW W z u)
theorem rem_act {S S1 : St} {z j P : Nat} {W : Nat → Nat → Int32} {u : Nat → Int32} (haf : afK S) (hft : ftK S) (hp : pastS S z j P W) (hr : rvS S 13 14 P u) (q1 : eqO (fun k => k = 0 ∨ k = 34 + 2 * j ∨ k = 35 + 2 * j) S S1) (R1 : ∀ f, s_R S1 f 0 = s_R S f 0) (I1 : ∀ f, f ≠ 1011 → f ≠ 1012 → s_I S1 f 0 = s_I S f 0) (j1 : s_I S1 1012 0 = nI ((j + 1) % 20)) (z1 : s_I S1 1011 0 = nI (min 20 (z + 1))) (r1 : rvS S1 (34 + 2 * j) (35 + 2 * j) P u) : actP S S1 z j P W u u := by
  obtain ⟨⟨hj, hj2, hz, hz2⟩, hW⟩ := hp
  refine ⟨q1.mono (fun k q => by unfold dA; omega), R1, I1, ?_, hft.o q1 (fun k q => by omega), hr.to q1 ⟨by omega, by omega⟩, ⟨j1, Nat.mod_lt _ (by omega), z1, by omega⟩, ?_⟩
  · refine ⟨by rw [q1.1]; exact haf.1, (R1 _).trans haf.2.1, (R1 _).trans haf.2.2.1, (R1 _).trans haf.2.2.2.1, (R1 _).trans haf.2.2.2.2.1, (R1 _).trans haf.2.2.2.2.2.1, (R1 _).trans haf.2.2.2.2.2.2.1, (R1 _).trans haf.2.2.2.2.2.2.2.1, fun k hk => ?_⟩
    obtain ⟨a1, a2⟩ := haf.2.2.2.2.2.2.2.2 k hk
    refine ⟨by rw [q1.Q (by omega)]; exact a1, ?_⟩
    by_cases e : k = j
    · subst e; exact r1.1
    · exact a2.to q1 (by omega)
  · intro i hi
    unfold keepW
    by_cases h20 : z = 20
    · rw [if_pos h20]
      subst h20
      rw [show min 20 (20 + 1) = 20 from rfl] at hi ⊢
      by_cases hi2 : i < 19
      · rw [if_pos hi2]
        have e : ((j + 1) % 20 + 20 - 20 + i) % 20 = (j + 20 - 20 + (i + 1)) % 20 := by omega
        rw [e]
        exact (hW (i + 1) (by omega)).to q1 ⟨by omega, by omega⟩
      · rw [if_neg hi2]
        have e : ((j + 1) % 20 + 20 - 20 + i) % 20 = j := by omega
        rw [e]
        exact r1
    · rw [if_neg h20]
      have hm : min 20 (z + 1) = z + 1 := by omega
      rw [hm] at hi ⊢
      by_cases hi2 : i < z
      · rw [if_pos hi2]
        have e : ((j + 1) % 20 + 20 - (z + 1) + i) % 20 = (j + 20 - z + i) % 20 := by omega
        rw [e]
        exact (hW i hi2).to q1 ⟨by omega, by omega⟩
      · rw [if_neg hi2]
        have e : ((j + 1) % 20 + 20 - (z + 1) + i) % 20 = j := by omega
        rw [e]
        exact r1
theorem pastS.to {S T : St} {z j P : Nat} {W : Nat → Nat → Int32} {D : Nat → Prop} (h : pastS S z j P W) (e : eqO D S T) (hD : ∀ k, D k → ¬ (k = 0 ∨ (34 ≤ k ∧ k < 74))) : pastS T z j P W := by
  have d0 : ¬ D 0 := fun q => hD 0 q (Or.inl rfl)
  refine ⟨⟨(e.I d0).trans h.1.1, h.1.2.1, (e.I d0).trans h.1.2.2.1, h.1.2.2.2⟩, fun i hi => (h.2 i hi).to e ⟨fun q => hD _ q (by omega), fun q => hD _ q (by omega)⟩⟩
theorem actP.thn {S S1 S2 : St} {z j P : Nat} {W : Nat → Nat → Int32} {u u1 u2 : Nat → Int32} {D : Nat → Prop} (h : actP S S1 z j P W u u1) (e : eqO D S1 S2) (hD : ∀ k, D k → k = 13 ∨ k = 14 ∨ (82 ≤ k ∧ k ≤ 89)) (hf : ftK S2) (hr : rvS S2 13 14 P u2) : actP S S2 z j P W u u2 := by
  have d0 : ¬ D 0 := fun q => by have := hD 0 q; omega
  refine ⟨h.1.trans (e.mono (fun k q => by have := hD k q; unfold dA; omega)), fun f => (e.R d0).trans (h.2.1 f), fun f f1 f2 => (e.I d0).trans (h.2.2.1 f f1 f2), h.2.2.2.1.o e (fun k q => by have := hD k q; omega), hf, hr, h.2.2.2.2.2.2.to e (fun k q => by have := hD k q; omega)⟩
theorem noS.u {S : St} {s no P m : Nat} {u v : Nat → Int32} (h : noS S s no P m u) (e : ∀ j, 159 ≤ j → v j = u j) : noS S s no P m v := ⟨h.1, h.2.1, by rw [e _ (by omega)]; exact h.2.2.1, fun q hq => by
  rw [e (159 + 3 * q) (by omega), e (159 + 3 * q + 1) (by omega), e (159 + 3 * q + 2) (by omega)]; exact h.2.2.2 q hq⟩
theorem dA_ck {k : Nat} (q : dA k) : ¬ (k = 7 ∨ k = 15 ∨ k = 6 ∨ ck k ∨ (74 ≤ k ∧ k < 82) ∨ 2000 ≤ k) := by
  unfold dA at q; unfold ck; omega
theorem aK.act {S S' : St} {c ca cg cl ce P H m nr z j : Nat} {u u' : Nat → Int32} {f x : Int32} {Fs : Nat → (Nat → Int64) → Int64} {W : Nat → Nat → Int32} {H' : Nat} (h : aK S c ca cg cl ce P H m nr u f x Fs) (ha : actP S S' z j P W u u') (hu : ∀ k, k < 10 ∨ 28 ≤ k → u' k = u k) (am : amU P u') (hh : u' 10 = nI H') (hh9 : H' ≤ 999) : aK S' c ca cg cl ce P H' m nr u' f x Fs := by
  obtain ⟨e, R, I, af, ft, rv, -⟩ := ha
  have hc : crS S' c ca cg cl ce P u := (aK.cr h).to e ⟨fun q => dA_ck q (Or.inr (Or.inr (Or.inr (Or.inl (aK.nw h).2.2.2.2.1.1)))), fun q => dA_ck q (Or.inr (Or.inr (Or.inr (Or.inl (aK.nw h).2.2.2.2.1.2.1)))), fun q => dA_ck q (Or.inr (Or.inr (Or.inr (Or.inl (aK.nw h).2.2.2.2.1.2.2.1)))), fun q => dA_ck q (Or.inr (Or.inr (Or.inr (Or.inl (aK.nw h).2.2.2.2.1.2.2.2.1)))), fun q => dA_ck q (Or.inr (Or.inr (Or.inr (Or.inl (aK.nw h).2.2.2.2.1.2.2.2.2))))⟩
  have d7 : ¬ dA 7 := fun q => dA_ck q (by omega)
  have hsc : scK S' 7 13 14 15 := ⟨e.o (aK.sc h).1, (e.R d7).trans (aK.sc h).2.1, (e.R d7).trans (aK.sc h).2.2.1, e.a (aK.sc h).2.2.2.1, rv.1⟩
  refine ⟨⟨af, ⟨by rw [e.1]; exact (aK.nw h).1, (e.R d7).trans (aK.rc h), (e.R d7).trans (aK.rr h), hc.u hu, (aK.nw h).2.2.2.2.1, rv⟩, hsc, ft, (aK.pz h).o e ⟨fun q => dA_ck q (by omega), fun q => dA_ck q (by omega)⟩⟩, ((aK.no h).to e d7 (fun q => dA_ck q (by omega))).u (fun k hk => hu k (by omega)), ⟨(aK.sd h).u am hu, (aK.bd h).u hu⟩, ⟨hh, hh9⟩, ⟨by rw [hu 0 (by omega)]; exact h.2.2.2.2.1.1, by rw [hu 4 (by omega)]; exact aK.u4 h⟩, ⟨(aK.rls h).to e (fun q => dA_ck q (by omega)) (fun k q => by unfold dA at q; omega), (I _ (by decide) (by decide)).trans (aK.nrv h)⟩, ⟨(e.I d7).trans (aK.fv h), aK.fok h⟩, (e.I d7).trans (aK.xv h), aK.x0 h⟩
theorem rv_set {S : St} {P j : Nat} {u : Nat → Int32} {v : Int32} (h : rvS S 13 14 P u) (hP : P ≤ 7) (hj : j < 7) : rvS (s_setA S 14 (upd (s_A S 14) j v)) 13 14 P (upd u (14 + j) v) := by
  obtain ⟨hk, ⟨a, b, c, d, e, g⟩, s1, s2⟩ := h
  refine ⟨hk.to (D := fun k => k = 14) (eqO.sA rfl) (by decide), ⟨a.trans (pk_un (by omega)).symm, b.trans (pk_un (by omega)).symm, c.trans (congrArg nI (onN_ext P (fun p hp => (pk_un (by omega)).symm))), d.trans (pk_un (by omega)).symm, e.trans (pk_un (by omega)).symm, fun p hp => ?_⟩, by rw [pk_un (by omega)]; exact s1, fun p hp => by rw [pk_un (by omega)]; exact s2 p hp⟩
  rw [gA_at]
  by_cases q : p = j
  · rw [q, pk_us, pk_us]
  · rw [pk_un q, pk_un (by omega)]; exact g p hp
theorem rv_bot {S : St} {P : Nat} {u : Nat → Int32} {v : Int32} (h : rvS S 13 14 P u) (hP : P ≤ 7) : rvS (s_setI S 504 13 v) 13 14 P (upd u 13 v) := by
  obtain ⟨hk, ⟨a, b, c, d, e, g⟩, s1, s2⟩ := h
  refine ⟨⟨hk.1, hk.2.1, hk.2.2⟩, ⟨(gI_ne (Or.inl (by decide))).trans (a.trans (pk_un (by omega)).symm), (gI_ne (Or.inl (by decide))).trans (b.trans (pk_un (by omega)).symm), (gI_ne (Or.inl (by decide))).trans (c.trans (congrArg nI (onN_ext P (fun p hp => (pk_un (by omega)).symm)))), (gI_ne (Or.inl (by decide))).trans (d.trans (pk_un (by omega)).symm), gI_at.trans pk_us.symm, fun p hp => ?_⟩, by rw [pk_un (by omega)]; exact s1, fun p hp => by rw [pk_un (by omega)]; exact s2 p hp⟩
  rw [pk_un (by omega)]; exact g p hp
theorem here_ok {u : Nat → Int32} {P : Nat} {x : Int32} (hP : P ≤ 7) (fog : Prop) [Decidable fog] : cbP u P fog x ↔ (0 ≤ x ∧ x < nI (2 ^ P)) ∧ canBF u P fog x.toNatClampNeg := by
  have h2P := (p128 hP).2
  have ho : onN u (u 11) P < 128 := onN_128 hP
  constructor
  · rintro ⟨a, b⟩
    obtain ⟨s, hs, rfl, hsub⟩ := (sub_all ho).mp a
    rw [pk_tn (by omega)] at b
    have hsP : s < 2 ^ P := Nat.lt_of_le_of_lt (by have := Nat.left_le_or (n := s) (m := onN u (u 11) P); rw [hsub] at this; exact this) (onN_lt u (u 11) P)
    exact ⟨⟨nI_pos' (by omega), nI_lt hsP (by omega)⟩, by rw [nI_clamp (by omega)]; exact b⟩
  · rintro ⟨a, b⟩
    obtain ⟨s, hs, rfl, es⟩ := setP_of hP a
    rw [es] at b
    exact ⟨(sub_all ho).mpr ⟨s, by omega, rfl, b.1⟩, by rw [pk_tn (by omega)]; exact b⟩
theorem apart_nw {c ca cg cl ce : Nat} (h : cK5 c ca cg cl ce) : apart 83 84 85 c ca cg cl ce 13 14 := by
  obtain ⟨h1, h2, h3, h4, h5⟩ := h
  unfold ck at h1 h2 h3 h4 h5
  unfold apart dP
  omega
section
variable (w : Wd) (l : Launch) (S : St) (c ca cg cl ce P H m nr : Nat) (u : Nat → Int32) (f x : Int32) (Fs : Nat → (Nat → Int64) → Int64)
theorem c_X11_remA (h : aK S c ca cg cl ce P H m nr u f x Fs) (z j : Nat) (W : Nat → Nat → Int32) (hp : pastS S z j P W) : gx_M w l yX11_rememberAct cX11_rememberAct 1 none rmX11_rememberAct [.ref (ad (w_b w) 0)] S (fun v S' => v = none ∧ actP S S' z j P W u u) := gx_Mp (c_X11_rememberAct w l S P j z u (aK.af h) (aK.sc h) (aK.rv h) (aK.P7 h) hp.1.1 hp.1.2.1 hp.1.2.2.1 hp.1.2.2.2) (fun v S' q => ⟨q.1, rem_act (aK.af h) (aK.ft h) hp (aK.rv h) q.2.1 q.2.2.1 q.2.2.2.1 q.2.2.2.2.1 q.2.2.2.2.2.1 q.2.2.2.2.2.2⟩)
theorem c_X11_trip (h : aK S c ca cg cl ce P H m nr u f x Fs) (z j : Nat) (W : Nat → Nat → Int32) (hp : pastS S z j P W) : gx_M w l yX11_trip cX11_trip 1 (some .int) rmX11_trip [.ref (ad (w_b w) 0)] S (fun v S' => if tripOK u then (v = some (.int (nI (setF (frF f Fs) (nI 0) u P H))) ∧ actP S S' z j P W u (passF (frF f Fs) (nI 0) u P H)) else (v = some (.int (-1)) ∧ S' = S)) := by
  have h9 := aK.hr9 h
  generalize hpost : (fun (v : Option Value) (S' : St) => if tripOK u then (v = some (.int (nI (setF (frF f Fs) (nI 0) u P H))) ∧ actP S S' z j P W u (passF (frF f Fs) (nI 0) u P H)) else (v = some (.int (-1)) ∧ S' = S)) = post
  refine gx_start rfl 0 rfl (Nat.le_of_ble_eq_true rfl) ?_
  intro X C _ hl
  subst hl
  refine gx_L (L' := [_]) rfl ?_
  have bad : ¬ tripOK u → gx_G w X S 0 0 29 [some (.ref (ad (w_b w) 0))] [] (gx_E w X post) := by
    intro hb
    refine g_iconst (pc := 29) (v := -1) C dX11_trip_29 (by decide) ?_
    rw [← hpost]
    exact g_ireturn (pc := 30) C ⟨rfl, rfl⟩ dX11_trip_30 (by rw [if_neg hb]; exact ⟨rfl, rfl⟩)
  refine g_aload_n (pc := 0) C dX11_trip_0 rfl ?_
  refine fgr_X11_46 (pc := 1) C (by exact (aK.o0 h).1) (zk (by exact (aK.o0 h).2)) (by exact (aK.rn h)) dX11_trip_1 ?_
  refine fgr_X11_54 (pc := 4) C (by exact (aK.o7 h).1) (zk (by exact (aK.o7 h).2)) (by exact (aK.rc h)) dX11_trip_4 ?_
  refine fg_X11_142 (pc := 7) C (by exact (aK.oc h).1) (zk (by exact (aK.oc h).2)) dX11_trip_7 ?_
  refine gx_ti (y := u 0) (aK.there h) ?_
  refine g_if_eq (pc := 10) C 29 dX11_trip_10 rfl (fun c1 => ?_) (fun c1 => ?_)
  · exact bad (fun q => ok0 c1 q.1)
  · have c1 := ok1 (aK.u0 h) c1
    refine g_aload_n (pc := 13) C dX11_trip_13 rfl ?_
    refine fgr_X11_46 (pc := 14) C (by exact (aK.o0 h).1) (zk (by exact (aK.o0 h).2)) (by exact (aK.rn h)) dX11_trip_14 ?_
    refine fgr_X11_120 (pc := 17) C (by exact (aK.o7 h).1) (zk (by exact (aK.o7 h).2)) (by exact (aK.rr h)) dX11_trip_17 ?_
    refine fg_X11_146 (pc := 20) C (by exact (aK.ov h).1) (zk (by exact (aK.ov h).2)) dX11_trip_20 ?_
    refine gx_ti (y := nI H) ((aK.rv h).2.1.1.trans (aK.hr h)) ?_
    refine g_sipush (pc := 23) (v := nI 999) C dX11_trip_23 (by decide) ?_
    refine g_icmp_lt (pc := 26) C 31 dX11_trip_26 rfl (fun c2 => ?_) (fun c2 => ?_)
    · have c2 := (nI_ltI (by omega) (by omega)).mp c2
      have hok : tripOK u := ⟨c1, fun q => by rw [aK.hr h, nI_eq (by omega) (by omega)] at q; omega⟩
      refine g_aload_n (pc := 31) C dX11_trip_31 rfl ?_
      refine cg_X11_149 (pc := 32) C (by exact (aK.o0 h).1) (zk (by exact (aK.o0 h).2)) (c_X11_remA _ _ S c ca cg cl ce P H m nr u f x Fs h z j W hp) ⟨rfl, rfl⟩ ⟨Nat.zero_le _, Nat.zero_le _⟩ rfl (Nat.le_of_ble_eq_true rfl) dX11_trip_32 ?_
      rintro _ S1 ⟨rfl, a1⟩
      have h1 := aK.act h a1 (fun _ _ => rfl) (aK.sd h).2.1 (aK.hr h) h9
      refine g_aload_n (pc := 35) C dX11_trip_35 rfl ?_
      refine fgr_X11_75 (pc := 36) C (by exact (aK.o0 h1).1) (zk (by exact (aK.o0 h1).2)) (by exact (aK.rf h1)) dX11_trip_36 ?_
      refine fgr_X11_152 (pc := 39) C (by exact (aK.of h1).1) (zk (by exact (aK.of h1).2)) (by exact (aK.rp h1)) dX11_trip_39 ?_
      refine g_aload_n (pc := 42) C dX11_trip_42 rfl ?_
      refine fgr_X11_46 (pc := 43) C (by exact (aK.o0 h1).1) (zk (by exact (aK.o0 h1).2)) (by exact (aK.rn h1)) dX11_trip_43 ?_
      refine fgr_X11_54 (pc := 46) C (by exact (aK.o7 h1).1) (zk (by exact (aK.o7 h1).2)) (by exact (aK.rc h1)) dX11_trip_46 ?_
      refine g_aload_n (pc := 49) C dX11_trip_49 rfl ?_
      refine fgr_X11_46 (pc := 50) C (by exact (aK.o0 h1).1) (zk (by exact (aK.o0 h1).2)) (by exact (aK.rn h1)) dX11_trip_50 ?_
      refine fgr_X11_120 (pc := 53) C (by exact (aK.o7 h1).1) (zk (by exact (aK.o7 h1).2)) (by exact (aK.rr h1)) dX11_trip_53 ?_
      refine g_aload_n (pc := 56) C dX11_trip_56 rfl ?_
      refine cf_X11_156 (pc := 57) C (by exact (aK.o0 h1).1) (zk (by exact (aK.o0 h1).2)) (c_X11_ruleInForce _ _ S1 _ _ _ _ _ _ _ _ _ _ _ _ _ h1) ⟨rfl, rfl⟩ ⟨rfl, rfl⟩ ⟨Nat.zero_le _, Nat.zero_le _⟩ rfl (Nat.le_of_ble_eq_true rfl) dX11_trip_57 ?_
      refine g_iconst (pc := 60) (v := nI 0) C dX11_trip_60 (by decide) ?_
      refine cg_X11_159 (pc := 61) C (by exact (aK.op h1).1) (zk (by exact (aK.op h1).2)) (c_X3_sail _ _ S1 83 84 85 c ca cg cl ce 13 14 P H (rfo S1 f) (frF f Fs) False u (aK.ft h1).2.2.2.2.2.1 (aK.cr h1) (aK.rv h1) (aK.sd h) (aK.rif h1) (apart_nw (aK.nw h).2.2.2.2.1) (aK.hr h) (by omega)) ⟨rfl, rfl⟩ ⟨Nat.zero_le _, Nat.zero_le _⟩ rfl (Nat.le_of_ble_eq_true rfl) dX11_trip_61 ?_
      rintro _ S2 ⟨rfl, q2, p2, r2⟩
      have f2 : ftK S2 := (aK.ft h1).z q2 (by unfold dT dP dR; omega) p2 ((aK.ft h1).2.2.2.2.2.2.to q2 (by unfold dT dP dR; omega))
      rw [← hpost]
      exact g_ireturn (pc := 64) C ⟨rfl, rfl⟩ dX11_trip_64 (by rw [if_pos hok]; exact ⟨rfl, a1.thn q2 (fun k q => by unfold dT dP dR at q; omega) f2 r2⟩)
    · refine bad (fun q => q.2 ?_)
      have : ¬ H < 999 := fun z => c2 (nI_lt z (by omega))
      rw [aK.hr h, show H = 999 by omega]
theorem c_X11_cross (h : aK S c ca cg cl ce P H m nr u f x Fs) (z j : Nat) (W : Nat → Nat → Int32) (hp : pastS S z j P W) (y : Int32) : gx_M w l yX11_cross cX11_cross 3 (some .int) rmX11_cross [.ref (ad (w_b w) 0), .int y] S (fun v S' => if crossOK 0 u P H y then (v = some (.int (bI (goOK 0 u P H y.toNatClampNeg))) ∧ actP S S' z j P W u (goF 0 u P H y.toNatClampNeg)) else (v = some (.int (-1)) ∧ S' = S)) := by
  have h9 := aK.hr9 h
  have hP7 := aK.P7 h
  have hk5 := (aK.nw h).2.2.2.2.1
  generalize hpost : (fun (v : Option Value) (S' : St) => if crossOK 0 u P H y then (v = some (.int (bI (goOK 0 u P H y.toNatClampNeg))) ∧ actP S S' z j P W u (goF 0 u P H y.toNatClampNeg)) else (v = some (.int (-1)) ∧ S' = S)) = post
  refine gx_start rfl 1 rfl (Nat.le_of_ble_eq_true rfl) ?_
  intro X C _ hl
  subst hl
  refine gx_L (L' := [_, _, _]) rfl ?_
  have bad : ¬ crossOK 0 u P H y → gx_G w X S 0 0 59 [some (.ref (ad (w_b w) 0)), some (.int y), some (.int (bI (fogF 0 u H)))] [] (gx_E w X post) := by
    intro hb
    refine g_iconst (pc := 59) (v := -1) C dX11_cross_59 (by decide) ?_
    rw [← hpost]
    exact g_ireturn (pc := 60) C ⟨rfl, rfl⟩ dX11_cross_60 (by rw [if_neg hb]; exact ⟨rfl, rfl⟩)
  refine g_aload_n (pc := 0) C dX11_cross_0 rfl ?_
  refine fgr_X11_46 (pc := 1) C (by exact (aK.o0 h).1) (zk (by exact (aK.o0 h).2)) (by exact (aK.rn h)) dX11_cross_1 ?_
  refine cf_X11_165 (pc := 4) C (by exact (aK.o7 h).1) (zk (by exact (aK.o7 h).2)) (c_X9_isFog _ _ S 7 13 14 15 c ca cg cl ce P H u (aK.sc h) (aK.rc h) (aK.cr h) (aK.rv h) (aK.hr h) (aK.hr2 h)) ⟨rfl, rfl⟩ ⟨rfl, rfl⟩ ⟨Nat.zero_le _, Nat.zero_le _⟩ rfl (Nat.le_of_ble_eq_true rfl) dX11_cross_4 ?_
  refine g_istore_n (pc := 7) (L' := [_, some (.int _), _]) C dX11_cross_7 rfl rfl ?_
  refine g_aload_n (pc := 8) C dX11_cross_8 rfl ?_
  refine fgr_X11_46 (pc := 9) C (by exact (aK.o0 h).1) (zk (by exact (aK.o0 h).2)) (by exact (aK.rn h)) dX11_cross_9 ?_
  refine fgr_X11_54 (pc := 12) C (by exact (aK.o7 h).1) (zk (by exact (aK.o7 h).2)) (by exact (aK.rc h)) dX11_cross_12 ?_
  refine fg_X11_142 (pc := 15) C (by exact (aK.oc h).1) (zk (by exact (aK.oc h).2)) dX11_cross_15 ?_
  refine gx_ti (y := u 0) (aK.there h) ?_
  refine g_if_eq (pc := 18) C 59 dX11_cross_18 rfl (fun c1 => ?_) (fun c1 => ?_)
  · exact bad (fun q => ok0 c1 q.1.1)
  · have c1 := ok1 (aK.u0 h) c1
    refine g_aload_n (pc := 21) C dX11_cross_21 rfl ?_
    refine fgr_X11_46 (pc := 22) C (by exact (aK.o0 h).1) (zk (by exact (aK.o0 h).2)) (by exact (aK.rn h)) dX11_cross_22 ?_
    refine fgr_X11_120 (pc := 25) C (by exact (aK.o7 h).1) (zk (by exact (aK.o7 h).2)) (by exact (aK.rr h)) dX11_cross_25 ?_
    refine fg_X11_146 (pc := 28) C (by exact (aK.ov h).1) (zk (by exact (aK.ov h).2)) dX11_cross_28 ?_
    refine gx_ti (y := nI H) ((aK.rv h).2.1.1.trans (aK.hr h)) ?_
    refine g_sipush (pc := 31) (v := nI 999) C dX11_cross_31 (by decide) ?_
    refine g_icmp_ge (pc := 34) C 59 dX11_cross_34 rfl (fun c2 => ?_) (fun c2 => ?_)
    · refine bad (fun q => q.2.1 ?_)
      have := (nI_leI (by omega) (by omega)).mp c2
      rw [aK.hr h, show H = 999 by omega]
    · have c2 : H < 999 := Nat.lt_of_not_le (fun z => c2 (nI_le z (by omega)))
      refine g_aload_n (pc := 37) C dX11_cross_37 rfl ?_
      refine fgr_X11_46 (pc := 38) C (by exact (aK.o0 h).1) (zk (by exact (aK.o0 h).2)) (by exact (aK.rn h)) dX11_cross_38 ?_
      refine fgr_X11_120 (pc := 41) C (by exact (aK.o7 h).1) (zk (by exact (aK.o7 h).2)) (by exact (aK.rr h)) dX11_cross_41 ?_
      refine g_aload_n (pc := 44) C dX11_cross_44 rfl ?_
      refine fgr_X11_46 (pc := 45) C (by exact (aK.o0 h).1) (zk (by exact (aK.o0 h).2)) (by exact (aK.rn h)) dX11_cross_45 ?_
      refine fgr_X11_54 (pc := 48) C (by exact (aK.o7 h).1) (zk (by exact (aK.o7 h).2)) (by exact (aK.rc h)) dX11_cross_48 ?_
      refine g_iload_n (pc := 51) C dX11_cross_51 rfl ?_
      refine g_iload_n (pc := 52) C dX11_cross_52 rfl ?_
      refine cf_X11_169 (pc := 53) C (by exact (aK.ov h).1) (zk (by exact (aK.ov h).2)) (c_X6_canBoard _ _ S c ca cg cl ce 13 14 P u (aK.cr h) (aK.rv h) (aK.sd h).1 y (fogF 0 u H)) ⟨rfl, rfl⟩ ⟨rfl, rfl⟩ ⟨Nat.zero_le _, Nat.zero_le _⟩ rfl (Nat.le_of_ble_eq_true rfl) dX11_cross_53 ?_
      refine g_if_ne (pc := 56) C 61 dX11_cross_56 rfl (fun c3 => ?_) (fun c3 => ?_)
      · have c3 := (here_ok hP7 _).mp (Decidable.not_not.mp (fun q => c3 (bI_0.mpr q)))
        have hok : crossOK 0 u P H y := ⟨⟨c1, c3.1⟩, fun q => by rw [aK.hr h, nI_eq (by omega) (by omega)] at q; omega, c3.2⟩
        obtain ⟨s, hs, ey0, es⟩ := setP_of hP7 c3.1
        have ey : y = nI y.toNatClampNeg := by rw [es]; exact ey0
        have hsub := c3.2.1
        refine g_aload_n (pc := 61) C dX11_cross_61 rfl ?_
        refine cg_X11_149 (pc := 62) C (by exact (aK.o0 h).1) (zk (by exact (aK.o0 h).2)) (c_X11_remA _ _ S c ca cg cl ce P H m nr u f x Fs h z j W hp) ⟨rfl, rfl⟩ ⟨Nat.zero_le _, Nat.zero_le _⟩ rfl (Nat.le_of_ble_eq_true rfl) dX11_cross_62 ?_
        rintro _ S1 ⟨rfl, a1⟩
        have h1 := aK.act h a1 (fun _ _ => rfl) (aK.sd h).2.1 (aK.hr h) h9
        refine g_aload_n (pc := 65) C dX11_cross_65 rfl ?_
        refine fgr_X11_46 (pc := 66) C (by exact (aK.o0 h1).1) (zk (by exact (aK.o0 h1).2)) (by exact (aK.rn h1)) dX11_cross_66 ?_
        refine fgr_X11_120 (pc := 69) C (by exact (aK.o7 h1).1) (zk (by exact (aK.o7 h1).2)) (by exact (aK.rr h1)) dX11_cross_69 ?_
        refine g_aload_n (pc := 72) C dX11_cross_72 rfl ?_
        refine fgr_X11_46 (pc := 73) C (by exact (aK.o0 h1).1) (zk (by exact (aK.o0 h1).2)) (by exact (aK.rn h1)) dX11_cross_73 ?_
        refine fgr_X11_54 (pc := 76) C (by exact (aK.o7 h1).1) (zk (by exact (aK.o7 h1).2)) (by exact (aK.rc h1)) dX11_cross_76 ?_
        refine g_iload_n (pc := 79) C dX11_cross_79 rfl ?_
        refine gx_ti (y := nI y.toNatClampNeg) ey ?_
        refine g_iload_n (pc := 80) C dX11_cross_80 rfl ?_
        refine cg_X11_173 (pc := 81) C (by exact (aK.ov h1).1) (zk (by exact (aK.ov h1).2)) (c_X6_carry _ _ S1 c ca cg cl ce 13 14 P H u (aK.cr h1) (aK.rv h1) (apart_nw hk5).1 (aK.sd h).2.1 (aK.sd h).1 y.toNatClampNeg hsub 0) ⟨rfl, rfl⟩ ⟨Nat.zero_le _, Nat.zero_le _⟩ rfl (Nat.le_of_ble_eq_true rfl) dX11_cross_81 ?_
        rintro _ S2 ⟨rfl, q2, r2⟩
        have f2 : ftK S2 := (aK.ft h1).o q2 (fun k q => by unfold dR at q; omega)
        have a2 := a1.thn q2 (fun k q => by unfold dR at q; omega) f2 r2
        by_cases hg : goOK 0 u P H y.toNatClampNeg
        · refine g_if_eq (pc := 84) C 91 dX11_cross_84 rfl (fun c4 => ?_) (fun c4 => ?_)
          · exact absurd hg (bI_0.mp c4)
          · refine g_iconst (pc := 87) (v := nI 1) C dX11_cross_87 (by decide) ?_
            refine g_goto (pc := 88) C 92 dX11_cross_88 rfl ?_
            rw [← hpost]
            exact g_ireturn (pc := 92) C ⟨rfl, rfl⟩ dX11_cross_92 (by rw [if_pos hok]; exact ⟨by rw [bI_t hg], a2⟩)
        · refine g_if_eq (pc := 84) C 91 dX11_cross_84 rfl (fun c4 => ?_) (fun c4 => ?_)
          · refine g_iconst (pc := 91) (v := nI 0) C dX11_cross_91 (by decide) ?_
            rw [← hpost]
            exact g_ireturn (pc := 92) C ⟨rfl, rfl⟩ dX11_cross_92 (by rw [if_pos hok]; exact ⟨by rw [bI_f hg], a2⟩)
          · exact absurd (bI_0.mpr hg) c4
      · exact bad (fun q => nn_b c3 (((here_ok hP7 _).mpr ⟨q.1.2, q.2.2⟩)))
end
