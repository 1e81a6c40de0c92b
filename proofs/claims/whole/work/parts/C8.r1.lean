/-! ===== a CROSSING is told: what holds goes on ===== -/
theorem cgv_L_23 {w : Wd} {X : FX} {S : St} {n1 n2 pc : Nat} {L : List (Option Value)} {st : List Value} {Q : State → Prop} {cc : ByteArray} {nL : Nat} {rm : Room} {ret : Option FieldType} {j : SJ} (C : gx_C w X cc nL RL rm ret) (V : gx_V w j (x_s X)) {rm' : Room} {k : Nat} (hk : s_k S k = 10) (hz : ad (w_b w) k < w_b w + s_z S) {post : Option Value → St → Prop} (M : gx_MV w j (x_l X) yX11_ferry cX11_ferry 2 (some .int) rm' (.ref (ad (w_b w) k) :: []) S post) (hR : Nat.ble (rm'.frames + 1) rm.frames = true ∧ Nat.ble (8 + (2 + 11) + rm'.locals) rm.locals = true) (hcs : n1 + rm'.cells ≤ rm.cells ∧ n2 + rm'.slots ≤ rm.slots) (hLn : L.length = nL) (hst : (st.map fun v => v.category).sum ≤ 8) (hd : decode cc pc = .ok (.invokevirtual 23, 3)) (kk : ∀ v S', post v S' → gx_G w X S' (n1 + rm'.cells) (n2 + rm'.slots) (pc + 3) L (v.toList ++ st) Q) : gx_G w X S n1 n2 pc L (.ref (ad (w_b w) k) :: st) Q := gx_callY (n := 0) (rest := st) (As := []) C vc_X11_ferry vi_X11_ferry vl_L_23 vm_X11_ferry vx_X11_X11_ferry (by decide +kernel) rfl (gx_own C (ci := 10) rfl rfl ⟨_, rfl⟩ hk hz) gx_blindV (gx_preV C V) M hR hcs hLn hst hd kk
section
variable {S T : St} {q : K5} {c ca cg cl ce P H m nr j z L : Nat} {u : Nat → Int32} {f x : Int32} {Fs : Nat → (Nat → Int64) → Int64} {W : Nat → Nat → Int32} {Tp : Nat → Int32} {im : Nat → Option IMt}
theorem CI.fq {S1 : St} (h : CI S q c ca cg cl ce P H m nr j z L u f x Fs W Tp im) (hf : feP S q.1 q.2.1 q.2.2.1 q.2.2.2.1 q.2.2.2.2 S1) : CI (s_setI S1 901 1 (nI 0)) q c ca cg cl ce P H m nr j z 0 u f x Fs W Tp im := by
  obtain ⟨h1, h2, h3, h4, h5, h6, h7⟩ := h
  have q5 := h5.1.2.2.1
  have e0 := hf.1
  have e : eqO (fun k => (k = 1 ∨ k = 3) ∨ ¬ ap q k) S (s_setI S1 901 1 (nI 0)) := (e0.mono (fun k g => by
      rcases g with g | g | g | g | g | g
      · exact Or.inl (Or.inr g)
      · exact Or.inr (fun a => a.1 g)
      · exact Or.inr (fun a => a.2.1 g)
      · exact Or.inr (fun a => a.2.2.1 g)
      · exact Or.inr (fun a => a.2.2.2.1 g)
      · exact Or.inr (fun a => a.2.2.2.2 g))).trans (eqO.sI (Or.inl (Or.inl rfl)))
  have qc : ∀ k, ¬ ap q k → ck k := fun k hk => Classical.byContradiction (fun hn => hk ⟨fun g => hn (g ▸ q5.1), fun g => hn (g ▸ q5.2.1), fun g => hn (g ▸ q5.2.2.1), fun g => hn (g ▸ q5.2.2.2.1), fun g => hn (g ▸ q5.2.2.2.2)⟩)
  have st : ∀ k, ¬ (k = 1 ∨ k = 3 ∨ ck k) → ¬ ((k = 1 ∨ k = 3) ∨ ¬ ap q k) := fun k hk g => g.elim (fun g => g.elim (fun g => hk (Or.inl g)) (fun g => hk (Or.inr (Or.inl g)))) (fun g => hk (Or.inr (Or.inr (qc k g))))
  have sk : ∀ k, (k = 0 ∨ k = 2 ∨ (4 ≤ k ∧ k ≤ 7) ∨ (13 ≤ k ∧ k < 90)) → ¬ ((k = 1 ∨ k = 3) ∨ ¬ ap q k) := fun k hk => st k (by unfold ck; omega)
  have ok : ∀ k, ck k → ap q k → ¬ ((k = 1 ∨ k = 3) ∨ ¬ ap q k) := fun k hk ha g => g.elim (fun g => by unfold ck at hk; omega) (fun g => g ha)
  have k5 := (aK.nw h1).2.2.2.2.1
  have a5 := h5.2.1
  have g1 := ck_st q5.1
  have g2 := ck_st q5.2.1
  have g3 := ck_st q5.2.2.1
  have g4 := ck_st q5.2.2.2.1
  have g5 := ck_st q5.2.2.2.2
  refine CI.mk ⟨⟨(aK.af h1).o e (fun k g hk => sk k (by omega) g), ⟨by rw [e.1]; exact (aK.nw h1).1, (e.R (sk _ (by omega))).trans (aK.rc h1), (e.R (sk _ (by omega))).trans (aK.rr h1), (aK.cr h1).to e ⟨ok _ k5.1 a5.1, ok _ k5.2.1 a5.2.1, ok _ k5.2.2.1 a5.2.2.1, ok _ k5.2.2.2.1 a5.2.2.2.1, ok _ k5.2.2.2.2 a5.2.2.2.2⟩, k5, (aK.rv h1).to e ⟨sk _ (by omega), sk _ (by omega)⟩⟩, (aK.sc h1).to e (sk _ (by omega)) (sk _ (by omega)), (aK.ft h1).o e (fun k g hk => sk k (by omega) g), (aK.pz h1).o e ⟨sk _ (by omega), sk _ (by omega)⟩⟩, (aK.no h1).to e (sk _ (by omega)) (sk _ (by omega)), h1.2.2.1, h1.2.2.2.1, h1.2.2.2.2.1, ⟨(aK.rls h1).o h5.2.2 e (sk _ (by omega)) (fun k hk ha => ok k (Or.inr (Or.inr hk)) ha), (e.I (sk _ (by omega))).trans (aK.nrv h1)⟩, ⟨(e.I (sk _ (by omega))).trans (aK.fv h1), aK.fok h1⟩, (e.I (sk _ (by omega))).trans (aK.xv h1), aK.x0 h1⟩ (h2.to e (fun k g hk => sk k (by omega) g)) ⟨⟨⟨by rw [e.1]; exact h3.1.1, (e0.R (by omega)).trans h3.1.2.1, gI_at, by omega⟩, (e.A (sk _ (by omega))).trans h3.2.1, fun i hi => absurd hi (by omega)⟩, ⟨(e.R (sk _ (by omega))).trans h4.1, (e.R (sk _ (by omega))).trans h4.2.1, (hf.2.1 _ (by decide)).trans h4.2.2.1, (e.R (sk _ (by omega))).trans h4.2.2.2.1, (e.R (sk _ (by omega))).trans h4.2.2.2.2⟩, ⟨⟨(e.R (sk _ (by omega))).trans h5.1.1, hf.cr h5.1.2.1, h5.1.2.2⟩, a5, h5.2.2.o (aK.rls h1) e (sk _ (by omega)) (fun k hk ha => ok k (Or.inr (Or.inr hk)) ha)⟩, h6.o e (fun i h1 h2 => sk _ (by omega)), fun k hk => im_to (h7 k hk) e hk (fun i h1 h2 => sk _ (by omega)) (fun c ca cg cl ce hc ha => ⟨ok _ hc.1 ha.1, ok _ hc.2.1 ha.2.1, ok _ hc.2.2.1 ha.2.2.1, ok _ hc.2.2.2.1 ha.2.2.2.1, ok _ hc.2.2.2.2 ha.2.2.2.2⟩)⟩
def q5z (z : Nat) : K5 := (kz z, kz (z + 1), kz (z + 2), kz (z + 3), kz (z + 4))
theorem ap_z {k : Nat} (h : okK S k) : ap (q5z (s_z S)) k := ⟨ok_far h 0, ok_far h 1, ok_far h 2, ok_far h 3, ok_far h 4⟩
theorem ap5_z (h : crK S c ca cg cl ce) : ap5 (q5z (s_z S)) c ca cg cl ce := ⟨ap_z h.1.2, ap_z h.2.2.1.2.2, ap_z h.2.2.2.2.1.2.2, ap_z h.2.2.2.2.2.2.1.2.2, ap_z h.2.2.2.2.2.2.2.2.2.2⟩
theorem gd_u {P' : Nat} {D r : Nat → Int32} (h : gdD P' D) (hP : P' ≤ 7) : sdA P' (begF (nsF D r 190)) ∧ bdU P' (begF (nsF D r 190)) := by
  obtain ⟨⟨h1, h2, h3⟩, h4, h5, h6⟩ := h
  have lo : ∀ t, t < 10 ∨ (28 ≤ t ∧ t < 159) → begF (nsF D r 190) t = D t := fun t ht => by rw [beg_lo (by omega), ns_lo (by omega)]
  have am : ∀ p, p < 7 → begF (nsF D r 190) (14 + p) = D (42 + p) := fun p hp => by rw [beg_aim hp, ns_lo (by omega)]
  refine ⟨⟨fun p hp q hq => ?_, fun p hp => ?_, ?_, fun p hp => ?_⟩, ?_, ?_, fun p hp => ?_, fun p hp q hq => ?_⟩
  · rw [lo _ (by omega), lo _ (by omega)]; exact (h6 p (by omega) q (by omega)).2
  · obtain ⟨a, ha, ea⟩ := (h5 p (by omega)).2.2
    exact ⟨a, by omega, by rw [am p (by omega)]; exact ea⟩
  · rw [lo _ (by omega)]; exact h2
  · rw [lo _ (by omega), lo _ (by omega)]; exact ⟨(h5 p (by omega)).1, (h5 p (by omega)).2.2⟩
  · rw [lo _ (by omega)]; exact h1
  · rw [lo _ (by omega)]; exact h3
  · rw [lo _ (by omega)]; exact (h5 p (by omega)).2.1
  · rw [lo _ (by omega)]; exact (h6 p (by omega) q (by omega)).1
theorem CI.fer {S2 : St} {P' : Nat} {D r : Nat → Int32} (h : CI S q c ca cg cl ce P H m nr j z 0 u f x Fs W Tp im) (hZ : crZ S q.1 q.2.1 q.2.2.1 q.2.2.2.1 q.2.2.2.2 P' D) (hg : gdD P' D) (h0 : D 0 = nI 1) (b : beP S S2 q.1 P' (nsF D r 190)) : CI (feS S2) (q5z (s_z S2)) q.1 q.2.1 q.2.2.1 q.2.2.2.1 q.2.2.2.2 P' 0 0 nr 0 0 0 (begF (nsF D r 190)) f x Fs W Tp im := by
  obtain ⟨b1, b2, b3, b4, b5, b6⟩ := b
  have a := h.1
  have hP : P' ≤ 7 := hZ.2.2.1
  have k5 := h.2.2.2.2.1.1.2.2.1
  have hK := h.2.2.2.2.1.1.2.1
  have hck : ∀ k, ck k → ¬ (k = 7 ∨ k = 13 ∨ k = 14) := fun k hk => by unfold ck at hk; omega
  have hcr : crS S2 q.1 q.2.1 q.2.2.1 q.2.2.2.1 q.2.2.2.2 P' (begF (nsF D r 190)) := (((crS_of hK hZ).co (fun t ht => ns_lo (r := r) ht)).to b1 ⟨hck _ k5.1, hck _ k5.2.1, hck _ k5.2.2.1, hck _ k5.2.2.2.1, hck _ k5.2.2.2.2⟩).u (fun t ht => beg_lo ht)
  have hz2 : 121 ≤ s_z S2 := by rw [b1.1]; exact h.zz
  obtain ⟨gs, gb⟩ := gd_u (r := r) hg hP
  have lo : ∀ t, t < 10 ∨ (28 ≤ t ∧ t < 159) → begF (nsF D r 190) t = D t := fun t ht => by rw [beg_lo (by omega), ns_lo (by omega)]
  have n189 : begF (nsF D r 190) 189 = nI 0 := by
    rw [beg_lo (by omega)]
    unfold nsF
    rw [if_pos (by omega), if_neg (by omega)]
  have a2 : aK S2 q.1 q.2.1 q.2.2.1 q.2.2.2.1 q.2.2.2.2 P' 0 0 nr (begF (nsF D r 190)) f x Fs := ⟨⟨(aK.af a).o b1 (fun k g => by omega), ⟨hz2, b2, b5.2.1, hcr, k5, b6⟩, b5, (aK.ft a).o b1 (fun k g => by omega), (aK.pz a).o b1 ⟨by omega, by omega⟩⟩, ⟨b3, by omega, n189, fun i hi => absurd hi (by omega)⟩, ⟨gs, gb⟩, ⟨beg_10 (by omega), by omega⟩, ⟨Or.inr ((lo 0 (by omega)).trans h0), (lo 4 (by omega)).trans hg.2.1⟩, ⟨(aK.rls a).to b1 (by omega) (fun k g => by omega), (b1.I (by omega)).trans (aK.nrv a)⟩, ⟨(b4 _ (by decide)).trans (aK.fv a), aK.fok a⟩, (b4 _ (by decide)).trans (aK.xv a), aK.x0 a⟩
  obtain ⟨o1, o2, o3, o4, o5⟩ := oth_to h.oth (aK.rls a) b1 (fun k g => by omega) (fun g => b1.R (by omega))
  have en := feU_N (S := S2)
  have hcU := feU_cr hz2
  have h5U := feU_5 hz2
  have R : ∀ g k, k < 95 → s_R (feU S2) g k = s_R S2 g k := fun g k hk => en.R (ok5 hz2 hk)
  have t1 : tpX (feU S2) 0 Tp := ⟨o1.1.nw en, (en.A (ok5 hz2 (by decide))).trans o1.2.1, o1.2.2⟩
  have t2 : rdK (feU S2) := ⟨(R _ _ (by decide)).trans o2.1, (R _ _ (by decide)).trans o2.2.1, (R _ _ (by decide)).trans o2.2.2.1, (R _ _ (by decide)).trans o2.2.2.2.1, (R _ _ (by decide)).trans o2.2.2.2.2⟩
  have t4 : imK (feU S2) := o4.nw en hz2
  have t3 : rlX (feU S2) (q5z (s_z S2)) nr := fun r hr rk hq => by
    rw [en.Q (ok5 hz2 (by decide))] at hq
    have hf := (aK.rls a2).2.2 r hr
    rw [hq] at hf
    obtain ⟨kc', cs, g1, g2, g3, g4⟩ := hf
    refine ⟨ap_z g1.1.2, fun kc hk => ?_⟩
    rw [en.R g1.1.2, g1.2.1] at hk
    cases hk
    exact ap_z g1.2.2.1.2.2
  have t5 : ∀ k, k < 4 → imV (feU S2) (q5z (s_z S2)) nr k (im k) := fun k hk => by
    have h7 := o5 k hk
    have ok0 : okK S2 (17 + 4 * k) := ok5 hz2 (by omega)
    generalize im k = o at h7
    cases o with
    | none => exact (en.I ok0).trans h7
    | some p =>
      obtain ⟨c, ca, cg, cl, ce, P, H, m, h1, h2, h3, h4, h5, h6⟩ := h7
      exact ⟨c, ca, cg, cl, ce, P, H, m, ⟨(en.I ok0).trans h1.1, (en.R ok0).trans h1.2⟩, ⟨h2.1.nw en, h2.2.1, ap5_z h2.1.1⟩, ⟨h3.1.nw en, h3.2.nw en ok0 (ok5 hz2 (by omega))⟩, h4, ⟨(en.I ok0).trans h5.1, h5.2⟩, (en.I ok0).trans h6.1, h6.2⟩
  have aU := aK.nn a2 en
  have ap0 := ap5_z hK
  have ap1 : ap5 (q5z (s_z S2)) q.1 q.2.1 q.2.2.1 q.2.2.2.1 q.2.2.2.2 := ap5_z hcr.1
  unfold feS
  unfold q5z at *
  generalize kz (s_z S2) = k0 at *
  generalize feU S2 = U at *
  obtain ⟨⟨a1, a2, a3, a4, a5⟩, a6, a7, a8, a9, ⟨a10, a11⟩, ⟨a12, a13⟩, a14, a15⟩ := aU
  have r9 : s_R (s_setI (s_setI (s_setR U 1009 0 (some k0)) 1011 0 (nI 0)) 1012 0 (nI 0)) 1009 0 = some k0 := (gR_at : s_R (s_setR U 1009 0 (some k0)) 1009 0 = some k0)
  have i12 : s_I (s_setI (s_setI (s_setR U 1009 0 (some k0)) 1011 0 (nI 0)) 1012 0 (nI 0)) 1012 0 = nI 0 := gI_at
  refine CI.mk ⟨⟨a1, a2, a3, a4, a5⟩, a6, a7, a8, a9, ⟨a10, a11⟩, ⟨a12, a13⟩, a14, a15⟩ ⟨⟨i12, by decide, rfl, by decide⟩, fun i hi => absurd hi (by omega)⟩ ⟨t1, t2, ⟨⟨r9, hcU, h5U⟩, ap1, ?_⟩, t4, fun k hk => ?_⟩
  · intro r hr rk hq
    obtain ⟨x1, x2⟩ := t3 r hr rk hq
    exact ⟨x1, x2⟩
  · have h7 := t5 k hk
    generalize im k = o at h7
    cases o with
    | none => exact h7
    | some p => exact h7
theorem eqM_fe {S1 : St} (h : feP S q.1 q.2.1 q.2.2.1 q.2.2.2.1 q.2.2.2.2 S1) (h5 : cK5 q.1 q.2.1 q.2.2.1 q.2.2.2.1 q.2.2.2.2) : eqM S (s_setI S1 901 1 (nI 0)) := (eqM.of h.1 (fun k g d => by
    rcases g with rfl | rfl | rfl | rfl | rfl | rfl
    · unfold dM at d; omega
    · exact ck_dM h5.1 d
    · exact ck_dM h5.2.1 d
    · exact ck_dM h5.2.2.1 d
    · exact ck_dM h5.2.2.2.1 d
    · exact ck_dM h5.2.2.2.2 d)).trans (eqM_7 (by decide))
theorem eqM_feS (hz : 121 ≤ s_z S) : eqM S (feS S) := (eqM.ofN feU_N hz).trans (eqM.of (D := fun k => k = 0) (eqO.trans (T := s_setR (feU S) 1009 0 (some (kz (s_z S)))) (eqO.sR rfl) (eqO.trans (T := s_setI (s_setR (feU S) 1009 0 (some (kz (s_z S)))) 1011 0 (nI 0)) (eqO.sI rfl) (eqO.sI rfl))) (fun k g d => by unfold dM at d; omega))
theorem fer1 {r : Nat → Int32} {R : Except Nat (Nat × (Nat → Int32))} {v : Option Value} (h : CI S q c ca cg cl ce P H m nr j z L u f x Fs W Tp im) (p : pxFer S q.1 q.2.1 q.2.2.1 q.2.2.2.1 q.2.2.2.2 r R v T) : ∃ a, v = some (.int a) ∧ eqM S T := by
  obtain ⟨S1, hf, p⟩ := p
  have m1 := eqM_fe hf h.2.2.2.2.1.1.2.2.1
  cases R with
  | error f => obtain ⟨rfl, rfl⟩ := p; exact ⟨_, rfl, m1⟩
  | ok pp =>
    obtain ⟨P', D⟩ := pp
    obtain ⟨rfl, hZ, S2, b, rfl⟩ := p
    have hz1 : 121 ≤ s_z (s_setI S1 901 1 (nI 0)) := Nat.le_trans h.zz m1.1
    exact ⟨_, rfl, m1.trans ((eqM.of b.1 (fun k g d => by unfold dM at d; omega)).trans (eqM_feS (by rw [b.1.1]; exact hz1)))⟩
theorem fer2 {S1 : St} {R : Except Nat (Nat × (Nat → Int32))} {D0 : Nat → Int32} {a : Int32} {v : Option Value} (h : CI S q c ca cg cl ce P H m nr j z L u f x Fs W Tp im) (g1 : RI S1 P H nr z L u f x Fs W Tp im) (hD0 : ∀ i, i < 159 → D0 i = nI 0) (hR : rdC Tp L 401 0 0 0 D0 = R) (p1 : pxFer S q.1 q.2.1 q.2.2.1 q.2.2.2.1 q.2.2.2.2 u R (some (.int a)) S1) (p2 : pxFerry S1 R v T) : v = some (.int a) ∧ INV T := by
  obtain ⟨S0, hf, p1⟩ := p1
  obtain ⟨i', a', hx, p2⟩ := p2
  have ht := h.2.2.1
  have c0 := h.fq hf
  obtain ⟨h1, h2, h3, h4, h5, h6, h7⟩ := g1
  have hW : ∀ r, r < nr → ruleW (rdS S1 i' a') r (Fs r) := fun r hr => (h4.2.2 r hr).mv (hx 1002 (by decide) (by decide)) (hx 1004 (by decide) (by decide)) (hx 1005 (by decide) (by decide))
  cases R with
  | error f =>
    obtain ⟨e, rfl⟩ := p1
    obtain ⟨rfl, rfl⟩ := p2
    exact ⟨e.symm, INV.mk (c0.ref (eq_rdS.trans (dm1 ⟨by decide, by decide⟩))) (RI.rer ⟨h1, h2, h3, h4, h5, h6, h7⟩ hW)⟩
  | ok pp =>
    obtain ⟨P', D⟩ := pp
    obtain ⟨e, hZ, S2, b, rfl⟩ := p1
    obtain ⟨rfl, hP7, hD4, rfl⟩ := p2
    obtain ⟨-, hg, hd0⟩ := rdC_gd (T := Tp) 401 0 0 0 D0 (by omega) (by omega) (by omega) (gd_0 hD0) (Or.inl ⟨rfl, hD0 0 (by omega)⟩) hR
    have hZ' : crZ (s_setI S0 901 1 (nI 0)) q.1 q.2.1 q.2.2.1 q.2.2.2.1 q.2.2.2.2 P' D := hZ
    have c1 := c0.fer (r := u) hZ' hg hd0 b
    have lo : ∀ t, t < 10 → begF (nsF D u 190) t = D t := fun t ht => by rw [beg_lo (by omega), ns_lo (by omega)]
    have b10 : begF (nsF D u 190) 10 = nI 0 := beg_10 (by omega)
    generalize feS S2 = U at *
    rw [h2.1]
    generalize begF (nsF D u 190) = u2 at *
    refine ⟨e.symm, INV.mk (c1.ref (eq_rdS.trans ((dm1 ⟨by decide, by decide⟩).trans ((eqO.sA (k := 1010) ⟨by decide, by decide⟩).trans (dm1 ⟨by decide, by decide⟩))))) ?_⟩
    exact ⟨⟨h1.1, h1.2⟩, ⟨rfl, (lo 4 (by omega)).trans hD4, hP7, b10, by omega⟩, h3, ⟨h4.1, h4.2.1, fun r hr => (hW r hr).mv rfl rfl rfl⟩, ⟨gI_at, by omega, fun i hi => absurd hi (by omega), fun i hi => absurd hi (by omega)⟩, ⟨rfl, by omega, h6.2.2⟩, fun k hk => (h7 k hk).mv rfl rfl rfl rfl⟩
theorem zro_0 {r : Nat → Int32} : ∀ i, i < 159 → zroF r 159 i = nI 0 := fun i hi => by unfold zroF; rw [if_pos hi]
end
theorem law_ferry {w : Wd} {X : FX} {j : SJ} {b Ln i n1 n2 : Nat} {xs : Nat → Int32} {Q : State → Prop} {S : St} {q : K5} {c ca cg cl ce P H m nr jj z L : Nat} {u : Nat → Int32} {f x : Int32} {Fs : Nat → (Nat → Int64) → Int64} {W : Nat → Nat → Int32} {Tp : Nat → Int32} {im : Nat → Option IMt} (K : lwK w X j b Ln xs) (hi : i + 6 ≤ Ln) (hn1 : n1 ≤ 10000) (hn2 : n2 ≤ 3000000) (hC : CI S q c ca cg cl ce P H m nr jj z L u f x Fs W Tp im) (hR : RI S P H nr z L u f x Fs W Tp im) (k : lwN w X b i n1 n2 Q) : gx_G w X S n1 n2 266 (lwL w b i) [] Q := by
  obtain ⟨C, V, hX, hb, hn⟩ := K
  refine g_aload_n (pc := 266) C dL_law_266 rfl ?_
  refine cgv_L_23 (pc := 267) C V rfl (zk (ok5 (aK.af hC.1).1 (by decide))) (c_X11_ferry w j _ S L q.1 q.2.1 q.2.2.1 q.2.2.2.1 q.2.2.2.2 (zroF (s_A S 1006) 159) u zro_0 (aK.af hC.1) (aK.sc hC.1) (rd3_of hC) hC.2.2.2.1.1 hC.2.2.2.2.1.1.1 hC.2.2.2.2.1.1.2.1 hC.2.2.2.2.1.1.2.2) ⟨rfl, rfl⟩ ⟨by show n1 + 5 ≤ 600000; omega, by show n2 + 80 ≤ 7302250; omega⟩ rfl (Nat.le_of_ble_eq_true rfl) dL_law_267 ?_
  rintro v1 S1 p1
  rw [hC.2.2.1.2.1] at p1
  obtain ⟨a, rfl, eM⟩ := fer1 hC p1
  have hR1 := hR.to eM
  have e6 : s_A S1 1006 = s_A S 1006 := (eM.2 1006 (by decide) (by decide)).2.2
  refine g_aload_n (pc := 270) C dL_law_270 rfl ?_
  refine cg_L_27 (pc := 271) C rfl (m_z hR1.1 rfl) (c_X12_ferry w _ S1 L ⟨hR1.1, ⟨hR1.2.2.2.2.2.1.1, hR1.2.2.2.2.2.1.2.1⟩, by rw [hR1.2.2.2.2.2.1.2.2]; exact hC.2.2.1.2.2⟩) ⟨rfl, rfl⟩ ⟨by show n1 + 5 + 0 ≤ 600000; omega, by show n2 + 80 + 0 ≤ 7302250; omega⟩ rfl (Nat.le_of_ble_eq_true rfl) dL_law_271 ?_
  rintro v2 S2 p2
  rw [hR1.2.2.2.2.2.1.2.2, e6] at p2
  obtain ⟨rfl, hI⟩ := fer2 hC hR1 zro_0 rfl p1 p2
  refine g_icmp_eq (pc := 274) C 1099 dL_law_274 rfl (fun _ => ?_) (fun cn => absurd rfl cn)
  exact k S2 _ _ (by show n1 + 5 + 0 ≤ n1 + 5; omega) (by show n2 + 80 + 0 ≤ n2 + 600; omega) hI
