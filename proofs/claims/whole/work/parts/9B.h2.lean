/-! ===== THE CLASS: AimFerry: what holds between calls, as far as asks need it ===== -/
def dD : Nat → Prop := fun k => 74 ≤ k ∧ k ≤ 89
def frF (f : Int32) (Fs : Nat → (Nat → Int64) → Int64) : Option ((Nat → Int64) → Int64) := if 0 ≤ f then some (Fs f.toNatClampNeg) else none
def rfo (S : St) (f : Int32) : Option Nat := if 0 ≤ f then s_Q S 6 f.toNatClampNeg else none
def fOK (f : Int32) (nr : Nat) : Prop := f = -1 ∨ ∃ k, k < nr ∧ f = nI k
def aK (S : St) (c ca cg cl ce P H m nr : Nat) (u : Nat → Int32) (f x : Int32) (Fs : Nat → (Nat → Int64) → Int64) : Prop := (afK S ∧ nwS S c ca cg cl ce P u ∧ scK S 7 13 14 15 ∧ ftK S ∧ pzK S) ∧ noS S 7 15 P m u ∧ (sdA P u ∧ bdU P u) ∧ (u 10 = nI H ∧ H ≤ 999) ∧ (((u 0 = nI 0 ∧ P = 0) ∨ u 0 = nI 1) ∧ u 4 = nI P) ∧ (rlS S nr Fs ∧ s_I S 1010 0 = nI nr) ∧ (s_I S 802 7 = f ∧ fOK f nr) ∧ s_I S 803 7 = x ∧ 0 ≤ x
theorem pzK.o {S T : St} {D : Nat → Prop} (h : pzK S) (e : eqO D S T) (hD : ¬ D 74 ∧ ¬ D 77) : pzK T := ⟨by rw [e.1]; exact h.1, (e.R hD.1).trans h.2.1, (e.R hD.1).trans h.2.2.1, (e.R hD.1).trans h.2.2.2.1, (e.R hD.1).trans h.2.2.2.2.1, (e.R hD.1).trans h.2.2.2.2.2.1, (e.R hD.1).trans h.2.2.2.2.2.2.1, h.2.2.2.2.2.2.2.to e hD.2⟩
theorem afK.o {S T : St} {D : Nat → Prop} (h : afK S) (e : eqO D S T) (hD : ∀ k, D k → ¬ (k = 0 ∨ (33 ≤ k ∧ k < 74))) : afK T := by
  have d0 : ¬ D 0 := fun q => hD 0 q (Or.inl rfl)
  refine ⟨by rw [e.1]; exact h.1, (e.R d0).trans h.2.1, (e.R d0).trans h.2.2.1, (e.R d0).trans h.2.2.2.1, (e.R d0).trans h.2.2.2.2.1, (e.R d0).trans h.2.2.2.2.2.1, (e.R d0).trans h.2.2.2.2.2.2.1, (e.R d0).trans h.2.2.2.2.2.2.2.1, fun k hk => ?_⟩
  obtain ⟨q1, q2⟩ := h.2.2.2.2.2.2.2.2 k hk
  exact ⟨by rw [e.Q (fun q => hD 33 q (by omega))]; exact q1, q2.to e (fun q => hD _ q (by omega))⟩
section
variable {S : St} {c ca cg cl ce P H m nr : Nat} {u : Nat → Int32} {f x : Int32} {Fs : Nat → (Nat → Int64) → Int64}
theorem aK.af (h : aK S c ca cg cl ce P H m nr u f x Fs) : afK S := h.1.1
theorem aK.nw (h : aK S c ca cg cl ce P H m nr u f x Fs) : nwS S c ca cg cl ce P u := h.1.2.1
theorem aK.sc (h : aK S c ca cg cl ce P H m nr u f x Fs) : scK S 7 13 14 15 := h.1.2.2.1
theorem aK.ft (h : aK S c ca cg cl ce P H m nr u f x Fs) : ftK S := h.1.2.2.2.1
theorem aK.pz (h : aK S c ca cg cl ce P H m nr u f x Fs) : pzK S := h.1.2.2.2.2
theorem aK.no (h : aK S c ca cg cl ce P H m nr u f x Fs) : noS S 7 15 P m u := h.2.1
theorem aK.sd (h : aK S c ca cg cl ce P H m nr u f x Fs) : sdA P u := h.2.2.1.1
theorem aK.bd (h : aK S c ca cg cl ce P H m nr u f x Fs) : bdU P u := h.2.2.1.2
theorem aK.hr (h : aK S c ca cg cl ce P H m nr u f x Fs) : u 10 = nI H := h.2.2.2.1.1
theorem aK.hr9 (h : aK S c ca cg cl ce P H m nr u f x Fs) : H ≤ 999 := h.2.2.2.1.2
theorem aK.hr2 (h : aK S c ca cg cl ce P H m nr u f x Fs) : H < 2000 := Nat.lt_of_le_of_lt (aK.hr9 h) (by decide)
theorem aK.u0 (h : aK S c ca cg cl ce P H m nr u f x Fs) : u 0 = nI 0 ∨ u 0 = nI 1 := h.2.2.2.2.1.1.imp_left And.left
theorem aK.u0P (h : aK S c ca cg cl ce P H m nr u f x Fs) (hP : 0 < P) : u 0 = nI 1 := h.2.2.2.2.1.1.resolve_left (fun q => by omega)
theorem aK.u4 (h : aK S c ca cg cl ce P H m nr u f x Fs) : u 4 = nI P := h.2.2.2.2.1.2
theorem aK.rls (h : aK S c ca cg cl ce P H m nr u f x Fs) : rlS S nr Fs := h.2.2.2.2.2.1.1
theorem aK.nrv (h : aK S c ca cg cl ce P H m nr u f x Fs) : s_I S 1010 0 = nI nr := h.2.2.2.2.2.1.2
theorem aK.fv (h : aK S c ca cg cl ce P H m nr u f x Fs) : s_I S 802 7 = f := h.2.2.2.2.2.2.1.1
theorem aK.fok (h : aK S c ca cg cl ce P H m nr u f x Fs) : fOK f nr := h.2.2.2.2.2.2.1.2
theorem aK.xv (h : aK S c ca cg cl ce P H m nr u f x Fs) : s_I S 803 7 = x := h.2.2.2.2.2.2.2.1
theorem aK.x0 (h : aK S c ca cg cl ce P H m nr u f x Fs) : 0 ≤ x := h.2.2.2.2.2.2.2.2
theorem aK.cr (h : aK S c ca cg cl ce P H m nr u f x Fs) : crS S c ca cg cl ce P u := (aK.nw h).2.2.2.1
theorem aK.rv (h : aK S c ca cg cl ce P H m nr u f x Fs) : rvS S 13 14 P u := (aK.nw h).2.2.2.2.2
theorem aK.P7 (h : aK S c ca cg cl ce P H m nr u f x Fs) : P ≤ 7 := (aK.cr h).2.2
theorem aK.there (h : aK S c ca cg cl ce P H m nr u f x Fs) : s_I S 0 c = u 0 := (aK.cr h).2.1.1
theorem aK.o0 (h : aK S c ca cg cl ce P H m nr u f x Fs) : gx_o S 0 10 := o_st (aK.af h).1 rfl rfl
theorem aK.rt (h : aK S c ca cg cl ce P H m nr u f x Fs) : s_R S 1000 0 = some 1 := (aK.af h).2.1
theorem aK.ot (h : aK S c ca cg cl ce P H m nr u f x Fs) : gx_o S 1 9 := o_st (aK.af h).1 rfl rfl
theorem aK.ru (h : aK S c ca cg cl ce P H m nr u f x Fs) : s_R S 1003 0 = some 6 := (aK.af h).2.2.1
theorem aK.au (h : aK S c ca cg cl ce P H m nr u f x Fs) : gx_a S 6 17 6 := a_st (aK.af h).1 rfl rfl rfl
theorem aK.rn (h : aK S c ca cg cl ce P H m nr u f x Fs) : s_R S 1004 0 = some 7 := (aK.af h).2.2.2.1
theorem aK.o7 (h : aK S c ca cg cl ce P H m nr u f x Fs) : gx_o S 7 8 := o_st (aK.af h).1 rfl rfl
theorem aK.rc (h : aK S c ca cg cl ce P H m nr u f x Fs) : s_R S 800 7 = some c := (aK.nw h).2.1
theorem aK.oc (h : aK S c ca cg cl ce P H m nr u f x Fs) : gx_o S c 0 := (aK.cr h).1.1
theorem aK.rr (h : aK S c ca cg cl ce P H m nr u f x Fs) : s_R S 801 7 = some 13 := (aK.nw h).2.2.1
theorem aK.ov (h : aK S c ca cg cl ce P H m nr u f x Fs) : gx_o S 13 5 := o_st (aK.af h).1 rfl rfl
theorem aK.ra (h : aK S c ca cg cl ce P H m nr u f x Fs) : s_R S 505 13 = some 14 := (aK.rv h).1.2.1
theorem aK.aa (h : aK S c ca cg cl ce P H m nr u f x Fs) : gx_a S 14 13 7 := a_st (aK.af h).1 rfl rfl rfl
theorem aK.rg (h : aK S c ca cg cl ce P H m nr u f x Fs) : s_R S 7 c = some cg := (aK.cr h).1.2.2.2.1
theorem aK.ag (h : aK S c ca cg cl ce P H m nr u f x Fs) : gx_a S cg 13 7 := (aK.cr h).1.2.2.2.2.1
theorem aK.rl (h : aK S c ca cg cl ce P H m nr u f x Fs) : s_R S 8 c = some cl := (aK.cr h).1.2.2.2.2.2.1
theorem aK.al (h : aK S c ca cg cl ce P H m nr u f x Fs) : gx_a S cl 13 7 := (aK.cr h).1.2.2.2.2.2.2.1
theorem aK.rz (h : aK S c ca cg cl ce P H m nr u f x Fs) : s_R S 1007 0 = some 74 := (aK.af h).2.2.2.2.2.2.1
theorem aK.oz (h : aK S c ca cg cl ce P H m nr u f x Fs) : gx_o S 74 4 := o_st (aK.af h).1 rfl rfl
theorem aK.rw (h : aK S c ca cg cl ce P H m nr u f x Fs) : s_R S 400 74 = some 75 := (aK.pz h).2.1
theorem aK.aw (h : aK S c ca cg cl ce P H m nr u f x Fs) : gx_a S 75 13 7 := a_st (aK.af h).1 rfl rfl rfl
theorem aK.rf (h : aK S c ca cg cl ce P H m nr u f x Fs) : s_R S 1008 0 = some 82 := (aK.af h).2.2.2.2.2.2.2.1
theorem aK.of (h : aK S c ca cg cl ce P H m nr u f x Fs) : gx_o S 82 2 := o_st (aK.af h).1 rfl rfl
theorem aK.rp (h : aK S c ca cg cl ce P H m nr u f x Fs) : s_R S 200 82 = some 83 := (aK.ft h).2.1
theorem aK.op (h : aK S c ca cg cl ce P H m nr u f x Fs) : gx_o S 83 3 := o_st (aK.af h).1 rfl rfl
theorem aK.to (h : aK S c ca cg cl ce P H m nr u f x Fs) {T : St} (e : eqO dD S T) (hf : ftK T) (hz : pzK T) : aK T c ca cg cl ce P H m nr u f x Fs := by
  have d : ∀ k, k < 74 → ¬ dD k := fun k hk q => by unfold dD at q; omega
  refine ⟨⟨(aK.af h).o e (fun k q => by unfold dD at q; omega), (aK.nw h).to e (fun k q => by unfold dD at q; unfold ck; omega), (aK.sc h).to e (d _ (by omega)) (d _ (by omega)), hf, hz⟩, (aK.no h).to e (d _ (by omega)) (d _ (by omega)), h.2.2.1, h.2.2.2.1, h.2.2.2.2.1, ⟨(aK.rls h).to e (d _ (by omega)) (fun k q => by unfold dD at q; omega), (e.I (d _ (by omega))).trans (aK.nrv h)⟩, ⟨(e.I (d _ (by omega))).trans (aK.fv h), aK.fok h⟩, (e.I (d _ (by omega))).trans (aK.xv h), aK.x0 h⟩
theorem aK.rif (h : aK S c ca cg cl ce P H m nr u f x Fs) : frC2 S (rfo S f) (frF f Fs) := by
  unfold rfo frF
  rcases aK.fok h with rfl | ⟨k, hk, rfl⟩
  · rw [if_neg (by decide), if_neg (by decide)]; rfl
  · have hn : nr ≤ 6 := (aK.rls h).2.1
    have h0 : (0 : Int32) ≤ nI k := nI_pos' (by omega)
    rw [if_pos h0, if_pos h0, nI_clamp (by omega)]
    exact (aK.rls h).2.2 k hk
end
/-- an ask: its answer; nothing changed but the two that look ahead -/
def aP (S : St) (a : Int32) : Option Value → St → Prop := fun v S' => v = some (.int a) ∧ eqO dD S S' ∧ ftK S' ∧ pzK S'
theorem vrf_c (o : Option Nat) : va_rf o = .null ∨ ∃ a, va_rf o = .ref a := by
  cases o with
  | none => exact Or.inl rfl
  | some a => exact Or.inr ⟨a, rfl⟩
theorem nn_b {p : Prop} [Decidable p] (c : ¬ ¬ bI p = 0) (h : p) : False := c (fun z => bI_0.mp z h)
theorem n0 {x : Int32} (h : ¬ x = 0) : ¬ x = nI 0 := h
theorem p0 {x : Int32} (h : ¬ ¬ x = 0) : x = nI 0 := Decidable.not_not.mp h
theorem nI_m1 {n : Nat} (h : n < 2000) : ¬ nI n = -1 := fun q => absurd (q ▸ nI_pos' (n := n) (by omega)) (by decide)
theorem ok1 {x : Int32} (h : x = nI 0 ∨ x = nI 1) (h0 : ¬ x = 0) : x = nI 1 := h.resolve_left h0
theorem ok0 {x : Int32} (h0 : x = 0) : ¬ x = nI 1 := by rw [h0]; decide
section
variable (w : Wd) (l : Launch) (S : St) (c ca cg cl ce P H m nr : Nat) (u : Nat → Int32) (f x : Int32) (Fs : Nat → (Nat → Int64) → Int64)
theorem c_X11_ruleInForce (h : aK S c ca cg cl ce P H m nr u f x Fs) : gx_M w l yX11_ruleInForce cX11_ruleInForce 1 (some (.object "AimFerry$Rule")) rmX11_ruleInForce [.ref (ad (w_b w) 0)] S (pA (va_rf ((rfo S f).map (ad (w_b w)))) S) := by
  refine gx_start rfl 0 rfl (Nat.le_of_ble_eq_true rfl) ?_
  intro X C _ hl
  subst hl
  refine gx_L (L' := [_]) rfl ?_
  refine g_aload_n (pc := 0) C dX11_ruleInForce_0 rfl ?_
  refine fgr_X11_46 (pc := 1) C (by exact (aK.o0 h).1) (zk (by exact (aK.o0 h).2)) (by exact (aK.rn h)) dX11_ruleInForce_1 ?_
  refine fg_X11_113 (pc := 4) C (by exact (aK.o7 h).1) (zk (by exact (aK.o7 h).2)) dX11_ruleInForce_4 ?_
  refine gx_ti (y := f) (aK.fv h) ?_
  refine g_iconst (pc := 7) (v := nI 0) C dX11_ruleInForce_7 (by decide) ?_
  refine g_iconst (pc := 8) (v := nI 5) C dX11_ruleInForce_8 (by decide) ?_
  refine cf_X11_194 (pc := 9) C (c_X11_within _ _ S f (nI 0) (nI 5)) ⟨rfl, rfl⟩ ⟨rfl, rfl⟩ ⟨Nat.zero_le _, Nat.zero_le _⟩ rfl (Nat.le_of_ble_eq_true rfl) dX11_ruleInForce_9 ?_
  have hn : nr ≤ 6 := (aK.rls h).2.1
  rcases aK.fok h with rfl | ⟨k, hk, rfl⟩
  · refine g_if_eq (pc := 12) C 30 dX11_ruleInForce_12 rfl (fun c1 => ?_) (fun c1 => ?_)
    · refine g_null (pc := 30) C dX11_ruleInForce_30 ?_
      exact g_areturn (pc := 31) C (Or.inl ⟨_, rfl⟩) (Or.inl rfl) ⟨rfl, rfl⟩ dX11_ruleInForce_31 ⟨by unfold rfo; rw [if_neg (by decide)]; rfl, rfl⟩
    · exact absurd (bI_0.mpr (by decide)) c1
  · have h0 : (0 : Int32) ≤ nI k := nI_pos' (by omega)
    refine g_if_eq (pc := 12) C 30 dX11_ruleInForce_12 rfl (fun c1 => ?_) (fun c1 => ?_)
    · exact absurd (⟨h0, nI_le (by omega) (by omega)⟩ : nI 0 ≤ nI k ∧ nI k ≤ nI 5) (bI_0.mp c1)
    · refine g_aload_n (pc := 15) C dX11_ruleInForce_15 rfl ?_
      refine fgr_X11_34 (pc := 16) C (by exact (aK.o0 h).1) (zk (by exact (aK.o0 h).2)) (by exact (aK.ru h)) dX11_ruleInForce_16 ?_
      refine g_aload_n (pc := 19) C dX11_ruleInForce_19 rfl ?_
      refine fgr_X11_46 (pc := 20) C (by exact (aK.o0 h).1) (zk (by exact (aK.o0 h).2)) (by exact (aK.rn h)) dX11_ruleInForce_20 ?_
      refine fg_X11_113 (pc := 23) C (by exact (aK.o7 h).1) (zk (by exact (aK.o7 h).2)) dX11_ruleInForce_23 ?_
      refine gx_ti (y := nI k) (aK.fv h) ?_
      refine g_aald17 (pc := 26) (n := 6) C (by exact (aK.au h).1) (by exact (aK.au h).2.1) (zk (by exact (aK.au h).2.2)) rfl rfl (by omega) dX11_ruleInForce_26 ?_
      refine g_goto (pc := 27) C 31 dX11_ruleInForce_27 rfl ?_
      exact g_areturn (pc := 31) C (Or.inl ⟨_, rfl⟩) (vrf_c _) ⟨rfl, rfl⟩ dX11_ruleInForce_31 ⟨by unfold rfo; rw [if_pos h0, nI_clamp (by omega)], rfl⟩
theorem c_X11_over (h : aK S c ca cg cl ce P H m nr u f x Fs) : gx_M w l yX11_over cX11_over 1 (some .int) rmX11_over [.ref (ad (w_b w) 0)] S (aP S (if u 0 = nI 1 then overF (frF f Fs) (nI 0) u P H 100 0 else -1)) := by
  refine gx_start rfl 0 rfl (Nat.le_of_ble_eq_true rfl) ?_
  intro X C _ hl
  subst hl
  refine gx_L (L' := [_]) rfl ?_
  refine g_aload_n (pc := 0) C dX11_over_0 rfl ?_
  refine fgr_X11_46 (pc := 1) C (by exact (aK.o0 h).1) (zk (by exact (aK.o0 h).2)) (by exact (aK.rn h)) dX11_over_1 ?_
  refine fgr_X11_54 (pc := 4) C (by exact (aK.o7 h).1) (zk (by exact (aK.o7 h).2)) (by exact (aK.rc h)) dX11_over_4 ?_
  refine fg_X11_142 (pc := 7) C (by exact (aK.oc h).1) (zk (by exact (aK.oc h).2)) dX11_over_7 ?_
  refine gx_ti (y := u 0) (aK.there h) ?_
  refine g_if_eq (pc := 10) C 31 dX11_over_10 rfl (fun c1 => ?_) (fun c1 => ?_)
  · refine g_iconst (pc := 31) (v := -1) C dX11_over_31 (by decide) ?_
    exact g_ireturn (pc := 32) C ⟨rfl, rfl⟩ dX11_over_32 ⟨by rw [if_neg (ok0 c1)], eqO.refl, aK.ft h, aK.pz h⟩
  · have c1 := ok1 (aK.u0 h) c1
    refine g_aload_n (pc := 13) C dX11_over_13 rfl ?_
    refine fgr_X11_75 (pc := 14) C (by exact (aK.o0 h).1) (zk (by exact (aK.o0 h).2)) (by exact (aK.rf h)) dX11_over_14 ?_
    refine g_aload_n (pc := 17) C dX11_over_17 rfl ?_
    refine fgr_X11_46 (pc := 18) C (by exact (aK.o0 h).1) (zk (by exact (aK.o0 h).2)) (by exact (aK.rn h)) dX11_over_18 ?_
    refine g_aload_n (pc := 21) C dX11_over_21 rfl ?_
    refine cf_X11_156 (pc := 22) C (by exact (aK.o0 h).1) (zk (by exact (aK.o0 h).2)) (c_X11_ruleInForce _ _ S _ _ _ _ _ _ _ _ _ _ _ _ _ h) ⟨rfl, rfl⟩ ⟨rfl, rfl⟩ ⟨Nat.zero_le _, Nat.zero_le _⟩ rfl (Nat.le_of_ble_eq_true rfl) dX11_over_22 ?_
    refine cg_X11_205 (pc := 25) C (by exact (aK.of h).1) (zk (by exact (aK.of h).2)) (c_X2_hourAllOver _ _ S c ca cg cl ce P H (rfo S f) (frF f Fs) u (aK.ft h) (aK.nw h) (aK.sd h) (aK.rif h) (aK.hr h) (aK.hr9 h)) ⟨rfl, rfl⟩ ⟨Nat.zero_le _, Nat.zero_le _⟩ rfl (Nat.le_of_ble_eq_true rfl) dX11_over_25 ?_
    rintro _ S1 ⟨rfl, q1, f1⟩
    refine g_goto (pc := 28) C 32 dX11_over_28 rfl ?_
    exact g_ireturn (pc := 32) C ⟨rfl, rfl⟩ dX11_over_32 ⟨by rw [if_pos c1], q1.mono (fun k q => by unfold dF at q; unfold dD; omega), f1, (aK.pz h).o q1 (by unfold dF; omega)⟩
theorem c_X11_waits (h : aK S c ca cg cl ce P H m nr u f x Fs) (p : Int32) : gx_M w l yX11_waits cX11_waits 2 (some .int) rmX11_waits [.ref (ad (w_b w) 0), .int p] S (aP S (if 0 ≤ p ∧ p < nI P then waitsF (frF f Fs) (nI 0) u P H p.toNatClampNeg 100 0 else -1)) := by
  refine gx_start rfl 0 rfl (Nat.le_of_ble_eq_true rfl) ?_
  intro X C _ hl
  subst hl
  refine gx_L (L' := [_, _]) rfl ?_
  refine g_aload_n (pc := 0) C dX11_waits_0 rfl ?_
  refine fgr_X11_46 (pc := 1) C (by exact (aK.o0 h).1) (zk (by exact (aK.o0 h).2)) (by exact (aK.rn h)) dX11_waits_1 ?_
  refine fgr_X11_54 (pc := 4) C (by exact (aK.o7 h).1) (zk (by exact (aK.o7 h).2)) (by exact (aK.rc h)) dX11_waits_4 ?_
  refine g_iload_n (pc := 7) C dX11_waits_7 rfl ?_
  refine cf_X11_116 (pc := 8) C (by exact (aK.oc h).1) (zk (by exact (aK.oc h).2)) (c_X0_has _ _ S c ca cg cl ce P u (aK.cr h) p) ⟨rfl, rfl⟩ ⟨rfl, rfl⟩ ⟨Nat.zero_le _, Nat.zero_le _⟩ rfl (Nat.le_of_ble_eq_true rfl) dX11_waits_8 ?_
  refine g_if_eq (pc := 11) C 33 dX11_waits_11 rfl (fun c1 => ?_) (fun c1 => ?_)
  · refine g_iconst (pc := 33) (v := -1) C dX11_waits_33 (by decide) ?_
    exact g_ireturn (pc := 34) C ⟨rfl, rfl⟩ dX11_waits_34 ⟨by rw [if_neg (bI_0.mp c1)], eqO.refl, aK.ft h, aK.pz h⟩
  · have hp := Decidable.not_not.mp (fun q => c1 (bI_0.mpr q))
    obtain ⟨j, hj, rfl, ec⟩ := person_of (aK.P7 h) hp
    refine g_aload_n (pc := 14) C dX11_waits_14 rfl ?_
    refine fgr_X11_75 (pc := 15) C (by exact (aK.o0 h).1) (zk (by exact (aK.o0 h).2)) (by exact (aK.rf h)) dX11_waits_15 ?_
    refine g_aload_n (pc := 18) C dX11_waits_18 rfl ?_
    refine fgr_X11_46 (pc := 19) C (by exact (aK.o0 h).1) (zk (by exact (aK.o0 h).2)) (by exact (aK.rn h)) dX11_waits_19 ?_
    refine g_aload_n (pc := 22) C dX11_waits_22 rfl ?_
    refine cf_X11_156 (pc := 23) C (by exact (aK.o0 h).1) (zk (by exact (aK.o0 h).2)) (c_X11_ruleInForce _ _ S _ _ _ _ _ _ _ _ _ _ _ _ _ h) ⟨rfl, rfl⟩ ⟨rfl, rfl⟩ ⟨Nat.zero_le _, Nat.zero_le _⟩ rfl (Nat.le_of_ble_eq_true rfl) dX11_waits_23 ?_
    refine g_iload_n (pc := 26) C dX11_waits_26 rfl ?_
    refine cg_X11_269 (pc := 27) C (by exact (aK.of h).1) (zk (by exact (aK.of h).2)) (c_X2_hourAboard _ _ S c ca cg cl ce P H j (rfo S f) (frF f Fs) u (aK.ft h) (aK.nw h) (aK.sd h) (aK.rif h) (aK.hr h) (aK.hr9 h) hj) ⟨rfl, rfl⟩ ⟨Nat.zero_le _, Nat.zero_le _⟩ rfl (Nat.le_of_ble_eq_true rfl) dX11_waits_27 ?_
    rintro _ S1 ⟨rfl, q1, f1⟩
    refine g_goto (pc := 30) C 34 dX11_waits_30 rfl ?_
    exact g_ireturn (pc := 34) C ⟨rfl, rfl⟩ dX11_waits_34 ⟨by rw [if_pos hp, ec], q1.mono (fun k q => by unfold dF at q; unfold dD; omega), f1, (aK.pz h).o q1 (by unfold dF; omega)⟩
theorem c_X11_soothe (h : aK S c ca cg cl ce P H m nr u f x Fs) (n what : Int32) : gx_M w l yX11_soothe cX11_soothe 3 (some .int) rmX11_soothe [.ref (ad (w_b w) 0), .int n, .int what] S (aP S (if sooOK u n what then (if what = nI 0 then oI (sooA (frF f Fs) (nI 0) u P H n.toNatClampNeg).1 else nI (sooA (frF f Fs) (nI 0) u P H n.toNatClampNeg).2) else -2)) := by
  refine gx_start rfl 0 rfl (Nat.le_of_ble_eq_true rfl) ?_
  intro X C _ hl
  subst hl
  refine gx_L (L' := [_, _, _]) rfl ?_
  have bad : ¬ sooOK u n what → gx_G w X S 0 0 32 [some (.ref (ad (w_b w) 0)), some (.int n), some (.int what)] [] (gx_E w X (aP S (if sooOK u n what then (if what = nI 0 then oI (sooA (frF f Fs) (nI 0) u P H n.toNatClampNeg).1 else nI (sooA (frF f Fs) (nI 0) u P H n.toNatClampNeg).2) else -2))) := by
    intro hb
    refine g_bipush (pc := 32) (v := -2) C dX11_soothe_32 (by decide) ?_
    exact g_ireturn (pc := 34) C ⟨rfl, rfl⟩ dX11_soothe_34 ⟨by rw [if_neg hb], eqO.refl, aK.ft h, aK.pz h⟩
  refine g_aload_n (pc := 0) C dX11_soothe_0 rfl ?_
  refine fgr_X11_46 (pc := 1) C (by exact (aK.o0 h).1) (zk (by exact (aK.o0 h).2)) (by exact (aK.rn h)) dX11_soothe_1 ?_
  refine fgr_X11_54 (pc := 4) C (by exact (aK.o7 h).1) (zk (by exact (aK.o7 h).2)) (by exact (aK.rc h)) dX11_soothe_4 ?_
  refine fg_X11_142 (pc := 7) C (by exact (aK.oc h).1) (zk (by exact (aK.oc h).2)) dX11_soothe_7 ?_
  refine gx_ti (y := u 0) (aK.there h) ?_
  refine g_if_eq (pc := 10) C 32 dX11_soothe_10 rfl (fun c1 => ?_) (fun c1 => ?_)
  · exact bad (fun q => ok0 c1 q.1)
  · have c1 := ok1 (aK.u0 h) c1
    refine g_iload_n (pc := 13) C dX11_soothe_13 rfl ?_
    refine g_iconst (pc := 14) (v := nI 1) C dX11_soothe_14 (by decide) ?_
    refine g_bipush (pc := 15) (v := nI 30) C dX11_soothe_15 (by decide) ?_
    refine cf_X11_194 (pc := 17) C (c_X11_within _ _ S n (nI 1) (nI 30)) ⟨rfl, rfl⟩ ⟨rfl, rfl⟩ ⟨Nat.zero_le _, Nat.zero_le _⟩ rfl (Nat.le_of_ble_eq_true rfl) dX11_soothe_17 ?_
    refine g_if_eq (pc := 20) C 32 dX11_soothe_20 rfl (fun c2 => ?_) (fun c2 => ?_)
    · exact bad (fun q => bI_0.mp c2 q.2.1)
    · have c2 := Decidable.not_not.mp (fun q => c2 (bI_0.mpr q))
      refine g_iload_n (pc := 23) C dX11_soothe_23 rfl ?_
      refine g_iconst (pc := 24) (v := nI 0) C dX11_soothe_24 (by decide) ?_
      refine g_iconst (pc := 25) (v := nI 1) C dX11_soothe_25 (by decide) ?_
      refine cf_X11_194 (pc := 26) C (c_X11_within _ _ S what (nI 0) (nI 1)) ⟨rfl, rfl⟩ ⟨rfl, rfl⟩ ⟨Nat.zero_le _, Nat.zero_le _⟩ rfl (Nat.le_of_ble_eq_true rfl) dX11_soothe_26 ?_
      refine g_if_ne (pc := 29) C 35 dX11_soothe_29 rfl (fun c3 => ?_) (fun c3 => ?_)
      · have c3 := Decidable.not_not.mp (fun q => c3 (bI_0.mpr q))
        obtain ⟨k, hk, rfl⟩ := nat_of (by omega) ⟨Int32.le_trans (by decide) c2.1, c2.2⟩
        have ec : (nI k).toNatClampNeg = k := nI_clamp (by omega)
        refine g_aload_n (pc := 35) C dX11_soothe_35 rfl ?_
        refine fgr_X11_75 (pc := 36) C (by exact (aK.o0 h).1) (zk (by exact (aK.o0 h).2)) (by exact (aK.rf h)) dX11_soothe_36 ?_
        refine g_aload_n (pc := 39) C dX11_soothe_39 rfl ?_
        refine fgr_X11_46 (pc := 40) C (by exact (aK.o0 h).1) (zk (by exact (aK.o0 h).2)) (by exact (aK.rn h)) dX11_soothe_40 ?_
        refine g_aload_n (pc := 43) C dX11_soothe_43 rfl ?_
        refine cf_X11_156 (pc := 44) C (by exact (aK.o0 h).1) (zk (by exact (aK.o0 h).2)) (c_X11_ruleInForce _ _ S _ _ _ _ _ _ _ _ _ _ _ _ _ h) ⟨rfl, rfl⟩ ⟨rfl, rfl⟩ ⟨Nat.zero_le _, Nat.zero_le _⟩ rfl (Nat.le_of_ble_eq_true rfl) dX11_soothe_44 ?_
        refine g_iload_n (pc := 47) C dX11_soothe_47 rfl ?_
        refine cg_X11_273 (pc := 48) C (by exact (aK.of h).1) (zk (by exact (aK.of h).2)) (c_X2_findSoothed _ _ S c ca cg cl ce P H k (rfo S f) (frF f Fs) u (aK.ft h) (aK.nw h) (aK.sd h) (aK.rif h) (aK.hr h) (Nat.lt_of_le_of_lt (Nat.add_le_add (aK.hr9 h) hk) (by decide))) ⟨rfl, rfl⟩ ⟨Nat.zero_le _, Nat.zero_le _⟩ rfl (Nat.le_of_ble_eq_true rfl) dX11_soothe_48 ?_
        rintro _ S1 ⟨rfl, q1, f1, e1, e2⟩
        have hD := q1.mono (E := dD) (fun k q => by unfold dF at q; unfold dD; omega)
        have z1 := (aK.pz h).o q1 (by unfold dF; omega)
        have h1 := aK.to h hD f1 z1
        refine g_iload_n (pc := 51) C dX11_soothe_51 rfl ?_
        refine g_if_ne (pc := 52) C 65 dX11_soothe_52 rfl (fun c4 => ?_) (fun c4 => ?_)
        · refine g_aload_n (pc := 65) C dX11_soothe_65 rfl ?_
          refine fgr_X11_75 (pc := 66) C (by exact (aK.o0 h1).1) (zk (by exact (aK.o0 h1).2)) (by exact (aK.rf h1)) dX11_soothe_66 ?_
          refine fg_X11_280 (pc := 69) C (by exact (aK.of h1).1) (zk (by exact (aK.of h1).2)) dX11_soothe_69 ?_
          exact g_ireturn (pc := 72) C ⟨rfl, rfl⟩ dX11_soothe_72 ⟨by rw [if_pos ⟨c1, c2, c3⟩, if_neg (n0 c4), ec, e2], hD, f1, z1⟩
        · have c4 := Decidable.not_not.mp c4
          refine g_aload_n (pc := 55) C dX11_soothe_55 rfl ?_
          refine fgr_X11_75 (pc := 56) C (by exact (aK.o0 h1).1) (zk (by exact (aK.o0 h1).2)) (by exact (aK.rf h1)) dX11_soothe_56 ?_
          refine fg_X11_277 (pc := 59) C (by exact (aK.of h1).1) (zk (by exact (aK.of h1).2)) dX11_soothe_59 ?_
          refine g_goto (pc := 62) C 72 dX11_soothe_62 rfl ?_
          exact g_ireturn (pc := 72) C ⟨rfl, rfl⟩ dX11_soothe_72 ⟨by rw [if_pos ⟨c1, c2, c3⟩, if_pos (show what = nI 0 from c4), ec, e1], hD, f1, z1⟩
      · exact bad (fun q => nn_b c3 (q.2.2))
end
