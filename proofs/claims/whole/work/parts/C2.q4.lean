/-! ===== notes, images: what holds goes on ===== -/
section
variable {S T : St} {q : K5} {c ca cg cl ce P H m nr j z L H' : Nat} {u u' : Nat → Int32} {f x : Int32} {Fs : Nat → (Nat → Int64) → Int64} {W : Nat → Nat → Int32} {Tp : Nat → Int32} {im : Nat → Option IMt}
theorem crS.co (h : crS S c ca cg cl ce P u) (e : ∀ t, t < 159 → u' t = u t) : crS S c ca cg cl ce P u' := by
  obtain ⟨hk, ⟨v0, v1, v2, v3, v4, v5, v6, v7⟩, hP⟩ := h
  exact ⟨hk, ⟨v0.trans (e 0 (by omega)).symm, v1.trans (e 1 (by omega)).symm, v2.trans (e 2 (by omega)).symm, v3.trans (e 3 (by omega)).symm, v4, fun p hp => ⟨(v5 p hp).1.trans (e _ (by omega)).symm, (v5 p hp).2.1.trans (e _ (by omega)).symm, (v5 p hp).2.2.trans (e _ (by omega)).symm⟩, fun p hp q hq => (v6 p hp q hq).trans (e _ (by omega)).symm, fun h hh => (v7 h hh).trans (by rw [e _ (by omega)])⟩, hP⟩
theorem sdA.co (hP : P ≤ 7) (h : sdA P u) (e : ∀ t, t < 159 → u' t = u t) : sdA P u' := ⟨fun p hp q hq => by rw [e _ (by omega), e _ (by omega)]; exact h.1 p hp q hq, amU_ext h.2.1 (fun p hp => e _ (by omega)), by rw [e 2 (by omega)]; exact h.2.2.1, fun p hp => by rw [e (28 + p) (by omega), e (42 + p) (by omega)]; exact h.2.2.2 p hp⟩
theorem bdU.co (hP : P ≤ 7) (h : bdU P u) (e : ∀ t, t < 159 → u' t = u t) : bdU P u' := ⟨by rw [e 1 (by omega)]; exact h.1, by rw [e 3 (by omega)]; exact h.2.1, fun p hp => by rw [e _ (by omega)]; exact h.2.2.1 p hp, fun p hp q hq => by rw [e _ (by omega)]; exact h.2.2.2 p hp q hq⟩
theorem noS.co {s no : Nat} (h : noS S s no P m u) (e : ∀ t, 159 ≤ t → t < 190 → u' t = u t) : noS S s no P m u' := by
  obtain ⟨h1, h2, h3, h4⟩ := h
  exact ⟨h1, h2, by rw [e 189 (by omega) (by omega)]; exact h3, fun q hq => by
    rw [e (159 + 3 * q) (by omega) (by omega), e (159 + 3 * q + 1) (by omega) (by omega), e (159 + 3 * q + 2) (by omega) (by omega)]; exact h4 q hq⟩
theorem aK.not {m' : Nat} (a : aK S c ca cg cl ce P H m nr u f x Fs) (e : eqO (fun k => k = 7 ∨ k = 15) S T) (hI : ∀ g, g ≠ 804 → s_I T g 7 = s_I S g 7) (eR : ∀ g k, s_R T g k = s_R S g k) (hn : noS T 7 15 P m' u') (hu : ∀ t, t < 159 → u' t = u t) : aK T c ca cg cl ce P H m' nr u' f x Fs := by
  have hck : ∀ k, ck k → ¬ (k = 7 ∨ k = 15) := fun k hk => by unfold ck at hk; omega
  have k5 := (aK.nw a).2.2.2.2.1
  have hP := aK.P7 a
  have hc : crS T c ca cg cl ce P u' := ((aK.cr a).to e ⟨hck _ k5.1, hck _ k5.2.1, hck _ k5.2.2.1, hck _ k5.2.2.2.1, hck _ k5.2.2.2.2⟩).co hu
  have hrv : rvS T 13 14 P u' := ((aK.rv a).to e ⟨by omega, by omega⟩).co hP (fun t _ h2 => hu t (by omega))
  exact ⟨⟨(aK.af a).o e (fun k g => by omega), ⟨by rw [e.1]; exact (aK.nw a).1, (eR _ _).trans (aK.rc a), (eR _ _).trans (aK.rr a), hc, k5, hrv⟩, ⟨e.o (aK.sc a).1, (eR _ _).trans (aK.sc a).2.1, (eR _ _).trans (aK.sc a).2.2.1, e.a (aK.sc a).2.2.2.1, hrv.1⟩, (aK.ft a).o e (fun k g => by omega), (aK.pz a).o e ⟨by omega, by omega⟩⟩, hn, ⟨(aK.sd a).co hP hu, (aK.bd a).co hP hu⟩, ⟨(hu 10 (by omega)).trans (aK.hr a), aK.hr9 a⟩, ⟨by rw [hu 0 (by omega)]; exact a.2.2.2.2.1.1, (hu 4 (by omega)).trans (aK.u4 a)⟩, ⟨(aK.rls a).to e (by omega) (fun k g => by omega), (e.I (by omega)).trans (aK.nrv a)⟩, ⟨(hI _ (by decide)).trans (aK.fv a), aK.fok a⟩, (hI _ (by decide)).trans (aK.xv a), aK.x0 a⟩
theorem not2 {S1 : St} {m' : Nat} (h : CI S q c ca cg cl ce P H m nr j z L u f x Fs W Tp im) (g1 : RI S1 P H nr z L u f x Fs W Tp im) (e : eqO (fun k => k = 7 ∨ k = 15) S S1) (hI : ∀ g, g ≠ 804 → s_I S1 g 7 = s_I S g 7) (eR : ∀ g k, s_R S1 g k = s_R S g k) (hn : noS S1 7 15 P m' u') (hu : ∀ t, t < 159 → u' t = u t) : INV (s_setA S1 1010 u') := by
  have a := aK.not h.1 e hI eR hn hu
  obtain ⟨h1, h2, h3, h4, h5, h6, h7⟩ := g1
  refine INV.mk ((CI.mk a (h.2.1.to e (fun k g => by omega)) (oth_to h.oth (aK.rls h.1) e (fun k g => by omega) (fun g => eR g 0))).ref (eqO.sA (k := 1010) ⟨by decide, by decide⟩)) ⟨⟨h1.1, h1.2⟩, ⟨rfl, (hu 4 (by omega)).trans h2.2.1, h2.2.2.1, (hu 10 (by omega)).trans h2.2.2.2.1, h2.2.2.2.2⟩, h3, ⟨h4.1, h4.2.1, fun r hr => (h4.2.2 r hr).mv rfl rfl rfl⟩, h5, h6, fun k hk => (h7 k hk).mv rfl rfl rfl rfl⟩
theorem not_u {y p side : Int32} (hm : m ≤ 10) : ∀ t, t < 159 → (if y = -1 then upd u 189 (nI 0) else if noteOK u P y p side then noteF u m y p side else u) t = u t := fun t ht => by
  split
  · exact pk_un (by omega)
  · split
    · unfold noteF
      rw [pk_un (by omega), pk_un (by omega), pk_un (by omega), pk_un (by omega)]
    · rfl
theorem not_S {S1 : St} {y p side : Int32} (hs : s_A S1 1010 = u) : (if y = -1 then s_setA S1 1010 (upd u 189 (nI 0)) else if noteOK u P y p side then s_setA S1 1010 (noteF u m y p side) else S1) = s_setA S1 1010 (if y = -1 then upd u 189 (nI 0) else if noteOK u P y p side then noteF u m y p side else u) := by
  split
  · rfl
  · split
    · rfl
    · rw [← hs]; exact (s_A_id S1 1010).symm
theorem im_to2 {D : Nat → Prop} {k : Nat} {o : Option IMt} (h : imV S q nr k o) (e : eqO D S T) (hD : ∀ s, s < 4 → ¬ D (17 + 4 * k + s)) (hC : ∀ k, ck k → ¬ D k) : imV T q nr k o := by
  have d0 : ¬ D (17 + 4 * k) := hD 0 (by decide)
  have d1 : ¬ D (18 + 4 * k) := by have := hD 1 (by decide); rwa [show 17 + 4 * k + 1 = 18 + 4 * k by omega] at this
  have d2 : ¬ D (19 + 4 * k) := by have := hD 2 (by decide); rwa [show 17 + 4 * k + 2 = 19 + 4 * k by omega] at this
  have d3 : ¬ D (20 + 4 * k) := by have := hD 3 (by decide); rwa [show 17 + 4 * k + 3 = 20 + 4 * k by omega] at this
  cases o with
  | none => exact (e.I d0).trans h
  | some p =>
    obtain ⟨c, ca, cg, cl, ce, P, H, m, h1, h2, h3, h4, h5, h6⟩ := h
    exact ⟨c, ca, cg, cl, ce, P, H, m, ⟨(e.I d0).trans h1.1, (e.R d0).trans h1.2⟩, ⟨crS.to e ⟨hC _ h2.2.1.1, hC _ h2.2.1.2.1, hC _ h2.2.1.2.2.1, hC _ h2.2.1.2.2.2.1, hC _ h2.2.1.2.2.2.2⟩ h2.1, h2.2⟩, ⟨rvS.to e ⟨d1, d2⟩ h3.1, h3.2.to e d0 d3⟩, h4, ⟨(e.I d0).trans h5.1, h5.2⟩, (e.I d0).trans h6.1, h6.2⟩
def imU (im : Nat → Option IMt) (k : Nat) (u : Nat → Int32) (f x : Int32) : Nat → Option IMt := fun t => if t = k then some (u, f, x) else im t
theorem CI.img {k : Nat} (h : CI S q c ca cg cl ce P H m nr j z L u f x Fs W Tp im) (hk4 : k < 4) (p : imgP S T k c P m u f x) : CI T q c ca cg cl ce P H m nr j z L u f x Fs W Tp (imU im k u f x) := by
  obtain ⟨h1, h2, h3, h4, h5, h6, h7⟩ := h
  obtain ⟨e, pc, pf, px, p1, psc, prv, pno⟩ := p
  have hd : ∀ i, dI k i → 17 + 4 * k ≤ i ∧ i ≤ 20 + 4 * k := fun i g => by unfold dI at g; omega
  have nd : ∀ i, ¬ (17 + 4 * k ≤ i ∧ i ≤ 20 + 4 * k) → ¬ dI k i := fun i hi g => hi (hd i g)
  have hc : ∀ k', ck k' → ¬ dI k k' := fun k' hk => by unfold ck at hk; exact nd _ (by omega)
  have k5 := (aK.nw h1).2.2.2.2.1
  refine CI.mk (aK.off h1 e (fun i g => by have := hd i g; omega)) (h2.to e (fun i g => by have := hd i g; omega)) ⟨⟨⟨by rw [e.1]; exact h3.1.1, (e.R (nd _ (by omega))).trans h3.1.2.1, (e.I (nd _ (by omega))).trans h3.1.2.2.1, h3.1.2.2.2⟩, (e.A (nd _ (by omega))).trans h3.2.1, h3.2.2⟩, ⟨(e.R (nd _ (by omega))).trans h4.1, (e.R (nd _ (by omega))).trans h4.2.1, (e.R (nd _ (by omega))).trans h4.2.2.1, (e.R (nd _ (by omega))).trans h4.2.2.2.1, (e.R (nd _ (by omega))).trans h4.2.2.2.2⟩, ⟨⟨(e.R (nd _ (by omega))).trans h5.1.1, crK.to e (hc _ h5.1.2.2.1.1) h5.1.2.1, h5.1.2.2⟩, h5.2.1, h5.2.2.o (aK.rls h1) e (nd _ (by omega)) (fun k hk _ => nd _ (by omega))⟩, fun t ht => ?_, fun t ht => ?_⟩
  · refine ⟨by rw [e.Q (nd _ (by omega))]; exact (h6 t ht).1, ?_⟩
    by_cases q : t = k
    · rw [q]; exact psc
    · exact (h6 t ht).2.to e (nd _ (by omega)) (nd _ (by omega))
  · unfold imU
    by_cases q : t = k
    · rw [if_pos q, q]
      exact ⟨c, ca, cg, cl, ce, P, H, m, ⟨p1, pc⟩, ⟨(aK.cr h1).to e ⟨hc _ k5.1, hc _ k5.2.1, hc _ k5.2.2.1, hc _ k5.2.2.2.1, hc _ k5.2.2.2.2⟩, k5, h5.2.1⟩, ⟨prv, pno⟩, ⟨⟨aK.sd h1, aK.bd h1⟩, ⟨aK.hr h1, aK.hr9 h1⟩, h1.2.2.2.2.1.1, aK.u4 h1⟩, ⟨pf, aK.fok h1⟩, px, aK.x0 h1⟩
    · rw [if_neg q]
      exact im_to2 (h7 t ht) e (fun s hs => nd _ (by omega)) hc
theorem RI.img {k : Nat} (g : RI S P H nr z L u f x Fs W Tp im) : RI (imageS S k) P H nr z L u f x Fs W Tp (imU im k u f x) := by
  obtain ⟨h1, h2, h3, h4, h5, h6, h7⟩ := g
  refine ⟨⟨h1.1, h1.2⟩, h2, h3, ⟨h4.1, h4.2.1, fun r hr => (h4.2.2 r hr).mv rfl rfl rfl⟩, h5, h6, fun t ht => ?_⟩
  have a5 : s_A (imageS S k) 1025 = upd (s_A S 1025) k (nI 1) := rfl
  have a3 : s_A (imageS S k) 1023 = upd (s_A S 1023) k (s_I S 1121 1000) := rfl
  have a4 : s_A (imageS S k) 1024 = upd (s_A S 1024) k (s_I S 1122 1000) := rfl
  have a2 : s_A (imageS S k) 1022 = va_cpy (s_A S 1010) (s_A S 1022) 0 (190 * k) 190 := rfl
  have h7t := h7 t ht
  unfold imU imM
  rw [a5, a3, a4, a2, h3.1, h3.2.1, h2.1]
  by_cases q : t = k
  · rw [if_pos q, q]
    refine ⟨pk_us, pk_us, pk_us, fun s hs => ?_⟩
    simp only [va_cpy]
    rw [if_pos (by omega)]
    exact congrArg u (by omega)
  · rw [if_neg q]
    unfold imM at h7t
    generalize im t = o at h7t
    cases o with
    | none => exact (pk_un q).trans h7t
    | some p =>
      refine ⟨(pk_un q).trans h7t.1, (pk_un q).trans h7t.2.1, (pk_un q).trans h7t.2.2.1, fun s hs => ?_⟩
      simp only [va_cpy]
      rw [if_neg (by omega)]
      exact h7t.2.2.2 s hs
theorem eq_img {k : Nat} : eqO dM S (imageS S k) := (eqO.sA (k := 1025) ⟨by decide, by decide⟩).trans ((eqO.sA (k := 1023) ⟨by decide, by decide⟩).trans ((eqO.sA (k := 1024) ⟨by decide, by decide⟩).trans (eqO.sA (k := 1022) ⟨by decide, by decide⟩)))
theorem img1 {y : Int32} {v : Option Value} (g : RI S P H nr z L u f x Fs W Tp im) (p : if nI 0 ≤ y ∧ y ≤ nI 3 then (v = some (.int (u 10)) ∧ imgP S T y.toNatClampNeg c P m u f x) else (v = some (.int (-1)) ∧ T = S)) : v = some (.int (if nI 0 ≤ y ∧ y ≤ nI 3 then u 10 else -1)) ∧ RI T P H nr z L u f x Fs W Tp im ∧ (if nI 0 ≤ y ∧ y ≤ nI 3 then imgP S T y.toNatClampNeg c P m u f x else T = S) := by
  by_cases o : nI 0 ≤ y ∧ y ≤ nI 3
  · rw [if_pos o] at p ⊢
    rw [if_pos o]
    obtain ⟨k, hk, rfl⟩ := nat_of (by omega) o
    have ec : (nI k).toNatClampNeg = k := nI_clamp (by omega)
    rw [ec] at p ⊢
    exact ⟨p.1, g.to (eqM.of p.2.1 (fun i g q => by unfold dM at q; unfold dI at g; omega)), p.2⟩
  · rw [if_neg o] at p ⊢
    rw [if_neg o]
    obtain ⟨rfl, rfl⟩ := p
    exact ⟨rfl, g, rfl⟩
theorem img2 {S1 : St} {y a : Int32} {v : Option Value} (h : CI S q c ca cg cl ce P H m nr j z L u f x Fs W Tp im) (g1 : RI S1 P H nr z L u f x Fs W Tp im) (e : if nI 0 ≤ y ∧ y ≤ nI 3 then imgP S S1 y.toNatClampNeg c P m u f x else S1 = S) (p : pI a (if nI 0 ≤ y ∧ y ≤ nI 3 then imageS S1 y.toNatClampNeg else S1) v T) : v = some (.int a) ∧ INV T := by
  obtain ⟨rfl, rfl⟩ := p
  refine ⟨rfl, ?_⟩
  by_cases o : nI 0 ≤ y ∧ y ≤ nI 3
  · rw [if_pos o] at e ⊢
    obtain ⟨k, hk, rfl⟩ := nat_of (by omega) o
    rw [nI_clamp (by omega)] at e ⊢
    exact INV.mk ((h.img (by omega) e).ref eq_img) g1.img
  · rw [if_neg o] at e ⊢
    subst e
    exact INV.mk h g1
def imF (S : St) (q : K5) (nr k : Nat) (p : IMt) (c ca cg cl ce P H m : Nat) : Prop := (s_I S 805 (17 + 4 * k) = nI 1 ∧ s_R S 800 (17 + 4 * k) = some c) ∧ (crS S c ca cg cl ce P p.1 ∧ cK5 c ca cg cl ce ∧ ap5 q c ca cg cl ce) ∧ (rvS S (18 + 4 * k) (19 + 4 * k) P p.1 ∧ noS S (17 + 4 * k) (20 + 4 * k) P m p.1) ∧ puU P H p.1 ∧ (s_I S 802 (17 + 4 * k) = p.2.1 ∧ fOK p.2.1 nr) ∧ s_I S 803 (17 + 4 * k) = p.2.2 ∧ 0 ≤ p.2.2
abbrev D8 : Type := Nat × Nat × Nat × Nat × Nat × Nat × Nat × Nat
theorem im_all (h : ∀ k, k < 4 → imV S q nr k (im k)) : ∃ d : Nat → D8, ∀ k, k < 4 → ∀ p, im k = some p → imF S q nr k p (d k).1 (d k).2.1 (d k).2.2.1 (d k).2.2.2.1 (d k).2.2.2.2.1 (d k).2.2.2.2.2.1 (d k).2.2.2.2.2.2.1 (d k).2.2.2.2.2.2.2 := by
  refine Classical.axiomOfChoice (r := fun k (d : D8) => k < 4 → ∀ p, im k = some p → imF S q nr k p d.1 d.2.1 d.2.2.1 d.2.2.2.1 d.2.2.2.2.1 d.2.2.2.2.2.1 d.2.2.2.2.2.2.1 d.2.2.2.2.2.2.2) (fun k => ?_)
  by_cases hk : k < 4
  · have h0 := h k hk
    generalize im k = o at h0
    cases o with
    | none => exact ⟨(0, 0, 0, 0, 0, 0, 0, 0), fun _ p hp => absurd hp (by intro q; cases q)⟩
    | some p0 =>
      obtain ⟨c, ca, cg, cl, ce, P, H, m, hh⟩ := h0
      exact ⟨(c, ca, cg, cl, ce, P, H, m), fun _ p hp => by cases hp; exact hh⟩
  · exact ⟨(0, 0, 0, 0, 0, 0, 0, 0), fun g => absurd g hk⟩
def imW (im : Nat → Option IMt) (k : Nat) : Nat → Int32 := match im k with
  | none => fun _ => 0
  | some p => p.1
theorem im_him {d : Nat → D8} (h : ∀ k, k < 4 → imV S q nr k (im k)) (hd : ∀ k, k < 4 → ∀ p, im k = some p → imF S q nr k p (d k).1 (d k).2.1 (d k).2.2.1 (d k).2.2.2.1 (d k).2.2.2.2.1 (d k).2.2.2.2.2.1 (d k).2.2.2.2.2.2.1 (d k).2.2.2.2.2.2.2) : ∀ k, k < 4 → ¬ s_I S 805 (17 + 4 * k) = 0 → s_R S 800 (17 + 4 * k) = some (d k).1 ∧ (d k).2.2.2.2.2.1 ≤ 7 ∧ rvS S (18 + 4 * k) (19 + 4 * k) (d k).2.2.2.2.2.1 (imW im k) ∧ noS S (17 + 4 * k) (20 + 4 * k) (d k).2.2.2.2.2.1 (d k).2.2.2.2.2.2.2 (imW im k) := fun k hk hn => by
  have h0 := h k hk
  have h1 := hd k hk
  unfold imW
  generalize im k = o at h0 h1
  cases o with
  | none => exact absurd h0 hn
  | some p =>
    have h2 := h1 p rfl
    exact ⟨h2.1.2, h2.2.1.1.2.2, h2.2.2.1.1, h2.2.2.1.2⟩
def bakC (im : Nat → Option IMt) (y : Int32) : Prop := (nI 0 ≤ y ∧ y ≤ nI 3) ∧ (im y.toNatClampNeg).isSome = true
theorem bak_c {k : Nat} (h : imV S q nr k (im k)) : ¬ s_I S 805 (17 + 4 * k) = 0 ↔ (im k).isSome = true := by
  generalize im k = o at h
  cases o with
  | none => exact ⟨fun g => absurd h g, fun g => by cases g⟩
  | some p =>
    obtain ⟨c, ca, cg, cl, ce, P, H, m, hh⟩ := h
    exact ⟨fun _ => rfl, fun _ => by rw [hh.1.1]; decide⟩
theorem bak_m {k : Nat} (h : imM S k (im k)) : ¬ s_A S 1025 k = 0 ↔ (im k).isSome = true := by
  unfold imM at h
  generalize im k = o at h
  cases o with
  | none => exact ⟨fun g => absurd h g, fun g => by cases g⟩
  | some p => exact ⟨fun _ => rfl, fun _ => by rw [h.1]; decide⟩
theorem bak1 {y : Int32} {v : Option Value} {d : Nat → D8} (h : CI S q c ca cg cl ce P H m nr j z L u f x Fs W Tp im) (g : RI S P H nr z L u f x Fs W Tp im) (p : if (nI 0 ≤ y ∧ y ≤ nI 3) ∧ ¬ s_I S 805 (17 + 4 * y.toNatClampNeg) = 0 then (v = some (.int (imW im y.toNatClampNeg 10)) ∧ backP S T y.toNatClampNeg (d y.toNatClampNeg).1 (d y.toNatClampNeg).2.2.2.2.2.1 (d y.toNatClampNeg).2.2.2.2.2.2.2 (imW im y.toNatClampNeg)) else (v = some (.int (-1)) ∧ T = S)) : ∃ a, v = some (.int a) ∧ RI T P H nr z L u f x Fs W Tp im ∧ (bakC im y → a = imW im y.toNatClampNeg 10 ∧ backP S T y.toNatClampNeg (d y.toNatClampNeg).1 (d y.toNatClampNeg).2.2.2.2.2.1 (d y.toNatClampNeg).2.2.2.2.2.2.2 (imW im y.toNatClampNeg)) ∧ (¬ bakC im y → a = -1 ∧ T = S) := by
  have hi : (nI 0 ≤ y ∧ y ≤ nI 3) ∧ ¬ s_I S 805 (17 + 4 * y.toNatClampNeg) = 0 ↔ bakC im y := by
    unfold bakC
    constructor
    · rintro ⟨a, b⟩
      obtain ⟨k, hk, rfl⟩ := nat_of (by omega) a
      rw [nI_clamp (by omega)] at b ⊢
      exact ⟨a, (bak_c (h.2.2.2.2.2.2 k (by omega))).mp b⟩
    · rintro ⟨a, b⟩
      obtain ⟨k, hk, rfl⟩ := nat_of (by omega) a
      rw [nI_clamp (by omega)] at b ⊢
      exact ⟨a, (bak_c (h.2.2.2.2.2.2 k (by omega))).mpr b⟩
  by_cases o : bakC im y
  · rw [if_pos (hi.mpr o)] at p
    exact ⟨_, p.1, g.to (eqM.of p.2.1 (fun i g q => by unfold dM at q; unfold dB at g; omega)), fun _ => ⟨rfl, p.2⟩, fun q => absurd o q⟩
  · rw [if_neg (fun q => o (hi.mp q))] at p
    obtain ⟨rfl, rfl⟩ := p
    exact ⟨_, rfl, g, fun q => absurd q o, fun _ => ⟨rfl, rfl⟩⟩
theorem CI.bak {k : Nat} {p : IMt} {v : Nat → Int32} {c' ca' cg' cl' ce' P' H'' m' : Nat} (h : CI S q c ca cg cl ce P H m nr j z L u f x Fs W Tp im) (hf : imF S q nr k p c' ca' cg' cl' ce' P' H'' m') (b : backP S T k c' P' m' p.1) (hv : ∀ t, t < 190 → v t = p.1 t) : CI T q c' ca' cg' cl' ce' P' H'' m' nr 0 0 L v p.2.1 p.2.2 Fs W Tp im := by
  obtain ⟨e, R, I, i1, i2, r7, i3, i4, sc, rv, no⟩ := b
  obtain ⟨f1, f2, f3, f4, f5, f6⟩ := hf
  have a := h.1
  have hck : ∀ k, ck k → ¬ dB k := fun k hk g => by unfold ck at hk; unfold dB at g; omega
  have nd : ∀ k, ¬ (k = 0 ∨ k = 7 ∨ k = 13 ∨ k = 14 ∨ k = 15) → ¬ dB k := fun k hk g => hk g
  have k5 := f2.2.1
  have hP := f2.1.2.2
  have haf := aK.af a
  have hv9 : ∀ t, t < 159 → v t = p.1 t := fun t ht => hv t (by omega)
  have hc : crS T c' ca' cg' cl' ce' P' v := (f2.1.to e ⟨hck _ k5.1, hck _ k5.2.1, hck _ k5.2.2.1, hck _ k5.2.2.2.1, hck _ k5.2.2.2.2⟩).co hv9
  have af : afK T := by
    refine ⟨by rw [e.1]; exact haf.1, (R _).trans haf.2.1, (R _).trans haf.2.2.1, (R _).trans haf.2.2.2.1, (R _).trans haf.2.2.2.2.1, (R _).trans haf.2.2.2.2.2.1, (R _).trans haf.2.2.2.2.2.2.1, (R _).trans haf.2.2.2.2.2.2.2.1, fun k hk => ?_⟩
    obtain ⟨a1, a2⟩ := haf.2.2.2.2.2.2.2.2 k hk
    exact ⟨by rw [e.Q (nd _ (by omega))]; exact a1, a2.to e (nd _ (by omega))⟩
  have ho := oth_to h.oth (aK.rls a) e (fun k g => by unfold dB at g; omega) R
  refine CI.mk ⟨⟨af, ⟨by rw [e.1]; exact haf.1, r7, sc.2.1, hc, k5, rv.co hP (fun t _ h2 => hv t (by omega))⟩, sc, (aK.ft a).o e (fun k g => by unfold dB at g; omega), (aK.pz a).o e ⟨nd _ (by omega), nd _ (by omega)⟩⟩, no.co (fun t _ h2 => hv t h2), ⟨f4.1.1.co hP hv9, f4.1.2.co hP hv9⟩, ⟨(hv 10 (by omega)).trans f4.2.1.1, f4.2.1.2⟩, ⟨by rw [hv 0 (by omega)]; exact f4.2.2.1, (hv 4 (by omega)).trans f4.2.2.2⟩, ⟨(aK.rls a).to e (nd _ (by omega)) (fun k g => by unfold dB at g; omega), (I _ (by decide) (by decide)).trans (aK.nrv a)⟩, ⟨i3.trans f5.1, f5.2⟩, i4.trans f6.1, f6.2⟩ ⟨⟨i2, by decide, i1, by decide⟩, fun i hi => absurd hi (by omega)⟩ ⟨ho.1, ho.2.1, ⟨ho.2.2.1.1, f2.2.2, ho.2.2.1.2.2⟩, ho.2.2.2.1, ho.2.2.2.2⟩
theorem eq_bak {k : Nat} : eqO dM S (backS S k) := (eqO.sI (k := 1000) ⟨by decide, by decide⟩).trans ((eqO.sI (k := 1000) ⟨by decide, by decide⟩).trans ((eqO.sI (k := 1000) ⟨by decide, by decide⟩).trans (eqO.sA (k := 1010) ⟨by decide, by decide⟩)))
theorem bak2 {S1 : St} {y a : Int32} {v2 : Option Value} {d : Nat → D8} (h : CI S q c ca cg cl ce P H m nr j z L u f x Fs W Tp im) (hd : ∀ k, k < 4 → ∀ p, im k = some p → imF S q nr k p (d k).1 (d k).2.1 (d k).2.2.1 (d k).2.2.2.1 (d k).2.2.2.2.1 (d k).2.2.2.2.2.1 (d k).2.2.2.2.2.2.1 (d k).2.2.2.2.2.2.2) (g1 : RI S1 P H nr z L u f x Fs W Tp im) (b1 : bakC im y → a = imW im y.toNatClampNeg 10 ∧ backP S S1 y.toNatClampNeg (d y.toNatClampNeg).1 (d y.toNatClampNeg).2.2.2.2.2.1 (d y.toNatClampNeg).2.2.2.2.2.2.2 (imW im y.toNatClampNeg)) (b2 : ¬ bakC im y → a = -1 ∧ S1 = S) (p : pI (if backOK S1 y then s_A S1 1022 (190 * y.toNatClampNeg + 10) else -1) (if backOK S1 y then backS S1 y.toNatClampNeg else S1) v2 T) : v2 = some (.int a) ∧ INV T := by
  by_cases o : bakC im y
  · obtain ⟨e1, b⟩ := b1 o
    obtain ⟨r, o2⟩ := o
    obtain ⟨k, hk, rfl⟩ := nat_of (by omega) r
    have ec : (nI k).toNatClampNeg = k := nI_clamp (by omega)
    rw [ec] at e1 b o2
    have hM := g1.2.2.2.2.2.2 k (by omega)
    have hbo : backOK S1 (nI k) := ⟨r, by rw [ec]; exact (bak_m hM).mpr o2⟩
    rw [if_pos hbo, if_pos hbo, ec] at p
    have hdk := hd k (by omega)
    unfold imM at hM
    unfold imW at b e1
    generalize im k = oo at hM hdk b e1 o2
    cases oo with
    | none => cases o2
    | some pp =>
      have hF := hdk pp rfl
      obtain ⟨m1, m2, m3, m4⟩ := hM
      obtain ⟨rfl, rfl⟩ := p
      refine ⟨congrArg (fun t => some (Value.int t)) ((m4 10 (by omega)).trans e1.symm), ?_⟩
      obtain ⟨h1, h2, h3, h4, h5, h6, h7⟩ := g1
      have hv : ∀ t, t < 190 → va_cpy (s_A S1 1022) (s_A S1 1010) (190 * k) 0 190 t = pp.1 t := fun t ht => by
        simp only [va_cpy]
        rw [if_pos (by omega), ← m4 t ht]
        exact congrArg (s_A S1 1022) (by omega)
      refine INV.mk ((h.bak hF b hv).ref eq_bak) ⟨⟨h1.1, h1.2⟩, ⟨rfl, (hv 4 (by omega)).trans hF.2.2.2.1.2.2.2, hF.2.1.1.2.2, (hv 10 (by omega)).trans hF.2.2.2.1.2.1.1, hF.2.2.2.1.2.1.2⟩, ⟨m2, m3, h3.2.2⟩, ⟨h4.1, h4.2.1, fun r hr => (h4.2.2 r hr).mv rfl rfl rfl⟩, ⟨rfl, by decide, fun i hi => absurd hi (by omega), fun i hi => absurd hi (by omega)⟩, h6, fun k hk => (h7 k hk).mv rfl rfl rfl rfl⟩
  · obtain ⟨e1, rfl⟩ := b2 o
    have hbo : ¬ backOK S1 y := fun q => o (by
      obtain ⟨r, q2⟩ := q
      refine ⟨r, ?_⟩
      obtain ⟨k, hk, rfl⟩ := nat_of (by omega) r
      rw [nI_clamp (by omega)] at q2 ⊢
      exact (bak_m (g1.2.2.2.2.2.2 k (by omega))).mp q2)
    rw [if_neg hbo, if_neg hbo] at p
    obtain ⟨rfl, rfl⟩ := p
    exact ⟨by rw [e1], INV.mk h g1⟩
end
theorem law_note {w : Wd} {X : FX} {j : SJ} {b Ln i n1 n2 : Nat} {xs : Nat → Int32} {Q : State → Prop} {S : St} {q : K5} {c ca cg cl ce P H m nr jj z L : Nat} {u : Nat → Int32} {f x : Int32} {Fs : Nat → (Nat → Int64) → Int64} {W : Nat → Nat → Int32} {Tp : Nat → Int32} {im : Nat → Option IMt} (K : lwK w X j b Ln xs) (hi : i + 6 ≤ Ln) (hn1 : n1 ≤ 10000) (hn2 : n2 ≤ 3000000) (hC : CI S q c ca cg cl ce P H m nr jj z L u f x Fs W Tp im) (hR : RI S P H nr z L u f x Fs W Tp im) (k : lwN w X b i n1 n2 Q) : gx_G w X S n1 n2 855 (lwL w b i) [] Q := by
  obtain ⟨C, V, hX, hb, hn⟩ := K
  refine g_aload_n (pc := 855) C dL_law_855 rfl ?_
  refine g_aload_n (pc := 856) C dL_law_856 rfl ?_
  refine g_iload_n (pc := 857) C dL_law_857 rfl ?_
  refine g_iconst (pc := 858) (v := nI 1) C dL_law_858 (by decide) ?_
  refine g_iadd (pc := 859) C dL_law_859 ?_
  refine g_sld (pc := 860) (j := i + 1) C hX hb hn (nI_add _ _) (by omega) dL_law_860 ?_
  refine g_aload_n (pc := 861) C dL_law_861 rfl ?_
  refine g_iload_n (pc := 862) C dL_law_862 rfl ?_
  refine g_iconst (pc := 863) (v := nI 2) C dL_law_863 (by decide) ?_
  refine g_iadd (pc := 864) C dL_law_864 ?_
  refine g_sld (pc := 865) (j := i + 2) C hX hb hn (nI_add _ _) (by omega) dL_law_865 ?_
  refine g_aload_n (pc := 866) C dL_law_866 rfl ?_
  refine g_iload_n (pc := 867) C dL_law_867 rfl ?_
  refine g_iconst (pc := 868) (v := nI 3) C dL_law_868 (by decide) ?_
  refine g_iadd (pc := 869) C dL_law_869 ?_
  refine g_sld (pc := 870) (j := i + 3) C hX hb hn (nI_add _ _) (by omega) dL_law_870 ?_
  refine cg_L_119 (pc := 871) C rfl (zk (ok5 (aK.af hC.1).1 (by decide))) (c_X11_note w _ S c ca cg cl ce P H m nr u f x Fs hC.1 (xs (i + 1)) (xs (i + 2)) (xs (i + 3))) ⟨rfl, rfl⟩ ⟨by show n1 + 0 ≤ 600000; omega, by show n2 + 0 ≤ 7302250; omega⟩ rfl (Nat.le_of_ble_eq_true rfl) dL_law_871 ?_
  rintro v1 S1 p1
  obtain ⟨rfl, e1, eI, eR, hN⟩ := p1
  have hR1 := hR.to (eqM.of e1 (fun k hk q => by unfold dM at q; omega))
  refine g_aload_n (pc := 874) C dL_law_874 rfl ?_
  refine g_aload_n (pc := 875) C dL_law_875 rfl ?_
  refine g_iload_n (pc := 876) C dL_law_876 rfl ?_
  refine g_iconst (pc := 877) (v := nI 1) C dL_law_877 (by decide) ?_
  refine g_iadd (pc := 878) C dL_law_878 ?_
  refine g_sld (pc := 879) (j := i + 1) C hX hb hn (nI_add _ _) (by omega) dL_law_879 ?_
  refine g_aload_n (pc := 880) C dL_law_880 rfl ?_
  refine g_iload_n (pc := 881) C dL_law_881 rfl ?_
  refine g_iconst (pc := 882) (v := nI 2) C dL_law_882 (by decide) ?_
  refine g_iadd (pc := 883) C dL_law_883 ?_
  refine g_sld (pc := 884) (j := i + 2) C hX hb hn (nI_add _ _) (by omega) dL_law_884 ?_
  refine g_aload_n (pc := 885) C dL_law_885 rfl ?_
  refine g_iload_n (pc := 886) C dL_law_886 rfl ?_
  refine g_iconst (pc := 887) (v := nI 3) C dL_law_887 (by decide) ?_
  refine g_iadd (pc := 888) C dL_law_888 ?_
  refine g_sld (pc := 889) (j := i + 3) C hX hb hn (nI_add _ _) (by omega) dL_law_889 ?_
  refine cg_L_122 (pc := 890) C rfl (m_z hR1.1 rfl) (c_X12_note w _ S1 hR1.1 P H hR1.p m (by rw [hR1.sai]; exact (aK.no hC.1).2.2.1) (aK.no hC.1).2.1 (xs (i + 1)) (xs (i + 2)) (xs (i + 3))) ⟨rfl, rfl⟩ ⟨by show n1 + 0 + 0 ≤ 600000; omega, by show n2 + 0 + 0 ≤ 7302250; omega⟩ rfl (Nat.le_of_ble_eq_true rfl) dL_law_890 ?_
  rintro v2 S2 p2
  rw [hR1.sai, not_S hR1.sai] at p2
  obtain ⟨rfl, e2⟩ := p2
  have hI : INV S2 := by rw [e2]; exact not2 hC hR1 e1 eI eR hN (not_u (aK.no hC.1).2.1)
  refine g_icmp_eq (pc := 893) C 1099 dL_law_893 rfl (fun _ => ?_) (fun cn => absurd rfl cn)
  exact k S2 _ _ (by show n1 + 0 + 0 ≤ n1 + 5; omega) (by show n2 + 0 + 0 ≤ n2 + 600; omega) hI
theorem law_image {w : Wd} {X : FX} {j : SJ} {b Ln i n1 n2 : Nat} {xs : Nat → Int32} {Q : State → Prop} {S : St} {q : K5} {c ca cg cl ce P H m nr jj z L : Nat} {u : Nat → Int32} {f x : Int32} {Fs : Nat → (Nat → Int64) → Int64} {W : Nat → Nat → Int32} {Tp : Nat → Int32} {im : Nat → Option IMt} (K : lwK w X j b Ln xs) (hi : i + 6 ≤ Ln) (hn1 : n1 ≤ 10000) (hn2 : n2 ≤ 3000000) (hC : CI S q c ca cg cl ce P H m nr jj z L u f x Fs W Tp im) (hR : RI S P H nr z L u f x Fs W Tp im) (k : lwN w X b i n1 n2 Q) : gx_G w X S n1 n2 1053 (lwL w b i) [] Q := by
  obtain ⟨C, V, hX, hb, hn⟩ := K
  refine g_aload_n (pc := 1053) C dL_law_1053 rfl ?_
  refine g_aload_n (pc := 1054) C dL_law_1054 rfl ?_
  refine g_iload_n (pc := 1055) C dL_law_1055 rfl ?_
  refine g_iconst (pc := 1056) (v := nI 1) C dL_law_1056 (by decide) ?_
  refine g_iadd (pc := 1057) C dL_law_1057 ?_
  refine g_sld (pc := 1058) (j := i + 1) C hX hb hn (nI_add _ _) (by omega) dL_law_1058 ?_
  refine cg_L_143 (pc := 1059) C rfl (zk (ok5 (aK.af hC.1).1 (by decide))) (c_X11_image w _ S c ca cg cl ce P H m nr u f x Fs hC.1 hC.2.2.2.2.2.1 (xs (i + 1))) ⟨rfl, rfl⟩ ⟨by show n1 + 0 ≤ 600000; omega, by show n2 + 0 ≤ 7302250; omega⟩ rfl (Nat.le_of_ble_eq_true rfl) dL_law_1059 ?_
  rintro v1 S1 p1
  obtain ⟨rfl, hR1, hG⟩ := img1 hR p1
  refine g_aload_n (pc := 1062) C dL_law_1062 rfl ?_
  refine g_aload_n (pc := 1063) C dL_law_1063 rfl ?_
  refine g_iload_n (pc := 1064) C dL_law_1064 rfl ?_
  refine g_iconst (pc := 1065) (v := nI 1) C dL_law_1065 (by decide) ?_
  refine g_iadd (pc := 1066) C dL_law_1066 ?_
  refine g_sld (pc := 1067) (j := i + 1) C hX hb hn (nI_add _ _) (by omega) dL_law_1067 ?_
  refine cg_L_146 (pc := 1068) C rfl (m_z hR1.1 rfl) (c_X12_image w _ S1 hR1.1 (xs (i + 1))) ⟨rfl, rfl⟩ ⟨by show n1 + 0 + 0 ≤ 600000; omega, by show n2 + 0 + 0 ≤ 7302250; omega⟩ rfl (Nat.le_of_ble_eq_true rfl) dL_law_1068 ?_
  rintro v2 S2 p2
  rw [hR1.sai] at p2
  obtain ⟨rfl, hI⟩ := img2 hC hR1 hG p2
  refine g_icmp_eq (pc := 1071) C 1099 dL_law_1071 rfl (fun _ => ?_) (fun cn => absurd rfl cn)
  exact k S2 _ _ (by show n1 + 0 + 0 ≤ n1 + 5; omega) (by show n2 + 0 + 0 ≤ n2 + 600; omega) hI
theorem law_back {w : Wd} {X : FX} {j : SJ} {b Ln i n1 n2 : Nat} {xs : Nat → Int32} {Q : State → Prop} {S : St} {q : K5} {c ca cg cl ce P H m nr jj z L : Nat} {u : Nat → Int32} {f x : Int32} {Fs : Nat → (Nat → Int64) → Int64} {W : Nat → Nat → Int32} {Tp : Nat → Int32} {im : Nat → Option IMt} (K : lwK w X j b Ln xs) (hi : i + 6 ≤ Ln) (hn1 : n1 ≤ 10000) (hn2 : n2 ≤ 3000000) (hC : CI S q c ca cg cl ce P H m nr jj z L u f x Fs W Tp im) (hR : RI S P H nr z L u f x Fs W Tp im) (k : lwN w X b i n1 n2 Q) : gx_G w X S n1 n2 1076 (lwL w b i) [] Q := by
  obtain ⟨C, V, hX, hb, hn⟩ := K
  obtain ⟨d, hd⟩ := im_all hC.2.2.2.2.2.2
  refine g_aload_n (pc := 1076) C dL_law_1076 rfl ?_
  refine g_aload_n (pc := 1077) C dL_law_1077 rfl ?_
  refine g_iload_n (pc := 1078) C dL_law_1078 rfl ?_
  refine g_iconst (pc := 1079) (v := nI 1) C dL_law_1079 (by decide) ?_
  refine g_iadd (pc := 1080) C dL_law_1080 ?_
  refine g_sld (pc := 1081) (j := i + 1) C hX hb hn (nI_add _ _) (by omega) dL_law_1081 ?_
  refine cg_L_147 (pc := 1082) C rfl (zk (ok5 (aK.af hC.1).1 (by decide))) (c_X11_back w _ S (aK.af hC.1) (aK.sc hC.1) hC.2.2.2.2.2.1 (fun k => (d k).1) (fun k => (d k).2.2.2.2.2.1) (fun k => (d k).2.2.2.2.2.2.2) (fun k => imW im k) (im_him hC.2.2.2.2.2.2 hd) (xs (i + 1))) ⟨rfl, rfl⟩ ⟨by show n1 + 0 ≤ 600000; omega, by show n2 + 0 ≤ 7302250; omega⟩ rfl (Nat.le_of_ble_eq_true rfl) dL_law_1082 ?_
  rintro v1 S1 p1
  obtain ⟨a, rfl, hR1, b1, b2⟩ := bak1 hC hR p1
  refine g_aload_n (pc := 1085) C dL_law_1085 rfl ?_
  refine g_aload_n (pc := 1086) C dL_law_1086 rfl ?_
  refine g_iload_n (pc := 1087) C dL_law_1087 rfl ?_
  refine g_iconst (pc := 1088) (v := nI 1) C dL_law_1088 (by decide) ?_
  refine g_iadd (pc := 1089) C dL_law_1089 ?_
  refine g_sld (pc := 1090) (j := i + 1) C hX hb hn (nI_add _ _) (by omega) dL_law_1090 ?_
  refine cg_L_150 (pc := 1091) C rfl (m_z hR1.1 rfl) (c_X12_back w _ S1 hR1.1 (xs (i + 1))) ⟨rfl, rfl⟩ ⟨by show n1 + 0 + 0 ≤ 600000; omega, by show n2 + 0 + 0 ≤ 7302250; omega⟩ rfl (Nat.le_of_ble_eq_true rfl) dL_law_1091 ?_
  rintro v2 S2 p2
  obtain ⟨rfl, hI⟩ := bak2 hC hd hR1 b1 b2 p2
  refine g_icmp_eq (pc := 1094) C 1099 dL_law_1094 rfl (fun _ => ?_) (fun cn => absurd rfl cn)
  exact k S2 _ _ (by show n1 + 0 + 0 ≤ n1 + 5; omega) (by show n2 + 0 + 0 ≤ n2 + 600; omega) hI
