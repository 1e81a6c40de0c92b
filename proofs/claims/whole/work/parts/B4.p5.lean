/-! ===== what holds between calls: the class (CI), the reference (RI) ===== -/
abbrev K5 : Type := Nat × Nat × Nat × Nat × Nat
abbrev IMt : Type := (Nat → Int32) × Int32 × Int32
def ap (q : K5) (k : Nat) : Prop := k ≠ q.1 ∧ k ≠ q.2.1 ∧ k ≠ q.2.2.1 ∧ k ≠ q.2.2.2.1 ∧ k ≠ q.2.2.2.2
def ap5 (q : K5) (c ca cg cl ce : Nat) : Prop := ap q c ∧ ap q ca ∧ ap q cg ∧ ap q cl ∧ ap q ce
def puU (P H : Nat) (u : Nat → Int32) : Prop := (sdA P u ∧ bdU P u) ∧ (u 10 = nI H ∧ H ≤ 999) ∧ ((u 0 = nI 0 ∧ P = 0) ∨ u 0 = nI 1) ∧ u 4 = nI P
def imV (S : St) (q : K5) (nr k : Nat) (o : Option IMt) : Prop := match o with
  | none => s_I S 805 (17 + 4 * k) = 0
  | some p => ∃ c ca cg cl ce P H m, (s_I S 805 (17 + 4 * k) = nI 1 ∧ s_R S 800 (17 + 4 * k) = some c) ∧ (crS S c ca cg cl ce P p.1 ∧ cK5 c ca cg cl ce ∧ ap5 q c ca cg cl ce) ∧ (rvS S (18 + 4 * k) (19 + 4 * k) P p.1 ∧ noS S (17 + 4 * k) (20 + 4 * k) P m p.1) ∧ puU P H p.1 ∧ (s_I S 802 (17 + 4 * k) = p.2.1 ∧ fOK p.2.1 nr) ∧ s_I S 803 (17 + 4 * k) = p.2.2 ∧ 0 ≤ p.2.2
def rlX (S : St) (q : K5) (nr : Nat) : Prop := ∀ r, r < nr → ∀ rk, s_Q S 6 r = some rk → ap q rk ∧ ∀ kc, s_R S 600 rk = some kc → ap q kc
def rdK (S : St) : Prop := s_R S 1001 0 = some 3 ∧ s_R S 1002 0 = some 4 ∧ s_R S 100 3 = some 1 ∧ s_R S 700 4 = some 1 ∧ s_R S 703 4 = some 5
def spK (S : St) (q : K5) : Prop := s_R S 1009 0 = some q.1 ∧ crK S q.1 q.2.1 q.2.2.1 q.2.2.2.1 q.2.2.2.2 ∧ k5D q.1 q.2.1 q.2.2.1 q.2.2.2.1 q.2.2.2.2
def tpX (S : St) (L : Nat) (T : Nat → Int32) : Prop := tpK S L ∧ s_A S 2 = T ∧ ∀ i, i < L → isB (T i)
def CI (S : St) (q : K5) (c ca cg cl ce P H m nr j z L : Nat) (u : Nat → Int32) (f x : Int32) (Fs : Nat → (Nat → Int64) → Int64) (W : Nat → Nat → Int32) (T : Nat → Int32) (im : Nat → Option IMt) : Prop := aK S c ca cg cl ce P H m nr u f x Fs ∧ pastS S z j P W ∧ tpX S L T ∧ rdK S ∧ (spK S q ∧ ap5 q c ca cg cl ce ∧ rlX S q nr) ∧ imK S ∧ ∀ k, k < 4 → imV S q nr k (im k)
/-- an act that was kept -/
def pwU (P : Nat) (v : Nat → Int32) : Prop := amU P v ∧ ∃ h, h ≤ 999 ∧ v 10 = nI h
def imM (S : St) (k : Nat) (o : Option IMt) : Prop := match o with
  | none => s_A S 1025 k = 0
  | some p => s_A S 1025 k = nI 1 ∧ s_A S 1023 k = p.2.1 ∧ s_A S 1024 k = p.2.2 ∧ ∀ t, t < 190 → s_A S 1022 (190 * k + t) = p.1 t
def RI (S : St) (P H nr z L : Nat) (u : Nat → Int32) (f x : Int32) (Fs : Nat → (Nat → Int64) → Int64) (W : Nat → Nat → Int32) (T : Nat → Int32) (im : Nat → Option IMt) : Prop := gx_m S ∧ (s_A S 1010 = u ∧ u 4 = nI P ∧ P ≤ 7 ∧ u 10 = nI H ∧ H ≤ 999) ∧ (s_I S 1121 1000 = f ∧ s_I S 1122 1000 = x ∧ s_I S 1123 1000 = nI 0) ∧ (s_I S 1102 1000 = nI nr ∧ nr ≤ 6 ∧ ∀ r, r < nr → ruleW S r (Fs r)) ∧ (s_I S 1125 1000 = nI z ∧ z ≤ 20 ∧ (∀ i, i < z → pwU P (W i)) ∧ ∀ i, i < z → ∀ t, t < 18 → s_A S 1011 (18 * i + t) = W i (10 + t)) ∧ (s_I S 1101 1000 = nI L ∧ L ≤ 400 ∧ s_A S 1001 = T) ∧ ∀ k, k < 4 → imM S k (im k)
/-- the reference's cells are as they were -/
def eqM (S T : St) : Prop := s_z S ≤ s_z T ∧ ∀ k, 1000 ≤ k → k < 1026 → (∀ f, s_I T f k = s_I S f k) ∧ (∀ f, s_R T f k = s_R S f k) ∧ s_A T k = s_A S k
def dM : Nat → Prop := fun k => 1000 ≤ k ∧ k < 1026
theorem eqM.refl {S : St} : eqM S S := ⟨Nat.le_refl _, fun _ _ _ => ⟨fun _ => rfl, fun _ => rfl, rfl⟩⟩
theorem eqM.trans {S T U : St} (h : eqM S T) (g : eqM T U) : eqM S U := ⟨Nat.le_trans h.1 g.1, fun k h1 h2 => by
  obtain ⟨a1, a2, a3⟩ := h.2 k h1 h2
  obtain ⟨b1, b2, b3⟩ := g.2 k h1 h2
  exact ⟨fun f => (b1 f).trans (a1 f), fun f => (b2 f).trans (a2 f), b3.trans a3⟩⟩
theorem eqM.of {S T : St} {D : Nat → Prop} (e : eqO D S T) (hD : ∀ k, D k → ¬ dM k) : eqM S T := ⟨by rw [e.1]; exact Nat.le_refl _, fun k h1 h2 => by
  have hd : ¬ D k := fun q => hD k q ⟨h1, h2⟩
  exact ⟨fun f => e.I hd, fun f => e.R hd, e.A hd⟩⟩
theorem eqM.ofN {S T : St} (e : eqN S T) (hz : 121 ≤ s_z S) : eqM S T := ⟨e.1, fun k h1 h2 => by
  have hk : okK S k := ⟨hz, Or.inr (Or.inl ⟨h1, h2⟩)⟩
  exact ⟨fun f => e.I hk, fun f => e.R hk, e.A hk⟩⟩
theorem ruleW.mv {S T : St} {r : Nat} {F : (Nat → Int64) → Int64} (h : ruleW S r F) (e2 : s_A T 1002 = s_A S 1002) (e4 : s_A T 1004 = s_A S 1004) (e5 : s_A T 1005 = s_A S 1005) : ruleW T r F := by
  unfold ruleW at h ⊢
  rw [e2, e4, e5]
  exact h
theorem imM.mv {S T : St} {k : Nat} {o : Option IMt} (h : imM S k o) (e2 : s_A T 1022 = s_A S 1022) (e3 : s_A T 1023 = s_A S 1023) (e4 : s_A T 1024 = s_A S 1024) (e5 : s_A T 1025 = s_A S 1025) : imM T k o := by
  unfold imM at h ⊢
  rw [e2, e3, e4, e5]
  exact h
theorem RI.to {S T : St} {P H nr z L : Nat} {u : Nat → Int32} {f x : Int32} {Fs : Nat → (Nat → Int64) → Int64} {W : Nat → Nat → Int32} {Tp : Nat → Int32} {im : Nat → Option IMt} (h : RI S P H nr z L u f x Fs W Tp im) (e : eqM S T) : RI T P H nr z L u f x Fs W Tp im := by
  have I : ∀ g, s_I T g 1000 = s_I S g 1000 := (e.2 1000 (by decide) (by decide)).1
  have A : ∀ k, 1000 ≤ k → k < 1026 → s_A T k = s_A S k := fun k h1 h2 => (e.2 k h1 h2).2.2
  obtain ⟨h1, h2, h3, h4, h5, h6, h7⟩ := h
  refine ⟨⟨fun g j hg => ((e.2 1000 (by decide) (by decide)).2.1 g).trans (h1.1 g j hg), Nat.le_trans h1.2 e.1⟩, ?_, ?_, ?_, ?_, ?_, fun k hk => (h7 k hk).mv (A _ (by decide) (by decide)) (A _ (by decide) (by decide)) (A _ (by decide) (by decide)) (A _ (by decide) (by decide))⟩
  · rw [A 1010 (by decide) (by decide)]; exact h2
  · rw [I, I, I]; exact h3
  · rw [I]; exact ⟨h4.1, h4.2.1, fun r hr => (h4.2.2 r hr).mv (A _ (by decide) (by decide)) (A _ (by decide) (by decide)) (A _ (by decide) (by decide))⟩
  · rw [I, A 1011 (by decide) (by decide)]; exact h5
  · rw [I, A 1001 (by decide) (by decide)]; exact h6
theorem ck_dM {k : Nat} (h : ck k) : ¬ dM k := fun q => by unfold ck at h; unfold dM at q; omega
theorem cK_dM {c ca cg cl ce : Nat} (h : cK5 c ca cg cl ce) : ¬ dM c ∧ ¬ dM ca ∧ ¬ dM cg ∧ ¬ dM cl ∧ ¬ dM ce := ⟨ck_dM h.1, ck_dM h.2.1, ck_dM h.2.2.1, ck_dM h.2.2.2.1, ck_dM h.2.2.2.2⟩
theorem im_to {S T : St} {D : Nat → Prop} {q : K5} {nr k : Nat} {o : Option IMt} (h : imV S q nr k o) (e : eqO D S T) (hk : k < 4) (hD : ∀ i, 17 ≤ i → i < 33 → ¬ D i) (hC : ∀ c ca cg cl ce, cK5 c ca cg cl ce → ap5 q c ca cg cl ce → ¬ D c ∧ ¬ D ca ∧ ¬ D cg ∧ ¬ D cl ∧ ¬ D ce) : imV T q nr k o := by
  have d : ∀ t, t < 4 → ¬ D (17 + 4 * k + t) := fun t ht => hD _ (by omega) (by omega)
  have d0 : ¬ D (17 + 4 * k) := d 0 (by decide)
  cases o with
  | none => exact (e.I d0).trans h
  | some p =>
    obtain ⟨c, ca, cg, cl, ce, P, H, m, h1, h2, h3, h4, h5, h6⟩ := h
    refine ⟨c, ca, cg, cl, ce, P, H, m, ⟨(e.I d0).trans h1.1, (e.R d0).trans h1.2⟩, ⟨crS.to e (hC _ _ _ _ _ h2.2.1 h2.2.2) h2.1, h2.2⟩, ⟨rvS.to e ⟨hD _ (by omega) (by omega), hD _ (by omega) (by omega)⟩ h3.1, h3.2.to e d0 (hD _ (by omega) (by omega))⟩, h4, ⟨(e.I d0).trans h5.1, h5.2⟩, (e.I d0).trans h6.1, h6.2⟩
theorem imK.o {S T : St} {D : Nat → Prop} (h : imK S) (e : eqO D S T) (hD : ∀ i, 16 ≤ i → i < 33 → ¬ D i) : imK T := fun k hk => ⟨by rw [e.Q (hD 16 (by decide) (by decide))]; exact (h k hk).1, (h k hk).2.to e (hD _ (by omega) (by omega)) (hD _ (by omega) (by omega))⟩
theorem rlX.o {S T : St} {D : Nat → Prop} {q : K5} {nr : Nat} {Fs : Nat → (Nat → Int64) → Int64} (h : rlX S q nr) (hr : rlS S nr Fs) (e : eqO D S T) (h6 : ¬ D 6) (hD : ∀ k, 2000 ≤ k → ap q k → ¬ D k) : rlX T q nr := fun r hr0 rk hq => by
  rw [e.Q h6] at hq
  obtain ⟨a1, a2⟩ := h r hr0 rk hq
  have hf := hr.2.2 r hr0
  rw [hq] at hf
  obtain ⟨kc, cs, g1, g2, g3, g4⟩ := hf
  refine ⟨a1, fun kc' hk => a2 kc' ?_⟩
  rw [← hk]
  exact (e.R (hD rk g3 a1)).symm
theorem rlS.o {S T : St} {D : Nat → Prop} {q : K5} {nr : Nat} {Fs : Nat → (Nat → Int64) → Int64} (hr : rlS S nr Fs) (h : rlX S q nr) (e : eqO D S T) (h6 : ¬ D 6) (hD : ∀ k, 2000 ≤ k → ap q k → ¬ D k) : rlS T nr Fs := ⟨e.a hr.1, hr.2.1, fun r hr0 => by
  rw [e.Q h6]
  have hf := hr.2.2 r hr0
  have hx := h r hr0
  generalize s_Q S 6 r = o at hf hx
  cases o with
  | none => exact hf
  | some rk =>
    obtain ⟨kc, cs, g1, g2, g3, g4⟩ := hf
    obtain ⟨a1, a2⟩ := hx rk rfl
    exact ⟨kc, cs, rcS.to e ⟨hD _ g3 a1, hD _ g4 (a2 kc g1.2.1)⟩ g1, g2, g3, g4⟩⟩
