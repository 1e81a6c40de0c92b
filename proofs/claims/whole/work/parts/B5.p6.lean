/-! ===== what holds between calls is kept: asks; the reference's own changes ===== -/
def okD (D : Nat → Prop) : Prop := ∀ k, D k → k = 0 ∨ k = 7 ∨ (13 ≤ k ∧ k ≤ 15) ∨ (33 ≤ k ∧ k < 90) ∨ dM k
def othI (S : St) (q : K5) (c ca cg cl ce nr L : Nat) (T : Nat → Int32) (im : Nat → Option IMt) : Prop := tpX S L T ∧ rdK S ∧ (spK S q ∧ ap5 q c ca cg cl ce ∧ rlX S q nr) ∧ imK S ∧ ∀ k, k < 4 → imV S q nr k (im k)
section
variable {S T : St} {q : K5} {c ca cg cl ce P H m nr j z L : Nat} {u : Nat → Int32} {f x : Int32} {Fs : Nat → (Nat → Int64) → Int64} {W : Nat → Nat → Int32} {Tp : Nat → Int32} {im : Nat → Option IMt}
theorem okD.n {D : Nat → Prop} (h : okD D) {k : Nat} (hk : ¬ (k = 0 ∨ k = 7 ∨ (13 ≤ k ∧ k ≤ 15) ∨ (33 ≤ k ∧ k < 90) ∨ (1000 ≤ k ∧ k < 1026))) : ¬ D k := fun g => hk (h k g)
theorem ck_n {k : Nat} (hk : ck k) : ¬ (k = 0 ∨ k = 7 ∨ (13 ≤ k ∧ k ≤ 15) ∨ (33 ≤ k ∧ k < 90) ∨ (1000 ≤ k ∧ k < 1026)) := by unfold ck at hk; omega
theorem okD.c5 {D : Nat → Prop} (h : okD D) (hk : cK5 c ca cg cl ce) : ¬ D c ∧ ¬ D ca ∧ ¬ D cg ∧ ¬ D cl ∧ ¬ D ce := ⟨h.n (ck_n hk.1), h.n (ck_n hk.2.1), h.n (ck_n hk.2.2.1), h.n (ck_n hk.2.2.2.1), h.n (ck_n hk.2.2.2.2)⟩
theorem oth_to {D : Nat → Prop} (h : othI S q c ca cg cl ce nr L Tp im) (hr : rlS S nr Fs) (e : eqO D S T) (hD : okD D) (hR0 : ∀ g, s_R T g 0 = s_R S g 0) : othI T q c ca cg cl ce nr L Tp im := by
  obtain ⟨h1, h2, h3, h4, h5⟩ := h
  have n1 : ¬ D 1 := hD.n (by omega)
  have n2 : ¬ D 2 := hD.n (by omega)
  have n3 : ¬ D 3 := hD.n (by omega)
  have n4 : ¬ D 4 := hD.n (by omega)
  refine ⟨⟨⟨by rw [e.1]; exact h1.1.1, (e.R n1).trans h1.1.2.1, (e.I n1).trans h1.1.2.2.1, h1.1.2.2.2⟩, (e.A n2).trans h1.2.1, h1.2.2⟩, ⟨(hR0 _).trans h2.1, (hR0 _).trans h2.2.1, (e.R n3).trans h2.2.2.1, (e.R n4).trans h2.2.2.2.1, (e.R n4).trans h2.2.2.2.2⟩, ⟨⟨(hR0 _).trans h3.1.1, crK.to e (hD.n (ck_n h3.1.2.2.1.1)) h3.1.2.1, h3.1.2.2⟩, h3.2.1, h3.2.2.o hr e (hD.n (by omega)) (fun k hk _ => hD.n (by omega))⟩, h4.o e (fun i h1 h2 => hD.n (by omega)), fun k hk => im_to (h5 k hk) e hk (fun i h1 h2 => hD.n (by omega)) (fun _ _ _ _ _ hc _ => hD.c5 hc)⟩
theorem CI.oth (h : CI S q c ca cg cl ce P H m nr j z L u f x Fs W Tp im) : othI S q c ca cg cl ce nr L Tp im := ⟨h.2.2.1, h.2.2.2.1, h.2.2.2.2.1, h.2.2.2.2.2.1, h.2.2.2.2.2.2⟩
theorem CI.mk (h1 : aK S c ca cg cl ce P H m nr u f x Fs) (h2 : pastS S z j P W) (h3 : othI S q c ca cg cl ce nr L Tp im) : CI S q c ca cg cl ce P H m nr j z L u f x Fs W Tp im := ⟨h1, h2, h3.1, h3.2.1, h3.2.2.1, h3.2.2.2.1, h3.2.2.2.2⟩
/-- an ask leaves all as it is -/
theorem CI.ask (h : CI S q c ca cg cl ce P H m nr j z L u f x Fs W Tp im) (e : eqO dD S T) (hf : ftK T) (hz : pzK T) : CI T q c ca cg cl ce P H m nr j z L u f x Fs W Tp im :=
  CI.mk (aK.to h.1 e hf hz) (h.2.1.to e (fun k g => by unfold dD at g; omega)) (oth_to h.oth (aK.rls h.1) e (fun k g => by unfold dD at g; omega) (fun g => e.R (by unfold dD; omega)))
theorem dD_dM {k : Nat} (h : dD k) : ¬ dM k := fun q => by unfold dD at h; unfold dM at q; omega
/-- the reference's cells are none of the class's -/
theorem CI.ref (h : CI S q c ca cg cl ce P H m nr j z L u f x Fs W Tp im) (e : eqO dM S T) : CI T q c ca cg cl ce P H m nr j z L u f x Fs W Tp im := by
  have hD : okD dM := fun k g => Or.inr (Or.inr (Or.inr (Or.inr g)))
  have n : ∀ k, k < 1000 → ¬ dM k := fun k hk g => by unfold dM at g; omega
  have a := h.1
  refine CI.mk ?_ (h.2.1.to e (fun k g => by unfold dM at g; omega)) (oth_to h.oth (aK.rls a) e hD (fun g => e.R (n 0 (by decide))))
  exact ⟨⟨(aK.af a).o e (fun k g => by unfold dM at g; omega), (aK.nw a).to e (fun k g => by unfold dM at g; unfold ck; omega), (aK.sc a).to e (n _ (by decide)) (n _ (by decide)), (aK.ft a).o e (fun k g => by unfold dM at g; omega), (aK.pz a).o e ⟨n _ (by decide), n _ (by decide)⟩⟩, (aK.no a).to e (n _ (by decide)) (n _ (by decide)), a.2.2.1, a.2.2.2.1, a.2.2.2.2.1, ⟨(aK.rls a).to e (n _ (by decide)) (fun k g => by unfold dM at g; omega), (e.I (n _ (by decide))).trans (aK.nrv a)⟩, ⟨(e.I (n _ (by decide))).trans (aK.fv a), aK.fok a⟩, (e.I (n _ (by decide))).trans (aK.xv a), aK.x0 a⟩
theorem RI.fr (h : RI S P H nr z L u f x Fs W Tp im) (hf : fOK f nr) : frW S (frF f Fs) := by
  unfold frF
  rcases hf with rfl | ⟨k, hk, rfl⟩
  · rw [if_neg (by decide)]; exact h.2.2.1.1
  · have hn : nr ≤ 6 := h.2.2.2.1.2.1
    rw [if_pos (nI_pos' (by omega)), nI_clamp (by omega)]
    exact ⟨k, by omega, h.2.2.1.1, h.2.2.2.1.2.2 k hk⟩
theorem RI.p (h : RI S P H nr z L u f x Fs W Tp im) : gx_p S P H := by
  obtain ⟨a, b, c, d, e⟩ := h.2.1
  exact ⟨by rw [a]; exact b, c, by rw [a]; exact d, by omega⟩
theorem RI.sai (h : RI S P H nr z L u f x Fs W Tp im) : s_A S 1010 = u := h.2.1.1
theorem RI.d (h : RI S P H nr z L u f x Fs W Tp im) : s_I S 1123 1000 = nI 0 := h.2.2.1.2.2
end
