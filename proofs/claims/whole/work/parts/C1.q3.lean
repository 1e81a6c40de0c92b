/-! ===== force, seed, count, feed, end, undo: what holds goes on ===== -/
section
variable {S T : St} {q : K5} {c ca cg cl ce P H m nr j z L H' : Nat} {u u' : Nat → Int32} {f x : Int32} {Fs : Nat → (Nat → Int64) → Int64} {W : Nat → Nat → Int32} {Tp : Nat → Int32} {im : Nat → Option IMt}
theorem CI.frc {k : Int32} (h : CI S q c ca cg cl ce P H m nr j z L u f x Fs W Tp im) (hk : fOK k nr) : CI (s_setI S 802 7 k) q c ca cg cl ce P H m nr j z L u k x Fs W Tp im := by
  have e : eqO (fun i => i = 7) S (s_setI S 802 7 k) := eqO.sI rfl
  obtain ⟨⟨a1, a2, a3, a4, a5⟩, a6, a7, a8, a9, ⟨a10, a11⟩, ⟨a12, a13⟩, a14, a15⟩ := h.1
  exact CI.mk ⟨⟨a1, a2, a3, a4, a5⟩, a6, a7, a8, a9, ⟨a10, a11⟩, ⟨gI_at, hk⟩, a14, a15⟩ (h.2.1.to e (fun k g => by omega)) (oth_to h.oth a10 e (fun k g => by omega) (fun g => rfl))
theorem CI.sed {k : Int32} (h : CI S q c ca cg cl ce P H m nr j z L u f x Fs W Tp im) (hk : 0 ≤ k) : CI (s_setI S 803 7 k) q c ca cg cl ce P H m nr j z L u f k Fs W Tp im := by
  have e : eqO (fun i => i = 7) S (s_setI S 803 7 k) := eqO.sI rfl
  obtain ⟨⟨a1, a2, a3, a4, a5⟩, a6, a7, a8, a9, ⟨a10, a11⟩, ⟨a12, a13⟩, a14, a15⟩ := h.1
  exact CI.mk ⟨⟨a1, a2, a3, a4, a5⟩, a6, a7, a8, a9, ⟨a10, a11⟩, ⟨a12, a13⟩, gI_at, hk⟩ (h.2.1.to e (fun k g => by omega)) (oth_to h.oth a10 e (fun k g => by omega) (fun g => rfl))
theorem RI.frc {k : Int32} (g : RI S P H nr z L u f x Fs W Tp im) : RI (s_setI S 1121 1000 k) P H nr z L u k x Fs W Tp im := by
  obtain ⟨h1, h2, h3, h4, h5, h6, h7⟩ := g
  exact ⟨⟨h1.1, h1.2⟩, h2, ⟨gI_at, h3.2.1, h3.2.2⟩, ⟨h4.1, h4.2.1, fun r hr => (h4.2.2 r hr).mv rfl rfl rfl⟩, h5, h6, fun k hk => (h7 k hk).mv rfl rfl rfl rfl⟩
theorem RI.sed {k : Int32} (g : RI S P H nr z L u f x Fs W Tp im) : RI (s_setI S 1122 1000 k) P H nr z L u f k Fs W Tp im := by
  obtain ⟨h1, h2, h3, h4, h5, h6, h7⟩ := g
  exact ⟨⟨h1.1, h1.2⟩, h2, ⟨h3.1, gI_at, h3.2.2⟩, ⟨h4.1, h4.2.1, fun r hr => (h4.2.2 r hr).mv rfl rfl rfl⟩, h5, h6, fun k hk => (h7 k hk).mv rfl rfl rfl rfl⟩
theorem eqM_7 {f' : Nat} {k : Int32} {i : Nat} (hi : i < 1000) : eqM S (s_setI S f' i k) := eqM.of (D := fun t => t = i) (eqO.sI rfl) (fun t ht g => by unfold dM at g; omega)
theorem RI.ite {ok : Prop} [Decidable ok] {f' i : Nat} {k : Int32} (g : RI S P H nr z L u f x Fs W Tp im) (hi : i < 1000) (e : T = if ok then s_setI S f' i k else S) : RI T P H nr z L u f x Fs W Tp im := by
  subst e
  split
  · exact g.to (eqM_7 hi)
  · exact g
theorem dm1 {i : Nat} {f' : Nat} {k : Int32} (hi : dM i) : eqO dM S (s_setI S f' i k) := eqO.sI hi
theorem frc2 {S1 : St} {ok : Prop} [Decidable ok] {k a : Int32} {v : Option Value} (h : CI S q c ca cg cl ce P H m nr j z L u f x Fs W Tp im) (g : RI S P H nr z L u f x Fs W Tp im) (e : S1 = if ok then s_setI S 802 7 k else S) (hk : ok → fOK k nr) (p : pI a (if ok then s_setI S1 1121 1000 k else S1) v T) : v = some (.int a) ∧ INV T := by
  obtain ⟨rfl, rfl⟩ := p
  refine ⟨rfl, ?_⟩
  by_cases o : ok
  · rw [if_pos o] at e ⊢
    subst e
    exact INV.mk ((h.frc (hk o)).ref (dm1 ⟨by decide, by decide⟩)) (g.to (eqM_7 (by decide))).frc
  · rw [if_neg o] at e ⊢
    subst e
    exact INV.mk h g
theorem sed2 {S1 : St} {k a : Int32} {v : Option Value} (h : CI S q c ca cg cl ce P H m nr j z L u f x Fs W Tp im) (g : RI S P H nr z L u f x Fs W Tp im) (e : S1 = if 0 ≤ k then s_setI S 803 7 k else S) (p : pI a (if 0 ≤ k then s_setI S1 1122 1000 k else S1) v T) : v = some (.int a) ∧ INV T := by
  obtain ⟨rfl, rfl⟩ := p
  refine ⟨rfl, ?_⟩
  by_cases o : 0 ≤ k
  · rw [if_pos o] at e ⊢
    subst e
    exact INV.mk ((h.sed o).ref (dm1 ⟨by decide, by decide⟩)) (g.to (eqM_7 (by decide))).sed
  · rw [if_neg o] at e ⊢
    subst e
    exact INV.mk h g
theorem frc_ok {k : Int32} (hn : nr ≤ 6) (h : k = -1 ∨ (0 ≤ k ∧ k < nI nr)) : fOK k nr := by
  rcases h with h | h
  · exact Or.inl h
  · obtain ⟨i, hi, e, -⟩ := person_of (by omega) h
    exact Or.inr ⟨i, hi, e⟩
theorem cnt_eq {k : Nat} (g : RI S P H nr z L u f x Fs W Tp im) : countF S P H k = cntA u P H nr z L f x k := by
  unfold countF cntA
  rw [g.sai, g.2.2.2.1.1, g.2.2.1.1, g.d0, g.2.2.2.2.1.1, g.xs, g.2.2.2.2.2.1.1]
/-- cells that what asks need do not reach -/
def ofD (D : Nat → Prop) : Prop := ∀ k, D k → (1 ≤ k ∧ k ≤ 5) ∨ (16 ≤ k ∧ k < 33)
theorem ofD.n {D : Nat → Prop} (h : ofD D) {k : Nat} (hk : ¬ ((1 ≤ k ∧ k ≤ 5) ∨ (16 ≤ k ∧ k < 33))) : ¬ D k := fun g => hk (h k g)
theorem aK.off {D : Nat → Prop} (a : aK S c ca cg cl ce P H m nr u f x Fs) (e : eqO D S T) (hD : ofD D) : aK T c ca cg cl ce P H m nr u f x Fs :=
  ⟨⟨(aK.af a).o e (fun k g => by have := hD k g; omega), (aK.nw a).to e (fun k g => by have := hD k g; unfold ck; omega), (aK.sc a).to e (hD.n (by omega)) (hD.n (by omega)), (aK.ft a).o e (fun k g => by have := hD k g; omega), (aK.pz a).o e ⟨hD.n (by omega), hD.n (by omega)⟩⟩, (aK.no a).to e (hD.n (by omega)) (hD.n (by omega)), a.2.2.1, a.2.2.2.1, a.2.2.2.2.1, ⟨(aK.rls a).to e (hD.n (by omega)) (fun k g => by have := hD k g; omega), (e.I (hD.n (by omega))).trans (aK.nrv a)⟩, ⟨(e.I (hD.n (by omega))).trans (aK.fv a), aK.fok a⟩, (e.I (hD.n (by omega))).trans (aK.xv a), aK.x0 a⟩
/-- the tape -/
theorem CI.tp {L' : Nat} {T' : Nat → Int32} (h : CI S q c ca cg cl ce P H m nr j z L u f x Fs W Tp im) (e : eqO (fun k => k = 1 ∨ k = 2) S T) (eR : ∀ g k, s_R T g k = s_R S g k) (ht : tpX T L' T') : CI T q c ca cg cl ce P H m nr j z L' u f x Fs W T' im := by
  obtain ⟨h1, h2, h3, h4, h5, h6, h7⟩ := h
  have hc : ∀ k, ck k → ¬ (k = 1 ∨ k = 2) := fun k hk => by unfold ck at hk; omega
  refine CI.mk (aK.off h1 e (fun k g => by omega)) (h2.to e (fun k g => by omega)) ⟨ht, ⟨(eR _ _).trans h4.1, (eR _ _).trans h4.2.1, (eR _ _).trans h4.2.2.1, (eR _ _).trans h4.2.2.2.1, (eR _ _).trans h4.2.2.2.2⟩, ⟨⟨(eR _ _).trans h5.1.1, crK.to e (hc _ h5.1.2.2.1.1) h5.1.2.1, h5.1.2.2⟩, h5.2.1, h5.2.2.o (aK.rls h1) e (by omega) (fun k hk _ => by omega)⟩, h6.o e (fun i h1 h2 => by omega), fun k hk => im_to (h7 k hk) e hk (fun i h1 h2 => by omega) (fun _ _ _ _ _ hc5 _ => ⟨hc _ hc5.1, hc _ hc5.2.1, hc _ hc5.2.2.1, hc _ hc5.2.2.2.1, hc _ hc5.2.2.2.2⟩)⟩
theorem RI.tp {L' : Nat} {T' : Nat → Int32} (g : RI S P H nr z L u f x Fs W Tp im) (hL : L' ≤ 400) : RI (tpS S T' (nI L')) P H nr z L' u f x Fs W T' im := by
  obtain ⟨h1, h2, h3, h4, h5, h6, h7⟩ := g
  exact ⟨⟨h1.1, h1.2⟩, h2, h3, ⟨h4.1, h4.2.1, fun r hr => (h4.2.2 r hr).mv rfl rfl rfl⟩, h5, ⟨gI_at, hL, rfl⟩, fun k hk => (h7 k hk).mv rfl rfl rfl rfl⟩
theorem dM_tp {T' : Nat → Int32} {n : Int32} : eqO dM S (tpS S T' n) := (eqO.sA (k := 1001) ⟨by decide, by decide⟩).trans (eqO.sI (k := 1000) ⟨by decide, by decide⟩)
theorem eq_tq {T' : Nat → Int32} {n : Int32} : eqO (fun k => k = 1 ∨ k = 2) S (tqS S T' n) := (eqO.sA (k := 2) (Or.inr rfl)).trans (eqO.sI (k := 1) (Or.inl rfl))
theorem eqM_12 (e : eqO (fun k => k = 1 ∨ k = 2) S T) : eqM S T := eqM.of e (fun t ht g => by unfold dM at g; omega)
theorem byt_all : ∀ n, n < 256 → (Int8.ofNat n).toInt32 = nI ((n + 128) % 256) - nI 128 := by decide +kernel
theorem isB_byt {v : Int32} {k : Nat} : isB (bytF v k) := by
  unfold bytF
  rw [vp_nar_byte]
  generalize (v >>> (ozF k &&& 31)).toInt8.toInt32.toInt8 = y
  have e : Int8.ofNat y.toBitVec.toNat = y := Int8.toBitVec_inj.mp (by show BitVec.ofNat 8 y.toBitVec.toNat = y.toBitVec; rw [BitVec.ofNat_toNat, BitVec.setWidth_eq])
  refine ⟨(y.toBitVec.toNat + 128) % 256, Nat.mod_lt _ (by decide), ?_⟩
  rw [← byt_all _ y.toBitVec.isLt, e]
theorem isB_four {T' : Nat → Int32} {n : Nat} {v : Int32} (h : ∀ i, i < n → isB (T' i)) : ∀ i, i < n + 4 → isB (fourF T' n v 4 i) := fun i hi => by
  unfold fourF
  split
  · exact isB_byt
  · exact h i (by omega)
theorem isB_feed {T' : Nat → Int32} {n : Nat} {a b c d e : Int32} (h : ∀ i, i < n → isB (T' i)) : ∀ i, i < n + 20 → isB (feedF T' n a b c d e i) := isB_four (isB_four (isB_four (isB_four (isB_four h))))
theorem fed2 {S1 : St} {a : Int32} {v : Option Value} {F : Nat → Int32} (h : CI S q c ca cg cl ce P H m nr j z L u f x Fs W Tp im) (g : RI S P H nr z L u f x Fs W Tp im) (e : S1 = if L + 20 ≤ 400 then tqS S F (nI (L + 20)) else S) (hB : ∀ i, i < L + 20 → isB (F i)) (p : pI a (if L + 20 ≤ 400 then tpS S1 F (nI (L + 20)) else S1) v T) : v = some (.int a) ∧ INV T := by
  obtain ⟨rfl, rfl⟩ := p
  refine ⟨rfl, ?_⟩
  by_cases o : L + 20 ≤ 400
  · rw [if_pos o] at e ⊢
    subst e
    have ht := h.2.2.1
    exact INV.mk ((h.tp (T := tqS S F (nI (L + 20))) (L' := L + 20) (T' := F) eq_tq (fun _ _ => rfl) ⟨⟨ht.1.1, ht.1.2.1, gI_at, o⟩, rfl, hB⟩).ref dM_tp) ((g.to (eqM_12 eq_tq)).tp o)
  · rw [if_neg o] at e ⊢
    subst e
    exact INV.mk h g
theorem RI.tq {S1 : St} {F : Nat → Int32} {n : Int32} {ok : Prop} [Decidable ok] (g : RI S P H nr z L u f x Fs W Tp im) (e : S1 = if ok then tqS S F n else S) : RI S1 P H nr z L u f x Fs W Tp im := by
  subst e
  split
  · exact g.to (eqM_12 eq_tq)
  · exact g
theorem end_if {α : Type} {y : Int32} {a b : α} : (if y < 0 ∨ nI L < y then a else b) = if 0 ≤ y ∧ y ≤ nI L then b else a := by
  by_cases h : 0 ≤ y ∧ y ≤ nI L
  · rw [if_pos h, if_neg (fun q => q.elim (fun g => absurd h.1 (Int32.not_le.mpr g)) (fun g => absurd h.2 (Int32.not_le.mpr g)))]
  · rw [if_neg h, if_pos (Decidable.byContradiction (fun q => h ⟨Int32.not_lt.mp (fun g => q (Or.inl g)), Int32.not_lt.mp (fun g => q (Or.inr g))⟩))]
theorem end2 {S1 : St} {y a : Int32} {v : Option Value} (h : CI S q c ca cg cl ce P H m nr j z L u f x Fs W Tp im) (g : RI S P H nr z L u f x Fs W Tp im) (e : S1 = if 0 ≤ y ∧ y ≤ nI L then s_setI S 901 1 y else S) (p : pI a (if 0 ≤ y ∧ y ≤ nI L then s_setI S1 1101 1000 y else S1) v T) : v = some (.int a) ∧ INV T := by
  obtain ⟨rfl, rfl⟩ := p
  refine ⟨rfl, ?_⟩
  by_cases o : 0 ≤ y ∧ y ≤ nI L
  · rw [if_pos o] at e ⊢
    subst e
    have ht := h.2.2.1
    obtain ⟨n, hn, rfl⟩ := nat_of (b := L) (by have := ht.1.2.2.2; omega) ⟨by rw [nI_0]; exact o.1, o.2⟩
    have hL := ht.1.2.2.2
    refine INV.mk ((h.tp (T := s_setI S 901 1 (nI n)) (L' := n) (T' := Tp) ((eqO.sI (k := 1) (Or.inl rfl))) (fun _ _ => rfl) ⟨⟨ht.1.1, ht.1.2.1, gI_at, by omega⟩, ht.2.1, fun i hi => ht.2.2 i (by omega)⟩).ref (dm1 ⟨by decide, by decide⟩)) ?_
    have g1 := g.to (eqM_7 (S := S) (f' := 901) (k := nI n) (i := 1) (by decide))
    obtain ⟨h1, h2, h3, h4, h5, h6, h7⟩ := g1
    exact ⟨⟨h1.1, h1.2⟩, h2, h3, ⟨h4.1, h4.2.1, fun r hr => (h4.2.2 r hr).mv rfl rfl rfl⟩, h5, ⟨gI_at, by omega, h6.2.2⟩, fun k hk => (h7 k hk).mv rfl rfl rfl rfl⟩
  · rw [if_neg o] at e ⊢
    subst e
    exact INV.mk h g
theorem rvS.co {r ra : Nat} (h : rvS S r ra P u) (hP : P ≤ 7) (e : ∀ t, 10 ≤ t → t < 28 → u' t = u t) : rvS S r ra P u' := by
  obtain ⟨hk, ⟨a, b, c, d, e2, g⟩, s1, s2⟩ := h
  exact ⟨hk, ⟨a.trans (e 10 (by omega) (by omega)).symm, b.trans (e 11 (by omega) (by omega)).symm, c.trans (congrArg nI (onN_ext P (fun p hp => (e _ (by omega) (by omega)).symm))), d.trans (e 12 (by omega) (by omega)).symm, e2.trans (e 13 (by omega) (by omega)).symm, fun p hp => (g p hp).trans (e _ (by omega) (by omega)).symm⟩, by rw [e 11 (by omega) (by omega)]; exact s1, fun p hp => by rw [e _ (by omega) (by omega)]; exact s2 p hp⟩
/-- how it was ahead of the last act -/
theorem aK.un (h : aK S c ca cg cl ce P H m nr u f x Fs) (e : eqO (fun k => k = 0 ∨ k = 13 ∨ k = 14) S T) (R : ∀ f, s_R T f 0 = s_R S f 0) (I : ∀ f, f ≠ 1011 → f ≠ 1012 → s_I T f 0 = s_I S f 0) (rv : rvS T 13 14 P u') (hu : ∀ k, k < 10 ∨ 28 ≤ k → u' k = u k) (am : amU P u') (hh : u' 10 = nI H') (hh9 : H' ≤ 999) : aK T c ca cg cl ce P H' m nr u' f x Fs := by
  have haf := aK.af h
  have hck : ∀ k, ck k → ¬ (k = 0 ∨ k = 13 ∨ k = 14) := fun k hk => by unfold ck at hk; omega
  have k5 := (aK.nw h).2.2.2.2.1
  have hc : crS T c ca cg cl ce P u := (aK.cr h).to e ⟨hck _ k5.1, hck _ k5.2.1, hck _ k5.2.2.1, hck _ k5.2.2.2.1, hck _ k5.2.2.2.2⟩
  have d7 : ¬ ((7 : Nat) = 0 ∨ (7 : Nat) = 13 ∨ (7 : Nat) = 14) := by omega
  have af : afK T := by
    refine ⟨by rw [e.1]; exact haf.1, (R _).trans haf.2.1, (R _).trans haf.2.2.1, (R _).trans haf.2.2.2.1, (R _).trans haf.2.2.2.2.1, (R _).trans haf.2.2.2.2.2.1, (R _).trans haf.2.2.2.2.2.2.1, (R _).trans haf.2.2.2.2.2.2.2.1, fun k hk => ?_⟩
    obtain ⟨a1, a2⟩ := haf.2.2.2.2.2.2.2.2 k hk
    exact ⟨by rw [e.Q (by omega)]; exact a1, a2.to e (by omega)⟩
  have hsc : scK T 7 13 14 15 := ⟨e.o (aK.sc h).1, (e.R d7).trans (aK.sc h).2.1, (e.R d7).trans (aK.sc h).2.2.1, e.a (aK.sc h).2.2.2.1, rv.1⟩
  exact ⟨⟨af, ⟨by rw [e.1]; exact (aK.nw h).1, (e.R d7).trans (aK.rc h), (e.R d7).trans (aK.rr h), hc.u hu, k5, rv⟩, hsc, (aK.ft h).o e (fun k q => by omega), (aK.pz h).o e ⟨by omega, by omega⟩⟩, ((aK.no h).to e d7 (by omega)).u (fun k hk => hu k (by omega)), ⟨(aK.sd h).u am hu, (aK.bd h).u hu⟩, ⟨hh, hh9⟩, ⟨by rw [hu 0 (by omega)]; exact h.2.2.2.2.1.1, by rw [hu 4 (by omega)]; exact aK.u4 h⟩, ⟨(aK.rls h).to e (by omega) (fun k q => by omega), (I _ (by decide) (by decide)).trans (aK.nrv h)⟩, ⟨(e.I d7).trans (aK.fv h), aK.fok h⟩, (e.I d7).trans (aK.xv h), aK.x0 h⟩
theorem und1 {v : Option Value} (g : RI S P H nr z L u f x Fs W Tp im) (p : if z = 0 then (v = some (.int (-1)) ∧ T = S) else (v = some (.int (nI (z - 1))) ∧ eqO (fun k => k = 0 ∨ k = 13 ∨ k = 14) S T ∧ (∀ f, s_R T f 0 = s_R S f 0) ∧ (∀ f, f ≠ 1011 → f ≠ 1012 → s_I T f 0 = s_I S f 0) ∧ s_I T 1012 0 = nI ((j + 19) % 20) ∧ s_I T 1011 0 = nI (z - 1) ∧ rvS T 13 14 P (W (z - 1)))) : v = some (.int (if z = 0 then -1 else nI (z - 1))) ∧ RI T P H nr z L u f x Fs W Tp im ∧ (if z = 0 then T = S else (eqO (fun k => k = 0 ∨ k = 13 ∨ k = 14) S T ∧ (∀ f, s_R T f 0 = s_R S f 0) ∧ (∀ f, f ≠ 1011 → f ≠ 1012 → s_I T f 0 = s_I S f 0) ∧ s_I T 1012 0 = nI ((j + 19) % 20) ∧ s_I T 1011 0 = nI (z - 1) ∧ rvS T 13 14 P (W (z - 1)))) := by
  by_cases o : z = 0
  · rw [if_pos o] at p ⊢
    rw [if_pos o]
    obtain ⟨rfl, rfl⟩ := p
    exact ⟨rfl, g, rfl⟩
  · rw [if_neg o] at p ⊢
    rw [if_neg o]
    exact ⟨p.1, g.to (eqM.of p.2.1 (fun k hk q => by unfold dM at q; omega)), p.2⟩
theorem und2 {S1 : St} {a : Int32} {v : Option Value} (h : CI S q c ca cg cl ce P H m nr j z L u f x Fs W Tp im) (g1 : RI S1 P H nr z L u f x Fs W Tp im) (e : if z = 0 then S1 = S else (eqO (fun k => k = 0 ∨ k = 13 ∨ k = 14) S S1 ∧ (∀ f, s_R S1 f 0 = s_R S f 0) ∧ (∀ f, f ≠ 1011 → f ≠ 1012 → s_I S1 f 0 = s_I S f 0) ∧ s_I S1 1012 0 = nI ((j + 19) % 20) ∧ s_I S1 1011 0 = nI (z - 1) ∧ rvS S1 13 14 P (W (z - 1)))) (p : pI a (if z = 0 then S1 else undoS S1 z) v T) : v = some (.int a) ∧ INV T := by
  obtain ⟨rfl, rfl⟩ := p
  refine ⟨rfl, ?_⟩
  by_cases o : z = 0
  · rw [if_pos o] at e ⊢
    subst e
    exact INV.mk h g1
  · rw [if_neg o] at e ⊢
    obtain ⟨e1, eR, eI, ej, ez, rv⟩ := e
    obtain ⟨h1, h2, h3, h4, h5, h6, h7⟩ := g1
    obtain ⟨pam, hh, hh9, eh⟩ := h5.2.2.1 (z - 1) (by omega)
    have hP := aK.P7 h.1
    have hin : ∀ t, 10 ≤ t → t < 28 → va_cpy (s_A S1 1011) u (18 * (z - 1)) 10 18 t = W (z - 1) t := fun t t1 t2 => by
      simp only [va_cpy]
      rw [if_pos (by omega), h5.2.2.2 (z - 1) (by omega) (t - 10) (by omega)]
      exact congrArg (W (z - 1)) (by omega)
    have hout : ∀ k, k < 10 ∨ 28 ≤ k → va_cpy (s_A S1 1011) u (18 * (z - 1)) 10 18 k = u k := fun k hk => by
      simp only [va_cpy]
      rw [if_neg (by omega)]
    generalize hv : va_cpy (s_A S1 1011) u (18 * (z - 1)) 10 18 = v at hin hout
    have am : amU P v := amU_ext pam (fun p hp => hin _ (by omega) (by omega))
    have h10 : v 10 = nI hh := (hin 10 (by omega) (by omega)).trans eh
    have hT : undoS S1 z = s_setI (s_setA S1 1010 v) 1125 1000 (nI (z - 1)) := by
      unfold undoS; rw [h2.1, hv]
    rw [hT]
    have a1 := aK.un h.1 e1 eR eI (rv.co hP hin) hout am h10 hh9
    have c1 : CI S1 q c ca cg cl ce P hh m nr ((j + 19) % 20) (z - 1) L v f x Fs W Tp im := by
      obtain ⟨⟨p1, p2, p3, p4⟩, pW⟩ := h.2.1
      refine CI.mk a1 ⟨⟨ej, Nat.mod_lt _ (by decide), ez, by omega⟩, fun i hi => ?_⟩ (oth_to h.oth (aK.rls h.1) e1 (fun k g => by omega) eR)
      have ei : ((j + 19) % 20 + 20 - (z - 1) + i) % 20 = (j + 20 - z + i) % 20 := by omega
      rw [ei]
      exact (pW i (by omega)).to e1 ⟨by omega, by omega⟩
    refine INV.mk (c1.ref ((eqO.sA (k := 1010) ⟨by decide, by decide⟩).trans (eqO.sI (k := 1000) ⟨by decide, by decide⟩))) ⟨⟨h1.1, h1.2⟩, ⟨rfl, (hout 4 (by omega)).trans h2.2.1, h2.2.2.1, h10, hh9⟩, h3, ⟨h4.1, h4.2.1, fun r hr => (h4.2.2 r hr).mv rfl rfl rfl⟩, ⟨gI_at, by omega, fun i hi => h5.2.2.1 i (by omega), fun i hi t ht => h5.2.2.2 i (by omega) t ht⟩, h6, fun k hk => (h7 k hk).mv rfl rfl rfl rfl⟩
end
theorem law_force {w : Wd} {X : FX} {j : SJ} {b Ln i n1 n2 : Nat} {xs : Nat → Int32} {Q : State → Prop} {S : St} {q : K5} {c ca cg cl ce P H m nr jj z L : Nat} {u : Nat → Int32} {f x : Int32} {Fs : Nat → (Nat → Int64) → Int64} {W : Nat → Nat → Int32} {Tp : Nat → Int32} {im : Nat → Option IMt} (K : lwK w X j b Ln xs) (hi : i + 6 ≤ Ln) (hn1 : n1 ≤ 10000) (hn2 : n2 ≤ 3000000) (hC : CI S q c ca cg cl ce P H m nr jj z L u f x Fs W Tp im) (hR : RI S P H nr z L u f x Fs W Tp im) (k : lwN w X b i n1 n2 Q) : gx_G w X S n1 n2 292 (lwL w b i) [] Q := by
  obtain ⟨C, V, hX, hb, hn⟩ := K
  refine g_aload_n (pc := 292) C dL_law_292 rfl ?_
  refine g_aload_n (pc := 293) C dL_law_293 rfl ?_
  refine g_iload_n (pc := 294) C dL_law_294 rfl ?_
  refine g_iconst (pc := 295) (v := nI 1) C dL_law_295 (by decide) ?_
  refine g_iadd (pc := 296) C dL_law_296 ?_
  refine g_sld (pc := 297) (j := i + 1) C hX hb hn (nI_add _ _) (by omega) dL_law_297 ?_
  refine cg_L_32 (pc := 298) C rfl (zk (ok5 (aK.af hC.1).1 (by decide))) (c_X11_force w _ S c ca cg cl ce P H m nr u f x Fs hC.1 (xs (i + 1))) ⟨rfl, rfl⟩ ⟨by show n1 + 0 ≤ 600000; omega, by show n2 + 0 ≤ 7302250; omega⟩ rfl (Nat.le_of_ble_eq_true rfl) dL_law_298 ?_
  rintro v1 S1 p1
  obtain ⟨rfl, e1⟩ := p1
  have hR1 := RI.ite hR (by decide) e1
  refine g_aload_n (pc := 301) C dL_law_301 rfl ?_
  refine g_aload_n (pc := 302) C dL_law_302 rfl ?_
  refine g_iload_n (pc := 303) C dL_law_303 rfl ?_
  refine g_iconst (pc := 304) (v := nI 1) C dL_law_304 (by decide) ?_
  refine g_iadd (pc := 305) C dL_law_305 ?_
  refine g_sld (pc := 306) (j := i + 1) C hX hb hn (nI_add _ _) (by omega) dL_law_306 ?_
  refine cg_L_35 (pc := 307) C rfl (m_z hR1.1 rfl) (c_X12_force w _ S1 hR1.1 (xs (i + 1))) ⟨rfl, rfl⟩ ⟨by show n1 + 0 + 0 ≤ 600000; omega, by show n2 + 0 + 0 ≤ 7302250; omega⟩ rfl (Nat.le_of_ble_eq_true rfl) dL_law_307 ?_
  rintro v2 S2 p2
  rw [hR1.2.2.2.1.1, hR1.2.2.1.1] at p2
  obtain ⟨rfl, hI⟩ := frc2 hC hR e1 (frc_ok hR.2.2.2.1.2.1) p2
  refine g_icmp_eq (pc := 310) C 1099 dL_law_310 rfl (fun _ => ?_) (fun cn => absurd rfl cn)
  exact k S2 _ _ (by show n1 + 0 + 0 ≤ n1 + 5; omega) (by show n2 + 0 + 0 ≤ n2 + 600; omega) hI
theorem law_seed {w : Wd} {X : FX} {j : SJ} {b Ln i n1 n2 : Nat} {xs : Nat → Int32} {Q : State → Prop} {S : St} {q : K5} {c ca cg cl ce P H m nr jj z L : Nat} {u : Nat → Int32} {f x : Int32} {Fs : Nat → (Nat → Int64) → Int64} {W : Nat → Nat → Int32} {Tp : Nat → Int32} {im : Nat → Option IMt} (K : lwK w X j b Ln xs) (hi : i + 6 ≤ Ln) (hn1 : n1 ≤ 10000) (hn2 : n2 ≤ 3000000) (hC : CI S q c ca cg cl ce P H m nr jj z L u f x Fs W Tp im) (hR : RI S P H nr z L u f x Fs W Tp im) (k : lwN w X b i n1 n2 Q) : gx_G w X S n1 n2 954 (lwL w b i) [] Q := by
  obtain ⟨C, V, hX, hb, hn⟩ := K
  refine g_aload_n (pc := 954) C dL_law_954 rfl ?_
  refine g_aload_n (pc := 955) C dL_law_955 rfl ?_
  refine g_iload_n (pc := 956) C dL_law_956 rfl ?_
  refine g_iconst (pc := 957) (v := nI 1) C dL_law_957 (by decide) ?_
  refine g_iadd (pc := 958) C dL_law_958 ?_
  refine g_sld (pc := 959) (j := i + 1) C hX hb hn (nI_add _ _) (by omega) dL_law_959 ?_
  refine cg_L_131 (pc := 960) C rfl (zk (ok5 (aK.af hC.1).1 (by decide))) (c_X11_seed w _ S c ca cg cl ce P H m nr u f x Fs hC.1 (xs (i + 1))) ⟨rfl, rfl⟩ ⟨by show n1 + 0 ≤ 600000; omega, by show n2 + 0 ≤ 7302250; omega⟩ rfl (Nat.le_of_ble_eq_true rfl) dL_law_960 ?_
  rintro v1 S1 p1
  obtain ⟨rfl, e1⟩ := p1
  have hR1 := RI.ite hR (by decide) e1
  refine g_aload_n (pc := 963) C dL_law_963 rfl ?_
  refine g_aload_n (pc := 964) C dL_law_964 rfl ?_
  refine g_iload_n (pc := 965) C dL_law_965 rfl ?_
  refine g_iconst (pc := 966) (v := nI 1) C dL_law_966 (by decide) ?_
  refine g_iadd (pc := 967) C dL_law_967 ?_
  refine g_sld (pc := 968) (j := i + 1) C hX hb hn (nI_add _ _) (by omega) dL_law_968 ?_
  refine cg_L_134 (pc := 969) C rfl (m_z hR1.1 rfl) (c_X12_seed w _ S1 hR1.1 (xs (i + 1))) ⟨rfl, rfl⟩ ⟨by show n1 + 0 + 0 ≤ 600000; omega, by show n2 + 0 + 0 ≤ 7302250; omega⟩ rfl (Nat.le_of_ble_eq_true rfl) dL_law_969 ?_
  rintro v2 S2 p2
  rw [hR1.xs] at p2
  obtain ⟨rfl, hI⟩ := sed2 hC hR e1 p2
  refine g_icmp_eq (pc := 972) C 1099 dL_law_972 rfl (fun _ => ?_) (fun cn => absurd rfl cn)
  exact k S2 _ _ (by show n1 + 0 + 0 ≤ n1 + 5; omega) (by show n2 + 0 + 0 ≤ n2 + 600; omega) hI
theorem law_countN {w : Wd} {X : FX} {j : SJ} {b Ln i n1 n2 : Nat} {xs : Nat → Int32} {Q : State → Prop} {S : St} {q : K5} {c ca cg cl ce P H m nr jj z L : Nat} {u : Nat → Int32} {f x : Int32} {Fs : Nat → (Nat → Int64) → Int64} {W : Nat → Nat → Int32} {Tp : Nat → Int32} {im : Nat → Option IMt} (K : lwK w X j b Ln xs) (hi : i + 6 ≤ Ln) (hn1 : n1 ≤ 10000) (hn2 : n2 ≤ 3000000) (hw : xs (i + 1) < 0 ∨ nI 16 ≤ xs (i + 1)) (hC : CI S q c ca cg cl ce P H m nr jj z L u f x Fs W Tp im) (hR : RI S P H nr z L u f x Fs W Tp im) (k : lwN w X b i n1 n2 Q) : gx_G w X S n1 n2 1030 (lwL w b i) [] Q := by
  obtain ⟨C, V, hX, hb, hn⟩ := K
  refine g_aload_n (pc := 1030) C dL_law_1030 rfl ?_
  refine g_aload_n (pc := 1031) C dL_law_1031 rfl ?_
  refine g_iload_n (pc := 1032) C dL_law_1032 rfl ?_
  refine g_iconst (pc := 1033) (v := nI 1) C dL_law_1033 (by decide) ?_
  refine g_iadd (pc := 1034) C dL_law_1034 ?_
  refine g_sld (pc := 1035) (j := i + 1) C hX hb hn (nI_add _ _) (by omega) dL_law_1035 ?_
  refine cg_L_139 (pc := 1036) C rfl (zk (ok5 (aK.af hC.1).1 (by decide))) (c_X11_countN w _ S c ca cg cl ce P H m nr u f x Fs hC.1 (xs (i + 1)) hw) ⟨rfl, rfl⟩ ⟨by show n1 + 0 ≤ 600000; omega, by show n2 + 0 ≤ 7302250; omega⟩ rfl (Nat.le_of_ble_eq_true rfl) dL_law_1036 ?_
  rintro v1 S1 p1
  obtain ⟨rfl, rfl⟩ := p1
  have hR1 := hR
  refine g_aload_n (pc := 1039) C dL_law_1039 rfl ?_
  refine g_aload_n (pc := 1040) C dL_law_1040 rfl ?_
  refine g_iload_n (pc := 1041) C dL_law_1041 rfl ?_
  refine g_iconst (pc := 1042) (v := nI 1) C dL_law_1042 (by decide) ?_
  refine g_iadd (pc := 1043) C dL_law_1043 ?_
  refine g_sld (pc := 1044) (j := i + 1) C hX hb hn (nI_add _ _) (by omega) dL_law_1044 ?_
  refine cg_L_142 (pc := 1045) C rfl (m_z hR1.1 rfl) (c_X12_countN w _ S1 hR1.1 (xs (i + 1)) hw) ⟨rfl, rfl⟩ ⟨by show n1 + 0 + 0 ≤ 600000; omega, by show n2 + 0 + 0 ≤ 7302250; omega⟩ rfl (Nat.le_of_ble_eq_true rfl) dL_law_1045 ?_
  rintro v2 S2 p2
  obtain ⟨rfl, rfl⟩ := p2
  have hI := INV.mk hC hR
  refine g_icmp_eq (pc := 1048) C 1099 dL_law_1048 rfl (fun _ => ?_) (fun cn => absurd rfl cn)
  exact k S2 _ _ (by show n1 + 0 + 0 ≤ n1 + 5; omega) (by show n2 + 0 + 0 ≤ n2 + 600; omega) hI
theorem law_countK {w : Wd} {X : FX} {j : SJ} {b Ln i n1 n2 : Nat} {xs : Nat → Int32} {Q : State → Prop} {S : St} {q : K5} {c ca cg cl ce P H m nr jj z L : Nat} {u : Nat → Int32} {f x : Int32} {Fs : Nat → (Nat → Int64) → Int64} {W : Nat → Nat → Int32} {Tp : Nat → Int32} {im : Nat → Option IMt} (K : lwK w X j b Ln xs) (hi : i + 6 ≤ Ln) (hn1 : n1 ≤ 10000) (hn2 : n2 ≤ 3000000) (k0 : Nat) (hk0 : k0 < 16) (hx0 : xs (i + 1) = nI k0) (hC : CI S q c ca cg cl ce P H m nr jj z L u f x Fs W Tp im) (hR : RI S P H nr z L u f x Fs W Tp im) (k : lwN w X b i n1 n2 Q) : gx_G w X S n1 n2 1030 (lwL w b i) [] Q := by
  obtain ⟨C, V, hX, hb, hn⟩ := K
  have cc1 := fun l => c_X11_count w l S c ca cg cl ce P H m nr u f x Fs hC.1 z L hC.2.1.1.2.2.1 hC.2.2.1.1 k0 hk0
  rw [← hx0] at cc1
  refine g_aload_n (pc := 1030) C dL_law_1030 rfl ?_
  refine g_aload_n (pc := 1031) C dL_law_1031 rfl ?_
  refine g_iload_n (pc := 1032) C dL_law_1032 rfl ?_
  refine g_iconst (pc := 1033) (v := nI 1) C dL_law_1033 (by decide) ?_
  refine g_iadd (pc := 1034) C dL_law_1034 ?_
  refine g_sld (pc := 1035) (j := i + 1) C hX hb hn (nI_add _ _) (by omega) dL_law_1035 ?_
  refine cg_L_139 (pc := 1036) C rfl (zk (ok5 (aK.af hC.1).1 (by decide))) (cc1 _) ⟨rfl, rfl⟩ ⟨by show n1 + 0 ≤ 600000; omega, by show n2 + 0 ≤ 7302250; omega⟩ rfl (Nat.le_of_ble_eq_true rfl) dL_law_1036 ?_
  rintro v1 S1 p1
  obtain ⟨rfl, rfl⟩ := p1
  have hR1 := hR
  have cc2 := fun l => c_X12_count w l S1 hR1.1 P H hR1.p k0 hk0
  rw [← hx0] at cc2
  refine g_aload_n (pc := 1039) C dL_law_1039 rfl ?_
  refine g_aload_n (pc := 1040) C dL_law_1040 rfl ?_
  refine g_iload_n (pc := 1041) C dL_law_1041 rfl ?_
  refine g_iconst (pc := 1042) (v := nI 1) C dL_law_1042 (by decide) ?_
  refine g_iadd (pc := 1043) C dL_law_1043 ?_
  refine g_sld (pc := 1044) (j := i + 1) C hX hb hn (nI_add _ _) (by omega) dL_law_1044 ?_
  refine cg_L_142 (pc := 1045) C rfl (m_z hR1.1 rfl) (cc2 _) ⟨rfl, rfl⟩ ⟨by show n1 + 0 + 0 ≤ 600000; omega, by show n2 + 0 + 0 ≤ 7302250; omega⟩ rfl (Nat.le_of_ble_eq_true rfl) dL_law_1045 ?_
  rintro v2 S2 p2
  rw [cnt_eq hR1] at p2
  obtain ⟨rfl, rfl⟩ := p2
  have hI := INV.mk hC hR
  refine g_icmp_eq (pc := 1048) C 1099 dL_law_1048 rfl (fun _ => ?_) (fun cn => absurd rfl cn)
  exact k S2 _ _ (by show n1 + 0 + 0 ≤ n1 + 5; omega) (by show n2 + 0 + 0 ≤ n2 + 600; omega) hI
theorem law_feed {w : Wd} {X : FX} {j : SJ} {b Ln i n1 n2 : Nat} {xs : Nat → Int32} {Q : State → Prop} {S : St} {q : K5} {c ca cg cl ce P H m nr jj z L : Nat} {u : Nat → Int32} {f x : Int32} {Fs : Nat → (Nat → Int64) → Int64} {W : Nat → Nat → Int32} {Tp : Nat → Int32} {im : Nat → Option IMt} (K : lwK w X j b Ln xs) (hi : i + 6 ≤ Ln) (hn1 : n1 ≤ 10000) (hn2 : n2 ≤ 3000000) (hC : CI S q c ca cg cl ce P H m nr jj z L u f x Fs W Tp im) (hR : RI S P H nr z L u f x Fs W Tp im) (k : lwN w X b i n1 n2 Q) : gx_G w X S n1 n2 180 (lwL w b i) [] Q := by
  obtain ⟨C, V, hX, hb, hn⟩ := K
  refine g_aload_n (pc := 180) C dL_law_180 rfl ?_
  refine g_aload_n (pc := 181) C dL_law_181 rfl ?_
  refine g_iload_n (pc := 182) C dL_law_182 rfl ?_
  refine g_iconst (pc := 183) (v := nI 1) C dL_law_183 (by decide) ?_
  refine g_iadd (pc := 184) C dL_law_184 ?_
  refine g_sld (pc := 185) (j := i + 1) C hX hb hn (nI_add _ _) (by omega) dL_law_185 ?_
  refine g_aload_n (pc := 186) C dL_law_186 rfl ?_
  refine g_iload_n (pc := 187) C dL_law_187 rfl ?_
  refine g_iconst (pc := 188) (v := nI 2) C dL_law_188 (by decide) ?_
  refine g_iadd (pc := 189) C dL_law_189 ?_
  refine g_sld (pc := 190) (j := i + 2) C hX hb hn (nI_add _ _) (by omega) dL_law_190 ?_
  refine g_aload_n (pc := 191) C dL_law_191 rfl ?_
  refine g_iload_n (pc := 192) C dL_law_192 rfl ?_
  refine g_iconst (pc := 193) (v := nI 3) C dL_law_193 (by decide) ?_
  refine g_iadd (pc := 194) C dL_law_194 ?_
  refine g_sld (pc := 195) (j := i + 3) C hX hb hn (nI_add _ _) (by omega) dL_law_195 ?_
  refine g_aload_n (pc := 196) C dL_law_196 rfl ?_
  refine g_iload_n (pc := 197) C dL_law_197 rfl ?_
  refine g_iconst (pc := 198) (v := nI 4) C dL_law_198 (by decide) ?_
  refine g_iadd (pc := 199) C dL_law_199 ?_
  refine g_sld (pc := 200) (j := i + 4) C hX hb hn (nI_add _ _) (by omega) dL_law_200 ?_
  refine g_aload_n (pc := 201) C dL_law_201 rfl ?_
  refine g_iload_n (pc := 202) C dL_law_202 rfl ?_
  refine g_iconst (pc := 203) (v := nI 5) C dL_law_203 (by decide) ?_
  refine g_iadd (pc := 204) C dL_law_204 ?_
  refine g_sld (pc := 205) (j := i + 5) C hX hb hn (nI_add _ _) (by omega) dL_law_205 ?_
  refine cg_L_13 (pc := 206) C rfl (zk (ok5 (aK.af hC.1).1 (by decide))) (c_X11_feed w _ S L (aK.af hC.1) hC.2.2.1.1 (xs (i + 1)) (xs (i + 2)) (xs (i + 3)) (xs (i + 4)) (xs (i + 5))) ⟨rfl, rfl⟩ ⟨by show n1 + 0 ≤ 600000; omega, by show n2 + 0 ≤ 7302250; omega⟩ rfl (Nat.le_of_ble_eq_true rfl) dL_law_206 ?_
  rintro v1 S1 p1
  rw [hC.2.2.1.2.1] at p1
  obtain ⟨rfl, e1⟩ := p1
  have hR1 := RI.tq hR e1
  refine g_aload_n (pc := 209) C dL_law_209 rfl ?_
  refine g_aload_n (pc := 210) C dL_law_210 rfl ?_
  refine g_iload_n (pc := 211) C dL_law_211 rfl ?_
  refine g_iconst (pc := 212) (v := nI 1) C dL_law_212 (by decide) ?_
  refine g_iadd (pc := 213) C dL_law_213 ?_
  refine g_sld (pc := 214) (j := i + 1) C hX hb hn (nI_add _ _) (by omega) dL_law_214 ?_
  refine g_aload_n (pc := 215) C dL_law_215 rfl ?_
  refine g_iload_n (pc := 216) C dL_law_216 rfl ?_
  refine g_iconst (pc := 217) (v := nI 2) C dL_law_217 (by decide) ?_
  refine g_iadd (pc := 218) C dL_law_218 ?_
  refine g_sld (pc := 219) (j := i + 2) C hX hb hn (nI_add _ _) (by omega) dL_law_219 ?_
  refine g_aload_n (pc := 220) C dL_law_220 rfl ?_
  refine g_iload_n (pc := 221) C dL_law_221 rfl ?_
  refine g_iconst (pc := 222) (v := nI 3) C dL_law_222 (by decide) ?_
  refine g_iadd (pc := 223) C dL_law_223 ?_
  refine g_sld (pc := 224) (j := i + 3) C hX hb hn (nI_add _ _) (by omega) dL_law_224 ?_
  refine g_aload_n (pc := 225) C dL_law_225 rfl ?_
  refine g_iload_n (pc := 226) C dL_law_226 rfl ?_
  refine g_iconst (pc := 227) (v := nI 4) C dL_law_227 (by decide) ?_
  refine g_iadd (pc := 228) C dL_law_228 ?_
  refine g_sld (pc := 229) (j := i + 4) C hX hb hn (nI_add _ _) (by omega) dL_law_229 ?_
  refine g_aload_n (pc := 230) C dL_law_230 rfl ?_
  refine g_iload_n (pc := 231) C dL_law_231 rfl ?_
  refine g_iconst (pc := 232) (v := nI 5) C dL_law_232 (by decide) ?_
  refine g_iadd (pc := 233) C dL_law_233 ?_
  refine g_sld (pc := 234) (j := i + 5) C hX hb hn (nI_add _ _) (by omega) dL_law_234 ?_
  refine cg_L_17 (pc := 235) C rfl (m_z hR1.1 rfl) (c_X12_feed w _ S1 hR1.1 L hR1.2.2.2.2.2.1.2.1 hR1.2.2.2.2.2.1.1 (xs (i + 1)) (xs (i + 2)) (xs (i + 3)) (xs (i + 4)) (xs (i + 5))) ⟨rfl, rfl⟩ ⟨by show n1 + 0 + 0 ≤ 600000; omega, by show n2 + 0 + 0 ≤ 7302250; omega⟩ rfl (Nat.le_of_ble_eq_true rfl) dL_law_235 ?_
  rintro v2 S2 p2
  rw [hR1.2.2.2.2.2.1.2.2] at p2
  obtain ⟨rfl, hI⟩ := fed2 hC hR e1 (isB_feed hC.2.2.1.2.2) p2
  refine g_icmp_eq (pc := 238) C 1099 dL_law_238 rfl (fun _ => ?_) (fun cn => absurd rfl cn)
  exact k S2 _ _ (by show n1 + 0 + 0 ≤ n1 + 5; omega) (by show n2 + 0 + 0 ≤ n2 + 600; omega) hI
theorem law_end {w : Wd} {X : FX} {j : SJ} {b Ln i n1 n2 : Nat} {xs : Nat → Int32} {Q : State → Prop} {S : St} {q : K5} {c ca cg cl ce P H m nr jj z L : Nat} {u : Nat → Int32} {f x : Int32} {Fs : Nat → (Nat → Int64) → Int64} {W : Nat → Nat → Int32} {Tp : Nat → Int32} {im : Nat → Option IMt} (K : lwK w X j b Ln xs) (hi : i + 6 ≤ Ln) (hn1 : n1 ≤ 10000) (hn2 : n2 ≤ 3000000) (hC : CI S q c ca cg cl ce P H m nr jj z L u f x Fs W Tp im) (hR : RI S P H nr z L u f x Fs W Tp im) (k : lwN w X b i n1 n2 Q) : gx_G w X S n1 n2 243 (lwL w b i) [] Q := by
  obtain ⟨C, V, hX, hb, hn⟩ := K
  refine g_aload_n (pc := 243) C dL_law_243 rfl ?_
  refine g_aload_n (pc := 244) C dL_law_244 rfl ?_
  refine g_iload_n (pc := 245) C dL_law_245 rfl ?_
  refine g_iconst (pc := 246) (v := nI 1) C dL_law_246 (by decide) ?_
  refine g_iadd (pc := 247) C dL_law_247 ?_
  refine g_sld (pc := 248) (j := i + 1) C hX hb hn (nI_add _ _) (by omega) dL_law_248 ?_
  refine cg_L_18 (pc := 249) C rfl (zk (ok5 (aK.af hC.1).1 (by decide))) (c_X11_end w _ S L (xs (i + 1)) (aK.af hC.1) hC.2.2.1.1) ⟨rfl, rfl⟩ ⟨by show n1 + 0 ≤ 600000; omega, by show n2 + 0 ≤ 7302250; omega⟩ rfl (Nat.le_of_ble_eq_true rfl) dL_law_249 ?_
  rintro v1 S1 p1
  rw [end_if, end_if] at p1
  obtain ⟨rfl, e1⟩ := p1
  have hR1 := RI.ite hR (by decide) e1
  refine g_aload_n (pc := 252) C dL_law_252 rfl ?_
  refine g_aload_n (pc := 253) C dL_law_253 rfl ?_
  refine g_iload_n (pc := 254) C dL_law_254 rfl ?_
  refine g_iconst (pc := 255) (v := nI 1) C dL_law_255 (by decide) ?_
  refine g_iadd (pc := 256) C dL_law_256 ?_
  refine g_sld (pc := 257) (j := i + 1) C hX hb hn (nI_add _ _) (by omega) dL_law_257 ?_
  refine cg_L_22 (pc := 258) C rfl (m_z hR1.1 rfl) (c_X12_end w _ S1 hR1.1 (xs (i + 1))) ⟨rfl, rfl⟩ ⟨by show n1 + 0 + 0 ≤ 600000; omega, by show n2 + 0 + 0 ≤ 7302250; omega⟩ rfl (Nat.le_of_ble_eq_true rfl) dL_law_258 ?_
  rintro v2 S2 p2
  rw [hR1.2.2.2.2.2.1.1] at p2
  obtain ⟨rfl, hI⟩ := end2 hC hR e1 p2
  refine g_icmp_eq (pc := 261) C 1099 dL_law_261 rfl (fun _ => ?_) (fun cn => absurd rfl cn)
  exact k S2 _ _ (by show n1 + 0 + 0 ≤ n1 + 5; omega) (by show n2 + 0 + 0 ≤ n2 + 600; omega) hI
theorem law_undo {w : Wd} {X : FX} {j : SJ} {b Ln i n1 n2 : Nat} {xs : Nat → Int32} {Q : State → Prop} {S : St} {q : K5} {c ca cg cl ce P H m nr jj z L : Nat} {u : Nat → Int32} {f x : Int32} {Fs : Nat → (Nat → Int64) → Int64} {W : Nat → Nat → Int32} {Tp : Nat → Int32} {im : Nat → Option IMt} (K : lwK w X j b Ln xs) (hi : i + 6 ≤ Ln) (hn1 : n1 ≤ 10000) (hn2 : n2 ≤ 3000000) (hC : CI S q c ca cg cl ce P H m nr jj z L u f x Fs W Tp im) (hR : RI S P H nr z L u f x Fs W Tp im) (k : lwN w X b i n1 n2 Q) : gx_G w X S n1 n2 483 (lwL w b i) [] Q := by
  obtain ⟨C, V, hX, hb, hn⟩ := K
  refine g_aload_n (pc := 483) C dL_law_483 rfl ?_
  refine cg_L_61 (pc := 484) C rfl (zk (ok5 (aK.af hC.1).1 (by decide))) (c_X11_undo w _ S P jj z (W (z - 1)) (aK.af hC.1) (aK.sc hC.1) (aK.P7 hC.1) hC.2.1.1.1 hC.2.1.1.2.1 hC.2.1.1.2.2.1 hC.2.1.1.2.2.2 (fun h0 => by have := hC.2.1.2 (z - 1) (by omega); have hz20 := hC.2.1.1.2.2.2; rw [show (jj + 20 - z + (z - 1)) % 20 = (jj + 19) % 20 by omega] at this; exact this)) ⟨rfl, rfl⟩ ⟨by show n1 + 0 ≤ 600000; omega, by show n2 + 0 ≤ 7302250; omega⟩ rfl (Nat.le_of_ble_eq_true rfl) dL_law_484 ?_
  rintro v1 S1 p1
  obtain ⟨rfl, hR1, hU⟩ := und1 hR p1
  refine g_aload_n (pc := 487) C dL_law_487 rfl ?_
  refine cg_L_64 (pc := 488) C rfl (m_z hR1.1 rfl) (c_X12_undo w _ S1 hR1.1 z hR1.2.2.2.2.1.1 hR1.2.2.2.2.1.2.1) ⟨rfl, rfl⟩ ⟨by show n1 + 0 + 0 ≤ 600000; omega, by show n2 + 0 + 0 ≤ 7302250; omega⟩ rfl (Nat.le_of_ble_eq_true rfl) dL_law_488 ?_
  rintro v2 S2 p2
  obtain ⟨rfl, hI⟩ := und2 hC hR1 hU p2
  refine g_icmp_eq (pc := 491) C 1099 dL_law_491 rfl (fun _ => ?_) (fun cn => absurd rfl cn)
  exact k S2 _ _ (by show n1 + 0 + 0 ≤ n1 + 5; omega) (by show n2 + 0 + 0 ≤ n2 + 600; omega) hI
