/-! ===== cells are made: what was there stays ===== -/
def eqN (S T : St) : Prop := s_z S ≤ s_z T ∧ ∀ k, okK S k → (s_k T k = s_k S k ∧ s_n T k = s_n S k) ∧ (∀ f, s_I T f k = s_I S f k) ∧ (∀ f, s_L T f k = s_L S f k) ∧ (∀ f, s_R T f k = s_R S f k) ∧ s_A T k = s_A S k ∧ s_B T k = s_B S k ∧ s_Q T k = s_Q S k
theorem okK.up {S T : St} {k : Nat} (h : okK S k) (hz : s_z S ≤ s_z T) : okK T k := ⟨Nat.le_trans h.1 hz, h.2.imp id (Or.imp id (fun q => ⟨q.1, Nat.lt_of_lt_of_le q.2 hz⟩))⟩
theorem ok5 {S : St} {k : Nat} (hz : 121 ≤ s_z S) (h : k < 95) : okK S k := ⟨hz, Or.inl h⟩
section
variable {S T U : St}
theorem eqN.refl : eqN S S := ⟨Nat.le_refl _, fun _ _ => ⟨⟨rfl, rfl⟩, fun _ => rfl, fun _ => rfl, fun _ => rfl, rfl, rfl, rfl⟩⟩
theorem eqN.z (e : eqN S T) (h : 121 ≤ s_z S) : 121 ≤ s_z T := Nat.le_trans h e.1
theorem eqN.o (e : eqN S T) {k kd : Nat} (g : gx_o S k kd) : gx_o T k kd := ⟨(e.2 k g.2).1.1.trans g.1, g.2.up e.1⟩
theorem eqN.a (e : eqN S T) {k kd n : Nat} (g : gx_a S k kd n) : gx_a T k kd n := ⟨(e.2 k g.2.2).1.1.trans g.1, (e.2 k g.2.2).1.2.trans g.2.1, g.2.2.up e.1⟩
theorem eqN.I (e : eqN S T) {f k : Nat} (h : okK S k) : s_I T f k = s_I S f k := (e.2 k h).2.1 f
theorem eqN.L (e : eqN S T) {f k : Nat} (h : okK S k) : s_L T f k = s_L S f k := (e.2 k h).2.2.1 f
theorem eqN.R (e : eqN S T) {f k : Nat} (h : okK S k) : s_R T f k = s_R S f k := (e.2 k h).2.2.2.1 f
theorem eqN.A (e : eqN S T) {k : Nat} (h : okK S k) : s_A T k = s_A S k := (e.2 k h).2.2.2.2.1
theorem eqN.B (e : eqN S T) {k : Nat} (h : okK S k) : s_B T k = s_B S k := (e.2 k h).2.2.2.2.2.1
theorem eqN.Q (e : eqN S T) {k : Nat} (h : okK S k) : s_Q T k = s_Q S k := (e.2 k h).2.2.2.2.2.2
theorem eqN.new {kd n : Nat} : eqN S (s_new S kd n) := ⟨by rw [nw_z]; omega, fun k hk => by
  have h := ok_ne hk
  exact ⟨⟨nw_k h, nw_n h⟩, fun _ => nw_I h, fun _ => nw_L h, fun _ => nw_R h, nw_A h, nw_B h, nw_Q h⟩⟩
theorem eqN.trans (e : eqN S T) (g : eqN T U) : eqN S U := ⟨Nat.le_trans e.1 g.1, fun k hk => by
  obtain ⟨⟨a1, a2⟩, a3, a4, a5, a6, a7, a8⟩ := e.2 k hk
  obtain ⟨⟨b1, b2⟩, b3, b4, b5, b6, b7, b8⟩ := g.2 k (hk.up e.1)
  exact ⟨⟨b1.trans a1, b2.trans a2⟩, fun f => (b3 f).trans (a3 f), fun f => (b4 f).trans (a4 f), fun f => (b5 f).trans (a5 f), b6.trans a6, b7.trans a7, b8.trans a8⟩⟩
theorem eqN.set {D : Nat → Prop} (e : eqN S T) (g : eqO D T U) (hD : ∀ k, okK S k → ¬ D k) : eqN S U := ⟨by rw [g.1]; exact e.1, fun k hk => by
  obtain ⟨⟨a1, a2⟩, a3, a4, a5, a6, a7, a8⟩ := e.2 k hk
  have hd := hD k hk
  exact ⟨⟨(g.2.1 k).trans a1, (g.2.2.1 k).trans a2⟩, fun f => (g.I hd).trans (a3 f), fun f => (g.L hd).trans (a4 f), fun f => (g.R hd).trans (a5 f), (g.A hd).trans a6, (g.B hd).trans a7, (g.Q hd).trans a8⟩⟩
theorem crK.nw {c ca cg cl ce : Nat} (g : crK S c ca cg cl ce) (e : eqN S T) : crK T c ca cg cl ce := ⟨e.o g.1, (e.R g.1.2).trans g.2.1, e.a g.2.2.1, (e.R g.1.2).trans g.2.2.2.1, e.a g.2.2.2.2.1, (e.R g.1.2).trans g.2.2.2.2.2.1, e.a g.2.2.2.2.2.2.1, (e.R g.1.2).trans g.2.2.2.2.2.2.2.1, e.a g.2.2.2.2.2.2.2.2⟩
theorem crS.nw {c ca cg cl ce P : Nat} {u : Nat → Int32} (g : crS S c ca cg cl ce P u) (e : eqN S T) : crS T c ca cg cl ce P u := by
  obtain ⟨k, v, hP⟩ := g
  have o0 := k.1.2
  have o1 := k.2.2.1.2.2
  have o2 := k.2.2.2.2.1.2.2
  have o3 := k.2.2.2.2.2.2.1.2.2
  have o4 := k.2.2.2.2.2.2.2.2.2.2
  refine ⟨k.nw e, ?_, hP⟩
  unfold crV at v ⊢
  rw [e.I o0, e.I o0, e.I o0, e.I o0, e.I o0, e.L o0, e.A o1, e.A o2, e.A o3, e.A o4]
  exact v
theorem rvK.nw {r ra : Nat} (g : rvK S r ra) (e : eqN S T) : rvK T r ra := ⟨e.o g.1, (e.R g.1.2).trans g.2.1, e.a g.2.2⟩
theorem rvS.nw {r ra P : Nat} {u : Nat → Int32} (g : rvS S r ra P u) (e : eqN S T) : rvS T r ra P u := by
  obtain ⟨k, v, hs⟩ := g
  refine ⟨k.nw e, ?_, hs⟩
  unfold rvV at v ⊢
  rw [e.I k.1.2, e.I k.1.2, e.I k.1.2, e.I k.1.2, e.I k.1.2, e.A k.2.2.2.2]
  exact v
theorem scK.nw {s r ra no : Nat} (h : scK S s r ra no) (e : eqN S T) : scK T s r ra no := ⟨e.o h.1, (e.R h.1.2).trans h.2.1, (e.R h.1.2).trans h.2.2.1, e.a h.2.2.2.1, h.2.2.2.2.nw e⟩
theorem noS.nw {s no P m : Nat} {u : Nat → Int32} (h : noS S s no P m u) (e : eqN S T) (h1 : okK S s) (h2 : okK S no) : noS T s no P m u := by
  unfold noS at h ⊢
  rw [e.I h1, e.A h2]
  exact h
theorem plK.nw {pl kw ks : Nat} (h : plK S pl kw ks) (e : eqN S T) : plK T pl kw ks := ⟨e.o h.1, (e.R h.1.2).trans h.2.1, e.a h.2.2.1, (e.R h.1.2).trans h.2.2.2.1, e.a h.2.2.2.2.1, h.2.2.2.2.2⟩
theorem ftK.nw (h : ftK S) (e : eqN S T) : ftK T := by
  have o : okK S 82 := ok5 h.1 (by decide)
  exact ⟨e.z h.1, (e.R o).trans h.2.1, (e.R o).trans h.2.2.1, (e.R o).trans h.2.2.2.1, (e.R o).trans h.2.2.2.2.1, h.2.2.2.2.2.1.nw e, h.2.2.2.2.2.2.nw e⟩
theorem pzK.nw (h : pzK S) (e : eqN S T) : pzK T := by
  have o : okK S 74 := ok5 h.1 (by decide)
  exact ⟨e.z h.1, (e.R o).trans h.2.1, (e.R o).trans h.2.2.1, (e.R o).trans h.2.2.2.1, (e.R o).trans h.2.2.2.2.1, (e.R o).trans h.2.2.2.2.2.1, (e.R o).trans h.2.2.2.2.2.2.1, h.2.2.2.2.2.2.2.nw e⟩
theorem nwS.nw {c ca cg cl ce P : Nat} {u : Nat → Int32} (h : nwS S c ca cg cl ce P u) (e : eqN S T) : nwS T c ca cg cl ce P u := by
  have o : okK S 7 := ok5 h.1 (by decide)
  exact ⟨e.z h.1, (e.R o).trans h.2.1, (e.R o).trans h.2.2.1, h.2.2.2.1.nw e, h.2.2.2.2.1, h.2.2.2.2.2.nw e⟩
theorem afK.nw (h : afK S) (e : eqN S T) : afK T := by
  have o : okK S 0 := ok5 h.1 (by decide)
  have o3 : okK S 33 := ok5 h.1 (by decide)
  refine ⟨e.z h.1, (e.R o).trans h.2.1, (e.R o).trans h.2.2.1, (e.R o).trans h.2.2.2.1, (e.R o).trans h.2.2.2.2.1, (e.R o).trans h.2.2.2.2.2.1, (e.R o).trans h.2.2.2.2.2.2.1, (e.R o).trans h.2.2.2.2.2.2.2.1, fun k hk => ?_⟩
  obtain ⟨q1, q2⟩ := h.2.2.2.2.2.2.2.2 k hk
  exact ⟨by rw [e.Q o3]; exact q1, q2.nw e⟩
theorem rcS.nw {k kc : Nat} {cs : List CL} (g : rcS S k kc cs) (e : eqN S T) : rcS T k kc cs := ⟨e.o g.1, (e.R g.1.2).trans g.2.1, e.a g.2.2.1, g.2.2.2.1, by rw [e.A g.2.2.1.2.2]; exact g.2.2.2.2.1, g.2.2.2.2.2⟩
theorem frC2.nw {ro : Option Nat} {fr : Option ((Nat → Int64) → Int64)} (g : frC2 S ro fr) (e : eqN S T) : frC2 T ro fr := by
  cases ro with
  | none => exact g
  | some rk =>
    obtain ⟨kc, cs, h1, h2, h3, h4⟩ := g
    exact ⟨kc, cs, h1.nw e, h2, h3, h4⟩
theorem rlS.nw {nr : Nat} {Fs : Nat → (Nat → Int64) → Int64} (h : rlS S nr Fs) (e : eqN S T) : rlS T nr Fs := ⟨e.a h.1, h.2.1, fun r hr => by rw [e.Q h.1.2.2]; exact (h.2.2 r hr).nw e⟩
theorem aK.nn {c ca cg cl ce P H m nr : Nat} {u : Nat → Int32} {f x : Int32} {Fs : Nat → (Nat → Int64) → Int64} (h : aK S c ca cg cl ce P H m nr u f x Fs) (e : eqN S T) : aK T c ca cg cl ce P H m nr u f x Fs := by
  have hz := (aK.af h).1
  have o : ∀ k, k < 95 → okK S k := fun k hk => ok5 hz hk
  exact ⟨⟨(aK.af h).nw e, (aK.nw h).nw e, (aK.sc h).nw e, (aK.ft h).nw e, (aK.pz h).nw e⟩, (aK.no h).nw e (o _ (by decide)) (o _ (by decide)), h.2.2.1, h.2.2.2.1, h.2.2.2.2.1, ⟨(aK.rls h).nw e, (e.I (o _ (by decide))).trans (aK.nrv h)⟩, ⟨(e.I (o _ (by decide))).trans (aK.fv h), aK.fok h⟩, (e.I (o _ (by decide))).trans (aK.xv h), aK.x0 h⟩
theorem pastS.nw {z j P : Nat} {W : Nat → Nat → Int32} (h : pastS S z j P W) (e : eqN S T) (hz : 121 ≤ s_z S) : pastS T z j P W := by
  have o : okK S 0 := ok5 hz (by decide)
  refine ⟨⟨(e.I o).trans h.1.1, h.1.2.1, (e.I o).trans h.1.2.2.1, h.1.2.2.2⟩, fun i hi => (h.2 i hi).nw e⟩
theorem imK.nw (h : imK S) (e : eqN S T) (hz : 121 ≤ s_z S) : imK T := fun k hk => ⟨by rw [e.Q (ok5 hz (by decide))]; exact (h k hk).1, (h k hk).2.nw e⟩
theorem tpK.nw {n : Nat} (h : tpK S n) (e : eqN S T) : tpK T n := ⟨e.z h.1, (e.R (ok5 h.1 (by decide))).trans h.2.1, (e.I (ok5 h.1 (by decide))).trans h.2.2.1, h.2.2.2⟩
end
