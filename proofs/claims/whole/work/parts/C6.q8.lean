/-! ===== what a CROSSING's text gives ===== -/
def gdD (P : Nat) (D : Nat → Int32) : Prop := ((∃ a, a ≤ 99 ∧ D 1 = nI a) ∧ (∃ q, q ≤ 7 ∧ D 2 = nI q) ∧ ∃ f, f ≤ 20 ∧ D 3 = nI f) ∧ D 4 = nI P ∧ (∀ p, p < 7 → (∃ g, g ≤ 9 ∧ D (28 + p) = nI g) ∧ (∃ l, l ≤ 20 ∧ D (35 + p) = nI l) ∧ ∃ a, a ≤ 40 ∧ D (42 + p) = nI a) ∧ ∀ p, p < 7 → ∀ q, q < 7 → (∃ e, e ≤ 9 ∧ D (49 + 7 * p + q) = nI e) ∧ D (49 + 7 * p + q) = D (49 + 7 * q + p)
section
variable {T : Nat → Int32} {L n q P n' P' : Nat} {D D' : Nat → Int32}
theorem gd_ext (h : gdD P D) (e : ∀ t, 1 ≤ t → t < 98 → D' t = D t) : gdD P D' := by
  obtain ⟨⟨h1, h2, h3⟩, h4, h5, h6⟩ := h
  refine ⟨⟨by rw [e 1 (by omega) (by omega)]; exact h1, by rw [e 2 (by omega) (by omega)]; exact h2, by rw [e 3 (by omega) (by omega)]; exact h3⟩, by rw [e 4 (by omega) (by omega)]; exact h4, fun p hp => ?_, fun p hp q hq => ?_⟩
  · rw [e (28 + p) (by omega) (by omega), e (35 + p) (by omega) (by omega), e (42 + p) (by omega) (by omega)]; exact h5 p hp
  · rw [e (49 + 7 * p + q) (by omega) (by omega), e (49 + 7 * q + p) (by omega) (by omega)]; exact h6 p hp q hq
theorem gd_boat {a s f : Nat} (h : gdD P D) (ha : a ≤ 99) (hs : s ≤ 7) (hf : f ≤ 20) : gdD P (upd (upd (upd (upd D 1 (nI a)) 2 (nI s)) 3 (nI f)) 0 (nI 1)) := by
  refine gd_ext (D := upd (upd (upd D 1 (nI a)) 2 (nI s)) 3 (nI f)) ?_ (fun t h1 _ => pk_un (by omega))
  obtain ⟨⟨h1, h2, h3⟩, h4, h5, h6⟩ := h
  refine ⟨⟨⟨a, ha, by rw [pk_un (by omega), pk_un (by omega), pk_us]⟩, ⟨s, hs, by rw [pk_un (by omega), pk_us]⟩, f, hf, pk_us⟩, by rw [pk_un (by omega), pk_un (by omega), pk_un (by omega)]; exact h4, fun p hp => ?_, fun p hp q hq => ?_⟩
  · have e : ∀ t, 28 ≤ t → upd (upd (upd D 1 (nI a)) 2 (nI s)) 3 (nI f) t = D t := fun t ht => by rw [pk_un (by omega), pk_un (by omega), pk_un (by omega)]
    rw [e _ (by omega), e _ (by omega), e _ (by omega)]; exact h5 p hp
  · have e : ∀ t, 28 ≤ t → upd (upd (upd D 1 (nI a)) 2 (nI s)) 3 (nI f) t = D t := fun t ht => by rw [pk_un (by omega), pk_un (by omega), pk_un (by omega)]
    rw [e _ (by omega), e _ (by omega)]; exact h6 p hp q hq
theorem gd_cell {i : Nat} {v : Int32} (h : gdD P D) (hi : 28 ≤ i ∧ i < 49) (hv : ∀ p, p < 7 → (i = 28 + p → ∃ g, g ≤ 9 ∧ v = nI g) ∧ (i = 35 + p → ∃ l, l ≤ 20 ∧ v = nI l) ∧ (i = 42 + p → ∃ a, a ≤ 40 ∧ v = nI a)) : gdD P (upd D i v) := by
  obtain ⟨⟨h1, h2, h3⟩, h4, h5, h6⟩ := h
  refine ⟨⟨by rw [pk_un (by omega)]; exact h1, by rw [pk_un (by omega)]; exact h2, by rw [pk_un (by omega)]; exact h3⟩, by rw [pk_un (by omega)]; exact h4, fun p hp => ⟨?_, ?_, ?_⟩, fun p hp q hq => by rw [pk_un (by omega), pk_un (by omega)]; exact h6 p hp q hq⟩
  · by_cases e : i = 28 + p
    · rw [e, pk_us]; exact (hv p hp).1 e
    · rw [pk_un (Ne.symm e)]; exact (h5 p hp).1
  · by_cases e : i = 35 + p
    · rw [e, pk_us]; exact (hv p hp).2.1 e
    · rw [pk_un (Ne.symm e)]; exact (h5 p hp).2.1
  · by_cases e : i = 42 + p
    · rw [e, pk_us]; exact (hv p hp).2.2 e
    · rw [pk_un (Ne.symm e)]; exact (h5 p hp).2.2
theorem gd_4 (h : gdD P D) : gdD P' (upd D 4 (nI P')) := by
  obtain ⟨⟨h1, h2, h3⟩, h4, h5, h6⟩ := h
  exact ⟨⟨by rw [pk_un (by omega)]; exact h1, by rw [pk_un (by omega)]; exact h2, by rw [pk_un (by omega)]; exact h3⟩, pk_us, fun p hp => by rw [pk_un (by omega), pk_un (by omega), pk_un (by omega)]; exact h5 p hp, fun p hp q hq => by rw [pk_un (by omega), pk_un (by omega)]; exact h6 p hp q hq⟩
theorem gd_bes {a b v : Nat} (h : gdD P D) (ha : a < 7) (hb : b < 7) (hv : v ≤ 9) : gdD P (upd (upd D (49 + 7 * a + b) (nI v)) (49 + 7 * b + a) (nI v)) := by
  obtain ⟨⟨h1, h2, h3⟩, h4, h5, h6⟩ := h
  have lo : ∀ t, t < 49 → upd (upd D (49 + 7 * a + b) (nI v)) (49 + 7 * b + a) (nI v) t = D t := fun t ht => by rw [pk_un (by omega), pk_un (by omega)]
  have at1 : upd (upd D (49 + 7 * a + b) (nI v)) (49 + 7 * b + a) (nI v) (49 + 7 * a + b) = nI v := by
    by_cases e : 49 + 7 * a + b = 49 + 7 * b + a
    · rw [e, pk_us]
    · rw [pk_un e, pk_us]
  have at2 : upd (upd D (49 + 7 * a + b) (nI v)) (49 + 7 * b + a) (nI v) (49 + 7 * b + a) = nI v := pk_us
  have off : ∀ p q, p < 7 → q < 7 → ¬ (p = a ∧ q = b) → ¬ (p = b ∧ q = a) → upd (upd D (49 + 7 * a + b) (nI v)) (49 + 7 * b + a) (nI v) (49 + 7 * p + q) = D (49 + 7 * p + q) := fun p q hp hq g1 g2 => by rw [pk_un (by omega), pk_un (by omega)]
  generalize upd (upd D (49 + 7 * a + b) (nI v)) (49 + 7 * b + a) (nI v) = E at *
  refine ⟨⟨by rw [lo 1 (by omega)]; exact h1, by rw [lo 2 (by omega)]; exact h2, by rw [lo 3 (by omega)]; exact h3⟩, by rw [lo 4 (by omega)]; exact h4, fun p hp => by rw [lo _ (by omega), lo _ (by omega), lo _ (by omega)]; exact h5 p hp, fun p hp q hq => ?_⟩
  by_cases g1 : p = a ∧ q = b
  · obtain ⟨rfl, rfl⟩ := g1
    rw [at1, at2]; exact ⟨⟨v, hv, rfl⟩, rfl⟩
  · by_cases g2 : p = b ∧ q = a
    · obtain ⟨rfl, rfl⟩ := g2
      rw [at1, at2]; exact ⟨⟨v, hv, rfl⟩, rfl⟩
    · rw [off p q hp hq g1 g2, off q p hq hp (fun g => g2 ⟨g.2, g.1⟩) (fun g => g1 ⟨g.2, g.1⟩)]
      exact h6 p hp q hq
theorem line_gd (hn : q ≤ L) (hP : P ≤ 7) (h : gdD P D) (e : lineF T L q P D = .ok (n', P', D')) : gdD P' D' := by
  have hq := lt_le (T := T) hn
  unfold lineF at e
  split at e
  · unfold boatF at e
    split at e
    · cases e
    · cases h1 : cellF T L P (nI 0) (nI 99) 1 (ltN T L q) D with
      | error f => rw [h1] at e; cases e
      | ok p1 =>
        obtain ⟨n1, P1, D1⟩ := p1
        rw [h1] at e
        obtain ⟨a1, a2, rfl, x1, rfl, b1, b2⟩ := cell_ok h1 hq.2
        cases h2 : cellF T L P1 (nI 1) (nI 7) 2 n1 (upd D 1 x1) with
        | error f => simp only [h2] at e; cases e
        | ok p2 =>
          obtain ⟨n2, P2, D2⟩ := p2
          simp only [h2] at e
          obtain ⟨a3, a4, rfl, x2, rfl, b3, b4⟩ := cell_ok h2 a2
          cases h3 : cellF T L P2 (nI 0) (nI 20) 3 n2 (upd (upd D 1 x1) 2 x2) with
          | error f => simp only [h3] at e; cases e
          | ok p3 =>
            obtain ⟨n3, P3, D3⟩ := p3
            simp only [h3] at e
            obtain ⟨a5, a6, rfl, x3, rfl, b5, b6⟩ := cell_ok h3 a4
            cases e
            obtain ⟨y1, z1, rfl⟩ := nat_of (by omega) ⟨b1, b2⟩
            obtain ⟨y2, z2, rfl⟩ := nat_of (by omega) ⟨Int32.le_trans (by decide) b3, b4⟩
            obtain ⟨y3, z3, rfl⟩ := nat_of (by omega) ⟨b5, b6⟩
            exact gd_boat h z1 z2 z3
  · split at e
    · cases e
    · split at e
      · unfold persF at e
        split at e
        · cases e
        · cases h1 : cellF T L P (nI 0) (nI 40) (42 + P) (ltN T L q) D with
          | error f => rw [h1] at e; cases e
          | ok p1 =>
            obtain ⟨n1, P1, D1⟩ := p1
            rw [h1] at e
            obtain ⟨a1, a2, rfl, x1, rfl, b1, b2⟩ := cell_ok h1 hq.2
            cases h2 : cellF T L P1 (nI 0) (nI 9) (28 + P1) n1 (upd D (42 + P1) x1) with
            | error f => simp only [h2] at e; cases e
            | ok p2 =>
              obtain ⟨n2, P2, D2⟩ := p2
              simp only [h2] at e
              obtain ⟨a3, a4, rfl, x2, rfl, b3, b4⟩ := cell_ok h2 a2
              cases e
              obtain ⟨y1, z1, rfl⟩ := nat_of (by omega) ⟨b1, b2⟩
              obtain ⟨y2, z2, rfl⟩ := nat_of (by omega) ⟨b3, b4⟩
              refine gd_4 (gd_cell (gd_cell h (by omega) (fun p hp => ⟨fun g => by omega, fun g => by omega, fun _ => ⟨y1, z1, rfl⟩⟩)) (by omega) (fun p hp => ⟨fun _ => ⟨y2, z2, rfl⟩, fun g => by omega, fun g => by omega⟩))
      · split at e
        · unfold corkF at e
          split at e
          · cases e
          · cases h1 : cellF T L P (nI 1) (nI 20) (35 + P) (ltN T L q) D with
            | error f => rw [h1] at e; cases e
            | ok p1 =>
              obtain ⟨n1, P1, D1⟩ := p1
              rw [h1] at e
              obtain ⟨a1, a2, rfl, x1, rfl, b1, b2⟩ := cell_ok h1 hq.2
              cases e
              obtain ⟨y1, z1, rfl⟩ := nat_of (by omega) ⟨Int32.le_trans (by decide) b1, b2⟩
              exact gd_4 (gd_cell h (by omega) (fun p hp => ⟨fun g => by omega, fun _ => ⟨y1, z1, rfl⟩, fun g => by omega⟩))
        · split at e
          · unfold besF at e
            cases h1 : numF T L (ltN T L q) (nI 0) (nI P - nI 1) with
            | error f => rw [h1] at e; cases e
            | ok p1 =>
              obtain ⟨n1, x1⟩ := p1
              rw [h1] at e
              obtain ⟨a1, a2, b1, b2⟩ := num_ok h1 hq.2
              cases h2 : numF T L n1 (nI 0) (nI P - nI 1) with
              | error f => simp only [h2] at e; cases e
              | ok p2 =>
                obtain ⟨n2, x2⟩ := p2
                simp only [h2] at e
                obtain ⟨a3, a4, b3, b4⟩ := num_ok h2 a2
                split at e
                · cases e
                · cases h3 : numF T L n2 (nI 0) (nI 9) with
                  | error f => simp only [h3] at e; cases e
                  | ok p3 =>
                    obtain ⟨n3, x3⟩ := p3
                    simp only [h3] at e
                    obtain ⟨a5, a6, b5, b6⟩ := num_ok h3 a4
                    cases e
                    obtain ⟨y1, z1, rfl⟩ := bes_of hP b1 b2
                    obtain ⟨y2, z2, rfl⟩ := bes_of hP b3 b4
                    obtain ⟨y3, z3, rfl⟩ := nat_of (by omega) ⟨b5, b6⟩
                    rw [nI_clamp (by omega), nI_clamp (by omega)]
                    exact gd_bes h (by omega) (by omega) z3
          · unfold fgF at e
            cases h1 : numF T L (ltN T L q) (nI 0) (nI 60) with
            | error f => rw [h1] at e; cases e
            | ok p1 =>
              obtain ⟨n1, x1⟩ := p1
              rw [h1] at e
              obtain ⟨a1, a2, b1, b2⟩ := num_ok h1 hq.2
              cases e
              exact gd_ext h (fun t t1 t2 => pk_un (by omega))
theorem rdC_gd : ∀ d n c P D, n ≤ L → P ≤ 7 → c ≤ 40 → gdD P D → ((c = 0 ∧ D 0 = nI 0) ∨ (0 < c ∧ D 0 = nI 1)) → rdC T L d n c P D = .ok (P', D') → P' ≤ 7 ∧ gdD P' D' ∧ D' 0 = nI 1 := by
  intro d
  induction d with
  | zero => intro n c P D _ _ _ _ _ h; cases h
  | succ d ih =>
    intro n c P D hn hP hc hg h0 h
    have hs := sk_L (T := T) hn
    have ho := clsC_ok (T := T) (L := L) (n := n) (c := c) (P := P) (D := D) hn hP
    have hz := fun n' P' D' => cls_0 (T := T) (L := L) (n := n) (c := c) (P := P) (D := D) (n' := n') (P' := P') (D' := D') hc h0
    have hG : ∀ n' P' D', clsC T L n c P D = .ok (n', P', D') → gdD P' D' ∧ c < 40 := fun n' P' D' e => by
      unfold clsC at e
      split at e
      · split at e
        · cases e
        · exact ⟨line_gd hs hP hg e, by omega⟩
      · cases e
    have hr : rdC T L (d + 1) n c P D = match clsC T L n c P D with
      | .error f => .error f
      | .ok (n', P', D') => if seeV T L (skN T L n') = nI 59 then rdC T L d (skN T L n' + 1) (c + 1) P' D' else if seeV T L (skN T L n') = -1 then .ok (P', D') else .error (ftN 0 (skN T L n')) := rfl
    rw [hr] at h
    cases e : clsC T L n c P D with
    | error f => rw [e] at h; cases h
    | ok p =>
      obtain ⟨n1, P1, D1⟩ := p
      rw [e] at h ho
      obtain ⟨g1, g2⟩ := hG _ _ _ e
      have g3 := hz _ _ _ e
      obtain ⟨o1, o2, o3⟩ := ho
      simp only at h
      split at h
      · next e59 =>
        have hlt : skN T L n1 < L := by
          unfold seeV at e59
          split at e59
          · assumption
          · exact absurd e59 (by decide)
        exact ih _ _ _ _ (by omega) (by omega) (by omega) g1 (Or.inr ⟨by omega, g3⟩) h
      · split at h
        · cases h
          exact ⟨by omega, g1, g3⟩
        · cases h
theorem gd_0 (h : ∀ i, i < 159 → D i = nI 0) : gdD 0 D := ⟨⟨⟨0, by omega, h _ (by omega)⟩, ⟨0, by omega, h _ (by omega)⟩, 0, by omega, h _ (by omega)⟩, h _ (by omega), fun p hp => ⟨⟨0, by omega, h _ (by omega)⟩, ⟨0, by omega, h _ (by omega)⟩, 0, by omega, h _ (by omega)⟩, fun p hp q hq => ⟨⟨0, by omega, h _ (by omega)⟩, by rw [h _ (by omega), h _ (by omega)]⟩⟩
end
