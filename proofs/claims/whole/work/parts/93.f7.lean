/-! ===== what is thrown: both sides find the least ===== -/
theorem ff_spec {ok : Nat → Bool} : ∀ d i, (∃ k, i ≤ k ∧ k < i + d ∧ ok k = true ∧ (∀ j, i ≤ j → j < k → ¬ ok j = true) ∧ ffF ok d i = nI k) ∨ ((∀ k, i ≤ k → k < i + d → ¬ ok k = true) ∧ ffF ok d i = -2)
  | 0, i => Or.inr ⟨fun k h1 h2 => absurd h2 (by omega), rfl⟩
  | d + 1, i => by
    simp only [ffF]
    by_cases c : ok i = true
    · rw [if_pos c]
      exact Or.inl ⟨i, Nat.le_refl i, by omega, c, fun j h1 h2 => absurd h2 (by omega), rfl⟩
    · rw [if_neg c]
      rcases ff_spec (ok := ok) d (i + 1) with ⟨k, h1, h2, h3, h4, h5⟩ | ⟨h1, h2⟩
      · refine Or.inl ⟨k, by omega, by omega, h3, fun j j1 j2 => ?_, h5⟩
        by_cases e : j = i
        · subst e; exact c
        · exact h4 j (by omega) j2
      · refine Or.inr ⟨fun k k1 k2 => ?_, h2⟩
        by_cases e : k = i
        · subst e; exact c
        · exact h1 k (by omega) (by omega)
theorem co_le {A : Nat → Nat} {s P : Nat} {x : Nat → Nat} (hA : ∀ p, p < P → A p ≤ 99) (hx : ∀ p, x p ≤ A p) : ∀ n, n ≤ P → hS (coN s x) n ≤ 99 * n
  | 0, _ => Nat.le_refl 0
  | n + 1, hn => by
    have ih := co_le (s := s) hA hx n (by omega)
    have h1 := hA n (by omega)
    have h2 := hx n
    have : coN s x n ≤ 99 := by
      unfold coN
      split <;> omega
    show hS _ n + _ ≤ _
    omega
theorem lg_least {A R : Nat → Nat} {s P : Nat} (hP : P ≤ 7) (hA : ∀ p, p < P → A p ≤ 99) {need : Int} {ok : Nat → Bool} (hok : ∀ k, k < 700 → (ok k = true ↔ ∃ x : Nat → Nat, (∀ p, x p ≤ A p) ∧ hS (coN s x) P = k ∧ need ≤ (hS (reN A R s x) P : Nat))) : ffF ok 700 0 = if need ≤ 0 then nI 0 else if lfF A (fun p => grN R p (A p)) R s P P need 0 0 < 1000000 then nI (lfF A (fun p => grN R p (A p)) R s P P need 0 0) else -2 := by
  have tt : ∀ f : Nat → Nat, tS f P P = hS f P := fun f => by
    have := hS_tS (f := f) (P := P) P (Nat.le_refl P)
    rw [Nat.sub_self] at this
    have e : hS f 0 = 0 := rfl
    omega
  have lb : ∀ x : Nat → Nat, (∀ p, x p ≤ A p) → need ≤ (hS (reN A R s x) P : Nat) → lfF A (fun p => grN R p (A p)) R s P P need 0 0 ≤ hS (coN s x) P := fun x hx hn => by
    have c := co_le (s := s) hA hx P (Nat.le_refl P)
    have := lf_lb (A := A) (R := R) (s := s) (P := P) hA (fun p _ => hx p) P need 0 0 0 (Nat.le_refl P) (Nat.le_refl 0) (by rw [tt]; omega) (by rw [tt]; omega)
    rw [tt] at this
    omega
  have ex : lfF A (fun p => grN R p (A p)) R s P P need 0 0 < 1000000 → ∃ x : Nat → Nat, (∀ p, x p ≤ A p) ∧ hS (coN s x) P = lfF A (fun p => grN R p (A p)) R s P P need 0 0 ∧ need ≤ (hS (reN A R s x) P : Nat) := fun hlt => by
    obtain ⟨x, y, h1, h2, h3, h4⟩ := lf_ex (A := A) (R := R) (s := s) (P := P) hA P need 0 0 (Nat.le_refl P) hlt
    rw [tt] at h3 h4
    exact ⟨x, h1, by omega, by omega⟩
  generalize lfF A (fun p => grN R p (A p)) R s P P need 0 0 = L at lb ex ⊢
  have h0 : need ≤ 0 → ok 0 = true := fun hn => (hok 0 (by omega)).mpr ⟨fun _ => 0, fun _ => Nat.zero_le _, by
    have : ∀ n, hS (coN s (fun _ => 0)) n = 0 := fun n => by
      induction n with
      | zero => rfl
      | succ n ih =>
        show hS _ n + coN s (fun _ => 0) n = 0
        rw [ih]
        unfold coN
        split <;> rfl
    exact this P, by omega⟩
  rcases ff_spec (ok := ok) 700 0 with ⟨k, -, k2, k3, k4, k5⟩ | ⟨k1, k2⟩
  · rw [k5]
    obtain ⟨x, hx, hc, hn⟩ := (hok k (by omega)).mp k3
    by_cases q : need ≤ 0
    · rw [if_pos q]
      by_cases e : k = 0
      · rw [e]
      · exact absurd (h0 q) (k4 0 (by omega) (by omega))
    · rw [if_neg q]
      have hL := lb x hx hn
      rw [if_pos (by omega)]
      obtain ⟨x2, y1, y2, y3⟩ := ex (by omega)
      by_cases e : L < k
      · exact absurd ((hok L (by omega)).mpr ⟨x2, y1, y2, y3⟩) (k4 L (by omega) e)
      · congr 1; omega
  · rw [k2]
    by_cases q : need ≤ 0
    · exact absurd (h0 q) (k1 0 (by omega) (by omega))
    · rw [if_neg q]
      by_cases c : L < 1000000
      · obtain ⟨x, y1, y2, y3⟩ := ex c
        have := co_le (s := s) hA y1 P (Nat.le_refl P)
        exact absurd ((hok L (by omega)).mpr ⟨x, y1, y2, y3⟩) (k1 L (by omega) (by omega))
      · rw [if_neg c]
theorem grown_gr {u : Nat → Int32} {R : Nat → Nat} {p a : Nat} (hR : u (28 + p) = nI (R p)) (h9 : R p ≤ 9) (ha : a ≤ 99) : grownF u p (nI a) = nI (grN R p a) := by
  unfold grownF grN atMostF
  by_cases c : a = 0
  · subst c; rw [if_pos rfl, if_pos (by decide)]
  · rw [if_neg c, if_neg (fun q => c (by have := (nI_leI (b := 0) (by omega) (by omega)).mp q; omega)), hR, nI_add]
    by_cases c2 : nI (a + R p) ≤ nI 99
    · have := (nI_leI (by omega) (by omega)).mp c2
      rw [if_pos c2]; congr 1; omega
    · have : ¬ a + R p ≤ 99 := fun q => c2 (nI_le q (by omega))
      rw [if_neg c2]; congr 1; omega
theorem lgF_tb {u : Nat → Int32} {A R : Nat → Nat} {s P : Nat} {M W : Nat → Int32} (hP : P ≤ 7) (h : ∀ p, p < P → u (14 + p) = nI (A p) ∧ A p ≤ 99 ∧ u (28 + p) = nI (R p) ∧ R p ≤ 9) : ∀ n, n ≤ P → tbP A R s n (lgF u s (lg0 M 700, W) n).1
  | 0, _ => tb_0
  | n + 1, hn => by
    have ih := lgF_tb (s := s) (M := M) (W := W) hP h n (by omega)
    obtain ⟨h1, h2, h3, h4⟩ := h n (by omega)
    simp only [lgF]
    by_cases c : s.testBit n = true
    · rw [if_pos c, h1]
      refine tb_y (W := (lgF u s (lg0 M 700, W) n).2) ih (by omega) c h2 (fun t ht => ?_)
      rw [pk_sub ht]
      exact grown_gr h3 h4 (by omega)
    · rw [if_neg c]; exact tb_n ih c
