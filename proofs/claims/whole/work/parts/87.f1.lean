/-! ===== THE CLASS: Puzzles: the fewest crossings ===== -/
theorem sub_rev : ∀ P, P < 8 → ∀ f, f < 2 ^ P → ∀ s, s < 2 ^ P → (s ||| f = f ↔ s ||| ((2 ^ P - 1) - ((2 ^ P - 1) &&& (f ^^^ s))) = (2 ^ P - 1) - ((2 ^ P - 1) &&& (f ^^^ s))) ∧ f ^^^ s < 2 ^ P ∧ f ^^^ s ^^^ s = f := by decide +kernel
theorem pl_th {P t s : Nat} (hP : P ≤ 7) (ht : dmP (2 ^ P - 1) t) (hs : s < 2 ^ P) : s ||| plTh P t = plTh P t ↔ s ||| plTh P (128 * (1 - t / 128) + (t % 128 ^^^ s)) = plTh P (128 * (1 - t / 128) + (t % 128 ^^^ s)) := by
  have h2 := p128 hP
  have hd : t / 128 = 0 ∨ t / 128 = 1 := by have := ht.1; omega
  have hf : t % 128 < 2 ^ P := by have := ht.2; omega
  obtain ⟨r1, r2, r3⟩ := sub_rev P (by omega) (t % 128) hf s hs
  have e1 : (128 * (1 - t / 128) + (t % 128 ^^^ s)) / 128 = 1 - t / 128 := by omega
  have e2 : (128 * (1 - t / 128) + (t % 128 ^^^ s)) % 128 = t % 128 ^^^ s := by omega
  unfold plTh
  rw [e1, e2]
  rcases hd with h | h
  · rw [h, if_neg (by omega), if_pos rfl]
    obtain ⟨q1, -, -⟩ := sub_rev P (by omega) (t % 128 ^^^ s) r2 s hs
    rw [r3] at q1
    exact q1.symm
  · rw [h, if_pos rfl, if_neg (by omega)]
    exact r1
theorem pl_some {P s j t : Nat} {V : Nat → Int32} (hP : P ≤ 7) (hj : dmP (2 ^ P - 1) j) (hs : s < 2 ^ P) (h : plF P V j s = some t) : dmP (2 ^ P - 1) t ∧ j = 128 * (1 - t / 128) + (t % 128 ^^^ s) ∧ s ||| plTh P t = plTh P t ∧ ¬ V (128 * (1 - t / 128) + s) = 0 := by
  have h2 := p128 hP
  have hf : j % 128 < 2 ^ P := by have := hj.2; omega
  have hd : j / 128 = 0 ∨ j / 128 = 1 := by have := hj.1; omega
  obtain ⟨r1, r2, r3⟩ := sub_rev P (by omega) (j % 128) hf s hs
  unfold plF at h
  by_cases c : s ||| plTh P j = plTh P j ∧ ¬ V (128 * (j / 128) + s) = 0
  · rw [if_pos c] at h
    cases h
    have e1 : (128 * (1 - j / 128) + (j % 128 ^^^ s)) / 128 = 1 - j / 128 := by omega
    have e2 : (128 * (1 - j / 128) + (j % 128 ^^^ s)) % 128 = j % 128 ^^^ s := by omega
    refine ⟨⟨by omega, by rw [e2]; omega⟩, ?_, ?_, ?_⟩
    · rw [e1, e2, r3]; omega
    · exact (pl_th hP hj hs).mp c.1
    · rw [e1, show 1 - (1 - j / 128) = j / 128 by omega]; exact c.2
  · rw [if_neg c] at h; cases h
theorem pl_mk {P s t : Nat} {V : Nat → Int32} (hP : P ≤ 7) (ht : dmP (2 ^ P - 1) t) (hs : s < 2 ^ P) (h1 : s ||| plTh P t = plTh P t) (h2 : ¬ V (128 * (1 - t / 128) + s) = 0) : dmP (2 ^ P - 1) (128 * (1 - t / 128) + (t % 128 ^^^ s)) ∧ plF P V (128 * (1 - t / 128) + (t % 128 ^^^ s)) s = some t := by
  have h2P := p128 hP
  have hf : t % 128 < 2 ^ P := by have := ht.2; omega
  have hd : t / 128 = 0 ∨ t / 128 = 1 := by have := ht.1; omega
  obtain ⟨r1, r2, r3⟩ := sub_rev P (by omega) (t % 128) hf s hs
  have e1 : (128 * (1 - t / 128) + (t % 128 ^^^ s)) / 128 = 1 - t / 128 := by omega
  have e2 : (128 * (1 - t / 128) + (t % 128 ^^^ s)) % 128 = t % 128 ^^^ s := by omega
  refine ⟨⟨by omega, by rw [e2]; omega⟩, ?_⟩
  unfold plF
  rw [if_pos ⟨(pl_th hP ht hs).mp h1, by rw [e1]; exact h2⟩, e1, e2, r3]
  congr 1
  omega
/-- what may go over, by both ways -/
def vU (u : Nat → Int32) (P H : Nat) : Nat → Int32 := fun x => boF 0 u P H (x % 128) (x / 128)
theorem ds_ext {pl pl2 : Nat → Nat → Option Nat} {all : Nat} {N : Nat → Int32} (h : dsP pl all N) (e : ∀ j s, dmP all j → s < all + 1 → pl2 j s = pl j s) : dsP pl2 all N := by
  obtain ⟨h1, h2, h3, h4⟩ := h
  refine ⟨h1, h2, fun j v hj hv q => ?_, fun j s t v hj hs hp => ?_⟩
  · obtain ⟨s, t, a, b, c, d⟩ := h3 j v hj hv q
    exact ⟨s, t, a, by rw [e j s hj a]; exact b, c, d⟩
  · rw [e j s hj hs] at hp
    exact h4 j s t v hj hs hp
theorem pl_ext {P : Nat} {V W : Nat → Int32} (hP : P ≤ 7) (h : ∀ s, s < 2 ^ P → V s = W s ∧ V (128 + s) = W (128 + s)) : ∀ j s, dmP (2 ^ P - 1) j → s < 2 ^ P - 1 + 1 → plF P V j s = plF P W j s := by
  intro j s hj hs
  have h2 := p128 hP
  have hd : j / 128 = 0 ∨ j / 128 = 1 := by have := hj.1; omega
  obtain ⟨a, b⟩ := h s (by omega)
  have e : V (128 * (j / 128) + s) = W (128 * (j / 128) + s) := by
    rcases hd with q | q
    · rw [q, Nat.mul_zero, Nat.zero_add]; exact a
    · rw [q, Nat.mul_one]; exact b
  unfold plF
  rw [e]
theorem bf_0 {P : Nat} {V : Nat → Int32} (hP : P ≤ 7) {N : Nat → Int32} (hN : ∀ j, j < 256 → N j = if j % 128 = 2 ^ P - 1 then nI 0 else -1) : bfI (plF P V) (2 ^ P - 1) N (fun i => if i = 0 then 2 ^ P - 1 else 128 + (2 ^ P - 1)) (fun _ => 0) 2 0 := by
  have h2 := p128 hP
  have hcnt : ∀ n, n ≤ 128 → cntN N (128 + n) + (if 2 ^ P - 1 < n then 1 else 0) = cntN N 128 + n := by
    intro n
    induction n with
    | zero => intro _; simp
    | succ n ih =>
      intro hn
      have ih := ih (by omega)
      show cntN N (128 + n) + (if N (128 + n) < 0 then 1 else 0) + _ = _
      rw [hN _ (by omega), show (128 + n) % 128 = n by omega]
      by_cases e : n = 2 ^ P - 1
      · rw [if_pos e, if_neg (by decide), if_pos (by omega)]
        rw [if_neg (by omega)] at ih
        omega
      · rw [if_neg e, if_pos (by decide)]
        by_cases c : 2 ^ P - 1 < n
        · rw [if_pos c] at ih
          rw [if_pos (by omega)]; omega
        · rw [if_neg c] at ih
          rw [if_neg (by omega)]; omega
  have hcnt0 : ∀ n, n ≤ 128 → cntN N n + (if 2 ^ P - 1 < n then 1 else 0) = n := by
    intro n
    induction n with
    | zero => intro _; simp [cntN]
    | succ n ih =>
      intro hn
      have ih := ih (by omega)
      show cntN N n + (if N n < 0 then 1 else 0) + _ = _
      rw [hN _ (by omega), show n % 128 = n by omega]
      by_cases e : n = 2 ^ P - 1
      · rw [if_pos e, if_neg (by decide), if_pos (by omega)]
        rw [if_neg (by omega)] at ih
        omega
      · rw [if_neg e, if_pos (by decide)]
        by_cases c : 2 ^ P - 1 < n
        · rw [if_pos c] at ih
          rw [if_pos (by omega)]; omega
        · rw [if_neg c] at ih
          rw [if_neg (by omega)]; omega
  have c1 := hcnt 128 (by omega)
  have c0 := hcnt0 128 (by omega)
  rw [if_pos (by omega)] at c1 c0
  have c1 : cntN N 256 + 1 = cntN N 128 + 128 := c1
  have hq : ∀ i, i < 2 → dmP (2 ^ P - 1) (if i = 0 then 2 ^ P - 1 else 128 + (2 ^ P - 1)) ∧ (if i = 0 then 2 ^ P - 1 else 128 + (2 ^ P - 1)) % 128 = 2 ^ P - 1 := fun i hi => by
    unfold dmP
    split <;> omega
  refine ⟨by omega, fun j hj => ?_, fun i hi => ⟨(hq i hi).1, ?_, Nat.zero_le _⟩, fun _ _ _ _ => Nat.le_refl _, fun _ _ _ => Nat.zero_le _, fun j hj hne => ?_, fun i hi => absurd hi (by omega), fun j v hj hv e => ?_, fun j hj => ?_⟩
  · rw [hN j hj.1]
    split
    · exact Or.inr ⟨0, by omega, rfl⟩
    · exact Or.inl rfl
  · rw [hN _ (hq i hi).1.1, if_pos (hq i hi).2]
  · rw [hN j hj.1] at hne
    by_cases e : j % 128 = 2 ^ P - 1
    · by_cases e2 : j < 128
      · exact ⟨0, by omega, by show (if 0 = 0 then _ else _) = j; rw [if_pos rfl]; omega⟩
      · exact ⟨1, by omega, by show (if 1 = 0 then _ else _) = j; rw [if_neg (by omega)]; have := hj.1; omega⟩
    · rw [if_neg e] at hne; exact absurd rfl hne
  · rw [hN j hj.1] at e
    split at e
    · exact absurd ((nI_eq (by omega) (by omega)).mp e) (by omega)
    · exact absurd (show nI (v + 1) < 0 by rw [← e]; decide) (nI_pos (by omega))
  · rw [hN j hj.1]
    by_cases e : j % 128 = 2 ^ P - 1
    · rw [if_pos e]; exact ⟨fun _ => e, fun _ => rfl⟩
    · rw [if_neg e]; exact ⟨fun q => absurd q (by decide), fun q => absurd q e⟩
