/-! ===== what is thrown: the three ways find the least of all ways ===== -/
def hS (f : Nat → Nat) : Nat → Nat
  | 0 => 0
  | n + 1 => hS f n + f n
def tS (f : Nat → Nat) (P : Nat) : Nat → Nat
  | 0 => 0
  | d + 1 => f (P - (d + 1)) + tS f P d
theorem hS_tS {f : Nat → Nat} {P : Nat} : ∀ d, d ≤ P → hS f (P - d) + tS f P d = hS f P
  | 0, _ => rfl
  | d + 1, hd => by
    have ih := hS_tS (f := f) (P := P) d (by omega)
    obtain ⟨q, hq⟩ : ∃ q, P - d = q + 1 := ⟨P - d - 1, by omega⟩
    rw [hq] at ih
    have e : hS f (q + 1) = hS f q + f q := rfl
    have e2 : tS f P (d + 1) = f (P - (d + 1)) + tS f P d := rfl
    rw [e2, show P - (d + 1) = q by omega]
    omega
theorem tS_ext {f g : Nat → Nat} {P : Nat} : ∀ d, d ≤ P → (∀ p, P - d ≤ p → p < P → f p = g p) → tS f P d = tS g P d
  | 0, _, _ => rfl
  | d + 1, hd, h => by
    show f (P - (d + 1)) + tS f P d = g (P - (d + 1)) + tS g P d
    rw [h _ (by omega) (by omega), tS_ext d (by omega) (fun p h1 h2 => h p (by omega) h2)]
/-- an AIM at mid stream -/
def grN (R : Nat → Nat) (p a : Nat) : Nat := if a = 0 then 0 else min (a + R p) 99
section LEAST
variable (A R : Nat → Nat) (s : Nat)
def coN (x : Nat → Nat) (p : Nat) : Nat := if s.testBit p = true then x p else 0
def reN (x : Nat → Nat) (p : Nat) : Nat := if s.testBit p = true then grN R p (A p) - grN R p (A p - x p) else 0
end LEAST
theorem lf_lb {A R : Nat → Nat} {s P : Nat} {x : Nat → Nat} (hA : ∀ p, p < P → A p ≤ 99) (hx : ∀ p, p < P → x p ≤ A p) : ∀ (d : Nat) (z : Int) (inp thr y : Nat), d ≤ P → y ≤ inp → z ≤ (y : Int) + (tS (reN A R s x) P d : Nat) → thr + y + tS (coN s x) P d < 1000000 → lfF A (fun p => grN R p (A p)) R s P d z inp thr ≤ thr + y + tS (coN s x) P d
  | 0, z, inp, thr, y, _, hy, hz, _ => by
    have hz : z ≤ y + ((0 : Nat) : Int) := hz
    simp only [lfF]
    show _ ≤ thr + y + 0
    rw [if_pos (by omega)]
    omega
  | d + 1, z, inp, thr, y, hd, hy, hz, hlt => by
    have ih := lf_lb (R := R) (s := s) hA hx d
    obtain ⟨p, hp⟩ : ∃ p, P - (d + 1) = p := ⟨_, rfl⟩
    have e1 : tS (coN s x) P (d + 1) = coN s x p + tS (coN s x) P d := by rw [← hp]; rfl
    have e2 : tS (reN A R s x) P (d + 1) = reN A R s x p + tS (reN A R s x) P d := by rw [← hp]; rfl
    have hpP : p < P := by omega
    have ax := hx p hpP
    have a99 := hA p hpP
    rw [e1] at hlt ⊢
    rw [e2] at hz
    simp only [lfF]
    rw [hp]
    generalize tS (coN s x) P d = tc at *
    generalize tS (reN A R s x) P d = tr at *
    by_cases hb : s.testBit p = true
    · have ec : coN s x p = x p := if_pos hb
      have er : reN A R s x p = grN R p (A p) - grN R p (A p - x p) := if_pos hb
      rw [ec] at hlt ⊢
      rw [er] at hz
      by_cases a0 : A p = 0
      · rw [if_neg (fun q => q.2 a0)]
        have : x p = 0 := by omega
        have hr0 : grN R p (A p) - grN R p (A p - x p) = 0 := by rw [a0]; simp [grN]
        rw [hr0] at hz
        have := ih z inp thr y (by omega) hy (by omega) (by omega)
        omega
      · rw [if_pos ⟨hb, a0⟩]
        have hG : grN R p (A p) = min (A p + R p) 99 := if_neg a0
        have m0 := ih z inp thr
        have m1 := ih (z - (grN R p (A p) : Nat)) inp (thr + A p)
        have m2 := ih z (inp + (A p - 1 - (A p + R p - grN R p (A p)))) (thr + (A p + R p - grN R p (A p)))
        by_cases w : x p = A p
        · have hr1 : grN R p (A p - x p) = 0 := by rw [w, Nat.sub_self]; exact if_pos rfl
          rw [hr1] at hz
          have := m1 y (by omega) hy (by omega) (by omega)
          split <;> omega
        · have hr2 : grN R p (A p - x p) = min (A p - x p + R p) 99 := if_neg (by omega)
          rw [hr2] at hz
          by_cases q : x p ≤ A p + R p - grN R p (A p)
          · have := m0 y (by omega) hy (by omega) (by omega)
            split <;> omega
          · rw [if_pos (by omega)]
            have := m2 (y + (x p - (A p + R p - grN R p (A p)))) (by omega) (by omega) (by omega) (by omega)
            omega
    · have ec : coN s x p = 0 := if_neg hb
      have er : reN A R s x p = 0 := if_neg hb
      rw [ec] at hlt ⊢
      rw [er] at hz
      rw [if_neg (fun q => hb q.1)]
      have := ih z inp thr y (by omega) hy (by omega) (by omega)
      omega
theorem lf_ex {A R : Nat → Nat} {s P : Nat} (hA : ∀ p, p < P → A p ≤ 99) : ∀ (d : Nat) (z : Int) (inp thr : Nat), d ≤ P → lfF A (fun p => grN R p (A p)) R s P d z inp thr < 1000000 → ∃ (x : Nat → Nat) (y : Nat), (∀ p, x p ≤ A p) ∧ y ≤ inp ∧ z ≤ (y : Int) + (tS (reN A R s x) P d : Nat) ∧ lfF A (fun p => grN R p (A p)) R s P d z inp thr = thr + y + tS (coN s x) P d
  | 0, z, inp, thr, _, h => by
    simp only [lfF] at h ⊢
    by_cases c : max 0 z ≤ inp
    · rw [if_pos c]
      exact ⟨fun _ => 0, (max 0 z).toNat, fun _ => Nat.zero_le _, by omega, by show z ≤ _ + ((0 : Nat) : Int); omega, rfl⟩
    · rw [if_neg c] at h; omega
  | d + 1, z, inp, thr, hd, h => by
    have ih := lf_ex (R := R) (s := s) hA d
    obtain ⟨p, hp⟩ : ∃ p, P - (d + 1) = p := ⟨_, rfl⟩
    have hpP : p < P := by omega
    have a99 := hA p hpP
    /- one more: x with p at v -/
    have put : ∀ (x : Nat → Nat) (v : Nat), tS (coN s (updN x p v)) P (d + 1) = (if s.testBit p = true then v else 0) + tS (coN s x) P d ∧ tS (reN A R s (updN x p v)) P (d + 1) = (if s.testBit p = true then grN R p (A p) - grN R p (A p - v) else 0) + tS (reN A R s x) P d := fun x v => by
      have e0 : updN x p v p = v := if_pos rfl
      have ex : ∀ q, P - d ≤ q → q < P → updN x p v q = x q := fun q h1 h2 => if_neg (by omega)
      constructor
      · show coN s (updN x p v) (P - (d + 1)) + tS (coN s (updN x p v)) P d = _
        rw [hp, tS_ext (g := coN s x) d (by omega) (fun q h1 h2 => by unfold coN; rw [ex q h1 h2])]
        unfold coN
        rw [e0]
      · show reN A R s (updN x p v) (P - (d + 1)) + tS (reN A R s (updN x p v)) P d = _
        rw [hp, tS_ext (g := reN A R s x) d (by omega) (fun q h1 h2 => by unfold reN; rw [ex q h1 h2])]
        unfold reN
        rw [e0]
    have le : ∀ (x : Nat → Nat) (v : Nat), (∀ q, x q ≤ A q) → v ≤ A p → ∀ q, updN x p v q ≤ A q := fun x v hx hv q => by
      unfold updN
      by_cases e : q = p
      · rw [if_pos e, e]; exact hv
      · rw [if_neg e]; exact hx q
    have stay : lfF A (fun p => grN R p (A p)) R s P (d + 1) z inp thr = lfF A (fun p => grN R p (A p)) R s P d z inp thr → ∃ (x : Nat → Nat) (y : Nat), (∀ p, x p ≤ A p) ∧ y ≤ inp ∧ z ≤ (y : Int) + (tS (reN A R s x) P (d + 1) : Nat) ∧ lfF A (fun p => grN R p (A p)) R s P (d + 1) z inp thr = thr + y + tS (coN s x) P (d + 1) := fun e => by
      rw [e] at h ⊢
      obtain ⟨x, y, h1, h2, h3, h4⟩ := ih z inp thr (by omega) h
      obtain ⟨p1, p2⟩ := put x 0
      refine ⟨updN x p 0, y, le x 0 h1 (Nat.zero_le _), h2, ?_, ?_⟩
      · rw [p2, Nat.sub_zero, Nat.sub_self]
        split <;> omega
      · rw [p1, h4]
        split <;> omega
    by_cases c : s.testBit p = true ∧ ¬ A p = 0
    · obtain ⟨hb, a0⟩ := id c
      have hG : grN R p (A p) = min (A p + R p) 99 := if_neg a0
      have whole : lfF A (fun p => grN R p (A p)) R s P (d + 1) z inp thr = lfF A (fun p => grN R p (A p)) R s P d (z - (grN R p (A p) : Nat)) inp (thr + A p) → ∃ (x : Nat → Nat) (y : Nat), (∀ p, x p ≤ A p) ∧ y ≤ inp ∧ z ≤ (y : Int) + (tS (reN A R s x) P (d + 1) : Nat) ∧ lfF A (fun p => grN R p (A p)) R s P (d + 1) z inp thr = thr + y + tS (coN s x) P (d + 1) := fun e => by
        rw [e] at h ⊢
        obtain ⟨x, y, h1, h2, h3, h4⟩ := ih _ inp _ (by omega) h
        obtain ⟨p1, p2⟩ := put x (A p)
        have g0 : grN R p 0 = 0 := if_pos rfl
        refine ⟨updN x p (A p), y, le x _ h1 (Nat.le_refl _), h2, ?_, ?_⟩
        · rw [p2, if_pos hb, Nat.sub_self, g0]; omega
        · rw [p1, h4, if_pos hb]; omega
      have hsp : lfF A (fun p => grN R p (A p)) R s P (d + 1) z inp thr = if A p + R p - grN R p (A p) + 1 < A p then min (min (lfF A (fun p => grN R p (A p)) R s P d z inp thr) (lfF A (fun p => grN R p (A p)) R s P d (z - (grN R p (A p) : Nat)) inp (thr + A p))) (lfF A (fun p => grN R p (A p)) R s P d z (inp + (A p - 1 - (A p + R p - grN R p (A p)))) (thr + (A p + R p - grN R p (A p)))) else min (lfF A (fun p => grN R p (A p)) R s P d z inp thr) (lfF A (fun p => grN R p (A p)) R s P d (z - (grN R p (A p) : Nat)) inp (thr + A p)) := by
        simp only [lfF]
        rw [hp, if_pos c]
      by_cases q : A p + R p - grN R p (A p) + 1 < A p
      · rw [if_pos q] at hsp
        have part_ : lfF A (fun p => grN R p (A p)) R s P (d + 1) z inp thr = lfF A (fun p => grN R p (A p)) R s P d z (inp + (A p - 1 - (A p + R p - grN R p (A p)))) (thr + (A p + R p - grN R p (A p))) → ∃ (x : Nat → Nat) (y : Nat), (∀ p, x p ≤ A p) ∧ y ≤ inp ∧ z ≤ (y : Int) + (tS (reN A R s x) P (d + 1) : Nat) ∧ lfF A (fun p => grN R p (A p)) R s P (d + 1) z inp thr = thr + y + tS (coN s x) P (d + 1) := fun e => by
          rw [e] at h ⊢
          obtain ⟨x, y, h1, h2, h3, h4⟩ := ih _ _ _ (by omega) h
          obtain ⟨v, hv⟩ : ∃ v, v = min y (A p - 1 - (A p + R p - grN R p (A p))) := ⟨_, rfl⟩
          obtain ⟨p1, p2⟩ := put x (A p + R p - grN R p (A p) + v)
          have g1 : grN R p (A p - (A p + R p - grN R p (A p) + v)) = min (A p - (A p + R p - grN R p (A p) + v) + R p) 99 := if_neg (by omega)
          refine ⟨updN x p (A p + R p - grN R p (A p) + v), y - v, le x _ h1 (by omega), by omega, ?_, ?_⟩
          · rw [p2, if_pos hb, g1]; omega
          · rw [p1, h4, if_pos hb]; omega
        generalize lfF A (fun p => grN R p (A p)) R s P d z inp thr = l0 at *
        generalize lfF A (fun p => grN R p (A p)) R s P d (z - (grN R p (A p) : Nat)) inp (thr + A p) = l1 at *
        generalize lfF A (fun p => grN R p (A p)) R s P d z (inp + (A p - 1 - (A p + R p - grN R p (A p)))) (thr + (A p + R p - grN R p (A p))) = l2 at *
        by_cases m2 : l2 ≤ min l0 l1
        · exact part_ (by omega)
        · by_cases m1 : l1 ≤ l0
          · exact whole (by omega)
          · exact stay (by omega)
      · rw [if_neg q] at hsp
        generalize lfF A (fun p => grN R p (A p)) R s P d z inp thr = l0 at *
        generalize lfF A (fun p => grN R p (A p)) R s P d (z - (grN R p (A p) : Nat)) inp (thr + A p) = l1 at *
        by_cases m1 : l1 ≤ l0
        · exact whole (by omega)
        · exact stay (by omega)
    · refine stay ?_
      simp only [lfF]
      rw [hp, if_neg c]
