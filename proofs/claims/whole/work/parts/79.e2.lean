/-! ===== whole numbers: weights in ints ===== -/
def iv (x : Int32) (z : Int) : Prop := x.toInt = z
theorem bmod_sm {z : Int} (h1 : -1000000000 ≤ z) (h2 : z ≤ 1000000000) : z.bmod (2 ^ 32) = z := by
  rw [Int.bmod_def]
  have : ((2 ^ 32 : Nat) : Int) = 4294967296 := by decide
  rw [this]
  split <;> omega
theorem iv_n {n : Nat} (h : n < 2147483648) : iv (nI n) n := nI_toInt h
theorem iv_add {x y : Int32} {a b : Int} (h : iv x a) (g : iv y b) (h1 : -1000000000 ≤ a + b) (h2 : a + b ≤ 1000000000) : iv (x + y) (a + b) := by
  unfold iv at *
  rw [Int32.toInt_add, h, g, bmod_sm h1 h2]
theorem iv_sub {x y : Int32} {a b : Int} (h : iv x a) (g : iv y b) (h1 : -1000000000 ≤ a - b) (h2 : a - b ≤ 1000000000) : iv (x - y) (a - b) := by
  unfold iv at *
  rw [Int32.toInt_sub, h, g, bmod_sm h1 h2]
theorem iv_mul {x y : Int32} {a b : Int} (h : iv x a) (g : iv y b) (h1 : -1000000000 ≤ a * b) (h2 : a * b ≤ 1000000000) : iv (x * y) (a * b) := by
  unfold iv at *
  rw [Int32.toInt_mul, h, g, bmod_sm h1 h2]
theorem iv_le {x y : Int32} {a b : Int} (h : iv x a) (g : iv y b) : x ≤ y ↔ a ≤ b := by
  unfold iv at *
  rw [Int32.le_iff_toInt_le, h, g]
theorem iv_lt {x y : Int32} {a b : Int} (h : iv x a) (g : iv y b) : x < y ↔ a < b := by
  unfold iv at *
  rw [Int32.lt_iff_toInt_lt, h, g]
theorem iv_eq {x y : Int32} {a b : Int} (h : iv x a) (g : iv y b) : x = y ↔ a = b := by
  unfold iv at *
  rw [← Int32.toInt_inj, h, g]
theorem iv_u {x : Int32} {a b : Int} (h : iv x a) (e : a = b) : iv x b := e ▸ h
theorem iv_nat {x : Int32} {n : Nat} (h : iv x n) (hn : n < 2147483648) : x = nI n := (iv_eq h (iv_n hn)).mpr rfl
/-- bounds of a Crossing's numbers -/
def bdU (P : Nat) (u : Nat → Int32) : Prop := (∃ a, a ≤ 99 ∧ u 1 = nI a) ∧ (∃ f, f ≤ 20 ∧ u 3 = nI f) ∧ (∀ p, p < P → ∃ l, l ≤ 20 ∧ u (35 + p) = nI l) ∧ ∀ p, p < P → ∀ q, q < P → ∃ e, e ≤ 9 ∧ u (49 + 7 * p + q) = nI e
theorem bdU.u {P : Nat} {u v : Nat → Int32} (h : bdU P u) (e : ∀ j, j < 10 ∨ 28 ≤ j → v j = u j) : bdU P v := ⟨by rw [e 1 (by omega)]; exact h.1, by rw [e 3 (by omega)]; exact h.2.1, fun p hp => by rw [e _ (by omega)]; exact h.2.2.1 p hp, fun p hp q hq => by rw [e _ (by omega)]; exact h.2.2.2 p hp q hq⟩
theorem light_n {P s : Nat} {u : Nat → Int32} (h : bdU P u) : ∀ n, n ≤ P → ∃ k, k ≤ 20 * n ∧ lightF u s n = nI k
  | 0, _ => ⟨0, by omega, rfl⟩
  | n + 1, hn => by
    obtain ⟨k, hk, e⟩ := light_n (s := s) h n (by omega)
    obtain ⟨l, hl, el⟩ := h.2.2.1 n (by omega)
    simp only [lightF]
    by_cases c : s.testBit n = true
    · rw [if_pos c, e, el, nI_add]; exact ⟨k + l, by omega, rfl⟩
    · rw [if_neg c, e, nI_add]; exact ⟨k + 0, by omega, rfl⟩
theorem twosI_n {P s a : Nat} {u : Nat → Int32} (h : bdU P u) : ∀ k, a + k < P → ∃ t, t ≤ 9 * k ∧ twosI u s a k = nI t
  | 0, _ => ⟨0, by omega, rfl⟩
  | k + 1, hk => by
    obtain ⟨t, ht, e⟩ := twosI_n (s := s) (a := a) h k (by omega)
    simp only [twosI]
    by_cases c : s.testBit a = true ∧ s.testBit (a + 1 + k) = true
    · obtain ⟨x, hx, ex⟩ := h.2.2.2 a (by omega) (a + 1 + k) (by omega)
      rw [if_pos c, e, ex, nI_add]; exact ⟨t + x, by omega, rfl⟩
    · rw [if_neg c, e, nI_add]; exact ⟨t + 0, by omega, rfl⟩
theorem twos_n {P s : Nat} {u : Nat → Int32} (h : bdU P u) (hP : P ≤ 7) : ∀ a, a ≤ P → ∃ t, t ≤ 63 * a ∧ twosF u s P a = nI t
  | 0, _ => ⟨0, by omega, rfl⟩
  | a + 1, ha => by
    obtain ⟨t, ht, e⟩ := twos_n (s := s) h hP a (by omega)
    obtain ⟨t2, ht2, e2⟩ := twosI_n (s := s) (a := a) h (P - (a + 1)) (by omega)
    simp only [twosF]
    rw [e, e2, nI_add]
    exact ⟨t + t2, by omega, rfl⟩
theorem grown_n {P p : Nat} {u : Nat → Int32} (ha : amU P u) (hg : grU P u) (hp : p < P) : ∃ a b, a ≤ b ∧ b ≤ 99 ∧ u (14 + p) = nI a ∧ grownF u p (u (14 + p)) = nI b := by
  obtain ⟨a, h9, ea⟩ := ha p hp
  obtain ⟨⟨g, hg9, eg⟩, -⟩ := hg p hp
  rw [ea]
  unfold grownF atMostF
  by_cases c : nI a ≤ 0
  · have c0 : a ≤ 0 := (nI_leI (b := 0) (by omega) (by omega)).mp c
    rw [if_pos c]; exact ⟨a, 0, by omega, by omega, rfl, rfl⟩
  · rw [if_neg c, eg, nI_add]
    by_cases c2 : nI (a + g) ≤ nI 99
    · rw [if_pos c2]; exact ⟨a, a + g, by omega, (nI_leI (by omega) (by omega)).mp c2, rfl, rfl⟩
    · rw [if_neg c2]; exact ⟨a, 99, by omega, by omega, rfl, rfl⟩
theorem aims_n {P s : Nat} {u : Nat → Int32} (ha : amU P u) (hg : grU P u) : ∀ n, n ≤ P → ∃ a b, a ≤ b ∧ b ≤ 99 * n ∧ aimsF u s False n = nI a ∧ aimsF u s True n = nI b
  | 0, _ => ⟨0, 0, by omega, by omega, rfl, rfl⟩
  | n + 1, hn => by
    obtain ⟨a, b, h1, h2, e1, e2⟩ := aims_n (s := s) ha hg n (by omega)
    obtain ⟨x, y, h3, h4, e3, e4⟩ := grown_n ha hg (show n < P by omega)
    simp only [aimsF]
    by_cases c : s.testBit n = true
    · rw [if_pos c, if_pos c, e1, e2, if_neg not_false, if_pos trivial, e4, e3, nI_add, nI_add]
      exact ⟨a + x, b + y, by omega, by omega, rfl, rfl⟩
    · rw [if_neg c, if_neg c, e1, e2]; exact ⟨a, b, h1, by omega, rfl, rfl⟩
/-- what it weighs, in whole numbers -/
def wgZ (half : Bool) (m : Nat) (f l : Nat) : Int := max 0 (((if half = true then m / 2 else m : Nat) : Int) + (f - l))
theorem weigh_iv {P s : Nat} {u : Nat → Int32} (h : bdU P u) (fog : Prop) [Decidable fog] (side : Int32) : ∃ f l, f ≤ 20 ∧ l ≤ 20 * P ∧ lightF u s P = nI l ∧ (if fog then u 3 else nI 0) = nI f ∧ ∀ m, m ≤ 1000000 → P ≤ 7 → iv (weighF u P fog (nI m) s side) (wgZ (decide (side = nI 1)) m f l) := by
  obtain ⟨l, hl, el⟩ := light_n (s := s) h P (Nat.le_refl P)
  obtain ⟨f0, hf0, ef0⟩ := h.2.1
  have hf : ∃ f, f ≤ 20 ∧ (if fog then u 3 else nI 0) = nI f := by
    by_cases c : fog
    · rw [if_pos c]; exact ⟨f0, hf0, ef0⟩
    · rw [if_neg c]; exact ⟨0, by omega, rfl⟩
  obtain ⟨f, hf, ef⟩ := hf
  refine ⟨f, l, hf, hl, el, ef, fun m hm hP => ?_⟩
  unfold weighF
  rw [el, ef]
  have hh : ∃ k, k ≤ m ∧ (if side = nI 1 then nI m / nI 2 else nI m) = nI k ∧ k = (if decide (side = nI 1) = true then m / 2 else m) := by
    by_cases c : side = nI 1
    · rw [if_pos c, pk_div (by omega) (by omega) (by omega), decide_eq_true c, if_pos rfl]; exact ⟨m / 2, by omega, rfl, rfl⟩
    · rw [if_neg c, decide_eq_false c, if_neg (by decide)]; exact ⟨m, by omega, rfl, rfl⟩
  obtain ⟨k, hk, ek, ek2⟩ := hh
  rw [ek]
  unfold wgZ
  rw [← ek2]
  have i1 : iv (nI f - nI l) ((f : Int) - l) := iv_sub (iv_n (by omega)) (iv_n (by omega)) (by omega) (by omega)
  have i2 : iv (nI k + (nI f - nI l)) ((k : Int) + (f - l)) := iv_add (iv_n (by omega)) i1 (by omega) (by omega)
  by_cases c : 0 ≤ nI k + (nI f - nI l)
  · rw [if_pos c]
    have c2 := (iv_le (iv_n (n := 0) (by omega)) i2).mp c
    exact iv_u i2 (by omega)
  · rw [if_neg c]
    have c2 : ¬ ((0 : Nat) : Int) ≤ (k : Int) + (f - l) := fun q => c ((iv_le (iv_n (n := 0) (by omega)) i2).mpr q)
    exact iv_u (iv_n (n := 0) (by omega)) (by omega)
theorem wgZ_mono {half : Bool} {m n f l : Nat} (h : m ≤ n) : wgZ half m f l ≤ wgZ half n f l := by
  unfold wgZ
  cases half <;> simp <;> omega
theorem weight_mono {P s : Nat} {u : Nat → Int32} (h : bdU P u) (ha : sdA P u) (hP : P ≤ 7) (fog : Prop) [Decidable fog] : weightF u P fog s False ≤ weightF u P fog s True := by
  obtain ⟨f, l, hf, hl, el, ef, hw⟩ := weigh_iv (s := s) h fog (u 11)
  obtain ⟨a, b, h1, h2, e1, e2⟩ := aims_n (s := s) ha.2.1 ha.2.2.2 P (Nat.le_refl P)
  obtain ⟨t, ht, et⟩ := twos_n (s := s) h hP P (Nat.le_refl P)
  unfold weightF
  rw [e1, e2, et, nI_add, nI_add]
  exact (iv_le (hw _ (by omega) hP) (hw _ (by omega) hP)).mpr (wgZ_mono (by omega))
