/-! ===== the reference's rows of what is thrown ===== -/
def vaN (A R : Nat → Nat) (s : Nat) (x : Nat → Nat) (p : Nat) : Nat := if s.testBit p = true then grN R p (A p - x p) else 0
/-- of the first n: so much thrown, so much left at mid stream -/
def thrP (A R : Nat → Nat) (s n j v : Nat) : Prop := ∃ x : Nat → Nat, (∀ p, x p ≤ A p) ∧ hS (coN s x) n = j ∧ hS (vaN A R s x) n = v
def tbP (A R : Nat → Nat) (s n : Nat) (M : Nat → Int32) : Prop := ∀ j, j < 700 → ∃ v, v ≤ 9999 ∧ M j = nI v ∧ (∀ v', thrP A R s n j v' → v ≤ v') ∧ (v < 9999 → thrP A R s n j v)
theorem gr_le {R : Nat → Nat} {p a : Nat} : grN R p a ≤ 99 := by
  unfold grN
  split <;> omega
theorem va_le {A R : Nat → Nat} {s : Nat} {x : Nat → Nat} : ∀ n, hS (vaN A R s x) n ≤ 99 * n
  | 0 => Nat.le_refl 0
  | n + 1 => by
    have ih := va_le (A := A) (R := R) (s := s) (x := x) n
    have : vaN A R s x n ≤ 99 := by
      unfold vaN
      split
      · exact gr_le
      · omega
    show hS _ n + _ ≤ _
    omega
theorem hS_ext {f g : Nat → Nat} : ∀ n, (∀ p, p < n → f p = g p) → hS f n = hS g n
  | 0, _ => rfl
  | n + 1, h => by
    show hS f n + f n = hS g n + g n
    rw [hS_ext n (fun p hp => h p (by omega)), h n (by omega)]
theorem tb_0 {A R : Nat → Nat} {s : Nat} {M : Nat → Int32} : tbP A R s 0 (lg0 M 700) := by
  intro j hj
  have e : lg0 M 700 j = if j = 0 then nI 0 else nI 9999 := if_pos hj
  rw [e]
  by_cases c : j = 0
  · rw [if_pos c]
    exact ⟨0, by omega, rfl, fun _ _ => Nat.zero_le _, fun _ => ⟨fun _ => 0, fun _ => Nat.zero_le _, c.symm, rfl⟩⟩
  · rw [if_neg c]
    exact ⟨9999, by omega, rfl, fun v' ⟨x, _, h, _⟩ => absurd h.symm c, fun h => absurd h (by omega)⟩
theorem tb_n {A R : Nat → Nat} {s n : Nat} {M : Nat → Int32} (h : tbP A R s n M) (hb : ¬ s.testBit n = true) : tbP A R s (n + 1) M := by
  have e : ∀ j v, thrP A R s (n + 1) j v ↔ thrP A R s n j v := fun j v => by
    have e1 : ∀ x, hS (coN s x) (n + 1) = hS (coN s x) n := fun x => by
      show hS _ n + coN s x n = _
      unfold coN
      rw [if_neg hb, Nat.add_zero]
    have e2 : ∀ x, hS (vaN A R s x) (n + 1) = hS (vaN A R s x) n := fun x => by
      show hS _ n + vaN A R s x n = _
      unfold vaN
      rw [if_neg hb, Nat.add_zero]
    unfold thrP
    constructor
    · rintro ⟨x, a, b, c⟩; exact ⟨x, a, (e1 x) ▸ b, (e2 x) ▸ c⟩
    · rintro ⟨x, a, b, c⟩; exact ⟨x, a, (e1 x).trans b, (e2 x).trans c⟩
  intro j hj
  obtain ⟨v, h1, h2, h3, h4⟩ := h j hj
  exact ⟨v, h1, h2, fun v' q => h3 v' ((e j v').mp q), fun q => (e j v).mpr (h4 q)⟩
/-- what the pairs (k, t) seen so far give -/
def siP (a : Nat) (gr : Nat → Nat) (m : Nat → Nat) (K T : Nat) (W : Nat → Int32) : Prop := ∀ j, j < 700 → ∃ w, w ≤ 9999 ∧ W j = nI w ∧ (∀ k t, (k < K ∨ (k = K ∧ t < T)) → t ≤ a → k + t = j → m k < 9999 → w ≤ m k + gr (a - t)) ∧ (w < 9999 → ∃ k t, (k < K ∨ (k = K ∧ t < T)) ∧ t ≤ a ∧ k + t = j ∧ m k < 9999 ∧ w = m k + gr (a - t))
theorem si_step {a K T : Nat} {gr m : Nat → Nat} {g : Int32 → Int32} {W0 W : Nat → Int32} (ha : a ≤ 99) (hg : ∀ t, t ≤ a → g (nI a - nI t) = nI (gr (a - t)) ∧ gr (a - t) ≤ 99) (hm : m K ≤ 9999) (hK : K < 700) (hT : T < 700) (h : siP a gr m K T W) : siP a gr m K (T + 1) (if tkC (nI a) (nI (m K)) K T then upd W (K + T) (mnI (nI (m K) + g (nI a - nI T)) (W (K + T))) else W) := by
  have hc : tkC (nI a) (nI (m K)) K T ↔ T ≤ a ∧ K + T < 700 ∧ m K < 9999 := by
    unfold tkC
    rw [nI_leI (by omega) (by omega), nI_ltI (by omega) (by omega)]
  by_cases c : T ≤ a ∧ K + T < 700 ∧ m K < 9999
  · rw [if_pos (hc.mpr c)]
    obtain ⟨g1, g2⟩ := hg T c.1
    intro j hj
    by_cases e : j = K + T
    · subst e
      obtain ⟨w, w1, w2, w3, w4⟩ := h (K + T) hj
      have em : mnI (nI (m K) + g (nI a - nI T)) (W (K + T)) = nI (min (m K + gr (a - T)) w) := by
        rw [g1, nI_add, w2]
        unfold mnI
        by_cases q : nI (m K + gr (a - T)) < nI w
        · have := (nI_ltI (by omega) (by omega)).mp q
          rw [if_pos q]; congr 1; omega
        · have : ¬ m K + gr (a - T) < w := fun z => q (nI_lt z (by omega))
          rw [if_neg q]; congr 1; omega
      rw [pk_us, em]
      refine ⟨_, by omega, rfl, fun k t hkt ht hj2 hmk => ?_, fun hw => ?_⟩
      · by_cases e2 : k = K
        · have : t = T := by omega
          subst e2 this; omega
        · have := w3 k t (by omega) ht hj2 hmk
          omega
      · by_cases q : m K + gr (a - T) ≤ w
        · exact ⟨K, T, Or.inr ⟨rfl, by omega⟩, c.1, rfl, c.2.2, by omega⟩
        · obtain ⟨k, t, a1, a2, a3, a4, a5⟩ := w4 (by omega)
          exact ⟨k, t, by omega, a2, a3, a4, by omega⟩
    · obtain ⟨w, w1, w2, w3, w4⟩ := h j hj
      rw [pk_un e]
      refine ⟨w, w1, w2, fun k t hkt ht hj2 hmk => w3 k t (by omega) ht hj2 hmk, fun hw => ?_⟩
      obtain ⟨k, t, a1, a2⟩ := w4 hw
      exact ⟨k, t, by omega, a2⟩
  · rw [if_neg (fun z => c (hc.mp z))]
    intro j hj
    obtain ⟨w, w1, w2, w3, w4⟩ := h j hj
    refine ⟨w, w1, w2, fun k t hkt ht hj2 hmk => ?_, fun hw => ?_⟩
    · by_cases e2 : k = K ∧ t = T
      · obtain ⟨q1, q2⟩ := e2
        subst q1 q2
        exact absurd ⟨ht, by omega, hmk⟩ c
      · exact w3 k t (by omega) ht hj2 hmk
    · obtain ⟨k, t, a1, a2⟩ := w4 hw
      exact ⟨k, t, by omega, a2⟩
theorem si_in {a K : Nat} {gr m : Nat → Nat} {g : Int32 → Int32} {W : Nat → Int32} (ha : a ≤ 99) (hg : ∀ t, t ≤ a → g (nI a - nI t) = nI (gr (a - t)) ∧ gr (a - t) ≤ 99) (hm : m K ≤ 9999) (hK : K < 700) (h : siP a gr m K 0 W) : ∀ T, T ≤ 700 → siP a gr m K T (tkI g (nI a) (nI (m K)) K W T)
  | 0, _ => h
  | T + 1, hT => si_step (W0 := W) ha hg hm hK (by omega) (si_in ha hg hm hK h T (by omega))
theorem si_out {a : Nat} {gr m : Nat → Nat} {g : Int32 → Int32} {M W : Nat → Int32} (ha : a ≤ 99) (hg : ∀ t, t ≤ a → g (nI a - nI t) = nI (gr (a - t)) ∧ gr (a - t) ≤ 99) (hM : ∀ k, k < 700 → M k = nI (m k) ∧ m k ≤ 9999) : ∀ K, K ≤ 700 → siP a gr m K 0 (tkK g (nI a) M W K)
  | 0, _ => fun j hj => ⟨9999, by omega, if_pos hj, fun k t q => absurd q (by omega), fun q => absurd q (by omega)⟩
  | K + 1, hK => by
    obtain ⟨e, h9⟩ := hM K (by omega)
    have := si_in ha hg h9 (by omega) (si_out (W := W) ha hg hM K (by omega)) 700 (Nat.le_refl _)
    rw [← e] at this
    intro j hj
    obtain ⟨w, w1, w2, w3, w4⟩ := this j hj
    refine ⟨w, w1, w2, fun k t hkt ht hj2 hmk => w3 k t (by omega) ht hj2 hmk, fun hw => ?_⟩
    obtain ⟨k, t, a1, a2⟩ := w4 hw
    exact ⟨k, t, by omega, a2⟩
theorem tb_y {A R : Nat → Nat} {s n : Nat} {M W : Nat → Int32} {g : Int32 → Int32} (h : tbP A R s n M) (hn : n < 7) (hb : s.testBit n = true) (ha : A n ≤ 99) (hg : ∀ t, t ≤ A n → g (nI (A n) - nI t) = nI (grN R n (A n - t))) : tbP A R s (n + 1) (tk1 g (nI (A n)) (M, W)).1 := by
  have hM : ∃ m : Nat → Nat, ∀ k, k < 700 → M k = nI (m k) ∧ m k ≤ 9999 ∧ (∀ v', thrP A R s n k v' → m k ≤ v') ∧ (m k < 9999 → thrP A R s n k (m k)) := by
    exact Classical.axiomOfChoice (r := fun k v => k < 700 → M k = nI v ∧ v ≤ 9999 ∧ (∀ v', thrP A R s n k v' → v ≤ v') ∧ (v < 9999 → thrP A R s n k v)) (fun k => by
      by_cases hk : k < 700
      · obtain ⟨v, h1, h2, h3, h4⟩ := h k hk
        exact ⟨v, fun _ => ⟨h2, h1, h3, h4⟩⟩
      · exact ⟨0, fun q => absurd q hk⟩)
  obtain ⟨m, hM⟩ := hM
  have hS7 := si_out (W := W) (gr := grN R n) ha (fun t ht => ⟨hg t ht, gr_le⟩) (fun k hk => ⟨(hM k hk).1, (hM k hk).2.1⟩) 700 (Nat.le_refl _)
  intro j hj
  obtain ⟨w, w1, w2, w3, w4⟩ := hS7 j hj
  have ej : (tk1 g (nI (A n)) (M, W)).1 j = tkK g (nI (A n)) M W 700 j := by
    show va_cpy (tkK g (nI (A n)) M W 700) M 0 0 700 j = _
    rw [pk_cpy_in (by omega) (by omega), Nat.sub_zero, Nat.zero_add]
  refine ⟨w, w1, ej.trans w2, ?_, fun hw => ?_⟩
  · rintro v' ⟨x, hx, hc, hv⟩
    have ec : hS (coN s x) (n + 1) = hS (coN s x) n + x n := by
      show hS _ n + coN s x n = _
      unfold coN; rw [if_pos hb]
    have ev : hS (vaN A R s x) (n + 1) = hS (vaN A R s x) n + grN R n (A n - x n) := by
      show hS _ n + vaN A R s x n = _
      unfold vaN; rw [if_pos hb]
    rw [ec] at hc
    rw [ev] at hv
    have hle := va_le (A := A) (R := R) (s := s) (x := x) n
    have hm := (hM (hS (coN s x) n) (by omega)).2.2.1 _ ⟨x, hx, rfl, rfl⟩
    have := w3 (hS (coN s x) n) (x n) (by omega) (hx n) hc (by omega)
    omega
  · obtain ⟨k, t, a1, a2, a3, a4, a5⟩ := w4 hw
    obtain ⟨x, hx, hc, hv⟩ := (hM k (by omega)).2.2.2 a4
    have ex : ∀ p, p < n → updN x n t p = x p := fun p hp => if_neg (by omega)
    have e0 : updN x n t n = t := if_pos rfl
    refine ⟨updN x n t, fun p => ?_, ?_, ?_⟩
    · unfold updN
      by_cases e : p = n
      · rw [if_pos e, e]; exact a2
      · rw [if_neg e]; exact hx p
    · show hS _ n + coN s (updN x n t) n = _
      rw [hS_ext (g := coN s x) n (fun p hp => by unfold coN; rw [ex p hp]), hc]
      unfold coN
      rw [if_pos hb, e0]; exact a3
    · show hS _ n + vaN A R s (updN x n t) n = _
      rw [hS_ext (g := vaN A R s x) n (fun p hp => by unfold vaN; rw [ex p hp]), hv]
      unfold vaN
      rw [if_pos hb, e0]; exact a5.symm
