/-! ===== what Reader needs: places ===== -/
theorem s_IIc (S : St) (f j g i : Nat) (v v2 : Int32) (h : f ≠ g) : s_setI (s_setI S f j v) g i v2 = s_setI (s_setI S g i v2) f j v := by
  have h2 : u2 (u2 (s_I S) f j v) g i v2 = u2 (u2 (s_I S) g i v2) f j v := by
    funext a b; unfold u2
    by_cases e1 : a = g
    · have h3 : ¬ a = f := fun q => h (q.symm.trans e1)
      simp only [if_pos e1, if_neg h3]
    · simp only [if_neg e1]
  show (_, _, _, _, u2 (u2 (s_I S) f j v) g i v2, _, _, _, _) = _
  rw [h2]; rfl
theorem gx_to2 {w : Wd} {X : FX} {S : St} {n1 n2 pc : Nat} {L : List (Option Value)} {st : List Value} {Q : State → Prop} {a : Value} {x y : Int32} (h : x = y) (k : gx_G w X S n1 n2 pc L (a :: .int y :: st) Q) : gx_G w X S n1 n2 pc L (a :: .int x :: st) Q := h ▸ k
theorem sk_stop {T : Nat → Int32} {L m : Nat} (h : ¬ (m < L ∧ T m = nI 32)) : skN T L m = m := by
  show skF T L (L - m) m = m
  cases e : L - m with
  | zero => rfl
  | succ d => simp only [skF]; rw [if_neg h]
theorem sk_step {T : Nat → Int32} {L m : Nat} (h : m < L ∧ T m = nI 32) : skN T L m = skN T L (m + 1) := by
  show skF T L (L - m) m = skF T L (L - (m + 1)) (m + 1)
  obtain ⟨d, hd⟩ : ∃ d, L - m = d + 1 := ⟨L - m - 1, by have := h.1; omega⟩
  rw [hd, show L - (m + 1) = d by omega]
  simp only [skF]
  rw [if_pos h]
theorem sk_bd {T : Nat → Int32} {L n : Nat} (h : n ≤ L) : n ≤ skN T L n ∧ skN T L n ≤ L := by
  have := skF_le (T := T) (L := L) (L - n) n
  exact ⟨this.1, by have := this.2; show skF T L (L - n) n ≤ L; omega⟩
theorem dgF_to {T : Nat → Int32} {L : Nat} : ∀ m d n, m ≤ d → (∀ i, i < m → chP 48 57 T L (n + i)) → ¬ chP 48 57 T L (n + m) → dgF T L d n = n + m
  | 0, 0, n, _, _, _ => rfl
  | 0, d + 1, n, _, _, h => by
    simp only [dgF]
    rw [if_neg (show ¬ chP 48 57 T L n from h)]; rfl
  | m + 1, 0, n, h, _, _ => absurd h (by omega)
  | m + 1, d + 1, n, h, h1, h2 => by
    simp only [dgF]
    rw [if_pos (show chP 48 57 T L n from h1 0 (by omega)), dgF_to m d (n + 1) (by omega) (fun i hi => by rw [show n + 1 + i = n + (i + 1) by omega]; exact h1 (i + 1) (by omega)) (by rw [show n + 1 + m = n + (m + 1) by omega]; exact h2)]
    omega
theorem dg_to {T : Nat → Int32} {L n k : Nat} (h1 : ∀ i, i < k → chP 48 57 T L (n + i)) (h2 : ¬ chP 48 57 T L (n + k)) : dgN T L n = n + k := by
  refine dgF_to k (L - n) n ?_ h1 h2
  cases k with
  | zero => omega
  | succ k => have := (h1 k (by omega)).1; omega
theorem dg_pos {T : Nat → Int32} {L n : Nat} : chP 48 57 T L n ↔ n < dgN T L n := by
  constructor
  · intro h
    show n < dgF T L (L - n) n
    obtain ⟨d, hd⟩ : ∃ d, L - n = d + 1 := ⟨L - n - 1, by have := h.1; omega⟩
    rw [hd]
    simp only [dgF]
    rw [if_pos h]
    have := (dgF_le (T := T) (L := L) d (n + 1)).1
    omega
  · intro h
    refine Decidable.byContradiction (fun q => ?_)
    have e : dgN T L n = n + 0 := dg_to (fun i hi => absurd hi (by omega)) q
    omega
theorem dg_val {T : Nat → Int32} {L n k : Nat} (h : chP 48 57 T L (n + k)) (hB : ∀ j, j < L → isB (T j)) (hk : k < 5) : nbV T n k * nI 10 + seeV T L (n + k) - nI 48 = nbV T n (k + 1) := by
  have hs := (chP_see (lo := 48) (hi := 57) hB (by omega) (by omega)).mp h
  obtain ⟨c, hc, ec⟩ := nat_of (b := 57) (by omega) ⟨Int32.le_trans (by decide) hs.1, hs.2⟩
  have eT := ((see_at hB (show c < 128 by omega)).mp ec).2
  simp only [nbV]
  rw [if_pos hk, ec, eT, Int32.mul_comm]
