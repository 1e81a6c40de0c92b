/-! ===== words: as the class takes them, as the reference does ===== -/
def pkN (f : Nat → Nat) : Nat → Nat
  | 0 => 0
  | k + 1 => pkN f k * 256 + f k
theorem pkN_inj {f g : Nat → Nat} : ∀ m k, (∀ i, i < m → 0 < f i ∧ f i < 256) → (∀ i, i < k → 0 < g i ∧ g i < 256) → pkN f m = pkN g k → m = k ∧ ∀ i, i < m → f i = g i
  | 0, 0, _, _, _ => ⟨rfl, fun i hi => absurd hi (by omega)⟩
  | 0, k + 1, _, hg, e => by
    have := (hg k (by omega)).1
    simp only [pkN] at e
    omega
  | m + 1, 0, hf, _, e => by
    have := (hf m (by omega)).1
    simp only [pkN] at e
    omega
  | m + 1, k + 1, hf, hg, e => by
    have h1 := hf m (by omega)
    have h2 := hg k (by omega)
    simp only [pkN] at e
    obtain ⟨e1, e2⟩ := pkN_inj m k (fun i hi => hf i (by omega)) (fun i hi => hg i (by omega)) (by omega)
    subst e1
    refine ⟨rfl, fun i hi => ?_⟩
    by_cases h : i = m
    · subst h; omega
    · exact e2 i (by omega)
theorem pkN_lt {f : Nat → Nat} : ∀ m, (∀ i, i < m → f i < 256) → pkN f m < 256 ^ m
  | 0, _ => by simp [pkN]
  | m + 1, h => by
    have := pkN_lt m (fun i hi => h i (by omega))
    have := h m (by omega)
    simp only [pkN, Nat.pow_succ]
    omega
theorem l_tn {n : Nat} (h : n < 2 ^ 64) : (lN n).toBitVec.toNat = n := Nat.mod_eq_of_lt h
theorem l_shl8 {a c : Nat} (ha : a < 2 ^ 48) (hc : c < 256) : lN a <<< ((nI 8).toInt64 &&& 63) ||| lN c = lN (a * 256 + c) := by
  apply Int64.toBitVec_inj.mp
  apply BitVec.eq_of_toNat_eq
  rw [Int64.toBitVec_or, BitVec.toNat_or, l_tn (by omega), l_tn (by omega)]
  have e : (lN a <<< ((nI 8).toInt64 &&& 63)).toBitVec.toNat = a * 256 := by
    show ((lN a).toBitVec <<< (((nI 8).toInt64 &&& 63).toBitVec.smod 64).toNat).toNat = _
    rw [show (((nI 8).toInt64 &&& 63).toBitVec.smod 64).toNat = 8 by decide +kernel, BitVec.toNat_shiftLeft, Nat.shiftLeft_eq, l_tn (by omega), Nat.mod_eq_of_lt (by omega)]
  rw [e]
  have := Nat.shiftLeft_add_eq_or_of_lt (i := 8) (b := c) (by omega) a
  rw [Nat.shiftLeft_eq] at this
  exact this.symm
theorem wdV_pk {T : Nat → Int32} {n : Nat} {f : Nat → Nat} : ∀ m, m < 8 → (∀ i, i < m → T (n + i) = nI (f i) ∧ f i < 128) → wdV T n m = lN (pkN f m)
  | 0, _, _ => rfl
  | m + 1, hm, h => by
    have ih := wdV_pk m (by omega) (fun i hi => h i (by omega))
    obtain ⟨h1, h2⟩ := h m (by omega)
    have hlt := pkN_lt (f := f) m (fun i hi => by have := (h i (by omega)).2; omega)
    have h6 : 256 ^ m ≤ 256 ^ 6 := Nat.pow_le_pow_right (by decide) (by omega)
    simp only [wdV, pkN]
    rw [if_pos (by omega), ih, h1, nI_l (n := f m) (by omega)]
    exact l_shl8 (a := pkN f m) (c := f m) (by omega) (by omega)
theorem lN_inj {a b : Nat} (ha : a < 2 ^ 63) (hb : b < 2 ^ 63) (h : lN a = lN b) : a = b := (pk_lEQ ha hb).mp h
theorem ltF_to {T : Nat → Int32} {L : Nat} : ∀ m d n, m ≤ d → (∀ i, i < m → chP 97 122 T L (n + i)) → ¬ chP 97 122 T L (n + m) → ltF T L d n = n + m
  | 0, 0, n, _, _, _ => rfl
  | 0, d + 1, n, _, _, h => by
    simp only [ltF]
    rw [if_neg (show ¬ chP 97 122 T L n from h)]; rfl
  | m + 1, 0, n, h, _, _ => absurd h (by omega)
  | m + 1, d + 1, n, h, h1, h2 => by
    simp only [ltF]
    rw [if_pos (show chP 97 122 T L n from h1 0 (by omega)), ltF_to m d (n + 1) (by omega) (fun i hi => by rw [show n + 1 + i = n + (i + 1) by omega]; exact h1 (i + 1) (by omega)) (by rw [show n + 1 + m = n + (m + 1) by omega]; exact h2)]
    omega
theorem ltF_in {T : Nat → Int32} {L : Nat} : ∀ d n i, i < ltF T L d n - n → chP 97 122 T L (n + i)
  | 0, n, i, h => by simp only [ltF] at h; omega
  | d + 1, n, i, h => by
    simp only [ltF] at h
    by_cases c : chP 97 122 T L n
    · rw [if_pos c] at h
      cases i with
      | zero => exact c
      | succ i =>
        have h1 := (ltF_le (T := T) (L := L) d (n + 1)).1
        have := ltF_in (T := T) (L := L) d (n + 1) i (by omega)
        rwa [show n + 1 + i = n + (i + 1) by omega] at this
    · rw [if_neg c] at h; omega
theorem ltF_out {T : Nat → Int32} {L : Nat} : ∀ d n, L - n ≤ d → ¬ chP 97 122 T L (ltF T L d n)
  | 0, n, h => by simp only [ltF]; exact fun q => by have := q.1; omega
  | d + 1, n, h => by
    simp only [ltF]
    by_cases c : chP 97 122 T L n
    · rw [if_pos c]; exact ltF_out d (n + 1) (by omega)
    · rw [if_neg c]; exact c
theorem chP_see {T : Nat → Int32} {L n lo hi : Nat} (hB : ∀ j, j < L → isB (T j)) (hlo : 0 < lo ∧ lo < 128) (hhi : hi < 128) : chP lo hi T L n ↔ (nI lo ≤ seeV T L n ∧ seeV T L n ≤ nI hi) := by
  constructor
  · rintro ⟨h1, h2, h3⟩
    obtain ⟨k, hk, e⟩ := hB n h1
    have e2 : ∃ c, c < 128 ∧ T n = nI c := by
      rw [e] at h2 ⊢
      refine ⟨k - 128, by omega, ?_⟩
      rcases Nat.lt_or_ge k 128 with q | q
      · exact absurd (Int32.lt_of_lt_of_le (pk_sneg (a := k) (b := 128) (by omega) q) (nI_pos' (n := 0) (by omega))) (Int32.not_lt.mpr (Int32.le_trans (nI_pos' (n := lo) (by omega)) h2))
      · exact pk_sub q
    obtain ⟨c, hc, ec⟩ := e2
    rw [(see_at hB hc).mpr ⟨h1, ec⟩, ← ec]
    exact ⟨h2, h3⟩
  · rintro ⟨h1, h2⟩
    have h0 : 0 ≤ seeV T L n := Int32.le_trans (nI_pos' (n := lo) (by omega)) h1
    obtain ⟨c, hc, ec⟩ := nat_of (b := hi) (by omega) ⟨h0, h2⟩
    obtain ⟨a1, a2⟩ := (see_at hB (show c < 128 by omega)).mp ec
    rw [ec] at h1 h2
    exact ⟨a1, by rw [a2]; exact h1, by rw [a2]; exact h2⟩
def jsW : List Int64 := [439788663417, 123581014175598, 1668248171, 108187867505765, 6713191, 422775452260, 6383981, 444301539187, 465624852596, 1936286821, 1752135026, 131277443786868, 1919905645, 107075403346532, 512735409267, 1836020325, 26982, 7237492, 6385252, 28530]
def jsV (i : Nat) : Int64 := jsW.getD i 0
def jsF (i k : Nat) : Nat := ((jsB.getD i []).getD k 0).toNatClampNeg
theorem js_W : ∀ i, i < 20 → jsV i = lN (pkN (jsF i) (jsL.getD i 0)) := by decide +kernel
theorem js_F {i k : Nat} (hi : i < 20) (hk : k < jsL.getD i 0) : 97 ≤ jsF i k ∧ jsF i k ≤ 122 ∧ (jsB.getD i []).getD k 0 = nI (jsF i k) := by
  obtain ⟨q, h1, h2, h3⟩ := js_ch i hi k hk
  have e : jsF i k = q := by unfold jsF; rw [h3]; exact nI_clamp (by omega)
  rw [e]; exact ⟨h1, h2, h3⟩
/-- a word of the class's is a word of the reference's -/
theorem wd_js {T : Nat → Int32} {L n i : Nat} (hB : ∀ j, j < L → isB (T j)) (hi : i < 20) : wdP T L n (jsV i) ↔ (∀ k, k < jsL.getD i 0 → seeV T L (n + k) = (jsB.getD i []).getD k 0) ∧ ¬ chP 97 122 T L (n + jsL.getD i 0) := by
  obtain ⟨hl1, hl2, hl3⟩ := js_all i hi
  have hgB : ∀ k, k < jsL.getD i 0 → 0 < jsF i k ∧ jsF i k < 256 := fun k hk => by
    have := js_F hi hk; omega
  constructor
  · rintro ⟨h1, h2, h3⟩
    have hch := fun k hk => ltF_in (T := T) (L := L) (L - n) n k hk
    have hout : ¬ chP 97 122 T L (ltN T L n) := ltF_out (T := T) (L := L) (L - n) n (Nat.le_refl _)
    generalize hm : ltN T L n - n = m at h2 h3 hch
    have hfT : ∀ k, k < m → T (n + k) = nI (seeV T L (n + k)).toNatClampNeg ∧ 97 ≤ (seeV T L (n + k)).toNatClampNeg ∧ (seeV T L (n + k)).toNatClampNeg ≤ 122 ∧ seeV T L (n + k) = nI (seeV T L (n + k)).toNatClampNeg := by
      intro k hk
      have hc := hch k hk
      have hs := (chP_see hB (by omega) (by omega)).mp hc
      obtain ⟨c, hc1, hc2⟩ := nat_of (b := 122) (by omega) ⟨Int32.le_trans (by decide) hs.1, hs.2⟩
      rw [hc2] at hs ⊢
      rw [nI_clamp (by omega)]
      have h97 := (nI_leI (by omega) (by omega)).mp hs.1
      exact ⟨((see_at hB (by omega)).mp hc2).2, h97, hc1, rfl⟩
    have e := wdV_pk (f := fun k => (seeV T L (n + k)).toNatClampNeg) m h2 (fun k hk => ⟨(hfT k hk).1, by have := (hfT k hk).2; omega⟩)
    rw [h3, js_W i hi] at e
    have b1 : pkN (jsF i) (jsL.getD i 0) < 2 ^ 63 := Nat.lt_of_lt_of_le (pkN_lt _ (fun k hk => (hgB k hk).2)) (Nat.le_trans (Nat.pow_le_pow_right (by decide) (show jsL.getD i 0 ≤ 7 by omega)) (by decide))
    have b2 : pkN (fun k => (seeV T L (n + k)).toNatClampNeg) m < 2 ^ 63 := Nat.lt_of_lt_of_le (pkN_lt _ (fun k hk => by have := (hfT k hk).2; omega)) (Nat.le_trans (Nat.pow_le_pow_right (by decide) (show m ≤ 7 by omega)) (by decide))
    obtain ⟨e1, e2⟩ := pkN_inj _ _ hgB (fun k hk => by have := (hfT k hk).2; exact ⟨by omega, by omega⟩) (lN_inj b1 b2 e)
    refine ⟨fun k hk => ?_, ?_⟩
    · rw [(hfT k (by omega)).2.2.2, ← e2 k hk]; exact (js_F hi hk).2.2.symm
    · rw [e1, show n + m = ltN T L n by omega]; exact hout
  · rintro ⟨h1, h2⟩
    have hc : ∀ k, k < jsL.getD i 0 → T (n + k) = nI (jsF i k) ∧ chP 97 122 T L (n + k) := by
      intro k hk
      obtain ⟨f1, f2, f3⟩ := js_F hi hk
      have hs := h1 k hk
      rw [f3] at hs
      obtain ⟨a1, a2⟩ := (see_at hB (show jsF i k < 128 by omega)).mp hs
      exact ⟨a2, a1, by rw [a2]; exact nI_le f1 (by omega), by rw [a2]; exact nI_le f2 (by omega)⟩
    have hlt : n + jsL.getD i 0 ≤ L := by
      have := (hc (jsL.getD i 0 - 1) (by omega)).2.1
      omega
    have e : ltN T L n = n + jsL.getD i 0 := ltF_to (jsL.getD i 0) (L - n) n (by omega) (fun k hk => (hc k hk).2) h2
    refine ⟨by omega, by omega, ?_⟩
    rw [e, show n + jsL.getD i 0 - n = jsL.getD i 0 by omega, js_W i hi]
    exact wdV_pk _ hl2 (fun k hk => ⟨(hc k hk).1, by have := js_F hi hk; omega⟩)
theorem wd_end {T : Nat → Int32} {L n i : Nat} (hB : ∀ j, j < L → isB (T j)) (hi : i < 20) (h : wdP T L n (jsV i)) : ltN T L n = n + jsL.getD i 0 ∧ n + jsL.getD i 0 ≤ L := by
  obtain ⟨hl1, hl2, hl3⟩ := js_all i hi
  obtain ⟨h1, h2⟩ := (wd_js hB hi).mp h
  have hc : ∀ k, k < jsL.getD i 0 → chP 97 122 T L (n + k) := fun k hk => by
    obtain ⟨f1, f2, f3⟩ := js_F hi hk
    have hs := h1 k hk
    rw [f3] at hs
    obtain ⟨a1, a2⟩ := (see_at hB (show jsF i k < 128 by omega)).mp hs
    exact ⟨a1, by rw [a2]; exact nI_le f1 (by omega), by rw [a2]; exact nI_le f2 (by omega)⟩
  have := (hc (jsL.getD i 0 - 1) (by omega)).1
  exact ⟨ltF_to (jsL.getD i 0) (L - n) n (by omega) hc h2, by omega⟩
