/-! ===== texts: TESTS, told two ways: one within the other; and by a row of what is open ===== -/
def loopW (T : Nat → Int32) (L : Nat) (v : Int64) (s : Nat) (item : Nat → Nat → RT) : Nat → Nat → Nat → List Nat → RT
  | 0, n, m, o => .ok (n, m, o)
  | d + 1, n, m, o => if wdP T L (skN T L n) v then match item (ltN T L (skN T L n)) m with
      | .error f => .error f
      | .ok (n', m', k) => loopW T L v s item d n' m' (o ++ k ++ [s])
    else .ok (skN T L n, m, o)
def seqW (T : Nat → Int32) (L : Nat) (v : Int64) (s : Nat) (item : Nat → Nat → RT) (n m : Nat) : RT := match item n m with
  | .error f => .error f
  | .ok (n', m', k) => loopW T L v s item 400 n' m' k
def partF (T : Nat → Int32) (L : Nat) (fact : Nat → Nat → RT) : Nat → Nat → RT := seqW T L 6385252 12 fact
def testF (T : Nat → Int32) (L : Nat) (fact : Nat → Nat → RT) : Nat → Nat → RT := seqW T L 28530 13 (partF T L fact)
def factE (T : Nat → Int32) (L : Nat) : Nat → Nat → Nat → RT
  | 0, n, m => if wdP T L (skN T L n) 7237492 ∨ seeV T L (skN T L n) = nI 91 then .error (ftN 2 (skN T L n)) else cmpF T L n m
  | e + 1, n, m => if wdP T L (skN T L n) 7237492 then (match factE T L e (ltN T L (skN T L n)) m with
      | .error f => .error f
      | .ok (n', m', k) => .ok (n', m', k ++ [11]))
    else if seeV T L (skN T L n) = nI 91 then (match testF T L (factE T L e) (skN T L n + 1) m with
      | .error f => .error f
      | .ok (n', m', k) => if seeV T L (skN T L n') = nI 93 then .ok (skN T L n' + 1, m', k) else .error (ftN 0 (skN T L n')))
    else cmpF T L n m
/-- strength of what is open: 11 not, 12 and, 13 or, 91 the bracket -/
def strN (k : Nat) : Nat := if k = 13 then 1 else if k = 12 then 2 else if k = 11 then 3 else 0
/-- what is put when all of at least this strength is settled, and what stays open -/
def stP (s : Nat) : List Nat → List Nat
  | [] => []
  | k :: K => if s ≤ strN k then k :: stP s K else []
def stK (s : Nat) : List Nat → List Nat
  | [] => []
  | k :: K => if s ≤ strN k then stK s K else k :: K
def dpN : List Nat → Nat
  | [] => 0
  | k :: K => if k = 11 ∨ k = 91 then dpN K + 1 else dpN K
theorem dp_le : ∀ K, dpN K ≤ K.length
  | [] => Nat.le_refl _
  | k :: K => by
    have := dp_le K
    unfold dpN
    split
    · simp only [List.length_cons]; omega
    · simp only [List.length_cons]; omega
def sy (T : Nat → Int32) (L : Nat) : Nat → Bool → List Nat → Nat → Nat → List Nat → RT
  | 0, _, _, _, _, _ => .error 0
  | d + 1, false, K, n, m, o =>
    if wdP T L (skN T L n) 7237492 then (if dpN K = 10 then .error (ftN 2 (skN T L n)) else sy T L d false (11 :: K) (ltN T L (skN T L n)) m o)
    else if seeV T L (skN T L n) = nI 91 then (if dpN K = 10 then .error (ftN 2 (skN T L n)) else sy T L d false (91 :: K) (skN T L n + 1) m o)
    else match cmpF T L n m with
      | .error f => .error f
      | .ok (n', m', k) => sy T L d true K n' m' (o ++ k)
  | d + 1, true, K, n, m, o =>
    if seeV T L (skN T L n) = nI 93 ∧ 91 ∈ stK 3 K then sy T L d true (stK 1 (stK 3 K)).tail (skN T L n + 1) m (o ++ stP 3 K ++ stP 1 (stK 3 K))
    else if wdP T L (skN T L n) 6385252 then sy T L d false (12 :: stK 2 (stK 3 K)) (ltN T L (skN T L n)) m (o ++ stP 3 K ++ stP 2 (stK 3 K))
    else if wdP T L (skN T L n) 28530 then sy T L d false (13 :: stK 1 (stK 3 K)) (ltN T L (skN T L n)) m (o ++ stP 3 K ++ stP 1 (stK 3 K))
    else if 91 ∈ stK 3 K then .error (ftN 0 (skN T L n)) else .ok (skN T L n, m, o ++ stP 3 K ++ stP 1 (stK 3 K))
theorem sy_F {T : Nat → Int32} {L d n m : Nat} {K o : List Nat} : sy T L (d + 1) false K n m o = if wdP T L (skN T L n) 7237492 then (if dpN K = 10 then .error (ftN 2 (skN T L n)) else sy T L d false (11 :: K) (ltN T L (skN T L n)) m o)
    else if seeV T L (skN T L n) = nI 91 then (if dpN K = 10 then .error (ftN 2 (skN T L n)) else sy T L d false (91 :: K) (skN T L n + 1) m o)
    else match cmpF T L n m with
      | .error f => .error f
      | .ok (n', m', k) => sy T L d true K n' m' (o ++ k) := rfl
theorem sy_T {T : Nat → Int32} {L d n m : Nat} {K o : List Nat} : sy T L (d + 1) true K n m o = if seeV T L (skN T L n) = nI 93 ∧ 91 ∈ stK 3 K then sy T L d true (stK 1 (stK 3 K)).tail (skN T L n + 1) m (o ++ stP 3 K ++ stP 1 (stK 3 K))
    else if wdP T L (skN T L n) 6385252 then sy T L d false (12 :: stK 2 (stK 3 K)) (ltN T L (skN T L n)) m (o ++ stP 3 K ++ stP 2 (stK 3 K))
    else if wdP T L (skN T L n) 28530 then sy T L d false (13 :: stK 1 (stK 3 K)) (ltN T L (skN T L n)) m (o ++ stP 3 K ++ stP 1 (stK 3 K))
    else if 91 ∈ stK 3 K then .error (ftN 0 (skN T L n)) else .ok (skN T L n, m, o ++ stP 3 K ++ stP 1 (stK 3 K)) := rfl
/-! what pieces keep -/
theorem wd_lt {T : Nat → Int32} {L n : Nat} {v : Int64} (h : wdP T L n v) : n < L := by
  refine Nat.lt_of_not_le (fun q => ?_)
  have h1 := h.1
  unfold ltN at h1
  rw [show L - n = 0 by omega] at h1
  exact absurd h1 (Nat.lt_irrefl n)
theorem loopW_eq {T : Nat → Int32} {L : Nat} {v : Int64} {s : Nat} {item : Nat → Nat → RT} {d n m : Nat} {o : List Nat} (h : L - n ≤ d) : loopW T L v s item d n m o = if wdP T L (skN T L n) v then match item (ltN T L (skN T L n)) m with
      | .error f => .error f
      | .ok (n', m', k) => loopW T L v s item (d - 1) n' m' (o ++ k ++ [s])
    else .ok (skN T L n, m, o) := by
  cases d with
  | zero =>
    rw [skF_0 (by omega), if_neg (fun q => absurd (wd_lt q) (by omega))]; rfl
  | succ d => rfl
theorem loopW_ok {T : Nat → Int32} {L : Nat} {v : Int64} {s : Nat} {item : Nat → Nat → RT} (hi : okI L item) : ∀ (e d n m : Nat) (o : List Nat), L - n ≤ e → e ≤ d → n ≤ L → m ≤ 60 → match loopW T L v s item d n m o with
    | .error f => 0 < f ∧ f ≤ 8 * L + 8
    | .ok (n', m', k) => n ≤ n' ∧ n' ≤ L ∧ m' ≤ 60 ∧ n + k.length ≤ n' + o.length := by
  intro e
  induction e with
  | zero =>
    intro d n m o he hd hn hm
    rw [loopW_eq (by omega), skF_0 (by omega), if_neg (fun q => absurd (wd_lt q) (by omega))]
    exact ⟨Nat.le_refl _, hn, hm, Nat.le_refl _⟩
  | succ e ih =>
    intro d n m o he hd hn hm
    rw [loopW_eq (by omega)]
    have hq1 := sk_ge (T := T) (L := L) (n := n)
    have hq2 := sk_L (T := T) hn
    generalize skN T L n = q at *
    by_cases hs : wdP T L q v
    · rw [if_pos hs]
      have hlt := hs.1
      have hl2 := (lt_le (T := T) hq2).2
      have := hi (ltN T L q) m hl2 hm
      generalize item (ltN T L q) m = u at this
      cases u with
      | error f => exact this
      | ok p =>
        obtain ⟨n', m', k⟩ := p
        obtain ⟨b1, b2, b3, b4⟩ := this
        have := ih (d - 1) n' m' (o ++ k ++ [s]) (by omega) (by omega) b2 b3
        show match loopW T L v s item (d - 1) n' m' (o ++ k ++ [s]) with
          | .error f => 0 < f ∧ f ≤ 8 * L + 8
          | .ok (n', m', k) => n ≤ n' ∧ n' ≤ L ∧ m' ≤ 60 ∧ n + k.length ≤ n' + o.length
        generalize loopW T L v s item (d - 1) n' m' (o ++ k ++ [s]) = r at this
        cases r with
        | error f => exact this
        | ok p =>
          obtain ⟨n2, m2, k2⟩ := p
          obtain ⟨c1, c2, c3, c4⟩ := this
          rw [List.length_append, List.length_append] at c4
          have c4 : n' + k2.length ≤ n2 + (o.length + k.length + 1) := c4
          exact ⟨by omega, c2, c3, by omega⟩
    · rw [if_neg hs]
      exact ⟨hq1, hq2, hm, by show n + o.length ≤ q + o.length; omega⟩
theorem okI_seqW {T : Nat → Int32} {L : Nat} {v : Int64} {s : Nat} {item : Nat → Nat → RT} (hi : okI L item) (hL : L ≤ 400) : okI L (seqW T L v s item) := by
  intro n m hn hm
  have := hi n m hn hm
  unfold seqW
  generalize item n m = u at this
  cases u with
  | error f => exact this
  | ok p =>
    obtain ⟨n', m', k⟩ := p
    obtain ⟨b1, b2, b3, b4⟩ := this
    have := loopW_ok (T := T) (v := v) (s := s) hi (L - n') 400 n' m' k (Nat.le_refl _) (by omega) b2 b3
    show okR L n (loopW T L v s item 400 n' m' k)
    generalize loopW T L v s item 400 n' m' k = r at this
    cases r with
    | error f => exact this
    | ok p =>
      obtain ⟨n2, m2, k2⟩ := p
      obtain ⟨c1, c2, c3, c4⟩ := this
      exact ⟨by omega, c2, c3, by omega⟩
theorem okI_test {T : Nat → Int32} {L : Nat} {fact : Nat → Nat → RT} (h : okI L fact) (hL : L ≤ 400) : okI L (testF T L fact) := okI_seqW (okI_seqW h hL) hL
theorem okI_fact {T : Nat → Int32} {L : Nat} (hL : L ≤ 400) : ∀ e, okI L (factE T L e) := by
  intro e
  induction e with
  | zero =>
    intro n m hn hm
    have h3 := sk_L (T := T) hn
    unfold factE
    split
    · exact ⟨by unfold ftN; omega, by unfold ftN; omega⟩
    · exact okI_cmp hL n m hn hm
  | succ e ih =>
    intro n m hn hm
    have hq1 := sk_ge (T := T) (L := L) (n := n)
    have hq2 := sk_L (T := T) hn
    unfold factE
    generalize skN T L n = q at *
    split
    · next hw =>
      have hlt := hw.1
      have hl2 := (lt_le (T := T) hq2).2
      have := ih (ltN T L q) m hl2 hm
      generalize factE T L e (ltN T L q) m = u at this
      cases u with
      | error f => exact this
      | ok p =>
        obtain ⟨n', m', k⟩ := p
        obtain ⟨b1, b2, b3, b4⟩ := this
        have hl : (k ++ [11]).length = k.length + 1 := List.length_append
        exact ⟨by omega, b2, b3, by omega⟩
    · split
      · next hw hs =>
        have hlt : q < L := by
          refine Nat.lt_of_not_le (fun z => ?_)
          rw [see_end z] at hs
          exact absurd hs (by decide)
        have := okI_test (T := T) ih hL (q + 1) m (by omega) hm
        generalize testF T L (factE T L e) (q + 1) m = u at this
        cases u with
        | error f => exact this
        | ok p =>
          obtain ⟨n', m', k⟩ := p
          obtain ⟨b1, b2, b3, b4⟩ := this
          have c1 := sk_ge (T := T) (L := L) (n := n')
          have c2 := sk_L (T := T) b2
          show okR L n (if seeV T L (skN T L n') = nI 93 then .ok (skN T L n' + 1, m', k) else .error (ftN 0 (skN T L n')))
          by_cases e1 : seeV T L (skN T L n') = nI 93
          · rw [if_pos e1]
            have hlt : skN T L n' < L := by
              refine Nat.lt_of_not_le (fun z => ?_)
              rw [see_end z] at e1
              exact absurd e1 (by decide)
            exact ⟨by omega, by omega, b3, by omega⟩
          · rw [if_neg e1]
            exact ⟨by unfold ftN; omega, by unfold ftN; omega⟩
      · exact okI_cmp hL n m hn hm
/-! both ways are one -/
theorem stK_not {K : List Nat} {k : Nat} (h : strN k < 3) : stK 3 (k :: K) = k :: K := by unfold stK; rw [if_neg (by omega)]
theorem stP_not {K : List Nat} {k : Nat} (h : strN k < 3) : stP 3 (k :: K) = [] := by unfold stP; rw [if_neg (by omega)]
/-- 'not' on top goes first -/
theorem sy_not {T : Nat → Int32} {L d n m : Nat} {K o : List Nat} : sy T L d true (11 :: K) n m o = sy T L d true K n m (o ++ [11]) := by
  cases d with
  | zero => rfl
  | succ d =>
    have e1 : stK 3 (11 :: K) = stK 3 K := rfl
    have e2 : o ++ stP 3 (11 :: K) = o ++ [11] ++ stP 3 K := by
      show o ++ (11 :: stP 3 K) = _
      rw [List.append_assoc]; rfl
    unfold sy
    rw [e1, e2]
/-- no 'not' on top -/
def top3 (K : List Nat) : Prop := stK 3 K = K ∧ stP 3 K = []
theorem top3_nil : top3 [] := ⟨rfl, rfl⟩
theorem top3_c {K : List Nat} {k : Nat} (h : strN k < 3) : top3 (k :: K) := ⟨stK_not h, stP_not h⟩
theorem sy_and {T : Nat → Int32} {L d n m : Nat} {K o : List Nat} (h : top3 K) : sy T L d true (12 :: K) n m o = sy T L d true K n m (o ++ [12]) := by
  cases d with
  | zero => rfl
  | succ d =>
    have e1 : stK 3 (12 :: K) = 12 :: K := rfl
    have e2 : stP 3 (12 :: K) = [] := rfl
    have e3 : ∀ K, stK 1 (12 :: K) = stK 1 K := fun K => rfl
    have e4 : ∀ K, stK 2 (12 :: K) = stK 2 K := fun K => rfl
    have e5 : ∀ K, stP 1 (12 :: K) = 12 :: stP 1 K := fun K => rfl
    have e6 : ∀ K, stP 2 (12 :: K) = 12 :: stP 2 K := fun K => rfl
    have e7 : (91 ∈ 12 :: K) = (91 ∈ K) := by
      refine propext ⟨fun q => ?_, fun q => List.mem_cons_of_mem _ q⟩
      rcases List.mem_cons.mp q with z | z
      · exact absurd z (by decide)
      · exact z
    have ap : ∀ (x : List Nat), o ++ [] ++ 12 :: x = o ++ [12] ++ [] ++ x := by intro x; simp
    unfold sy
    simp only [e1, e2, e3, e4, e5, e6, e7, h.1, h.2, ap]
theorem sy_or {T : Nat → Int32} {L d n m : Nat} {K o : List Nat} (h : top3 K) (hw : ¬ wdP T L (skN T L n) 6385252) : sy T L d true (13 :: K) n m o = sy T L d true K n m (o ++ [13]) := by
  cases d with
  | zero => rfl
  | succ d =>
    have e1 : stK 3 (13 :: K) = 13 :: K := rfl
    have e2 : stP 3 (13 :: K) = [] := rfl
    have e3 : ∀ K, stK 1 (13 :: K) = stK 1 K := fun K => rfl
    have e5 : ∀ K, stP 1 (13 :: K) = 13 :: stP 1 K := fun K => rfl
    have e7 : (91 ∈ 13 :: K) = (91 ∈ K) := by
      refine propext ⟨fun q => ?_, fun q => List.mem_cons_of_mem _ q⟩
      rcases List.mem_cons.mp q with z | z
      · exact absurd z (by decide)
      · exact z
    have ap : ∀ (x : List Nat), o ++ [] ++ 13 :: x = o ++ [13] ++ [] ++ x := by intro x; simp
    unfold sy
    simp only [e1, e2, e3, e5, e7, h.1, h.2, ap, if_neg hw]
/-- the row of open signs ends a TEST: nothing that could be settled is on top -/
def base (K : List Nat) : Prop := K = [] ∨ ∃ K', K = 91 :: K'
theorem base_st {K : List Nat} (h : base K) (s : Nat) (hs : 0 < s) : stK s K = K ∧ stP s K = [] := by
  rcases h with rfl | ⟨K', rfl⟩
  · exact ⟨rfl, rfl⟩
  · have : ¬ s ≤ strN 91 := by show ¬ s ≤ 0; omega
    exact ⟨by unfold stK; rw [if_neg this], by unfold stP; rw [if_neg this]⟩
/-- what a piece does, told of sy -/
def syI (T : Nat → Int32) (L : Nat) (item : Nat → Nat → RT) (K : List Nat) : Prop := ∀ d n m o, n ≤ L → m ≤ 60 → L - n < d → match item n m with
  | .error f => sy T L d false K n m o = .error f
  | .ok (n', m', k) => ∃ d', L - n' < d' ∧ sy T L d false K n m o = sy T L d' true K n' m' (o ++ k)
theorem chr_see : ∀ j, j < 128 → nI j &&& nI 255 = nI j := by decide +kernel
theorem wd_see {T : Nat → Int32} {L n : Nat} {v : Int64} (h : wdP T L n v) : ¬ seeV T L n = nI 93 ∧ ¬ seeV T L n = nI 91 := by
  have hn := wd_lt h
  have hc : chP 97 122 T L n := by
    refine Decidable.byContradiction (fun q => ?_)
    have h1 := h.1
    obtain ⟨d, e⟩ : ∃ d, L - n = d + 1 := ⟨L - n - 1, by omega⟩
    unfold ltN at h1
    rw [e, show ltF T L (d + 1) n = n from if_neg q] at h1
    exact absurd h1 (Nat.lt_irrefl n)
  obtain ⟨j, hj, e⟩ := nI_of2 (x := T n) (M := nI 122) (n := 122) (by decide) (fun q => absurd hc.2.1 (Int32.not_le.mpr (Int32.lt_of_lt_of_le q (by decide)))) hc.2.2
  have h97 : 97 ≤ j := by
    have := hc.2.1
    rw [e] at this
    exact (nI_leI (by omega) (by omega)).mp this
  unfold seeV
  rw [if_pos hn, e, chr_see j (by omega)]
  exact ⟨fun q => absurd ((nI_eq (by omega) (by omega)).mp q) (by omega), fun q => absurd ((nI_eq (by omega) (by omega)).mp q) (by omega)⟩
theorem sy_sk {T : Nat → Int32} {L d n m : Nat} {K o : List Nat} : sy T L d true K (skN T L n) m o = sy T L d true K n m o := by
  cases d with
  | zero => rfl
  | succ d =>
    have : skN T L (skN T L n) = skN T L n := skN_idem
    unfold sy
    rw [this]
theorem wd_uniq {T : Nat → Int32} {L n : Nat} {v v' : Int64} (h : wdP T L n v) (hv : v ≠ v') : ¬ wdP T L n v' := fun q => hv (h.2.2.symm.trans q.2.2)
theorem sy_partL {T : Nat → Int32} {L : Nat} {item : Nat → Nat → RT} {K : List Nat} (hi : okI L item) (h3 : top3 K) (h2 : stK 2 K = K ∧ stP 2 K = []) (H : syI T L item (12 :: K)) : ∀ (e D d n m : Nat) (o k : List Nat), L - n = e → e ≤ D → n ≤ L → m ≤ 60 → L - n < d → match loopW T L 6385252 12 item D n m k with
    | .error f => sy T L d true K n m (o ++ k) = .error f
    | .ok (n', m', k') => ∃ d', L - n' < d' ∧ sy T L d true K n m (o ++ k) = sy T L d' true K n' m' (o ++ k') ∧ skN T L n' = n' ∧ ¬ wdP T L n' 6385252 := by
  intro e
  induction e using Nat.strongRecOn with
  | _ e ih =>
    intro D d n m o k he hD hn hm hd
    rw [loopW_eq (by omega)]
    have hq1 := sk_ge (T := T) (L := L) (n := n)
    have hq2 := sk_L (T := T) hn
    have hqe : skN T L (skN T L n) = skN T L n := skN_idem
    by_cases hw : wdP T L (skN T L n) 6385252
    · rw [if_pos hw]
      have hlt := hw.1
      have hl2 := (lt_le (T := T) hq2).2
      obtain ⟨d, rfl⟩ : ∃ d0, d = d0 + 1 := ⟨d - 1, by omega⟩
      have e1 : sy T L (d + 1) true K n m (o ++ k) = sy T L d false (12 :: K) (ltN T L (skN T L n)) m (o ++ k) := by
        show (if seeV T L (skN T L n) = nI 93 ∧ 91 ∈ stK 3 K then _ else if wdP T L (skN T L n) 6385252 then sy T L d false (12 :: stK 2 (stK 3 K)) (ltN T L (skN T L n)) m (o ++ k ++ stP 3 K ++ stP 2 (stK 3 K)) else _) = _
        rw [if_neg (fun q => (wd_see hw).1 q.1), if_pos hw, h3.1, h3.2, h2.1, h2.2, List.append_nil, List.append_nil]
      rw [e1]
      have h4 := H d (ltN T L (skN T L n)) m (o ++ k) hl2 hm (by omega)
      have h5 := hi (ltN T L (skN T L n)) m hl2 hm
      generalize item (ltN T L (skN T L n)) m = u at h4 h5
      cases u with
      | error f => exact h4
      | ok p =>
        obtain ⟨n1, m1, k1⟩ := p
        obtain ⟨d1, hd1, h4⟩ := h4
        obtain ⟨b1, b2, b3, b4⟩ := h5
        have h6 := ih (L - n1) (by omega) (D - 1) d1 n1 m1 o (k ++ k1 ++ [12]) rfl (by omega) b2 b3 hd1
        have e2 : sy T L d false (12 :: K) (ltN T L (skN T L n)) m (o ++ k) = sy T L d1 true K n1 m1 (o ++ (k ++ k1 ++ [12])) := by
          rw [h4, sy_and h3]; simp only [List.append_assoc]
        rw [e2]
        exact h6
    · rw [if_neg hw]
      exact ⟨d, by omega, sy_sk.symm, hqe, hw⟩
theorem sy_part {T : Nat → Int32} {L : Nat} {item : Nat → Nat → RT} {K : List Nat} (hL : L ≤ 400) (hi : okI L item) (h3 : top3 K) (h2 : stK 2 K = K ∧ stP 2 K = []) (H0 : syI T L item K) (H : syI T L item (12 :: K)) : ∀ (d n m : Nat) (o : List Nat), n ≤ L → m ≤ 60 → L - n < d → match partF T L item n m with
    | .error f => sy T L d false K n m o = .error f
    | .ok (n', m', k') => ∃ d', L - n' < d' ∧ sy T L d false K n m o = sy T L d' true K n' m' (o ++ k') ∧ skN T L n' = n' ∧ ¬ wdP T L n' 6385252 := by
  intro d n m o hn hm hd
  have h4 := H0 d n m o hn hm hd
  have h5 := hi n m hn hm
  unfold partF seqW
  generalize item n m = u at h4 h5
  cases u with
  | error f => exact h4
  | ok p =>
    obtain ⟨n1, m1, k1⟩ := p
    obtain ⟨d1, hd1, h4⟩ := h4
    obtain ⟨b1, b2, b3, b4⟩ := h5
    rw [h4]
    exact sy_partL hi h3 h2 H (L - n1) 400 d1 n1 m1 o k1 rfl (by omega) b2 b3 hd1
theorem sy_testL {T : Nat → Int32} {L : Nat} {item : Nat → Nat → RT} {K : List Nat} (hL : L ≤ 400) (hi : okI L item) (hb : base K) (H1 : syI T L item (13 :: K)) (H2 : syI T L item (12 :: 13 :: K)) : ∀ (e D d n m : Nat) (o k : List Nat), L - n = e → e ≤ D → n ≤ L → m ≤ 60 → L - n < d → ¬ wdP T L (skN T L n) 6385252 → match loopW T L 28530 13 (partF T L item) D n m k with
    | .error f => sy T L d true K n m (o ++ k) = .error f
    | .ok (n', m', k') => ∃ d', L - n' < d' ∧ sy T L d true K n m (o ++ k) = sy T L d' true K n' m' (o ++ k') ∧ skN T L n' = n' ∧ ¬ wdP T L n' 6385252 ∧ ¬ wdP T L n' 28530 := by
  intro e
  induction e using Nat.strongRecOn with
  | _ e ih =>
    intro D d n m o k he hD hn hm hd hna
    rw [loopW_eq (by omega)]
    have hq1 := sk_ge (T := T) (L := L) (n := n)
    have hq2 := sk_L (T := T) hn
    have hqe : skN T L (skN T L n) = skN T L n := skN_idem
    by_cases hw : wdP T L (skN T L n) 28530
    · rw [if_pos hw]
      have hlt := hw.1
      have hl2 := (lt_le (T := T) hq2).2
      obtain ⟨d, rfl⟩ : ∃ d0, d = d0 + 1 := ⟨d - 1, by omega⟩
      have e1 : sy T L (d + 1) true K n m (o ++ k) = sy T L d false (13 :: K) (ltN T L (skN T L n)) m (o ++ k) := by
        show (if seeV T L (skN T L n) = nI 93 ∧ 91 ∈ stK 3 K then _ else if wdP T L (skN T L n) 6385252 then _ else if wdP T L (skN T L n) 28530 then sy T L d false (13 :: stK 1 (stK 3 K)) (ltN T L (skN T L n)) m (o ++ k ++ stP 3 K ++ stP 1 (stK 3 K)) else _) = _
        rw [if_neg (fun q => (wd_see hw).1 q.1), if_neg hna, if_pos hw, (base_st hb 3 (by omega)).1, (base_st hb 3 (by omega)).2, (base_st hb 1 (by omega)).1, (base_st hb 1 (by omega)).2, List.append_nil, List.append_nil]
      rw [e1]
      have h4 := sy_part (K := 13 :: K) hL hi (top3_c (by decide)) ⟨rfl, rfl⟩ H1 H2 d (ltN T L (skN T L n)) m (o ++ k) hl2 hm (by omega)
      have h5 := okI_seqW (T := T) (v := 6385252) (s := 12) hi hL (ltN T L (skN T L n)) m hl2 hm
      change okR L _ (partF T L item (ltN T L (skN T L n)) m) at h5
      generalize partF T L item (ltN T L (skN T L n)) m = u at h4 h5
      cases u with
      | error f => exact h4
      | ok p =>
        obtain ⟨n1, m1, k1⟩ := p
        obtain ⟨d1, hd1, h4, h7, h8⟩ := h4
        obtain ⟨b1, b2, b3, b4⟩ := h5
        have h6 := ih (L - n1) (by omega) (D - 1) d1 n1 m1 o (k ++ k1 ++ [13]) rfl (by omega) b2 b3 hd1 (by rw [h7]; exact h8)
        have e2 : sy T L d false (13 :: K) (ltN T L (skN T L n)) m (o ++ k) = sy T L d1 true K n1 m1 (o ++ (k ++ k1 ++ [13])) := by
          rw [h4, sy_or (base_st hb 3 (by omega)) (by rw [h7]; exact h8)]; simp only [List.append_assoc]
        rw [e2]
        exact h6
    · rw [if_neg hw]
      exact ⟨d, by omega, sy_sk.symm, hqe, hna, hw⟩
theorem sy_test {T : Nat → Int32} {L : Nat} {item : Nat → Nat → RT} {K : List Nat} (hL : L ≤ 400) (hi : okI L item) (hb : base K) (H : ∀ K', dpN K' = dpN K → syI T L item K') : ∀ (d n m : Nat) (o : List Nat), n ≤ L → m ≤ 60 → L - n < d → match testF T L item n m with
    | .error f => sy T L d false K n m o = .error f
    | .ok (n', m', k') => ∃ d', L - n' < d' ∧ sy T L d false K n m o = sy T L d' true K n' m' (o ++ k') ∧ skN T L n' = n' ∧ ¬ wdP T L n' 6385252 ∧ ¬ wdP T L n' 28530 := by
  intro d n m o hn hm hd
  have h4 := sy_part hL hi (base_st hb 3 (by omega)) (base_st hb 2 (by omega)) (H K rfl) (H (12 :: K) rfl) d n m o hn hm hd
  have h5 := okI_seqW (T := T) (v := 6385252) (s := 12) hi hL n m hn hm
  change okR L _ (partF T L item n m) at h5
  unfold testF seqW
  generalize partF T L item n m = u at h4 h5
  cases u with
  | error f => exact h4
  | ok p =>
    obtain ⟨n1, m1, k1⟩ := p
    obtain ⟨d1, hd1, h4, h7, h8⟩ := h4
    obtain ⟨b1, b2, b3, b4⟩ := h5
    rw [h4]
    exact sy_testL hL hi hb (H (13 :: K) rfl) (H (12 :: 13 :: K) rfl) (L - n1) 400 d1 n1 m1 o k1 rfl (by omega) b2 b3 hd1 (by rw [h7]; exact h8)
theorem dp_not (K : List Nat) : dpN (11 :: K) = dpN K + 1 := rfl
theorem dp_br (K : List Nat) : dpN (91 :: K) = dpN K + 1 := rfl
theorem sy_fact {T : Nat → Int32} {L : Nat} (hL : L ≤ 400) : ∀ e, e ≤ 10 → ∀ K, dpN K = 10 - e → syI T L (factE T L e) K := by
  intro e
  induction e with
  | zero =>
    intro _ K hK d n m o hn hm hd
    obtain ⟨d, rfl⟩ : ∃ d0, d = d0 + 1 := ⟨d - 1, by omega⟩
    have h5 := okI_cmp (T := T) hL n m hn hm
    rw [sy_F]
    unfold factE
    by_cases h1 : wdP T L (skN T L n) 7237492
    · rw [if_pos (Or.inl h1), if_pos h1, if_pos hK]
    · by_cases h2 : seeV T L (skN T L n) = nI 91
      · rw [if_pos (Or.inr h2), if_neg h1, if_pos h2, if_pos hK]
      · rw [if_neg (fun q => q.elim h1 h2), if_neg h1, if_neg h2]
        generalize cmpF T L n m = u at h5
        cases u with
        | error f => rfl
        | ok p => exact ⟨d, by have := h5.1; have := h5.2.1; omega, rfl⟩
  | succ e ih =>
    intro he K hK d n m o hn hm hd
    have hK10 : ¬ dpN K = 10 := by omega
    obtain ⟨d, rfl⟩ : ∃ d0, d = d0 + 1 := ⟨d - 1, by omega⟩
    have h5 := okI_cmp (T := T) hL n m hn hm
    have hq1 := sk_ge (T := T) (L := L) (n := n)
    have hq2 := sk_L (T := T) hn
    rw [sy_F]
    unfold factE
    by_cases h1 : wdP T L (skN T L n) 7237492
    · rw [if_pos h1, if_pos h1, if_neg hK10]
      have hlt := h1.1
      have hl2 := (lt_le (T := T) hq2).2
      have h4 := ih (by omega) (11 :: K) (by rw [dp_not]; omega) d (ltN T L (skN T L n)) m o hl2 hm (by omega)
      generalize factE T L e (ltN T L (skN T L n)) m = u at h4
      cases u with
      | error f => exact h4
      | ok p =>
        obtain ⟨n1, m1, k1⟩ := p
        obtain ⟨d1, hd1, h4⟩ := h4
        exact ⟨d1, hd1, by rw [h4, sy_not, List.append_assoc]⟩
    · rw [if_neg h1, if_neg h1]
      by_cases h2 : seeV T L (skN T L n) = nI 91
      · rw [if_pos h2, if_pos h2, if_neg hK10]
        have hlt : skN T L n < L := by
          refine Nat.lt_of_not_le (fun z => ?_)
          rw [see_end z] at h2
          exact absurd h2 (by decide)
        have h4 := sy_test (T := T) (K := 91 :: K) hL (okI_fact hL e) (Or.inr ⟨K, rfl⟩) (fun K' hK' => ih (by omega) K' (by rw [hK', dp_br]; omega)) d (skN T L n + 1) m o (by omega) hm (by omega)
        have h6 := okI_test (T := T) (okI_fact (T := T) hL e) hL (skN T L n + 1) m (by omega) hm
        generalize testF T L (factE T L e) (skN T L n + 1) m = u at h4 h6
        cases u with
        | error f => exact h4
        | ok p =>
          obtain ⟨n1, m1, k1⟩ := p
          obtain ⟨d1, hd1, h4, h7, h8, h9⟩ := h4
          obtain ⟨d1, rfl⟩ : ∃ d0, d1 = d0 + 1 := ⟨d1 - 1, by omega⟩
          have e1 : stK 3 (91 :: K) = 91 :: K := rfl
          have e2 : stP 3 (91 :: K) = [] := rfl
          have e3 : stK 1 (91 :: K) = 91 :: K := rfl
          have e4 : stP 1 (91 :: K) = [] := rfl
          have hmem : 91 ∈ stK 3 (91 :: K) := List.mem_cons_self
          show match (if seeV T L (skN T L n1) = nI 93 then (Except.ok (skN T L n1 + 1, m1, k1) : RT) else .error (ftN 0 (skN T L n1))) with
            | .error f => sy T L d false (91 :: K) (skN T L n + 1) m o = .error f
            | .ok (n', m', k) => ∃ d', L - n' < d' ∧ sy T L d false (91 :: K) (skN T L n + 1) m o = sy T L d' true K n' m' (o ++ k)
          rw [h4, sy_T]
          by_cases h10 : seeV T L (skN T L n1) = nI 93
          · have hlt2 : skN T L n1 < L := by
              refine Nat.lt_of_not_le (fun z => ?_)
              rw [see_end z] at h10
              exact absurd h10 (by decide)
            have := sk_ge (T := T) (L := L) (n := n1)
            rw [if_pos h10, if_pos ⟨h10, hmem⟩, e1, e2, e3, e4, List.append_nil, List.append_nil]
            exact ⟨d1, by omega, rfl⟩
          · rw [if_neg h10, if_neg (fun q => h10 q.1), if_neg (by rw [h7]; exact h8), if_neg (by rw [h7]; exact h9), if_pos hmem]
      · rw [if_neg h2, if_neg h2]
        generalize cmpF T L n m = u at h5
        cases u with
        | error f => rfl
        | ok p => exact ⟨d, by have := h5.1; have := h5.2.1; omega, rfl⟩
/-- a TEST, either way -/
theorem sy_all {T : Nat → Int32} {L : Nat} (hL : L ≤ 400) (d n m : Nat) (hn : n ≤ L) (hm : m ≤ 60) (hd : L - n < d) (o : List Nat) : sy T L d false [] n m o = match testF T L (factE T L 10) n m with
    | .error f => .error f
    | .ok (n', m', k) => .ok (n', m', o ++ k) := by
  have h4 := sy_test (T := T) (K := []) hL (okI_fact hL 10) (Or.inl rfl) (fun K' hK' => sy_fact hL 10 (by omega) K' (by rw [hK']; rfl)) d n m o hn hm hd
  generalize testF T L (factE T L 10) n m = u at h4
  cases u with
  | error f => exact h4
  | ok p =>
    obtain ⟨n1, m1, k1⟩ := p
    obtain ⟨d1, hd1, h4, h7, h8, h9⟩ := h4
    obtain ⟨d1, rfl⟩ : ∃ d0, d1 = d0 + 1 := ⟨d1 - 1, by omega⟩
    rw [h4]
    show sy T L (d1 + 1) true [] n1 m1 (o ++ k1) = .ok (n1, m1, o ++ k1)
    rw [sy_T, h7, if_neg (fun q => absurd q.2 (by simp [stK])), if_neg h8, if_neg h9, if_neg (by simp [stK])]
    simp [stK, stP]
