/-! ===== RULES reckoned: signs one behind the other, how high they pile ===== -/
def evT (wd : Nat → Int64) (M : Nat) : List Nat → List Int64 → Option (List Int64)
  | [], st => some st
  | c :: k, st => if st.length < M then (stepM wd c st).bind (evT wd M k) else none
theorem evT_app {wd : Nat → Int64} {M : Nat} : ∀ (k1 k2 : List Nat) (st : List Int64), evT wd M (k1 ++ k2) st = (evT wd M k1 st).bind (evT wd M k2)
  | [], k2, st => rfl
  | c :: k1, k2, st => by
    show (if st.length < M then (stepM wd c st).bind (evT wd M (k1 ++ k2)) else none) = (if st.length < M then (stepM wd c st).bind (evT wd M k1) else none).bind (evT wd M k2)
    by_cases h : st.length < M
    · rw [if_pos h, if_pos h]
      cases stepM wd c st with
      | none => rfl
      | some st2 => exact evT_app k1 k2 st2
    · rw [if_neg h, if_neg h]; rfl
theorem stepM_ext {wd wd' : Nat → Int64} (h : ∀ i, i < 12 → wd i = wd' i) (c : Nat) (st : List Int64) : stepM wd c st = stepM wd' c st := by
  unfold stepM
  by_cases h1 : st.length < 64 ∧ c / 16 < 12
  · rw [h _ h1.2]
  · rw [if_neg h1, if_neg h1]
theorem evT_ext {wd wd' : Nat → Int64} (h : ∀ i, i < 12 → wd i = wd' i) {M : Nat} : ∀ (k : List Nat) (st : List Int64), evT wd M k st = evT wd' M k st
  | [], _ => rfl
  | c :: k, st => by
    unfold evT
    rw [stepM_ext h c st]
    congr 1
    funext
    exact congrArg _ (funext (fun s => evT_ext h k s))
/-- signs that put one number on top, D high at most; b: it is 0 or 1 -/
def wfT (b : Bool) (D : Nat) (k : List Nat) : Prop := (∀ c, c ∈ k → c < 16000000 ∧ c % 16 < 15 ∧ (c % 16 = 1 → c / 16 < 12)) ∧ ∀ wd : Nat → Int64, ∃ v : Int64, (b = true → v = 0 ∨ v = 1) ∧ ∀ (st : List Int64) (M : Nat), st.length + D ≤ M → M ≤ 64 → evT wd M k st = some (v :: st)
theorem wfT.mono {b : Bool} {D E : Nat} {k : List Nat} (h : wfT b D k) (hE : D ≤ E) : wfT b E k := by
  refine ⟨h.1, fun wd => ?_⟩
  obtain ⟨v, h1, h2⟩ := h.2 wd
  exact ⟨v, h1, fun st M hM => h2 st M (by omega)⟩
theorem wfT.weak {D : Nat} {k : List Nat} (h : wfT true D k) : wfT false D k := by
  refine ⟨h.1, fun wd => ?_⟩
  obtain ⟨v, -, h2⟩ := h.2 wd
  exact ⟨v, fun q => absurd q (by decide), h2⟩
theorem wf_val {x : Nat} (h : x < 16000000 ∧ (x % 16 = 0 ∨ (x % 16 = 1 ∧ x / 16 < 12))) : wfT false 1 [x] := by
  refine ⟨fun c hc => ?_, fun wd => ?_⟩
  · rw [List.mem_singleton.mp hc]
    exact ⟨h.1, by omega, by omega⟩
  · rcases h.2 with e | ⟨e, e2⟩
    · refine ⟨lN (x / 16), fun q => absurd q (by decide), fun st M hM hM2 => ?_⟩
      unfold evT
      rw [if_pos (by omega)]
      unfold stepM
      rw [if_pos e, if_pos (by omega)]; rfl
    · refine ⟨wd (x / 16), fun q => absurd q (by decide), fun st M hM hM2 => ?_⟩
      unfold evT
      rw [if_pos (by omega)]
      unfold stepM
      rw [if_neg (by omega), if_pos e, if_pos ⟨by omega, e2⟩]; rfl
/-- two numbers and a sign of two -/
theorem wf_bin {b b' : Bool} {D1 D2 D : Nat} {k1 k2 : List Nat} {s : Nat} (hs : 2 ≤ s ∧ s < 15 ∧ s ≠ 11) (h1 : wfT b D1 k1) (h2 : wfT b D2 k2) (hD : D1 ≤ D ∧ D2 + 1 ≤ D ∧ 3 ≤ D) (hb : b' = true → ∀ x y : Int64, (b = true → x = 0 ∨ x = 1) → (b = true → y = 0 ∨ y = 1) → oneF s x y = 0 ∨ oneF s x y = 1) : wfT b' D (k1 ++ k2 ++ [s]) := by
  refine ⟨fun c hc => ?_, fun wd => ?_⟩
  · rcases List.mem_append.mp hc with hc | hc
    · rcases List.mem_append.mp hc with hc | hc
      · exact h1.1 c hc
      · exact h2.1 c hc
    · rw [List.mem_singleton.mp hc]; omega
  · obtain ⟨x, x1, x2⟩ := h1.2 wd
    obtain ⟨y, y1, y2⟩ := h2.2 wd
    refine ⟨oneF s x y, fun q => hb q x y x1 y1, fun st M hM hM2 => ?_⟩
    rw [evT_app, evT_app, x2 st M (by omega) hM2]
    show ((evT wd M k2 (x :: st)).bind (evT wd M [s])) = _
    rw [y2 (x :: st) M (by simp only [List.length_cons]; omega) hM2]
    show evT wd M [s] (y :: x :: st) = _
    unfold evT
    rw [if_pos (by simp only [List.length_cons]; omega)]
    unfold stepM
    rw [show s % 16 = s by omega, if_neg (by omega), if_neg (by omega), if_neg (by omega)]; rfl
theorem wf_not {D : Nat} {k : List Nat} (h : wfT true D k) (hD : 2 ≤ D) : wfT true D (k ++ [11]) := by
  refine ⟨fun c hc => ?_, fun wd => ?_⟩
  · rcases List.mem_append.mp hc with hc | hc
    · exact h.1 c hc
    · rw [List.mem_singleton.mp hc]; omega
  · obtain ⟨x, x1, x2⟩ := h.2 wd
    refine ⟨1 - x, fun _ => ?_, fun st M hM hM2 => ?_⟩
    · rcases x1 rfl with e | e
      · rw [e]; exact Or.inr (by decide)
      · rw [e]; exact Or.inl (by decide)
    · rw [evT_app, x2 st M hM hM2]
      show evT wd M [11] (x :: st) = _
      unfold evT
      rw [if_pos (by simp only [List.length_cons]; omega)]
      rfl
/-- a piece of a text whose signs are so -/
def wfI (L : Nat) (b : Bool) (D : Nat) (item : Nat → Nat → RT) : Prop := ∀ n m, n ≤ L → m ≤ 60 → match item n m with
  | .error _ => True
  | .ok (_, _, k) => wfT b D k
theorem wfI_val (T : Nat → Int32) (L : Nat) : wfI L false 1 (valF T L) := by
  intro n m hn hm
  generalize hr : valF T L n m = r
  cases r with
  | error f => trivial
  | ok p =>
    obtain ⟨n', m', k⟩ := p
    obtain ⟨-, -, -, -, x, rfl, hx⟩ := val_ok hr hn
    exact wf_val hx
theorem wf_loopF {T : Nat → Int32} {L : Nat} {op : Int32 → Option Nat} {item : Nat → Nat → RT} {D : Nat} (hop : op (-1) = none) (hos : ∀ c s, op c = some s → 2 ≤ s ∧ s < 15 ∧ s ≠ 11) (hi : okI L item) (hw : wfI L false D item) (hD : 2 ≤ D) : ∀ (e d n m : Nat) (o : List Nat), L - n ≤ e → e ≤ d → n ≤ L → m ≤ 60 → wfT false (D + 1) o → match loopF T L op item d n m o with
    | .error _ => True
    | .ok (_, _, k) => wfT false (D + 1) k := by
  intro e
  induction e with
  | zero =>
    intro d n m o he hd hn hm ho
    rw [loopF_eq hop (by omega), skF_0 (by omega), see_end (by omega), hop]
    exact ho
  | succ e ih =>
    intro d n m o he hd hn hm ho
    rw [loopF_eq hop (by omega)]
    have hq1 := sk_ge (T := T) (L := L) (n := n)
    have hq2 := sk_L (T := T) hn
    generalize skN T L n = q at *
    generalize hs : op (seeV T L q) = s
    cases s with
    | none => exact ho
    | some s =>
      have hlt := op_lt hop hs
      have h1 := hi (q + 1) m (by omega) hm
      have h2 := hw (q + 1) m (by omega) hm
      generalize item (q + 1) m = u at h1 h2
      cases u with
      | error f => trivial
      | ok p =>
        obtain ⟨n', m', k⟩ := p
        obtain ⟨b1, b2, b3, b4⟩ := h1
        exact ih (d - 1) n' m' (o ++ k ++ [s]) (by omega) (by omega) b2 b3 (wf_bin (hos _ _ hs) ho h2 (by omega) (fun q => by cases q))
theorem wfI_seq {T : Nat → Int32} {L : Nat} {op : Int32 → Option Nat} {item : Nat → Nat → RT} {D : Nat} (hop : op (-1) = none) (hos : ∀ c s, op c = some s → 2 ≤ s ∧ s < 15 ∧ s ≠ 11) (hi : okI L item) (hw : wfI L false D item) (hD : 2 ≤ D) (hL : L ≤ 400) : wfI L false (D + 1) (seqF T L op item) := by
  intro n m hn hm
  have h1 := hi n m hn hm
  have h2 := hw n m hn hm
  unfold seqF
  generalize item n m = u at h1 h2
  cases u with
  | error f => trivial
  | ok p =>
    obtain ⟨n', m', k⟩ := p
    obtain ⟨b1, b2, b3, b4⟩ := h1
    exact wf_loopF hop hos hi hw hD (L - n') 400 n' m' k (Nat.le_refl _) (by omega) b2 b3 (h2.mono (by omega))
theorem opT_s {c : Int32} {s : Nat} (h : opT c = some s) : 2 ≤ s ∧ s < 15 ∧ s ≠ 11 := by
  unfold opT at h
  split at h
  · cases h; omega
  · split at h
    · cases h; omega
    · split at h
      · cases h; omega
      · cases h
theorem opS_s {c : Int32} {s : Nat} (h : opS c = some s) : 2 ≤ s ∧ s < 15 ∧ s ≠ 11 := by
  unfold opS at h
  split at h
  · cases h; omega
  · split at h
    · cases h; omega
    · cases h
theorem wfI.mono {L : Nat} {b : Bool} {D E : Nat} {item : Nat → Nat → RT} (h : wfI L b D item) (hE : D ≤ E) : wfI L b E item := by
  intro n m hn hm
  have := h n m hn hm
  generalize item n m = u at this
  cases u with
  | error f => trivial
  | ok p => exact wfT.mono this hE
theorem wfI_term {T : Nat → Int32} {L : Nat} (hL : L ≤ 400) : wfI L false 3 (termF T L) := wfI_seq (by decide) (fun _ _ h => opT_s h) (okI_val T L) ((wfI_val T L).mono (by omega)) (by omega) hL
theorem wfI_sm {T : Nat → Int32} {L : Nat} (hL : L ≤ 400) : wfI L false 4 (smF T L) := wfI_seq (by decide) (fun _ _ h => opS_s h) (okI_term hL) (wfI_term hL) (by omega) hL
theorem one_cmp {s : Nat} (h : 6 ≤ s ∧ s < 11) (x y : Int64) : oneF s x y = 0 ∨ oneF s x y = 1 := by
  have hs : s = 6 ∨ s = 7 ∨ s = 8 ∨ s = 9 ∨ s = 10 := by omega
  have key : ∀ (p : Prop) [Decidable p], (if p then (1 : Int64) else 0) = 0 ∨ (if p then (1 : Int64) else 0) = 1 := by
    intro p _
    by_cases h : p
    · rw [if_pos h]; exact Or.inr rfl
    · rw [if_neg h]; exact Or.inl rfl
  rcases hs with rfl | rfl | rfl | rfl | rfl <;> exact key _
theorem one_bool {s : Nat} (h : s = 12 ∨ s = 13) (x y : Int64) (hx : x = 0 ∨ x = 1) (hy : y = 0 ∨ y = 1) : oneF s x y = 0 ∨ oneF s x y = 1 := by
  rcases h with rfl | rfl <;> rcases hx with rfl | rfl <;> rcases hy with rfl | rfl <;> decide
theorem wfI_cmp {T : Nat → Int32} {L : Nat} (hL : L ≤ 400) : wfI L true 5 (cmpF T L) := by
  intro n m hn hm
  have h1 := okI_sm (T := T) hL n m hn hm
  have w1 := wfI_sm (T := T) hL n m hn hm
  unfold cmpF
  generalize smF T L n m = u at h1 w1
  cases u with
  | error f => trivial
  | ok p =>
    obtain ⟨n1, m1, k1⟩ := p
    obtain ⟨b1, b2, b3, b4⟩ := h1
    show match (match sgF T L (skN T L n1) with
      | none => .error (ftN 0 (skN T L n1))
      | some (s, q) => if m1 = 60 then .error (ftN 3 (skN T L n1)) else match smF T L q (m1 + 1) with
        | .error f => .error f
        | .ok (n2, m2, k2) => .ok (n2, m2, k1 ++ k2 ++ [6 + s]) : RT) with
      | .error _ => True
      | .ok (_, _, k) => wfT true 5 k
    generalize hs : sgF T L (skN T L n1) = s
    cases s with
    | none => trivial
    | some p =>
      obtain ⟨s, q⟩ := p
      obtain ⟨c1, c2, c3⟩ := sg_some hs
      show match (if m1 = 60 then .error (ftN 3 (skN T L n1)) else match smF T L q (m1 + 1) with
        | .error f => .error f
        | .ok (n2, m2, k2) => .ok (n2, m2, k1 ++ k2 ++ [6 + s]) : RT) with
        | .error _ => True
        | .ok (_, _, k) => wfT true 5 k
      by_cases e : m1 = 60
      · rw [if_pos e]; trivial
      · rw [if_neg e]
        have w2 := wfI_sm (T := T) hL q (m1 + 1) c2 (by omega)
        generalize smF T L q (m1 + 1) = u at w2
        cases u with
        | error f => trivial
        | ok p =>
          obtain ⟨n2, m2, k2⟩ := p
          exact wf_bin (b := false) (by omega) w1 w2 (by omega) (fun _ x y _ _ => one_cmp (by omega) x y)
theorem wf_loopW {T : Nat → Int32} {L : Nat} {v : Int64} {s : Nat} {item : Nat → Nat → RT} {D : Nat} (hs : s = 12 ∨ s = 13) (hi : okI L item) (hw : wfI L true D item) (hD : 2 ≤ D) : ∀ (e d n m : Nat) (o : List Nat), L - n ≤ e → e ≤ d → n ≤ L → m ≤ 60 → wfT true (D + 1) o → match loopW T L v s item d n m o with
    | .error _ => True
    | .ok (_, _, k) => wfT true (D + 1) k := by
  intro e
  induction e with
  | zero =>
    intro d n m o he hd hn hm ho
    rw [loopW_eq (by omega), skF_0 (by omega), if_neg (fun q => absurd (wd_lt q) (by omega))]
    exact ho
  | succ e ih =>
    intro d n m o he hd hn hm ho
    rw [loopW_eq (by omega)]
    have hq1 := sk_ge (T := T) (L := L) (n := n)
    have hq2 := sk_L (T := T) hn
    generalize skN T L n = q at *
    by_cases hwd : wdP T L q v
    · rw [if_pos hwd]
      have hlt := hwd.1
      have hl2 := (lt_le (T := T) hq2).2
      have h1 := hi (ltN T L q) m hl2 hm
      have h2 := hw (ltN T L q) m hl2 hm
      generalize item (ltN T L q) m = u at h1 h2
      cases u with
      | error f => trivial
      | ok p =>
        obtain ⟨n', m', k⟩ := p
        obtain ⟨b1, b2, b3, b4⟩ := h1
        exact ih (d - 1) n' m' (o ++ k ++ [s]) (by omega) (by omega) b2 b3 (wf_bin (b := true) (by omega) ho h2 (by omega) (fun _ x y hx hy => one_bool hs x y (hx rfl) (hy rfl)))
    · rw [if_neg hwd]
      exact ho
theorem wfI_seqW {T : Nat → Int32} {L : Nat} {v : Int64} {s : Nat} {item : Nat → Nat → RT} {D : Nat} (hs : s = 12 ∨ s = 13) (hi : okI L item) (hw : wfI L true D item) (hD : 2 ≤ D) (hL : L ≤ 400) : wfI L true (D + 1) (seqW T L v s item) := by
  intro n m hn hm
  have h1 := hi n m hn hm
  have h2 := hw n m hn hm
  unfold seqW
  generalize item n m = u at h1 h2
  cases u with
  | error f => trivial
  | ok p =>
    obtain ⟨n', m', k⟩ := p
    obtain ⟨b1, b2, b3, b4⟩ := h1
    exact wf_loopW hs hi hw hD (L - n') 400 n' m' k (Nat.le_refl _) (by omega) b2 b3 (h2.mono (by omega))
theorem wfI_test {T : Nat → Int32} {L : Nat} {fact : Nat → Nat → RT} {D : Nat} (hi : okI L fact) (hw : wfI L true D fact) (hD : 2 ≤ D) (hL : L ≤ 400) : wfI L true (D + 2) (testF T L fact) := wfI_seqW (Or.inr rfl) (okI_seqW hi hL) (wfI_seqW (Or.inl rfl) hi hw hD hL) (by omega) hL
theorem wfI_fact {T : Nat → Int32} {L : Nat} (hL : L ≤ 400) : ∀ e, wfI L true (5 + 2 * e) (factE T L e) := by
  intro e
  induction e with
  | zero =>
    intro n m hn hm
    unfold factE
    by_cases h : wdP T L (skN T L n) 7237492 ∨ seeV T L (skN T L n) = nI 91
    · rw [if_pos h]; trivial
    · rw [if_neg h]; exact wfI_cmp hL n m hn hm
  | succ e ih =>
    intro n m hn hm
    have hq1 := sk_ge (T := T) (L := L) (n := n)
    have hq2 := sk_L (T := T) hn
    unfold factE
    by_cases h1 : wdP T L (skN T L n) 7237492
    · rw [if_pos h1]
      have hl2 := (lt_le (T := T) hq2).2
      have w1 := ih (ltN T L (skN T L n)) m hl2 hm
      generalize factE T L e (ltN T L (skN T L n)) m = u at w1
      cases u with
      | error f => trivial
      | ok p => exact (wf_not w1 (by omega)).mono (by omega)
    · rw [if_neg h1]
      by_cases h2 : seeV T L (skN T L n) = nI 91
      · rw [if_pos h2]
        have hlt : skN T L n < L := by
          refine Nat.lt_of_not_le (fun z => ?_)
          rw [see_end z] at h2
          exact absurd h2 (by decide)
        have w1 := wfI_test (T := T) (okI_fact (T := T) hL e) ih (by omega) hL (skN T L n + 1) m (by omega) hm
        generalize testF T L (factE T L e) (skN T L n + 1) m = u at w1
        cases u with
        | error f => trivial
        | ok p =>
          obtain ⟨n', m', k⟩ := p
          show match (if seeV T L (skN T L n') = nI 93 then .ok (skN T L n' + 1, m', k) else .error (ftN 0 (skN T L n')) : RT) with
            | .error _ => True
            | .ok (_, _, k) => wfT true (5 + 2 * (e + 1)) k
          by_cases e1 : seeV T L (skN T L n') = nI 93
          · rw [if_pos e1]; exact wfT.mono w1 (by omega)
          · rw [if_neg e1]; trivial
      · rw [if_neg h2]
        exact (wfI_cmp (T := T) hL).mono (by omega) n m hn hm
/-- CLAUSES of a RULE whose signs are so -/
def wfC (q : CL) : Prop := wfT false 4 q.1 ∧ ∀ k, q.2 = some k → wfT true 27 k
theorem wf_bd {T : Nat → Int32} {L : Nat} (hL : L ≤ 400) {n m : Nat} (hn : n ≤ L) (hm : m ≤ 60) : match bdF T L n m with
    | .error _ => True
    | .ok (_, _, q) => wfC q := by
  have h0 := lt_le (T := T) hn
  have h1 := okI_sm (T := T) hL (ltN T L n) m h0.2 hm
  have w1 := wfI_sm (T := T) hL (ltN T L n) m h0.2 hm
  unfold bdF
  generalize smF T L (ltN T L n) m = u at h1 w1
  cases u with
  | error f => trivial
  | ok p =>
    obtain ⟨n1, m1, k1⟩ := p
    obtain ⟨b1, b2, b3, b4⟩ := h1
    have hq2 := sk_L (T := T) b2
    show match (if wdP T L (skN T L n1) 26982 then (match testF T L (factE T L 10) (ltN T L (skN T L n1)) m1 with
      | .error f => .error f
      | .ok (n2, m2, k2) => .ok (n2, m2, (k1, some k2)) : RB)
      else .ok (skN T L n1, m1, (k1, none)) : RB) with
      | .error _ => True
      | .ok (_, _, q) => wfC q
    by_cases hw : wdP T L (skN T L n1) 26982
    · rw [if_pos hw]
      have h3 := lt_le (T := T) hq2
      have w2 := wfI_test (T := T) (okI_fact (T := T) hL 10) (wfI_fact hL 10) (by omega) hL (ltN T L (skN T L n1)) m1 h3.2 b3
      generalize testF T L (factE T L 10) (ltN T L (skN T L n1)) m1 = u at w2
      cases u with
      | error f => trivial
      | ok p => exact ⟨w1, fun k e => by cases e; exact w2⟩
    · rw [if_neg hw]
      exact ⟨w1, fun k e => by cases e⟩
theorem wf_rdR {T : Nat → Int32} {L : Nat} (hL : L ≤ 400) : ∀ (d n m : Nat) (cs : List CL) (r : List CL), n ≤ L → m ≤ 60 → cs.length ≤ 12 → (∀ q, q ∈ cs → wfC q) → rdR T L d n m cs = .ok r → ∀ q, q ∈ r → wfC q := by
  intro d
  induction d with
  | zero => intro n m cs r _ _ _ _ h; cases h
  | succ d ih =>
    intro n m cs r hn hm hc hcs h
    have h1 := clsR_ok (T := T) hL hn hm hc
    have hq2 := sk_L (T := T) hn
    have w1 : match clsR T L n m cs.length with
        | .error _ => True
        | .ok (_, _, q) => wfC q := by
      unfold clsR
      by_cases e : wdP T L (skN T L n) 422775452260
      · rw [if_pos e]
        by_cases e2 : cs.length = 12
        · rw [if_pos e2]; trivial
        · rw [if_neg e2]; exact wf_bd hL hq2 hm
      · rw [if_neg e]; trivial
    unfold rdR at h
    generalize clsR T L n m cs.length = u at h h1 w1
    cases u with
    | error g => cases h
    | ok p =>
      obtain ⟨n', m', q⟩ := p
      obtain ⟨b1, b2, b3, b4, b5⟩ := h1
      have hq1 := sk_ge (T := T) (L := L) (n := n')
      have hq2 := sk_L (T := T) b2
      have hnew : ∀ x, x ∈ cs ++ [q] → wfC x := by
        intro x hx
        rcases List.mem_append.mp hx with hx | hx
        · exact hcs x hx
        · rw [List.mem_singleton.mp hx]; exact w1
      have h : (if seeV T L (skN T L n') = nI 59 then rdR T L d (skN T L n' + 1) m' (cs ++ [q]) else if seeV T L (skN T L n') = -1 then .ok (cs ++ [q]) else .error (ftN 0 (skN T L n'))) = .ok r := h
      by_cases e : seeV T L (skN T L n') = nI 59
      · rw [if_pos e] at h
        have hlt : skN T L n' < L := by
          refine Nat.lt_of_not_le (fun z => ?_)
          rw [see_end z] at e
          exact absurd e (by decide)
        have hl : (cs ++ [q]).length = cs.length + 1 := List.length_append
        exact ih _ _ _ r (by omega) b3 (by omega) hnew h
      · rw [if_neg e] at h
        by_cases e2 : seeV T L (skN T L n') = -1
        · rw [if_pos e2] at h; cases h; exact hnew
        · rw [if_neg e2] at h; cases h
def evV (wd : Nat → Int64) (k : List Nat) : Int64 := match evT wd 64 k [] with
  | some (v :: _) => v
  | _ => 0
def evC (wd : Nat → Int64) : List CL → Int64
  | [] => 0
  | (k1, none) :: _ => evV wd k1
  | (k1, some k2) :: cs => if evV wd k2 = 1 then evV wd k1 else evC wd cs
theorem evV_eq {b : Bool} {D : Nat} {k : List Nat} (h : wfT b D k) (hD : D ≤ 40) (wd : Nat → Int64) : (b = true → evV wd k = 0 ∨ evV wd k = 1) ∧ ∀ (st : List Int64) (M : Nat), st.length + D ≤ M → M ≤ 64 → evT wd M k st = some (evV wd k :: st) := by
  obtain ⟨v, h1, h2⟩ := h.2 wd
  have e : evV wd k = v := by
    unfold evV
    rw [h2 [] 64 (by simp only [List.length_nil]; omega) (Nat.le_refl _)]
  rw [e]
  exact ⟨h1, h2⟩
