/-! ===== THE CLASS: RuleReader: a SUM, read in one loop ===== -/
theorem loopF_fuel {T : Nat → Int32} {L : Nat} {op : Int32 → Option Nat} {item : Nat → Nat → RT} (hop : op (-1) = none) (hi : okI L item) : ∀ e d d' n m o, L - n ≤ e → L - n ≤ d → L - n ≤ d' → n ≤ L → m ≤ 60 → loopF T L op item d n m o = loopF T L op item d' n m o := by
  intro e
  induction e with
  | zero =>
    intro d d' n m o he hd hd' hn hm
    rw [loopF_eq hop hd, loopF_eq hop hd', skF_0 (by omega), see_end (by omega), hop]
  | succ e ih =>
    intro d d' n m o he hd hd' hn hm
    rw [loopF_eq hop hd, loopF_eq hop hd']
    have hs := sk_bd (T := T) hn
    cases c : op (seeV T L (skN T L n)) with
    | none => rfl
    | some s =>
      have hq := op_lt hop c
      have hk := hi (skN T L n + 1) m (by omega) hm
      cases r : item (skN T L n + 1) m with
      | error f => rfl
      | ok p =>
        obtain ⟨n', m', k⟩ := p
        rw [r] at hk
        obtain ⟨h1, h2, h3, h4⟩ := hk
        exact ih (d - 1) (d' - 1) n' m' _ (by omega) (by omega) (by omega) h2 h3
def preR (p : List Nat) (r : RT) : RT := match r with
  | .error f => .error f
  | .ok (n, m, k) => .ok (n, m, p ++ k)
theorem loopF_pre {T : Nat → Int32} {L : Nat} {op : Int32 → Option Nat} {item : Nat → Nat → RT} {p : List Nat} : ∀ d n m o, loopF T L op item d n m (p ++ o) = preR p (loopF T L op item d n m o) := by
  intro d
  induction d with
  | zero => intro n m o; rfl
  | succ d ih =>
    intro n m o
    simp only [loopF]
    cases c : op (seeV T L (skN T L n)) with
    | none => rfl
    | some s =>
      cases r : item (skN T L n + 1) m with
      | error f => rfl
      | ok q =>
        obtain ⟨n', m', k⟩ := q
        simp only
        rw [show p ++ o ++ k ++ [s] = p ++ (o ++ k ++ [s]) by simp]
        exact ih n' m' _
/-- what is still to be read of a SUM: so far acc, and a sign that waits -/
def ctF (T : Nat → Int32) (L : Nat) (acc wt : List Nat) (n m : Nat) : RT := match loopF T L opT (valF T L) 400 n m acc with
  | .error f => .error f
  | .ok (n1, m1, k1) => loopF T L opS (termF T L) 400 n1 m1 (k1 ++ wt)
theorem sm_ct {T : Nat → Int32} {L n m : Nat} : smF T L n m = match valF T L n m with
    | .error f => .error f
    | .ok (n', m', k) => ctF T L k [] n' m' := by
  unfold smF seqF termF seqF ctF
  cases valF T L n m with
  | error f => rfl
  | ok p =>
    obtain ⟨n', m', k⟩ := p
    simp only
    cases loopF T L opT (valF T L) 400 n' m' k with
    | error f => rfl
    | ok q => obtain ⟨a, b, c⟩ := q; simp only [List.append_nil]; rfl
theorem ct_end {T : Nat → Int32} {L n m : Nat} {acc wt : List Nat} (hL : L ≤ 400) (hn : n ≤ L) (h1 : opT (seeV T L (skN T L n)) = none) (h2 : opS (seeV T L (skN T L n)) = none) : ctF T L acc wt n m = .ok (skN T L n, m, acc ++ wt) := by
  unfold ctF
  rw [loopF_eq (by decide) (by omega), h1]
  simp only
  have hs := sk_bd (T := T) hn
  rw [loopF_eq (by decide) (by omega), skN_idem, h2]
theorem ct_T {T : Nat → Int32} {L n m s : Nat} {acc wt : List Nat} (hL : L ≤ 400) (hn : n ≤ L) (hm : m ≤ 60) (h1 : opT (seeV T L (skN T L n)) = some s) : ctF T L acc wt n m = match valF T L (skN T L n + 1) m with
    | .error f => .error f
    | .ok (n', m', k) => ctF T L (acc ++ k ++ [s]) wt n' m' := by
  have hs := sk_bd (T := T) hn
  have hq := op_lt (by decide) h1
  have hk := okI_val T L (skN T L n + 1) m (by omega) hm
  unfold ctF
  rw [loopF_eq (by decide) (by omega), h1]
  simp only
  cases r : valF T L (skN T L n + 1) m with
  | error f => rfl
  | ok p =>
    obtain ⟨n', m', k⟩ := p
    rw [r] at hk
    obtain ⟨k1, k2, k3, k4⟩ := hk
    simp only
    rw [loopF_fuel (by decide) (okI_val T L) 400 (400 - 1) 400 n' m' _ (by omega) (by omega) (by omega) k2 k3]
theorem ct_S {T : Nat → Int32} {L n m s : Nat} {acc wt : List Nat} (hL : L ≤ 400) (hn : n ≤ L) (hm : m ≤ 60) (h1 : opT (seeV T L (skN T L n)) = none) (h2 : opS (seeV T L (skN T L n)) = some s) : ctF T L acc wt n m = match valF T L (skN T L n + 1) m with
    | .error f => .error f
    | .ok (n', m', k) => ctF T L (acc ++ wt ++ k) [s] n' m' := by
  have hs := sk_bd (T := T) hn
  have hq := op_lt (by decide) h2
  have hk := okI_val T L (skN T L n + 1) m (by omega) hm
  have ht := okI_term (T := T) hL (skN T L n + 1) m (by omega) hm
  unfold ctF
  rw [loopF_eq (by decide) (by omega), h1]
  simp only
  rw [loopF_eq (by decide) (by omega), skN_idem, h2]
  simp only
  unfold termF seqF at ht ⊢
  cases r : valF T L (skN T L n + 1) m with
  | error f => rfl
  | ok p =>
    obtain ⟨n', m', k⟩ := p
    rw [r] at ht
    simp only at ht ⊢
    rw [loopF_pre]
    cases q : loopF T L opT (valF T L) 400 n' m' k with
    | error f => rfl
    | ok p2 =>
      obtain ⟨n2, m2, k2⟩ := p2
      rw [q] at ht
      obtain ⟨t1, t2, t3, t4⟩ := ht
      simp only [preR]
      exact loopF_fuel (by decide) (okI_term hL) 400 (400 - 1) 400 n2 m2 _ (by omega) (by omega) (by omega) t2 t3
def opV (c : Int32) : Int32 := if c = nI 42 then nI 7 else if c = nI 47 then nI 8 else if c = nI 37 then nI 9 else if c = nI 43 then nI 5 else if c = nI 45 then nI 6 else -1
theorem opV_o {c : Int32} (h : ¬ c = nI 42 ∧ ¬ c = nI 47 ∧ ¬ c = nI 37 ∧ ¬ c = nI 43 ∧ ¬ c = nI 45) : opV c = -1 := by
  unfold opV
  rw [if_neg h.1, if_neg h.2.1, if_neg h.2.2.1, if_neg h.2.2.2.1, if_neg h.2.2.2.2]
theorem c_X8_operation (w : Wd) (l : Launch) (S : St) (v : Int32) : gx_M w l yX8_operation cX8_operation 2 (some .int) rmX8_operation [.ref (ad (w_b w) 4), .int v] S (pI (opV v) S) := by
  refine gx_start rfl 0 rfl (Nat.le_of_ble_eq_true rfl) ?_
  intro X C _ hl
  subst hl
  refine gx_L (L' := [_, _]) rfl ?_
  refine g_iload_n (pc := 0) C dX8_operation_0 rfl ?_
  have outW : v.toInt < 37 ∨ 47 < v.toInt → ¬ v = nI 42 ∧ ¬ v = nI 47 ∧ ¬ v = nI 37 ∧ ¬ v = nI 43 ∧ ¬ v = nI 45 := by
    intro q
    have a1 : (nI 42).toInt = 42 := by decide
    have a2 : (nI 47).toInt = 47 := by decide
    have a3 : (nI 37).toInt = 37 := by decide
    have a4 : (nI 43).toInt = 43 := by decide
    have a5 : (nI 45).toInt = 45 := by decide
    exact ⟨fun e => by rw [e, a1] at q; omega, fun e => by rw [e, a2] at q; omega, fun e => by rw [e, a3] at q; omega, fun e => by rw [e, a4] at q; omega, fun e => by rw [e, a5] at q; omega⟩
  have out : v.toInt < 37 ∨ 47 < v.toInt → gx_G w X S 0 0 1 [some (.ref (ad (w_b w) 4)), some (.int v)] [.int v] (gx_E w X (pI (opV v) S)) := by
    intro q
    refine g_tableOut (pc := 1) C 74 dX8_operation_1 q rfl ?_
    refine g_iconst (pc := 74) (v := -1) C dX8_operation_74 (by decide) ?_
    exact g_ireturn (pc := 75) C ⟨rfl, rfl⟩ dX8_operation_75 ⟨by rw [opV_o (outW q)], rfl⟩
  rcases pk_ix v (n := 48) (by omega) with h1 | h1 | ⟨k, hk, rfl⟩
  · exact out (Or.inl (Int.lt_trans (ti_neg h1) (by decide)))
  · exact out (Or.inr (Int.lt_of_lt_of_le (by decide) (ti_ge (by omega) h1)))
  · by_cases h37 : k < 37
    · exact out (Or.inl (by rw [nI_toInt (by omega)]; omega))
    · have : k = 37 ∨ k = 38 ∨ k = 39 ∨ k = 40 ∨ k = 41 ∨ k = 42 ∨ k = 43 ∨ k = 44 ∨ k = 45 ∨ k = 46 ∨ k = 47 := by omega
      rcases this with rfl | rfl | rfl | rfl | rfl | rfl | rfl | rfl | rfl | rfl | rfl
      · refine g_tableIn (pc := 1) C 71 dX8_operation_1 (by decide) (by decide) rfl rfl ?_
        refine g_bipush (pc := 71) (v := nI 9) C dX8_operation_71 (by decide) ?_
        exact g_ireturn (pc := 73) C ⟨rfl, rfl⟩ dX8_operation_73 ⟨rfl, rfl⟩
      · refine g_tableIn (pc := 1) C 74 dX8_operation_1 (by decide) (by decide) rfl rfl ?_
        refine g_iconst (pc := 74) (v := -1) C dX8_operation_74 (by decide) ?_
        exact g_ireturn (pc := 75) C ⟨rfl, rfl⟩ dX8_operation_75 ⟨rfl, rfl⟩
      · refine g_tableIn (pc := 1) C 74 dX8_operation_1 (by decide) (by decide) rfl rfl ?_
        refine g_iconst (pc := 74) (v := -1) C dX8_operation_74 (by decide) ?_
        exact g_ireturn (pc := 75) C ⟨rfl, rfl⟩ dX8_operation_75 ⟨rfl, rfl⟩
      · refine g_tableIn (pc := 1) C 74 dX8_operation_1 (by decide) (by decide) rfl rfl ?_
        refine g_iconst (pc := 74) (v := -1) C dX8_operation_74 (by decide) ?_
        exact g_ireturn (pc := 75) C ⟨rfl, rfl⟩ dX8_operation_75 ⟨rfl, rfl⟩
      · refine g_tableIn (pc := 1) C 74 dX8_operation_1 (by decide) (by decide) rfl rfl ?_
        refine g_iconst (pc := 74) (v := -1) C dX8_operation_74 (by decide) ?_
        exact g_ireturn (pc := 75) C ⟨rfl, rfl⟩ dX8_operation_75 ⟨rfl, rfl⟩
      · refine g_tableIn (pc := 1) C 65 dX8_operation_1 (by decide) (by decide) rfl rfl ?_
        refine g_bipush (pc := 65) (v := nI 7) C dX8_operation_65 (by decide) ?_
        exact g_ireturn (pc := 67) C ⟨rfl, rfl⟩ dX8_operation_67 ⟨rfl, rfl⟩
      · refine g_tableIn (pc := 1) C 60 dX8_operation_1 (by decide) (by decide) rfl rfl ?_
        refine g_iconst (pc := 60) (v := nI 5) C dX8_operation_60 (by decide) ?_
        exact g_ireturn (pc := 61) C ⟨rfl, rfl⟩ dX8_operation_61 ⟨rfl, rfl⟩
      · refine g_tableIn (pc := 1) C 74 dX8_operation_1 (by decide) (by decide) rfl rfl ?_
        refine g_iconst (pc := 74) (v := -1) C dX8_operation_74 (by decide) ?_
        exact g_ireturn (pc := 75) C ⟨rfl, rfl⟩ dX8_operation_75 ⟨rfl, rfl⟩
      · refine g_tableIn (pc := 1) C 62 dX8_operation_1 (by decide) (by decide) rfl rfl ?_
        refine g_bipush (pc := 62) (v := nI 6) C dX8_operation_62 (by decide) ?_
        exact g_ireturn (pc := 64) C ⟨rfl, rfl⟩ dX8_operation_64 ⟨rfl, rfl⟩
      · refine g_tableIn (pc := 1) C 74 dX8_operation_1 (by decide) (by decide) rfl rfl ?_
        refine g_iconst (pc := 74) (v := -1) C dX8_operation_74 (by decide) ?_
        exact g_ireturn (pc := 75) C ⟨rfl, rfl⟩ dX8_operation_75 ⟨rfl, rfl⟩
      · refine g_tableIn (pc := 1) C 68 dX8_operation_1 (by decide) (by decide) rfl rfl ?_
        refine g_bipush (pc := 68) (v := nI 8) C dX8_operation_68 (by decide) ?_
        exact g_ireturn (pc := 70) C ⟨rfl, rfl⟩ dX8_operation_70 ⟨rfl, rfl⟩
/-- what a sign is to the class -/
theorem opV_c (c : Int32) : (opT c = none ∧ opS c = none ∧ opV c = -1) ∨ (opT c = none ∧ ∃ s, opS c = some s ∧ opV c = nI (clK s) ∧ (s = 2 ∨ s = 3)) ∨ ∃ s, opT c = some s ∧ opV c = nI (clK s) ∧ (s = 4 ∨ s = 5 ∨ s = 14) := by
  unfold opT opS opV
  by_cases h1 : c = nI 42
  · rw [if_pos h1, if_pos h1]; exact Or.inr (Or.inr ⟨4, rfl, rfl, Or.inl rfl⟩)
  · rw [if_neg h1, if_neg h1]
    by_cases h2 : c = nI 47
    · rw [if_pos h2, if_pos h2]; exact Or.inr (Or.inr ⟨5, rfl, rfl, Or.inr (Or.inl rfl)⟩)
    · rw [if_neg h2, if_neg h2]
      by_cases h3 : c = nI 37
      · rw [if_pos h3, if_pos h3]; exact Or.inr (Or.inr ⟨14, rfl, rfl, Or.inr (Or.inr rfl)⟩)
      · rw [if_neg h3, if_neg h3]
        by_cases h4 : c = nI 43
        · rw [if_pos h4, if_pos h4]; exact Or.inr (Or.inl ⟨rfl, 2, rfl, rfl, Or.inl rfl⟩)
        · rw [if_neg h4, if_neg h4]
          by_cases h5 : c = nI 45
          · rw [if_pos h5, if_pos h5]; exact Or.inr (Or.inl ⟨rfl, 3, rfl, rfl, Or.inr rfl⟩)
          · rw [if_neg h5, if_neg h5]; exact Or.inl ⟨rfl, rfl, rfl⟩
