/-! ===== THE STORE. Cells go by keys: 0.. the class's own, 1000.. the reference's, 2000.. those that calls make; a key's address is 'ad b key', b the heap's size at the law's entry. Fields by their number (100 * class + slot) and key. ===== -/
def nX : Nat := 95
def nM : Nat := 26
def ad (b k : Nat) : Nat := if k < 1000 then b + k else if k < 2000 then b + nX + (k - 1000) else b + nX + nM + (k - 2000)
abbrev St : Type := (Nat → Nat) × (Nat → Nat) × (Nat → Nat → Option Nat) × (Nat → Nat → Option Nat) × (Nat → Nat → Int32) × (Nat → Nat → Int64) × (Nat → Nat → Int32) × (Nat → Nat → Int64) × Nat
def lXk : List Nat := [10, 9, 12, 1, 7, 13, 17, 8, 0, 13, 13, 13, 13, 5, 13, 13, 18, 8, 5, 13, 13, 8, 5, 13, 13, 8, 5, 13, 13, 8, 5, 13, 13, 16, 5, 13, 5, 13, 5, 13, 5, 13, 5, 13, 5, 13, 5, 13, 5, 13, 5, 13, 5, 13, 5, 13, 5, 13, 5, 13, 5, 13, 5, 13, 5, 13, 5, 13, 5, 13, 5, 13, 5, 13, 4, 13, 13, 5, 13, 13, 13, 15, 2, 3, 14, 14, 5, 13, 13, 13, 0, 13, 13, 13, 13]
def lXn : List Nat := [0, 0, 400, 0, 0, 512, 6, 0, 0, 7, 7, 7, 49, 0, 7, 10, 4, 0, 0, 7, 10, 0, 0, 7, 10, 0, 0, 7, 10, 0, 0, 7, 10, 20, 0, 7, 0, 7, 0, 7, 0, 7, 0, 7, 0, 7, 0, 7, 0, 7, 0, 7, 0, 7, 0, 7, 0, 7, 0, 7, 0, 7, 0, 7, 0, 7, 0, 7, 0, 7, 0, 7, 0, 7, 0, 7, 7, 0, 7, 256, 256, 256, 0, 0, 12, 40, 0, 7, 8, 7, 0, 7, 7, 7, 49]
def lMk : List Nat := [11, 12, 13, 13, 13, 13, 13, 13, 14, 14, 13, 13, 13, 13, 13, 13, 15, 13, 13, 13, 15, 13, 13, 13, 13, 15]
def lMn : List Nat := [0, 400, 2400, 7, 288, 6, 159, 400, 64, 12, 190, 360, 18, 700, 700, 256, 256, 8, 8, 8, 7, 49, 760, 4, 4, 4]
def s_k (S : St) (k : Nat) : Nat := if k < 1000 then lXk.getD k 99 else if k < 2000 then lMk.getD (k - 1000) 99 else S.1 k
def s_n (S : St) (k : Nat) : Nat := if k < 1000 then lXn.getD k 0 else if k < 2000 then lMn.getD (k - 1000) 0 else S.2.1 k
def s_R (S : St) : Nat → Nat → Option Nat := S.2.2.1
def s_Q (S : St) : Nat → Nat → Option Nat := S.2.2.2.1
def s_I (S : St) : Nat → Nat → Int32 := S.2.2.2.2.1
def s_L (S : St) : Nat → Nat → Int64 := S.2.2.2.2.2.1
def s_A (S : St) : Nat → Nat → Int32 := S.2.2.2.2.2.2.1
def s_B (S : St) : Nat → Nat → Int64 := S.2.2.2.2.2.2.2.1
def s_z (S : St) : Nat := S.2.2.2.2.2.2.2.2
def u1 {α : Type} (f : Nat → α) (k : Nat) (v : α) : Nat → α := fun j => if j = k then v else f j
def u2 {α : Type} (f : Nat → Nat → α) (f0 k : Nat) (v : α) : Nat → Nat → α := fun g j => if g = f0 then (if j = k then v else f g j) else f g j
def s_setI (S : St) (f k : Nat) (v : Int32) : St := (S.1, S.2.1, S.2.2.1, S.2.2.2.1, u2 S.2.2.2.2.1 f k v, S.2.2.2.2.2.1, S.2.2.2.2.2.2.1, S.2.2.2.2.2.2.2.1, S.2.2.2.2.2.2.2.2)
def s_setL (S : St) (f k : Nat) (v : Int64) : St := (S.1, S.2.1, S.2.2.1, S.2.2.2.1, S.2.2.2.2.1, u2 S.2.2.2.2.2.1 f k v, S.2.2.2.2.2.2.1, S.2.2.2.2.2.2.2.1, S.2.2.2.2.2.2.2.2)
def s_setR (S : St) (f k : Nat) (v : Option Nat) : St := (S.1, S.2.1, u2 S.2.2.1 f k v, S.2.2.2.1, S.2.2.2.2.1, S.2.2.2.2.2.1, S.2.2.2.2.2.2.1, S.2.2.2.2.2.2.2.1, S.2.2.2.2.2.2.2.2)
def s_setA (S : St) (k : Nat) (v : Nat → Int32) : St := (S.1, S.2.1, S.2.2.1, S.2.2.2.1, S.2.2.2.2.1, S.2.2.2.2.2.1, u1 S.2.2.2.2.2.2.1 k v, S.2.2.2.2.2.2.2.1, S.2.2.2.2.2.2.2.2)
def s_setB (S : St) (k : Nat) (v : Nat → Int64) : St := (S.1, S.2.1, S.2.2.1, S.2.2.2.1, S.2.2.2.2.1, S.2.2.2.2.2.1, S.2.2.2.2.2.2.1, u1 S.2.2.2.2.2.2.2.1 k v, S.2.2.2.2.2.2.2.2)
def s_setQ (S : St) (k : Nat) (v : Nat → Option Nat) : St := (S.1, S.2.1, S.2.2.1, u1 S.2.2.2.1 k v, S.2.2.2.2.1, S.2.2.2.2.2.1, S.2.2.2.2.2.2.1, S.2.2.2.2.2.2.2.1, S.2.2.2.2.2.2.2.2)
def s_entc (cA : Nat → ClassId) (b : Nat) (I : Nat → Int32) (L : Nat → Int64) (R : Nat → Option Nat) (n : Nat) (A : Nat → Int32) (B : Nat → Int64) (Q : Nat → Option Nat) (k : Nat) : va_E := match k with
  | 0 => .inr (0, [.int (I 0), .int (I 1), .int (I 2), .int (I 3), .int (I 4), .long (L 5), va_rf ((R 6).map (ad b)), va_rf ((R 7).map (ad b)), va_rf ((R 8).map (ad b)), va_rf ((R 9).map (ad b))])
  | 1 => .inr (1, [va_rf ((R 100).map (ad b)), .int (I 101), .int (I 102), va_rf ((R 103).map (ad b))])
  | 2 => .inr (2, [va_rf ((R 200).map (ad b)), .int (I 201), .int (I 202), .int (I 203), .int (I 204), .int (I 205), .int (I 206), va_rf ((R 207).map (ad b)), va_rf ((R 208).map (ad b)), va_rf ((R 209).map (ad b))])
  | 3 => .inr (3, [va_rf ((R 300).map (ad b)), va_rf ((R 301).map (ad b)), va_rf ((R 302).map (ad b)), va_rf ((R 303).map (ad b)), va_rf ((R 304).map (ad b)), .int (I 305), .int (I 306), .int (I 307), .int (I 308)])
  | 4 => .inr (4, [va_rf ((R 400).map (ad b)), .int (I 401), va_rf ((R 402).map (ad b)), va_rf ((R 403).map (ad b)), va_rf ((R 404).map (ad b)), va_rf ((R 405).map (ad b)), va_rf ((R 406).map (ad b)), va_rf ((R 407).map (ad b)), va_rf ((R 408).map (ad b)), .int (I 409), .int (I 410), .int (I 411)])
  | 5 => .inr (5, [.int (I 500), .int (I 501), .int (I 502), .int (I 503), .int (I 504), va_rf ((R 505).map (ad b))])
  | 6 => .inr (6, [va_rf ((R 600).map (ad b))])
  | 7 => .inr (7, [va_rf ((R 700).map (ad b)), .int (I 701), .int (I 702), va_rf ((R 703).map (ad b)), .int (I 704), .int (I 705)])
  | 8 => .inr (8, [va_rf ((R 800).map (ad b)), va_rf ((R 801).map (ad b)), .int (I 802), .int (I 803), .int (I 804), .int (I 805), va_rf ((R 806).map (ad b))])
  | 9 => .inr (9, [va_rf ((R 900).map (ad b)), .int (I 901)])
  | 10 => .inr (10, [va_rf ((R 1000).map (ad b)), va_rf ((R 1001).map (ad b)), va_rf ((R 1002).map (ad b)), va_rf ((R 1003).map (ad b)), va_rf ((R 1004).map (ad b)), va_rf ((R 1005).map (ad b)), va_rf ((R 1006).map (ad b)), va_rf ((R 1007).map (ad b)), va_rf ((R 1008).map (ad b)), va_rf ((R 1009).map (ad b)), .int (I 1010), .int (I 1011), .int (I 1012)])
  | 11 => .inr (11, [va_rf ((R 1100).map (ad b)), .int (I 1101), .int (I 1102), va_rf ((R 1103).map (ad b)), va_rf ((R 1104).map (ad b)), va_rf ((R 1105).map (ad b)), va_rf ((R 1106).map (ad b)), va_rf ((R 1107).map (ad b)), .int (I 1108), .int (I 1109), .int (I 1110), .int (I 1111), .int (I 1112), .int (I 1113), .int (I 1114), va_rf ((R 1115).map (ad b)), .int (I 1116), va_rf ((R 1117).map (ad b)), .int (I 1118), va_rf ((R 1119).map (ad b)), va_rf ((R 1120).map (ad b)), .int (I 1121), .int (I 1122), .int (I 1123), va_rf ((R 1124).map (ad b)), .int (I 1125), va_rf ((R 1126).map (ad b)), va_rf ((R 1127).map (ad b)), va_rf ((R 1128).map (ad b)), va_rf ((R 1129).map (ad b)), va_rf ((R 1130).map (ad b)), va_rf ((R 1131).map (ad b)), va_rf ((R 1132).map (ad b)), .int (I 1133), va_rf ((R 1134).map (ad b)), va_rf ((R 1135).map (ad b)), va_rf ((R 1136).map (ad b)), .long (L 1137), va_rf ((R 1138).map (ad b)), va_rf ((R 1139).map (ad b)), va_rf ((R 1140).map (ad b)), va_rf ((R 1141).map (ad b))])
  | 12 => .inl (cA 12, n, .inl A)
  | 13 => .inl (cA 13, n, .inl A)
  | 15 => .inl (cA 15, n, .inl A)
  | 14 => .inl (cA 14, n, .inr (.inl B))
  | 16 => .inl (cA 16, n, .inr (.inr (.inr (.inr (fun j => (Q j).map (ad b))))))
  | 17 => .inl (cA 17, n, .inr (.inr (.inr (.inr (fun j => (Q j).map (ad b))))))
  | 18 => .inl (cA 18, n, .inr (.inr (.inr (.inr (fun j => (Q j).map (ad b))))))
  | _ => .inr (0, [])
def s_ent (cA : Nat → ClassId) (b : Nat) (S : St) (k : Nat) : va_E := s_entc cA b (fun f => s_I S f k) (fun f => s_L S f k) (fun f => s_R S f k) (s_n S k) (s_A S k) (s_B S k) (s_Q S k) (s_k S k)

theorem ad_inj {b : Nat} {S : St} {k j : Nat} (hk : s_k S k < 19) (hj : s_k S j < 19) (h : ad b k = ad b j) : k = j := by
  have key : ∀ i, s_k S i < 19 → i < nX ∨ (1000 ≤ i ∧ i < 1000 + nM) ∨ 2000 ≤ i := by
    intro i hi
    unfold s_k at hi
    by_cases h1 : i < 1000
    · rw [if_pos h1] at hi
      refine Or.inl (Nat.lt_of_not_le fun hge => ?_)
      rw [List.getD_eq_getElem?_getD, List.getElem?_eq_none (by have : lXk.length = nX := by decide
                                                                omega)] at hi
      exact absurd hi (by decide)
    · rw [if_neg h1] at hi
      by_cases h2 : i < 2000
      · rw [if_pos h2] at hi
        refine Or.inr (Or.inl ⟨by omega, Nat.lt_of_not_le fun hge => ?_⟩)
        rw [List.getD_eq_getElem?_getD, List.getElem?_eq_none (by have : lMk.length = nM := by decide
                                                                  omega)] at hi
        exact absurd hi (by decide)
      · exact Or.inr (Or.inr (by omega))
  have e1 := key k hk
  have e2 := key j hj
  have n1 : nX = 95 := rfl
  have n2 : nM = 26 := rfl
  unfold ad at h
  split at h <;> split at h <;> (try split at h) <;> (try split at h) <;> omega

/-- the world: the tables' numbers, the array classes, the heap at the law's entry -/
abbrev Wd : Type := va_G × (Nat → ClassId) × Heap
def w_b (w : Wd) : Nat := w.2.2.size
def w_tys (w : Wd) : List (ClassId × FieldType) := [(w.2.1 12, .byte), (w.2.1 13, .int), (w.2.1 14, .long), (w.2.1 15, .boolean), (w.2.1 16, .object "AimFerry$River"), (w.2.1 17, .object "AimFerry$Rule"), (w.2.1 18, .object "AimFerry$Scene")]
def gx_R (w : Wd) (S : St) (H : Heap) : Prop := H.size = w_b w + s_z S ∧ (∀ k, s_k S k < 19 → ad (w_b w) k < w_b w + s_z S → va_at w.1 vwCl (ad (w_b w) k, s_ent w.2.1 (w_b w) S k) H) ∧ ∀ q, q < w_b w → H[q]? = w.2.2[q]?
def gx_K (w : Wd) (U : State) : Prop := va_K w.1 vwCl (w_tys w) U
/-- the locals, by their places -/
def lz : Nat → List (Option Value) → List (Nat × Value)
  | _, [] => []
  | i, none :: t => lz (i + 1) t
  | i, some v :: t => (i, v) :: lz (i + 1) t
theorem lz_mem : ∀ (L : List (Option Value)) (i j : Nat) (v : Value), (j, v) ∈ lz i L ↔ i ≤ j ∧ L[j - i]? = some (some v)
  | [], i, j, v => by simp [lz]
  | none :: t, i, j, v => by
    rw [lz, lz_mem t (i + 1) j v]
    constructor
    · rintro ⟨h1, h2⟩
      refine ⟨by omega, ?_⟩
      rw [show j - i = (j - (i + 1)) + 1 by omega, List.getElem?_cons_succ]
      exact h2
    · rintro ⟨h1, h2⟩
      by_cases e : j = i
      · subst e; simp at h2
      · rw [show j - i = (j - (i + 1)) + 1 by omega, List.getElem?_cons_succ] at h2
        exact ⟨by omega, h2⟩
  | some x :: t, i, j, v => by
    rw [lz, List.mem_cons, lz_mem t (i + 1) j v]
    constructor
    · rintro (h | ⟨h1, h2⟩)
      · cases h; exact ⟨Nat.le_refl _, by simp⟩
      · refine ⟨by omega, ?_⟩
        rw [show j - i = (j - (i + 1)) + 1 by omega, List.getElem?_cons_succ]
        exact h2
    · rintro ⟨h1, h2⟩
      by_cases e : j = i
      · subst e
        simp at h2
        subst h2
        exact Or.inl rfl
      · rw [show j - i = (j - (i + 1)) + 1 by omega, List.getElem?_cons_succ] at h2
        exact Or.inr ⟨by omega, h2⟩
def gx_LH (ls : Array Slot) (L : List (Option Value)) : Prop := lv_has ls L.length (lz 0 L)
theorem gx_LH.at {ls : Array Slot} {L : List (Option Value)} (h : gx_LH ls L) {i : Nat} {v : Value} (hv : L[i]? = some (some v)) : ls[i]? = some (.val v) := h.2.2 (i, v) ((lz_mem L 0 i v).mpr ⟨Nat.zero_le _, hv⟩)
/-- a long ahead of a place that is stored to is gone -/
def lk2 : Option Value → Option Value
  | some (.long _) => none
  | some (.double _) => none
  | x => x
theorem lk2_some {x : Option Value} {v : Value} (h : lk2 x = some v) : x = some v ∧ ¬ v.category = 2 := by
  cases x with
  | none => cases h
  | some u => cases u <;> first | (cases h; done) | (cases h; exact ⟨rfl, by simp [Value.category]⟩)
def lst1 : List (Option Value) → Nat → Value → List (Option Value)
  | [], _, _ => []
  | _ :: t, 0, v => some v :: t
  | x :: t, 1, v => lk2 x :: lst1 t 0 v
  | x :: t, i + 2, v => x :: lst1 t (i + 1) v
theorem lst1_len : ∀ (L : List (Option Value)) (i : Nat) (v : Value), (lst1 L i v).length = L.length
  | [], _, _ => by simp [lst1]
  | _ :: _, 0, _ => rfl
  | _ :: t, 1, v => by simp [lst1, lst1_len t 0 v]
  | _ :: t, i + 2, v => by simp [lst1, lst1_len t (i + 1) v]
theorem lst1_at : ∀ (L : List (Option Value)) (i : Nat) (v : Value) (j : Nat) (u : Value), (lst1 L i v)[j]? = some (some u) → (j = i ∧ u = v) ∨ (L[j]? = some (some u) ∧ j ≠ i ∧ ¬ (j + 1 = i ∧ u.category = 2))
  | [], _, _, _, _, h => by simp [lst1] at h
  | x :: t, 0, v, j, u, h => by
    cases j with
    | zero => simp [lst1] at h; exact Or.inl ⟨rfl, h.symm⟩
    | succ j => simp [lst1] at h; exact Or.inr ⟨by simpa using h, by omega, by omega⟩
  | x :: t, 1, v, j, u, h => by
    cases j with
    | zero =>
      simp only [lst1, List.getElem?_cons_zero, Option.some.injEq] at h
      obtain ⟨h1, h2⟩ := lk2_some h
      exact Or.inr ⟨by simp [h1], by omega, fun q => h2 q.2⟩
    | succ j =>
      simp only [lst1, List.getElem?_cons_succ] at h
      rcases lst1_at t 0 v j u h with ⟨h1, h2⟩ | ⟨h1, h2, h3⟩
      · exact Or.inl ⟨by omega, h2⟩
      · exact Or.inr ⟨by simpa using h1, by omega, by omega⟩
  | x :: t, i + 2, v, j, u, h => by
    cases j with
    | zero =>
      simp only [lst1, List.getElem?_cons_zero, Option.some.injEq] at h
      exact Or.inr ⟨by simp [h], by omega, by omega⟩
    | succ j =>
      simp only [lst1, List.getElem?_cons_succ] at h
      rcases lst1_at t (i + 1) v j u h with ⟨h1, h2⟩ | ⟨h1, h2, h3⟩
      · exact Or.inl ⟨by omega, h2⟩
      · exact Or.inr ⟨by simpa using h1, by omega, by omega⟩
def lst2 : List (Option Value) → Nat → Value → List (Option Value)
  | [], _, _ => []
  | [x], _, _ => [x]
  | _ :: _ :: t, 0, v => some v :: none :: t
  | x :: y :: t, 1, v => lk2 x :: lst2 (y :: t) 0 v
  | x :: y :: t, i + 2, v => x :: lst2 (y :: t) (i + 1) v
theorem lst2_len : ∀ (L : List (Option Value)) (i : Nat) (v : Value), (lst2 L i v).length = L.length
  | [], _, _ => by simp [lst2]
  | [_], _, _ => by simp [lst2]
  | _ :: _ :: _, 0, _ => rfl
  | _ :: y :: t, 1, v => by simp [lst2, lst2_len (y :: t) 0 v]
  | _ :: y :: t, i + 2, v => by simp [lst2, lst2_len (y :: t) (i + 1) v]
theorem lst2_at : ∀ (L : List (Option Value)) (i : Nat) (v : Value), i + 1 < L.length → ∀ (j : Nat) (u : Value), (lst2 L i v)[j]? = some (some u) → (j = i ∧ u = v) ∨ (L[j]? = some (some u) ∧ j ≠ i ∧ j ≠ i + 1 ∧ ¬ (j + 1 = i ∧ u.category = 2))
  | [], _, _, hl, _, _, h => by simp at hl
  | [_], _, _, hl, _, _, h => by simp at hl
  | x :: y :: t, 0, v, hl, j, u, h => by
    match j with
    | 0 => simp [lst2] at h; exact Or.inl ⟨rfl, h.symm⟩
    | 1 => simp [lst2] at h
    | j + 2 => simp [lst2] at h; exact Or.inr ⟨by simpa using h, by omega, by omega, by omega⟩
  | x :: y :: t, 1, v, hl, j, u, h => by
    cases j with
    | zero =>
      simp only [lst2, List.getElem?_cons_zero, Option.some.injEq] at h
      obtain ⟨h1, h2⟩ := lk2_some h
      exact Or.inr ⟨by simp [h1], by omega, by omega, fun q => h2 q.2⟩
    | succ j =>
      simp only [lst2, List.getElem?_cons_succ] at h
      rcases lst2_at (y :: t) 0 v (by simp at hl ⊢; omega) j u h with ⟨h1, h2⟩ | ⟨h1, h2, h3, h4⟩
      · exact Or.inl ⟨by omega, h2⟩
      · exact Or.inr ⟨by simpa using h1, by omega, by omega, by omega⟩
  | x :: y :: t, i + 2, v, hl, j, u, h => by
    cases j with
    | zero =>
      simp only [lst2, List.getElem?_cons_zero, Option.some.injEq] at h
      exact Or.inr ⟨by simp [h], by omega, by omega, by omega⟩
    | succ j =>
      simp only [lst2, List.getElem?_cons_succ] at h
      rcases lst2_at (y :: t) (i + 1) v (by simp at hl ⊢; omega) j u h with ⟨h1, h2⟩ | ⟨h1, h2, h3, h4⟩
      · exact Or.inl ⟨by omega, h2⟩
      · exact Or.inr ⟨by simpa using h1, by omega, by omega, by omega⟩
theorem gx_LH.st1 {ls : Array Slot} {L : List (Option Value)} (h : gx_LH ls L) {i : Nat} {v : Value} {ls' : Array Slot} (h' : lv_has ls' L.length ((i, v) :: (lz 0 L).filter (fun q => !(q.1 == i) && !(q.1 + 1 == i && q.2.category == 2)))) : gx_LH ls' (lst1 L i v) := by
  refine ⟨by rw [lst1_len]; exact h'.1, h'.2.1, fun q hq => ?_⟩
  obtain ⟨j, u⟩ := q
  have hm := ((lz_mem _ 0 j u).mp hq).2
  rw [Nat.sub_zero] at hm
  refine h'.2.2 (j, u) ?_
  rcases lst1_at L i v j u hm with ⟨rfl, rfl⟩ | ⟨h1, h2, h3⟩
  · exact List.mem_cons_self
  · refine List.mem_cons_of_mem _ (List.mem_filter.mpr ⟨(lz_mem L 0 j u).mpr ⟨Nat.zero_le _, h1⟩, ?_⟩)
    simp only [Bool.and_eq_true, Bool.not_eq_true', beq_eq_false_iff_ne, ne_eq, Bool.and_eq_false_iff]
    refine ⟨h2, ?_⟩
    by_cases e : j + 1 = i
    · exact Or.inr (by simpa using fun q => h3 ⟨e, q⟩)
    · exact Or.inl (by simpa using e)
theorem gx_LH.st2 {ls : Array Slot} {L : List (Option Value)} (h : gx_LH ls L) {i : Nat} {v : Value} {ls' : Array Slot} (hi : i + 1 < L.length) (h' : lv_has ls' L.length ((i, v) :: (lz 0 L).filter (fun q => !(q.1 == i) && (!(q.1 == i + 1) && !(q.1 + 1 == i && q.2.category == 2))))) : gx_LH ls' (lst2 L i v) := by
  refine ⟨by rw [lst2_len]; exact h'.1, h'.2.1, fun q hq => ?_⟩
  obtain ⟨j, u⟩ := q
  have hm := ((lz_mem _ 0 j u).mp hq).2
  rw [Nat.sub_zero] at hm
  refine h'.2.2 (j, u) ?_
  rcases lst2_at L i v hi j u hm with ⟨rfl, rfl⟩ | ⟨h1, h2, h4, h3⟩
  · exact List.mem_cons_self
  · refine List.mem_cons_of_mem _ (List.mem_filter.mpr ⟨(lz_mem L 0 j u).mpr ⟨Nat.zero_le _, h1⟩, ?_⟩)
    simp only [Bool.and_eq_true, Bool.not_eq_true', beq_eq_false_iff_ne, ne_eq, Bool.and_eq_false_iff]
    refine ⟨h2, h4, ?_⟩
    by_cases e : j + 1 = i
    · exact Or.inr (by simpa using fun q => h3 ⟨e, q⟩)
    · exact Or.inl (by simpa using e)
/-- what is fixed while a method runs -/
abbrev FX : Type := Program × Launch × Env × Room × State × MethodId × Array Value × List Frame × Method × Code
def x_p (X : FX) : Program := X.1
def x_l (X : FX) : Launch := X.2.1
def x_e (X : FX) : Env := X.2.2.1
def x_R (X : FX) : Room := X.2.2.2.1
def x_s (X : FX) : State := X.2.2.2.2.1
def x_m (X : FX) : MethodId := X.2.2.2.2.2.1
def x_a (X : FX) : Array Value := X.2.2.2.2.2.2.1
def x_b (X : FX) : List Frame := X.2.2.2.2.2.2.2.1
def x_M (X : FX) : Method := X.2.2.2.2.2.2.2.2.1
def x_c (X : FX) : Code := X.2.2.2.2.2.2.2.2.2
/-- THE JUDGEMENT: with the store S, the locals L and the operands st at pc, the machine comes to a state with Q -/
def gx_G (w : Wd) (X : FX) (S : St) (n1 n2 : Nat) (pc : Nat) (L : List (Option Value)) (st : List Value) (Q : State → Prop) : Prop :=
  ∀ (H : Heap) (locs : List Loc) (ls : Array Slot), gx_R w S H → (∀ q ∈ locs, w_b w ≤ q.base) → gx_LH ls L → W (x_p X) (x_l X) (x_e X) (x_R X) (x_s X) (x_m X) (x_a X) (x_b X) (x_M X) (x_c X) H locs n1 n2 Q (F0 (x_m X) pc ls st)
/-- what holds of the frame: machine, code, locals, own class, room, tables -/
def gx_C (w : Wd) (X : FX) (cc : ByteArray) (nL : Nat) (own : String) (rm : Room) (ret : Option FieldType) : Prop :=
  (x_p X).tables.exec = Jvm.exec ∧ (x_c X).code = cc ∧ (x_c X).maxLocals = nL ∧ (x_s X).vm.findClass own = some (x_m X).cls ∧ (∀ c ∈ gx_T, c.before (x_a X) (x_s X) = true) ∧ gx_K w (x_s X) ∧ x_R X = rm ∧ (x_M X).sig.returnType = ret ∧ (x_M X).locks = false
/-- a method's contract: from the store S and the arguments it returns, and 'post answer store' holds -/
def gx_Q (w : Wd) (post : Option Value → St → Prop) : Array Value → State → Outcome → State → Prop := fun _ _ o t => ∃ (v : Option Value) (S' : St), o = .returned v ∧ post v S' ∧ gx_R w S' t.heap
def gx_M (w : Wd) (l : Launch) (y : MethodName) (cc : ByteArray) (nL : Nat) (ret : Option FieldType) (rm : Room) (as : List Value) (S : St) (post : Option Value → St → Prop) : Prop :=
  Met l y (Cond.code y cc nL ret :: gx_T) rm (va_Pc as (fun U => gx_R w S U.heap ∧ gx_K w U)) (gx_Q w post) rm.cells rm.slots (fun q => w_b w ≤ q)
def gx_E (w : Wd) (X : FX) (post : Option Value → St → Prop) : State → Prop := MQ (x_b X) (gx_Q w post) (x_a X) (x_s X) (x_R X).cells (x_R X).slots (fun q => w_b w ≤ q)
/-- the locals with which a method begins -/
def la0 : List Value → List (Option Value)
  | [] => []
  | v :: t => match v with
    | .long _ => some v :: none :: la0 t
    | .double _ => some v :: none :: la0 t
    | _ => some v :: la0 t
theorem la0_at : ∀ (as : List Value) (r : List (Option Value)) (i j : Nat) (v : Value), (la0 as ++ List.replicate i none)[j]? = some (some v) → ∀ n, (n + j, v) ∈ lv_args n as
  | [], r, i, j, v, h, n => by
    simp only [la0, List.nil_append] at h
    have := List.eq_of_mem_replicate (List.mem_of_getElem? h)
    cases this
  | a :: t, r, i, j, v, h, n => by
    have one : ∀ (c : Nat), (la0 (a :: t) = some a :: List.replicate c none ++ la0 t) → (if a.category = 2 then n + 2 else n + 1) = n + 1 + c → (n + j, v) ∈ lv_args n (a :: t) := by
      intro c hc hn
      rw [hc] at h
      rw [lv_args, hn]
      cases j with
      | zero =>
        simp at h
        subst h
        exact List.mem_cons_self
      | succ j =>
        refine List.mem_cons_of_mem _ ?_
        simp only [List.cons_append, List.getElem?_cons_succ, List.append_assoc] at h
        by_cases e : j < c
        · rw [List.getElem?_append_left (by simpa using e)] at h
          have := List.eq_of_mem_replicate (List.mem_of_getElem? h)
          cases this
        · rw [List.getElem?_append_right (by simpa using Nat.le_of_not_lt e)] at h
          have := la0_at t r i _ v h (n + 1 + c)
          rw [List.length_replicate] at this
          rw [show n + (j + 1) = n + 1 + c + (j - c) by omega]
          exact this
    cases a <;> first | exact one 0 rfl (by simp [Value.category]) | exact one 1 rfl (by simp [Value.category])
theorem gx_start {w : Wd} {l : Launch} {y : MethodName} {cc : ByteArray} {nL : Nat} {ret : Option FieldType} {rm : Room} {as : List Value} {S : St} {post : Option Value → St → Prop} (hy : plainName y.cls = true) (i : Nat) (hi : (la0 as ++ List.replicate i none).length = nL) (hl : (lg_sl as).length ≤ nL)
    (body : ∀ X : FX, gx_C w X cc nL y.cls rm ret → (y.name = "<init>" → (x_M X).name = "<init>") → x_l X = l → gx_G w X S 0 0 0 (la0 as ++ List.replicate i none) [] (gx_E w X post)) : gx_M w l y cc nL ret rm as S post := by
  refine Met.ofW (cc := cc) (maxL := nL) (ret := ret) hy rfl ?_
  intro p e s m args below meth c s₁ B hml hv
  obtain ⟨rfl, hR, hK⟩ := hv
  have hts := atoms_spec (ws := Cond.code y cc nL ret :: gx_T) B.pre
  have hown : s.vm.findClass y.cls = some m.cls := findClass_of_methodNamed B.named
  have hb := body (p, l, e, rm, s, m, as.toArray, below, meth, c) ⟨B.exec, B.bytes, hml, hown, fun c hc => hts c (List.mem_cons_of_mem _ hc), hK, rfl, B.returns, B.notSynchronized⟩ (fun h => by rw [← h]; exact (name_of_methodNamed B.named B.method).1) rfl
  have hl2 := lv_entry as (n := nL) hl
  rw [lg_entry_eq]
  refine hb s.heap [] _ hR (fun q h => by cases h) ⟨?_, hl2.2.1, fun q hq => ?_⟩
  · rw [hi]; exact hl2.1
  · obtain ⟨j, v⟩ := q
    have hm := ((lz_mem _ 0 j v).mp hq).2
    rw [Nat.sub_zero] at hm
    have := la0_at as [] i j v hm 0
    rw [Nat.zero_add] at this
    exact hl2.2.2 (j, v) this

