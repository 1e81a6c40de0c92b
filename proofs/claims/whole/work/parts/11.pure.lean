/-! ===== numbers and sets: plain facts ===== -/
def bI (p : Prop) [Decidable p] : Int32 := if p then nI 1 else nI 0
theorem bI_t {p : Prop} [Decidable p] (h : p) : bI p = nI 1 := if_pos h
theorem bI_f {p : Prop} [Decidable p] (h : ¬ p) : bI p = nI 0 := if_neg h
theorem bI_0 {p : Prop} [Decidable p] : bI p = 0 ↔ ¬ p := by
  unfold bI; split <;> rename_i h
  · exact ⟨fun q => absurd q (by decide), fun q => absurd h q⟩
  · exact ⟨fun _ => h, fun _ => rfl⟩
theorem bI_z {p : Prop} [Decidable p] : bI p = 0 ∨ bI p = 1 := by
  unfold bI; split
  · exact Or.inr rfl
  · exact Or.inl rfl
/-- how many bits -/
def popN (s : Nat) : Nat := s % 2 + s / 2 % 2 + s / 4 % 2 + s / 8 % 2 + s / 16 % 2 + s / 32 % 2 + s / 64 % 2
theorem popN_step : ∀ s, s < 128 → 0 < s → popN s = popN (s &&& (s - 1)) + 1 ∧ (s &&& (s - 1)) < s := by decide +kernel
theorem and_pred : ∀ s, s < 128 → 0 < s → nI s &&& (nI s - nI 1) = nI (s &&& (s - 1)) := by decide +kernel
theorem popN_le : ∀ s, s < 128 → popN s ≤ 7 := by decide +kernel
theorem isOf_nI : ∀ s, s < 128 → ∀ p, p < 7 → (((nI s >>> (nI p &&& 31)) &&& nI 1 = nI 1) ↔ s.testBit p = true) := by decide +kernel
theorem or_bit : ∀ p, p < 7 → ∀ a, a < 128 → a < 2 ^ p → nI a ||| (nI 1 <<< (nI p &&& 31)) = nI (a + 2 ^ p) := by decide +kernel
theorem or_0 : ∀ a, a < 128 → nI a ||| nI 0 = nI a := by decide +kernel
theorem shl_bit : ∀ p, p < 8 → nI 1 <<< (nI p &&& 31) = nI (2 ^ p) := by decide +kernel
theorem shl1_bit : ∀ p, p < 8 → (1 : Int32) <<< (nI p &&& 31) = nI (2 ^ p) := by decide +kernel
theorem sub_iff : ∀ s, s < 128 → ∀ o, o < 128 → (nI s &&& (nI o ^^^ (-1)) = 0 ↔ s ||| o = o) := by decide +kernel
theorem andn_nI : ∀ s, s < 128 → ∀ o, o < 128 → nI s &&& (nI o ^^^ (-1)) = nI (s - (s &&& o)) := by decide +kernel
theorem or_set : ∀ p, p < 7 → ∀ s, s < 128 → nI s ||| nI (2 ^ p) = nI (s ||| 2 ^ p) ∧ s ||| 2 ^ p < 128 ∧ (s.testBit p = false → s < s ||| 2 ^ p) := by decide +kernel
theorem or_lt : ∀ s, s < 128 → ∀ p, p < 7 → s ||| 2 ^ p < 128 := by decide +kernel
