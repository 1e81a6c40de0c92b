/-! ===== the texts; the law's walk ===== -/
def tmL : List (String × Nat) := [("AimFerry$CrossingReader", 43), ("AimFerry$CrossingReader", 53), ("AimFerry$CrossingReader", 58), ("AimFerry$CrossingReader", 63), ("AimFerry$CrossingReader", 68), ("AimFerry$RuleReader", 61), ("AimFerry$RuleReader", 134), ("AimFerry$RuleReader", 136), ("AimFerry$RuleReader", 138), ("AimFerry$RuleReader", 140), ("AimFerry$RuleReader", 142), ("AimFerry$RuleReader", 144), ("AimFerry$RuleReader", 146), ("AimFerry$RuleReader", 148), ("AimFerry$RuleReader", 150), ("AimFerry$RuleReader", 152), ("AimFerry$RuleReader", 71), ("AimFerry$RuleReader", 90), ("AimFerry$RuleReader", 88), ("AimFerry$RuleReader", 83)]
def tmS (i : Nat) : Term := Term.string (tmL.getD i ("", 0)).1 (tmL.getD i ("", 0)).2
def nrw : List Cond := flatC (Jvm.Cond.and given_1 narrow_1)
theorem nw_1 : ∀ i, i < 20 → jsL.getD i 0 < 2 ^ 31 := by decide +kernel
theorem nw_2 : ∀ i, i < 20 → Cond.exactly (tmS i) "java/lang/String" ∈ nrw := by decide +kernel
theorem nw_3 : ∀ i, i < 20 → Cond.eq (.field (tmS i) "java/lang/String" "coder" "B") (.int 0) ∈ nrw := by decide +kernel
theorem nw_4 : ∀ i, i < 20 → Cond.arrayOf (.field (tmS i) "java/lang/String" "value" "[B") .byte ∈ nrw := by decide +kernel
theorem nw_5 : ∀ i, i < 20 → Cond.eq (.length (.field (tmS i) "java/lang/String" "value" "[B")) (.int (Int32.ofNat (jsL.getD i 0))) ∈ nrw := by decide +kernel
theorem nw_6 : ∀ i, i < 20 → ∀ j, j < jsL.getD i 0 → Cond.eq (.elem (.field (tmS i) "java/lang/String" "value" "[B") (.int (Int32.ofNat j))) (.int ((jsB.getD i []).getD j 0)) ∈ nrw := by decide +kernel
theorem nw_7_0 : ∀ j, j < 20 → 0 < j → nrw[([0, 64, 73, 85, 95, 108, 136, 152, 169, 186, 204, 225, 245, 268, 291, 314, 360, 385, 411, 437] : List Nat).getD j 0]? = some (Cond.not (Cond.eq (tmS 0) (tmS j))) ∨ nrw[([0, 64, 73, 85, 95, 108, 136, 152, 169, 186, 204, 225, 245, 268, 291, 314, 360, 385, 411, 437] : List Nat).getD j 0]? = some (Cond.not (Cond.eq (tmS j) (tmS 0))) := by decide +kernel
theorem nw_7_1 : ∀ j, j < 20 → 1 < j → nrw[([0, 0, 74, 86, 96, 109, 137, 153, 170, 187, 205, 226, 246, 269, 292, 315, 361, 386, 412, 438] : List Nat).getD j 0]? = some (Cond.not (Cond.eq (tmS 1) (tmS j))) ∨ nrw[([0, 0, 74, 86, 96, 109, 137, 153, 170, 187, 205, 226, 246, 269, 292, 315, 361, 386, 412, 438] : List Nat).getD j 0]? = some (Cond.not (Cond.eq (tmS j) (tmS 1))) := by decide +kernel
theorem nw_7_2 : ∀ j, j < 20 → 2 < j → nrw[([0, 0, 0, 87, 97, 110, 138, 154, 171, 188, 206, 227, 247, 270, 293, 316, 362, 387, 413, 439] : List Nat).getD j 0]? = some (Cond.not (Cond.eq (tmS 2) (tmS j))) ∨ nrw[([0, 0, 0, 87, 97, 110, 138, 154, 171, 188, 206, 227, 247, 270, 293, 316, 362, 387, 413, 439] : List Nat).getD j 0]? = some (Cond.not (Cond.eq (tmS j) (tmS 2))) := by decide +kernel
theorem nw_7_3 : ∀ j, j < 20 → 3 < j → nrw[([0, 0, 0, 0, 98, 111, 139, 155, 172, 189, 207, 228, 248, 271, 294, 317, 363, 388, 414, 440] : List Nat).getD j 0]? = some (Cond.not (Cond.eq (tmS 3) (tmS j))) ∨ nrw[([0, 0, 0, 0, 98, 111, 139, 155, 172, 189, 207, 228, 248, 271, 294, 317, 363, 388, 414, 440] : List Nat).getD j 0]? = some (Cond.not (Cond.eq (tmS j) (tmS 3))) := by decide +kernel
theorem nw_7_4 : ∀ j, j < 20 → 4 < j → nrw[([0, 0, 0, 0, 0, 112, 140, 156, 173, 190, 208, 229, 249, 272, 295, 318, 364, 389, 415, 441] : List Nat).getD j 0]? = some (Cond.not (Cond.eq (tmS 4) (tmS j))) ∨ nrw[([0, 0, 0, 0, 0, 112, 140, 156, 173, 190, 208, 229, 249, 272, 295, 318, 364, 389, 415, 441] : List Nat).getD j 0]? = some (Cond.not (Cond.eq (tmS j) (tmS 4))) := by decide +kernel
theorem nw_7_5 : ∀ j, j < 20 → 5 < j → nrw[([0, 0, 0, 0, 0, 0, 141, 157, 174, 191, 209, 230, 250, 273, 296, 319, 365, 390, 416, 442] : List Nat).getD j 0]? = some (Cond.not (Cond.eq (tmS 5) (tmS j))) ∨ nrw[([0, 0, 0, 0, 0, 0, 141, 157, 174, 191, 209, 230, 250, 273, 296, 319, 365, 390, 416, 442] : List Nat).getD j 0]? = some (Cond.not (Cond.eq (tmS j) (tmS 5))) := by decide +kernel
theorem nw_7_6 : ∀ j, j < 20 → 6 < j → nrw[([0, 0, 0, 0, 0, 0, 0, 159, 176, 193, 211, 232, 252, 275, 298, 321, 367, 392, 418, 444] : List Nat).getD j 0]? = some (Cond.not (Cond.eq (tmS 6) (tmS j))) ∨ nrw[([0, 0, 0, 0, 0, 0, 0, 159, 176, 193, 211, 232, 252, 275, 298, 321, 367, 392, 418, 444] : List Nat).getD j 0]? = some (Cond.not (Cond.eq (tmS j) (tmS 6))) := by decide +kernel
theorem nw_7_7 : ∀ j, j < 20 → 7 < j → nrw[([0, 0, 0, 0, 0, 0, 0, 0, 177, 194, 212, 233, 253, 276, 299, 322, 368, 393, 419, 445] : List Nat).getD j 0]? = some (Cond.not (Cond.eq (tmS 7) (tmS j))) ∨ nrw[([0, 0, 0, 0, 0, 0, 0, 0, 177, 194, 212, 233, 253, 276, 299, 322, 368, 393, 419, 445] : List Nat).getD j 0]? = some (Cond.not (Cond.eq (tmS j) (tmS 7))) := by decide +kernel
theorem nw_7_8 : ∀ j, j < 20 → 8 < j → nrw[([0, 0, 0, 0, 0, 0, 0, 0, 0, 195, 213, 234, 254, 277, 300, 323, 369, 394, 420, 446] : List Nat).getD j 0]? = some (Cond.not (Cond.eq (tmS 8) (tmS j))) ∨ nrw[([0, 0, 0, 0, 0, 0, 0, 0, 0, 195, 213, 234, 254, 277, 300, 323, 369, 394, 420, 446] : List Nat).getD j 0]? = some (Cond.not (Cond.eq (tmS j) (tmS 8))) := by decide +kernel
theorem nw_7_9 : ∀ j, j < 20 → 9 < j → nrw[([0, 0, 0, 0, 0, 0, 0, 0, 0, 0, 214, 235, 255, 278, 301, 324, 370, 395, 421, 447] : List Nat).getD j 0]? = some (Cond.not (Cond.eq (tmS 9) (tmS j))) ∨ nrw[([0, 0, 0, 0, 0, 0, 0, 0, 0, 0, 214, 235, 255, 278, 301, 324, 370, 395, 421, 447] : List Nat).getD j 0]? = some (Cond.not (Cond.eq (tmS j) (tmS 9))) := by decide +kernel
theorem nw_7_10 : ∀ j, j < 20 → 10 < j → nrw[([0, 0, 0, 0, 0, 0, 0, 0, 0, 0, 0, 236, 256, 279, 302, 325, 371, 396, 422, 448] : List Nat).getD j 0]? = some (Cond.not (Cond.eq (tmS 10) (tmS j))) ∨ nrw[([0, 0, 0, 0, 0, 0, 0, 0, 0, 0, 0, 236, 256, 279, 302, 325, 371, 396, 422, 448] : List Nat).getD j 0]? = some (Cond.not (Cond.eq (tmS j) (tmS 10))) := by decide +kernel
theorem nw_7_11 : ∀ j, j < 20 → 11 < j → nrw[([0, 0, 0, 0, 0, 0, 0, 0, 0, 0, 0, 0, 257, 280, 303, 326, 372, 397, 423, 449] : List Nat).getD j 0]? = some (Cond.not (Cond.eq (tmS 11) (tmS j))) ∨ nrw[([0, 0, 0, 0, 0, 0, 0, 0, 0, 0, 0, 0, 257, 280, 303, 326, 372, 397, 423, 449] : List Nat).getD j 0]? = some (Cond.not (Cond.eq (tmS j) (tmS 11))) := by decide +kernel
theorem nw_7_12 : ∀ j, j < 20 → 12 < j → nrw[([0, 0, 0, 0, 0, 0, 0, 0, 0, 0, 0, 0, 0, 281, 304, 327, 373, 398, 424, 450] : List Nat).getD j 0]? = some (Cond.not (Cond.eq (tmS 12) (tmS j))) ∨ nrw[([0, 0, 0, 0, 0, 0, 0, 0, 0, 0, 0, 0, 0, 281, 304, 327, 373, 398, 424, 450] : List Nat).getD j 0]? = some (Cond.not (Cond.eq (tmS j) (tmS 12))) := by decide +kernel
theorem nw_7_13 : ∀ j, j < 20 → 13 < j → nrw[([0, 0, 0, 0, 0, 0, 0, 0, 0, 0, 0, 0, 0, 0, 305, 328, 374, 399, 425, 451] : List Nat).getD j 0]? = some (Cond.not (Cond.eq (tmS 13) (tmS j))) ∨ nrw[([0, 0, 0, 0, 0, 0, 0, 0, 0, 0, 0, 0, 0, 0, 305, 328, 374, 399, 425, 451] : List Nat).getD j 0]? = some (Cond.not (Cond.eq (tmS j) (tmS 13))) := by decide +kernel
theorem nw_7_14 : ∀ j, j < 20 → 14 < j → nrw[([0, 0, 0, 0, 0, 0, 0, 0, 0, 0, 0, 0, 0, 0, 0, 329, 375, 400, 426, 452] : List Nat).getD j 0]? = some (Cond.not (Cond.eq (tmS 14) (tmS j))) ∨ nrw[([0, 0, 0, 0, 0, 0, 0, 0, 0, 0, 0, 0, 0, 0, 0, 329, 375, 400, 426, 452] : List Nat).getD j 0]? = some (Cond.not (Cond.eq (tmS j) (tmS 14))) := by decide +kernel
theorem nw_7_15 : ∀ j, j < 20 → 15 < j → nrw[([0, 0, 0, 0, 0, 0, 0, 0, 0, 0, 0, 0, 0, 0, 0, 0, 376, 401, 427, 453] : List Nat).getD j 0]? = some (Cond.not (Cond.eq (tmS 15) (tmS j))) ∨ nrw[([0, 0, 0, 0, 0, 0, 0, 0, 0, 0, 0, 0, 0, 0, 0, 0, 376, 401, 427, 453] : List Nat).getD j 0]? = some (Cond.not (Cond.eq (tmS j) (tmS 15))) := by decide +kernel
theorem nw_7_16 : ∀ j, j < 20 → 16 < j → nrw[([0, 0, 0, 0, 0, 0, 0, 0, 0, 0, 0, 0, 0, 0, 0, 0, 0, 403, 429, 455] : List Nat).getD j 0]? = some (Cond.not (Cond.eq (tmS 16) (tmS j))) ∨ nrw[([0, 0, 0, 0, 0, 0, 0, 0, 0, 0, 0, 0, 0, 0, 0, 0, 0, 403, 429, 455] : List Nat).getD j 0]? = some (Cond.not (Cond.eq (tmS j) (tmS 16))) := by decide +kernel
theorem nw_7_17 : ∀ j, j < 20 → 17 < j → nrw[([0, 0, 0, 0, 0, 0, 0, 0, 0, 0, 0, 0, 0, 0, 0, 0, 0, 0, 430, 456] : List Nat).getD j 0]? = some (Cond.not (Cond.eq (tmS 17) (tmS j))) ∨ nrw[([0, 0, 0, 0, 0, 0, 0, 0, 0, 0, 0, 0, 0, 0, 0, 0, 0, 0, 430, 456] : List Nat).getD j 0]? = some (Cond.not (Cond.eq (tmS j) (tmS 17))) := by decide +kernel
theorem nw_7_18 : ∀ j, j < 20 → 18 < j → nrw[([0, 0, 0, 0, 0, 0, 0, 0, 0, 0, 0, 0, 0, 0, 0, 0, 0, 0, 0, 457] : List Nat).getD j 0]? = some (Cond.not (Cond.eq (tmS 18) (tmS j))) ∨ nrw[([0, 0, 0, 0, 0, 0, 0, 0, 0, 0, 0, 0, 0, 0, 0, 0, 0, 0, 0, 457] : List Nat).getD j 0]? = some (Cond.not (Cond.eq (tmS j) (tmS 18))) := by decide +kernel
theorem nw_7_19 : ∀ j, j < 20 → 19 < j → nrw[([0, 0, 0, 0, 0, 0, 0, 0, 0, 0, 0, 0, 0, 0, 0, 0, 0, 0, 0, 0] : List Nat).getD j 0]? = some (Cond.not (Cond.eq (tmS 19) (tmS j))) ∨ nrw[([0, 0, 0, 0, 0, 0, 0, 0, 0, 0, 0, 0, 0, 0, 0, 0, 0, 0, 0, 0] : List Nat).getD j 0]? = some (Cond.not (Cond.eq (tmS j) (tmS 19))) := by decide +kernel
theorem nw_7l : ∀ i, i < 20 → ∀ j, j < 20 → i < j → Cond.not (Cond.eq (tmS i) (tmS j)) ∈ nrw ∨ Cond.not (Cond.eq (tmS j) (tmS i)) ∈ nrw := fun i hi j hj h => by
  have m : ∀ {n : Nat} {c d : Cond}, (nrw[n]? = some c ∨ nrw[n]? = some d) → (c ∈ nrw ∨ d ∈ nrw) := fun h => h.imp List.mem_of_getElem? List.mem_of_getElem?
  have hc : i = 0 ∨ i = 1 ∨ i = 2 ∨ i = 3 ∨ i = 4 ∨ i = 5 ∨ i = 6 ∨ i = 7 ∨ i = 8 ∨ i = 9 ∨ i = 10 ∨ i = 11 ∨ i = 12 ∨ i = 13 ∨ i = 14 ∨ i = 15 ∨ i = 16 ∨ i = 17 ∨ i = 18 ∨ i = 19 := by omega
  rcases hc with rfl | rfl | rfl | rfl | rfl | rfl | rfl | rfl | rfl | rfl | rfl | rfl | rfl | rfl | rfl | rfl | rfl | rfl | rfl | rfl
  · exact m (nw_7_0 j hj h)
  · exact m (nw_7_1 j hj h)
  · exact m (nw_7_2 j hj h)
  · exact m (nw_7_3 j hj h)
  · exact m (nw_7_4 j hj h)
  · exact m (nw_7_5 j hj h)
  · exact m (nw_7_6 j hj h)
  · exact m (nw_7_7 j hj h)
  · exact m (nw_7_8 j hj h)
  · exact m (nw_7_9 j hj h)
  · exact m (nw_7_10 j hj h)
  · exact m (nw_7_11 j hj h)
  · exact m (nw_7_12 j hj h)
  · exact m (nw_7_13 j hj h)
  · exact m (nw_7_14 j hj h)
  · exact m (nw_7_15 j hj h)
  · exact m (nw_7_16 j hj h)
  · exact m (nw_7_17 j hj h)
  · exact m (nw_7_18 j hj h)
  · exact m (nw_7_19 j hj h)
theorem nw_7 : ∀ i, i < 20 → ∀ j, j < 20 → i ≠ j → Cond.not (Cond.eq (tmS i) (tmS j)) ∈ nrw ∨ Cond.not (Cond.eq (tmS j) (tmS i)) ∈ nrw := fun i hi j hj h => by
  by_cases g : i < j
  · exact nw_7l i hi j hj g
  · exact (nw_7l j hj i hi (by omega)).symm
theorem nw_8 : Cond.eq (.static "java/lang/String" "COMPACT_STRINGS" "Z") (.int 1) ∈ nrw := by decide +kernel
theorem nw_9 : Cond.isRef (.static "jdk/internal/util/Preconditions" "SIOOBE_FORMATTER" "Ljava/util/function/BiFunction;") ∈ nrw := by decide +kernel
theorem nw_a : Cond.eq (Term.string "AimFerry$CrossingReader" 53) (Term.string "AimFerry$RuleReader" 132) ∈ nrw := by decide +kernel
theorem nw_b : Cond.eq (Term.string "AimFerry$CrossingReader" 68) (Term.string "AimFerry$RuleReader" 154) ∈ nrw := by decide +kernel
theorem eq_R {args : Array Value} {s : State} {t u : Term} {a : Nat} (h : (Cond.eq t u).before args s = true) (ht : t.eval args s none [] s = some (.ref a)) : u.eval args s none [] s = some (.ref a) := by
  cases hv : u.eval args s none [] s with
  | none => simp [Cond.before, Cond.holds, Cond.value, hv, ht] at h
  | some w =>
    simp only [Cond.before, Cond.holds, Cond.value, hv, ht] at h
    cases w <;> simp_all
theorem st_all : ∀ q ∈ strs, (q.1, q.2.1) = tmL.getD q.2.2.2 ("", 0) ∧ q.2.2.2 < 20 ∨ (q.1 = "AimFerry$RuleReader" ∧ q.2.1 = 132 ∧ q.2.2.2 = 1) ∨ (q.1 = "AimFerry$RuleReader" ∧ q.2.1 = 154 ∧ q.2.2.2 = 4) := by decide +kernel
theorem lw_V {s : State} {b : Nat} (D : va_G) (cid : Nat → ClassId) (hts : ∀ c ∈ lw_tbl, c.before #[Value.ref b] s = true) (hgv : (Jvm.Cond.and given_1 narrow_1).before #[Value.ref b] s = true) : ∃ j : SJ, gx_V (D, cid, s.heap) j s := by
  have hs : ∀ c ∈ nrw, c.before #[Value.ref b] s = true := flat_of_before _ hgv
  have hA : ∀ a : Nat, a < s.heap.size → ¬ (fun q => w_b (D, cid, s.heap) ≤ q) a := fun a ha g => by
    have : s.heap.size ≤ a := g
    omega
  obtain ⟨aK, aV, hS, hE⟩ := vk_Sof (args := #[Value.ref b]) (s := s) (N := 20) (tm := tmS) (len := jsL) (byt := jsB) (A := fun q => w_b (D, cid, s.heap) ≤ q) nw_1 (fun i hi => hs _ (nw_2 i hi)) (fun i hi => hs _ (nw_3 i hi)) (fun i hi => hs _ (nw_4 i hi)) (fun i hi => hs _ (nw_5 i hi)) (fun i hi j hj => hs _ (nw_6 i hi j hj)) (fun i j hi hj hij => (nw_7 i hi j hj hij).imp (hs _) (hs _)) hA
  refine ⟨(aK, aV), ⟨hS, va_Zof (hts _ mt_c.1) (hts _ mt_c.2) (va_eqt (hs _ nw_8)) hA, va_Zqof (hts _ mt_p.1) (hts _ mt_p.2) (hs _ nw_9) hA, fun q hq => ⟨hts _ (mt_s q hq), ?_⟩⟩, fun q hq => hts _ (mt_n q hq), hts _ (mt_o RX6 (by decide)), hts _ (mt_o RX7 (by decide)), hts _ (mt_o RX9 (by decide))⟩
  rcases st_all q hq with ⟨h1, h2⟩ | ⟨h1, h2, h3⟩ | ⟨h1, h2, h3⟩
  · have h := hE q.2.2.2 h2
    unfold tmS at h
    rw [← h1] at h
    exact h
  · rw [h1, h2, h3]
    have h : (Term.string "AimFerry$RuleReader" 132).eval #[Value.ref b] s none [] s = some (.ref (aK 1)) := eq_R (t := Term.string "AimFerry$CrossingReader" 53) (hs _ nw_a) (hE 1 (by decide))
    exact h
  · rw [h1, h2, h3]
    have h : (Term.string "AimFerry$RuleReader" 154).eval #[Value.ref b] s none [] s = some (.ref (aK 4)) := eq_R (t := Term.string "AimFerry$CrossingReader" 68) (hs _ nw_b) (hE 4 (by decide))
    exact h
theorem ad_gw (b k : Nat) : b ≤ ad b k := by unfold ad; split <;> (try split) <;> omega
theorem lw_R0 (D : va_G) (cid : Nat → ClassId) (H : Heap) : gx_R (D, cid, H) sZ H := ⟨rfl, fun k _ hk => absurd hk (Nat.not_lt_of_le (ad_gw _ k)), fun q _ => rfl⟩
theorem k_sZ : kz (s_z sZ) = 0 := by decide +kernel
theorem k_sXE : kz (s_z sXE) = 1000 := by decide +kernel
theorem law_body {w : Wd} {X : FX} {j : SJ} {b Ln : Nat} {xs : Nat → Int32} {Q : State → Prop} (K : lwK w X j b Ln xs) (hend : ∀ S n1 n2 L, n1 ≤ 10000 → n2 ≤ 3000000 → gx_G w X S n1 n2 1105 L [] Q) : gx_G w X sZ 0 0 0 [some (.ref b), none, none, none] [] Q := by
  have C := K.1
  have V := K.2.1
  refine gn_L_7 (pc := 0) C (fit_kn (by decide +kernel : fitB (s_z sZ) 10 0 = true)).1 (fit_kn (by decide +kernel : fitB (s_z sZ) 10 0 = true)).2 ⟨by decide, by decide⟩ dL_law_0 ?_
  rw [k_sZ]
  refine gx_S (S' := sX0) rfl ?_
  refine g_dup (pc := 3) C dL_law_3 rfl ?_
  refine ci_L_9 (pc := 4) C V (c_X11_init w j _) ⟨rfl, rfl⟩ ⟨by decide, by decide⟩ rfl (Nat.le_of_ble_eq_true rfl) dL_law_4 ?_
  rintro _ _ ⟨rfl, rfl⟩
  refine gx_st (st' := [.ref (ad (w_b w) 0)]) rfl ?_
  refine g_astore_n (pc := 7) (L' := [some (.ref b), some (.ref (ad (w_b w) 0)), none, none]) C dL_law_7 rfl rfl ?_
  refine gn_L_10 (pc := 8) C (fit_kn (by decide +kernel : fitB (s_z sXE) 11 0 = true)).1 (fit_kn (by decide +kernel : fitB (s_z sXE) 11 0 = true)).2 ⟨by decide, by decide⟩ dL_law_8 ?_
  rw [k_sXE]
  refine gx_S (S' := sM0) rfl ?_
  refine g_dup (pc := 11) C dL_law_11 rfl ?_
  refine ci_L_12 (pc := 12) C (c_X12_init w _) ⟨rfl, rfl⟩ ⟨by decide, by decide⟩ rfl (Nat.le_of_ble_eq_true rfl) dL_law_12 ?_
  rintro _ _ ⟨rfl, rfl⟩
  refine gx_st (st' := [.ref (ad (w_b w) 1000)]) rfl ?_
  refine g_astore_n (pc := 15) (L' := [some (.ref b), some (.ref (ad (w_b w) 0)), some (.ref (ad (w_b w) 1000)), none]) C dL_law_15 rfl rfl ?_
  refine g_iconst (pc := 16) (v := nI 0) C dL_law_16 (by decide) ?_
  refine g_istore_n (pc := 17) (L' := lwL w b (6 * 0)) C dL_law_17 rfl rfl ?_
  exact law_loop K hend 514 0 sME _ _ rfl (Nat.le_of_ble_eq_true rfl) (Nat.le_of_ble_eq_true rfl) i0
/-- the law, from its entry to its end -/
theorem whole_start {p : Program} {e : Env} {s : State} {m : MethodId} {below : List Frame} {meth : Method} {c : Code} (l : Launch) (hflags : l.flags = flags0) {b L : Nat} {xs : Nat → Int32} (hL : L ≤ 3072) (C0 : lw_At p s m meth c b L xs) : W p l e room_1 s m #[Value.ref b] below meth c s.heap [] 0 0 (lw_Z below #[Value.ref b] s) (entryFrame m ([Value.ref b] : List Value).toArray 4) := by
  obtain ⟨hx, hbc, hr, hml, hown, hts, hX, hb, hlk, hgv⟩ := C0
  obtain ⟨D, cid, hK⟩ := lw_K hts
  obtain ⟨j, hV⟩ := lw_V D cid hts hgv
  have K : lwK (D, cid, s.heap) (p, l, e, room_1, s, m, #[Value.ref b], below, meth, c) j b L xs := ⟨⟨hx, hbc, hml, hown, fun c hc => hts c (List.mem_filter.mp hc).1, hK s.heap, rfl, hr, hlk⟩, hV, hX, hb, hL⟩
  have hbody := law_body (Q := lw_Z below #[Value.ref b] s) K (fun S n1 n2 Ls h1 h2 => by
    refine g_iconst (pc := 1105) (v := 1) K.1 dL_law_1105 (by decide) ?_
    intro H locs ls hR hl hLs
    refine W.widen (k := 600000) (n := 7302250) (by omega) (by omega) ?_
    refine va_forget hl ?_
    exact lw_ret hx hbc hr hlk dL_law_1106)
  have hl2 := lv_entry [Value.ref b] (n := 4) (Nat.le_of_ble_eq_true rfl)
  rw [lg_entry_eq]
  refine hbody s.heap [] _ (lw_R0 D cid s.heap) (fun q h => by cases h) ⟨?_, hl2.2.1, fun q hq => ?_⟩
  · exact hl2.1
  · obtain ⟨jq, v⟩ := q
    have hm := ((lz_mem _ 0 jq v).mp hq).2
    rw [Nat.sub_zero] at hm
    have := la0_at [Value.ref b] [] 3 jq v hm 0
    rw [Nat.zero_add] at this
    exact hl2.2.2 (jq, v) this
