/-! ===== the law from its entry ===== -/
theorem arr_i {s : State} {A : Array Value} (h : (Cond.arrayClass .int).before A s = true) : ∃ cA, ArrOfT s cA .int ∧ va_RA s cA .int := by
  obtain ⟨cA, kA, comp, h1, h2, h3⟩ := Cond.arrayClass_spec h
  exact ⟨cA, fun n z => ⟨fun k h => (by cases h), kA, h2, comp, h3⟩, h1⟩
theorem arr_b {s : State} {A : Array Value} (h : (Cond.arrayClass .byte).before A s = true) : ∃ cA, ArrOfT s cA .byte ∧ va_RA s cA .byte := by
  obtain ⟨cA, kA, comp, h1, h2, h3⟩ := Cond.arrayClass_spec h
  exact ⟨cA, fun n z => ⟨fun k h => (by cases h), kA, h2, comp, h3⟩, h1⟩
theorem arr_l {s : State} {A : Array Value} (h : (Cond.arrayClass .long).before A s = true) : ∃ cA, ArrOfT s cA .long ∧ va_RA s cA .long := by
  obtain ⟨cA, kA, comp, h1, h2, h3⟩ := Cond.arrayClass_spec h
  exact ⟨cA, fun n z => ⟨fun k h => (by cases h), kA, h2, comp, h3⟩, h1⟩
theorem arr_z {s : State} {A : Array Value} (h : (Cond.arrayClass .boolean).before A s = true) : ∃ cA, ArrOfT s cA .boolean ∧ va_RA s cA .boolean := by
  obtain ⟨cA, kA, comp, h1, h2, h3⟩ := Cond.arrayClass_spec h
  exact ⟨cA, fun n z => ⟨fun k h => (by cases h), kA, h2, comp, h3⟩, h1⟩
theorem arr_o {s : State} {A : Array Value} {Cn : String} (h : (Cond.arrayOver (.object Cn)).before A s = true) : ∃ cA, ArrOfT s cA (.object Cn) ∧ va_RA s cA (.object Cn) := by
  obtain ⟨comp, cA, kA, g1, g2, g3, g4, g5⟩ := Cond.arrayOver_spec h
  exact ⟨cA, fun n z => ⟨fun k h => (by cases h), kA, g3, comp, g4⟩, kA, comp, g3, g4, g1, g5⟩
theorem mt_i : Cond.arrayClass .int ∈ lw_tbl := by decide +kernel
theorem mt_b : Cond.arrayClass .byte ∈ lw_tbl := by decide +kernel
theorem mt_l : Cond.arrayClass .long ∈ lw_tbl := by decide +kernel
theorem mt_z : Cond.arrayClass .boolean ∈ lw_tbl := by decide +kernel
theorem mt_o : ∀ Cn ∈ [RX6, RX7, RX9], Cond.arrayOver (.object Cn) ∈ lw_tbl := by decide +kernel
theorem mt_n : ∀ q ∈ nests, Cond.methodLinkNest q.1 q.2.1 q.2.2 "AimFerry" ∈ lw_tbl := by decide +kernel
theorem mt_s : ∀ q ∈ strs, Cond.stringRef q.1 q.2.1 q.2.2.1 ∈ lw_tbl := by decide +kernel
theorem mt_c : Cond.laysStatic "java/lang/String" "COMPACT_STRINGS" "Z" ∈ lw_tbl ∧ Cond.initialized "java/lang/String" ∈ lw_tbl := by decide +kernel
theorem mt_p : Cond.laysStatic "jdk/internal/util/Preconditions" "SIOOBE_FORMATTER" "Ljava/util/function/BiFunction;" ∈ lw_tbl ∧ Cond.initialized "jdk/internal/util/Preconditions" ∈ lw_tbl := by decide +kernel
def cidF (cB cI cJ cZ c6 c7 c9 : ClassId) : Nat → ClassId := fun k => if k = 12 then cB else if k = 13 then cI else if k = 14 then cJ else if k = 15 then cZ else if k = 16 then c6 else if k = 17 then c7 else c9
/-- the classes and the array classes, as the tables have them -/
theorem lw_K {s : State} {b : Nat} (hts : ∀ c ∈ lw_tbl, c.before #[Value.ref b] s = true) : ∃ (D : va_G) (cid : Nat → ClassId), ∀ H : Heap, gx_K (D, cid, H) s := by
  have ht : ∀ c ∈ gx_T, c.before #[Value.ref b] s = true := fun c hc => hts c (List.mem_filter.mp hc).1
  have hall : ∀ q ∈ vwCl, ∃ d : ClassId × (Nat → Nat), u_Kn s q.1 q.2.1 q.2.2 d.1 d.2 := by
    have K : ∀ {Cn : String} {T : u_T} {N n : Nat}, (∀ c ∈ u_ws Cn T N, c ∈ gx_T) → Cond.instantiable Cn n ∈ gx_T → ∃ d : ClassId × (Nat → Nat), u_Kn s Cn T N d.1 d.2 := fun h1 h2 => by
      obtain ⟨a, c, h⟩ := u_known ht h1 (ht _ h2)
      exact ⟨(a, c), h⟩
    exact List.forall_mem_cons.mpr ⟨K inT_X0 ui_X0, List.forall_mem_cons.mpr ⟨K inT_X1 ui_X1, List.forall_mem_cons.mpr ⟨K inT_X2 ui_X2, List.forall_mem_cons.mpr ⟨K inT_X3 ui_X3, List.forall_mem_cons.mpr ⟨K inT_X4 ui_X4, List.forall_mem_cons.mpr ⟨K inT_X6 ui_X6, List.forall_mem_cons.mpr ⟨K inT_X7 ui_X7, List.forall_mem_cons.mpr ⟨K inT_X8 ui_X8, List.forall_mem_cons.mpr ⟨K inT_X9 ui_X9, List.forall_mem_cons.mpr ⟨K inT_X10 ui_X10, List.forall_mem_cons.mpr ⟨K inT_X11 ui_X11, List.forall_mem_cons.mpr ⟨K inT_X12 ui_X12, fun _ h => absurd h List.not_mem_nil⟩⟩⟩⟩⟩⟩⟩⟩⟩⟩⟩⟩
  have hex : ∀ c : Nat, ∃ d : ClassId × (Nat → Nat), ∀ q, vwCl[c]? = some q → u_Kn s q.1 q.2.1 q.2.2 d.1 d.2 := fun c => by
    cases e : vwCl[c]? with
    | none => exact ⟨((hall _ (List.mem_cons_self)).choose), fun q h => by cases h⟩
    | some q0 =>
      obtain ⟨d, hd⟩ := hall q0 (List.mem_of_getElem? e)
      exact ⟨d, fun q h => by cases h; exact hd⟩
  obtain ⟨D, hD⟩ := Classical.axiomOfChoice hex
  obtain ⟨cB, hB⟩ := arr_b (hts _ mt_b)
  obtain ⟨cI, hI⟩ := arr_i (hts _ mt_i)
  obtain ⟨cJ, hJ⟩ := arr_l (hts _ mt_l)
  obtain ⟨cZ, hZ⟩ := arr_z (hts _ mt_z)
  obtain ⟨c6, h6⟩ := arr_o (hts _ (mt_o RX6 (by decide)))
  obtain ⟨c7, h7⟩ := arr_o (hts _ (mt_o RX7 (by decide)))
  obtain ⟨c9, h9⟩ := arr_o (hts _ (mt_o RX9 (by decide)))
  refine ⟨(fun c => (D c).1, fun c => (D c).2), cidF cB cI cJ cZ c6 c7 c9, fun H => ⟨fun c q hq => hD c q hq, fun k q hk => ?_⟩⟩
  have e : w_tys ((fun c => (D c).1, fun c => (D c).2), cidF cB cI cJ cZ c6 c7 c9, H) = [(cB, .byte), (cI, .int), (cJ, .long), (cZ, .boolean), (c6, .object RX6), (c7, .object RX7), (c9, .object RX9)] := rfl
  rw [e] at hk
  have hm := List.mem_of_getElem? hk
  revert hm
  exact fun hm => (List.forall_mem_cons.mpr ⟨hB, List.forall_mem_cons.mpr ⟨hI, List.forall_mem_cons.mpr ⟨hJ, List.forall_mem_cons.mpr ⟨hZ, List.forall_mem_cons.mpr ⟨h6, List.forall_mem_cons.mpr ⟨h7, List.forall_mem_cons.mpr ⟨h9, fun _ h => absurd h List.not_mem_nil⟩⟩⟩⟩⟩⟩⟩ : ∀ q ∈ ([(cB, .byte), (cI, .int), (cJ, .long), (cZ, .boolean), (c6, .object RX6), (c7, .object RX7), (c9, .object RX9)] : List (ClassId × FieldType)), ArrOfT s q.1 q.2 ∧ va_RA s q.1 q.2) q hm
