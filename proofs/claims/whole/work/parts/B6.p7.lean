/-! ===== one call on both sides: asks ===== -/
def INV (S : St) : Prop := ∃ (q : K5) (c ca cg cl ce P H m nr j z L : Nat) (u : Nat → Int32) (f x : Int32) (Fs : Nat → (Nat → Int64) → Int64) (W : Nat → Nat → Int32) (Tp : Nat → Int32) (im : Nat → Option IMt), CI S q c ca cg cl ce P H m nr j z L u f x Fs W Tp im ∧ RI S P H nr z L u f x Fs W Tp im
/-- what a reckoning of the reference may leave changed does not matter -/
def eqR (S T : St) : Prop := (s_z T = s_z S ∧ ∀ f, s_R T f 1000 = s_R S f 1000) ∧ (s_I T 1101 1000 = s_I S 1101 1000 ∧ s_I T 1102 1000 = s_I S 1102 1000 ∧ s_I T 1121 1000 = s_I S 1121 1000 ∧ s_I T 1122 1000 = s_I S 1122 1000 ∧ s_I T 1123 1000 = s_I S 1123 1000 ∧ s_I T 1125 1000 = s_I S 1125 1000) ∧ s_A T 1001 = s_A S 1001 ∧ s_A T 1002 = s_A S 1002 ∧ s_A T 1004 = s_A S 1004 ∧ s_A T 1005 = s_A S 1005 ∧ s_A T 1010 = s_A S 1010 ∧ s_A T 1011 = s_A S 1011 ∧ s_A T 1022 = s_A S 1022 ∧ s_A T 1023 = s_A S 1023 ∧ s_A T 1024 = s_A S 1024 ∧ s_A T 1025 = s_A S 1025
section
variable {S T : St} {q : K5} {c ca cg cl ce P H m nr j z L : Nat} {u : Nat → Int32} {f x : Int32} {Fs : Nat → (Nat → Int64) → Int64} {W : Nat → Nat → Int32} {Tp : Nat → Int32} {im : Nat → Option IMt}
theorem RI.sm (h : RI S P H nr z L u f x Fs W Tp im) (e : eqR S T) : RI T P H nr z L u f x Fs W Tp im := by
  obtain ⟨⟨ez, eR⟩, ⟨i1, i2, i3, i4, i5, i6⟩, a1, a2, a3, a4, a5, a6, a7, a8, a9, a10⟩ := e
  obtain ⟨h1, h2, h3, h4, h5, h6, h7⟩ := h
  refine ⟨⟨fun g j hg => (eR g).trans (h1.1 g j hg), by rw [ez]; exact h1.2⟩, ?_, ?_, ?_, ?_, ?_, fun k hk => (h7 k hk).mv a7 a8 a9 a10⟩
  · rw [a5]; exact h2
  · rw [i3, i4, i5]; exact h3
  · rw [i2]; exact ⟨h4.1, h4.2.1, fun r hr => (h4.2.2 r hr).mv a2 a3 a4⟩
  · rw [i6, a6]; exact h5
  · rw [i1, a1]; exact h6
theorem eqR.refl : eqR S S := ⟨⟨rfl, fun _ => rfl⟩, ⟨rfl, rfl, rfl, rfl, rfl, rfl⟩, rfl, rfl, rfl, rfl, rfl, rfl, rfl, rfl, rfl, rfl⟩
theorem INV.mk (h : CI S q c ca cg cl ce P H m nr j z L u f x Fs W Tp im) (g : RI S P H nr z L u f x Fs W Tp im) : INV S := ⟨q, c, ca, cg, cl, ce, P, H, m, nr, j, z, L, u, f, x, Fs, W, Tp, im, h, g⟩
/-- the reference has reckoned: nothing that counts has changed -/
theorem INV.rk (h : CI S q c ca cg cl ce P H m nr j z L u f x Fs W Tp im) (g : RI S P H nr z L u f x Fs W Tp im) (e : eqO dM S T) (r : eqR S T) : INV T := INV.mk (h.ref e) (g.sm r)
theorem dMA {k : Nat} {g : Nat → Int32} (h : dM k) : eqO dM S (s_setA S k g) := eqO.sA h
theorem eqO_scw {B W : Nat → Int64} {t : Int32} : eqO dM S (scw S B W t) := (eqO.sB (S := S) (D := dM) (k := 1009) (g := W) ⟨by decide, by decide⟩).trans ((eqO.sB (k := 1008) (g := B) ⟨by decide, by decide⟩).trans (eqO.sI (f := 1118) (k := 1000) (v := t) ⟨by decide, by decide⟩))
theorem eqO_keep : eqO dM S (keepS S) := eqO.sA ⟨by decide, by decide⟩
theorem eqR_sk {B W : Nat → Int64} {t : Int32} : eqR S (scw (keepS S) B W t) := ⟨⟨rfl, fun _ => rfl⟩, ⟨rfl, rfl, rfl, rfl, rfl, rfl⟩, rfl, rfl, rfl, rfl, rfl, rfl, rfl, rfl, rfl, rfl⟩
theorem INV.sk {B W' : Nat → Int64} {t : Int32} (h : CI S q c ca cg cl ce P H m nr j z L u f x Fs W Tp im) (g : RI S P H nr z L u f x Fs W Tp im) : INV (scw (keepS S) B W' t) := INV.rk h g (eqO_keep.trans eqO_scw) eqR_sk
/-- an ask of the class -/
theorem ask1 {a : Int32} {v : Option Value} (h : CI S q c ca cg cl ce P H m nr j z L u f x Fs W Tp im) (g : RI S P H nr z L u f x Fs W Tp im) (p : aP S a v T) : v = some (.int a) ∧ CI T q c ca cg cl ce P H m nr j z L u f x Fs W Tp im ∧ RI T P H nr z L u f x Fs W Tp im := ⟨p.1, h.ask p.2.1 p.2.2.1 p.2.2.2, g.to (eqM.of p.2.1 (fun k => dD_dM))⟩
/-- an ask of the reference that leaves its reckoning behind -/
theorem ask2 {ok : Prop} [Decidable ok] {a b : Int32} {v : Option Value} (h : CI S q c ca cg cl ce P H m nr j z L u f x Fs W Tp im) (g : RI S P H nr z L u f x Fs W Tp im) (p : if ok then (∃ B' W' t', v = some (.int a) ∧ T = scw (keepS S) B' W' t') else (v = some (.int b) ∧ T = S)) : v = some (.int (if ok then a else b)) ∧ INV T := by
  by_cases hk : ok
  · rw [if_pos hk] at p ⊢
    obtain ⟨B', W', t', rfl, rfl⟩ := p
    exact ⟨rfl, INV.sk h g⟩
  · rw [if_neg hk] at p ⊢
    obtain ⟨rfl, rfl⟩ := p
    exact ⟨rfl, INV.mk h g⟩
end
