/-! ===== the law: its script ===== -/
theorem g_sld {w : Wd} {X : FX} {S : St} {n1 n2 pc : Nat} {L : List (Option Value)} {st : List Value} {Q : State → Prop} {cc : ByteArray} {nL : Nat} {own : String} {rm : Room} {ret : Option FieldType} (C : gx_C w X cc nL own rm ret) {b Ln j : Nat} {xs : Nat → Int32} {i : Int32} (hX : va_X b Ln xs (x_s X) w.2.2) (hb : b < w_b w) (hn : Ln ≤ 3072) (he : i = nI j) (hj : j < Ln) (hd : decode cc pc = .ok (.iaload, 1)) (kk : gx_G w X S n1 n2 (pc + 1) L (.int (xs j) :: st) Q) : gx_G w X S n1 n2 pc L (.int i :: .ref b :: st) Q := by
  subst he
  intro H locs ls hR hl hL
  obtain ⟨scr, h1, h2, h3, h4, h5⟩ := hX.kept (hR.2.2 b hb)
  have hc : (nI j).toNatClampNeg = j := nI_clamp (by omega)
  exact W.iald (v := .int (xs j)) C.1 C.2.1 h1 h2 h3 (by rw [hc, h4]; exact fun q => q.elim (fun z => nI_pos (by omega) z) (fun z => by omega)) (by rw [hc]; exact h5 _ hj) rfl rfl hd (kk H locs ls hR hl hL)
theorem g_slen {w : Wd} {X : FX} {S : St} {n1 n2 pc : Nat} {L : List (Option Value)} {st : List Value} {Q : State → Prop} {cc : ByteArray} {nL : Nat} {own : String} {rm : Room} {ret : Option FieldType} (C : gx_C w X cc nL own rm ret) {b Ln : Nat} {xs : Nat → Int32} (hX : va_X b Ln xs (x_s X) w.2.2) (hb : b < w_b w) (hd : decode cc pc = .ok (.arraylength, 1)) (kk : gx_G w X S n1 n2 (pc + 1) L (.int (nI Ln) :: st) Q) : gx_G w X S n1 n2 pc L (.ref b :: st) Q := by
  intro H locs ls hR hl hL
  obtain ⟨scr, h1, h2, h3, h4, h5⟩ := hX.kept (hR.2.2 b hb)
  exact W.alen (n := Int32.ofNat Ln) C.1 C.2.1 h1 h2 (by rw [h4] <;> rfl) rfl rfl hd (kk H locs ls hR hl hL)
/-- where the law stands between two calls -/
def lwL (w : Wd) (b i : Nat) : List (Option Value) := [some (.ref b), some (.ref (ad (w_b w) 0)), some (.ref (ad (w_b w) 1000)), some (.int (nI i))]
def lwK (w : Wd) (X : FX) (j : SJ) (b Ln : Nat) (xs : Nat → Int32) : Prop := gx_C w X cL_law 4 RL room_1 (some .boolean) ∧ gx_V w j (x_s X) ∧ va_X b Ln xs (x_s X) w.2.2 ∧ b < w_b w ∧ Ln ≤ 3072
/-- what follows when both sides have answered alike -/
def lwN (w : Wd) (X : FX) (b i n1 n2 : Nat) (Q : State → Prop) : Prop := ∀ S n1' n2', n1' ≤ n1 + 5 → n2' ≤ n2 + 600 → INV S → gx_G w X S n1' n2' 1099 (lwL w b i) [] Q
