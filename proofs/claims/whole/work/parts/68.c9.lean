/-! ===== THE CLASS: rows for what may be null ===== -/
theorem gx_tv {w : Wd} {X : FX} {S : St} {n1 n2 pc : Nat} {L : List (Option Value)} {st : List Value} {Q : State → Prop} {x y : Value} (h : x = y) (k : gx_G w X S n1 n2 pc L (y :: st) Q) : gx_G w X S n1 n2 pc L (x :: st) Q := h ▸ k
section NULLS
variable {w : Wd} {X : FX} {S : St} {n1 n2 pc : Nat} {L : List (Option Value)} {st : List Value} {Q : State → Prop} {cc : ByteArray} {nL : Nat} {own : String} {rm : Room} {ret : Option FieldType}
theorem g_aload_nV (C : gx_C w X cc nL own rm ret) {j : Fin 4} {o : Option Nat} (hd : decode cc pc = .ok (.aload_n j, 1)) (h : L[(j : Nat)]? = some (some (va_rf o))) (k : gx_G w X S n1 n2 (pc + 1) L (va_rf o :: st) Q) : gx_G w X S n1 n2 pc L st Q := fun H locs ls hR hl hL => by
  cases o with
  | none => exact lv_aload_nN C.1 C.2.1 hd rfl (hL.at h) (k H locs ls hR hl hL)
  | some a => exact lv_aload_n C.1 C.2.1 hd rfl (hL.at h) (k H locs ls hR hl hL)
theorem g_aloadV (C : gx_C w X cc nL own rm ret) {i : Nat} {o : Option Nat} (hd : decode cc pc = .ok (.aload i, 2)) (h : L[i]? = some (some (va_rf o))) (k : gx_G w X S n1 n2 (pc + 2) L (va_rf o :: st) Q) : gx_G w X S n1 n2 pc L st Q := fun H locs ls hR hl hL => by
  cases o with
  | none => exact lv_aloadN C.1 C.2.1 hd (hL.at h) (k H locs ls hR hl hL)
  | some a => exact lv_aload C.1 C.2.1 hd (hL.at h) (k H locs ls hR hl hL)
theorem g_ifnonnullN (C : gx_C w X cc nL own rm ret) {off : Int} (hd : decode cc pc = .ok (.ifnonnull off, 3)) (k : gx_G w X S n1 n2 (pc + 3) L st Q) : gx_G w X S n1 n2 pc L (.null :: st) Q := fun H locs ls hR hl hL => lv_ifnonnullN C.1 C.2.1 hd (k H locs ls hR hl hL)
/-- a list of locals with one of them anew -/
def lst0 : List (Option Value) → Nat → Value → List (Option Value)
  | [], _, _ => []
  | _ :: t, 0, v => some v :: t
  | x :: t, i + 1, v => x :: lst0 t i v
theorem lk2_rf (o : Option Nat) : lk2 (some (va_rf o)) = some (va_rf o) := by cases o <;> rfl
theorem lst1_0 : ∀ (L : List (Option Value)) (i : Nat) (o : Option Nat) (v : Value), L[i]? = some (some (va_rf o)) → lst1 L (i + 1) v = lst0 L (i + 1) v
  | [], _, _, _, h => by simp at h
  | x :: t, 0, o, v, h => by
    simp at h
    subst h
    cases t with
    | nil => simp [lst1, lst0, lk2_rf]
    | cons y t => simp [lst1, lst0, lk2_rf]
  | x :: t, i + 1, o, v, h => by
    have ih := lst1_0 t i o v (by simpa using h)
    show x :: lst1 t (i + 1) v = x :: lst0 t (i + 1) v
    rw [ih]
theorem g_istoreV (C : gx_C w X cc nL own rm ret) {i : Nat} {x : Int32} {o : Option Nat} {L' : List (Option Value)} (hd : decode cc pc = .ok (.istore (i + 1), 2)) (hn : Nat.blt (i + 1) L.length = true) (hp : L[i]? = some (some (va_rf o))) (h : lst0 L (i + 1) (.int x) = L') (k : gx_G w X S n1 n2 (pc + 2) L' st Q) : gx_G w X S n1 n2 pc L (.int x :: st) Q := g_istore C hd hn ((lst1_0 L i o _ hp).trans h) k
theorem g_istore_nV (C : gx_C w X cc nL own rm ret) {i : Nat} {j : Fin 4} {x : Int32} {o : Option Nat} {L' : List (Option Value)} (hd : decode cc pc = .ok (.istore_n j, 1)) (hj : (j : Nat) = i + 1) (hn : Nat.blt (i + 1) L.length = true) (hp : L[i]? = some (some (va_rf o))) (h : lst0 L (i + 1) (.int x) = L') (k : gx_G w X S n1 n2 (pc + 1) L' st Q) : gx_G w X S n1 n2 pc L (.int x :: st) Q := g_istore_n C hd (by rw [hj]; exact hn) (by rw [hj]; exact (lst1_0 L i o _ hp).trans h) k
end NULLS
/-! one more aboard -/
theorem tb_or {s p i : Nat} : (s ||| 2 ^ p).testBit i = (s.testBit i || decide (p = i)) := by rw [Nat.testBit_or, Nat.testBit_two_pow]
theorem aims_or {u : Nat → Int32} {s p : Nat} (hp : s.testBit p = false) : ∀ n, aimsF u (s ||| 2 ^ p) False n = aimsF u s False n + (if p < n then u (14 + p) else nI 0)
  | 0 => by simp [aimsF, nI_0]
  | n + 1 => by
    have ih := aims_or (u := u) hp n
    by_cases e : p = n
    · subst e
      simp only [aimsF, tb_or, hp, ih, decide_true, Bool.or_true, Nat.lt_irrefl, if_true, if_false, show p < p + 1 by omega, nI_0, Int32.add_zero]
      simp
    · have e2 : (p < n + 1) = (p < n) := propext (by omega)
      simp only [aimsF, tb_or, e, decide_false, Bool.or_false, ih, e2]
      by_cases hb : s.testBit n = true
      · simp only [hb, if_true, if_false]
        rw [Int32.add_assoc, Int32.add_assoc, Int32.add_comm (if p < n then _ else _)]
      · simp only [hb, if_false]
        simp
theorem light_or {u : Nat → Int32} {s p : Nat} (hp : s.testBit p = false) : ∀ n, lightF u (s ||| 2 ^ p) n = lightF u s n + (if p < n then u (35 + p) else nI 0)
  | 0 => by simp [lightF, nI_0]
  | n + 1 => by
    have ih := light_or (u := u) hp n
    by_cases e : p = n
    · subst e
      simp only [lightF, tb_or, hp, ih, decide_true, Bool.or_true, Nat.lt_irrefl, if_true, if_false, show p < p + 1 by omega, nI_0, Int32.add_zero]
      simp
    · have e2 : (p < n + 1) = (p < n) := propext (by omega)
      simp only [lightF, tb_or, e, decide_false, Bool.or_false, ih, e2]
      rw [Int32.add_assoc, Int32.add_assoc, Int32.add_comm (if p < n then _ else _)]
theorem ex_or {u : Nat → Int32} {s p q : Nat} (hp : s.testBit p = false) : ∀ n, exF u q (s ||| 2 ^ p) n = exF u q s n + (if p < n then u (49 + 7 * q + p) else nI 0)
  | 0 => by simp [exF, nI_0]
  | n + 1 => by
    have ih := ex_or (u := u) (q := q) hp n
    by_cases e : p = n
    · subst e
      simp only [exF, tb_or, hp, ih, decide_true, Bool.or_true, Nat.lt_irrefl, if_true, if_false, show p < p + 1 by omega, nI_0, Int32.add_zero]
      simp
    · have e2 : (p < n + 1) = (p < n) := propext (by omega)
      simp only [exF, tb_or, e, decide_false, Bool.or_false, ih, e2]
      by_cases hb : s.testBit n = true
      · simp only [hb, if_true]
        rw [Int32.add_assoc, Int32.add_assoc, Int32.add_comm (if p < n then _ else _)]
      · simp only [hb, if_false]
        simp
theorem tw_diag {u : Nat → Int32} {s n : Nat} : twosF u s (n + 1) (n + 1) = twosF u s n n + colF u s n n := by
  have e2 : twosF u s (n + 1) (n + 1) = twosF u s (n + 1) n := by
    show twosF u s (n + 1) n + twosI u s n (n + 1 - (n + 1)) = _
    rw [Nat.sub_self]
    show _ + nI 0 = _
    rw [nI_0, Int32.add_zero]
  rw [e2, tw_step n (Nat.le_refl n)]
theorem twos_or {u : Nat → Int32} {s p P : Nat} (hp : s.testBit p = false) (hpP : p < P) (hy : symU P u) : ∀ n, n ≤ P → twosF u (s ||| 2 ^ p) n n = twosF u s n n + (if p < n then exF u p s n else nI 0)
  | 0, _ => by simp [twosF, nI_0]
  | n + 1, h => by
    have ih := twos_or (u := u) hp hpP hy n (by omega)
    rw [tw_diag, tw_diag, ih]
    have hs : ∀ j, j < n → u (49 + 7 * j + n) = u (49 + 7 * n + j) := fun j hj => hy j (by omega) n (by omega)
    by_cases e : p = n
    · subst e
      have b1 : (s ||| 2 ^ p).testBit p = true := by rw [tb_or]; simp
      rw [col_ex b1 p hs, col_no (by rw [hp]; decide) p, ex_or hp]
      simp only [Nat.lt_irrefl, if_false, show p < p + 1 by omega, if_true, exF, hp]
      simp [nI_0]
    · have e2 : (p < n + 1) = (p < n) := propext (by omega)
      have b2 : (s ||| 2 ^ p).testBit n = s.testBit n := by rw [tb_or]; simp [e]
      simp only [e2]
      by_cases hb : s.testBit n = true
      · rw [col_ex (by rw [b2]; exact hb) n hs, col_ex hb n hs, ex_or hp]
        by_cases hlt : p < n
        · simp only [hlt, if_true, exF, hb]
          rw [hy p (by omega) n (by omega)]
          simp only [Int32.add_assoc]
          congr 1
          rw [← Int32.add_assoc, ← Int32.add_assoc, Int32.add_comm (exF u p s n)]
        · simp only [hlt, if_false, nI_0, Int32.add_zero]
      · rw [col_no (by rw [b2]; exact hb) n, col_no hb n]
        by_cases hlt : p < n
        · simp only [hlt, if_true, exF, hb]
          simp [nI_0]
        · simp only [hlt, if_false, nI_0, Int32.add_zero]
/-- AIMS and twos of those aboard -/
def fulF (u : Nat → Int32) (P s : Nat) : Int32 := aimsF u s False P + twosF u s P P
theorem ful_or {u : Nat → Int32} {s p P : Nat} (hp : s.testBit p = false) (hpP : p < P) (hy : symU P u) : fulF u P s + u (14 + p) + exF u p s P = fulF u P (s ||| 2 ^ p) := by
  unfold fulF
  rw [aims_or hp, twos_or hp hpP hy P (Nat.le_refl P), if_pos hpP, if_pos hpP]
  simp only [Int32.add_assoc]
  congr 1
  rw [← Int32.add_assoc, ← Int32.add_assoc, Int32.add_comm (twosF u s P P)]
theorem lig_or {u : Nat → Int32} {s p P : Nat} (hp : s.testBit p = false) (hpP : p < P) : lightF u s P + u (35 + p) = lightF u (s ||| 2 ^ p) P := by
  rw [light_or hp, if_pos hpP]
theorem wt_bdn {u : Nat → Int32} {P s : Nat} {fog : Prop} [Decidable fog] : bdnF (u 3) fog (fulF u P s) (lightF u s P) (u 11) = weightF u P fog s False := rfl
theorem pop_or : ∀ s, s < 128 → ∀ p, p < 7 → s.testBit p = false → popN (s ||| 2 ^ p) = popN s + 1 := by decide +kernel
