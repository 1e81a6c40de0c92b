/-! ===== rows: the pruned search is the whole one ===== -/
section ROWS
variable {u : Nat → Int32} {th P many : Nat}
def trF (u : Nat → Int32) (th P many : Nat) (r : Nat → Nat) (k : Nat) (q : Int32 × (Nat → Int32)) : Int32 × (Nat → Int32) := if k = many then rwN u r many q else srF u th P many (many - k) r k q
def smF2 (u : Nat → Int32) (r : Nat → Nat) (k : Nat) : Int32 := rsF u r (k - 1)
def stpF (u : Nat → Int32) (th P many : Nat) (r : Nat → Nat) (k p : Nat) (q : Int32 × (Nat → Int32)) : Int32 × (Nat → Int32) := if th.testBit p = true ∧ (∀ i, i < k → ¬ r i = p) then trF u th P many (updN r k p) (k + 1) q else q
theorem tr_lp {r : Nat → Nat} {k : Nat} {q : Int32 × (Nat → Int32)} (h : k < many) : trF u th P many r k q = lpF (stpF u th P many r k) P q := by
  unfold trF
  rw [if_neg (by omega)]
  obtain ⟨m, hm⟩ : ∃ m, many - k = m + 1 := ⟨many - k - 1, by omega⟩
  rw [hm]
  show lpF (rwF (srF u th P many m) u th many r k) P q = _
  congr 1
  funext p q
  unfold rwF stpF
  by_cases c : th.testBit p = true ∧ (∀ i, i < k → ¬ r i = p)
  · rw [if_pos c, if_pos c]
    unfold trF
    by_cases c2 : k + 1 = many
    · rw [if_pos c2, if_pos c2]
    · rw [if_neg c2, if_neg c2, show many - (k + 1) = m by omega]
  · rw [if_neg c, if_neg c]
theorem rs_n (hb : bdU P u) {r : Nat → Nat} : ∀ i, (∀ j, j ≤ i → r j < P) → ∃ n, n ≤ 9 * i ∧ rsF u r i = nI n
  | 0, _ => ⟨0, by omega, rfl⟩
  | i + 1, h => by
    obtain ⟨n, hn, e⟩ := rs_n hb i (fun j hj => h j (by omega))
    obtain ⟨x, hx, ex⟩ := hb.2.2.2 (r i) (h i (by omega)) (r (i + 1)) (h (i + 1) (by omega))
    simp only [rsF]
    rw [e, ex, nI_add]
    exact ⟨n + x, by omega, rfl⟩
theorem rs_upd {r : Nat → Nat} {k p : Nat} : ∀ i, i < k → rsF u (updN r k p) i = rsF u r i
  | 0, _ => rfl
  | i + 1, h => by
    simp only [rsF]
    rw [rs_upd i (by omega), show updN r k p i = r i from if_neg (by omega), show updN r k p (i + 1) = r (i + 1) from if_neg (by omega)]
theorem sm_next {r : Nat → Nat} {k p : Nat} : smF2 u (updN r k p) (k + 1) = smF2 u r k + (if k = 0 then nI 0 else u (49 + 7 * r (k - 1) + p)) := by
  unfold smF2
  cases k with
  | zero => rfl
  | succ k =>
    rw [if_neg (by omega)]
    show rsF u (updN r (k + 1) p) (k + 1) = rsF u r k + _
    simp only [rsF]
    rw [rs_upd k (by omega), show updN r (k + 1) p k = r k from if_neg (by omega), show updN r (k + 1) p (k + 1) = p from if_pos rfl]
    rfl
theorem sm_n (hb : bdU P u) {r : Nat → Nat} {k : Nat} (hk : k ≤ 7) (h : ∀ j, j < k → r j < P) : ∃ n, n ≤ 63 ∧ smF2 u r k = nI n := by
  unfold smF2
  cases k with
  | zero => exact ⟨0, by omega, rfl⟩
  | succ k =>
    obtain ⟨n, hn, e⟩ := rs_n hb k (fun j hj => h j (by omega))
    exact ⟨n, by omega, e⟩
theorem sm_up (hb : bdU P u) {r : Nat → Nat} {k p n : Nat} (hk : k < 7) (h : ∀ j, j < k → r j < P) (hp : p < P) (e : smF2 u r k = nI n) (hn : n ≤ 63) : ∃ n', n ≤ n' ∧ n' ≤ n + 9 ∧ smF2 u (updN r k p) (k + 1) = nI n' := by
  rw [sm_next, e]
  by_cases c : k = 0
  · rw [if_pos c, nI_add]; exact ⟨n + 0, by omega, by omega, rfl⟩
  · rw [if_neg c]
    obtain ⟨x, hx, ex⟩ := hb.2.2.2 (r (k - 1)) (h _ (by omega)) p hp
    rw [ex, nI_add]; exact ⟨n + x, by omega, by omega, rfl⟩
theorem upd_lt {r : Nat → Nat} {k p : Nat} (h : ∀ j, j < k → r j < P) (hp : p < P) : ∀ j, j < k + 1 → updN r k p j < P := fun j hj => by
  unfold updN
  by_cases e : j = k
  · rw [if_pos e]; exact hp
  · rw [if_neg e]; exact h j (by omega)
theorem lp_id {α : Type} {f : Nat → α → α} {q : α} : ∀ n, (∀ p, p < n → f p q = q) → lpF f n q = q
  | 0, _ => rfl
  | n + 1, h => by
    show f n (lpF f n q) = q
    rw [lp_id n (fun p hp => h p (by omega)), h n (by omega)]
/-- what is not less already will not be less -/
theorem tr_prune (hb : bdU P u) (hm : many ≤ 7) {q : Int32 × (Nat → Int32)} {t : Nat} (hq : q.1 = nI t) (ht : t ≤ 63) : ∀ d k r n, k + d = many → (∀ j, j < k → r j < P) → smF2 u r k = nI n → n ≤ 63 → t ≤ n → trF u th P many r k q = q := by
  intro d
  induction d with
  | zero =>
    intro k r n hk hr e hn htn
    have hk : k = many := hk
    subst hk
    unfold trF rwN rwK
    rw [if_pos rfl, if_pos]
    have e : rsF u r (k - 1) = nI n := e
    rw [e]
    exact ⟨by rw [hq]; exact nI_le (Nat.zero_le t) (by omega), by rw [hq]; exact nI_le htn (by omega)⟩
  | succ d ih =>
    intro k r n hk hr e hn htn
    rw [tr_lp (by omega)]
    refine lp_id P (fun p hp => ?_)
    unfold stpF
    split
    · obtain ⟨n', h1, h2, e'⟩ := sm_up hb (by omega) hr hp e hn
      obtain ⟨n2, h3, e2⟩ := sm_n hb (k := k + 1) (by omega) (upd_lt hr hp)
      have : n' = n2 := (nI_eq (by omega) (by omega)).mp (e'.symm.trans e2)
      exact ih (k + 1) _ n' (by omega) (upd_lt hr hp) e' (by omega) (by omega)
    · rfl
/-- who is left: those of th that stand in no place below k -/
def lfP (th : Nat) (r : Nat → Nat) (k left : Nat) : Prop := left < 128 ∧ ∀ p, p < 7 → (left.testBit p = true ↔ th.testBit p = true ∧ ∀ i, i < k → ¬ r i = p)
theorem take_b1 : ∀ s, s < 128 → ∀ p, p < 7 → s.testBit p = true → popN (s - (s &&& 2 ^ p)) + 1 = popN s := by decide +kernel
theorem take_b2 : ∀ s, s < 128 → ∀ p, p < 7 → ∀ i, i < 7 → (s - (s &&& 2 ^ p)).testBit i = (s.testBit i && !(decide (i = p))) := by decide +kernel
theorem take_b (s : Nat) (hs : s < 128) (p : Nat) (hp : p < 7) (hb : s.testBit p = true) : popN (s - (s &&& 2 ^ p)) + 1 = popN s ∧ s - (s &&& 2 ^ p) < 128 ∧ ∀ i, i < 7 → ((s - (s &&& 2 ^ p)).testBit i = true ↔ s.testBit i = true ∧ ¬ i = p) := ⟨take_b1 s hs p hp hb, by omega, fun i hi => by
  rw [take_b2 s hs p hp i hi]
  simp⟩
theorem some_b : ∀ s, s < 128 → 0 < popN s → ∃ p, p < 7 ∧ s.testBit p = true := by
  have : ∀ s, s < 128 → 0 < popN s → ∃ p : Fin 7, s.testBit p = true := by decide +kernel
  intro s h1 h2
  obtain ⟨p, hp⟩ := this s h1 h2
  exact ⟨p, p.2, hp⟩
theorem lf_next {r : Nat → Nat} {k left p : Nat} (h : lfP th r k left) (hp : p < 7) (hb : left.testBit p = true) : lfP th (updN r k p) (k + 1) (left - (left &&& 2 ^ p)) := by
  obtain ⟨-, h2, h3⟩ := take_b left h.1 p hp hb
  refine ⟨h2, fun i hi => ?_⟩
  rw [h3 i hi, h.2 i hi]
  constructor
  · rintro ⟨⟨a, b⟩, c⟩
    refine ⟨a, fun j hj => ?_⟩
    unfold updN
    by_cases e : j = k
    · rw [if_pos e]; exact fun z => c z.symm
    · rw [if_neg e]; exact b j (by omega)
  · rintro ⟨a, b⟩
    refine ⟨⟨a, fun j hj => ?_⟩, fun e => ?_⟩
    · have := b j (by omega)
      unfold updN at this
      rw [if_neg (by omega)] at this
      exact this
    · have := b k (by omega)
      unfold updN at this
      rw [if_pos rfl] at this
      exact this e.symm
theorem rw_ge (hb : bdU P u) {r : Nat → Nat} {q : Int32 × (Nat → Int32)} (hm : many ≤ 7) (h : ∀ j, j < many → r j < P) : 0 ≤ (rwN u r many q).1 := by
  obtain ⟨n, hn, e⟩ := sm_n hb (k := many) hm h
  have e : rsF u r (many - 1) = nI n := e
  unfold rwN rwK
  split
  · rename_i c; exact c.1
  · show 0 ≤ rsF u r (many - 1)
    rw [e]; exact nI_le (Nat.zero_le n) (by omega)
theorem lp_ge {f : Nat → Int32 × (Nat → Int32) → Int32 × (Nat → Int32)} {q : Int32 × (Nat → Int32)} (h : ∀ p q, 0 ≤ q.1 → 0 ≤ (f p q).1) (hq : 0 ≤ q.1) : ∀ n, 0 ≤ (lpF f n q).1
  | 0 => hq
  | n + 1 => h n _ (lp_ge h hq n)
theorem tr_ge (hb : bdU P u) (hm : many ≤ 7) : ∀ d k r q, k + d = many → (∀ j, j < k → r j < P) → (0 ≤ q.1 → 0 ≤ (trF u th P many r k q).1) ∧ (∀ left, lfP th r k left → popN left = d → th < 2 ^ P → 0 ≤ (trF u th P many r k q).1) := by
  intro d
  induction d with
  | zero =>
    intro k r q hk hr
    have hk : k = many := hk
    subst hk
    have : 0 ≤ (trF u th P k r k q).1 := by
      unfold trF
      rw [if_pos rfl]
      exact rw_ge hb hm hr
    exact ⟨fun _ => this, fun _ _ _ _ => this⟩
  | succ d ih =>
    intro k r q hk hr
    rw [tr_lp (by omega)]
    have step : ∀ n, n ≤ P → ∀ q, 0 ≤ q.1 → 0 ≤ (lpF (stpF u th P many r k) n q).1 := by
      intro n
      induction n with
      | zero => intro _ q hq; exact hq
      | succ n jh =>
        intro hn q hq
        show 0 ≤ (stpF u th P many r k n (lpF _ n q)).1
        unfold stpF
        split
        · exact (ih (k + 1) _ _ (by omega) (upd_lt hr (by omega))).1 (jh (by omega) q hq)
        · exact jh (by omega) q hq
    refine ⟨fun hq => step P (Nat.le_refl P) q hq, fun left hl hpop hth => ?_⟩
    obtain ⟨p, hp7, hpb⟩ := some_b left hl.1 (by omega)
    have hpt := (hl.2 p hp7).mp hpb
    have hpP : p < P := by
      refine Nat.lt_of_not_le (fun q => ?_)
      have := Nat.testBit_lt_two_pow (Nat.lt_of_lt_of_le hth (Nat.pow_le_pow_right (by decide) q))
      rw [this] at hpt
      cases hpt.1
    have at_p : ∀ d, p + 1 + d ≤ P → 0 ≤ (lpF (stpF u th P many r k) (p + 1 + d) q).1 := by
      intro d2
      induction d2 with
      | zero =>
        intro _
        show 0 ≤ (stpF u th P many r k p (lpF _ p q)).1
        unfold stpF
        rw [if_pos hpt]
        obtain ⟨t1, -, -⟩ := take_b left hl.1 p hp7 hpb
        exact (ih (k + 1) _ _ (by omega) (upd_lt hr hpP)).2 _ (lf_next hl hp7 hpb) (by omega) hth
      | succ d2 jh =>
        intro hd
        show 0 ≤ (stpF u th P many r k (p + 1 + d2) (lpF _ (p + 1 + d2) q)).1
        have := jh (by omega)
        unfold stpF at this ⊢
        split
        · exact (ih (k + 1) _ _ (by omega) (upd_lt hr (by omega))).1 this
        · exact this
    have := at_p (P - (p + 1)) (by omega)
    rw [show p + 1 + (P - (p + 1)) = P by omega] at this
    exact this
end ROWS
