/-! ===== texts: what they say, one reading for both sides; the reference's value ===== -/
theorem gx_Mp {w : Wd} {l : Launch} {y : MethodName} {cc : ByteArray} {nL : Nat} {ret : Option FieldType} {rm : Room} {as : List Value} {S : St} {post post' : Option Value → St → Prop} (h : gx_M w l y cc nL ret rm as S post) (hp : ∀ v S', post v S' → post' v S') : gx_M w l y cc nL ret rm as S post' := by
  intro p e ha hc hk s m args below hf happ hP hK
  obtain ⟨n, o, h1, h2, h3, ⟨v, S', e1, e2, e3⟩, h5⟩ := h p e ha hc hk s m args below hf happ hP hK
  exact ⟨n, o, h1, h2, h3, ⟨v, S', e1, hp _ _ e2, e3⟩, h5⟩
abbrev RT : Type := Except Nat (Nat × Nat × List Nat)
def isB (x : Int32) : Prop := ∃ k : Nat, k < 256 ∧ x = nI k - nI 128
theorem isB_and : ∀ k, k < 256 → ∀ c, c < 128 → ((nI k - nI 128) &&& nI 255 = nI c ↔ nI k - nI 128 = nI c) := by decide +kernel
theorem m1_ne : ∀ c, c < 128 → ¬ (-1 : Int32) = nI c := by decide +kernel
theorem see_at {T : Nat → Int32} {L n c : Nat} (hB : ∀ j, j < L → isB (T j)) (hc : c < 128) : seeV T L n = nI c ↔ n < L ∧ T n = nI c := by
  unfold seeV
  by_cases h : n < L
  · rw [if_pos h]
    obtain ⟨k, hk, e⟩ := hB n h
    rw [e]
    exact ⟨fun q => ⟨h, (isB_and k hk c hc).mp q⟩, fun q => (isB_and k hk c hc).mpr q.2⟩
  · rw [if_neg h]
    exact ⟨fun q => absurd q (m1_ne c hc), fun q => absurd q.1 h⟩
def ftN (k at_ : Nat) : Nat := 1 + 8 * at_ + k
theorem ft_I (k at_ : Nat) : nI 1 + nI 8 * nI at_ + nI k = nI (ftN k at_) := by rw [pk_mul, nI_add, nI_add]; rfl
def numF (T : Nat → Int32) (L n : Nat) (lo hi : Int32) : Except Nat (Nat × Int32) :=
  if chP 48 57 T L (skN T L n) then
    if nbOK T L (skN T L n) lo hi then .ok (dgN T L (skN T L n), nbV T (skN T L n) (dgN T L (skN T L n) - skN T L n)) else .error (ftN 1 (skN T L n))
  else .error (ftN 0 (skN T L n))
def valF (T : Nat → Int32) (L n m : Nat) : RT :=
  if chP 48 57 T L (skN T L n) then
    match numF T L n (nI 0) 99999 with
    | .error f => .error f
    | .ok (n', x) => if m = 60 then .error (ftN 3 (skN T L n)) else .ok (n', m + 1, [16 * x.toNatClampNeg])
  else if whF T L (skN T L n) < 0 then .error (ftN 0 (skN T L n))
  else if m = 60 then .error (ftN 3 (skN T L n)) else .ok (ltN T L (skN T L n), m + 1, [1 + 16 * (whF T L (skN T L n)).toNatClampNeg])
theorem sk_ge {T : Nat → Int32} {L n : Nat} : n ≤ skN T L n := (skF_le (L - n) n).1
theorem sk_L {T : Nat → Int32} {L n : Nat} (h : n ≤ L) : skN T L n ≤ L := by
  have := (skF_le (T := T) (L := L) (L - n) n).2
  unfold skN; omega
theorem dg_le {T : Nat → Int32} {L n : Nat} (h : n ≤ L) : n ≤ dgN T L n ∧ dgN T L n ≤ L := by
  have := dgF_le (T := T) (L := L) (L - n) n
  unfold dgN; omega
theorem lt_le {T : Nat → Int32} {L n : Nat} (h : n ≤ L) : n ≤ ltN T L n ∧ ltN T L n ≤ L := by
  have := ltF_le (T := T) (L := L) (L - n) n
  unfold ltN; omega
theorem dg_lt {T : Nat → Int32} {L n : Nat} (h : chP 48 57 T L n) : n < dgN T L n := by
  obtain ⟨d, e⟩ : ∃ d, L - n = d + 1 := ⟨L - n - 1, by have := h.1; omega⟩
  have h2 : dgN T L n = dgF T L d (n + 1) := by
    unfold dgN; rw [e]; exact if_pos h
  have := dgF_le (T := T) (L := L) d (n + 1)
  omega
theorem wh_pos {T : Nat → Int32} {L q : Nat} (h : ¬ whF T L q < 0) : q < ltN T L q := by
  refine Decidable.byContradiction (fun hn => h ?_)
  have e : ∀ v, bI (wdP T L q v) = 0 := fun v => bI_0.mpr (fun k => hn k.1)
  unfold whF
  rw [if_pos (e _), if_pos (e _), if_pos (e _), if_pos (e _), if_pos (e _), if_pos (e _), if_pos (e _), if_pos (e _), if_pos (e _), if_pos (e _), if_pos (e _), if_pos (e _)]
  decide
theorem ite_or {c : Prop} [Decidable c] {x y : Int32} {P : Int32 → Prop} (hx : P x) (hy : P y) : P (if c then x else y) := by
  by_cases h : c
  · rw [if_pos h]; exact hx
  · rw [if_neg h]; exact hy
def whP (x : Int32) : Prop := x = -1 ∨ ∃ k, k < 12 ∧ x = nI k
theorem wh_casesP {T : Nat → Int32} {L q : Nat} : whP (whF T L q) := by
  unfold whF
  refine ite_or (P := whP) ?_ (Or.inr ⟨0, by decide, rfl⟩)
  refine ite_or (P := whP) ?_ (Or.inr ⟨1, by decide, rfl⟩)
  refine ite_or (P := whP) ?_ (Or.inr ⟨2, by decide, rfl⟩)
  refine ite_or (P := whP) ?_ (Or.inr ⟨3, by decide, rfl⟩)
  refine ite_or (P := whP) ?_ (Or.inr ⟨4, by decide, rfl⟩)
  refine ite_or (P := whP) ?_ (Or.inr ⟨5, by decide, rfl⟩)
  refine ite_or (P := whP) ?_ (Or.inr ⟨6, by decide, rfl⟩)
  refine ite_or (P := whP) ?_ (Or.inr ⟨7, by decide, rfl⟩)
  refine ite_or (P := whP) ?_ (Or.inr ⟨8, by decide, rfl⟩)
  refine ite_or (P := whP) ?_ (Or.inr ⟨9, by decide, rfl⟩)
  refine ite_or (P := whP) ?_ (Or.inr ⟨10, by decide, rfl⟩)
  exact ite_or (P := whP) (Or.inl rfl) (Or.inr ⟨11, by decide, rfl⟩)
theorem wh_cases {T : Nat → Int32} {L q : Nat} : whF T L q = -1 ∨ ∃ k, k < 12 ∧ whF T L q = nI k := wh_casesP
theorem num_ok {T : Nat → Int32} {L n : Nat} {lo hi : Int32} {n' : Nat} {x : Int32} (h : numF T L n lo hi = .ok (n', x)) (hn : n ≤ L) : n < n' ∧ n' ≤ L ∧ lo ≤ x ∧ x ≤ hi := by
  unfold numF at h
  split at h
  · next hc =>
    split at h
    · next hb =>
      cases h
      have h1 := dg_lt hc
      have h2 := dg_le (T := T) (sk_L (T := T) hn)
      have h3 := sk_ge (T := T) (L := L) (n := n)
      exact ⟨by omega, h2.2, hb.2.1, hb.2.2⟩
    · cases h
  · cases h
theorem num_err {T : Nat → Int32} {L n : Nat} {lo hi : Int32} {f : Nat} (h : numF T L n lo hi = .error f) (hn : n ≤ L) : 0 < f ∧ f ≤ 8 * L + 8 := by
  have h3 := sk_L (T := T) hn
  unfold numF ftN at h
  split at h
  · split at h <;> cases h
    omega
  · cases h; omega
theorem val_ok {T : Nat → Int32} {L n m n' m' : Nat} {k : List Nat} (h : valF T L n m = .ok (n', m', k)) (hn : n ≤ L) : n < n' ∧ n' ≤ L ∧ m' = m + 1 ∧ ¬ m = 60 ∧ ∃ x, k = [x] ∧ x < 16000000 ∧ (x % 16 = 0 ∨ (x % 16 = 1 ∧ x / 16 < 12)) := by
  unfold valF at h
  split at h
  · split at h
    · cases h
    · next q => 
      obtain ⟨b1, b2, b3, b4⟩ := num_ok q hn
      split at h
      · cases h
      · next h6 =>
        cases h
        obtain ⟨j, hj, rfl⟩ := nI_of2 (n := 99999) (by decide) (Int32.not_lt.mpr b3) b4
        refine ⟨b1, b2, rfl, h6, _, rfl, ?_⟩
        rw [nI_clamp (by omega)]
        omega
  · split at h
    · cases h
    · next hw =>
      split at h
      · cases h
      · next h6 =>
        cases h
        have h1 := wh_pos hw
        have h2 := lt_le (T := T) (sk_L (T := T) hn)
        have h3 := sk_ge (T := T) (L := L) (n := n)
        refine ⟨by omega, h2.2, rfl, h6, _, rfl, ?_⟩
        rcases wh_cases (T := T) (L := L) (q := skN T L n) with e | ⟨k, hk, e⟩
        · rw [e] at hw; exact absurd (by decide) hw
        · rw [e, nI_clamp (by omega)]; omega
theorem val_err {T : Nat → Int32} {L n m f : Nat} (h : valF T L n m = .error f) (hn : n ≤ L) : 0 < f ∧ f ≤ 8 * L + 8 := by
  have h3 := sk_L (T := T) hn
  unfold valF at h
  split at h
  · split at h
    · next q => cases h; exact num_err q hn
    · split at h
      · cases h; unfold ftN; omega
      · cases h
  · split at h
    · cases h; unfold ftN; omega
    · split at h
      · cases h; unfold ftN; omega
      · cases h
/-- what stays -/
def fxI (l : List Nat) (i i' : Nat → Int32) : Prop := ∀ g, g ∉ l → i' g = i g
theorem fxI.refl {l : List Nat} {i : Nat → Int32} : fxI l i i := fun _ _ => rfl
theorem fxI.trans {l : List Nat} {i j k : Nat → Int32} (h1 : fxI l i j) (h2 : fxI l j k) : fxI l i k := fun g hg => (h2 g hg).trans (h1 g hg)
theorem fxI.u {l : List Nat} {i : Nat → Int32} {f : Nat} {v : Int32} (h : f ∈ l) : fxI l i (u1 i f v) := fun g hg => if_neg (fun (e : g = f) => hg (e ▸ h))
theorem fxI.sub {l l' : List Nat} {i j : Nat → Int32} (h : fxI l i j) (hs : ∀ g, g ∈ l → g ∈ l') : fxI l' i j := fun g hg => h g (fun q => hg (hs g q))
def fxT (t : Nat) (a a' : Nat → Nat → Int32) : Prop := (∀ k, k ≠ 1002 → k ≠ 1003 → a' k = a k) ∧ (∀ q, q < 400 * t ∨ 400 * t + 400 ≤ q → a' 1002 q = a 1002 q) ∧ ∀ q, q ≠ t → a' 1003 q = a 1003 q
theorem fxT.refl {t : Nat} {a : Nat → Nat → Int32} : fxT t a a := ⟨fun _ _ _ => rfl, fun _ _ => rfl, fun _ _ => rfl⟩
theorem fxT.trans {t : Nat} {a b c : Nat → Nat → Int32} (h1 : fxT t a b) (h2 : fxT t b c) : fxT t a c := ⟨fun k e f => (h2.1 k e f).trans (h1.1 k e f), fun q e => (h2.2.1 q e).trans (h1.2.1 q e), fun q e => (h2.2.2 q e).trans (h1.2.2 q e)⟩
/-- a text t that is read: place, VALUES and FACTS made, signs put -/
def tx (t : Nat) (i : Nat → Int32) (a : Nat → Nat → Int32) (n m : Nat) (o : List Nat) : Prop := i 1108 = nI n ∧ i 1109 = 0 ∧ i 1111 = nI t ∧ i 1112 = nI m ∧ a 1003 t = nI o.length ∧ ∀ j, j < o.length → a 1002 (400 * t + j) = nI (o.getD j 0)
theorem gd_l {o p : List Nat} {j : Nat} (h : j < o.length) : (o ++ p).getD j 0 = o.getD j 0 := by
  rw [List.getD_eq_getElem?_getD, List.getD_eq_getElem?_getD, List.getElem?_append_left h]
theorem gd_r {o p : List Nat} {j : Nat} (h : o.length ≤ j) : (o ++ p).getD j 0 = p.getD (j - o.length) 0 := by
  rw [List.getD_eq_getElem?_getD, List.getD_eq_getElem?_getD, List.getElem?_append_right h]
theorem tx_put {t : Nat} {i : Nat → Int32} {a : Nat → Nat → Int32} {n m : Nat} {o : List Nat} {k : Nat} (h : tx t i a n m o) : tx t i (putA a t o.length (nI k)) n m (o ++ [k]) := by
  obtain ⟨h1, h2, h3, h4, h5, h6⟩ := h
  refine ⟨h1, h2, h3, h4, ?_, ?_⟩
  · show upd (a 1003) t (nI (o.length + 1)) t = _
    rw [pk_us, List.length_append]; rfl
  · intro j hj
    show upd (a 1002) (400 * t + o.length) (nI k) (400 * t + j) = _
    rw [List.length_append] at hj
    have hj : j < o.length + 1 := hj
    by_cases e : j = o.length
    · subst e
      rw [pk_us, gd_r (Nat.le_refl _), Nat.sub_self]; rfl
    · rw [pk_un (by omega), h6 j (by omega), gd_l (by omega)]
theorem fxT_put {t : Nat} {a : Nat → Nat → Int32} {n : Nat} {x : Int32} (hn : n < 400) : fxT t a (putA a t n x) := by
  refine ⟨fun k e f => ?_, fun q e => ?_, fun q e => ?_⟩
  · unfold putA u1; rw [if_neg f, if_neg e]
  · show upd (a 1002) (400 * t + n) x q = _
    rw [pk_un (by omega)]
  · show upd (a 1003) t (nI (n + 1)) q = _
    rw [pk_un e]
theorem tx_u {t : Nat} {i i' : Nat → Int32} {a : Nat → Nat → Int32} {n n' m m' : Nat} {o : List Nat} (h : tx t i a n m o) (h1 : i' 1108 = nI n') (h2 : i' 1109 = i 1109) (h3 : i' 1111 = i 1111) (h4 : i' 1112 = nI m') : tx t i' a n' m' o := ⟨h1, h2.trans h.2.1, h3.trans h.2.2.1, h4, h.2.2.2.2⟩
/-- what holds while a text is read: the reference, the tape of L bytes -/
def gx_x (S : St) (L : Nat) : Prop := gx_m S ∧ gx_t S L ∧ ∀ j, j < L → isB (s_A S 1001 j)
/-- how a reading ends: a FAULT, or further on -/
def px (S : St) (t : Nat) (i : Nat → Int32) (a : Nat → Nat → Int32) (o : List Nat) (r : RT) : Option Value → St → Prop := fun v S' => ∃ i' a', S' = rdS S i' a' ∧ fxI [1108, 1109, 1110, 1112] i i' ∧ fxT t a a' ∧ match r with
  | .error f => v = some (.int (nI 0)) ∧ i' 1109 = nI f
  | .ok (n', m', k) => v = some (.int (nI 1)) ∧ tx t i' a' n' m' (o ++ k)
theorem r_see (w : Wd) (l : Launch) (S : St) (L : Nat) (hx : gx_x S L) (i : Nat → Int32) (a : Nat → Nat → Int32) (n : Nat) (hi : i 1108 = nI n) (hn : n ≤ 1000) : gx_M w l yX12_see cX12_see 1 (some .int) rmX12_see [.ref (ad (w_b w) 1000)] (rdS S i a) (pI (seeV (s_A S 1001) L (skN (s_A S 1001) L n)) (rdS S (u1 i 1108 (nI (skN (s_A S 1001) L n))) a)) := by
  have := c_X12_see w l (rdS S i a) hx.1 L hx.2.1 n hn
  rw [nx_id (rdS S i a) n hi, rd_nx] at this
  exact this
theorem u1_id {i : Nat → Int32} {f : Nat} {v : Int32} (h : i f = v) : u1 i f v = i := by
  funext g; unfold u1; split
  · next e => rw [e, h]
  · rfl
theorem r_seeM (w : Wd) (l : Launch) (S : St) (L : Nat) (hx : gx_x S L) (i : Nat → Int32) (a : Nat → Nat → Int32) (n : Nat) (hi : i 1108 = nI n) (hn : n ≤ 1000) (he : skN (s_A S 1001) L n = n) : gx_M w l yX12_see cX12_see 1 (some .int) rmX12_see [.ref (ad (w_b w) 1000)] (rdS S i a) (pI (seeV (s_A S 1001) L n) (rdS S i a)) := by
  have := r_see w l S L hx i a n hi hn
  rw [he, u1_id hi] at this
  exact this
theorem r_word (w : Wd) (l : Launch) (S : St) (L : Nat) (hx : gx_x S L) (i : Nat → Int32) (a : Nat → Nat → Int32) (n : Nat) (hi : i 1108 = nI n) (hn : n ≤ 400) (v : Int64) : gx_M w l yX12_isWord cX12_isWord 6 (some .boolean) rmX12_isWord [.ref (ad (w_b w) 1000), .long v] (rdS S i a) (pI (bI (wdP (s_A S 1001) L (skN (s_A S 1001) L n) v)) (rdS S (u1 i 1108 (nI (skN (s_A S 1001) L n))) a)) := by
  have := c_X12_isWord w l (rdS S i a) hx.1 L hx.2.1 n hn v
  rw [nx_id (rdS S i a) n hi, rd_nx] at this
  exact this
theorem r_wordM (w : Wd) (l : Launch) (S : St) (L : Nat) (hx : gx_x S L) (i : Nat → Int32) (a : Nat → Nat → Int32) (n : Nat) (hi : i 1108 = nI n) (hn : n ≤ 400) (he : skN (s_A S 1001) L n = n) (v : Int64) : gx_M w l yX12_isWord cX12_isWord 6 (some .boolean) rmX12_isWord [.ref (ad (w_b w) 1000), .long v] (rdS S i a) (pI (bI (wdP (s_A S 1001) L n v)) (rdS S i a)) := by
  have := r_word w l S L hx i a n hi hn v
  rw [he, u1_id hi] at this
  exact this
theorem r_whM (w : Wd) (l : Launch) (S : St) (L : Nat) (hx : gx_x S L) (i : Nat → Int32) (a : Nat → Nat → Int32) (n : Nat) (hi : i 1108 = nI n) (hn : n ≤ 400) (he : skN (s_A S 1001) L n = n) : gx_M w l yX12_wordHere cX12_wordHere 1 (some .int) rmX12_wordHere [.ref (ad (w_b w) 1000)] (rdS S i a) (pI (whF (s_A S 1001) L n) (rdS S i a)) := by
  have := c_X12_wordHere w l (rdS S i a) hx.1 L hx.2.1 n hn
  rw [nx_id (rdS S i a) n hi, rd_nx] at this
  have h2 : gx_M w l yX12_wordHere cX12_wordHere 1 (some .int) rmX12_wordHere [.ref (ad (w_b w) 1000)] (rdS S i a) (pI (whF (s_A S 1001) L (skN (s_A S 1001) L n)) (rdS S (u1 i 1108 (nI (skN (s_A S 1001) L n))) a)) := this
  rw [he, u1_id hi] at h2
  exact h2
theorem r_pass (w : Wd) (l : Launch) (S : St) (L : Nat) (hx : gx_x S L) (i : Nat → Int32) (a : Nat → Nat → Int32) (n : Nat) (hi : i 1108 = nI n) (hn : n ≤ 1000) : gx_M w l yX12_passWord cX12_passWord 1 none rmX12_passWord [.ref (ad (w_b w) 1000)] (rdS S i a) (pV (rdS S (u1 i 1108 (nI (ltN (s_A S 1001) L n))) a)) := by
  have := c_X12_passWord w l (rdS S i a) hx.1 L hx.2.1 n hn
  rw [nx_id (rdS S i a) n hi, rd_nx] at this
  exact this
theorem r_fails (w : Wd) (l : Launch) (S : St) (L : Nat) (hx : gx_x S L) (i : Nat → Int32) (a : Nat → Nat → Int32) (h0 : i 1109 = 0) (k n : Nat) : gx_M w l yX12_fails cX12_fails 3 (some .boolean) rmX12_fails [.ref (ad (w_b w) 1000), .int (nI k), .int (nI n)] (rdS S i a) (pI (nI 0) (rdS S (u1 i 1109 (nI (ftN k n))) a)) := by
  have := c_X12_failsF w l (rdS S i a) hx.1 (nI k) (nI n)
  rw [rd_fl, if_pos h0, ft_I] at this
  exact this
theorem r_number (w : Wd) (l : Launch) (S : St) (L : Nat) (hx : gx_x S L) (i : Nat → Int32) (a : Nat → Nat → Int32) (h0 : i 1109 = 0) (n : Nat) (hi : i 1108 = nI n) (hn : n ≤ 400) (lo hi' : Int32) : gx_M w l yX12_numberHere cX12_numberHere 5 (some .boolean) rmX12_numberHere [.ref (ad (w_b w) 1000), .int lo, .int hi'] (rdS S i a) (fun v S' => ∃ i', S' = rdS S i' a ∧ fxI [1108, 1109, 1110] i i' ∧ match numF (s_A S 1001) L n lo hi' with
  | .error f => v = some (.int (nI 0)) ∧ i' 1109 = nI f
  | .ok (n', x) => v = some (.int (nI 1)) ∧ i' 1108 = nI n' ∧ i' 1109 = 0 ∧ i' 1110 = x) := by
  have := c_X12_numberHere w l (rdS S i a) hx.1 L hx.2.1 n hn lo hi'
  rw [nx_id (rdS S i a) n hi] at this
  refine gx_Mp this ?_
  rintro v S' ⟨rfl, rfl⟩
  have hT : s_A (rdS S i a) 1001 = s_A S 1001 := rfl
  rw [hT]
  generalize hq : skN (s_A S 1001) L n = q
  have eN : nbS (rdS S i a) L q = rdS S (u1 (u1 i 1108 (nI (dgN (s_A S 1001) L q))) 1110 (nbV (s_A S 1001) q (dgN (s_A S 1001) L q - q))) a := by
    unfold nbS
    rw [hT, rd_nx, rd_I _ _ _ _ _ (by omega)]
  unfold nhS numF
  rw [hT, hq]
  by_cases h1 : chP 48 57 (s_A S 1001) L q
  · rw [if_pos h1, if_pos h1]
    by_cases h2 : nbOK (s_A S 1001) L q lo hi'
    · rw [if_pos h2, if_pos h2, bI_t ⟨h1, h2⟩, eN]
      exact ⟨_, rfl, (fxI.u (by decide)).trans (fxI.u (by decide)), rfl, rfl, h0, rfl⟩
    · rw [if_neg h2, if_neg h2, bI_f (fun z => h2 z.2), eN, rd_fl, if_pos (by exact h0)]
      exact ⟨_, rfl, ((fxI.u (by decide)).trans (fxI.u (by decide))).trans (fxI.u (by decide)), rfl, ft_I 1 q⟩
  · rw [if_neg h1, if_neg h1, bI_f (fun z => h1 z.1), rd_nx, rd_fl, if_pos (by exact h0)]
    exact ⟨_, rfl, (fxI.u (by decide)).trans (fxI.u (by decide)), rfl, ft_I 0 q⟩
theorem r_makes (w : Wd) (l : Launch) (S : St) (L : Nat) (hx : gx_x S L) (i : Nat → Int32) (a : Nat → Nat → Int32) (h0 : i 1109 = 0) (m : Nat) (hm : i 1112 = nI m) (h60 : m ≤ 60) (n : Nat) : gx_M w l yX12_makes cX12_makes 2 (some .boolean) rmX12_makes [.ref (ad (w_b w) 1000), .int (nI n)] (rdS S i a) (pI (bI (¬ m = 60)) (rdS S (if m = 60 then u1 i 1109 (nI (ftN 3 n)) else u1 i 1112 (nI (m + 1))) a)) := by
  have := c_X12_makes w l (rdS S i a) hx.1 (nI n)
  have e : s_I (rdS S i a) 1112 1000 = nI m := hm
  rw [e, rd_fl, if_pos h0, ft_I, nI_add, rd_I _ _ _ _ _ (by omega)] at this
  by_cases h : m = 60
  · subst h
    rw [if_pos rfl]
    rw [if_pos rfl, bI_f (fun q => q rfl)] at this
    rw [bI_f (fun q => q rfl)]
    exact this
  · have h2 : ¬ nI m = nI 60 := fun q => h ((nI_eq (by omega) (by omega)).mp q)
    rw [if_neg h]
    rw [if_neg h2, bI_t h2] at this
    rw [bI_t h]
    exact this
theorem r_puts (w : Wd) (l : Launch) (S : St) (L : Nat) (hx : gx_x S L) (t : Nat) (ht6 : t < 6) (i : Nat → Int32) (a : Nat → Nat → Int32) (n m : Nat) (o : List Nat) (h : tx t i a n m o) (ho : o.length < 400) (s v k : Nat) (hk : s + 16 * v = k) : gx_M w l yX12_puts cX12_puts 3 none rmX12_puts [.ref (ad (w_b w) 1000), .int (nI s), .int (nI v)] (rdS S i a) (fun b S' => b = none ∧ ∃ a', S' = rdS S i a' ∧ fxT t a a' ∧ tx t i a' n m (o ++ [k])) := by
  refine gx_Mp (c_X12_puts w l S hx.1 i a t o.length h.2.2.1 ht6 h.2.2.2.2.1 ho (nI s) (nI v)) ?_
  rintro v' S' ⟨rfl, rfl⟩
  refine ⟨rfl, _, rfl, fxT_put ho, ?_⟩
  rw [pk_mul, nI_add, hk]
  exact tx_put h
theorem c_X12_value (w : Wd) (l : Launch) (S : St) (L : Nat) (hx : gx_x S L) (t : Nat) (ht6 : t < 6) (i : Nat → Int32) (a : Nat → Nat → Int32) (n m : Nat) (o : List Nat) (h : tx t i a n m o) (hn : n ≤ L) (ho : o.length ≤ n) (h60 : m ≤ 60) : gx_M w l yX12_value cX12_value 3 (some .boolean) rmX12_value [.ref (ad (w_b w) 1000)] (rdS S i a) (px S t i a o (valF (s_A S 1001) L n m)) := by
  have hL : L ≤ 400 := hx.2.1.2
  have hmA : ∀ i a, gx_m (rdS S i a) := fun i a => hx.1
  have hq1 := sk_ge (T := s_A S 1001) (L := L) (n := n)
  have hq2 := sk_L (T := s_A S 1001) hn
  have he : skN (s_A S 1001) L (skN (s_A S 1001) L n) = skN (s_A S 1001) L n := skN_idem
  generalize hr : valF (s_A S 1001) L n m = r
  have hok := fun n' m' k e => val_ok (T := s_A S 1001) (n' := n') (m' := m') (k := k) (hr.trans e) hn
  unfold valF at hr
  refine gx_start rfl 2 rfl (Nat.le_of_ble_eq_true rfl) ?_
  intro X C _ hl
  subst hl
  refine gx_L (L' := [_, _, _]) rfl ?_
  refine g_aload_n (pc := 0) C dX12_value_0 rfl ?_
  refine cf_X12_105 (pc := 1) C rfl (m_z (hmA _ _) rfl) (r_see _ _ S L hx i a n h.1 (by omega)) ⟨rfl, rfl⟩ ⟨rfl, rfl⟩ ⟨Nat.zero_le _, Nat.zero_le _⟩ rfl (Nat.le_of_ble_eq_true rfl) dX12_value_1 ?_
  refine g_pop (pc := 4) C dX12_value_4 rfl ?_
  generalize hq : skN (s_A S 1001) L n = q at *
  generalize hi1 : u1 i 1108 (nI q) = i1
  have h1 : tx t i1 a q m o := by rw [← hi1]; exact tx_u h rfl rfl rfl h.2.2.2.1
  have f1 : fxI [1108, 1109, 1110, 1112] i i1 := by rw [← hi1]; exact fxI.u (by decide)
  refine g_aload_n (pc := 5) C dX12_value_5 rfl ?_
  refine mg_102 (pc := 6) C (hmA _ _) dX12_value_6 ?_
  refine gx_ti (y := nI q) h1.1 ?_
  refine g_istore_n (pc := 9) (L' := [some (.ref _), _, _]) C dX12_value_9 rfl rfl ?_
  refine g_aload_n (pc := 10) C dX12_value_10 rfl ?_
  refine g_aload_n (pc := 11) C dX12_value_11 rfl ?_
  refine mg_102 (pc := 12) C (hmA _ _) dX12_value_12 ?_
  refine gx_ti (y := nI q) h1.1 ?_
  refine cf_X12_120 (pc := 15) C rfl (m_z (hmA _ _) rfl) (c_X12_isDigit _ _ _ (hmA _ _) L hx.2.1 q (by omega)) ⟨rfl, rfl⟩ ⟨rfl, rfl⟩ ⟨Nat.zero_le _, Nat.zero_le _⟩ rfl (Nat.le_of_ble_eq_true rfl) dX12_value_15 ?_
  refine gx_ti (y := bI (chP 48 57 (s_A S 1001) L q)) rfl ?_
  refine g_if_eq (pc := 18) C 52 dX12_value_18 rfl (fun hd => ?_) (fun hd => ?_)
  · have hd := bI_0.mp hd
    rw [if_neg hd] at hr
    refine g_aload_n (pc := 52) C dX12_value_52 rfl ?_
    refine cf_X12_185 (pc := 53) C rfl (m_z (hmA _ _) rfl) (r_whM _ _ S L hx i1 a q h1.1 (by omega) he) ⟨rfl, rfl⟩ ⟨rfl, rfl⟩ ⟨Nat.zero_le _, Nat.zero_le _⟩ rfl (Nat.le_of_ble_eq_true rfl) dX12_value_53 ?_
    refine g_istore_n (pc := 56) (L' := [_, some (.int _), _]) C dX12_value_56 rfl rfl ?_
    refine g_iload_n (pc := 57) C dX12_value_57 rfl ?_
    refine g_if_ge (pc := 58) C 68 dX12_value_58 rfl (fun hw => ?_) (fun hw => ?_)
    · have hw2 : ¬ whF (s_A S 1001) L q < 0 := Int32.not_lt.mpr hw
      rw [if_neg hw2] at hr
      refine g_aload_n (pc := 68) C dX12_value_68 rfl ?_
      refine g_iload_n (pc := 69) C dX12_value_69 rfl ?_
      refine cf_X12_182 (pc := 70) C rfl (m_z (hmA _ _) rfl) (r_makes _ _ S L hx i1 a h1.2.1 m h1.2.2.2.1 h60 q) ⟨rfl, rfl⟩ ⟨rfl, rfl⟩ ⟨Nat.zero_le _, Nat.zero_le _⟩ rfl (Nat.le_of_ble_eq_true rfl) dX12_value_70 ?_
      refine g_if_ne (pc := 73) C 78 dX12_value_73 rfl (fun hk => ?_) (fun hk => ?_)
      · have hk : ¬ m = 60 := Decidable.not_not.mp (fun q => hk (bI_0.mpr q))
        rw [if_neg hk] at hr
        refine gx_S (S' := rdS S (u1 i1 1112 (nI (m + 1))) a) (by rw [if_neg hk]) ?_
        obtain ⟨k, hk12, ek⟩ : ∃ k, k < 12 ∧ whF (s_A S 1001) L q = nI k := wh_cases.resolve_left (fun e => hw2 (by rw [e]; decide))
        rw [ek, nI_clamp (by omega)] at hr
        refine g_aload_n (pc := 78) C dX12_value_78 rfl ?_
        refine cf_X12_117 (pc := 79) C rfl (m_z (hmA _ _) rfl) (r_pass _ _ S L hx (u1 i1 1112 (nI (m + 1))) a q h1.1 (by omega)) ⟨rfl, rfl⟩ ⟨rfl, rfl⟩ ⟨Nat.zero_le _, Nat.zero_le _⟩ rfl (Nat.le_of_ble_eq_true rfl) dX12_value_79 ?_
        generalize hi2 : u1 (u1 i1 1112 (nI (m + 1))) 1108 (nI (ltN (s_A S 1001) L q)) = i2
        have h2 : tx t i2 a (ltN (s_A S 1001) L q) (m + 1) o := by rw [← hi2]; exact tx_u h1 rfl rfl rfl rfl
        have f2 : fxI [1108, 1109, 1110, 1112] i1 i2 := by rw [← hi2]; exact (fxI.u (by decide)).trans (fxI.u (by decide))
        refine g_aload_n (pc := 82) C dX12_value_82 rfl ?_
        refine g_iconst (pc := 83) (v := nI 1) C dX12_value_83 (by decide) ?_
        refine g_iload_n (pc := 84) C dX12_value_84 rfl ?_
        subst hr
        obtain ⟨b1, b2, -⟩ := hok _ _ _ rfl
        refine gx_ti (y := nI k) ek ?_
        refine cg_X12_174 (pc := 85) C rfl (m_z (hmA _ _) rfl) (r_puts _ _ S L hx t ht6 i2 a _ _ o h2 (by omega) 1 k (1 + 16 * k) rfl) ⟨rfl, rfl⟩ ⟨Nat.zero_le _, Nat.zero_le _⟩ rfl (Nat.le_of_ble_eq_true rfl) dX12_value_85 ?_
        rintro _ _ ⟨rfl, a3, rfl, g1, g2⟩
        refine g_iconst (pc := 88) (v := nI 1) C dX12_value_88 (by decide) ?_
        exact g_zreturn (pc := 89) C ⟨rfl, rfl⟩ (by first | exact Or.inl rfl | exact Or.inr rfl) dX12_value_89 ⟨i2, a3, rfl, f1.trans f2, g1, rfl, g2⟩
      · have hk : m = 60 := Decidable.not_not.mp (bI_0.mp (Decidable.not_not.mp hk))
        rw [if_pos hk] at hr
        subst hr
        refine gx_S (S' := rdS S (u1 i1 1109 (nI (ftN 3 q))) a) (by rw [if_pos hk]) ?_
        refine g_iconst (pc := 76) (v := nI 0) C dX12_value_76 (by decide) ?_
        exact g_zreturn (pc := 77) C ⟨rfl, rfl⟩ (by first | exact Or.inl rfl | exact Or.inr rfl) dX12_value_77 ⟨_, a, rfl, f1.trans (fxI.u (by decide)), fxT.refl, rfl, rfl⟩
    · have hw2 : whF (s_A S 1001) L q < 0 := Int32.not_le.mp hw
      rw [if_pos hw2] at hr
      subst hr
      refine g_aload_n (pc := 61) C dX12_value_61 rfl ?_
      refine g_iconst (pc := 62) (v := nI 0) C dX12_value_62 (by decide) ?_
      refine g_iload_n (pc := 63) C dX12_value_63 rfl ?_
      refine cf_X12_123 (pc := 64) C rfl (m_z (hmA _ _) rfl) (r_fails _ _ S L hx i1 a h1.2.1 0 q) ⟨rfl, rfl⟩ ⟨rfl, rfl⟩ ⟨Nat.zero_le _, Nat.zero_le _⟩ rfl (Nat.le_of_ble_eq_true rfl) dX12_value_64 ?_
      exact g_zreturn (pc := 67) C ⟨rfl, rfl⟩ (by first | exact Or.inl rfl | exact Or.inr rfl) dX12_value_67 ⟨_, a, rfl, f1.trans (fxI.u (by decide)), fxT.refl, rfl, rfl⟩
  · have hd := Decidable.not_not.mp (fun q => hd (bI_0.mpr q))
    rw [if_pos hd] at hr
    refine g_aload_n (pc := 21) C dX12_value_21 rfl ?_
    refine g_iconst (pc := 22) (v := nI 0) C dX12_value_22 (by decide) ?_
    refine g_ldc (pc := 23) (v := 99999) C dX12_value_23 kc_X12_178 ?_
    refine cg_X12_179 (pc := 25) C rfl (m_z (hmA _ _) rfl) (r_number _ _ S L hx i1 a h1.2.1 q h1.1 (by omega) (nI 0) 99999) ⟨rfl, rfl⟩ ⟨Nat.zero_le _, Nat.zero_le _⟩ rfl (Nat.le_of_ble_eq_true rfl) dX12_value_25 ?_
    rintro _ _ ⟨i2, rfl, f2, g2⟩
    have hnn : numF (s_A S 1001) L q (nI 0) 99999 = numF (s_A S 1001) L n (nI 0) 99999 := by
      unfold numF; rw [he, hq]
    rw [hnn] at g2
    generalize hnum : numF (s_A S 1001) L n (nI 0) 99999 = u at hr g2
    cases u with
    | error f =>
      obtain ⟨rfl, g3⟩ := g2
      subst hr
      refine g_if_eq (pc := 28) C 39 dX12_value_28 rfl (fun hb => ?_) (fun hb => ?_)
      · refine g_iconst (pc := 39) (v := nI 0) C dX12_value_39 (by decide) ?_
        exact g_zreturn (pc := 40) C ⟨rfl, rfl⟩ (by first | exact Or.inl rfl | exact Or.inr rfl) dX12_value_40 ⟨_, a, rfl, f1.trans (f2.sub (by decide)), fxT.refl, rfl, g3⟩
      · exact absurd rfl hb
    | ok p =>
      obtain ⟨n', x⟩ := p
      obtain ⟨rfl, g3, g4, g5⟩ := g2
      have h2 : tx t i2 a n' m o := tx_u h1 g3 (g4.trans h1.2.1.symm) (f2 1111 (by decide)) ((f2 1112 (by decide)).trans h1.2.2.2.1)
      refine g_if_eq (pc := 28) C 39 dX12_value_28 rfl (fun hb => ?_) (fun hb => ?_)
      · exact absurd hb (by decide)
      · refine g_aload_n (pc := 31) C dX12_value_31 rfl ?_
        refine g_iload_n (pc := 32) C dX12_value_32 rfl ?_
        refine cf_X12_182 (pc := 33) C rfl (m_z (hmA _ _) rfl) (r_makes _ _ S L hx i2 a h2.2.1 m h2.2.2.2.1 h60 q) ⟨rfl, rfl⟩ ⟨rfl, rfl⟩ ⟨Nat.zero_le _, Nat.zero_le _⟩ rfl (Nat.le_of_ble_eq_true rfl) dX12_value_33 ?_
        refine g_if_ne (pc := 36) C 41 dX12_value_36 rfl (fun hk => ?_) (fun hk => ?_)
        · have hk : ¬ m = 60 := Decidable.not_not.mp (fun q => hk (bI_0.mpr q))
          have hr : (if m = 60 then _ else _) = r := hr
          rw [if_neg hk] at hr
          refine gx_S (S' := rdS S (u1 i2 1112 (nI (m + 1))) a) (by rw [if_neg hk]) ?_
          generalize hi3 : u1 i2 1112 (nI (m + 1)) = i3
          have h3 : tx t i3 a n' (m + 1) o := by rw [← hi3]; exact tx_u h2 g3 rfl rfl rfl
          have f3 : fxI [1108, 1109, 1110, 1112] i2 i3 := by rw [← hi3]; exact fxI.u (by decide)
          have e10 : i3 1110 = x := by rw [← hi3]; exact g5
          obtain ⟨b0, b1, b2, b3⟩ := num_ok hnum hn
          obtain ⟨j, hj, rfl⟩ := nI_of2 (n := 99999) (by decide) (Int32.not_lt.mpr b2) b3
          rw [nI_clamp (by omega)] at hr
          subst hr
          refine g_aload_n (pc := 41) C dX12_value_41 rfl ?_
          refine g_iconst (pc := 42) (v := nI 0) C dX12_value_42 (by decide) ?_
          refine g_aload_n (pc := 43) C dX12_value_43 rfl ?_
          refine mg_127 (pc := 44) C (hmA _ _) dX12_value_44 ?_
          refine gx_ti (y := nI j) e10 ?_
          refine cg_X12_174 (pc := 47) C rfl (m_z (hmA _ _) rfl) (r_puts _ _ S L hx t ht6 i3 a _ _ o h3 (by omega) 0 j (16 * j) (by omega)) ⟨rfl, rfl⟩ ⟨Nat.zero_le _, Nat.zero_le _⟩ rfl (Nat.le_of_ble_eq_true rfl) dX12_value_47 ?_
          rintro _ _ ⟨rfl, a3, rfl, k1, k2⟩
          refine g_iconst (pc := 50) (v := nI 1) C dX12_value_50 (by decide) ?_
          exact g_zreturn (pc := 51) C ⟨rfl, rfl⟩ (by first | exact Or.inl rfl | exact Or.inr rfl) dX12_value_51 ⟨i3, a3, rfl, (f1.trans (f2.sub (by decide))).trans f3, k1, rfl, k2⟩
        · have hk : m = 60 := Decidable.not_not.mp (bI_0.mp (Decidable.not_not.mp hk))
          have hr : (if m = 60 then _ else _) = r := hr
          rw [if_pos hk] at hr
          subst hr
          refine gx_S (S' := rdS S (u1 i2 1109 (nI (ftN 3 q))) a) (by rw [if_pos hk]) ?_
          refine g_iconst (pc := 39) (v := nI 0) C dX12_value_39 (by decide) ?_
          exact g_zreturn (pc := 40) C ⟨rfl, rfl⟩ (by first | exact Or.inl rfl | exact Or.inr rfl) dX12_value_40 ⟨_, a, rfl, (f1.trans (f2.sub (by decide))).trans (fxI.u (by decide)), fxT.refl, rfl, rfl⟩
