/-! ===== how many crossings: both ways find the same ===== -/
def dmP (all j : Nat) : Prop := j < 256 ∧ j % 128 ≤ all
/-- the distances, as a table -/
def dsP (pl : Nat → Nat → Option Nat) (all : Nat) (N : Nat → Int32) : Prop := (∀ j, dmP all j → N j < 0 ∨ ∃ v, v < 1000 ∧ N j = nI v) ∧ (∀ j, dmP all j → (N j = nI 0 ↔ j % 128 = all)) ∧ (∀ j v, dmP all j → v < 1000 → N j = nI (v + 1) → ∃ s t, s < all + 1 ∧ pl j s = some t ∧ dmP all t ∧ N t = nI v) ∧ ∀ j s t v, dmP all j → s < all + 1 → pl j s = some t → v < 1000 → N t = nI v → ∃ m, m ≤ v + 1 ∧ N j = nI m
theorem ds_le {pl : Nat → Nat → Option Nat} {all : Nat} {N1 N2 : Nat → Int32} (h1 : dsP pl all N1) (h2 : dsP pl all N2) : ∀ v j, v < 1000 → dmP all j → N1 j = nI v → ∃ m, m ≤ v ∧ N2 j = nI m
  | 0, j, _, hj, e => ⟨0, Nat.le_refl 0, (h2.2.1 j hj).mpr ((h1.2.1 j hj).mp e)⟩
  | v + 1, j, hv, hj, e => by
    obtain ⟨s, t, hs, hp, ht, et⟩ := h1.2.2.1 j v hj (by omega) e
    obtain ⟨m, hm, em⟩ := ds_le h1 h2 v t (by omega) ht et
    obtain ⟨m2, hm2, em2⟩ := h2.2.2.2 j s t m hj hs hp (by omega) em
    exact ⟨m2, by omega, em2⟩
theorem ds_eq {pl : Nat → Nat → Option Nat} {all : Nat} {N1 N2 : Nat → Int32} (h1 : dsP pl all N1) (h2 : dsP pl all N2) {v j : Nat} (hv : v < 1000) (hj : dmP all j) (e : N1 j = nI v) : N2 j = nI v := by
  obtain ⟨m, hm, em⟩ := ds_le h1 h2 v j hv hj e
  obtain ⟨m2, hm2, em2⟩ := ds_le h2 h1 m j (by omega) hj em
  have : v = m2 := (nI_eq (by omega) (by omega)).mp (e.symm.trans em2)
  rw [em]; congr 1; omega
theorem ds_neg {pl : Nat → Nat → Option Nat} {all : Nat} {N1 N2 : Nat → Int32} (h1 : dsP pl all N1) (h2 : dsP pl all N2) {j : Nat} (hj : dmP all j) (e : N1 j < 0) : N2 j < 0 := by
  rcases h2.1 j hj with h | ⟨v, hv, ev⟩
  · exact h
  · have := ds_eq h2 h1 hv hj ev
    rw [this] at e
    exact absurd e (nI_pos (by omega))
/-! the rounds of the reference -/
theorem nd_zero {pl : Nat → Nat → Option Nat} {all : Nat} {N : Nat → Int32} {j : Nat} : ∀ n, n < 1000 → (ndR pl all N n j = nI 0 ↔ N j = nI 0)
  | 0, _ => Iff.rfl
  | n + 1, hn => by
    have ih := nd_zero (pl := pl) (all := all) (N := N) (j := j) n (by omega)
    refine Iff.trans ?_ ih
    show ndP pl all (ndR pl all N n) n 256 j = nI 0 ↔ _
    unfold ndP
    split
    · next h =>
      have h2 := (of_decide_eq_true h.2).1
      constructor
      · intro e; exact absurd ((nI_eq (by omega) (by omega)).mp e) (by omega)
      · intro e; rw [e] at h2; exact absurd h2 (nI_pos (by omega))
    · exact Iff.rfl
theorem nd_old {pl : Nat → Nat → Option Nat} {all : Nat} {M : Nat → Int32} {n v t : Nat} (hv : v ≤ n) (hn : n < 1000) (e : ndP pl all M n 256 t = nI v) : M t = nI v := by
  unfold ndP at e
  split at e
  · exact absurd ((nI_eq (by omega) (by omega)).mp e) (by omega)
  · exact e
theorem nd_chg {pl : Nat → Nat → Option Nat} {all : Nat} {M : Nat → Int32} {n j s t : Nat} (hj : dmP all j) (hs : s < all + 1) (hp : pl j s = some t) (e : M t = nI n) (hm : M j < 0) : chgF pl all M n j = true := by
  refine decide_eq_true ⟨hm, hj.2, fun q => ?_⟩
  have := q s hs
  unfold okT at this
  rw [hp] at this
  exact absurd e (of_decide_eq_false this)
theorem nd_C {pl : Nat → Nat → Option Nat} {all : Nat} {N : Nat → Int32} (h0 : ∀ j, j < 256 → N j = nI 0 ∨ N j = -1) : ∀ n, n < 999 → ∀ v, v < n → ∀ j s t, dmP all j → s < all + 1 → pl j s = some t → ndR pl all N n t = nI v → ∃ m, m ≤ v + 1 ∧ ndR pl all N n j = nI m
  | 0, _, v, hv => absurd hv (by omega)
  | n + 1, hn, v, hv => by
    intro j s t hj hs hp e
    have hI := ndI_R (pl := pl) (all := all) h0 n (by omega) j hj.1
    have ih := nd_C (pl := pl) (all := all) h0 n (by omega) v
    have e0 : ndR pl all N n t = nI v := nd_old (by omega) (by omega) e
    show ∃ m, m ≤ v + 1 ∧ ndP pl all (ndR pl all N n) n 256 j = nI m
    by_cases c : v < n
    · obtain ⟨m, hm, em⟩ := ih c j s t hj hs hp e0
      exact ⟨m, hm, ndP_keep (by omega) em⟩
    · have hvn : v = n := by omega
      subst hvn
      rcases hI with h | ⟨x, hx, ex, -⟩
      · exact ⟨v + 1, Nat.le_refl _, if_pos ⟨hj.1, nd_chg hj hs hp e0 h⟩⟩
      · exact ⟨x, by omega, ndP_keep (by omega) ex⟩
theorem mr_all {pl : Nat → Nat → Option Nat} {all : Nat} {N : Nat → Int32} {n : Nat} : ∀ i, mrF pl all N n i = false → ∀ j, j < i → chgF pl all N n j = false
  | 0, _, j, hj => absurd hj (by omega)
  | i + 1, h, j, hj => by
    simp only [mrF, Bool.or_eq_false_iff] at h
    by_cases e : j = i
    · subst e; exact h.2
    · exact mr_all i h.1 j (by omega)
theorem ds_nd {pl : Nat → Nat → Option Nat} {all : Nat} {N : Nat → Int32} {n : Nat} (h0 : ∀ j, j < 256 → N j = nI 0 ∨ N j = -1) (hA : ∀ j, dmP all j → (N j = nI 0 ↔ j % 128 = all)) (hpl : ∀ j s t, dmP all j → s < all + 1 → pl j s = some t → dmP all t) (hn : n ≤ 256) (hm : mrF pl all (ndR pl all N n) n 256 = false) : ndR pl all N (n + 1) = ndR pl all N n ∧ dsP pl all (ndR pl all N n) := by
  have hch := mr_all 256 hm
  have hI := ndI_R (pl := pl) (all := all) h0 n (by omega)
  have hC := nd_C (pl := pl) (all := all) h0 n (by omega)
  refine ⟨?_, ?_, ?_, ?_, ?_⟩
  · funext j
    show ndP pl all (ndR pl all N n) n 256 j = _
    unfold ndP
    rw [if_neg]
    intro q
    rw [hch j q.1] at q
    exact absurd q.2 (by decide)
  · intro j hj
    rcases hI j hj.1 with h | ⟨v, hv, e, -⟩
    · exact Or.inl h
    · exact Or.inr ⟨v, by omega, e⟩
  · intro j hj
    rw [nd_zero n (by omega)]
    exact hA j hj
  · intro j v hj hv e
    rcases hI j hj.1 with h | ⟨x, hx, ex, h2⟩
    · rw [e] at h; exact absurd h (nI_pos (by omega))
    · have hxv : v + 1 = x := (nI_eq (by omega) (by omega)).mp (e.symm.trans ex)
      rcases h2 with h2 | ⟨m, s, a1, a2, a3⟩
      · omega
      · have hmv : m = v := by omega
        subst hmv
        unfold okT at a3
        split at a3
        · cases a3
        · next t et => exact ⟨s, t, a2, et, hpl j s t hj a2 et, of_decide_eq_true a3⟩
  · intro j s t v hj hs hp hv e
    have ht := hpl j s t hj hs hp
    rcases hI t ht.1 with h | ⟨x, hx, ex, -⟩
    · rw [e] at h; exact absurd h (nI_pos (by omega))
    · have hxv : v = x := (nI_eq (by omega) (by omega)).mp (e.symm.trans ex)
      subst hxv
      by_cases c : v < n
      · exact hC v c j s t hj hs hp e
      · have hvn : v = n := by omega
        rcases hI j hj.1 with h | ⟨y, hy, ey, -⟩
        · rw [hvn] at e
          have := nd_chg hj hs hp e h
          rw [hch j hj.1] at this
          cases this
        · exact ⟨y, by omega, ey⟩
/-! the class's search, from the end back -/
theorem cnt_upd {N : Nat → Int32} {j : Nat} {x : Int32} (hx : ¬ x < 0) (hj : N j < 0) : ∀ n, cntN (upd N j x) n + (if j < n then 1 else 0) = cntN N n
  | 0 => rfl
  | n + 1 => by
    have ih := cnt_upd (x := x) hx hj n
    simp only [cntN]
    by_cases e : n = j
    · subst e
      rw [pk_us, if_neg hx, if_pos hj, if_pos (by omega)]
      rw [if_neg (by omega)] at ih
      omega
    · rw [pk_un e]
      by_cases c : j < n
      · rw [if_pos c] at ih
        rw [if_pos (show j < n + 1 by omega)]; omega
      · rw [if_neg c] at ih
        rw [if_neg (show ¬ j < n + 1 by omega)]; omega
theorem cnt_pos {N : Nat → Int32} {j : Nat} (hj : N j < 0) : ∀ n, j < n → 0 < cntN N n
  | 0, h => absurd h (by omega)
  | n + 1, h => by
    simp only [cntN]
    by_cases e : j = n
    · subst e; rw [if_pos hj]; omega
    · have := cnt_pos hj n (by omega); omega
def bfI (pl : Nat → Nat → Option Nat) (all : Nat) (N : Nat → Int32) (qn vn : Nat → Nat) (z k : Nat) : Prop :=
  z + cntN N 256 = 256 ∧ (∀ j, dmP all j → N j = -1 ∨ ∃ v, v < 256 ∧ N j = nI v) ∧ (∀ i, i < z → dmP all (qn i) ∧ N (qn i) = nI (vn i) ∧ vn i ≤ i) ∧ (∀ i i', i ≤ i' → i' < z → vn i ≤ vn i') ∧ (k < z → ∀ i, i < z → vn i ≤ vn k + 1) ∧ (∀ j, dmP all j → ¬ N j = -1 → ∃ i, i < z ∧ qn i = j) ∧ (∀ i, i < k → i < z → ∀ j s, dmP all j → s < all + 1 → pl j s = some (qn i) → ∃ m, m ≤ vn i + 1 ∧ N j = nI m) ∧ (∀ j v, dmP all j → v < 1000 → N j = nI (v + 1) → ∃ s t, s < all + 1 ∧ pl j s = some t ∧ dmP all t ∧ N t = nI v) ∧ ∀ j, dmP all j → (N j = nI 0 ↔ j % 128 = all)
/-- of the one in the queue's place k the sets below n are done -/
def bfD (pl : Nat → Nat → Option Nat) (all : Nat) (N : Nat → Int32) (qn vn : Nat → Nat) (k n : Nat) : Prop := ∀ j s, s < n → dmP all j → pl j s = some (qn k) → ∃ m, m ≤ vn k + 1 ∧ N j = nI m
theorem bf_next {pl : Nat → Nat → Option Nat} {all : Nat} {N : Nat → Int32} {qn vn : Nat → Nat} {z k : Nat} (h : bfI pl all N qn vn z k) (hk : k < z) (hd : bfD pl all N qn vn k (all + 1)) : bfI pl all N qn vn z (k + 1) := by
  obtain ⟨h1, h2, h3, h4, h5, h6, h7, h8, h9⟩ := h
  refine ⟨h1, h2, h3, h4, fun hk1 i hi => ?_, h6, fun i hi hiz j s hj hs hp => ?_, h8, h9⟩
  · have a := h5 hk i hi
    have b := h4 k (k + 1) (by omega) hk1
    omega
  · by_cases e : i = k
    · subst e; exact hd j s hs hj hp
    · exact h7 i (by omega) hiz j s hj hs hp
theorem bf_push {pl : Nat → Nat → Option Nat} {all : Nat} {N : Nat → Int32} {qn vn : Nat → Nat} {z k j s : Nat} (h : bfI pl all N qn vn z k) (hk : k < z) (hj : dmP all j) (hN : N j = -1) (hs : s < all + 1) (hp : pl j s = some (qn k)) : z < 256 ∧ bfI pl all (upd N j (nI (vn k + 1))) (updN qn z j) (updN vn z (vn k + 1)) (z + 1) k ∧ (∀ n, bfD pl all N qn vn k n → bfD pl all (upd N j (nI (vn k + 1))) (updN qn z j) (updN vn z (vn k + 1)) k n) ∧ updN qn z j k = qn k ∧ updN vn z (vn k + 1) k = vn k := by
  obtain ⟨h1, h2, h3, h4, h5, h6, h7, h8, h9⟩ := h
  have hneg : N j < 0 := by rw [hN]; decide
  have hc := cnt_pos hneg 256 hj.1
  have hvk := (h3 k hk).2.2
  have hcu := cnt_upd (x := nI (vn k + 1)) (nI_pos (by omega)) hneg 256
  rw [if_pos hj.1] at hcu
  have keep : ∀ i m, N i = nI m → m < 1000 → upd N j (nI (vn k + 1)) i = nI m := fun i m e hm => by
    rw [pk_un]
    · exact e
    · intro q; subst q; rw [hN] at e
      exact absurd (show nI m < 0 by rw [← e]; decide) (nI_pos (by omega))
  have qo : ∀ i, i < z → updN qn z j i = qn i := fun i hi => if_neg (by omega)
  have vo : ∀ i, i < z → updN vn z (vn k + 1) i = vn i := fun i hi => if_neg (by omega)
  have qz : updN qn z j z = j := if_pos rfl
  have vz : updN vn z (vn k + 1) z = vn k + 1 := if_pos rfl
  refine ⟨by omega, ⟨by omega, fun i hi => ?_, fun i hi => ?_, fun i i' hii hi => ?_, fun _ i hi => ?_, fun i hi hne => ?_, fun i hi hiz a b ha hb hab => ?_, fun a v ha hv e => ?_, fun i hi => ?_⟩, fun n hd a b hb ha hab => ?_, qo k hk, vo k hk⟩
  · by_cases e : i = j
    · subst e; rw [pk_us]; exact Or.inr ⟨vn k + 1, by omega, rfl⟩
    · rw [pk_un e]; exact h2 i hi
  · by_cases e : i = z
    · subst e
      rw [qz, vz]
      exact ⟨hj, pk_us, by omega⟩
    · rw [qo i (by omega), vo i (by omega)]
      have := h3 i (by omega)
      exact ⟨this.1, keep _ _ this.2.1 (by omega), this.2.2⟩
  · by_cases e : i' = z
    · subst e
      rw [vz]
      by_cases e2 : i = i'
      · subst e2; rw [vz]; exact Nat.le_refl _
      · rw [vo i (by omega)]; exact h5 hk i (by omega)
    · rw [vo i' (by omega), vo i (by omega)]; exact h4 i i' hii (by omega)
  · rw [vo k hk]
    by_cases e : i = z
    · subst e; rw [vz]; exact Nat.le_refl _
    · rw [vo i (by omega)]; exact h5 hk i (by omega)
  · by_cases e : i = j
    · exact ⟨z, by omega, by rw [qz, e]⟩
    · rw [pk_un e] at hne
      obtain ⟨x, hx, ex⟩ := h6 i hi hne
      exact ⟨x, by omega, by rw [qo x hx]; exact ex⟩
  · rw [qo i (by omega)] at hab
    rw [vo i (by omega)]
    obtain ⟨m, hm, em⟩ := h7 i hi (by omega) a b ha hb hab
    have := (h3 i (by omega)).2.2
    exact ⟨m, hm, keep _ _ em (by omega)⟩
  · by_cases ea : a = j
    · subst ea
      rw [pk_us] at e
      have : vn k + 1 = v + 1 := (nI_eq (by omega) (by omega)).mp e
      have hq := h3 k hk
      refine ⟨s, qn k, hs, hp, hq.1, keep _ _ ?_ (by omega)⟩
      rw [hq.2.1]; congr 1; omega
    · rw [pk_un ea] at e
      obtain ⟨s', t, b1, b2, b3, b4⟩ := h8 a v ha hv e
      exact ⟨s', t, b1, b2, b3, keep _ _ b4 hv⟩
  · by_cases e : i = j
    · subst e
      rw [pk_us]
      constructor
      · intro q; exact absurd ((nI_eq (by omega) (by omega)).mp q) (by omega)
      · intro q
        have := (h9 i hi).mpr q
        rw [hN] at this
        exact absurd this (by decide)
    · rw [pk_un e]; exact h9 i hi
  · rw [qo k hk] at hab
    rw [vo k hk]
    obtain ⟨m, hm, em⟩ := hd a b hb ha hab
    exact ⟨m, hm, keep _ _ em (by omega)⟩
theorem bf_end {pl : Nat → Nat → Option Nat} {all : Nat} {N : Nat → Int32} {qn vn : Nat → Nat} {z k : Nat} (h : bfI pl all N qn vn z k) (hk : z ≤ k) (hpl : ∀ j s t, dmP all j → s < all + 1 → pl j s = some t → dmP all t) : dsP pl all N := by
  obtain ⟨h1, h2, h3, h4, h5, h6, h7, h8, h9⟩ := h
  refine ⟨fun j hj => ?_, h9, h8, fun j s t v hj hs hp hv e => ?_⟩
  · rcases h2 j hj with q | ⟨v, hv, e⟩
    · exact Or.inl (by rw [q]; decide)
    · exact Or.inr ⟨v, by omega, e⟩
  · have ht := hpl j s t hj hs hp
    obtain ⟨i, hi, ei⟩ := h6 t ht (fun q => by rw [q] at e; exact absurd (show nI v < 0 by rw [← e]; decide) (nI_pos (by omega)))
    subst ei
    obtain ⟨m, hm, em⟩ := h7 i (by omega) hi j s hj hs hp
    have hq := h3 i hi
    have : vn i = v := (nI_eq (by omega) (by omega)).mp (hq.2.1.symm.trans e)
    exact ⟨m, by omega, em⟩
