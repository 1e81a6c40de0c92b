/-! ===== acts: what holds between calls goes on ===== -/
section
variable {S T : St} {q : K5} {c ca cg cl ce P H m nr j z L H' : Nat} {u u' : Nat → Int32} {f x : Int32} {Fs : Nat → (Nat → Int64) → Int64} {W : Nat → Nat → Int32} {Tp : Nat → Int32} {im : Nat → Option IMt}
theorem CI.act (h : CI S q c ca cg cl ce P H m nr j z L u f x Fs W Tp im) (ha : actP S T z j P W u u') (hu : ∀ k, k < 10 ∨ 28 ≤ k → u' k = u k) (am : amU P u') (hh : u' 10 = nI H') (hh9 : H' ≤ 999) : CI T q c ca cg cl ce P H' m nr ((j + 1) % 20) (min 20 (z + 1)) L u' f x Fs (keepW W z u) Tp im :=
  CI.mk (aK.act h.1 ha hu am hh hh9) ha.2.2.2.2.2.2 (oth_to h.oth (aK.rls h.1) ha.1 (fun k g => by unfold dA at g; omega) ha.2.1)
theorem dA_dM {k : Nat} (h : dA k) : ¬ dM k := fun q => by unfold dA at h; unfold dM at q; omega
theorem RI.act (g : RI S P H nr z L u f x Fs W Tp im) (hpw : pwU P u) (hu : ∀ k, k < 10 ∨ 28 ≤ k → u' k = u k) (hh : u' 10 = nI H') (hh9 : H' ≤ 999) : RI (s_setA (keepU S z) 1010 u') P H' nr (min 20 (z + 1)) L u' f x Fs (keepW W z u) Tp im := by
  obtain ⟨h1, h2, h3, h4, h5, h6, h7⟩ := g
  refine ⟨⟨h1.1, h1.2⟩, ⟨rfl, (hu 4 (by omega)).trans h2.2.1, h2.2.2.1, hh, hh9⟩, h3, ⟨h4.1, h4.2.1, fun r hr => (h4.2.2 r hr).mv rfl rfl rfl⟩, ⟨?_, by omega, ?_, ?_⟩, h6, fun k hk => (h7 k hk).mv rfl rfl rfl rfl⟩
  · have e : s_I (s_setA (keepU S z) 1010 u') 1125 1000 = nI (nU z + 1) := by
      show s_I (s_setI (s_setA S 1011 (va_cpy (s_A S 1010) (shU (s_A S 1011) z) 10 (18 * nU z) 18)) 1125 1000 (nI (nU z + 1))) 1125 1000 = _
      exact gI_at
    rw [e]
    have hz := h5.2.1
    congr 1
    unfold nU
    split <;> omega
  · intro i hi
    unfold keepW
    split
    · split
      · exact h5.2.2.1 _ (by omega)
      · exact hpw
    · split
      · exact h5.2.2.1 _ (by omega)
      · exact hpw
  · intro i hi t ht
    have hz := h5.2.1
    have e : s_A (s_setA (keepU S z) 1010 u') 1011 = va_cpy (s_A S 1010) (shU (s_A S 1011) z) 10 (18 * nU z) 18 := rfl
    rw [e, h2.1]
    have hr := h5.2.2.2
    clear e
    generalize s_A S 1011 = R at hr ⊢
    clear h1 h2 h3 h4 h5 h6 h7
    by_cases h20 : z = 20
    · subst h20
      have e2 : va_cpy u (shU R 20) 10 (18 * nU 20) 18 (18 * i + t) = if 342 ≤ 18 * i + t ∧ 18 * i + t < 342 + 18 then u (10 + (18 * i + t - 342)) else if 0 ≤ 18 * i + t ∧ 18 * i + t < 0 + 342 then R (18 + (18 * i + t - 0)) else R (18 * i + t) := rfl
      have e3 : keepW W 20 u i = if i < 19 then W (i + 1) else u := rfl
      rw [e2, e3]
      by_cases hi2 : i < 19
      · rw [if_pos hi2, if_neg (by omega), if_pos (by omega), ← hr (i + 1) (by omega) t ht]
        exact congrArg R (by omega)
      · rw [if_neg hi2, if_pos (by omega)]
        exact congrArg u (by omega)
    · have e2 : nU z = z := if_neg h20
      have e4 : shU R z = R := if_neg h20
      have e3 : keepW W z u i = if i < z then W i else u := if_neg h20
      rw [e2, e3, e4]
      simp only [va_cpy]
      by_cases hi2 : i < z
      · rw [if_pos hi2, if_neg (by omega)]
        exact hr i hi2 t ht
      · rw [if_neg hi2, if_pos (by omega)]
        exact congrArg u (by omega)
theorem aK.pw (h : aK S c ca cg cl ce P H m nr u f x Fs) : pwU P u := ⟨(aK.sd h).2.1, H, aK.hr9 h, aK.hr h⟩
/-- an act on both sides -/
theorem act2 {S1 : St} (h : CI S q c ca cg cl ce P H m nr j z L u f x Fs W Tp im) (g : RI S P H nr z L u f x Fs W Tp im) (ha : actP S S1 z j P W u u') (hu : ∀ k, k < 10 ∨ 28 ≤ k → u' k = u k) (am : amU P u') (hh : u' 10 = nI H') (hh9 : H' ≤ 999) : INV (s_setA (keepU S1 z) 1010 u') :=
  INV.mk ((h.act ha hu am hh hh9).ref ((eqO.sA (k := 1011) ⟨by decide, by decide⟩).trans ((eqO.sI (k := 1000) ⟨by decide, by decide⟩).trans (eqO.sA (k := 1010) ⟨by decide, by decide⟩)))) (RI.act (g.to (eqM.of ha.1 (fun k => dA_dM))) (aK.pw h.1) hu hh hh9)
theorem INV.sc {B' W' : Nat → Int64} {t' : Int32} (h : INV S) : INV (scw S B' W' t') := by
  obtain ⟨q, c, ca, cg, cl, ce, P, H, m, nr, j, z, L, u, f, x, Fs, W, Tp, im, h, g⟩ := h
  exact INV.rk h g eqO_scw ⟨⟨rfl, fun _ => rfl⟩, ⟨rfl, rfl, rfl, rfl, rfl, rfl⟩, rfl, rfl, rfl, rfl, rfl, rfl, rfl, rfl, rfl, rfl⟩
theorem hr_up {v : Int32} (hH : v = nI H) (h9 : H ≤ 999) (hn : ¬ v = nI 999) : v + nI 1 = nI (H + 1) ∧ H + 1 ≤ 999 := by
  subst hH
  refine ⟨nI_add _ _, ?_⟩
  have : H ≠ 999 := fun e => hn (by rw [e])
  omega
theorem amU_go {dr : Int32} {s : Nat} (hP : P ≤ 7) (h : sdA P u) : amU P (goF dr u P H s) := by
  refine amU_ext (amU_grw (s := s) h.2.1 h.2.2.2) (fun p hp => ?_)
  unfold goF goG
  rw [pk_un (by omega)]
  split
  · rw [pk_un (by omega), crsF_lo (by omega) hP]
  · rw [pk_un (by omega)]
theorem toss_u {p much : Int32} (hP : P ≤ 7) (h : sdA P u) (hk : tossOK u P p much) : amU P (tossF u p.toNatClampNeg much) ∧ ∀ k, k < 13 ∨ 28 ≤ k → tossF u p.toNatClampNeg much k = u k := by
  obtain ⟨k, hk1, rfl, ec⟩ := person_of hP hk.1
  obtain ⟨a, ha, ea⟩ := h.2.1 k hk1
  have e := hk.2
  rw [ec, ← o64, in64, ea] at e
  obtain ⟨b, hb, rfl⟩ := nat_of (by omega) ⟨Int32.le_trans (by decide) e.1, e.2⟩
  rw [ec]
  unfold tossF
  refine ⟨?_, fun k hk => by rw [pk_un (by omega), pk_un (by omega)]⟩
  have am : amU P (upd u (14 + k) (u (14 + k) - nI b)) := by rw [ea, pk_sub hb]; exact amU_upd h.2.1 (by omega)
  exact amU_ext am (fun p hp => pk_un (by omega))
theorem talk_u {p much : Int32} (hP : P ≤ 7) (h : sdA P u) (hk : talkOK u P p much) : amU P (talkF u p.toNatClampNeg much) ∧ ∀ k, k < 14 ∨ 28 ≤ k → talkF u p.toNatClampNeg much k = u k := by
  obtain ⟨k, hk1, rfl, ec⟩ := person_of hP hk.1
  obtain ⟨a, ha, ea⟩ := h.2.1 k hk1
  have e := hk.2.1
  rw [← o64, ← o64b, in64] at e
  obtain ⟨b, hb, rfl⟩ := nat_of (by omega) ⟨Int32.le_trans (by decide) e.1, e.2⟩
  rw [ec]
  unfold talkF
  refine ⟨?_, fun k hk => pk_un (by omega)⟩
  rw [ea, nI_add]
  unfold atMostF
  by_cases e3 : nI (a + b) ≤ nI 99
  · rw [if_pos e3]; exact amU_upd h.2.1 ((nI_leI (by omega) (by omega)).mp e3)
  · rw [if_neg e3]; exact amU_upd h.2.1 (by omega)
theorem act1 {ok : Prop} [Decidable ok] {a b : Int32} {v : Option Value} (g : RI S P H nr z L u f x Fs W Tp im) (p : if ok then (v = some (.int a) ∧ actP S T z j P W u u') else (v = some (.int b) ∧ T = S)) : v = some (.int (if ok then a else b)) ∧ RI T P H nr z L u f x Fs W Tp im ∧ (if ok then actP S T z j P W u u' else T = S) := by
  by_cases hk : ok
  · rw [if_pos hk] at p ⊢
    rw [if_pos hk]
    exact ⟨p.1, g.to (eqM.of p.2.1 (fun k => dA_dM)), p.2⟩
  · rw [if_neg hk] at p ⊢
    rw [if_neg hk]
    obtain ⟨rfl, rfl⟩ := p
    exact ⟨rfl, g, rfl⟩
def ufit (P : Nat) (u u' : Nat → Int32) : Prop := (∀ k, k < 10 ∨ 28 ≤ k → u' k = u k) ∧ amU P u' ∧ ∃ h, u' 10 = nI h ∧ h ≤ 999
theorem act3 {S1 : St} {ok : Prop} [Decidable ok] {a b : Int32} {v : Option Value} (h : CI S q c ca cg cl ce P H m nr j z L u f x Fs W Tp im) (g : RI S P H nr z L u f x Fs W Tp im) (e : if ok then actP S S1 z j P W u u' else S1 = S) (k : ok → ufit P u u') (p : if ok then (∃ B' W' t', v = some (.int a) ∧ T = scw (s_setA (keepU S1 z) 1010 u') B' W' t') else (v = some (.int b) ∧ T = S1)) : v = some (.int (if ok then a else b)) ∧ INV T := by
  by_cases hk : ok
  · rw [if_pos hk] at p e ⊢
    obtain ⟨B', W', t', rfl, rfl⟩ := p
    obtain ⟨k1, k2, h', k3, k4⟩ := k hk
    exact ⟨rfl, INV.sc (act2 h g e k1 k2 k3 k4)⟩
  · rw [if_neg hk] at p e ⊢
    obtain ⟨rfl, rfl⟩ := p
    subst e
    exact ⟨rfl, INV.mk h g⟩
theorem act4 {S1 : St} {ok : Prop} [Decidable ok] {r : Int32} {v : Option Value} (h : CI S q c ca cg cl ce P H m nr j z L u f x Fs W Tp im) (g : RI S P H nr z L u f x Fs W Tp im) (e : if ok then actP S S1 z j P W u u' else S1 = S) (k : ok → ufit P u u') (p : pI r (if ok then s_setA (keepU S1 z) 1010 u' else S1) v T) : v = some (.int r) ∧ INV T := by
  obtain ⟨rfl, rfl⟩ := p
  refine ⟨rfl, ?_⟩
  by_cases hk : ok
  · rw [if_pos hk] at e ⊢
    obtain ⟨k1, k2, h', k3, k4⟩ := k hk
    exact act2 h g e k1 k2 k3 k4
  · rw [if_neg hk] at e ⊢
    subst e
    exact INV.mk h g
end
