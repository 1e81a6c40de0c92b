/-! ===== THE CLASS: how it stands, by a River; weights ===== -/
def rvK (S : St) (r ra : Nat) : Prop := gx_o S r 5 ∧ s_R S 505 r = some ra ∧ gx_a S ra 13 7
def rvV (S : St) (r ra P : Nat) (u : Nat → Int32) : Prop := s_I S 500 r = u 10 ∧ s_I S 501 r = u 11 ∧ s_I S 502 r = nI (onN u (nI 1) P) ∧ s_I S 503 r = u 12 ∧ s_I S 504 r = u 13 ∧ ∀ p, p < P → s_A S ra p = u (14 + p)
/-- boat and people are on SIDE 0 or 1 -/
def sdU (P : Nat) (u : Nat → Int32) : Prop := (u 11 = nI 0 ∨ u 11 = nI 1) ∧ ∀ p, p < P → (u (21 + p) = nI 0 ∨ u (21 + p) = nI 1)
def rvS (S : St) (r ra P : Nat) (u : Nat → Int32) : Prop := rvK S r ra ∧ rvV S r ra P u ∧ sdU P u
theorem rvK.to {D : Nat → Prop} {S T : St} {r ra : Nat} (h : eqO D S T) (hD : ¬ D r) (g : rvK S r ra) : rvK T r ra := ⟨h.o g.1, (h.R hD).trans g.2.1, h.a g.2.2⟩
theorem rvS.to {D : Nat → Prop} {S T : St} {r ra P : Nat} {u : Nat → Int32} (h : eqO D S T) (hD : ¬ D r ∧ ¬ D ra) (g : rvS S r ra P u) : rvS T r ra P u := by
  obtain ⟨d1, d2⟩ := hD
  obtain ⟨g0, ⟨g1, g2, g3, g4, g5, g6⟩, g7⟩ := g
  refine ⟨g0.to h d1, ⟨(h.I d1).trans g1, (h.I d1).trans g2, (h.I d1).trans g3, (h.I d1).trans g4, (h.I d1).trans g5, ?_⟩, g7⟩
  rw [h.A d2]; exact g6
/-! who is where -/
theorem on_bit {u : Nat → Int32} {x : Int32} : ∀ {n p : Nat}, p < n → ((onN u x n).testBit p = true ↔ u (21 + p) = x)
  | n + 1, p, h => by
    have hl := onN_lt u x n
    by_cases e : p = n
    · subst e
      show (onN u x p + (if u (21 + p) = x then 2 ^ p else 0)).testBit p = true ↔ _
      by_cases h2 : u (21 + p) = x
      · rw [if_pos h2, Nat.add_comm, Nat.testBit_two_pow_add_eq, Nat.testBit_lt_two_pow hl]
        simp [h2]
      · rw [if_neg h2, Nat.add_zero, Nat.testBit_lt_two_pow hl]
        simp [h2]
    · show (onN u x n + (if u (21 + n) = x then 2 ^ n else 0)).testBit p = true ↔ _
      have ih := on_bit (u := u) (x := x) (n := n) (p := p) (by omega)
      by_cases h2 : u (21 + n) = x
      · rw [if_pos h2, Nat.add_comm, Nat.testBit_two_pow_add_gt (by omega)]; exact ih
      · rw [if_neg h2, Nat.add_zero]; exact ih
theorem on_out {u : Nat → Int32} {x : Int32} {n p : Nat} (h : n ≤ p) : (onN u x n).testBit p = false := Nat.testBit_lt_two_pow (Nat.lt_of_lt_of_le (onN_lt u x n) (Nat.pow_le_pow_right (by decide) h))
theorem on_not {P : Nat} {u : Nat → Int32} (hs : ∀ p, p < P → (u (21 + p) = nI 0 ∨ u (21 + p) = nI 1)) : onN u (nI 0) P = (2 ^ P - 1) - ((2 ^ P - 1) &&& onN u (nI 1) P) := by
  induction P with
  | zero => simp [onN]
  | succ P ih =>
    have ih := ih (fun p hp => hs p (by omega))
    have h1 := onN_lt u (nI 1) P
    have h0 := onN_lt u (nI 0) P
    have e1 : (2 ^ P - 1) &&& onN u (nI 1) P = onN u (nI 1) P := by
      rw [Nat.and_comm, Nat.and_two_pow_sub_one_eq_mod, Nat.mod_eq_of_lt h1]
    have h1' := onN_lt u (nI 1) (P + 1)
    have e2 : (2 ^ (P + 1) - 1) &&& onN u (nI 1) (P + 1) = onN u (nI 1) (P + 1) := by
      rw [Nat.and_comm, Nat.and_two_pow_sub_one_eq_mod, Nat.mod_eq_of_lt h1']
    rw [e2]
    rw [e1] at ih
    show onN u (nI 0) P + (if u (21 + P) = nI 0 then 2 ^ P else 0) = 2 ^ (P + 1) - 1 - (onN u (nI 1) P + (if u (21 + P) = nI 1 then 2 ^ P else 0))
    rw [Nat.pow_succ]
    rcases hs P (by omega) with e | e
    · rw [e, if_pos rfl, if_neg (by decide), ih]; omega
    · rw [e, if_neg (by decide), if_pos rfl, ih]; omega
theorem side_nI : ∀ o, o < 128 → ∀ p, p < 7 → (nI o >>> (nI p &&& 31)) &&& nI 1 = if o.testBit p = true then nI 1 else nI 0 := by decide +kernel
/-- the SIDE of a PERSON, out of the bits -/
theorem side_eq {u : Nat → Int32} {P p : Nat} (hP : P ≤ 7) (hp : p < P) (hs : u (21 + p) = nI 0 ∨ u (21 + p) = nI 1) : (nI (onN u (nI 1) P) >>> (nI p &&& 31)) &&& nI 1 = u (21 + p) := by
  rw [side_nI _ (onN_128 hP) p (by omega)]
  by_cases h : (onN u (nI 1) P).testBit p = true
  · rw [if_pos h, (on_bit hp).mp h]
  · rw [if_neg h]
    rcases hs with e | e
    · exact e.symm
    · exact absurd ((on_bit hp).mpr e) h
theorem c_X6_sideOf (w : Wd) (l : Launch) (S : St) (r ra P : Nat) (u : Nat → Int32) (h : rvS S r ra P u) (hP7 : P ≤ 7) (p : Nat) (hp : p < P) : gx_M w l yX6_sideOf cX6_sideOf 2 (some .int) rmX6_sideOf [.ref (ad (w_b w) r), .int (nI p)] S (pI (u (21 + p)) S) := by
  obtain ⟨⟨oc, -⟩, ⟨-, -, hf, -⟩, hs⟩ := h
  refine gx_start rfl 0 rfl (Nat.le_of_ble_eq_true rfl) ?_
  intro X C _ hl
  subst hl
  refine gx_L (L' := [_, _]) rfl ?_
  refine g_aload_n (pc := 0) C dX6_sideOf_0 rfl ?_
  refine fg_X6_22 (pc := 1) C (by exact oc.1) (zk (by exact oc.2)) dX6_sideOf_1 ?_
  refine gx_ti (y := nI (onN u (nI 1) P)) hf ?_
  refine g_iload_n (pc := 4) C dX6_sideOf_4 rfl ?_
  refine g_ishr (pc := 5) C dX6_sideOf_5 ?_
  refine g_iconst (pc := 6) (v := nI 1) C dX6_sideOf_6 (by decide) ?_
  refine g_iand (pc := 7) C dX6_sideOf_7 ?_
  exact g_ireturn (pc := 8) C ⟨rfl, rfl⟩ dX6_sideOf_8 ⟨by rw [side_eq hP7 hp (hs.2 p hp)], rfl⟩
theorem here_eq {u : Nat → Int32} {P : Nat} (hP : P ≤ 7) (hs : sdU P u) : (if u 11 = nI 1 then nI (onN u (nI 1) P) else nI (2 ^ P - 1) &&& (nI (onN u (nI 1) P) ^^^ (-1))) = nI (onN u (u 11) P) := by
  have hb : 2 ^ P - 1 < 128 := by
    have := Nat.pow_le_pow_right (show 0 < 2 by decide) hP
    omega
  rcases hs.1 with e | e
  · rw [e, if_neg (by decide), andn_nI _ hb _ (onN_128 hP), on_not hs.2]
  · rw [e, if_pos rfl]
theorem c_X6_here (w : Wd) (l : Launch) (S : St) (c ca cg cl ce r ra P : Nat) (u : Nat → Int32) (hc : crS S c ca cg cl ce P u) (h : rvS S r ra P u) : gx_M w l yX6_here cX6_here 2 (some .int) rmX6_here [.ref (ad (w_b w) r), .ref (ad (w_b w) c)] S (pI (nI (onN u (u 11) P)) S) := by
  have hh := here_eq hc.2.2 h.2.2
  obtain ⟨⟨oc, -⟩, ⟨-, hb, hf, -⟩, hs⟩ := h
  have occ := hc.1.1
  refine gx_start rfl 0 rfl (Nat.le_of_ble_eq_true rfl) ?_
  intro X C _ hl
  subst hl
  refine gx_L (L' := [_, _]) rfl ?_
  refine g_aload_n (pc := 0) C dX6_here_0 rfl ?_
  refine fg_X6_19 (pc := 1) C (by exact oc.1) (zk (by exact oc.2)) dX6_here_1 ?_
  refine gx_ti (y := u 11) hb ?_
  refine g_iconst (pc := 4) (v := nI 1) C dX6_here_4 (by decide) ?_
  refine g_icmp_ne (pc := 5) C 15 dX6_here_5 rfl (fun c1 => ?_) (fun c1 => ?_)
  · rw [if_neg c1] at hh
    refine g_aload_n (pc := 15) C dX6_here_15 rfl ?_
    refine cf_X6_40 (pc := 16) C (by exact occ.1) (zk (by exact occ.2)) (c_X0_everybody _ _ _ c ca cg cl ce P u hc) ⟨rfl, rfl⟩ ⟨rfl, rfl⟩ ⟨Nat.zero_le _, Nat.zero_le _⟩ rfl (Nat.le_of_ble_eq_true rfl) dX6_here_16 ?_
    refine g_aload_n (pc := 19) C dX6_here_19 rfl ?_
    refine fg_X6_22 (pc := 20) C (by exact oc.1) (zk (by exact oc.2)) dX6_here_20 ?_
    refine gx_ti (y := nI (onN u (nI 1) P)) hf ?_
    refine g_iconst (pc := 23) (v := -1) C dX6_here_23 (by decide) ?_
    refine g_ixor (pc := 24) C dX6_here_24 ?_
    refine g_iand (pc := 25) C dX6_here_25 ?_
    exact g_ireturn (pc := 26) C ⟨rfl, rfl⟩ dX6_here_26 ⟨by rw [hh], rfl⟩
  · rw [if_pos (Decidable.not_not.mp c1)] at hh
    refine g_aload_n (pc := 8) C dX6_here_8 rfl ?_
    refine fg_X6_22 (pc := 9) C (by exact oc.1) (zk (by exact oc.2)) dX6_here_9 ?_
    refine gx_ti (y := nI (onN u (nI 1) P)) hf ?_
    refine g_goto (pc := 12) C 26 dX6_here_12 rfl ?_
    exact g_ireturn (pc := 26) C ⟨rfl, rfl⟩ dX6_here_26 ⟨by rw [hh], rfl⟩
abbrev hereP (u : Nat → Int32) (P : Nat) (x : Int32) : Prop := x &&& (nI (onN u (u 11) P) ^^^ (-1)) = 0
theorem c_X6_areHere (w : Wd) (l : Launch) (S : St) (c ca cg cl ce r ra P : Nat) (u : Nat → Int32) (hc : crS S c ca cg cl ce P u) (h : rvS S r ra P u) (x : Int32) : gx_M w l yX6_areHere cX6_areHere 3 (some .boolean) rmX6_areHere [.ref (ad (w_b w) r), .ref (ad (w_b w) c), .int x] S (pI (bI (hereP u P x)) S) := by
  have oc := h.1.1
  refine gx_start rfl 0 rfl (Nat.le_of_ble_eq_true rfl) ?_
  intro X C _ hl
  subst hl
  refine gx_L (L' := [_, _, _]) rfl ?_
  refine g_iload_n (pc := 0) C dX6_areHere_0 rfl ?_
  refine g_aload_n (pc := 1) C dX6_areHere_1 rfl ?_
  refine g_aload_n (pc := 2) C dX6_areHere_2 rfl ?_
  refine cf_X6_44 (pc := 3) C (by exact oc.1) (zk (by exact oc.2)) (c_X6_here _ _ _ c ca cg cl ce r ra P u hc h) ⟨rfl, rfl⟩ ⟨rfl, rfl⟩ ⟨Nat.zero_le _, Nat.zero_le _⟩ rfl (Nat.le_of_ble_eq_true rfl) dX6_areHere_3 ?_
  refine g_iconst (pc := 6) (v := -1) C dX6_areHere_6 (by decide) ?_
  refine g_ixor (pc := 7) C dX6_areHere_7 ?_
  refine g_iand (pc := 8) C dX6_areHere_8 ?_
  refine g_if_ne (pc := 9) C 16 dX6_areHere_9 rfl (fun c1 => ?_) (fun c1 => ?_)
  · refine g_iconst (pc := 16) (v := nI 0) C dX6_areHere_16 (by decide) ?_
    exact g_zreturn (pc := 17) C ⟨rfl, rfl⟩ (by first | exact Or.inl rfl | exact Or.inr rfl) dX6_areHere_17 (pI_f c1)
  · refine g_iconst (pc := 12) (v := nI 1) C dX6_areHere_12 (by decide) ?_
    refine g_goto (pc := 13) C 17 dX6_areHere_13 rfl ?_
    exact g_zreturn (pc := 17) C ⟨rfl, rfl⟩ (by first | exact Or.inl rfl | exact Or.inr rfl) dX6_areHere_17 (pI_t (Decidable.not_not.mp c1))
theorem over_iff {u : Nat → Int32} {P : Nat} (hP : P ≤ 7) (hs : sdU P u) : nI (onN u (nI 1) P) = nI (2 ^ P - 1) ↔ onN u (nI 0) P = 0 := by
  have hb : 2 ^ P ≤ 128 := Nat.pow_le_pow_right (show 0 < 2 by decide) hP
  have h1 := onN_lt u (nI 1) P
  have e1 : (2 ^ P - 1) &&& onN u (nI 1) P = onN u (nI 1) P := by
    rw [Nat.and_comm, Nat.and_two_pow_sub_one_eq_mod, Nat.mod_eq_of_lt h1]
  rw [on_not hs.2, e1, nI_eq (by omega) (by omega)]
  omega
theorem c_X6_allOver (w : Wd) (l : Launch) (S : St) (c ca cg cl ce r ra P : Nat) (u : Nat → Int32) (hc : crS S c ca cg cl ce P u) (h : rvS S r ra P u) : gx_M w l yX6_allOver cX6_allOver 2 (some .boolean) rmX6_allOver [.ref (ad (w_b w) r), .ref (ad (w_b w) c)] S (pI (bI (onN u (nI 0) P = 0)) S) := by
  have hov := over_iff hc.2.2 h.2.2
  obtain ⟨⟨oc, -⟩, ⟨-, -, hf, -⟩, hs⟩ := h
  have occ := hc.1.1
  refine gx_start rfl 0 rfl (Nat.le_of_ble_eq_true rfl) ?_
  intro X C _ hl
  subst hl
  refine gx_L (L' := [_, _]) rfl ?_
  refine g_aload_n (pc := 0) C dX6_allOver_0 rfl ?_
  refine fg_X6_22 (pc := 1) C (by exact oc.1) (zk (by exact oc.2)) dX6_allOver_1 ?_
  refine gx_ti (y := nI (onN u (nI 1) P)) hf ?_
  refine g_aload_n (pc := 4) C dX6_allOver_4 rfl ?_
  refine cf_X6_40 (pc := 5) C (by exact occ.1) (zk (by exact occ.2)) (c_X0_everybody _ _ _ c ca cg cl ce P u hc) ⟨rfl, rfl⟩ ⟨rfl, rfl⟩ ⟨Nat.zero_le _, Nat.zero_le _⟩ rfl (Nat.le_of_ble_eq_true rfl) dX6_allOver_5 ?_
  refine g_icmp_ne (pc := 8) C 15 dX6_allOver_8 rfl (fun c1 => ?_) (fun c1 => ?_)
  · refine g_iconst (pc := 15) (v := nI 0) C dX6_allOver_15 (by decide) ?_
    exact g_zreturn (pc := 16) C ⟨rfl, rfl⟩ (by first | exact Or.inl rfl | exact Or.inr rfl) dX6_allOver_16 (pI_f (fun q => c1 (hov.mpr q)))
  · refine g_iconst (pc := 11) (v := nI 1) C dX6_allOver_11 (by decide) ?_
    refine g_goto (pc := 12) C 16 dX6_allOver_12 rfl ?_
    exact g_zreturn (pc := 16) C ⟨rfl, rfl⟩ (by first | exact Or.inl rfl | exact Or.inr rfl) dX6_allOver_16 (pI_t (hov.mp (Decidable.not_not.mp c1)))
/-! AIMS and twos, one by one -/
def fwF (u : Nat → Int32) (s P : Nat) : Nat → Int32
  | 0 => nI 0
  | n + 1 => if s.testBit n = true then fwF u s P n + (u (14 + n) + exF u n (s &&& (2 ^ n - 1)) P) else fwF u s P n
theorem low_nI : ∀ s, s < 128 → ∀ p, p < 7 → nI s &&& ((nI 1 <<< (nI p &&& 31)) - nI 1) = nI (s &&& (2 ^ p - 1)) := by decide +kernel
theorem c_X6_fullWeight (w : Wd) (l : Launch) (S : St) (c ca cg cl ce r ra P : Nat) (u : Nat → Int32) (hc : crS S c ca cg cl ce P u) (h : rvS S r ra P u) (s : Nat) (hs : s < 128) : gx_M w l yX6_fullWeight cX6_fullWeight 6 (some .int) rmX6_fullWeight [.ref (ad (w_b w) r), .ref (ad (w_b w) c), .int (nI s)] S (pI (fwF u s P P) S) := by
  obtain ⟨⟨oc, rr, oa⟩, ⟨-, -, -, -, -, hA⟩, -⟩ := h
  have occ := hc.1.1
  have hP := hc.2.1.2.2.2.2.1
  have hP7 := hc.2.2
  refine gx_start rfl 3 rfl (Nat.le_of_ble_eq_true rfl) ?_
  intro X C _ hl
  subst hl
  refine gx_L (L' := [_, _, _, _, _, _]) rfl ?_
  refine g_iconst (pc := 0) (v := nI 0) C dX6_fullWeight_0 (by decide) ?_
  refine g_istore_n (pc := 1) (L' := [_, _, some (.int _), _, _, _]) C dX6_fullWeight_1 rfl rfl ?_
  refine g_iconst (pc := 2) (v := nI 0) C dX6_fullWeight_2 (by decide) ?_
  refine g_istore (pc := 3) (L' := [_, _, _, some (.int _), _, _]) C dX6_fullWeight_3 rfl rfl ?_
  have loop : ∀ d n z, n + d = P → gx_G w X S 0 0 5 [some (.ref (ad (w_b w) r)), some (.ref (ad (w_b w) c)), some (.int (nI s)), some (.int (fwF u s P n)), some (.int (nI n)), z] [] (gx_E w X (pI (fwF u s P P) S)) := by
    intro d
    induction d with
    | zero =>
      intro n z hn
      have hn : n = P := hn
      subst hn
      refine g_iload (pc := 5) C dX6_fullWeight_5 rfl ?_
      refine g_aload_n (pc := 7) C dX6_fullWeight_7 rfl ?_
      refine fg_X6_48 (pc := 8) C (by exact occ.1) (zk (by exact occ.2)) dX6_fullWeight_8 ?_
      refine gx_ti (y := nI n) hP ?_
      refine g_icmp_ge (pc := 11) C 59 dX6_fullWeight_11 rfl (fun c1 => ?_) (fun c1 => ?_)
      · refine g_iload_n (pc := 59) C dX6_fullWeight_59 rfl ?_
        exact g_ireturn (pc := 60) C ⟨rfl, rfl⟩ dX6_fullWeight_60 ⟨rfl, rfl⟩
      · exact absurd (nI_le (Nat.le_refl n) (by omega)) c1
    | succ d ih =>
      intro n z hn
      refine g_iload (pc := 5) C dX6_fullWeight_5 rfl ?_
      refine g_aload_n (pc := 7) C dX6_fullWeight_7 rfl ?_
      refine fg_X6_48 (pc := 8) C (by exact occ.1) (zk (by exact occ.2)) dX6_fullWeight_8 ?_
      refine gx_ti (y := nI P) hP ?_
      refine g_icmp_ge (pc := 11) C 59 dX6_fullWeight_11 rfl (fun c1 => ?_) (fun c1 => ?_)
      · exact absurd c1 (nI_ge (by omega) (by omega))
      · refine g_iload_n (pc := 14) C dX6_fullWeight_14 rfl ?_
        refine g_iload (pc := 15) C dX6_fullWeight_15 rfl ?_
        refine g_ishr (pc := 17) C dX6_fullWeight_17 ?_
        refine g_iconst (pc := 18) (v := nI 1) C dX6_fullWeight_18 (by decide) ?_
        refine g_iand (pc := 19) C dX6_fullWeight_19 ?_
        refine g_iconst (pc := 20) (v := nI 1) C dX6_fullWeight_20 (by decide) ?_
        refine g_icmp_ne (pc := 21) C 53 dX6_fullWeight_21 rfl (fun c2 => ?_) (fun c2 => ?_)
        · have c2 : ¬ s.testBit n = true := fun q => c2 ((isOf_nI s hs n (by omega)).mpr q)
          refine g_iinc (pc := 53) (L' := [_, _, _, some (.int _), _, _]) C dX6_fullWeight_53 rfl (nI_1 _) rfl ?_
          refine g_goto (pc := 56) C 5 dX6_fullWeight_56 rfl ?_
          refine gx_L ?_ (ih (n + 1) z (by omega))
          simp [fwF, c2]
        · have c2 : s.testBit n = true := (isOf_nI s hs n (by omega)).mp (Decidable.not_not.mp c2)
          refine g_iload_n (pc := 24) C dX6_fullWeight_24 rfl ?_
          refine g_iconst (pc := 25) (v := nI 1) C dX6_fullWeight_25 (by decide) ?_
          refine g_iload (pc := 26) C dX6_fullWeight_26 rfl ?_
          refine g_ishl (pc := 28) C dX6_fullWeight_28 ?_
          refine g_iconst (pc := 29) (v := nI 1) C dX6_fullWeight_29 (by decide) ?_
          refine g_isub (pc := 30) C dX6_fullWeight_30 ?_
          refine g_iand (pc := 31) C dX6_fullWeight_31 ?_
          refine gx_ti (y := nI (s &&& (2 ^ n - 1))) (low_nI s hs n (by omega)) ?_
          refine g_istore (pc := 32) (L' := [_, _, _, _, some (.int _), _]) C dX6_fullWeight_32 rfl rfl ?_
          refine g_iload_n (pc := 34) C dX6_fullWeight_34 rfl ?_
          refine g_aload_n (pc := 35) C dX6_fullWeight_35 rfl ?_
          refine fgr_X6_9 (pc := 36) C (by exact oc.1) (zk (by exact oc.2)) (by exact rr) dX6_fullWeight_36 ?_
          refine g_iload (pc := 39) C dX6_fullWeight_39 rfl ?_
          refine n_iald (pc := 41) (n := 7) C (by exact oa.1) (by exact oa.2.1) (zk (by exact oa.2.2)) isn_v rfl (by omega) dX6_fullWeight_41 ?_
          refine gx_ti (y := u (14 + n)) (hA n (by omega)) ?_
          refine g_aload_n (pc := 42) C dX6_fullWeight_42 rfl ?_
          refine g_iload (pc := 43) C dX6_fullWeight_43 rfl ?_
          refine g_iload (pc := 45) C dX6_fullWeight_45 rfl ?_
          refine cf_X6_51 (pc := 47) C (by exact occ.1) (zk (by exact occ.2)) (c_X0_extraAmong _ _ _ c ca cg cl ce P u hc n (s &&& (2 ^ n - 1)) (by omega) (Nat.lt_of_le_of_lt Nat.and_le_left hs)) ⟨rfl, rfl⟩ ⟨rfl, rfl⟩ ⟨Nat.zero_le _, Nat.zero_le _⟩ rfl (Nat.le_of_ble_eq_true rfl) dX6_fullWeight_47 ?_
          refine g_iadd (pc := 50) C dX6_fullWeight_50 ?_
          refine g_iadd (pc := 51) C dX6_fullWeight_51 ?_
          refine g_istore_n (pc := 52) (L' := [_, _, some (.int _), _, _, _]) C dX6_fullWeight_52 rfl rfl ?_
          refine g_iinc (pc := 53) (L' := [_, _, _, some (.int _), _, _]) C dX6_fullWeight_53 rfl (nI_1 _) rfl ?_
          refine g_goto (pc := 56) C 5 dX6_fullWeight_56 rfl ?_
          refine gx_L ?_ (ih (n + 1) (some (.int (nI (s &&& (2 ^ n - 1))))) (by omega))
          simp [fwF, c2]
  exact loop P 0 _ (by omega)
theorem ex_low {u : Nat → Int32} {p s : Nat} : ∀ {n : Nat}, p ≤ n → exF u p (s &&& (2 ^ p - 1)) n = exF u p s p := by
  have bit : ∀ q, (s &&& (2 ^ p - 1)).testBit q = (s.testBit q && decide (q < p)) := by
    intro q
    rw [Nat.testBit_and, Nat.testBit_two_pow_sub_one]
  have low : ∀ m, m ≤ p → exF u p (s &&& (2 ^ p - 1)) m = exF u p s m := by
    intro m
    induction m with
    | zero => intro _; rfl
    | succ m ih =>
      intro hm
      simp only [exF, bit m, ih (by omega), show m < p by omega, decide_true, Bool.and_true]
  intro n
  induction n with
  | zero => intro h; have : p = 0 := by omega
            subst this; rfl
  | succ n ih =>
    intro h
    by_cases e : p = n + 1
    · subst e; exact low (n + 1) (Nat.le_refl _)
    · simp only [exF, bit n, show ¬ n < p by omega, decide_false, Bool.and_false]
      exact ih (by omega)
/-- the twos of n with those ahead -/
def colF (u : Nat → Int32) (s n : Nat) : Nat → Int32
  | 0 => nI 0
  | i + 1 => colF u s n i + (if s.testBit i = true ∧ s.testBit n = true then u (49 + 7 * i + n) else nI 0)
theorem tw_step {u : Nat → Int32} {s P : Nat} : ∀ a, a ≤ P → twosF u s (P + 1) a = twosF u s P a + colF u s P a
  | 0, _ => by simp [twosF, colF, nI_0]
  | a + 1, h => by
    have ih := tw_step (u := u) (s := s) (P := P) a (by omega)
    have e1 : P + 1 - (a + 1) = (P - (a + 1)) + 1 := by omega
    have e2 : a + 1 + (P - (a + 1)) = P := by omega
    simp only [twosF, colF, ih, e1, twosI, e2]
    simp only [Int32.add_assoc]
    congr 1
    rw [← Int32.add_assoc, ← Int32.add_assoc, Int32.add_comm (colF u s P a)]
theorem col_no {u : Nat → Int32} {s n : Nat} (h : ¬ s.testBit n = true) : ∀ i, colF u s n i = nI 0
  | 0 => rfl
  | i + 1 => by simp [colF, col_no h i, h, nI_0]
theorem col_ex {u : Nat → Int32} {s n : Nat} (h : s.testBit n = true) : ∀ i, (∀ j, j < i → u (49 + 7 * j + n) = u (49 + 7 * n + j)) → colF u s n i = exF u n s i
  | 0, _ => rfl
  | i + 1, hy => by
    have ih := col_ex (u := u) h i (fun j hj => hy j (by omega))
    simp only [colF, exF, ih, h, and_true, hy i (by omega)]
    split
    · rfl
    · rw [nI_0, Int32.add_zero]
/-- of two what they weigh more, either way round -/
def symU (P : Nat) (u : Nat → Int32) : Prop := ∀ p, p < P → ∀ q, q < P → u (49 + 7 * p + q) = u (49 + 7 * q + p)
theorem fw_eq {u : Nat → Int32} {s P : Nat} (hy : symU P u) : ∀ n, n ≤ P → fwF u s P n = aimsF u s False n + twosF u s n n
  | 0, _ => by simp [fwF, aimsF, twosF, nI_0]
  | n + 1, h => by
    have ih := fw_eq (s := s) hy n (by omega)
    have e1 := tw_step (u := u) (s := s) (P := n) n (Nat.le_refl n)
    have e2 : twosF u s (n + 1) (n + 1) = twosF u s (n + 1) n := by
      show twosF u s (n + 1) n + twosI u s n (n + 1 - (n + 1)) = _
      rw [Nat.sub_self]
      show _ + nI 0 = _
      rw [nI_0, Int32.add_zero]
    rw [e2, e1]
    by_cases hb : s.testBit n = true
    · rw [col_ex hb n (fun j hj => hy j (by omega) n (by omega))]
      simp only [fwF, aimsF, hb, if_true, if_false, ih, ex_low (show n ≤ P by omega)]
      simp only [Int32.add_assoc]
      congr 1
      rw [← Int32.add_assoc, ← Int32.add_assoc, Int32.add_comm (twosF u s n n)]
    · rw [col_no hb n, nI_0, Int32.add_zero]
      simp only [fwF, aimsF, hb, if_false, ih]
      simp
theorem c_X6_weigh (w : Wd) (l : Launch) (S : St) (c ca cg cl ce r ra P : Nat) (u : Nat → Int32) (hc : crS S c ca cg cl ce P u) (h : rvS S r ra P u) (hy : symU P u) (s : Nat) (hs : s < 128) (fog : Prop) [Decidable fog] : gx_M w l yX6_weigh cX6_weigh 4 (some .int) rmX6_weigh [.ref (ad (w_b w) r), .ref (ad (w_b w) c), .int (nI s), .int (bI fog)] S (pI (weightF u P fog s False) S) := by
  have oc := h.1.1
  have occ := hc.1.1
  have hb := h.2.1.2.1
  refine gx_start rfl 0 rfl (Nat.le_of_ble_eq_true rfl) ?_
  intro X C _ hl
  subst hl
  refine gx_L (L' := [_, _, _, _]) rfl ?_
  refine g_aload_n (pc := 0) C dX6_weigh_0 rfl ?_
  refine g_aload_n (pc := 1) C dX6_weigh_1 rfl ?_
  refine g_aload_n (pc := 2) C dX6_weigh_2 rfl ?_
  refine g_iload_n (pc := 3) C dX6_weigh_3 rfl ?_
  refine cf_X6_55 (pc := 4) C (by exact oc.1) (zk (by exact oc.2)) (c_X6_fullWeight _ _ _ c ca cg cl ce r ra P u hc h s hs) ⟨rfl, rfl⟩ ⟨rfl, rfl⟩ ⟨Nat.zero_le _, Nat.zero_le _⟩ rfl (Nat.le_of_ble_eq_true rfl) dX6_weigh_4 ?_
  refine g_aload_n (pc := 7) C dX6_weigh_7 rfl ?_
  refine g_iload_n (pc := 8) C dX6_weigh_8 rfl ?_
  refine cf_X6_59 (pc := 9) C (by exact occ.1) (zk (by exact occ.2)) (c_X0_lightOf _ _ _ c ca cg cl ce P u hc s hs) ⟨rfl, rfl⟩ ⟨rfl, rfl⟩ ⟨Nat.zero_le _, Nat.zero_le _⟩ rfl (Nat.le_of_ble_eq_true rfl) dX6_weigh_9 ?_
  refine g_aload_n (pc := 12) C dX6_weigh_12 rfl ?_
  refine fg_X6_19 (pc := 13) C (by exact oc.1) (zk (by exact oc.2)) dX6_weigh_13 ?_
  refine gx_ti (y := u 11) hb ?_
  refine g_iload_n (pc := 16) C dX6_weigh_16 rfl ?_
  refine cf_X6_63 (pc := 17) C (by exact occ.1) (zk (by exact occ.2)) (c_X0_burden _ _ _ c ca cg cl ce P u hc _ _ _ fog) ⟨rfl, rfl⟩ ⟨rfl, rfl⟩ ⟨Nat.zero_le _, Nat.zero_le _⟩ rfl (Nat.le_of_ble_eq_true rfl) dX6_weigh_17 ?_
  exact g_ireturn (pc := 20) C ⟨rfl, rfl⟩ dX6_weigh_20 ⟨by unfold weightF; rw [weigh_bdn, fw_eq hy P (Nat.le_refl P)], rfl⟩
/-- of whatever int: whether it is a set that CAN BOARD -/
abbrev cbP (u : Nat → Int32) (P : Nat) (fog : Prop) [Decidable fog] (x : Int32) : Prop := hereP u P x ∧ canBF u P fog x.toBitVec.toNat
theorem c_X6_canBoard (w : Wd) (l : Launch) (S : St) (c ca cg cl ce r ra P : Nat) (u : Nat → Int32) (hc : crS S c ca cg cl ce P u) (h : rvS S r ra P u) (hy : symU P u) (x : Int32) (fog : Prop) [Decidable fog] : gx_M w l yX6_canBoard cX6_canBoard 4 (some .boolean) rmX6_canBoard [.ref (ad (w_b w) r), .ref (ad (w_b w) c), .int x, .int (bI fog)] S (pI (bI (cbP u P fog x)) S) := by
  have oc := h.1.1
  have occ := hc.1.1
  have h1 := hc.2.1.2.1
  have h2 := hc.2.1.2.2.1
  have ho : onN u (u 11) P < 128 := onN_128 hc.2.2
  refine gx_start rfl 0 rfl (Nat.le_of_ble_eq_true rfl) ?_
  intro X C _ hl
  subst hl
  refine gx_L (L' := [_, _, _, _]) rfl ?_
  refine g_aload_n (pc := 0) C dX6_canBoard_0 rfl ?_
  refine g_aload_n (pc := 1) C dX6_canBoard_1 rfl ?_
  refine g_iload_n (pc := 2) C dX6_canBoard_2 rfl ?_
  refine cf_X6_67 (pc := 3) C (by exact oc.1) (zk (by exact oc.2)) (c_X6_areHere _ _ _ c ca cg cl ce r ra P u hc h x) ⟨rfl, rfl⟩ ⟨rfl, rfl⟩ ⟨Nat.zero_le _, Nat.zero_le _⟩ rfl (Nat.le_of_ble_eq_true rfl) dX6_canBoard_3 ?_
  refine g_if_eq (pc := 6) C 38 dX6_canBoard_6 rfl (fun c1 => ?_) (fun c1 => ?_)
  · refine g_iconst (pc := 38) (v := nI 0) C dX6_canBoard_38 (by decide) ?_
    exact g_zreturn (pc := 39) C ⟨rfl, rfl⟩ (by first | exact Or.inl rfl | exact Or.inr rfl) dX6_canBoard_39 (pI_f (fun q => bI_0.mp c1 q.1))
  · have c1 : hereP u P x := Decidable.not_not.mp (fun q => c1 (bI_0.mpr q))
    obtain ⟨s, hs, rfl, hsub⟩ := (sub_all ho).mp c1
    have e : (nI s).toBitVec.toNat = s := pk_tn (by omega)
    unfold cbP
    rw [e]
    refine g_iload_n (pc := 9) C dX6_canBoard_9 rfl ?_
    refine cf_X6_71 (pc := 10) C (c_bitCount _ _ _ s hs) ⟨rfl, rfl⟩ ⟨rfl, rfl⟩ ⟨Nat.zero_le _, Nat.zero_le _⟩ rfl (Nat.le_of_ble_eq_true rfl) dX6_canBoard_10 ?_
    refine g_aload_n (pc := 13) C dX6_canBoard_13 rfl ?_
    refine fg_X6_76 (pc := 14) C (by exact occ.1) (zk (by exact occ.2)) dX6_canBoard_14 ?_
    refine gx_ti (y := u 2) h2 ?_
    refine g_icmp_gt (pc := 17) C 38 dX6_canBoard_17 rfl (fun c2 => ?_) (fun c2 => ?_)
    · refine g_iconst (pc := 38) (v := nI 0) C dX6_canBoard_38 (by decide) ?_
      exact g_zreturn (pc := 39) C ⟨rfl, rfl⟩ (by first | exact Or.inl rfl | exact Or.inr rfl) dX6_canBoard_39 (pI_f (fun q => absurd q.2.2.1 (Int32.not_le.mpr c2)))
    · refine g_aload_n (pc := 20) C dX6_canBoard_20 rfl ?_
      refine g_aload_n (pc := 21) C dX6_canBoard_21 rfl ?_
      refine g_iload_n (pc := 22) C dX6_canBoard_22 rfl ?_
      refine g_iload_n (pc := 23) C dX6_canBoard_23 rfl ?_
      refine cf_X6_79 (pc := 24) C (by exact oc.1) (zk (by exact oc.2)) (c_X6_weigh _ _ _ c ca cg cl ce r ra P u hc h hy s hs fog) ⟨rfl, rfl⟩ ⟨rfl, rfl⟩ ⟨Nat.zero_le _, Nat.zero_le _⟩ rfl (Nat.le_of_ble_eq_true rfl) dX6_canBoard_24 ?_
      refine g_aload_n (pc := 27) C dX6_canBoard_27 rfl ?_
      refine fg_X6_83 (pc := 28) C (by exact occ.1) (zk (by exact occ.2)) dX6_canBoard_28 ?_
      refine gx_ti (y := u 1) h1 ?_
      refine g_icmp_gt (pc := 31) C 38 dX6_canBoard_31 rfl (fun c3 => ?_) (fun c3 => ?_)
      · refine g_iconst (pc := 38) (v := nI 0) C dX6_canBoard_38 (by decide) ?_
        exact g_zreturn (pc := 39) C ⟨rfl, rfl⟩ (by first | exact Or.inl rfl | exact Or.inr rfl) dX6_canBoard_39 (pI_f (fun q => absurd q.2.2.2 (Int32.not_le.mpr c3)))
      · refine g_iconst (pc := 34) (v := nI 1) C dX6_canBoard_34 (by decide) ?_
        refine g_goto (pc := 35) C 39 dX6_canBoard_35 rfl ?_
        exact g_zreturn (pc := 39) C ⟨rfl, rfl⟩ (by first | exact Or.inl rfl | exact Or.inr rfl) dX6_canBoard_39 (pI_t ⟨c1, hsub, Int32.not_lt.mp c2, Int32.not_lt.mp c3⟩)
