/-! ===== the reference's texts: clauseHere, readsAll, rule ===== -/
def clsR (T : Nat → Int32) (L n m c : Nat) : RB := if wdP T L (skN T L n) 422775452260 then (if c = 12 then .error (ftN 4 (skN T L n)) else bdF T L (skN T L n) m) else .error (ftN 0 (skN T L n))
def rdR (T : Nat → Int32) (L : Nat) : Nat → Nat → Nat → List CL → Except Nat (List CL)
  | 0, _, _, _ => .error 0
  | d + 1, n, m, cs => match clsR T L n m cs.length with
    | .error f => .error f
    | .ok (n', m', q) => if seeV T L (skN T L n') = nI 59 then rdR T L d (skN T L n' + 1) m' (cs ++ [q]) else if seeV T L (skN T L n') = -1 then .ok (cs ++ [q]) else .error (ftN 0 (skN T L n'))
def clsC (T : Nat → Int32) (L n c P : Nat) (D : Nat → Int32) : RC := if fwP T L (skN T L n) then (if c = 40 then .error (ftN 4 (skN T L n)) else lineF T L (skN T L n) P D) else .error (ftN 0 (skN T L n))
def rdC (T : Nat → Int32) (L : Nat) : Nat → Nat → Nat → Nat → (Nat → Int32) → Except Nat (Nat × (Nat → Int32))
  | 0, _, _, _, _ => .error 0
  | d + 1, n, c, P, D => match clsC T L n c P D with
    | .error f => .error f
    | .ok (n', P', D') => if seeV T L (skN T L n') = nI 59 then rdC T L d (skN T L n' + 1) (c + 1) P' D' else if seeV T L (skN T L n') = -1 then .ok (P', D') else .error (ftN 0 (skN T L n'))
theorem clsR_ok {T : Nat → Int32} {L : Nat} (hL : L ≤ 400) {n m c : Nat} (hn : n ≤ L) (hm : m ≤ 60) (hc : c ≤ 12) : match clsR T L n m c with
    | .error f => 0 < f ∧ f ≤ 8 * L + 8
    | .ok (n', m', q) => n < n' ∧ n' ≤ L ∧ m' ≤ 60 ∧ n + (clT q).length ≤ n' ∧ c < 12 := by
  have h1 := sk_ge (T := T) (L := L) (n := n)
  have h2 := sk_L (T := T) hn
  unfold clsR
  by_cases e : wdP T L (skN T L n) 422775452260
  · rw [if_pos e]
    by_cases e2 : c = 12
    · rw [if_pos e2]; exact ⟨by unfold ftN; omega, by unfold ftN; omega⟩
    · rw [if_neg e2]
      have := bd_ok (T := T) hL h2 hm
      generalize bdF T L (skN T L n) m = u at this
      cases u with
      | error f => exact this
      | ok p => exact ⟨by have := this.1; omega, this.2.1, this.2.2.1, by have := this.2.2.2; omega, by omega⟩
  · rw [if_neg e]; exact ⟨by unfold ftN; omega, by unfold ftN; omega⟩
def okC (L q : Nat) (r : RC) : Prop := match r with
  | .error f => 0 < f ∧ f ≤ 8 * L + 8
  | .ok (n', P', _) => q < n' ∧ n' ≤ L ∧ P' ≤ 7
theorem okC_ite {L q : Nat} {c : Prop} [Decidable c] {r1 r2 : RC} (h1 : c → okC L q r1) (h2 : ¬ c → okC L q r2) : okC L q (if c then r1 else r2) := by
  by_cases h : c
  · rw [if_pos h]; exact h1 h
  · rw [if_neg h]; exact h2 h
theorem okC_ft {L q k : Nat} (hk : k < 5) (hq : q ≤ L) : okC L q (.error (ftN k q)) := ⟨by unfold ftN; omega, by unfold ftN; omega⟩
theorem line_ok {T : Nat → Int32} {L : Nat} {q P : Nat} {D : Nat → Int32} (hn : q ≤ L) (hP : P ≤ 7) : okC L q (lineF T L q P D) := by
  have h0 := lt_le (T := T) hn
  have key : ∀ (P : Nat) (lo hi : Int32) (c n : Nat) (D : Nat → Int32), n ≤ L → match cellF T L P lo hi c n D with
      | .error f => 0 < f ∧ f ≤ 8 * L + 8
      | .ok (n', P', _) => n < n' ∧ n' ≤ L := by
    intro P lo hi c n D hn
    generalize hu : cellF T L P lo hi c n D = u
    cases u with
    | error f => exact cell_err hu hn
    | ok p => exact ⟨(cell_ok hu hn).1, (cell_ok hu hn).2.1⟩
  have keyN : ∀ (lo hi : Int32) (n : Nat), n ≤ L → match numF T L n lo hi with
      | .error f => 0 < f ∧ f ≤ 8 * L + 8
      | .ok (n', _) => n < n' ∧ n' ≤ L := by
    intro lo hi n hn
    generalize hu : numF T L n lo hi = u
    cases u with
    | error f => exact num_err hu hn
    | ok p => exact ⟨(num_ok hu hn).1, (num_ok hu hn).2.1⟩
  unfold lineF
  refine okC_ite (fun _ => ?_) (fun _ => ?_)
  · unfold boatF
    refine okC_ite (fun _ => ?_) (fun _ => ?_)
    · exact okC_ft (by omega) hn
    · have k1 := key P (nI 0) (nI 99) 1 (ltN T L q) D h0.2
      generalize cellF T L P (nI 0) (nI 99) 1 (ltN T L q) D = u at k1
      cases u with
      | error f => exact k1
      | ok p =>
        obtain ⟨n1, P1, D1⟩ := p
        have k2 := key P (nI 1) (nI 7) 2 n1 D1 k1.2
        show okC L q (match cellF T L P (nI 1) (nI 7) 2 n1 D1 with
          | .error f => .error f
          | .ok (n2, _, D2) => match cellF T L P (nI 0) (nI 20) 3 n2 D2 with
            | .error f => .error f
            | .ok (n3, _, D3) => .ok (n3, P, upd D3 0 (nI 1)))
        generalize cellF T L P (nI 1) (nI 7) 2 n1 D1 = u at k2
        cases u with
        | error f => exact k2
        | ok p =>
          obtain ⟨n2, P2, D2⟩ := p
          have k3 := key P (nI 0) (nI 20) 3 n2 D2 k2.2
          show okC L q (match cellF T L P (nI 0) (nI 20) 3 n2 D2 with
            | .error f => .error f
            | .ok (n3, _, D3) => .ok (n3, P, upd D3 0 (nI 1)))
          generalize cellF T L P (nI 0) (nI 20) 3 n2 D2 = u at k3
          cases u with
          | error f => exact k3
          | ok p =>
            obtain ⟨n3, P3, D3⟩ := p
            have := k1.1; have := k2.1; have := k3.1
            exact ⟨by omega, k3.2, hP⟩
  · refine okC_ite (fun _ => ?_) (fun _ => ?_)
    · exact okC_ft (by omega) hn
    · refine okC_ite (fun _ => ?_) (fun _ => ?_)
      · unfold persF
        refine okC_ite (fun _ => ?_) (fun hP7 => ?_)
        · exact okC_ft (by omega) hn
        · have k1 := key P (nI 0) (nI 40) (42 + P) (ltN T L q) D h0.2
          generalize cellF T L P (nI 0) (nI 40) (42 + P) (ltN T L q) D = u at k1
          cases u with
          | error f => exact k1
          | ok p =>
            obtain ⟨n1, P1, D1⟩ := p
            have k2 := key P (nI 0) (nI 9) (28 + P) n1 D1 k1.2
            show okC L q (match cellF T L P (nI 0) (nI 9) (28 + P) n1 D1 with
              | .error f => .error f
              | .ok (n2, _, D2) => .ok (n2, P + 1, upd D2 4 (nI (P + 1))))
            generalize cellF T L P (nI 0) (nI 9) (28 + P) n1 D1 = u at k2
            cases u with
            | error f => exact k2
            | ok p =>
              obtain ⟨n2, P2, D2⟩ := p
              have := k1.1; have := k2.1
              exact ⟨by omega, k2.2, by omega⟩
      · refine okC_ite (fun _ => ?_) (fun _ => ?_)
        · unfold corkF
          refine okC_ite (fun _ => ?_) (fun hP7 => ?_)
          · exact okC_ft (by omega) hn
          · have k1 := key P (nI 1) (nI 20) (35 + P) (ltN T L q) D h0.2
            generalize cellF T L P (nI 1) (nI 20) (35 + P) (ltN T L q) D = u at k1
            cases u with
            | error f => exact k1
            | ok p =>
              obtain ⟨n1, P1, D1⟩ := p
              have := k1.1
              exact ⟨by omega, k1.2, by omega⟩
        · refine okC_ite (fun _ => ?_) (fun _ => ?_)
          · unfold besF
            have k1 := keyN (nI 0) (nI P - nI 1) (ltN T L q) h0.2
            generalize numF T L (ltN T L q) (nI 0) (nI P - nI 1) = u at k1
            cases u with
            | error f => exact k1
            | ok p =>
              obtain ⟨n1, x⟩ := p
              have k2 := keyN (nI 0) (nI P - nI 1) n1 k1.2
              have hs := sk_L (T := T) k1.2
              show okC L q (match numF T L n1 (nI 0) (nI P - nI 1) with
                | .error f => .error f
                | .ok (n2, y) => if x = y then .error (ftN 1 (skN T L n1)) else match numF T L n2 (nI 0) (nI 9) with
                  | .error f => .error f
                  | .ok (n3, z) => .ok (n3, P, upd (upd D (49 + 7 * x.toNatClampNeg + y.toNatClampNeg) z) (49 + 7 * y.toNatClampNeg + x.toNatClampNeg) z))
              generalize numF T L n1 (nI 0) (nI P - nI 1) = u at k2
              cases u with
              | error f => exact k2
              | ok p =>
                obtain ⟨n2, y⟩ := p
                have k3 := keyN (nI 0) (nI 9) n2 k2.2
                show okC L q (if x = y then .error (ftN 1 (skN T L n1)) else match numF T L n2 (nI 0) (nI 9) with
                    | .error f => .error f
                    | .ok (n3, z) => .ok (n3, P, upd (upd D (49 + 7 * x.toNatClampNeg + y.toNatClampNeg) z) (49 + 7 * y.toNatClampNeg + x.toNatClampNeg) z))
                by_cases exy : x = y
                · rw [if_pos exy]; exact ⟨by unfold ftN; omega, by unfold ftN; omega⟩
                · rw [if_neg exy]
                  generalize numF T L n2 (nI 0) (nI 9) = u at k3
                  cases u with
                  | error f => exact k3
                  | ok p =>
                    obtain ⟨n3, z⟩ := p
                    have := k1.1; have := k2.1; have := k3.1
                    exact ⟨by omega, k3.2, hP⟩
          · unfold fgF
            have k1 := keyN (nI 0) (nI 60) (ltN T L q) h0.2
            generalize numF T L (ltN T L q) (nI 0) (nI 60) = u at k1
            cases u with
            | error f => exact k1
            | ok p =>
              obtain ⟨n1, x⟩ := p
              have := k1.1
              exact ⟨by omega, k1.2, hP⟩
theorem clsC_ok {T : Nat → Int32} {L : Nat} {n c P : Nat} {D : Nat → Int32} (hn : n ≤ L) (hP : P ≤ 7) : match clsC T L n c P D with
    | .error f => 0 < f ∧ f ≤ 8 * L + 8
    | .ok (n', P', _) => n < n' ∧ n' ≤ L ∧ P' ≤ 7 ∧ c ≠ 40 := by
  have h1 := sk_ge (T := T) (L := L) (n := n)
  have h2 := sk_L (T := T) hn
  unfold clsC
  by_cases e : fwP T L (skN T L n)
  · rw [if_pos e]
    by_cases e2 : c = 40
    · rw [if_pos e2]; exact ⟨by unfold ftN; omega, by unfold ftN; omega⟩
    · rw [if_neg e2]
      have := line_ok (T := T) (D := D) h2 hP
      generalize lineF T L (skN T L n) P D = u at this
      cases u with
      | error f => exact this
      | ok p => exact ⟨by have := this.1; omega, this.2.1, this.2.2, e2⟩
  · rw [if_neg e]; exact ⟨by unfold ftN; omega, by unfold ftN; omega⟩
abbrev l7 : List Nat := [1108, 1109, 1110, 1112, 1113, 1114, 1116]
def tcs (t : Nat) (i : Nat → Int32) (a : Nat → Nat → Int32) (n m : Nat) (cs : List CL) : Prop := tx t i a n m (flC cs) ∧ i 1114 = nI cs.length ∧ a 1005 t = nI cs.length ∧ rlC (a 1004) t 0 0 cs
def pxK (S : St) (t : Nat) (i : Nat → Int32) (a : Nat → Nat → Int32) (cs : List CL) (r : RB) : Option Value → St → Prop := fun v S' => ∃ i' a', S' = rdS S i' a' ∧ fxI l7 i i' ∧ fxR t a a' ∧ match r with
  | .error f => v = some (.int (nI 0)) ∧ i' 1109 = nI f
  | .ok (n', m', q) => v = some (.int (nI 1)) ∧ tcs t i' a' n' m' (cs ++ [q])
theorem c_X12_clauseR (w : Wd) (l : Launch) (S : St) (L : Nat) (hx : gx_x S L) (t : Nat) (ht6 : t < 6) (i : Nat → Int32) (a : Nat → Nat → Int32) (n m : Nat) (cs : List CL) (h : tcs t i a n m cs) (hn : n ≤ L) (ho : (flC cs).length ≤ n) (h60 : m ≤ 60) (hc12 : cs.length ≤ 12) : gx_M w l yX12_clauseHere cX12_clauseHere 3 (some .boolean) rmX12_clauseHere [.ref (ad (w_b w) 1000)] (rdS S i a) (pxK S t i a cs (clsR (s_A S 1001) L n m cs.length)) := by
  have hL : L ≤ 400 := hx.2.1.2
  have hmA : ∀ i a, gx_m (rdS S i a) := fun i a => hx.1
  obtain ⟨h, hc1, hc2, hr⟩ := h
  have hq1 := sk_ge (T := s_A S 1001) (L := L) (n := n)
  have hq2 := sk_L (T := s_A S 1001) hn
  have hqe : skN (s_A S 1001) L (skN (s_A S 1001) L n) = skN (s_A S 1001) L n := skN_idem
  generalize hres : clsR (s_A S 1001) L n m cs.length = res
  unfold clsR at hres
  refine gx_start rfl 2 rfl (Nat.le_of_ble_eq_true rfl) ?_
  intro X C _ hl
  subst hl
  refine gx_L (L' := [_, _, _]) rfl ?_
  refine g_aload_n (pc := 0) C dX12_clauseHere_0 rfl ?_
  refine cf_X12_105 (pc := 1) C rfl (m_z (hmA _ _) rfl) (r_see _ _ S L hx i a n h.1 (by omega)) ⟨rfl, rfl⟩ ⟨rfl, rfl⟩ ⟨Nat.zero_le _, Nat.zero_le _⟩ rfl (Nat.le_of_ble_eq_true rfl) dX12_clauseHere_1 ?_
  refine g_pop (pc := 4) C dX12_clauseHere_4 rfl ?_
  generalize hq : skN (s_A S 1001) L n = q at *
  have h1 : tx t (u1 i 1108 (nI q)) a q m (flC cs) := tx_u h rfl rfl rfl h.2.2.2.1
  have f1 : fxI l7 i (u1 i 1108 (nI q)) := fxI.u (by decide)
  have e1 : (u1 i 1108 (nI q)) 1114 = nI cs.length := hc1
  generalize u1 i 1108 (nI q) = i1 at h1 f1 e1
  refine g_aload_n (pc := 5) C dX12_clauseHere_5 rfl ?_
  refine mg_102 (pc := 6) C (hmA _ _) dX12_clauseHere_6 ?_
  refine gx_ti (y := nI q) h1.1 ?_
  refine g_istore_n (pc := 9) (L' := [some (.ref _), _, _]) C dX12_clauseHere_9 rfl rfl ?_
  refine g_aload_n (pc := 10) C dX12_clauseHere_10 rfl ?_
  refine mg_158 (pc := 11) C (hmA _ _) dX12_clauseHere_11 ?_
  refine gx_ti (y := nI t) h1.2.2.1 ?_
  refine g_bipush (pc := 14) (v := nI 6) C dX12_clauseHere_14 (by decide) ?_
  refine g_icmp_ne (pc := 16) C 23 dX12_clauseHere_16 rfl (fun c0 => ?_) (fun c0 => ?_)
  · refine g_iconst (pc := 23) (v := nI 0) C dX12_clauseHere_23 (by decide) ?_
    refine g_istore_n (pc := 24) (L' := [_, some (.int _), _]) C dX12_clauseHere_24 rfl rfl ?_
    refine g_iload_n (pc := 25) C dX12_clauseHere_25 rfl ?_
    refine g_if_eq (pc := 26) C 39 dX12_clauseHere_26 rfl (fun c1 => ?_) (fun c1 => ?_)
    · refine g_aload_n (pc := 39) C dX12_clauseHere_39 rfl ?_
      refine g_ldc2 (pc := 40) (v := 422775452260) C dX12_clauseHere_40 kl_X12_256 ?_
      refine cf_X12_113 (pc := 43) C rfl (m_z (hmA _ _) rfl) (r_wordM _ _ S L hx i1 a q h1.1 (by omega) hqe _) ⟨rfl, rfl⟩ ⟨rfl, rfl⟩ ⟨Nat.zero_le _, Nat.zero_le _⟩ rfl (Nat.le_of_ble_eq_true rfl) dX12_clauseHere_43 ?_
      refine g_if_ne (pc := 46) C 56 dX12_clauseHere_46 rfl (fun c2 => ?_) (fun c2 => ?_)
      · have c2 := Decidable.not_not.mp (fun q => c2 (bI_0.mpr q))
        rw [if_pos c2] at hres
        refine g_aload_n (pc := 56) C dX12_clauseHere_56 rfl ?_
        refine mg_258 (pc := 57) C (hmA _ _) dX12_clauseHere_57 ?_
        refine gx_ti (y := nI cs.length) e1 ?_
        refine g_iload_n (pc := 60) C dX12_clauseHere_60 rfl ?_
        refine g_if_eq (pc := 61) C 69 dX12_clauseHere_61 rfl (fun c3 => ?_) (fun c3 => ?_)
        · refine g_bipush (pc := 69) (v := nI 12) C dX12_clauseHere_69 (by decide) ?_
          refine g_icmp_ne (pc := 71) C 81 dX12_clauseHere_71 rfl (fun c4 => ?_) (fun c4 => ?_)
          · have c4 : ¬ cs.length = 12 := fun q => c4 (by rw [q])
            rw [if_neg c4] at hres
            refine g_aload_n (pc := 81) C dX12_clauseHere_81 rfl ?_
            refine g_dup (pc := 82) C dX12_clauseHere_82 rfl ?_
            refine mg_258 (pc := 83) C (hmA _ _) dX12_clauseHere_83 ?_
            refine gx_ti (y := nI cs.length) e1 ?_
            refine g_iconst (pc := 86) (v := nI 1) C dX12_clauseHere_86 (by decide) ?_
            refine g_iadd (pc := 87) C dX12_clauseHere_87 ?_
            refine gx_ti (y := nI (cs.length + 1)) (nI_add cs.length 1) ?_
            refine mp_258 (pc := 88) C (hmA _ _) dX12_clauseHere_88 ?_
            refine gx_S (S' := rdS S (u1 i1 1114 (nI (cs.length + 1))) a) (rd_I S i1 a 1114 _ (by omega)) ?_
            have h2 : tx t (u1 i1 1114 (nI (cs.length + 1))) a q m (flC cs) := tx_u h1 h1.1 rfl rfl h1.2.2.2.1
            have f2 : fxI l7 i (u1 i1 1114 (nI (cs.length + 1))) := f1.trans (fxI.u (by decide))
            have e2 : (u1 i1 1114 (nI (cs.length + 1))) 1114 = nI (cs.length + 1) := rfl
            generalize u1 i1 1114 (nI (cs.length + 1)) = i2 at h2 f2 e2
            refine g_iload_n (pc := 91) C dX12_clauseHere_91 rfl ?_
            refine g_if_eq (pc := 92) C 103 dX12_clauseHere_92 rfl (fun c5 => ?_) (fun c5 => ?_)
            · refine g_aload_n (pc := 103) C dX12_clauseHere_103 rfl ?_
              refine cg_X12_264 (pc := 104) C rfl (m_z (hmA _ _) rfl) (c_X12_isBoardHere _ _ S L hx t ht6 i2 a q m cs h2 hq2 (by omega) h60 (by omega) hc2 hr) ⟨rfl, rfl⟩ ⟨Nat.zero_le _, Nat.zero_le _⟩ rfl (Nat.le_of_ble_eq_true rfl) dX12_clauseHere_104 ?_
              rintro _ _ ⟨i3, a3, rfl, f3, g3, r3⟩
              generalize bdF (s_A S 1001) L q m = u at hres r3
              subst hres
              cases u with
              | error f =>
                obtain ⟨rfl, r3⟩ := r3
                exact g_zreturn (pc := 107) C ⟨rfl, rfl⟩ (by first | exact Or.inl rfl | exact Or.inr rfl) dX12_clauseHere_107 ⟨i3, a3, rfl, f2.trans (f3.sub (by decide)), g3, rfl, r3⟩
              | ok p =>
                obtain ⟨rfl, r3, r4, r5⟩ := r3
                have hl : (cs ++ [p.2.2]).length = cs.length + 1 := List.length_append
                exact g_zreturn (pc := 107) C ⟨rfl, rfl⟩ (by first | exact Or.inl rfl | exact Or.inr rfl) dX12_clauseHere_107 ⟨i3, a3, rfl, f2.trans (f3.sub (by decide)), g3, rfl, r3, by rw [hl]; exact (f3 1114 (by decide)).trans e2, by rw [hl]; exact r4, r5⟩
            · exact absurd rfl c5
          · have c4 : cs.length = 12 := (nI_eq (by omega) (by omega)).mp (Decidable.not_not.mp c4)
            rw [if_pos c4] at hres
            subst hres
            refine g_aload_n (pc := 74) C dX12_clauseHere_74 rfl ?_
            refine g_iconst (pc := 75) (v := nI 4) C dX12_clauseHere_75 (by decide) ?_
            refine g_iload_n (pc := 76) C dX12_clauseHere_76 rfl ?_
            refine cf_X12_123 (pc := 77) C rfl (m_z (hmA _ _) rfl) (r_fails _ _ S L hx i1 a h1.2.1 4 q) ⟨rfl, rfl⟩ ⟨rfl, rfl⟩ ⟨Nat.zero_le _, Nat.zero_le _⟩ rfl (Nat.le_of_ble_eq_true rfl) dX12_clauseHere_77 ?_
            exact g_zreturn (pc := 80) C ⟨rfl, rfl⟩ (by first | exact Or.inl rfl | exact Or.inr rfl) dX12_clauseHere_80 ⟨_, a, rfl, f1.trans (fxI.u (by decide)), fxR.refl, rfl, rfl⟩
        · exact absurd rfl c3
      · have c2 := bI_0.mp (Decidable.not_not.mp c2)
        rw [if_neg c2] at hres
        subst hres
        refine g_aload_n (pc := 49) C dX12_clauseHere_49 rfl ?_
        refine g_iconst (pc := 50) (v := nI 0) C dX12_clauseHere_50 (by decide) ?_
        refine g_iload_n (pc := 51) C dX12_clauseHere_51 rfl ?_
        refine cf_X12_123 (pc := 52) C rfl (m_z (hmA _ _) rfl) (r_fails _ _ S L hx i1 a h1.2.1 0 q) ⟨rfl, rfl⟩ ⟨rfl, rfl⟩ ⟨Nat.zero_le _, Nat.zero_le _⟩ rfl (Nat.le_of_ble_eq_true rfl) dX12_clauseHere_52 ?_
        exact g_zreturn (pc := 55) C ⟨rfl, rfl⟩ (by first | exact Or.inl rfl | exact Or.inr rfl) dX12_clauseHere_55 ⟨_, a, rfl, f1.trans (fxI.u (by decide)), fxR.refl, rfl, rfl⟩
    · exact absurd rfl c1
  · exact absurd ((nI_eq (by omega) (by omega)).mp (Decidable.not_not.mp c0)) (by omega)
def dxs (i : Nat → Int32) (a : Nat → Nat → Int32) (n c P : Nat) (D : Nat → Int32) : Prop := dx i a n P D ∧ i 1114 = nI c ∧ i 1111 = nI 6
def fxC (a a' : Nat → Nat → Int32) : Prop := ∀ k, k ≠ 1006 → k ≠ 1003 → a' k = a k
def pxC (S : St) (i : Nat → Int32) (a : Nat → Nat → Int32) (c : Nat) (r : RC) : Option Value → St → Prop := fun v S' => ∃ i' a', S' = rdS S i' a' ∧ fxI l7 i i' ∧ fxD a a' ∧ match r with
  | .error f => v = some (.int (nI 0)) ∧ i' 1109 = nI f
  | .ok (n', P', D') => v = some (.int (nI 1)) ∧ dxs i' a' n' (c + 1) P' D'
theorem c_X12_clauseC (w : Wd) (l : Launch) (S : St) (L : Nat) (hx : gx_x S L) (i : Nat → Int32) (a : Nat → Nat → Int32) (n c P : Nat) (D : Nat → Int32) (h : dxs i a n c P D) (hn : n ≤ L) (hc40 : c ≤ 40) : gx_M w l yX12_clauseHere cX12_clauseHere 3 (some .boolean) rmX12_clauseHere [.ref (ad (w_b w) 1000)] (rdS S i a) (pxC S i a c (clsC (s_A S 1001) L n c P D)) := by
  have hL : L ≤ 400 := hx.2.1.2
  have hmA : ∀ i a, gx_m (rdS S i a) := fun i a => hx.1
  obtain ⟨h, hc1, hc2⟩ := h
  have hq1 := sk_ge (T := s_A S 1001) (L := L) (n := n)
  have hq2 := sk_L (T := s_A S 1001) hn
  have hqe : skN (s_A S 1001) L (skN (s_A S 1001) L n) = skN (s_A S 1001) L n := skN_idem
  generalize hres : clsC (s_A S 1001) L n c P D = res
  unfold clsC at hres
  refine gx_start rfl 2 rfl (Nat.le_of_ble_eq_true rfl) ?_
  intro X C _ hl
  subst hl
  refine gx_L (L' := [_, _, _]) rfl ?_
  refine g_aload_n (pc := 0) C dX12_clauseHere_0 rfl ?_
  refine cf_X12_105 (pc := 1) C rfl (m_z (hmA _ _) rfl) (r_see _ _ S L hx i a n h.1 (by omega)) ⟨rfl, rfl⟩ ⟨rfl, rfl⟩ ⟨Nat.zero_le _, Nat.zero_le _⟩ rfl (Nat.le_of_ble_eq_true rfl) dX12_clauseHere_1 ?_
  refine g_pop (pc := 4) C dX12_clauseHere_4 rfl ?_
  generalize hq : skN (s_A S 1001) L n = q at *
  have h1 : dx (u1 i 1108 (nI q)) a q P D := ⟨rfl, h.2.1, h.2.2⟩
  have f1 : fxI l7 i (u1 i 1108 (nI q)) := fxI.u (by decide)
  have e1 : (u1 i 1108 (nI q)) 1114 = nI c := hc1
  have t1 : (u1 i 1108 (nI q)) 1111 = nI 6 := hc2
  generalize u1 i 1108 (nI q) = i1 at h1 f1 e1 t1
  refine g_aload_n (pc := 5) C dX12_clauseHere_5 rfl ?_
  refine mg_102 (pc := 6) C (hmA _ _) dX12_clauseHere_6 ?_
  refine gx_ti (y := nI q) h1.1 ?_
  refine g_istore_n (pc := 9) (L' := [some (.ref _), _, _]) C dX12_clauseHere_9 rfl rfl ?_
  refine g_aload_n (pc := 10) C dX12_clauseHere_10 rfl ?_
  refine mg_158 (pc := 11) C (hmA _ _) dX12_clauseHere_11 ?_
  refine gx_ti (y := nI 6) t1 ?_
  refine g_bipush (pc := 14) (v := nI 6) C dX12_clauseHere_14 (by decide) ?_
  refine g_icmp_ne (pc := 16) C 23 dX12_clauseHere_16 rfl (fun c0 => ?_) (fun c0 => ?_)
  · exact absurd rfl c0
  · refine g_iconst (pc := 19) (v := nI 1) C dX12_clauseHere_19 (by decide) ?_
    refine g_goto (pc := 20) C 24 dX12_clauseHere_20 rfl ?_
    refine g_istore_n (pc := 24) (L' := [_, some (.int _), _]) C dX12_clauseHere_24 rfl rfl ?_
    refine g_iload_n (pc := 25) C dX12_clauseHere_25 rfl ?_
    refine g_if_eq (pc := 26) C 39 dX12_clauseHere_26 rfl (fun c1 => ?_) (fun c1 => ?_)
    · exact absurd c1 (by decide)
    · refine g_aload_n (pc := 29) C dX12_clauseHere_29 rfl ?_
      refine cf_X12_253 (pc := 30) C rfl (m_z (hmA _ _) rfl) (c_X12_isFerryWord _ _ S L hx i1 a q h1.1 hq2 hqe) ⟨rfl, rfl⟩ ⟨rfl, rfl⟩ ⟨Nat.zero_le _, Nat.zero_le _⟩ rfl (Nat.le_of_ble_eq_true rfl) dX12_clauseHere_30 ?_
      refine g_if_ne (pc := 33) C 56 dX12_clauseHere_33 rfl (fun c2 => ?_) (fun c2 => ?_)
      · have c2 := Decidable.not_not.mp (fun q => c2 (bI_0.mpr q))
        rw [if_pos c2] at hres
        refine g_aload_n (pc := 56) C dX12_clauseHere_56 rfl ?_
        refine mg_258 (pc := 57) C (hmA _ _) dX12_clauseHere_57 ?_
        refine gx_ti (y := nI c) e1 ?_
        refine g_iload_n (pc := 60) C dX12_clauseHere_60 rfl ?_
        refine g_if_eq (pc := 61) C 69 dX12_clauseHere_61 rfl (fun c3 => ?_) (fun c3 => ?_)
        · exact absurd c3 (by decide)
        · refine g_bipush (pc := 64) (v := nI 40) C dX12_clauseHere_64 (by decide) ?_
          refine g_goto (pc := 66) C 71 dX12_clauseHere_66 rfl ?_
          refine g_icmp_ne (pc := 71) C 81 dX12_clauseHere_71 rfl (fun c4 => ?_) (fun c4 => ?_)
          · have c4 : ¬ c = 40 := fun q => c4 (by rw [q])
            rw [if_neg c4] at hres
            refine g_aload_n (pc := 81) C dX12_clauseHere_81 rfl ?_
            refine g_dup (pc := 82) C dX12_clauseHere_82 rfl ?_
            refine mg_258 (pc := 83) C (hmA _ _) dX12_clauseHere_83 ?_
            refine gx_ti (y := nI c) e1 ?_
            refine g_iconst (pc := 86) (v := nI 1) C dX12_clauseHere_86 (by decide) ?_
            refine g_iadd (pc := 87) C dX12_clauseHere_87 ?_
            refine gx_ti (y := nI (c + 1)) (nI_add c 1) ?_
            refine mp_258 (pc := 88) C (hmA _ _) dX12_clauseHere_88 ?_
            refine gx_S (S' := rdS S (u1 i1 1114 (nI (c + 1))) a) (rd_I S i1 a 1114 _ (by omega)) ?_
            have h2 : dx (u1 i1 1114 (nI (c + 1))) a q P D := ⟨h1.1, h1.2.1, h1.2.2⟩
            have f2 : fxI l7 i (u1 i1 1114 (nI (c + 1))) := f1.trans (fxI.u (by decide))
            have e2 : (u1 i1 1114 (nI (c + 1))) 1114 = nI (c + 1) := rfl
            have t2 : (u1 i1 1114 (nI (c + 1))) 1111 = nI 6 := t1
            generalize u1 i1 1114 (nI (c + 1)) = i2 at h2 f2 e2 t2
            refine g_iload_n (pc := 91) C dX12_clauseHere_91 rfl ?_
            refine g_if_eq (pc := 92) C 103 dX12_clauseHere_92 rfl (fun c5 => ?_) (fun c5 => ?_)
            · exact absurd c5 (by decide)
            · refine g_aload_n (pc := 95) C dX12_clauseHere_95 rfl ?_
              refine g_iload_n (pc := 96) C dX12_clauseHere_96 rfl ?_
              refine cg_X12_261 (pc := 97) C rfl (m_z (hmA _ _) rfl) (c_X12_ferryLineHere _ _ S L hx i2 a q P D h2 hq2 hqe) ⟨rfl, rfl⟩ ⟨Nat.zero_le _, Nat.zero_le _⟩ rfl (Nat.le_of_ble_eq_true rfl) dX12_clauseHere_97 ?_
              rintro _ _ ⟨i3, a3, rfl, f3, g3, r3⟩
              generalize lineF (s_A S 1001) L q P D = u at hres r3
              subst hres
              cases u with
              | error f =>
                obtain ⟨rfl, r3⟩ := r3
                refine g_goto (pc := 100) C 107 dX12_clauseHere_100 rfl ?_
                exact g_zreturn (pc := 107) C ⟨rfl, rfl⟩ (by first | exact Or.inl rfl | exact Or.inr rfl) dX12_clauseHere_107 ⟨i3, a3, rfl, f2.trans (f3.sub (by decide)), g3, rfl, r3⟩
              | ok p =>
                obtain ⟨rfl, r3⟩ := r3
                refine g_goto (pc := 100) C 107 dX12_clauseHere_100 rfl ?_
                exact g_zreturn (pc := 107) C ⟨rfl, rfl⟩ (by first | exact Or.inl rfl | exact Or.inr rfl) dX12_clauseHere_107 ⟨i3, a3, rfl, f2.trans (f3.sub (by decide)), g3, rfl, r3, (f3 1114 (by decide)).trans e2, (f3 1111 (by decide)).trans t2⟩
          · have c4 : c = 40 := (nI_eq (by omega) (by omega)).mp (Decidable.not_not.mp c4)
            rw [if_pos c4] at hres
            subst hres
            refine g_aload_n (pc := 74) C dX12_clauseHere_74 rfl ?_
            refine g_iconst (pc := 75) (v := nI 4) C dX12_clauseHere_75 (by decide) ?_
            refine g_iload_n (pc := 76) C dX12_clauseHere_76 rfl ?_
            refine cf_X12_123 (pc := 77) C rfl (m_z (hmA _ _) rfl) (r_fails _ _ S L hx i1 a h1.2.1 4 q) ⟨rfl, rfl⟩ ⟨rfl, rfl⟩ ⟨Nat.zero_le _, Nat.zero_le _⟩ rfl (Nat.le_of_ble_eq_true rfl) dX12_clauseHere_77 ?_
            exact g_zreturn (pc := 80) C ⟨rfl, rfl⟩ (by first | exact Or.inl rfl | exact Or.inr rfl) dX12_clauseHere_80 ⟨_, a, rfl, f1.trans (fxI.u (by decide)), fxD.refl, rfl, rfl⟩
      · have c2 := bI_0.mp (Decidable.not_not.mp c2)
        rw [if_neg c2] at hres
        subst hres
        refine g_goto (pc := 36) C 49 dX12_clauseHere_36 rfl ?_
        refine g_aload_n (pc := 49) C dX12_clauseHere_49 rfl ?_
        refine g_iconst (pc := 50) (v := nI 0) C dX12_clauseHere_50 (by decide) ?_
        refine g_iload_n (pc := 51) C dX12_clauseHere_51 rfl ?_
        refine cf_X12_123 (pc := 52) C rfl (m_z (hmA _ _) rfl) (r_fails _ _ S L hx i1 a h1.2.1 0 q) ⟨rfl, rfl⟩ ⟨rfl, rfl⟩ ⟨Nat.zero_le _, Nat.zero_le _⟩ rfl (Nat.le_of_ble_eq_true rfl) dX12_clauseHere_52 ?_
        exact g_zreturn (pc := 55) C ⟨rfl, rfl⟩ (by first | exact Or.inl rfl | exact Or.inr rfl) dX12_clauseHere_55 ⟨_, a, rfl, f1.trans (fxI.u (by decide)), fxD.refl, rfl, rfl⟩
