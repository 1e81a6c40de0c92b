/-! ===== the reference's texts: CLAUSES of a CROSSING ===== -/
abbrev RC : Type := Except Nat (Nat × Nat × (Nat → Int32))
def cellF (T : Nat → Int32) (L : Nat) (P : Nat) (lo hi : Int32) (c : Nat) (n : Nat) (D : Nat → Int32) : RC := match numF T L n lo hi with
  | .error f => .error f
  | .ok (n', x) => .ok (n', P, upd D c x)
def boatF (T : Nat → Int32) (L q P : Nat) (D : Nat → Int32) : RC := if 0 < D 0 then .error (ftN 4 q) else match cellF T L P (nI 0) (nI 99) 1 (ltN T L q) D with
  | .error f => .error f
  | .ok (n1, _, D1) => match cellF T L P (nI 1) (nI 7) 2 n1 D1 with
    | .error f => .error f
    | .ok (n2, _, D2) => match cellF T L P (nI 0) (nI 20) 3 n2 D2 with
      | .error f => .error f
      | .ok (n3, _, D3) => .ok (n3, P, upd D3 0 (nI 1))
def corkF (T : Nat → Int32) (L q P : Nat) (D : Nat → Int32) : RC := if P = 7 then .error (ftN 4 q) else match cellF T L P (nI 1) (nI 20) (35 + P) (ltN T L q) D with
  | .error f => .error f
  | .ok (n1, _, D1) => .ok (n1, P + 1, upd D1 4 (nI (P + 1)))
def persF (T : Nat → Int32) (L q P : Nat) (D : Nat → Int32) : RC := if P = 7 then .error (ftN 4 q) else match cellF T L P (nI 0) (nI 40) (42 + P) (ltN T L q) D with
  | .error f => .error f
  | .ok (n1, _, D1) => match cellF T L P (nI 0) (nI 9) (28 + P) n1 D1 with
    | .error f => .error f
    | .ok (n2, _, D2) => .ok (n2, P + 1, upd D2 4 (nI (P + 1)))
def besF (T : Nat → Int32) (L q P : Nat) (D : Nat → Int32) : RC := match numF T L (ltN T L q) (nI 0) (nI P - nI 1) with
  | .error f => .error f
  | .ok (n1, x) => match numF T L n1 (nI 0) (nI P - nI 1) with
    | .error f => .error f
    | .ok (n2, y) => if x = y then .error (ftN 1 (skN T L n1)) else match numF T L n2 (nI 0) (nI 9) with
      | .error f => .error f
      | .ok (n3, z) => .ok (n3, P, upd (upd D (49 + 7 * x.toNatClampNeg + y.toNatClampNeg) z) (49 + 7 * y.toNatClampNeg + x.toNatClampNeg) z)
def fgF (T : Nat → Int32) (L q P : Nat) (D : Nat → Int32) : RC := match numF T L (ltN T L q) (nI 0) (nI 60) with
  | .error f => .error f
  | .ok (n1, x) => .ok (n1, P, upd D (98 + x.toNatClampNeg) (nI 1))
/-- one CLAUSE, q its first byte -/
def lineF (T : Nat → Int32) (L q P : Nat) (D : Nat → Int32) : RC := if wdP T L q 439788663417 then boatF T L q P D
  else if D 0 = 0 then .error (ftN 4 q)
  else if wdP T L q 123581014175598 then persF T L q P D
  else if wdP T L q 1668248171 then corkF T L q P D
  else if wdP T L q 108187867505765 then besF T L q P D else fgF T L q P D
abbrev l3 : List Nat := [1108, 1109, 1110]
def fxD (a a' : Nat → Nat → Int32) : Prop := ∀ k, k ≠ 1006 → a' k = a k
theorem fxD.refl {a : Nat → Nat → Int32} : fxD a a := fun _ _ => rfl
theorem fxD.trans {a b c : Nat → Nat → Int32} (h1 : fxD a b) (h2 : fxD b c) : fxD a c := fun k e => (h2 k e).trans (h1 k e)
theorem fxD_u {a : Nat → Nat → Int32} {g : Nat → Int32} : fxD a (u1 a 1006 g) := fun k e => if_neg e
def dx (i : Nat → Int32) (a : Nat → Nat → Int32) (n P : Nat) (D : Nat → Int32) : Prop := i 1108 = nI n ∧ i 1109 = 0 ∧ a 1006 = D ∧ D 4 = nI P ∧ P ≤ 7
def pxD (S : St) (i : Nat → Int32) (a : Nat → Nat → Int32) (r : RC) : Option Value → St → Prop := fun v S' => ∃ i' a', S' = rdS S i' a' ∧ fxI l3 i i' ∧ fxD a a' ∧ match r with
  | .error f => v = some (.int (nI 0)) ∧ i' 1109 = nI f
  | .ok (n', P', D') => v = some (.int (nI 1)) ∧ dx i' a' n' P' D'
theorem cell_ok {T : Nat → Int32} {L P : Nat} {lo hi : Int32} {c n n' P' : Nat} {D D' : Nat → Int32} (h : cellF T L P lo hi c n D = .ok (n', P', D')) (hn : n ≤ L) : n < n' ∧ n' ≤ L ∧ P' = P ∧ ∃ x, D' = upd D c x ∧ lo ≤ x ∧ x ≤ hi := by
  unfold cellF at h
  generalize hu : numF T L n lo hi = u at h
  cases u with
  | error f => cases h
  | ok p =>
    obtain ⟨n1, x⟩ := p
    obtain ⟨b1, b2, b3, b4⟩ := num_ok hu hn
    cases h
    exact ⟨b1, b2, rfl, x, rfl, b3, b4⟩
theorem cell_err {T : Nat → Int32} {L P : Nat} {lo hi : Int32} {c n f : Nat} {D : Nat → Int32} (h : cellF T L P lo hi c n D = .error f) (hn : n ≤ L) : 0 < f ∧ f ≤ 8 * L + 8 := by
  unfold cellF at h
  generalize hu : numF T L n lo hi = u at h
  cases u with
  | error f => cases h; exact num_err hu hn
  | ok p => cases h
theorem c_X12_cellHere (w : Wd) (l : Launch) (S : St) (L : Nat) (hx : gx_x S L) (i : Nat → Int32) (a : Nat → Nat → Int32) (n P : Nat) (D : Nat → Int32) (h : dx i a n P D) (hn : n ≤ L) (c : Nat) (hc : c < 159) (hc4 : c ≠ 4) (lo hi : Int32) : gx_M w l yX12_cellHere cX12_cellHere 4 (some .boolean) rmX12_cellHere [.ref (ad (w_b w) 1000), .int (nI c), .int lo, .int hi] (rdS S i a) (fun v S' => pxD S i a (cellF (s_A S 1001) L P lo hi c n D) v S' ∧ ∀ i' a', S' = rdS S i' a' → v = some (.int (nI 1)) → i' 1110 = a' 1006 c) := by
  have hL : L ≤ 400 := hx.2.1.2
  have hmA : ∀ i a, gx_m (rdS S i a) := fun i a => hx.1
  refine gx_start rfl 0 rfl (Nat.le_of_ble_eq_true rfl) ?_
  intro X C _ hl
  subst hl
  refine gx_L (L' := [_, _, _, _]) rfl ?_
  unfold cellF
  refine g_aload_n (pc := 0) C dX12_cellHere_0 rfl ?_
  refine g_iload_n (pc := 1) C dX12_cellHere_1 rfl ?_
  refine g_iload_n (pc := 2) C dX12_cellHere_2 rfl ?_
  refine cg_X12_179 (pc := 3) C rfl (m_z (hmA _ _) rfl) (r_number _ _ S L hx i a h.2.1 n h.1 (by omega) lo hi) ⟨rfl, rfl⟩ ⟨Nat.zero_le _, Nat.zero_le _⟩ rfl (Nat.le_of_ble_eq_true rfl) dX12_cellHere_3 ?_
  rintro _ _ ⟨i1, rfl, f1, r1⟩
  generalize numF (s_A S 1001) L n lo hi = u at r1 ⊢
  cases u with
  | error f =>
    obtain ⟨rfl, r1⟩ := r1
    refine g_if_ne (pc := 6) C 11 dX12_cellHere_6 rfl (fun c1 => ?_) (fun c1 => ?_)
    · exact absurd rfl c1
    · refine g_iconst (pc := 9) (v := nI 0) C dX12_cellHere_9 (by decide) ?_
      exact g_zreturn (pc := 10) C ⟨rfl, rfl⟩ (by first | exact Or.inl rfl | exact Or.inr rfl) dX12_cellHere_10 ⟨⟨i1, a, rfl, f1, fxD.refl, rfl, r1⟩, fun _ _ _ q => absurd q (by decide)⟩
  | ok p =>
    obtain ⟨n', x⟩ := p
    obtain ⟨rfl, g1, g2, g3⟩ := r1
    refine g_if_ne (pc := 6) C 11 dX12_cellHere_6 rfl (fun c1 => ?_) (fun c1 => ?_)
    · refine g_aload_n (pc := 11) C dX12_cellHere_11 rfl ?_
      refine mg_26 (pc := 12) C (hmA _ _) dX12_cellHere_12 ?_
      refine g_iload_n (pc := 15) C dX12_cellHere_15 rfl ?_
      refine g_aload_n (pc := 16) C dX12_cellHere_16 rfl ?_
      refine mg_127 (pc := 17) C (hmA _ _) dX12_cellHere_17 ?_
      refine gx_ti (y := x) g3 ?_
      refine n_iast (pc := 20) (k := 1006) (n := 159) C rfl rfl (m_z (hmA _ _) rfl) isn_v rfl (by omega) dX12_cellHere_20 ?_
      refine gx_S (S' := rdS S i1 (u1 a 1006 (upd (a 1006) c x))) (rd_A S i1 a 1006 _ (by omega)) ?_
      refine g_iconst (pc := 21) (v := nI 1) C dX12_cellHere_21 (by decide) ?_
      exact g_zreturn (pc := 22) C ⟨rfl, rfl⟩ (by first | exact Or.inl rfl | exact Or.inr rfl) dX12_cellHere_22 ⟨⟨i1, _, rfl, f1, fxD_u, rfl, g1, g2, by rw [← h.2.2.1]; rfl, by rw [pk_un (fun q => hc4 q.symm)]; exact h.2.2.2.1, h.2.2.2.2⟩, fun i' a' e _ => by
        have e1 : s_I (rdS S i1 (u1 a 1006 (upd (a 1006) c x))) 1110 1000 = s_I (rdS S i' a') 1110 1000 := by rw [e]
        have e2 : s_A (rdS S i1 (u1 a 1006 (upd (a 1006) c x))) 1006 c = s_A (rdS S i' a') 1006 c := by rw [e]
        have e1 : i1 1110 = i' 1110 := e1
        have e2 : upd (a 1006) c x c = a' 1006 c := e2
        rw [← e1, ← e2, pk_us, g3]⟩
    · exact absurd (fun q => absurd q (by decide)) c1
theorem c_X12_isFerryHere (w : Wd) (l : Launch) (S : St) (L : Nat) (hx : gx_x S L) (i : Nat → Int32) (a : Nat → Nat → Int32) (n P : Nat) (D : Nat → Int32) (h : dx i a n P D) (hn : n ≤ L) : gx_M w l yX12_isFerryHere cX12_isFerryHere 2 (some .boolean) rmX12_isFerryHere [.ref (ad (w_b w) 1000), .int (nI n)] (rdS S i a) (pxD S i a (boatF (s_A S 1001) L n P D)) := by
  have hL : L ≤ 400 := hx.2.1.2
  have hmA : ∀ i a, gx_m (rdS S i a) := fun i a => hx.1
  have h0 := lt_le (T := s_A S 1001) hn
  generalize hr : boatF (s_A S 1001) L n P D = r
  unfold boatF at hr
  refine gx_start rfl 0 rfl (Nat.le_of_ble_eq_true rfl) ?_
  intro X C _ hl
  subst hl
  refine gx_L (L' := [_, _]) rfl ?_
  refine g_aload_n (pc := 0) C dX12_isFerryHere_0 rfl ?_
  refine mg_26 (pc := 1) C (hmA _ _) dX12_isFerryHere_1 ?_
  refine g_iconst (pc := 4) (v := nI 0) C dX12_isFerryHere_4 (by decide) ?_
  refine n_iald (pc := 5) (k := 1006) (n := 159) C rfl rfl (m_z (hmA _ _) rfl) isn_v rfl (by omega) dX12_isFerryHere_5 ?_
  refine gx_ti (y := D 0) (congrFun h.2.2.1 0) ?_
  refine g_if_le (pc := 6) C 16 dX12_isFerryHere_6 rfl (fun c1 => ?_) (fun c1 => ?_)
  · rw [if_neg (Int32.not_lt.mpr c1)] at hr
    refine g_aload_n (pc := 16) C dX12_isFerryHere_16 rfl ?_
    refine cf_X12_117 (pc := 17) C rfl (m_z (hmA _ _) rfl) (r_pass _ _ S L hx i a n h.1 (by omega)) ⟨rfl, rfl⟩ ⟨rfl, rfl⟩ ⟨Nat.zero_le _, Nat.zero_le _⟩ rfl (Nat.le_of_ble_eq_true rfl) dX12_isFerryHere_17 ?_
    refine g_aload_n (pc := 20) C dX12_isFerryHere_20 rfl ?_
    refine g_iconst (pc := 21) (v := nI 1) C dX12_isFerryHere_21 (by decide) ?_
    refine g_iconst (pc := 22) (v := nI 0) C dX12_isFerryHere_22 (by decide) ?_
    refine g_bipush (pc := 23) (v := nI 99) C dX12_isFerryHere_23 (by decide) ?_
    generalize ltN (s_A S 1001) L n = n0 at *
    have h1 : dx (u1 i 1108 (nI n0)) a n0 P D := ⟨rfl, h.2.1, h.2.2⟩
    have f1 : fxI l3 i (u1 i 1108 (nI n0)) := fxI.u (by decide)
    generalize u1 i 1108 (nI n0) = i1 at h1 f1
    refine cg_X12_230 (pc := 25) C rfl (m_z (hmA _ _) rfl) (c_X12_cellHere _ _ S L hx i1 a n0 P D h1 h0.2 1 (by omega) (by omega) (nI 0) (nI 99)) ⟨rfl, rfl⟩ ⟨Nat.zero_le _, Nat.zero_le _⟩ rfl (Nat.le_of_ble_eq_true rfl) dX12_isFerryHere_25 ?_
    rintro _ _ ⟨⟨i2, a2, rfl, f2, g2, r2⟩, -⟩
    generalize hu : cellF (s_A S 1001) L P (nI 0) (nI 99) 1 n0 D = u at hr r2
    cases u with
    | error f =>
      obtain ⟨rfl, r2⟩ := r2
      have hr : Except.error f = r := hr
      subst hr
      refine g_if_eq (pc := 28) C 53 dX12_isFerryHere_28 rfl (fun c2 => ?_) (fun c2 => ?_)
      · refine g_iconst (pc := 53) (v := nI 0) C dX12_isFerryHere_53 (by decide) ?_
        exact g_zreturn (pc := 54) C ⟨rfl, rfl⟩ (by first | exact Or.inl rfl | exact Or.inr rfl) dX12_isFerryHere_54 ⟨i2, a2, rfl, f1.trans f2, g2, rfl, r2⟩
      · exact absurd rfl c2
    | ok p =>
      obtain ⟨n1, P1, D1⟩ := p
      obtain ⟨rfl, h2⟩ := r2
      obtain ⟨b1, b2, rfl, -⟩ := cell_ok hu h0.2
      refine g_if_eq (pc := 28) C 53 dX12_isFerryHere_28 rfl (fun c2 => ?_) (fun c2 => ?_)
      · exact absurd c2 (by decide)
      · refine g_aload_n (pc := 31) C dX12_isFerryHere_31 rfl ?_
        refine g_iconst (pc := 32) (v := nI 2) C dX12_isFerryHere_32 (by decide) ?_
        refine g_iconst (pc := 33) (v := nI 1) C dX12_isFerryHere_33 (by decide) ?_
        refine g_bipush (pc := 34) (v := nI 7) C dX12_isFerryHere_34 (by decide) ?_
        refine cg_X12_230 (pc := 36) C rfl (m_z (hmA _ _) rfl) (c_X12_cellHere _ _ S L hx i2 a2 n1 P1 D1 h2 b2 2 (by omega) (by omega) (nI 1) (nI 7)) ⟨rfl, rfl⟩ ⟨Nat.zero_le _, Nat.zero_le _⟩ rfl (Nat.le_of_ble_eq_true rfl) dX12_isFerryHere_36 ?_
        rintro _ _ ⟨⟨i3, a3, rfl, f3, g3, r3⟩, -⟩
        have hr : (match cellF (s_A S 1001) L P1 (nI 1) (nI 7) 2 n1 D1 with
          | .error f => .error f
          | .ok (n2, _, D2) => match cellF (s_A S 1001) L P1 (nI 0) (nI 20) 3 n2 D2 with
            | .error f => .error f
            | .ok (n3, _, D3) => .ok (n3, P1, upd D3 0 (nI 1))) = r := hr
        generalize hu2 : cellF (s_A S 1001) L P1 (nI 1) (nI 7) 2 n1 D1 = u at hr r3
        cases u with
        | error f =>
          obtain ⟨rfl, r3⟩ := r3
          have hr : Except.error f = r := hr
          subst hr
          refine g_if_eq (pc := 39) C 53 dX12_isFerryHere_39 rfl (fun c3 => ?_) (fun c3 => ?_)
          · refine g_iconst (pc := 53) (v := nI 0) C dX12_isFerryHere_53 (by decide) ?_
            exact g_zreturn (pc := 54) C ⟨rfl, rfl⟩ (by first | exact Or.inl rfl | exact Or.inr rfl) dX12_isFerryHere_54 ⟨i3, a3, rfl, (f1.trans f2).trans f3, g2.trans g3, rfl, r3⟩
          · exact absurd rfl c3
        | ok p =>
          obtain ⟨n2, P2, D2⟩ := p
          obtain ⟨rfl, h3⟩ := r3
          obtain ⟨b3, b4, rfl, -⟩ := cell_ok hu2 b2
          refine g_if_eq (pc := 39) C 53 dX12_isFerryHere_39 rfl (fun c3 => ?_) (fun c3 => ?_)
          · exact absurd c3 (by decide)
          · refine g_aload_n (pc := 42) C dX12_isFerryHere_42 rfl ?_
            refine g_iconst (pc := 43) (v := nI 3) C dX12_isFerryHere_43 (by decide) ?_
            refine g_iconst (pc := 44) (v := nI 0) C dX12_isFerryHere_44 (by decide) ?_
            refine g_bipush (pc := 45) (v := nI 20) C dX12_isFerryHere_45 (by decide) ?_
            refine cg_X12_230 (pc := 47) C rfl (m_z (hmA _ _) rfl) (c_X12_cellHere _ _ S L hx i3 a3 n2 P2 D2 h3 b4 3 (by omega) (by omega) (nI 0) (nI 20)) ⟨rfl, rfl⟩ ⟨Nat.zero_le _, Nat.zero_le _⟩ rfl (Nat.le_of_ble_eq_true rfl) dX12_isFerryHere_47 ?_
            rintro _ _ ⟨⟨i4, a4, rfl, f4, g4, r4⟩, -⟩
            have hr : (match cellF (s_A S 1001) L P2 (nI 0) (nI 20) 3 n2 D2 with
              | .error f => .error f
              | .ok (n3, _, D3) => .ok (n3, P2, upd D3 0 (nI 1))) = r := hr
            generalize hu3 : cellF (s_A S 1001) L P2 (nI 0) (nI 20) 3 n2 D2 = u at hr r4
            cases u with
            | error f =>
              obtain ⟨rfl, r4⟩ := r4
              have hr : Except.error f = r := hr
              subst hr
              refine g_if_ne (pc := 50) C 55 dX12_isFerryHere_50 rfl (fun c4 => ?_) (fun c4 => ?_)
              · exact absurd rfl c4
              · refine g_iconst (pc := 53) (v := nI 0) C dX12_isFerryHere_53 (by decide) ?_
                exact g_zreturn (pc := 54) C ⟨rfl, rfl⟩ (by first | exact Or.inl rfl | exact Or.inr rfl) dX12_isFerryHere_54 ⟨i4, a4, rfl, ((f1.trans f2).trans f3).trans f4, (g2.trans g3).trans g4, rfl, r4⟩
            | ok p =>
              obtain ⟨n3, P3, D3⟩ := p
              obtain ⟨rfl, h4⟩ := r4
              obtain ⟨b5, b6, rfl, -⟩ := cell_ok hu3 b4
              have hr : Except.ok (n3, P3, upd D3 0 (nI 1)) = r := hr
              subst hr
              refine g_if_ne (pc := 50) C 55 dX12_isFerryHere_50 rfl (fun c4 => ?_) (fun c4 => ?_)
              · refine g_aload_n (pc := 55) C dX12_isFerryHere_55 rfl ?_
                refine mg_26 (pc := 56) C (hmA _ _) dX12_isFerryHere_56 ?_
                refine g_iconst (pc := 59) (v := nI 0) C dX12_isFerryHere_59 (by decide) ?_
                refine g_iconst (pc := 60) (v := nI 1) C dX12_isFerryHere_60 (by decide) ?_
                refine n_iast (pc := 61) (k := 1006) (n := 159) C rfl rfl (m_z (hmA _ _) rfl) isn_v rfl (by omega) dX12_isFerryHere_61 ?_
                refine gx_S (S' := rdS S i4 (u1 a4 1006 (upd (a4 1006) 0 (nI 1)))) (rd_A S i4 a4 1006 _ (by omega)) ?_
                refine g_iconst (pc := 62) (v := nI 1) C dX12_isFerryHere_62 (by decide) ?_
                exact g_zreturn (pc := 63) C ⟨rfl, rfl⟩ (by first | exact Or.inl rfl | exact Or.inr rfl) dX12_isFerryHere_63 ⟨i4, _, rfl, ((f1.trans f2).trans f3).trans f4, ((g2.trans g3).trans g4).trans fxD_u, rfl, h4.1, h4.2.1, by rw [← h4.2.2.1]; rfl, by rw [pk_un (by omega)]; exact h4.2.2.2.1, h4.2.2.2.2⟩
              · exact absurd (fun q => absurd q (by decide)) c4
  · rw [if_pos (Int32.not_le.mp c1)] at hr
    subst hr
    refine g_aload_n (pc := 9) C dX12_isFerryHere_9 rfl ?_
    refine g_iconst (pc := 10) (v := nI 4) C dX12_isFerryHere_10 (by decide) ?_
    refine g_iload_n (pc := 11) C dX12_isFerryHere_11 rfl ?_
    refine cf_X12_123 (pc := 12) C rfl (m_z (hmA _ _) rfl) (r_fails _ _ S L hx i a h.2.1 4 n) ⟨rfl, rfl⟩ ⟨rfl, rfl⟩ ⟨Nat.zero_le _, Nat.zero_le _⟩ rfl (Nat.le_of_ble_eq_true rfl) dX12_isFerryHere_12 ?_
    exact g_zreturn (pc := 15) C ⟨rfl, rfl⟩ (by first | exact Or.inl rfl | exact Or.inr rfl) dX12_isFerryHere_15 ⟨_, a, rfl, fxI.u (by decide), fxD.refl, rfl, rfl⟩
theorem c_X12_isOneHere (w : Wd) (l : Launch) (S : St) (L : Nat) (hx : gx_x S L) (i : Nat → Int32) (a : Nat → Nat → Int32) (n P : Nat) (D : Nat → Int32) (h : dx i a n P D) (hn : n ≤ L) (cork : Prop) [Decidable cork] : gx_M w l yX12_isOneHere cX12_isOneHere 3 (some .boolean) rmX12_isOneHere [.ref (ad (w_b w) 1000), .int (bI cork), .int (nI n)] (rdS S i a) (pxD S i a (if cork then corkF (s_A S 1001) L n P D else persF (s_A S 1001) L n P D)) := by
  have hL : L ≤ 400 := hx.2.1.2
  have hmA : ∀ i a, gx_m (rdS S i a) := fun i a => hx.1
  have h0 := lt_le (T := s_A S 1001) hn
  have hP7 := h.2.2.2.2
  generalize hr : (if cork then corkF (s_A S 1001) L n P D else persF (s_A S 1001) L n P D) = r
  unfold corkF persF at hr
  refine gx_start rfl 0 rfl (Nat.le_of_ble_eq_true rfl) ?_
  intro X C _ hl
  subst hl
  refine gx_L (L' := [_, _, _]) rfl ?_
  refine g_aload_n (pc := 0) C dX12_isOneHere_0 rfl ?_
  refine mg_26 (pc := 1) C (hmA _ _) dX12_isOneHere_1 ?_
  refine g_iconst (pc := 4) (v := nI 4) C dX12_isOneHere_4 (by decide) ?_
  refine n_iald (pc := 5) (k := 1006) (n := 159) C rfl rfl (m_z (hmA _ _) rfl) isn_v rfl (by omega) dX12_isOneHere_5 ?_
  refine gx_ti (y := nI P) ((congrFun h.2.2.1 4).trans h.2.2.2.1) ?_
  refine g_bipush (pc := 6) (v := nI 7) C dX12_isOneHere_6 (by decide) ?_
  refine g_icmp_ne (pc := 8) C 18 dX12_isOneHere_8 rfl (fun c1 => ?_) (fun c1 => ?_)
  · have c1 : ¬ P = 7 := fun q => c1 (by rw [q])
    rw [if_neg c1, if_neg c1] at hr
    refine g_aload_n (pc := 18) C dX12_isOneHere_18 rfl ?_
    refine cf_X12_117 (pc := 19) C rfl (m_z (hmA _ _) rfl) (r_pass _ _ S L hx i a n h.1 (by omega)) ⟨rfl, rfl⟩ ⟨rfl, rfl⟩ ⟨Nat.zero_le _, Nat.zero_le _⟩ rfl (Nat.le_of_ble_eq_true rfl) dX12_isOneHere_19 ?_
    refine g_iload_n (pc := 22) C dX12_isOneHere_22 rfl ?_
    generalize ltN (s_A S 1001) L n = n0 at *
    have h1 : dx (u1 i 1108 (nI n0)) a n0 P D := ⟨rfl, h.2.1, h.2.2⟩
    have f1 : fxI l3 i (u1 i 1108 (nI n0)) := fxI.u (by decide)
    generalize u1 i 1108 (nI n0) = i1 at h1 f1
    have fin : ∀ i3 a3 n3 D3 z1 z2, dx i3 a3 n3 P D3 → fxI l3 i i3 → fxD a a3 → Except.ok (n3, P + 1, upd D3 4 (nI (P + 1))) = r → gx_G w X (rdS S i3 a3) 0 0 88 [some (.ref (ad (w_b w) 1000)), z1, z2] [] (gx_E w X (pxD S i a r)) := by
      intro i3 a3 n3 D3 z1 z2 h3 f3 g3 hr
      subst hr
      refine g_aload_n (pc := 88) C dX12_isOneHere_88 rfl ?_
      refine mg_26 (pc := 89) C (hmA _ _) dX12_isOneHere_89 ?_
      refine g_iconst (pc := 92) (v := nI 4) C dX12_isOneHere_92 (by decide) ?_
      refine g_dup2 (pc := 93) C dX12_isOneHere_93 rfl rfl ?_
      refine n_iald (pc := 94) (k := 1006) (n := 159) C rfl rfl (m_z (hmA _ _) rfl) isn_v rfl (by omega) dX12_isOneHere_94 ?_
      refine gx_ti (y := nI P) ((congrFun h3.2.2.1 4).trans h3.2.2.2.1) ?_
      refine g_iconst (pc := 95) (v := nI 1) C dX12_isOneHere_95 (by decide) ?_
      refine g_iadd (pc := 96) C dX12_isOneHere_96 ?_
      refine gx_ti (y := nI (P + 1)) (nI_add P 1) ?_
      refine n_iast (pc := 97) (k := 1006) (n := 159) C rfl rfl (m_z (hmA _ _) rfl) isn_v rfl (by omega) dX12_isOneHere_97 ?_
      refine gx_S (S' := rdS S i3 (u1 a3 1006 (upd (a3 1006) 4 (nI (P + 1))))) (rd_A S i3 a3 1006 _ (by omega)) ?_
      refine g_iconst (pc := 98) (v := nI 1) C dX12_isOneHere_98 (by decide) ?_
      exact g_zreturn (pc := 99) C ⟨rfl, rfl⟩ (by first | exact Or.inl rfl | exact Or.inr rfl) dX12_isOneHere_99 ⟨i3, _, rfl, f3, g3.trans fxD_u, rfl, h3.1, h3.2.1, by rw [← h3.2.2.1]; rfl, pk_us, by omega⟩
    refine g_if_eq (pc := 23) C 48 dX12_isOneHere_23 rfl (fun c2 => ?_) (fun c2 => ?_)
    · have c2 := bI_0.mp c2
      rw [if_neg c2] at hr
      refine g_aload_n (pc := 48) C dX12_isOneHere_48 rfl ?_
      refine g_bipush (pc := 49) (v := nI 42) C dX12_isOneHere_49 (by decide) ?_
      refine g_aload_n (pc := 51) C dX12_isOneHere_51 rfl ?_
      refine mg_26 (pc := 52) C (hmA _ _) dX12_isOneHere_52 ?_
      refine g_iconst (pc := 55) (v := nI 4) C dX12_isOneHere_55 (by decide) ?_
      refine n_iald (pc := 56) (k := 1006) (n := 159) C rfl rfl (m_z (hmA _ _) rfl) isn_v rfl (by omega) dX12_isOneHere_56 ?_
      refine gx_ti (y := nI P) ((congrFun h1.2.2.1 4).trans h1.2.2.2.1) ?_
      refine g_iadd (pc := 57) C dX12_isOneHere_57 ?_
      refine gx_ti (y := nI (42 + P)) (nI_add 42 P) ?_
      refine g_iconst (pc := 58) (v := nI 0) C dX12_isOneHere_58 (by decide) ?_
      refine g_bipush (pc := 59) (v := nI 40) C dX12_isOneHere_59 (by decide) ?_
      refine cg_X12_230 (pc := 61) C rfl (m_z (hmA _ _) rfl) (c_X12_cellHere _ _ S L hx i1 a n0 P D h1 h0.2 (42 + P) (by omega) (by omega) (nI 0) (nI 40)) ⟨rfl, rfl⟩ ⟨Nat.zero_le _, Nat.zero_le _⟩ rfl (Nat.le_of_ble_eq_true rfl) dX12_isOneHere_61 ?_
      rintro _ _ ⟨⟨i2, a2, rfl, f2, g2, r2⟩, -⟩
      generalize hu : cellF (s_A S 1001) L P (nI 0) (nI 40) (42 + P) n0 D = u at hr r2
      cases u with
      | error f =>
        obtain ⟨rfl, r2⟩ := r2
        have hr : Except.error f = r := hr
        subst hr
        refine g_if_eq (pc := 64) C 86 dX12_isOneHere_64 rfl (fun c3 => ?_) (fun c3 => ?_)
        · refine g_iconst (pc := 86) (v := nI 0) C dX12_isOneHere_86 (by decide) ?_
          exact g_zreturn (pc := 87) C ⟨rfl, rfl⟩ (by first | exact Or.inl rfl | exact Or.inr rfl) dX12_isOneHere_87 ⟨i2, a2, rfl, f1.trans f2, g2, rfl, r2⟩
        · exact absurd rfl c3
      | ok p =>
        obtain ⟨n1, P1, D1⟩ := p
        obtain ⟨rfl, h2⟩ := r2
        obtain ⟨b1, b2, rfl, -⟩ := cell_ok hu h0.2
        have hr : (match cellF (s_A S 1001) L P1 (nI 0) (nI 9) (28 + P1) n1 D1 with
          | .error f => .error f
          | .ok (n2, _, D2) => .ok (n2, P1 + 1, upd D2 4 (nI (P1 + 1)))) = r := hr
        refine g_if_eq (pc := 64) C 86 dX12_isOneHere_64 rfl (fun c3 => ?_) (fun c3 => ?_)
        · exact absurd c3 (by decide)
        · refine g_aload_n (pc := 67) C dX12_isOneHere_67 rfl ?_
          refine g_bipush (pc := 68) (v := nI 28) C dX12_isOneHere_68 (by decide) ?_
          refine g_aload_n (pc := 70) C dX12_isOneHere_70 rfl ?_
          refine mg_26 (pc := 71) C (hmA _ _) dX12_isOneHere_71 ?_
          refine g_iconst (pc := 74) (v := nI 4) C dX12_isOneHere_74 (by decide) ?_
          refine n_iald (pc := 75) (k := 1006) (n := 159) C rfl rfl (m_z (hmA _ _) rfl) isn_v rfl (by omega) dX12_isOneHere_75 ?_
          refine gx_ti (y := nI P1) ((congrFun h2.2.2.1 4).trans h2.2.2.2.1) ?_
          refine g_iadd (pc := 76) C dX12_isOneHere_76 ?_
          refine gx_ti (y := nI (28 + P1)) (nI_add 28 P1) ?_
          refine g_iconst (pc := 77) (v := nI 0) C dX12_isOneHere_77 (by decide) ?_
          refine g_bipush (pc := 78) (v := nI 9) C dX12_isOneHere_78 (by decide) ?_
          refine cg_X12_230 (pc := 80) C rfl (m_z (hmA _ _) rfl) (c_X12_cellHere _ _ S L hx i2 a2 n1 P1 D1 h2 b2 (28 + P1) (by omega) (by omega) (nI 0) (nI 9)) ⟨rfl, rfl⟩ ⟨Nat.zero_le _, Nat.zero_le _⟩ rfl (Nat.le_of_ble_eq_true rfl) dX12_isOneHere_80 ?_
          rintro _ _ ⟨⟨i3, a3, rfl, f3, g3, r3⟩, -⟩
          generalize hu2 : cellF (s_A S 1001) L P1 (nI 0) (nI 9) (28 + P1) n1 D1 = u at hr r3
          cases u with
          | error f =>
            obtain ⟨rfl, r3⟩ := r3
            have hr : Except.error f = r := hr
            subst hr
            refine g_if_ne (pc := 83) C 88 dX12_isOneHere_83 rfl (fun c4 => ?_) (fun c4 => ?_)
            · exact absurd rfl c4
            · refine g_iconst (pc := 86) (v := nI 0) C dX12_isOneHere_86 (by decide) ?_
              exact g_zreturn (pc := 87) C ⟨rfl, rfl⟩ (by first | exact Or.inl rfl | exact Or.inr rfl) dX12_isOneHere_87 ⟨i3, a3, rfl, (f1.trans f2).trans f3, g2.trans g3, rfl, r3⟩
          | ok p =>
            obtain ⟨n2, P2, D2⟩ := p
            obtain ⟨rfl, h3⟩ := r3
            obtain ⟨b3, b4, rfl, -⟩ := cell_ok hu2 b2
            refine g_if_ne (pc := 83) C 88 dX12_isOneHere_83 rfl (fun c4 => ?_) (fun c4 => ?_)
            · exact fin i3 a3 n2 D2 _ _ h3 ((f1.trans f2).trans f3) (g2.trans g3) hr
            · exact absurd (fun q => absurd q (by decide)) c4
    · have c2 := Decidable.not_not.mp (fun q => c2 (bI_0.mpr q))
      rw [if_pos c2] at hr
      refine g_aload_n (pc := 26) C dX12_isOneHere_26 rfl ?_
      refine g_bipush (pc := 27) (v := nI 35) C dX12_isOneHere_27 (by decide) ?_
      refine g_aload_n (pc := 29) C dX12_isOneHere_29 rfl ?_
      refine mg_26 (pc := 30) C (hmA _ _) dX12_isOneHere_30 ?_
      refine g_iconst (pc := 33) (v := nI 4) C dX12_isOneHere_33 (by decide) ?_
      refine n_iald (pc := 34) (k := 1006) (n := 159) C rfl rfl (m_z (hmA _ _) rfl) isn_v rfl (by omega) dX12_isOneHere_34 ?_
      refine gx_ti (y := nI P) ((congrFun h1.2.2.1 4).trans h1.2.2.2.1) ?_
      refine g_iadd (pc := 35) C dX12_isOneHere_35 ?_
      refine gx_ti (y := nI (35 + P)) (nI_add 35 P) ?_
      refine g_iconst (pc := 36) (v := nI 1) C dX12_isOneHere_36 (by decide) ?_
      refine g_bipush (pc := 37) (v := nI 20) C dX12_isOneHere_37 (by decide) ?_
      refine cg_X12_230 (pc := 39) C rfl (m_z (hmA _ _) rfl) (c_X12_cellHere _ _ S L hx i1 a n0 P D h1 h0.2 (35 + P) (by omega) (by omega) (nI 1) (nI 20)) ⟨rfl, rfl⟩ ⟨Nat.zero_le _, Nat.zero_le _⟩ rfl (Nat.le_of_ble_eq_true rfl) dX12_isOneHere_39 ?_
      rintro _ _ ⟨⟨i2, a2, rfl, f2, g2, r2⟩, -⟩
      generalize hu : cellF (s_A S 1001) L P (nI 1) (nI 20) (35 + P) n0 D = u at hr r2
      cases u with
      | error f =>
        obtain ⟨rfl, r2⟩ := r2
        have hr : Except.error f = r := hr
        subst hr
        refine g_if_ne (pc := 42) C 88 dX12_isOneHere_42 rfl (fun c3 => ?_) (fun c3 => ?_)
        · exact absurd rfl c3
        · refine g_goto (pc := 45) C 86 dX12_isOneHere_45 rfl ?_
          refine g_iconst (pc := 86) (v := nI 0) C dX12_isOneHere_86 (by decide) ?_
          exact g_zreturn (pc := 87) C ⟨rfl, rfl⟩ (by first | exact Or.inl rfl | exact Or.inr rfl) dX12_isOneHere_87 ⟨i2, a2, rfl, f1.trans f2, g2, rfl, r2⟩
      | ok p =>
        obtain ⟨n1, P1, D1⟩ := p
        obtain ⟨rfl, h2⟩ := r2
        obtain ⟨b1, b2, rfl, -⟩ := cell_ok hu h0.2
        refine g_if_ne (pc := 42) C 88 dX12_isOneHere_42 rfl (fun c3 => ?_) (fun c3 => ?_)
        · exact fin i2 a2 n1 D1 _ _ h2 (f1.trans f2) g2 hr
        · exact absurd (fun q => absurd q (by decide)) c3
  · have c1 : P = 7 := (nI_eq (by omega) (by omega)).mp (Decidable.not_not.mp c1)
    rw [if_pos c1, if_pos c1, ite_self] at hr
    subst hr
    refine g_aload_n (pc := 11) C dX12_isOneHere_11 rfl ?_
    refine g_iconst (pc := 12) (v := nI 4) C dX12_isOneHere_12 (by decide) ?_
    refine g_iload_n (pc := 13) C dX12_isOneHere_13 rfl ?_
    refine cf_X12_123 (pc := 14) C rfl (m_z (hmA _ _) rfl) (r_fails _ _ S L hx i a h.2.1 4 n) ⟨rfl, rfl⟩ ⟨rfl, rfl⟩ ⟨Nat.zero_le _, Nat.zero_le _⟩ rfl (Nat.le_of_ble_eq_true rfl) dX12_isOneHere_14 ?_
    exact g_zreturn (pc := 17) C ⟨rfl, rfl⟩ (by first | exact Or.inl rfl | exact Or.inr rfl) dX12_isOneHere_17 ⟨_, a, rfl, fxI.u (by decide), fxD.refl, rfl, rfl⟩
