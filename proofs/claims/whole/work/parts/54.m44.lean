/-! ===== the reference's texts: a CLAUSE of a RULE ===== -/
abbrev CL : Type := List Nat × Option (List Nat)
def clT (q : CL) : List Nat := q.1 ++ q.2.getD []
def flC : List CL → List Nat
  | [] => []
  | q :: cs => clT q ++ flC cs
theorem flC_app (cs : List CL) (q : CL) : flC (cs ++ [q]) = flC cs ++ clT q := by
  induction cs with
  | nil => simp [flC]
  | cons p cs ih => simp only [List.cons_append, flC, ih, List.append_assoc]
/-- where a CLAUSE lies among the signs of its text -/
def clO (b : Nat) (q : CL) (r : Nat → Int32) (p : Nat) : Prop := r p = nI b ∧ r (p + 1) = nI (b + q.1.length) ∧ match q.2 with
  | none => r (p + 2) = -1
  | some k => r (p + 2) = nI (b + q.1.length) ∧ r (p + 3) = nI (b + q.1.length + k.length)
def rlC (r : Nat → Int32) (t : Nat) : Nat → Nat → List CL → Prop
  | _, _, [] => True
  | c, b, q :: cs => clO b q r (48 * t + 4 * c) ∧ rlC r t (c + 1) (b + (clT q).length) cs
theorem clO_to {b p : Nat} {q : CL} {r r' : Nat → Int32} (h : clO b q r p) (e : ∀ j, p ≤ j → j < p + 4 → r' j = r j) : clO b q r' p := by
  obtain ⟨h1, h2, h3⟩ := h
  refine ⟨(e p (by omega) (by omega)).trans h1, (e (p + 1) (by omega) (by omega)).trans h2, ?_⟩
  cases hq : q.2 with
  | none => rw [hq] at h3; exact (e (p + 2) (by omega) (by omega)).trans h3
  | some k => rw [hq] at h3; exact ⟨(e (p + 2) (by omega) (by omega)).trans h3.1, (e (p + 3) (by omega) (by omega)).trans h3.2⟩
theorem rlC_to {r r' : Nat → Int32} {t : Nat} : ∀ (cs : List CL) (c b : Nat), rlC r t c b cs → (∀ j, 48 * t + 4 * c ≤ j → j < 48 * t + 4 * (c + cs.length) → r' j = r j) → rlC r' t c b cs
  | [], _, _, _, _ => trivial
  | q :: cs, c, b, h, e => by
    have hl : (q :: cs).length = cs.length + 1 := rfl
    exact ⟨clO_to h.1 (fun j h1 h2 => e j h1 (by omega)), rlC_to cs (c + 1) _ h.2 (fun j h1 h2 => e j (by omega) (by omega))⟩
theorem rlC_app {r : Nat → Int32} {t : Nat} {q : CL} : ∀ (cs : List CL) (c b : Nat), rlC r t c b cs → clO (b + (flC cs).length) q r (48 * t + 4 * (c + cs.length)) → rlC r t c b (cs ++ [q])
  | [], c, b, _, h => ⟨h, trivial⟩
  | p :: cs, c, b, h, h2 => by
    refine ⟨h.1, rlC_app cs (c + 1) _ h.2 ?_⟩
    have e1 : (flC (p :: cs)).length = (clT p).length + (flC cs).length := List.length_append
    have e2 : (p :: cs).length = cs.length + 1 := rfl
    rw [e1, e2] at h2
    rw [show b + (clT p).length + (flC cs).length = b + ((clT p).length + (flC cs).length) by omega, show c + 1 + cs.length = c + (cs.length + 1) by omega]
    exact h2
def fxR (t : Nat) (a a' : Nat → Nat → Int32) : Prop := a' 1006 = a 1006 ∧ (∀ q, q < 400 * t ∨ 400 * t + 400 ≤ q → a' 1002 q = a 1002 q) ∧ (∀ q, q < 48 * t ∨ 48 * t + 48 ≤ q → a' 1004 q = a 1004 q) ∧ ∀ q, q ≠ t → a' 1005 q = a 1005 q
theorem fxR.refl {t : Nat} {a : Nat → Nat → Int32} : fxR t a a := ⟨rfl, fun _ _ => rfl, fun _ _ => rfl, fun _ _ => rfl⟩
theorem fxR.trans {t : Nat} {a b c : Nat → Nat → Int32} (h1 : fxR t a b) (h2 : fxR t b c) : fxR t a c := ⟨h2.1.trans h1.1, fun q e => (h2.2.1 q e).trans (h1.2.1 q e), fun q e => (h2.2.2.1 q e).trans (h1.2.2.1 q e), fun q e => (h2.2.2.2 q e).trans (h1.2.2.2 q e)⟩
theorem fxU.R {t : Nat} {a b : Nat → Nat → Int32} (h : fxU t a b) : fxR t a b := ⟨h.1 1006 (by decide) (by decide) (by decide), h.2.1, fun q _ => congrFun (h.1 1004 (by decide) (by decide) (by decide)) q, fun q _ => congrFun (h.1 1005 (by decide) (by decide) (by decide)) q⟩
theorem fxR_c {t : Nat} {a : Nat → Nat → Int32} {p : Nat} {x : Int32} (h : 48 * t ≤ p) (h2 : p < 48 * t + 48) : fxR t a (u1 a 1004 (upd (a 1004) p x)) := ⟨rfl, fun _ _ => rfl, fun q e => pk_un (f := a 1004) (by omega), fun _ _ => rfl⟩
abbrev RB : Type := Except Nat (Nat × Nat × CL)
def bdF (T : Nat → Int32) (L n m : Nat) : RB := match smF T L (ltN T L n) m with
  | .error f => .error f
  | .ok (n1, m1, k1) => if wdP T L (skN T L n1) 26982 then match testF T L (factE T L 10) (ltN T L (skN T L n1)) m1 with
      | .error f => .error f
      | .ok (n2, m2, k2) => .ok (n2, m2, (k1, some k2))
    else .ok (skN T L n1, m1, (k1, none))
theorem bd_ok {T : Nat → Int32} {L : Nat} (hL : L ≤ 400) {n m : Nat} (hn : n ≤ L) (hm : m ≤ 60) : match bdF T L n m with
    | .error f => 0 < f ∧ f ≤ 8 * L + 8
    | .ok (n', m', q) => n < n' ∧ n' ≤ L ∧ m' ≤ 60 ∧ n + (clT q).length ≤ n' := by
  have h0 := lt_le (T := T) hn
  have h1 := okI_sm (T := T) hL (ltN T L n) m h0.2 hm
  unfold bdF
  generalize smF T L (ltN T L n) m = u at h1
  cases u with
  | error f => exact h1
  | ok p =>
    obtain ⟨n1, m1, k1⟩ := p
    obtain ⟨b1, b2, b3, b4⟩ := h1
    have hq1 := sk_ge (T := T) (L := L) (n := n1)
    have hq2 := sk_L (T := T) b2
    show match (if wdP T L (skN T L n1) 26982 then (match testF T L (factE T L 10) (ltN T L (skN T L n1)) m1 with
      | .error f => .error f
      | .ok (n2, m2, k2) => .ok (n2, m2, (k1, some k2)) : RB)
      else .ok (skN T L n1, m1, (k1, none)) : RB) with
      | .error f => 0 < f ∧ f ≤ 8 * L + 8
      | .ok (n', m', q) => n < n' ∧ n' ≤ L ∧ m' ≤ 60 ∧ n + (clT q).length ≤ n'
    by_cases hw : wdP T L (skN T L n1) 26982
    · rw [if_pos hw]
      have h3 := lt_le (T := T) hq2
      have h2 := okI_test (T := T) (okI_fact (T := T) hL 10) hL (ltN T L (skN T L n1)) m1 h3.2 b3
      generalize testF T L (factE T L 10) (ltN T L (skN T L n1)) m1 = u at h2
      cases u with
      | error f => exact h2
      | ok p =>
        obtain ⟨n2, m2, k2⟩ := p
        obtain ⟨c1, c2, c3, c4⟩ := h2
        have hl : (clT (k1, some k2)).length = k1.length + k2.length := List.length_append
        exact ⟨by omega, c2, c3, by omega⟩
    · rw [if_neg hw]
      have hl : (clT (k1, none)).length = k1.length := by unfold clT; simp
      exact ⟨by omega, hq2, b3, by omega⟩
theorem r_takes (w : Wd) (l : Launch) (S : St) (L : Nat) (hx : gx_x S L) (i : Nat → Int32) (a : Nat → Nat → Int32) (n : Nat) (hi : i 1108 = nI n) (hn : n ≤ 400) (v : Int64) : gx_M w l yX12_takesWord cX12_takesWord 3 (some .boolean) rmX12_takesWord [.ref (ad (w_b w) 1000), .long v] (rdS S i a) (pI (bI (wdP (s_A S 1001) L (skN (s_A S 1001) L n) v)) (rdS S (u1 i 1108 (nI (if wdP (s_A S 1001) L (skN (s_A S 1001) L n) v then ltN (s_A S 1001) L (skN (s_A S 1001) L n) else skN (s_A S 1001) L n))) a)) := by
  have := c_X12_takesWord w l (rdS S i a) hx.1 L hx.2.1 n hn v
  rw [nx_id (rdS S i a) n hi, rd_nx] at this
  exact this
def pxB (S : St) (t : Nat) (i : Nat → Int32) (a : Nat → Nat → Int32) (cs : List CL) (r : RB) : Option Value → St → Prop := fun v S' => ∃ i' a', S' = rdS S i' a' ∧ fxI l6 i i' ∧ fxR t a a' ∧ match r with
  | .error f => v = some (.int (nI 0)) ∧ i' 1109 = nI f
  | .ok (n', m', q) => v = some (.int (nI 1)) ∧ tx t i' a' n' m' (flC (cs ++ [q])) ∧ a' 1005 t = nI (cs.length + 1) ∧ rlC (a' 1004) t 0 0 (cs ++ [q])
theorem c_X12_isBoardHere (w : Wd) (l : Launch) (S : St) (L : Nat) (hx : gx_x S L) (t : Nat) (ht6 : t < 6) (i : Nat → Int32) (a : Nat → Nat → Int32) (n m : Nat) (cs : List CL) (h : tx t i a n m (flC cs)) (hn : n ≤ L) (ho : (flC cs).length ≤ n) (h60 : m ≤ 60) (hc12 : cs.length < 12) (hc : a 1005 t = nI cs.length) (hr : rlC (a 1004) t 0 0 cs) : gx_M w l yX12_isBoardHere cX12_isBoardHere 2 (some .boolean) rmX12_isBoardHere [.ref (ad (w_b w) 1000)] (rdS S i a) (pxB S t i a cs (bdF (s_A S 1001) L n m)) := by
  have hL : L ≤ 400 := hx.2.1.2
  have hmA : ∀ i a, gx_m (rdS S i a) := fun i a => hx.1
  have h0 := lt_le (T := s_A S 1001) hn
  generalize hres : bdF (s_A S 1001) L n m = res
  unfold bdF at hres
  refine gx_start rfl 1 rfl (Nat.le_of_ble_eq_true rfl) ?_
  intro X C _ hl
  subst hl
  refine gx_L (L' := [_, _]) rfl ?_
  refine g_aload_n (pc := 0) C dX12_isBoardHere_0 rfl ?_
  refine cf_X12_117 (pc := 1) C rfl (m_z (hmA _ _) rfl) (r_pass _ _ S L hx i a n h.1 (by omega)) ⟨rfl, rfl⟩ ⟨rfl, rfl⟩ ⟨Nat.zero_le _, Nat.zero_le _⟩ rfl (Nat.le_of_ble_eq_true rfl) dX12_isBoardHere_1 ?_
  generalize ltN (s_A S 1001) L n = n0 at *
  have h1 : tx t (u1 i 1108 (nI n0)) a n0 m (flC cs) := tx_u h rfl rfl rfl h.2.2.2.1
  have f1 : fxI l6 i (u1 i 1108 (nI n0)) := fxI.u (by decide)
  generalize u1 i 1108 (nI n0) = i1 at h1 f1
  refine g_bipush (pc := 4) (v := nI 48) C dX12_isBoardHere_4 (by decide) ?_
  refine g_aload_n (pc := 6) C dX12_isBoardHere_6 rfl ?_
  refine mg_158 (pc := 7) C (hmA _ _) dX12_isBoardHere_7 ?_
  refine gx_ti (y := nI t) h1.2.2.1 ?_
  refine g_imul (pc := 10) C dX12_isBoardHere_10 ?_
  refine g_iconst (pc := 11) (v := nI 4) C dX12_isBoardHere_11 (by decide) ?_
  refine g_aload_n (pc := 12) C dX12_isBoardHere_12 rfl ?_
  refine mg_23 (pc := 13) C (hmA _ _) dX12_isBoardHere_13 ?_
  refine g_aload_n (pc := 16) C dX12_isBoardHere_16 rfl ?_
  refine mg_158 (pc := 17) C (hmA _ _) dX12_isBoardHere_17 ?_
  refine gx_ti (y := nI t) h1.2.2.1 ?_
  refine n_iald (pc := 20) (k := 1005) (n := 6) C rfl rfl (m_z (hmA _ _) rfl) rfl rfl (by omega) dX12_isBoardHere_20 ?_
  refine gx_ti (y := nI cs.length) hc ?_
  refine g_imul (pc := 21) C dX12_isBoardHere_21 ?_
  refine g_iadd (pc := 22) C dX12_isBoardHere_22 ?_
  refine gx_ti (y := nI (48 * t + 4 * cs.length)) (isn_add (isn_mul isn_v isn_v) (isn_mul isn_v isn_v)) ?_
  refine g_istore_n (pc := 23) (L' := [some (.ref _), _]) C dX12_isBoardHere_23 rfl rfl ?_
  refine g_aload_n (pc := 24) C dX12_isBoardHere_24 rfl ?_
  refine mg_20 (pc := 25) C (hmA _ _) dX12_isBoardHere_25 ?_
  refine g_iload_n (pc := 28) C dX12_isBoardHere_28 rfl ?_
  refine g_aload_n (pc := 29) C dX12_isBoardHere_29 rfl ?_
  refine mg_17 (pc := 30) C (hmA _ _) dX12_isBoardHere_30 ?_
  refine g_aload_n (pc := 33) C dX12_isBoardHere_33 rfl ?_
  refine mg_158 (pc := 34) C (hmA _ _) dX12_isBoardHere_34 ?_
  refine gx_ti (y := nI t) h1.2.2.1 ?_
  refine n_iald (pc := 37) (k := 1003) (n := 7) C rfl rfl (m_z (hmA _ _) rfl) rfl rfl (by omega) dX12_isBoardHere_37 ?_
  refine gx_ti (y := nI (flC cs).length) h1.2.2.2.2.1 ?_
  refine n_iast (pc := 38) (k := 1004) (n := 288) C rfl rfl (m_z (hmA _ _) rfl) isn_v rfl (by omega) dX12_isBoardHere_38 ?_
  generalize hb : (flC cs).length = b at *
  generalize hp : 48 * t + 4 * cs.length = p at *
  refine gx_S (S' := rdS S i1 (u1 a 1004 (upd (a 1004) p (nI b)))) (rd_A S i1 a 1004 _ (by omega)) ?_
  have h2 : tx t i1 (u1 a 1004 (upd (a 1004) p (nI b))) n0 m (flC cs) := tx_o h1 rfl rfl
  have g2 : fxR t a (u1 a 1004 (upd (a 1004) p (nI b))) := fxR_c (by omega) (by omega)
  have e2 : (u1 a 1004 (upd (a 1004) p (nI b))) 1004 = upd (a 1004) p (nI b) := rfl
  have d2 : (u1 a 1004 (upd (a 1004) p (nI b))) 1005 = a 1005 := rfl
  generalize u1 a 1004 (upd (a 1004) p (nI b)) = a2 at h2 g2 e2 d2
  refine g_aload_n (pc := 39) C dX12_isBoardHere_39 rfl ?_
  refine cg_X12_195 (pc := 40) C rfl (m_z (hmA _ _) rfl) (c_X12_sum _ _ S L hx t ht6 i1 a2 n0 m (flC cs) h2 h0.2 (by omega) h60) ⟨rfl, rfl⟩ ⟨Nat.zero_le _, Nat.zero_le _⟩ rfl (Nat.le_of_ble_eq_true rfl) dX12_isBoardHere_40 ?_
  rintro _ _ ⟨i3, a3, rfl, f3, g3, r3⟩
  have hok := okI_sm (T := s_A S 1001) hL n0 m h0.2 h60
  generalize smF (s_A S 1001) L n0 m = u at hres r3 hok
  have f4 : fxI l6 i i3 := f1.trans (f3.sub (by decide))
  have g4 : fxR t a a3 := g2.trans g3.U.R
  cases u with
  | error f =>
    obtain ⟨rfl, r3⟩ := r3
    have hres : Except.error f = res := hres
    subst hres
    refine g_if_ne (pc := 43) C 48 dX12_isBoardHere_43 rfl (fun c => ?_) (fun c => ?_)
    · exact absurd rfl c
    · refine g_iconst (pc := 46) (v := nI 0) C dX12_isBoardHere_46 (by decide) ?_
      exact g_zreturn (pc := 47) C ⟨rfl, rfl⟩ (by first | exact Or.inl rfl | exact Or.inr rfl) dX12_isBoardHere_47 ⟨i3, a3, rfl, f4, g4, rfl, r3⟩
  | ok q =>
    obtain ⟨n1, m1, k1⟩ := q
    obtain ⟨rfl, h3⟩ := r3
    obtain ⟨b1, b2, b3, b4⟩ := hok
    have hl1 : (flC cs ++ k1).length = b + k1.length := by rw [List.length_append, hb]
    have hq1 := sk_ge (T := s_A S 1001) (L := L) (n := n1)
    have hq2 := sk_L (T := s_A S 1001) b2
    have e3 : a3 1004 = upd (a 1004) p (nI b) := (g3.1 1004 (by decide) (by decide)).trans e2
    have d3 : a3 1005 = a 1005 := (g3.1 1005 (by decide) (by decide)).trans d2
    refine g_if_ne (pc := 43) C 48 dX12_isBoardHere_43 rfl (fun c => ?_) (fun c => ?_)
    · refine g_aload_n (pc := 48) C dX12_isBoardHere_48 rfl ?_
      refine mg_20 (pc := 49) C (hmA _ _) dX12_isBoardHere_49 ?_
      refine g_iload_n (pc := 52) C dX12_isBoardHere_52 rfl ?_
      refine g_iconst (pc := 53) (v := nI 1) C dX12_isBoardHere_53 (by decide) ?_
      refine g_iadd (pc := 54) C dX12_isBoardHere_54 ?_
      refine gx_ti (nI_add p 1) ?_
      refine g_aload_n (pc := 55) C dX12_isBoardHere_55 rfl ?_
      refine mg_17 (pc := 56) C (hmA _ _) dX12_isBoardHere_56 ?_
      refine g_aload_n (pc := 59) C dX12_isBoardHere_59 rfl ?_
      refine mg_158 (pc := 60) C (hmA _ _) dX12_isBoardHere_60 ?_
      refine gx_ti (y := nI t) h3.2.2.1 ?_
      refine n_iald (pc := 63) (k := 1003) (n := 7) C rfl rfl (m_z (hmA _ _) rfl) rfl rfl (by omega) dX12_isBoardHere_63 ?_
      refine gx_ti (y := nI (b + k1.length)) (h3.2.2.2.2.1.trans (by rw [hl1])) ?_
      refine n_iast (pc := 64) (k := 1004) (n := 288) C rfl rfl (m_z (hmA _ _) rfl) rfl rfl (by omega) dX12_isBoardHere_64 ?_
      refine gx_S (S' := rdS S i3 (u1 a3 1004 (upd (a3 1004) (p + 1) (nI (b + k1.length))))) (rd_A S i3 a3 1004 _ (by omega)) ?_
      refine g_aload_n (pc := 65) C dX12_isBoardHere_65 rfl ?_
      refine mg_20 (pc := 66) C (hmA _ _) dX12_isBoardHere_66 ?_
      refine g_iload_n (pc := 69) C dX12_isBoardHere_69 rfl ?_
      refine g_iconst (pc := 70) (v := nI 2) C dX12_isBoardHere_70 (by decide) ?_
      refine g_iadd (pc := 71) C dX12_isBoardHere_71 ?_
      refine gx_ti (nI_add p 2) ?_
      refine g_iconst (pc := 72) (v := -1) C dX12_isBoardHere_72 (by decide) ?_
      refine n_iast (pc := 73) (k := 1004) (n := 288) C rfl rfl (m_z (hmA _ _) rfl) rfl rfl (by omega) dX12_isBoardHere_73 ?_
      refine gx_S (S' := rdS S i3 (u1 a3 1004 (upd (upd (a3 1004) (p + 1) (nI (b + k1.length))) (p + 2) (-1)))) ?_ ?_
      · rw [rd_A S i3 _ 1004 _ (by omega)]
        refine congrArg (rdS S i3) ?_
        funext k; unfold u1; split <;> rfl
      have h4 : tx t i3 (u1 a3 1004 (upd (upd (a3 1004) (p + 1) (nI (b + k1.length))) (p + 2) (-1))) n1 m1 (flC cs ++ k1) := tx_o h3 rfl rfl
      have g5 : fxR t a (u1 a3 1004 (upd (upd (a3 1004) (p + 1) (nI (b + k1.length))) (p + 2) (-1))) := g4.trans ⟨rfl, fun _ _ => rfl, fun j e => by show upd (upd (a3 1004) (p + 1) _) (p + 2) _ j = _; rw [pk_un (by omega), pk_un (by omega)], fun _ _ => rfl⟩
      have e5 : (u1 a3 1004 (upd (upd (a3 1004) (p + 1) (nI (b + k1.length))) (p + 2) (-1))) 1004 = upd (upd (upd (a 1004) p (nI b)) (p + 1) (nI (b + k1.length))) (p + 2) (-1) := by rw [← e3]; rfl
      have d5 : (u1 a3 1004 (upd (upd (a3 1004) (p + 1) (nI (b + k1.length))) (p + 2) (-1))) 1005 = a 1005 := d3
      generalize u1 a3 1004 (upd (upd (a3 1004) (p + 1) (nI (b + k1.length))) (p + 2) (-1)) = a5 at h4 g5 e5 d5
      refine g_aload_n (pc := 74) C dX12_isBoardHere_74 rfl ?_
      refine g_ldc2 (pc := 75) (v := 26982) C dX12_isBoardHere_75 kl_X12_222 ?_
      refine cf_X12_224 (pc := 78) C rfl (m_z (hmA _ _) rfl) (r_takes _ _ S L hx i3 a5 n1 h4.1 (by omega) _) ⟨rfl, rfl⟩ ⟨rfl, rfl⟩ ⟨Nat.zero_le _, Nat.zero_le _⟩ rfl (Nat.le_of_ble_eq_true rfl) dX12_isBoardHere_78 ?_
      /- the end: where it ends, one CLAUSE more -/
      have fin : ∀ i6 a6 n' m' o2 (k2 : Option (List Nat)), tx t i6 a6 n' m' (flC cs ++ k1 ++ o2) → o2 = k2.getD [] → fxI l6 i i6 → fxR t a a6 → a6 1005 = a 1005 → clO b (k1, k2) (upd (a6 1004) (p + 3) (nI (b + k1.length + o2.length))) p → (∀ j, j < p → a6 1004 j = a 1004 j) → b + k1.length + o2.length ≤ 400 → Except.ok (n', m', (k1, k2)) = res → gx_G w X (rdS S i6 a6) 0 0 110 [some (.ref (ad (w_b w) 1000)), some (.int (nI p))] [] (gx_E w X (pxB S t i a cs res)) := by
        intro i6 a6 n' m' o2 k2 h6 ho2 f6 g6 d6 e6 e7 hlen hres
        subst hres
        have hl2 : (flC cs ++ k1 ++ o2).length = b + k1.length + o2.length := by rw [List.length_append, hl1]
        refine g_aload_n (pc := 110) C dX12_isBoardHere_110 rfl ?_
        refine mg_20 (pc := 111) C (hmA _ _) dX12_isBoardHere_111 ?_
        refine g_iload_n (pc := 114) C dX12_isBoardHere_114 rfl ?_
        refine g_iconst (pc := 115) (v := nI 3) C dX12_isBoardHere_115 (by decide) ?_
        refine g_iadd (pc := 116) C dX12_isBoardHere_116 ?_
        refine gx_ti (nI_add p 3) ?_
        refine g_aload_n (pc := 117) C dX12_isBoardHere_117 rfl ?_
        refine mg_17 (pc := 118) C (hmA _ _) dX12_isBoardHere_118 ?_
        refine g_aload_n (pc := 121) C dX12_isBoardHere_121 rfl ?_
        refine mg_158 (pc := 122) C (hmA _ _) dX12_isBoardHere_122 ?_
        refine gx_ti (y := nI t) h6.2.2.1 ?_
        refine n_iald (pc := 125) (k := 1003) (n := 7) C rfl rfl (m_z (hmA _ _) rfl) rfl rfl (by omega) dX12_isBoardHere_125 ?_
        refine gx_ti (y := nI (b + k1.length + o2.length)) (h6.2.2.2.2.1.trans (by rw [hl2])) ?_
        refine n_iast (pc := 126) (k := 1004) (n := 288) C rfl rfl (m_z (hmA _ _) rfl) rfl rfl (by omega) dX12_isBoardHere_126 ?_
        refine gx_S (S' := rdS S i6 (u1 a6 1004 (upd (a6 1004) (p + 3) (nI (b + k1.length + o2.length))))) (rd_A S i6 a6 1004 _ (by omega)) ?_
        have h7 : tx t i6 (u1 a6 1004 (upd (a6 1004) (p + 3) (nI (b + k1.length + o2.length)))) n' m' (flC cs ++ k1 ++ o2) := tx_o h6 rfl rfl
        have g7 : fxR t a (u1 a6 1004 (upd (a6 1004) (p + 3) (nI (b + k1.length + o2.length)))) := g6.trans (fxR_c (by omega) (by omega))
        have e8 : (u1 a6 1004 (upd (a6 1004) (p + 3) (nI (b + k1.length + o2.length)))) 1004 = upd (a6 1004) (p + 3) (nI (b + k1.length + o2.length)) := rfl
        have d8 : (u1 a6 1004 (upd (a6 1004) (p + 3) (nI (b + k1.length + o2.length)))) 1005 = a 1005 := d6
        generalize u1 a6 1004 (upd (a6 1004) (p + 3) (nI (b + k1.length + o2.length))) = a7 at h7 g7 e8 d8
        refine g_aload_n (pc := 127) C dX12_isBoardHere_127 rfl ?_
        refine mg_23 (pc := 128) C (hmA _ _) dX12_isBoardHere_128 ?_
        refine g_aload_n (pc := 131) C dX12_isBoardHere_131 rfl ?_
        refine mg_158 (pc := 132) C (hmA _ _) dX12_isBoardHere_132 ?_
        refine gx_ti (y := nI t) h7.2.2.1 ?_
        refine g_dup2 (pc := 135) C dX12_isBoardHere_135 rfl rfl ?_
        refine n_iald (pc := 136) (k := 1005) (n := 6) C rfl rfl (m_z (hmA _ _) rfl) rfl rfl (by omega) dX12_isBoardHere_136 ?_
        refine gx_ti (y := nI cs.length) (by show a7 1005 t = _; rw [d8]; exact hc) ?_
        refine g_iconst (pc := 137) (v := nI 1) C dX12_isBoardHere_137 (by decide) ?_
        refine g_iadd (pc := 138) C dX12_isBoardHere_138 ?_
        refine gx_ti (y := nI (cs.length + 1)) (nI_add cs.length 1) ?_
        refine n_iast (pc := 139) (k := 1005) (n := 6) C rfl rfl (m_z (hmA _ _) rfl) rfl rfl (by omega) dX12_isBoardHere_139 ?_
        refine gx_S (S' := rdS S i6 (u1 a7 1005 (upd (a7 1005) t (nI (cs.length + 1))))) (rd_A S i6 a7 1005 _ (by omega)) ?_
        refine g_iconst (pc := 140) (v := nI 1) C dX12_isBoardHere_140 (by decide) ?_
        have eT : flC (cs ++ [(k1, k2)]) = flC cs ++ k1 ++ o2 := by rw [flC_app, ho2, List.append_assoc]; rfl
        exact g_zreturn (pc := 141) C ⟨rfl, rfl⟩ (by first | exact Or.inl rfl | exact Or.inr rfl) dX12_isBoardHere_141 ⟨i6, _, rfl, f6, g7.trans ⟨rfl, fun _ _ => rfl, fun _ _ => rfl, fun j e => pk_un (f := a7 1005) e⟩, rfl, by rw [eT]; exact tx_o h7 rfl rfl, pk_us (f := a7 1005), by
          show rlC (a7 1004) t 0 0 (cs ++ [(k1, k2)])
          rw [e8]
          refine rlC_app cs 0 0 (rlC_to cs 0 0 hr (fun j h1 h2 => ?_)) ?_
          · rw [pk_un (by omega), e7 j (by omega)]
          · rw [hb, Nat.zero_add, Nat.zero_add, hp]; exact e6⟩
      refine g_if_eq (pc := 81) C 110 dX12_isBoardHere_81 rfl (fun c2 => ?_) (fun c2 => ?_)
      · have c2 := bI_0.mp c2
        have hres : (if wdP (s_A S 1001) L (skN (s_A S 1001) L n1) 26982 then _ else Except.ok (skN (s_A S 1001) L n1, m1, (k1, none))) = res := hres
        rw [if_neg c2] at hres
        refine gx_S (S' := rdS S (u1 i3 1108 (nI (skN (s_A S 1001) L n1))) a5) (by rw [if_neg c2]) ?_
        refine fin _ a5 _ m1 [] none (by rw [List.append_nil]; exact tx_u h4 rfl rfl rfl h4.2.2.2.1) rfl (f4.trans (fxI.u (by decide))) g5 d5 ?_ (fun j hj => by rw [e5, pk_un (by omega), pk_un (by omega), pk_un (by omega)]) (by simp only [List.length_nil]; omega) hres
        refine ⟨?_, ?_, ?_⟩
        · rw [e5, pk_un (by omega), pk_un (by omega), pk_un (by omega), pk_us]
        · rw [e5, pk_un (by omega), pk_un (by omega), pk_us]
        · show upd (a5 1004) (p + 3) _ (p + 2) = -1
          rw [e5, pk_un (by omega), pk_us]
      · have c2 := Decidable.not_not.mp (fun q => c2 (bI_0.mpr q))
        have hres : (if wdP (s_A S 1001) L (skN (s_A S 1001) L n1) 26982 then _ else Except.ok (skN (s_A S 1001) L n1, m1, (k1, none))) = res := hres
        rw [if_pos c2] at hres
        refine gx_S (S' := rdS S (u1 i3 1108 (nI (ltN (s_A S 1001) L (skN (s_A S 1001) L n1)))) a5) (by rw [if_pos c2]) ?_
        have h3' := lt_le (T := s_A S 1001) hq2
        generalize ltN (s_A S 1001) L (skN (s_A S 1001) L n1) = n2 at hres h3' ⊢
        have h5 : tx t (u1 i3 1108 (nI n2)) a5 n2 m1 (flC cs ++ k1) := tx_u h4 rfl rfl rfl h4.2.2.2.1
        have f5 : fxI l6 i (u1 i3 1108 (nI n2)) := f4.trans (fxI.u (by decide))
        generalize u1 i3 1108 (nI n2) = i5 at h5 f5
        refine g_aload_n (pc := 84) C dX12_isBoardHere_84 rfl ?_
        refine mg_20 (pc := 85) C (hmA _ _) dX12_isBoardHere_85 ?_
        refine g_iload_n (pc := 88) C dX12_isBoardHere_88 rfl ?_
        refine g_iconst (pc := 89) (v := nI 2) C dX12_isBoardHere_89 (by decide) ?_
        refine g_iadd (pc := 90) C dX12_isBoardHere_90 ?_
        refine gx_ti (nI_add p 2) ?_
        refine g_aload_n (pc := 91) C dX12_isBoardHere_91 rfl ?_
        refine mg_17 (pc := 92) C (hmA _ _) dX12_isBoardHere_92 ?_
        refine g_aload_n (pc := 95) C dX12_isBoardHere_95 rfl ?_
        refine mg_158 (pc := 96) C (hmA _ _) dX12_isBoardHere_96 ?_
        refine gx_ti (y := nI t) h5.2.2.1 ?_
        refine n_iald (pc := 99) (k := 1003) (n := 7) C rfl rfl (m_z (hmA _ _) rfl) rfl rfl (by omega) dX12_isBoardHere_99 ?_
        refine gx_ti (y := nI (b + k1.length)) (h5.2.2.2.2.1.trans (by rw [hl1])) ?_
        refine n_iast (pc := 100) (k := 1004) (n := 288) C rfl rfl (m_z (hmA _ _) rfl) rfl rfl (by omega) dX12_isBoardHere_100 ?_
        refine gx_S (S' := rdS S i5 (u1 a5 1004 (upd (a5 1004) (p + 2) (nI (b + k1.length))))) (rd_A S i5 a5 1004 _ (by omega)) ?_
        have h6 : tx t i5 (u1 a5 1004 (upd (a5 1004) (p + 2) (nI (b + k1.length)))) n2 m1 (flC cs ++ k1) := tx_o h5 rfl rfl
        have g6 : fxR t a (u1 a5 1004 (upd (a5 1004) (p + 2) (nI (b + k1.length)))) := g5.trans (fxR_c (by omega) (by omega))
        have e6 : (u1 a5 1004 (upd (a5 1004) (p + 2) (nI (b + k1.length)))) 1004 = upd (a5 1004) (p + 2) (nI (b + k1.length)) := rfl
        have d6 : (u1 a5 1004 (upd (a5 1004) (p + 2) (nI (b + k1.length)))) 1005 = a 1005 := d5
        generalize u1 a5 1004 (upd (a5 1004) (p + 2) (nI (b + k1.length))) = a6 at h6 g6 e6 d6
        refine g_aload_n (pc := 101) C dX12_isBoardHere_101 rfl ?_
        refine cg_X12_227 (pc := 102) C rfl (m_z (hmA _ _) rfl) (c_X12_tested _ _ S L hx t ht6 i5 a6 n2 m1 (flC cs ++ k1) h6 h3'.2 (by omega) b3) ⟨rfl, rfl⟩ ⟨Nat.zero_le _, Nat.zero_le _⟩ rfl (Nat.le_of_ble_eq_true rfl) dX12_isBoardHere_102 ?_
        rintro _ _ ⟨i7, a7, rfl, f7, g7, r7⟩
        have hok := okI_test (T := s_A S 1001) (okI_fact (T := s_A S 1001) hL 10) hL n2 m1 h3'.2 b3
        generalize testF (s_A S 1001) L (factE (s_A S 1001) L 10) n2 m1 = u at hres r7 hok
        cases u with
        | error f =>
          obtain ⟨rfl, r7⟩ := r7
          have hres : Except.error f = res := hres
          subst hres
          refine g_if_ne (pc := 105) C 110 dX12_isBoardHere_105 rfl (fun c3 => ?_) (fun c3 => ?_)
          · exact absurd rfl c3
          · refine g_iconst (pc := 108) (v := nI 0) C dX12_isBoardHere_108 (by decide) ?_
            exact g_zreturn (pc := 109) C ⟨rfl, rfl⟩ (by first | exact Or.inl rfl | exact Or.inr rfl) dX12_isBoardHere_109 ⟨i7, a7, rfl, f5.trans f7, g6.trans g7.R, rfl, r7⟩
        | ok q =>
          obtain ⟨n3, m3, k2⟩ := q
          obtain ⟨rfl, h7⟩ := r7
          obtain ⟨c1', c2', c3', c4'⟩ := hok
          have e7 : a7 1004 = upd (a5 1004) (p + 2) (nI (b + k1.length)) := (g7.1 1004 (by decide) (by decide) (by decide)).trans e6
          have d7 : a7 1005 = a 1005 := (g7.1 1005 (by decide) (by decide) (by decide)).trans d6
          refine g_if_ne (pc := 105) C 110 dX12_isBoardHere_105 rfl (fun c3 => ?_) (fun c3 => ?_)
          · refine fin i7 a7 n3 m3 k2 (some k2) h7 rfl (f5.trans f7) (g6.trans g7.R) d7 ?_ (fun j hj => by rw [e7, e5, pk_un (by omega), pk_un (by omega), pk_un (by omega), pk_un (by omega)]) (by omega) hres
            refine ⟨?_, ?_, ?_, ?_⟩
            · rw [e7, e5, pk_un (by omega), pk_un (by omega), pk_un (by omega), pk_un (by omega), pk_us]
            · rw [e7, e5, pk_un (by omega), pk_un (by omega), pk_un (by omega), pk_us]
            · rw [e7, pk_un (by omega), pk_us]
            · rw [pk_us]
          · exact absurd (fun q => absurd q (by decide)) c3
    · exact absurd (fun q => absurd q (by decide)) c
