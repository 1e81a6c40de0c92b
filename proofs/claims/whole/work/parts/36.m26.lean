/-! ===== the reference: findsRow, row ===== -/
def lpF {α : Type} (f : Nat → α → α) : Nat → α → α
  | 0, q => q
  | n + 1, q => f n (lpF f n q)
def updN (r : Nat → Nat) (k p : Nat) : Nat → Nat := fun j => if j = k then p else r j
def rwN (said : Nat → Int32) (r : Nat → Nat) (many : Nat) (q : Int32 × (Nat → Int32)) : Int32 × (Nat → Int32) := rwK said (fun i => nI (r i)) r many q
def rwF (sr : (Nat → Nat) → Nat → Int32 × (Nat → Int32) → Int32 × (Nat → Int32)) (said : Nat → Int32) (th many : Nat) (r : Nat → Nat) (k p : Nat) (q : Int32 × (Nat → Int32)) : Int32 × (Nat → Int32) :=
  if th.testBit p = true ∧ (∀ i, i < k → ¬ r i = p) then (if k + 1 = many then rwN said (updN r k p) many q else sr (updN r k p) (k + 1) q) else q
def srF (said : Nat → Int32) (th P many : Nat) : Nat → (Nat → Nat) → Nat → Int32 × (Nat → Int32) → Int32 × (Nat → Int32)
  | 0 => fun _ _ q => q
  | m + 1 => fun r k q => lpF (rwF (srF said th P many m) said th many r k) P q
def rowF (said : Nat → Int32) (th P : Nat) (B : Nat → Int32) : Int32 × (Nat → Int32) := if popN th = 0 then (nI 0, B) else srF said th P (popN th) (popN th) (fun _ => 0) 0 (-1, B)
theorem rwK_N {said R : Nat → Int32} {r : Nat → Nat} {many : Nat} {q : Int32 × (Nat → Int32)} (h : ∀ i, i < many → R i = nI (r i)) : rwK said R r many q = rwN said r many q := by
  have e : va_cpy R q.2 0 0 many = va_cpy (fun i => nI (r i)) q.2 0 0 many := by
    funext j
    show (if 0 ≤ j ∧ j < 0 + many then R (0 + (j - 0)) else q.2 j) = (if 0 ≤ j ∧ j < 0 + many then nI (r (0 + (j - 0))) else q.2 j)
    split
    · rw [h _ (by omega)]
    · rfl
  unfold rwN rwK
  rw [e]
theorem pm1 (p : Nat) : nI p + (-1) + nI 1 = nI p := by
  rw [Int32.add_assoc, show ((-1 : Int32) + nI 1) = 0 from rfl, Int32.add_zero]
theorem c_X12_findsRow (w : Wd) (l : Launch) (S : St) (hm : gx_m S) (P : Nat) (hP : s_A S 1010 4 = nI P) (hP7 : P ≤ 7) (th : Nat) (hth : th < 128) : gx_M w l yX12_findsRow cX12_findsRow 4 none rmX12_findsRow [.ref (ad (w_b w) 1000), .int (nI th)] S (fun a S' => a = none ∧ ∃ R, S' = rwS S R (rowF (s_A S 1010) th P (s_A S 1018)).2 (rowF (s_A S 1010) th P (s_A S 1018)).1) := by
  have hmA : ∀ R B t, gx_m (rwS S R B t) := fun R B t => hm
  have hpo := popN_le th hth
  generalize hq : (fun (a : Option Value) (S' : St) => a = none ∧ ∃ R, S' = rwS S R (rowF (s_A S 1010) th P (s_A S 1018)).2 (rowF (s_A S 1010) th P (s_A S 1018)).1) = post
  refine gx_start rfl 2 rfl (Nat.le_of_ble_eq_true rfl) ?_
  intro X C _ hl
  subst hl
  refine gx_L (L' := [_, _, _, _]) rfl ?_
  refine g_iload_n (pc := 0) C dX12_findsRow_0 rfl ?_
  refine cf_X12_337 (pc := 1) C (c_X12_bits _ _ _ th hth) ⟨rfl, rfl⟩ ⟨rfl, rfl⟩ ⟨Nat.zero_le _, Nat.zero_le _⟩ rfl (Nat.le_of_ble_eq_true rfl) dX12_findsRow_1 ?_
  refine g_istore_n (pc := 4) (L' := [_, some (.int _), _, _]) C dX12_findsRow_4 rfl rfl ?_
  refine g_iconst (pc := 5) (v := nI 0) C dX12_findsRow_5 (by decide) ?_
  refine g_istore_n (pc := 6) (L' := [_, _, some (.int _), _]) C dX12_findsRow_6 rfl rfl ?_
  refine gx_S (S' := rwS S (s_A S 1017) (s_A S 1018) (s_I S 1133 1000)) (by unfold rwS; rw [s_A_id, s_A_id, s_I_id]) ?_
  generalize hmn : popN th = many at hpo ⊢
  refine g_aload_n (pc := 7) C dX12_findsRow_7 rfl ?_
  refine g_iconst (pc := 8) (v := -1) C dX12_findsRow_8 (by decide) ?_
  refine mp_403 (pc := 9) C (hmA _ _ _) dX12_findsRow_9 ?_
  refine gx_S (rw_I S _ _ _ _) ?_
  refine g_aload_n (pc := 12) C dX12_findsRow_12 rfl ?_
  refine mg_65 (pc := 13) C (hmA _ _ _) dX12_findsRow_13 ?_
  refine g_iconst (pc := 16) (v := nI 0) C dX12_findsRow_16 (by decide) ?_
  refine g_iconst (pc := 17) (v := -1) C dX12_findsRow_17 (by decide) ?_
  refine n_iast (pc := 18) (k := 1017) (n := 8) C rfl rfl (m_z (hmA _ _ _) rfl) isn_v rfl (by omega) dX12_findsRow_18 ?_
  refine gx_S (S' := rwS S (upd (s_A S 1017) 0 (-1)) (s_A S 1018) (-1)) (by rw [rw_rR, rw_R]) ?_
  have fin : ∀ R q, q = rowF (s_A S 1010) th P (s_A S 1018) → gx_G w X (rwS S R q.2 q.1) 0 0 122 [some (.ref (ad (w_b w) 1000)), some (.int (nI th)), some (.int (nI many)), some (.int (nI 0 + (-1)))] [] (gx_E w X post) := by
    intro R q e
    subst e
    rw [← hq]
    exact g_return (pc := 122) C ⟨rfl, rfl⟩ dX12_findsRow_122 ⟨rfl, R, rfl⟩
  have go : ∀ m k r R B t, k + m = many → 0 < m → (∀ i, i < k → R i = nI (r i) ∧ r i < 7) → R k = -1 → (∀ R', (∀ i, i < k → R' i = R i) → gx_G w X (rwS S R' (srF (s_A S 1010) th P many m r k (t, B)).2 (srF (s_A S 1010) th P many m r k (t, B)).1) 0 0 28 [some (.ref (ad (w_b w) 1000)), some (.int (nI th)), some (.int (nI many)), some (.int (nI k + (-1)))] [] (gx_E w X post)) → gx_G w X (rwS S R B t) 0 0 28 [some (.ref (ad (w_b w) 1000)), some (.int (nI th)), some (.int (nI many)), some (.int (nI k))] [] (gx_E w X post) := by
    intro m
    induction m with
    | zero => intro k r R B t hk h0; exact absurd h0 (by omega)
    | succ m ih =>
      intro k r R B t hk _ hpre hRk cont
      have cont : ∀ R', (∀ i, i < k → R' i = R i) → ∀ q, q = lpF (rwF (srF (s_A S 1010) th P many m) (s_A S 1010) th many r k) P (t, B) → gx_G w X (rwS S R' q.2 q.1) 0 0 28 [some (.ref (ad (w_b w) 1000)), some (.int (nI th)), some (.int (nI many)), some (.int (nI k + (-1)))] [] (gx_E w X post) := by
        intro R' h q e
        subst e
        exact cont R' h
      have lp : ∀ d p R1 q, p + d = P → (∀ i, i < k → R1 i = R i) → R1 k = nI p + (-1) → q = lpF (rwF (srF (s_A S 1010) th P many m) (s_A S 1010) th many r k) p (t, B) → gx_G w X (rwS S R1 q.2 q.1) 0 0 28 [some (.ref (ad (w_b w) 1000)), some (.int (nI th)), some (.int (nI many)), some (.int (nI k))] [] (gx_E w X post) := by
        intro d
        induction d with
        | zero =>
          intro p R1 q hp h1 hk1 eq
          have hp : p = P := hp
          subst hp
          refine g_iload_n (pc := 28) C dX12_findsRow_28 rfl ?_
          refine g_if_lt (pc := 29) C 122 dX12_findsRow_29 rfl (fun h => ?_) (fun h => ?_)
          · exact absurd h (nI_pos (by omega))
          · refine g_iload_n (pc := 32) C dX12_findsRow_32 rfl ?_
            refine g_if_le (pc := 33) C 122 dX12_findsRow_33 rfl (fun h2 => ?_) (fun h2 => ?_)
            · exact absurd ((nI_leI (a := many) (b := 0) (by omega) (by omega)).mp h2) (by omega)
            · refine g_aload_n (pc := 36) C dX12_findsRow_36 rfl ?_
              refine mg_65 (pc := 37) C (hmA _ _ _) dX12_findsRow_37 ?_
              refine g_iload_n (pc := 40) C dX12_findsRow_40 rfl ?_
              refine g_dup2 (pc := 41) C dX12_findsRow_41 rfl rfl ?_
              refine n_iald (pc := 42) (k := 1017) (n := 8) C rfl rfl (m_z (hmA _ _ _) rfl) isn_v rfl (by omega) dX12_findsRow_42 ?_
              refine g_iconst (pc := 43) (v := nI 1) C dX12_findsRow_43 (by decide) ?_
              refine g_iadd (pc := 44) C dX12_findsRow_44 ?_
              refine gx_ti (y := nI p) (by rw [rw_rR, hk1, pm1]) ?_
              refine n_iast (pc := 45) (k := 1017) (n := 8) C rfl rfl (m_z (hmA _ _ _) rfl) isn_v rfl (by omega) dX12_findsRow_45 ?_
              refine gx_S (S' := rwS S (upd R1 k (nI p)) q.2 q.1) (by rw [rw_rR, rw_R]) ?_
              refine g_aload_n (pc := 46) C dX12_findsRow_46 rfl ?_
              refine mg_65 (pc := 47) C (hmA _ _ _) dX12_findsRow_47 ?_
              refine g_iload_n (pc := 50) C dX12_findsRow_50 rfl ?_
              refine n_iald (pc := 51) (k := 1017) (n := 8) C rfl rfl (m_z (hmA _ _ _) rfl) isn_v rfl (by omega) dX12_findsRow_51 ?_
              refine gx_ti (y := nI p) (by rw [rw_rR]; exact if_pos rfl) ?_
              refine g_aload_n (pc := 52) C dX12_findsRow_52 rfl ?_
              refine mg_39 (pc := 53) C (hmA _ _ _) dX12_findsRow_53 ?_
              refine g_iconst (pc := 56) (v := nI 4) C dX12_findsRow_56 (by decide) ?_
              refine n_iald (pc := 57) (k := 1010) (n := 190) C rfl rfl (m_z (hmA _ _ _) rfl) isn_v rfl (by omega) dX12_findsRow_57 ?_
              refine gx_ti (y := nI p) hP ?_
              refine g_icmp_lt (pc := 58) C 67 dX12_findsRow_58 rfl (fun h3 => ?_) (fun h3 => ?_)
              · exact absurd h3 (Int32.lt_irrefl)
              · refine g_iinc (pc := 61) (L' := [_, _, some (.int _), _]) C dX12_findsRow_61 rfl rfl rfl ?_
                refine g_goto (pc := 64) C 28 dX12_findsRow_64 rfl ?_
                exact cont _ (fun i hi => (if_neg (by omega)).trans (h1 i hi)) q eq
        | succ d dh =>
          intro p R1 q hp h1 hk1 eq
          have hpre2 : ∀ i, i < k → R1 i = nI (r i) ∧ r i < 7 := fun i hi => ⟨(h1 i hi).trans (hpre i hi).1, (hpre i hi).2⟩
          have hU : ∀ i, i < k → upd R1 k (nI p) i = R i := fun i hi => (if_neg (by omega)).trans (h1 i hi)
          have hUk : upd R1 k (nI p) k = nI p := if_pos rfl
          have next : ∀ R2 q2, (∀ i, i < k → R2 i = R i) → R2 k = nI p → q2 = rwF (srF (s_A S 1010) th P many m) (s_A S 1010) th many r k p q → gx_G w X (rwS S R2 q2.2 q2.1) 0 0 28 [some (.ref (ad (w_b w) 1000)), some (.int (nI th)), some (.int (nI many)), some (.int (nI k))] [] (gx_E w X post) := by
            intro R2 q2 a1 a2 a3
            refine dh (p + 1) R2 q2 (by omega) a1 (a2.trans (pk_m1 p).symm) ?_
            rw [a3, eq]; rfl
          refine g_iload_n (pc := 28) C dX12_findsRow_28 rfl ?_
          refine g_if_lt (pc := 29) C 122 dX12_findsRow_29 rfl (fun h => ?_) (fun h => ?_)
          · exact absurd h (nI_pos (by omega))
          · refine g_iload_n (pc := 32) C dX12_findsRow_32 rfl ?_
            refine g_if_le (pc := 33) C 122 dX12_findsRow_33 rfl (fun h2 => ?_) (fun h2 => ?_)
            · exact absurd ((nI_leI (a := many) (b := 0) (by omega) (by omega)).mp h2) (by omega)
            · refine g_aload_n (pc := 36) C dX12_findsRow_36 rfl ?_
              refine mg_65 (pc := 37) C (hmA _ _ _) dX12_findsRow_37 ?_
              refine g_iload_n (pc := 40) C dX12_findsRow_40 rfl ?_
              refine g_dup2 (pc := 41) C dX12_findsRow_41 rfl rfl ?_
              refine n_iald (pc := 42) (k := 1017) (n := 8) C rfl rfl (m_z (hmA _ _ _) rfl) isn_v rfl (by omega) dX12_findsRow_42 ?_
              refine g_iconst (pc := 43) (v := nI 1) C dX12_findsRow_43 (by decide) ?_
              refine g_iadd (pc := 44) C dX12_findsRow_44 ?_
              refine gx_ti (y := nI p) (by rw [rw_rR, hk1, pm1]) ?_
              refine n_iast (pc := 45) (k := 1017) (n := 8) C rfl rfl (m_z (hmA _ _ _) rfl) isn_v rfl (by omega) dX12_findsRow_45 ?_
              refine gx_S (S' := rwS S (upd R1 k (nI p)) q.2 q.1) (by rw [rw_rR, rw_R]) ?_
              generalize hR2 : upd R1 k (nI p) = R2 at hU hUk ⊢
              refine g_aload_n (pc := 46) C dX12_findsRow_46 rfl ?_
              refine mg_65 (pc := 47) C (hmA _ _ _) dX12_findsRow_47 ?_
              refine g_iload_n (pc := 50) C dX12_findsRow_50 rfl ?_
              refine n_iald (pc := 51) (k := 1017) (n := 8) C rfl rfl (m_z (hmA _ _ _) rfl) isn_v rfl (by omega) dX12_findsRow_51 ?_
              refine gx_ti (y := nI p) hUk ?_
              refine g_aload_n (pc := 52) C dX12_findsRow_52 rfl ?_
              refine mg_39 (pc := 53) C (hmA _ _ _) dX12_findsRow_53 ?_
              refine g_iconst (pc := 56) (v := nI 4) C dX12_findsRow_56 (by decide) ?_
              refine n_iald (pc := 57) (k := 1010) (n := 190) C rfl rfl (m_z (hmA _ _ _) rfl) isn_v rfl (by omega) dX12_findsRow_57 ?_
              refine gx_ti (y := nI P) hP ?_
              refine g_icmp_lt (pc := 58) C 67 dX12_findsRow_58 rfl (fun h3 => ?_) (fun h3 => ?_)
              · refine g_iload_n (pc := 67) C dX12_findsRow_67 rfl ?_
                refine g_aload_n (pc := 68) C dX12_findsRow_68 rfl ?_
                refine mg_65 (pc := 69) C (hmA _ _ _) dX12_findsRow_69 ?_
                refine g_iload_n (pc := 72) C dX12_findsRow_72 rfl ?_
                refine n_iald (pc := 73) (k := 1017) (n := 8) C rfl rfl (m_z (hmA _ _ _) rfl) isn_v rfl (by omega) dX12_findsRow_73 ?_
                refine gx_ti (y := nI p) hUk ?_
                refine cf_X12_308 (pc := 74) C (c_X12_isOfN _ _ _ th p hth (by omega)) ⟨rfl, rfl⟩ ⟨rfl, rfl⟩ ⟨Nat.zero_le _, Nat.zero_le _⟩ rfl (Nat.le_of_ble_eq_true rfl) dX12_findsRow_74 ?_
                refine g_if_eq (pc := 77) C 28 dX12_findsRow_77 rfl (fun h4 => ?_) (fun h4 => ?_)
                · exact next R2 q hU hUk (if_neg (fun z => bI_0.mp h4 z.1)).symm
                · have h4 := Decidable.not_not.mp (fun z => h4 (bI_0.mpr z))
                  refine g_aload_n (pc := 80) C dX12_findsRow_80 rfl ?_
                  refine g_iload_n (pc := 81) C dX12_findsRow_81 rfl ?_
                  refine g_aload_n (pc := 82) C dX12_findsRow_82 rfl ?_
                  refine mg_65 (pc := 83) C (hmA _ _ _) dX12_findsRow_83 ?_
                  refine g_iload_n (pc := 86) C dX12_findsRow_86 rfl ?_
                  refine n_iald (pc := 87) (k := 1017) (n := 8) C rfl rfl (m_z (hmA _ _ _) rfl) isn_v rfl (by omega) dX12_findsRow_87 ?_
                  refine gx_ti (y := nI p) hUk ?_
                  refine cf_X12_406 (pc := 88) C rfl (m_z (hmA _ _ _) rfl) (c_X12_isUsed _ _ _ (hmA _ _ _) k (by omega) (nI p)) ⟨rfl, rfl⟩ ⟨rfl, rfl⟩ ⟨Nat.zero_le _, Nat.zero_le _⟩ rfl (Nat.le_of_ble_eq_true rfl) dX12_findsRow_88 ?_
                  have hus : (∀ i, i < k → ¬ r i = p) ↔ ¬ usedF R2 (nI p) k := by
                    constructor
                    · intro z y
                      exact y (fun i hi e => z i hi ((nI_eq (by have := (hpre i hi).2; omega) (by omega)).mp (((hU i hi).trans (hpre i hi).1).symm.trans e)))
                    · intro z i hi e
                      exact (Decidable.not_not.mp z) i hi (((hU i hi).trans (hpre i hi).1).trans (by rw [e]))
                  refine g_if_ne (pc := 91) C 28 dX12_findsRow_91 rfl (fun h5 => ?_) (fun h5 => ?_)
                  · exact next R2 q hU hUk (if_neg (fun z => absurd (Decidable.not_not.mp (fun y => h5 (bI_0.mpr y))) (hus.mp z.2))).symm
                  · have h5 := hus.mpr (bI_0.mp (Decidable.not_not.mp h5))
                    have ef : rwF (srF (s_A S 1010) th P many m) (s_A S 1010) th many r k p q = (if k + 1 = many then rwN (s_A S 1010) (updN r k p) many q else srF (s_A S 1010) th P many m (updN r k p) (k + 1) q) := if_pos ⟨h4, h5⟩
                    have hr2 : ∀ i, i < k + 1 → R2 i = nI (updN r k p i) ∧ updN r k p i < 7 := by
                      intro i hi
                      unfold updN
                      by_cases e : i = k
                      · rw [if_pos e, e]; exact ⟨hUk, by omega⟩
                      · rw [if_neg e]; exact ⟨(hU i (by omega)).trans (hpre i (by omega)).1, (hpre i (by omega)).2⟩
                    refine g_iload_n (pc := 94) C dX12_findsRow_94 rfl ?_
                    refine g_iconst (pc := 95) (v := nI 1) C dX12_findsRow_95 (by decide) ?_
                    refine g_iadd (pc := 96) C dX12_findsRow_96 ?_
                    refine gx_ti (nI_add k 1) ?_
                    refine g_iload_n (pc := 97) C dX12_findsRow_97 rfl ?_
                    refine g_icmp_ne (pc := 98) C 109 dX12_findsRow_98 rfl (fun h6 => ?_) (fun h6 => ?_)
                    · have h6 : ¬ k + 1 = many := fun e => h6 (by rw [e])
                      refine g_iinc (pc := 109) (L' := [_, _, some (.int _), _]) C dX12_findsRow_109 rfl (nI_1 _) rfl ?_
                      refine g_aload_n (pc := 112) C dX12_findsRow_112 rfl ?_
                      refine mg_65 (pc := 113) C (hmA _ _ _) dX12_findsRow_113 ?_
                      refine g_iload_n (pc := 116) C dX12_findsRow_116 rfl ?_
                      refine g_iconst (pc := 117) (v := -1) C dX12_findsRow_117 (by decide) ?_
                      refine n_iast (pc := 118) (k := 1017) (n := 8) C rfl rfl (m_z (hmA _ _ _) rfl) isn_v rfl (by omega) dX12_findsRow_118 ?_
                      refine g_goto (pc := 119) C 28 dX12_findsRow_119 rfl ?_
                      refine gx_S (S' := rwS S (upd R2 (k + 1) (-1)) q.2 q.1) (by rw [rw_rR, rw_R]) ?_
                      have hV : ∀ i, i < k + 1 → upd R2 (k + 1) (-1) i = R2 i := fun i hi => if_neg (by omega)
                      refine ih (k + 1) (updN r k p) _ q.2 q.1 (by omega) (by omega) (fun i hi => ⟨(hV i hi).trans (hr2 i hi).1, (hr2 i hi).2⟩) (if_pos rfl) (fun R' h => ?_)
                      rw [pk_m1]
                      refine next R' _ (fun i hi => ((h i (by omega)).trans (hV i (by omega))).trans (hU i hi)) (((h k (by omega)).trans (hV k (by omega))).trans hUk) ?_
                      rw [ef, if_neg h6]
                    · have h6 : k + 1 = many := (nI_eq (by omega) (by omega)).mp (Decidable.not_not.mp h6)
                      have hr3 : ∀ i, i < many → R2 i = nI (updN r k p i) ∧ updN r k p i < 7 := fun i hi => hr2 i (by omega)
                      refine g_aload_n (pc := 101) C dX12_findsRow_101 rfl ?_
                      refine g_iload_n (pc := 102) C dX12_findsRow_102 rfl ?_
                      refine cf_X12_409 (pc := 103) C rfl (m_z (hmA _ _ _) rfl) (c_X12_keepsRow _ _ S hm R2 q.2 q.1 (updN r k p) many hpo hr3) ⟨rfl, rfl⟩ ⟨rfl, rfl⟩ ⟨Nat.zero_le _, Nat.zero_le _⟩ rfl (Nat.le_of_ble_eq_true rfl) dX12_findsRow_103 ?_
                      refine g_goto (pc := 106) C 28 dX12_findsRow_106 rfl ?_
                      refine next R2 _ hU hUk ?_
                      rw [ef, if_pos h6]
                      exact rwK_N (fun i hi => (hr3 i hi).1)
              · exact absurd (nI_lt (by omega) (by omega)) h3
      exact lp P 0 R (t, B) (by omega) (fun i hi => rfl) hRk rfl
  refine g_iload_n (pc := 19) C dX12_findsRow_19 rfl ?_
  refine g_if_ne (pc := 20) C 28 dX12_findsRow_20 rfl (fun h => ?_) (fun h => ?_)
  · have h : ¬ many = 0 := fun e => h (by rw [e]; rfl)
    have e : rowF (s_A S 1010) th P (s_A S 1018) = srF (s_A S 1010) th P many many (fun _ => 0) 0 (-1, s_A S 1018) := by unfold rowF; rw [hmn, if_neg h]
    refine go many 0 (fun _ => 0) _ _ _ (by omega) (by omega) (fun i hi => absurd hi (by omega)) (if_pos rfl) (fun R' _ => ?_)
    refine g_iload_n (pc := 28) C dX12_findsRow_28 rfl ?_
    refine g_if_lt (pc := 29) C 122 dX12_findsRow_29 rfl (fun h2 => ?_) (fun h2 => ?_)
    · exact fin R' _ e.symm
    · exact absurd (by decide) h2
  · have h : many = 0 := (nI_eq (by omega) (by omega)).mp (Decidable.not_not.mp h)
    have e : rowF (s_A S 1010) th P (s_A S 1018) = (nI 0, s_A S 1018) := by unfold rowF; rw [hmn, if_pos h]
    subst h
    refine g_aload_n (pc := 23) C dX12_findsRow_23 rfl ?_
    refine g_iconst (pc := 24) (v := nI 0) C dX12_findsRow_24 (by decide) ?_
    refine mp_403 (pc := 25) C (hmA _ _ _) dX12_findsRow_25 ?_
    refine gx_S (rw_I S _ _ _ _) ?_
    refine g_iload_n (pc := 28) C dX12_findsRow_28 rfl ?_
    refine g_if_lt (pc := 29) C 122 dX12_findsRow_29 rfl (fun h2 => ?_) (fun h2 => ?_)
    · exact absurd h2 (nI_pos (by omega))
    · refine g_iload_n (pc := 32) C dX12_findsRow_32 rfl ?_
      refine g_if_le (pc := 33) C 122 dX12_findsRow_33 rfl (fun h3 => ?_) (fun h3 => ?_)
      · rw [← hq]
        exact g_return (pc := 122) C ⟨rfl, rfl⟩ dX12_findsRow_122 ⟨rfl, _, by rw [e]⟩
      · exact absurd (by decide) h3
abbrev rowOK (said : Nat → Int32) (what : Int32) : Prop := said 0 = nI 1 ∧ (-1 ≤ what ∧ what ≤ nI 6)
def rowA (said : Nat → Int32) (P : Nat) (B : Nat → Int32) (what : Int32) : Int32 := if what = -1 then (rowF said (onN said (said 11) P) P B).1 else if what < nI (popN (onN said (said 11) P)) then (rowF said (onN said (said 11) P) P B).2 what.toNatClampNeg else -2
theorem c_X12_row (w : Wd) (l : Launch) (S : St) (hm : gx_m S) (P H : Nat) (hp : gx_p S P H) (what : Int32) : gx_M w l yX12_row cX12_row 3 (some .int) rmX12_row [.ref (ad (w_b w) 1000), .int what] S (fun a S' => if rowOK (s_A S 1010) what then (∃ R, a = some (.int (rowA (s_A S 1010) P (s_A S 1018) what)) ∧ S' = rwS S R (rowF (s_A S 1010) (onN (s_A S 1010) (s_A S 1010 11) P) P (s_A S 1018)).2 (rowF (s_A S 1010) (onN (s_A S 1010) (s_A S 1010 11) P) P (s_A S 1018)).1) else (a = some (.int (-3)) ∧ S' = S)) := by
  obtain ⟨hP, hP7, hH, hH2⟩ := id hp
  have ho : onN (s_A S 1010) (s_A S 1010 11) P < 128 := onN_128 hP7
  have hpo := popN_le _ ho
  refine gx_start rfl 1 rfl (Nat.le_of_ble_eq_true rfl) ?_
  intro X C _ hl
  subst hl
  refine gx_L (L' := [_, _, _]) rfl ?_
  generalize hq : (fun (a : Option Value) (S' : St) => if rowOK (s_A S 1010) what then (∃ R, a = some (.int (rowA (s_A S 1010) P (s_A S 1018) what)) ∧ S' = rwS S R (rowF (s_A S 1010) (onN (s_A S 1010) (s_A S 1010 11) P) P (s_A S 1018)).2 (rowF (s_A S 1010) (onN (s_A S 1010) (s_A S 1010 11) P) P (s_A S 1018)).1) else (a = some (.int (-3)) ∧ S' = S)) = post
  have bad : ∀ z2, ¬ rowOK (s_A S 1010) what → gx_G w X S 0 0 21 [some (.ref (ad (w_b w) 1000)), some (.int what), z2] [] (gx_E w X post) := by
    intro z2 hb
    subst hq
    refine g_bipush (pc := 21) (v := -3) C dX12_row_21 (by decide) ?_
    exact g_ireturn (pc := 23) C ⟨rfl, rfl⟩ dX12_row_23 ((by rw [if_neg hb]; exact ⟨rfl, rfl⟩))
  refine g_aload_n (pc := 0) C dX12_row_0 rfl ?_
  refine cf_X12_297 (pc := 1) C rfl (by exact m_z hm rfl) (c_X12_isCrossing _ _ _ hm) ⟨rfl, rfl⟩ ⟨rfl, rfl⟩ ⟨Nat.zero_le _, Nat.zero_le _⟩ rfl (Nat.le_of_ble_eq_true rfl) dX12_row_1 ?_
  refine g_if_eq (pc := 4) C 21 dX12_row_4 rfl (fun h => ?_) (fun h => ?_)
  · exact bad _ (fun q => bI_0.mp h q.1)
  · have h := Decidable.not_not.mp (fun q => h (bI_0.mpr q))
    refine g_iload_n (pc := 7) C dX12_row_7 rfl ?_
    refine g_i2l (pc := 8) C dX12_row_8 ?_
    refine g_ldc2 (pc := 9) (v := -1) C dX12_row_9 kl_X12_412 ?_
    refine g_ldc2 (pc := 12) (v := 6) C dX12_row_12 kl_X12_414 ?_
    refine cf_X12_130 (pc := 15) C (c_X12_in32 _ _ _ _ (-1) (nI 6) _ _ rfl rfl) ⟨rfl, rfl⟩ ⟨rfl, rfl⟩ ⟨Nat.zero_le _, Nat.zero_le _⟩ rfl (Nat.le_of_ble_eq_true rfl) dX12_row_15 ?_
    refine g_if_ne (pc := 18) C 24 dX12_row_18 rfl (fun h2 => ?_) (fun h2 => ?_)
    · have h2 := Decidable.not_not.mp (fun q => h2 (bI_0.mpr q))
      have hok : rowOK (s_A S 1010) what := ⟨h, h2⟩
      refine g_aload_n (pc := 24) C dX12_row_24 rfl ?_
      refine g_aload_n (pc := 25) C dX12_row_25 rfl ?_
      refine mg_39 (pc := 26) C (by exact hm) dX12_row_26 ?_
      refine g_bipush (pc := 29) (v := nI 11) C dX12_row_29 (by decide) ?_
      refine n_iald (pc := 31) (k := 1010) (n := 190) C rfl rfl (by exact m_z hm rfl) isn_v rfl (by omega) dX12_row_31 ?_
      refine cf_X12_334 (pc := 32) C rfl (by exact m_z hm rfl) (c_X12_onSide _ _ _ hm P hP hP7 _) ⟨rfl, rfl⟩ ⟨rfl, rfl⟩ ⟨Nat.zero_le _, Nat.zero_le _⟩ rfl (Nat.le_of_ble_eq_true rfl) dX12_row_32 ?_
      refine g_istore_n (pc := 35) (L' := [_, some (.int _), _]) C dX12_row_35 rfl rfl ?_
      refine g_aload_n (pc := 36) C dX12_row_36 rfl ?_
      refine g_iload_n (pc := 37) C dX12_row_37 rfl ?_
      generalize hth : onN (s_A S 1010) (s_A S 1010 11) P = th at ho hpo hq ⊢
      refine cg_X12_416 (pc := 38) C rfl (m_z hm rfl) (c_X12_findsRow _ _ S hm P hP hP7 th ho) ⟨rfl, rfl⟩ ⟨Nat.zero_le _, Nat.zero_le _⟩ rfl (Nat.le_of_ble_eq_true rfl) dX12_row_38 ?_
      rintro _ _ ⟨rfl, R, rfl⟩
      have hend : ∀ v, v = rowA (s_A S 1010) P (s_A S 1018) what → post (some (.int v)) (rwS S R (rowF (s_A S 1010) th P (s_A S 1018)).2 (rowF (s_A S 1010) th P (s_A S 1018)).1) := by
        intro v hv
        rw [← hq]
        show (if rowOK (s_A S 1010) what then _ else _)
        rw [if_pos hok, hv]
        exact ⟨R, rfl, rfl⟩
      unfold rowA at hend
      rw [hth] at hend
      generalize rowF (s_A S 1010) th P (s_A S 1018) = q at hend ⊢
      have hmA : gx_m (rwS S R q.2 q.1) := hm
      refine g_iload_n (pc := 41) C dX12_row_41 rfl ?_
      refine g_iconst (pc := 42) (v := -1) C dX12_row_42 (by decide) ?_
      refine g_icmp_ne (pc := 43) C 53 dX12_row_43 rfl (fun h3 => ?_) (fun h3 => ?_)
      · refine g_iload_n (pc := 53) C dX12_row_53 rfl ?_
        refine g_iload_n (pc := 54) C dX12_row_54 rfl ?_
        refine cf_X12_337 (pc := 55) C (c_X12_bits _ _ _ th ho) ⟨rfl, rfl⟩ ⟨rfl, rfl⟩ ⟨Nat.zero_le _, Nat.zero_le _⟩ rfl (Nat.le_of_ble_eq_true rfl) dX12_row_55 ?_
        refine g_icmp_ge (pc := 58) C 70 dX12_row_58 rfl (fun h4 => ?_) (fun h4 => ?_)
        · refine g_bipush (pc := 70) (v := -2) C dX12_row_70 (by decide) ?_
          exact g_ireturn (pc := 72) C ⟨rfl, rfl⟩ dX12_row_72 (hend _ (by rw [if_neg h3, if_neg (Int32.not_lt.mpr h4)]))
        · have h4 := Int32.not_le.mp h4
          have h5 : 0 ≤ what := by
            refine Int32.not_lt.mp (fun z => h3 ?_)
            have a1 := Int32.le_iff_toInt_le.mp h2.1
            have a2 := ti_neg z
            apply Int32.toInt_inj.mp
            have a3 : (-1 : Int32).toInt = -1 := rfl
            omega
          obtain ⟨j, hj, rfl⟩ := nat_of (b := 6) (by omega) ⟨h5, h2.2⟩
          refine g_aload_n (pc := 61) C dX12_row_61 rfl ?_
          refine mg_68 (pc := 62) C hmA dX12_row_62 ?_
          refine g_iload_n (pc := 65) C dX12_row_65 rfl ?_
          refine n_iald (pc := 66) (k := 1018) (n := 8) C rfl rfl (m_z hmA rfl) isn_v rfl (by omega) dX12_row_66 ?_
          refine g_goto (pc := 67) C 72 dX12_row_67 rfl ?_
          exact g_ireturn (pc := 72) C ⟨rfl, rfl⟩ dX12_row_72 (hend _ (by rw [if_neg h3, if_pos h4, nI_clamp (by omega)]; rfl))
      · have h3 := Decidable.not_not.mp h3
        refine g_aload_n (pc := 46) C dX12_row_46 rfl ?_
        refine mg_403 (pc := 47) C hmA dX12_row_47 ?_
        refine g_goto (pc := 50) C 72 dX12_row_50 rfl ?_
        exact g_ireturn (pc := 72) C ⟨rfl, rfl⟩ dX12_row_72 (hend _ (by rw [if_pos h3]; rfl))
    · exact bad _ (fun q => bI_0.mp (Decidable.not_not.mp h2) q.2)
