/-! ===== the reference's texts: readsAll for CROSSINGS; rule, ferry ===== -/
theorem fxC.D {a b c : Nat → Nat → Int32} (h1 : fxC a b) (h2 : fxD b c) : fxC a c := fun k e f => (h2 k e).trans (h1 k e f)
def pxAC (S : St) (i : Nat → Int32) (a : Nat → Nat → Int32) (R : Except Nat (Nat × (Nat → Int32))) : Option Value → St → Prop := fun v S' => ∃ i' a', S' = s_setI (rdS S i' a') 1101 1000 (nI 0) ∧ fxI l7 i i' ∧ fxC a a' ∧ match R with
  | .error f => v = some (.int (nI 0)) ∧ i' 1109 = nI f
  | .ok (P, D) => v = some (.int (nI 1)) ∧ P ≤ 7 ∧ D 4 = nI P ∧ a' 1006 = D ∧ i' 1109 = 0
theorem c_X12_readsC (w : Wd) (l : Launch) (S : St) (L : Nat) (hx : gx_x S L) (i : Nat → Int32) (a : Nat → Nat → Int32) (D0 : Nat → Int32) (hi : i 1111 = nI 6) (hc : a 1006 = D0) (hc4 : D0 4 = nI 0) : gx_M w l yX12_readsAll cX12_readsAll 2 (some .boolean) rmX12_readsAll [.ref (ad (w_b w) 1000)] (rdS S i a) (pxAC S i a (rdC (s_A S 1001) L 401 0 0 0 D0)) := by
  have hL : L ≤ 400 := hx.2.1.2
  have hmA : ∀ i a, gx_m (rdS S i a) := fun i a => hx.1
  generalize hR : rdC (s_A S 1001) L 401 0 0 0 D0 = R
  refine gx_start rfl 1 rfl (Nat.le_of_ble_eq_true rfl) ?_
  intro X C _ hl
  subst hl
  refine gx_L (L' := [_, _]) rfl ?_
  /- the end, with a FAULT and without -/
  have finE : ∀ i2 a2 f z, fxI l7 i i2 → fxC a a2 → i2 1109 = nI f → 0 < f → f ≤ 8 * L + 8 → R = .error f → gx_G w X (rdS S i2 a2) 0 0 88 [some (.ref (ad (w_b w) 1000)), z] [] (gx_E w X (pxAC S i a R)) := by
    intro i2 a2 f z f2 g2 e2 h0 h1 hRf
    refine g_aload_n (pc := 88) C dX12_readsAll_88 rfl ?_
    refine g_iconst (pc := 89) (v := nI 0) C dX12_readsAll_89 (by decide) ?_
    refine mp_92 (pc := 90) C (hmA _ _) dX12_readsAll_90 ?_
    refine g_aload_n (pc := 93) C dX12_readsAll_93 rfl ?_
    refine mg_99 (pc := 94) C (by exact hx.1) dX12_readsAll_94 ?_
    refine gx_ti (y := nI f) e2 ?_
    refine g_if_ne (pc := 97) C 104 dX12_readsAll_97 rfl (fun cc => ?_) (fun cc => ?_)
    · refine g_iconst (pc := 104) (v := nI 0) C dX12_readsAll_104 (by decide) ?_
      rw [hRf]
      exact g_zreturn (pc := 105) C ⟨rfl, rfl⟩ (by first | exact Or.inl rfl | exact Or.inr rfl) dX12_readsAll_105 ⟨i2, a2, rfl, f2, g2, rfl, e2⟩
    · exact absurd (Decidable.not_not.mp cc) (nI_ne0 h0 (by omega))
  have finO : ∀ i2 a2 n c P D z, fxI l7 i i2 → fxC a a2 → dxs i2 a2 n c P D → R = .ok (P, D) → gx_G w X (rdS S i2 a2) 0 0 88 [some (.ref (ad (w_b w) 1000)), z] [] (gx_E w X (pxAC S i a R)) := by
    intro i2 a2 n c P D z f2 g2 h2 hRf
    refine g_aload_n (pc := 88) C dX12_readsAll_88 rfl ?_
    refine g_iconst (pc := 89) (v := nI 0) C dX12_readsAll_89 (by decide) ?_
    refine mp_92 (pc := 90) C (hmA _ _) dX12_readsAll_90 ?_
    refine g_aload_n (pc := 93) C dX12_readsAll_93 rfl ?_
    refine mg_99 (pc := 94) C (by exact hx.1) dX12_readsAll_94 ?_
    refine gx_ti (y := 0) h2.1.2.1 ?_
    refine g_if_ne (pc := 97) C 104 dX12_readsAll_97 rfl (fun cc => ?_) (fun cc => ?_)
    · exact absurd rfl cc
    · refine g_iconst (pc := 100) (v := nI 1) C dX12_readsAll_100 (by decide) ?_
      refine g_goto (pc := 101) C 105 dX12_readsAll_101 rfl ?_
      rw [hRf]
      exact g_zreturn (pc := 105) C ⟨rfl, rfl⟩ (by first | exact Or.inl rfl | exact Or.inr rfl) dX12_readsAll_105 ⟨i2, a2, rfl, f2, g2, rfl, h2.1.2.2.2.2, h2.1.2.2.2.1, h2.1.2.2.1, h2.1.2.1⟩
  have badE : ∀ i2 a2 f, fxI l7 i i2 → fxC a a2 → i2 1109 = nI f → 0 < f → f ≤ 8 * L + 8 → R = .error f → gx_G w X (rdS S i2 a2) 0 0 34 [some (.ref (ad (w_b w) 1000)), none] [.int (nI 0)] (gx_E w X (pxAC S i a R)) ∧ ∀ z, gx_G w X (rdS S i2 a2) 0 0 62 [some (.ref (ad (w_b w) 1000)), z] [.int (nI 0)] (gx_E w X (pxAC S i a R)) := by
    intro i2 a2 f f2 g2 e2 h0 h1 hRf
    have at35 : gx_G w X (rdS S i2 a2) 0 0 35 [some (.ref (ad (w_b w) 1000)), some (.int (nI 0))] [] (gx_E w X (pxAC S i a R)) := by
      refine g_iload_n (pc := 35) C dX12_readsAll_35 rfl ?_
      refine g_if_eq (pc := 36) C 66 dX12_readsAll_36 rfl (fun cc => ?_) (fun cc => ?_)
      · refine g_iload_n (pc := 66) C dX12_readsAll_66 rfl ?_
        refine g_if_eq (pc := 67) C 88 dX12_readsAll_67 rfl (fun c2 => ?_) (fun c2 => ?_)
        · exact finE i2 a2 f _ f2 g2 e2 h0 h1 hRf
        · exact absurd rfl c2
      · exact absurd rfl cc
    refine ⟨?_, fun z => ?_⟩
    · refine g_istore_n (pc := 34) (L' := [some (.ref _), _]) C dX12_readsAll_34 rfl rfl ?_
      exact at35
    · refine g_istore_n (pc := 62) (L' := [some (.ref _), _]) C dX12_readsAll_62 rfl rfl ?_
      refine g_goto (pc := 63) C 35 dX12_readsAll_63 rfl ?_
      exact at35
  have loop : ∀ e d n c P D i1 a1, L - n = e → e ≤ d → dxs i1 a1 n c P D → n ≤ L → c ≤ 40 → fxI l7 i i1 → fxC a a1 → (if seeV (s_A S 1001) L (skN (s_A S 1001) L n) = nI 59 then rdC (s_A S 1001) L d (skN (s_A S 1001) L n + 1) c P D else if seeV (s_A S 1001) L (skN (s_A S 1001) L n) = -1 then .ok (P, D) else .error (ftN 0 (skN (s_A S 1001) L n))) = R → gx_G w X (rdS S i1 a1) 0 0 35 [some (.ref (ad (w_b w) 1000)), some (.int (nI 1))] [] (gx_E w X (pxAC S i a R)) := by
    intro e
    induction e using Nat.strongRecOn with
    | _ e ih =>
      intro d n c P D i1 a1 he hed h1 hn hc40 f1 g1 hl2
      have hq1 := sk_ge (T := s_A S 1001) (L := L) (n := n)
      have hq2 := sk_L (T := s_A S 1001) hn
      have hqe : skN (s_A S 1001) L (skN (s_A S 1001) L n) = skN (s_A S 1001) L n := skN_idem
      refine g_iload_n (pc := 35) C dX12_readsAll_35 rfl ?_
      refine g_if_eq (pc := 36) C 66 dX12_readsAll_36 rfl (fun cc => ?_) (fun cc => ?_)
      · exact absurd cc (by decide)
      · refine g_aload_n (pc := 39) C dX12_readsAll_39 rfl ?_
        refine cf_X12_105 (pc := 40) C rfl (m_z (hmA _ _) rfl) (r_see _ _ S L hx i1 a1 n h1.1.1 (by omega)) ⟨rfl, rfl⟩ ⟨rfl, rfl⟩ ⟨Nat.zero_le _, Nat.zero_le _⟩ rfl (Nat.le_of_ble_eq_true rfl) dX12_readsAll_40 ?_
        refine g_bipush (pc := 43) (v := nI 59) C dX12_readsAll_43 (by decide) ?_
        generalize hq : skN (s_A S 1001) L n = q at *
        have h2 : dxs (u1 i1 1108 (nI q)) a1 q c P D := ⟨⟨rfl, h1.1.2⟩, h1.2⟩
        have f2 : fxI l7 i (u1 i1 1108 (nI q)) := f1.trans (fxI.u (by decide))
        generalize u1 i1 1108 (nI q) = i2 at h2 f2
        refine g_icmp_ne (pc := 45) C 66 dX12_readsAll_45 rfl (fun c1 => ?_) (fun c1 => ?_)
        · rw [if_neg c1] at hl2
          refine g_iload_n (pc := 66) C dX12_readsAll_66 rfl ?_
          refine g_if_eq (pc := 67) C 88 dX12_readsAll_67 rfl (fun c2 => ?_) (fun c2 => ?_)
          · exact absurd c2 (by decide)
          · refine g_aload_n (pc := 70) C dX12_readsAll_70 rfl ?_
            refine cf_X12_105 (pc := 71) C rfl (m_z (hmA _ _) rfl) (r_seeM _ _ S L hx i2 a1 q h2.1.1 (by omega) hqe) ⟨rfl, rfl⟩ ⟨rfl, rfl⟩ ⟨Nat.zero_le _, Nat.zero_le _⟩ rfl (Nat.le_of_ble_eq_true rfl) dX12_readsAll_71 ?_
            refine g_iconst (pc := 74) (v := -1) C dX12_readsAll_74 (by decide) ?_
            refine g_icmp_eq (pc := 75) C 88 dX12_readsAll_75 rfl (fun c3 => ?_) (fun c3 => ?_)
            · rw [if_pos c3] at hl2
              exact finO i2 a1 q c P D _ f2 g1 h2 hl2.symm
            · rw [if_neg c3] at hl2
              refine g_aload_n (pc := 78) C dX12_readsAll_78 rfl ?_
              refine g_iconst (pc := 79) (v := nI 0) C dX12_readsAll_79 (by decide) ?_
              refine g_aload_n (pc := 80) C dX12_readsAll_80 rfl ?_
              refine mg_102 (pc := 81) C (hmA _ _) dX12_readsAll_81 ?_
              refine gx_ti (y := nI q) h2.1.1 ?_
              refine cf_X12_123 (pc := 84) C rfl (m_z (hmA _ _) rfl) (r_fails _ _ S L hx i2 a1 h2.1.2.1 0 q) ⟨rfl, rfl⟩ ⟨rfl, rfl⟩ ⟨Nat.zero_le _, Nat.zero_le _⟩ rfl (Nat.le_of_ble_eq_true rfl) dX12_readsAll_84 ?_
              refine g_pop (pc := 87) C dX12_readsAll_87 rfl ?_
              exact finE _ a1 (ftN 0 q) _ (f2.trans (fxI.u (by decide))) g1 rfl (by unfold ftN; omega) (by unfold ftN; omega) hl2.symm
        · have c1 := Decidable.not_not.mp c1
          rw [if_pos c1] at hl2
          have hlt : q < L := by
            refine Nat.lt_of_not_le (fun z => ?_)
            rw [see_end z] at c1
            exact absurd c1 (by decide)
          obtain ⟨d, rfl⟩ : ∃ d0, d = d0 + 1 := ⟨d - 1, by omega⟩
          refine g_aload_n (pc := 48) C dX12_readsAll_48 rfl ?_
          refine g_dup (pc := 49) C dX12_readsAll_49 rfl ?_
          refine mg_102 (pc := 50) C (hmA _ _) dX12_readsAll_50 ?_
          refine gx_ti (y := nI q) h2.1.1 ?_
          refine g_iconst (pc := 53) (v := nI 1) C dX12_readsAll_53 (by decide) ?_
          refine g_iadd (pc := 54) C dX12_readsAll_54 ?_
          refine gx_ti (y := nI (q + 1)) (nI_add q 1) ?_
          refine mp_102 (pc := 55) C (hmA _ _) dX12_readsAll_55 ?_
          refine gx_S (S' := rdS S (u1 i2 1108 (nI (q + 1))) a1) (rd_I S i2 a1 1108 _ (by omega)) ?_
          have h3 : dxs (u1 i2 1108 (nI (q + 1))) a1 (q + 1) c P D := ⟨⟨rfl, h2.1.2⟩, h2.2⟩
          have f3 : fxI l7 i (u1 i2 1108 (nI (q + 1))) := f2.trans (fxI.u (by decide))
          generalize u1 i2 1108 (nI (q + 1)) = i3 at h3 f3
          refine g_aload_n (pc := 58) C dX12_readsAll_58 rfl ?_
          refine cg_X12_267 (pc := 59) C rfl (m_z (hmA _ _) rfl) (c_X12_clauseC _ _ S L hx i3 a1 (q + 1) c P D h3 (by omega) hc40) ⟨rfl, rfl⟩ ⟨Nat.zero_le _, Nat.zero_le _⟩ rfl (Nat.le_of_ble_eq_true rfl) dX12_readsAll_59 ?_
          rintro _ _ ⟨i4, a4, rfl, f4, g4, r4⟩
          have hok := clsC_ok (T := s_A S 1001) (L := L) (n := q + 1) (c := c) (D := D) (by omega) h3.1.2.2.2.2
          unfold rdC at hl2
          generalize clsC (s_A S 1001) L (q + 1) c P D = u at hl2 r4 hok
          cases u with
          | error f =>
            obtain ⟨rfl, r4⟩ := r4
            exact (badE i4 a4 f (f3.trans f4) (g1.D g4) r4 hok.1 hok.2 hl2.symm).2 _
          | ok p =>
            obtain ⟨n', P', D'⟩ := p
            obtain ⟨rfl, r4⟩ := r4
            obtain ⟨b1, b2, b3, b4⟩ := hok
            refine g_istore_n (pc := 62) (L' := [some (.ref _), _]) C dX12_readsAll_62 rfl rfl ?_
            refine g_goto (pc := 63) C 35 dX12_readsAll_63 rfl ?_
            exact ih (L - n') (by omega) d n' (c + 1) P' D' i4 a4 rfl (by omega) r4 b2 (by omega) (f3.trans f4) (g1.D g4) hl2
  refine g_aload_n (pc := 0) C dX12_readsAll_0 rfl ?_
  refine mg_17 (pc := 1) C (hmA _ _) dX12_readsAll_1 ?_
  refine g_aload_n (pc := 4) C dX12_readsAll_4 rfl ?_
  refine mg_158 (pc := 5) C (hmA _ _) dX12_readsAll_5 ?_
  refine gx_ti (y := nI 6) hi ?_
  refine g_iconst (pc := 8) (v := nI 0) C dX12_readsAll_8 (by decide) ?_
  refine n_iast (pc := 9) (k := 1003) (n := 7) C rfl rfl (m_z (hmA _ _) rfl) rfl rfl (by omega) dX12_readsAll_9 ?_
  refine gx_S (S' := rdS S i (u1 a 1003 (upd (a 1003) 6 (nI 0)))) (rd_A S i a 1003 _ (by omega)) ?_
  have g1 : fxC a (u1 a 1003 (upd (a 1003) 6 (nI 0))) := fun k _ e => if_neg e
  have k2 : (u1 a 1003 (upd (a 1003) 6 (nI 0))) 1006 = D0 := hc
  generalize u1 a 1003 (upd (a 1003) 6 (nI 0)) = a1 at g1 k2
  refine g_aload_n (pc := 10) C dX12_readsAll_10 rfl ?_
  refine g_iconst (pc := 11) (v := nI 0) C dX12_readsAll_11 (by decide) ?_
  refine mp_258 (pc := 12) C (hmA _ _) dX12_readsAll_12 ?_
  refine gx_S (S' := rdS S (u1 i 1114 (nI 0)) a1) (rd_I S i a1 1114 _ (by omega)) ?_
  refine g_aload_n (pc := 15) C dX12_readsAll_15 rfl ?_
  refine g_iconst (pc := 16) (v := nI 0) C dX12_readsAll_16 (by decide) ?_
  refine mp_102 (pc := 17) C (hmA _ _) dX12_readsAll_17 ?_
  refine gx_S (S' := rdS S (u1 (u1 i 1114 (nI 0)) 1108 (nI 0)) a1) (rd_I S _ a1 1108 _ (by omega)) ?_
  refine g_aload_n (pc := 20) C dX12_readsAll_20 rfl ?_
  refine g_iconst (pc := 21) (v := nI 0) C dX12_readsAll_21 (by decide) ?_
  refine mp_99 (pc := 22) C (hmA _ _) dX12_readsAll_22 ?_
  refine gx_S (S' := rdS S (u1 (u1 (u1 i 1114 (nI 0)) 1108 (nI 0)) 1109 (nI 0)) a1) (rd_I S _ a1 1109 _ (by omega)) ?_
  refine g_aload_n (pc := 25) C dX12_readsAll_25 rfl ?_
  refine g_iconst (pc := 26) (v := nI 0) C dX12_readsAll_26 (by decide) ?_
  refine mp_161 (pc := 27) C (hmA _ _) dX12_readsAll_27 ?_
  refine gx_S (S' := rdS S (u1 (u1 (u1 (u1 i 1114 (nI 0)) 1108 (nI 0)) 1109 (nI 0)) 1112 (nI 0)) a1) (rd_I S _ a1 1112 _ (by omega)) ?_
  have h1 : dxs (u1 (u1 (u1 (u1 i 1114 (nI 0)) 1108 (nI 0)) 1109 (nI 0)) 1112 (nI 0)) a1 0 0 0 D0 := ⟨⟨rfl, rfl, k2, hc4, by omega⟩, rfl, hi⟩
  have f1 : fxI l7 i (u1 (u1 (u1 (u1 i 1114 (nI 0)) 1108 (nI 0)) 1109 (nI 0)) 1112 (nI 0)) := (((fxI.u (by decide)).trans (fxI.u (by decide))).trans (fxI.u (by decide))).trans (fxI.u (by decide))
  generalize u1 (u1 (u1 (u1 i 1114 (nI 0)) 1108 (nI 0)) 1109 (nI 0)) 1112 (nI 0) = i1 at h1 f1
  refine g_aload_n (pc := 30) C dX12_readsAll_30 rfl ?_
  refine cg_X12_267 (pc := 31) C rfl (m_z (hmA _ _) rfl) (c_X12_clauseC _ _ S L hx i1 a1 0 0 0 D0 h1 (by omega) (by omega)) ⟨rfl, rfl⟩ ⟨Nat.zero_le _, Nat.zero_le _⟩ rfl (Nat.le_of_ble_eq_true rfl) dX12_readsAll_31 ?_
  rintro _ _ ⟨i4, a4, rfl, f4, g4, r4⟩
  have hok := clsC_ok (T := s_A S 1001) (L := L) (n := 0) (c := 0) (P := 0) (D := D0) (by omega) (by omega)
  unfold rdC at hR
  generalize clsC (s_A S 1001) L 0 0 0 D0 = u at hR r4 hok
  cases u with
  | error f =>
    obtain ⟨rfl, r4⟩ := r4
    exact (badE i4 a4 f (f1.trans f4) (g1.D g4) r4 hok.1 hok.2 hR.symm).1
  | ok p =>
    obtain ⟨n', P', D'⟩ := p
    obtain ⟨rfl, r4⟩ := r4
    obtain ⟨b1, b2, b3, b4⟩ := hok
    refine g_istore_n (pc := 34) (L' := [some (.ref _), _]) C dX12_readsAll_34 rfl rfl ?_
    exact loop (L - n') 400 n' 1 P' D' i4 a4 rfl (by omega) r4 b2 (by omega) (f1.trans f4) (g1.D g4) hR
theorem s_I_A (S : St) (f k : Nat) (v : Int32) (j : Nat) : s_A (s_setI S f k v) j = s_A S j := rfl
/-- a text becomes a RULE -/
def pxRule (S : St) (t : Nat) (R : Except Nat (List CL)) : Option Value → St → Prop := fun v S' => ∃ i' a', fxR t (s_A S) a' ∧ match R with
  | .error f => v = some (.int (-2 - nI f)) ∧ S' = s_setI (rdS S i' a') 1101 1000 (nI 0)
  | .ok cs => v = some (.int (nI t)) ∧ S' = s_setI (s_setI (rdS S i' a') 1101 1000 (nI 0)) 1102 1000 (nI (t + 1)) ∧ (flC cs).length ≤ 400 ∧ cs.length ≤ 12 ∧ a' 1005 t = nI cs.length ∧ rlC (a' 1004) t 0 0 cs ∧ ∀ j, j < (flC cs).length → a' 1002 (400 * t + j) = nI ((flC cs).getD j 0)
theorem c_X12_rule6 (w : Wd) (l : Launch) (S : St) (hm : gx_m S) (h6 : s_I S 1102 1000 = nI 6) : gx_M w l yX12_rule cX12_rule 1 (some .int) rmX12_rule [.ref (ad (w_b w) 1000)] S (pI (-1) S) := by
  refine gx_start rfl 0 rfl (Nat.le_of_ble_eq_true rfl) ?_
  intro X C _ hl
  subst hl
  refine gx_L (L' := [_]) rfl ?_
  refine g_aload_n (pc := 0) C dX12_rule_0 rfl ?_
  refine mg_270 (pc := 1) C (by exact hm) dX12_rule_1 ?_
  refine gx_ti (y := nI 6) h6 ?_
  refine g_bipush (pc := 4) (v := nI 6) C dX12_rule_4 (by decide) ?_
  refine g_icmp_ne (pc := 6) C 11 dX12_rule_6 rfl (fun c => ?_) (fun c => ?_)
  · exact absurd rfl c
  · refine g_iconst (pc := 9) (v := -1) C dX12_rule_9 (by decide) ?_
    exact g_ireturn (pc := 10) C ⟨rfl, rfl⟩ dX12_rule_10 ⟨rfl, rfl⟩
theorem c_X12_rule (w : Wd) (l : Launch) (S : St) (L : Nat) (hx : gx_x S L) (t : Nat) (ht6 : t < 6) (hr : s_I S 1102 1000 = nI t) : gx_M w l yX12_rule cX12_rule 1 (some .int) rmX12_rule [.ref (ad (w_b w) 1000)] S (pxRule S t (rdR (s_A S 1001) L 401 0 0 [])) := by
  have hmA : ∀ i a, gx_m (rdS S i a) := fun i a => hx.1
  have hm := hx.1
  refine gx_start rfl 0 rfl (Nat.le_of_ble_eq_true rfl) ?_
  intro X C _ hl
  subst hl
  refine gx_L (L' := [_]) rfl ?_
  refine g_aload_n (pc := 0) C dX12_rule_0 rfl ?_
  refine mg_270 (pc := 1) C (by exact hm) dX12_rule_1 ?_
  refine gx_ti (y := nI t) hr ?_
  refine g_bipush (pc := 4) (v := nI 6) C dX12_rule_4 (by decide) ?_
  refine g_icmp_ne (pc := 6) C 11 dX12_rule_6 rfl (fun c => ?_) (fun c => ?_)
  · refine gx_S (rd_id S).symm ?_
    refine g_aload_n (pc := 11) C dX12_rule_11 rfl ?_
    refine g_aload_n (pc := 12) C dX12_rule_12 rfl ?_
    refine mg_270 (pc := 13) C (hmA _ _) dX12_rule_13 ?_
    refine gx_ti (y := nI t) hr ?_
    refine mp_158 (pc := 16) C (hmA _ _) dX12_rule_16 ?_
    refine gx_S (S' := rdS S (u1 (fun f => s_I S f 1000) 1111 (nI t)) (s_A S)) (rd_I S _ _ 1111 _ (by omega)) ?_
    generalize hi : u1 (fun f => s_I S f 1000) 1111 (nI t) = i
    have ei : i 1111 = nI t := by rw [← hi]; rfl
    refine g_aload_n (pc := 19) C dX12_rule_19 rfl ?_
    refine mg_23 (pc := 20) C (hmA _ _) dX12_rule_20 ?_
    refine g_aload_n (pc := 23) C dX12_rule_23 rfl ?_
    refine mg_158 (pc := 24) C (hmA _ _) dX12_rule_24 ?_
    refine gx_ti (y := nI t) ei ?_
    refine g_iconst (pc := 27) (v := nI 0) C dX12_rule_27 (by decide) ?_
    refine n_iast (pc := 28) (k := 1005) (n := 6) C rfl rfl (m_z (hmA _ _) rfl) rfl rfl (by omega) dX12_rule_28 ?_
    refine gx_S (S' := rdS S i (u1 (s_A S) 1005 (upd (s_A S 1005) t (nI 0)))) (rd_A S i (s_A S) 1005 _ (by omega)) ?_
    have g1 : fxR t (s_A S) (u1 (s_A S) 1005 (upd (s_A S 1005) t (nI 0))) := ⟨rfl, fun _ _ => rfl, fun _ _ => rfl, fun q e => pk_un (f := s_A S 1005) e⟩
    have k1 : (u1 (s_A S) 1005 (upd (s_A S 1005) t (nI 0))) 1005 t = nI 0 := pk_us (f := s_A S 1005)
    generalize u1 (s_A S) 1005 (upd (s_A S 1005) t (nI 0)) = a at g1 k1
    refine g_aload_n (pc := 29) C dX12_rule_29 rfl ?_
    refine cg_X12_273 (pc := 30) C rfl (m_z (hmA _ _) rfl) (c_X12_readsR _ _ S L hx t ht6 i a ei k1) ⟨rfl, rfl⟩ ⟨Nat.zero_le _, Nat.zero_le _⟩ rfl (Nat.le_of_ble_eq_true rfl) dX12_rule_30 ?_
    rintro _ _ ⟨i', a', rfl, f2, g2, r2⟩
    generalize rdR (s_A S 1001) L 401 0 0 [] = R at r2 ⊢
    cases R with
    | error f =>
      obtain ⟨rfl, r2⟩ := r2
      refine g_if_ne (pc := 33) C 44 dX12_rule_33 rfl (fun c2 => ?_) (fun c2 => ?_)
      · exact absurd rfl c2
      · refine g_bipush (pc := 36) (v := -2) C dX12_rule_36 (by decide) ?_
        refine g_aload_n (pc := 38) C dX12_rule_38 rfl ?_
        refine mg_99 (pc := 39) C (by exact hx.1) dX12_rule_39 ?_
        refine gx_ti (y := nI f) r2 ?_
        refine g_isub (pc := 42) C dX12_rule_42 ?_
        exact g_ireturn (pc := 43) C ⟨rfl, rfl⟩ dX12_rule_43 ⟨i', a', g1.trans g2, rfl, rfl⟩
    | ok cs =>
      obtain ⟨rfl, n, m, hn, hl, hc, h2⟩ := r2
      refine g_if_ne (pc := 33) C 44 dX12_rule_33 rfl (fun c2 => ?_) (fun c2 => ?_)
      · refine g_aload_n (pc := 44) C dX12_rule_44 rfl ?_
        refine g_dup (pc := 45) C dX12_rule_45 rfl ?_
        refine mg_270 (pc := 46) C (by exact hx.1) dX12_rule_46 ?_
        refine gx_ti (y := nI t) hr ?_
        refine g_iconst (pc := 49) (v := nI 1) C dX12_rule_49 (by decide) ?_
        refine g_iadd (pc := 50) C dX12_rule_50 ?_
        refine gx_ti (y := nI (t + 1)) (nI_add t 1) ?_
        refine mp_270 (pc := 51) C (by exact hx.1) dX12_rule_51 ?_
        refine g_aload_n (pc := 54) C dX12_rule_54 rfl ?_
        refine mg_270 (pc := 55) C (by exact hx.1) dX12_rule_55 ?_
        refine gx_ti (y := nI (t + 1)) rfl ?_
        refine g_iconst (pc := 58) (v := nI 1) C dX12_rule_58 (by decide) ?_
        refine g_isub (pc := 59) C dX12_rule_59 ?_
        refine gx_ti (y := nI t) (nI_pred t) ?_
        exact g_ireturn (pc := 60) C ⟨rfl, rfl⟩ dX12_rule_60 ⟨i', a', g1.trans g2, rfl, rfl, by omega, hc, h2.2.2.1, h2.2.2.2, h2.1.2.2.2.2.2⟩
      · exact absurd (fun q => absurd q (by decide)) c2
  · exact absurd ((nI_eq (by omega) (by omega)).mp (Decidable.not_not.mp c)) (by omega)
def zroF (r : Nat → Int32) (n : Nat) : Nat → Int32 := fun j => if j < n then nI 0 else r j
theorem zroF_s {r : Nat → Int32} {n : Nat} : upd (zroF r n) n (nI 0) = zroF r (n + 1) := by
  funext j; simp only [upd, zroF]
  by_cases e : j = n
  · subst e; rw [if_pos rfl, if_pos (by omega)]
  · rw [if_neg e]
    by_cases h : j < n
    · rw [if_pos h, if_pos (by omega)]
    · rw [if_neg h, if_neg (by omega)]
theorem zroF_0 {r : Nat → Int32} : zroF r 0 = r := by
  funext j; simp [zroF]
/-- what is said behind a CROSSING's text: what was read, no NOTES -/
def nsF (D r : Nat → Int32) (n : Nat) : Nat → Int32 := fun j => if j < n then (if j < 159 then D j else nI 0) else r j
theorem nsF_s {D r : Nat → Int32} {n : Nat} : upd (nsF D r n) n (if n < 159 then D n else nI 0) = nsF D r (n + 1) := by
  funext j; simp only [upd, nsF]
  by_cases e : j = n
  · subst e; rw [if_pos rfl, if_pos (show j < j + 1 by omega)]
  · rw [if_neg e]
    by_cases h : j < n
    · rw [if_pos h, if_pos (show j < n + 1 by omega)]
    · rw [if_neg h, if_neg (show ¬ j < n + 1 by omega)]
theorem nsF_0 {D r : Nat → Int32} : nsF D r 0 = r := by
  funext j; simp [nsF]
def pxFerry (S : St) (R : Except Nat (Nat × (Nat → Int32))) : Option Value → St → Prop := fun v S' => ∃ i' a', fxC (s_A S) a' ∧ match R with
  | .error f => v = some (.int (-2 - nI f)) ∧ S' = s_setI (rdS S i' a') 1101 1000 (nI 0)
  | .ok (P, D) => v = some (.int (nI P)) ∧ P ≤ 7 ∧ D 4 = nI P ∧ S' = s_setI (s_setA (s_setI (rdS S i' a') 1101 1000 (nI 0)) 1010 (begF (nsF D (s_A S 1010) 190))) 1125 1000 (nI 0)
theorem c_X12_ferry (w : Wd) (l : Launch) (S : St) (L : Nat) (hx : gx_x S L) : gx_M w l yX12_ferry cX12_ferry 2 (some .int) rmX12_ferry [.ref (ad (w_b w) 1000)] S (pxFerry S (rdC (s_A S 1001) L 401 0 0 0 (zroF (s_A S 1006) 159))) := by
  have hmA : ∀ i a, gx_m (rdS S i a) := fun i a => hx.1
  have hm := hx.1
  generalize hR : rdC (s_A S 1001) L 401 0 0 0 (zroF (s_A S 1006) 159) = R
  refine gx_start rfl 1 rfl (Nat.le_of_ble_eq_true rfl) ?_
  intro X C _ hl
  subst hl
  refine gx_L (L' := [_, _]) rfl ?_
  refine gx_S (rd_id S).symm ?_
  refine g_aload_n (pc := 0) C dX12_ferry_0 rfl ?_
  refine g_bipush (pc := 1) (v := nI 6) C dX12_ferry_1 (by decide) ?_
  refine mp_158 (pc := 3) C (hmA _ _) dX12_ferry_3 ?_
  refine gx_S (S' := rdS S (u1 (fun f => s_I S f 1000) 1111 (nI 6)) (s_A S)) (rd_I S _ _ 1111 _ (by omega)) ?_
  generalize hi : u1 (fun f => s_I S f 1000) 1111 (nI 6) = i
  have ei : i 1111 = nI 6 := by rw [← hi]; rfl
  refine g_iconst (pc := 6) (v := nI 0) C dX12_ferry_6 (by decide) ?_
  refine g_istore_n (pc := 7) (L' := [some (.ref _), _]) C dX12_ferry_7 rfl rfl ?_
  have loop : ∀ d n, n + d = 159 → gx_G w X (rdS S i (u1 (s_A S) 1006 (zroF (s_A S 1006) n))) 0 0 8 [some (.ref (ad (w_b w) 1000)), some (.int (nI n))] [] (gx_E w X (pxFerry S R)) := by
    intro d
    induction d with
    | zero =>
      intro n hn
      have hn : n = 159 := hn
      subst hn
      refine g_iload_n (pc := 8) C dX12_ferry_8 rfl ?_
      refine g_sipush (pc := 9) (v := nI 159) C dX12_ferry_9 (by decide) ?_
      refine g_icmp_ge (pc := 12) C 28 dX12_ferry_12 rfl (fun c => ?_) (fun c => ?_)
      · have g1 : fxC (s_A S) (u1 (s_A S) 1006 (zroF (s_A S 1006) 159)) := fun k e _ => if_neg e
        have k1 : (u1 (s_A S) 1006 (zroF (s_A S 1006) 159)) 1006 = zroF (s_A S 1006) 159 := rfl
        generalize u1 (s_A S) 1006 (zroF (s_A S 1006) 159) = a at g1 k1
        refine g_aload_n (pc := 28) C dX12_ferry_28 rfl ?_
        refine cg_X12_273 (pc := 29) C rfl (m_z (hmA _ _) rfl) (c_X12_readsC _ _ S L hx i a (zroF (s_A S 1006) 159) ei k1 rfl) ⟨rfl, rfl⟩ ⟨Nat.zero_le _, Nat.zero_le _⟩ rfl (Nat.le_of_ble_eq_true rfl) dX12_ferry_29 ?_
        rintro _ _ ⟨i', a', rfl, f2, g2, r2⟩
        rw [hR] at r2
        have g3 : fxC (s_A S) a' := fun k e f => (g2 k e f).trans (g1 k e f)
        cases R with
        | error f =>
          obtain ⟨rfl, r2⟩ := r2
          refine g_if_ne (pc := 32) C 43 dX12_ferry_32 rfl (fun c2 => ?_) (fun c2 => ?_)
          · exact absurd rfl c2
          · refine g_bipush (pc := 35) (v := -2) C dX12_ferry_35 (by decide) ?_
            refine g_aload_n (pc := 37) C dX12_ferry_37 rfl ?_
            refine mg_99 (pc := 38) C (by exact hx.1) dX12_ferry_38 ?_
            refine gx_ti (y := nI f) r2 ?_
            refine g_isub (pc := 41) C dX12_ferry_41 ?_
            exact g_ireturn (pc := 42) C ⟨rfl, rfl⟩ dX12_ferry_42 ⟨i', a', g3, rfl, rfl⟩
        | ok p =>
          obtain ⟨P, D⟩ := p
          obtain ⟨rfl, hP7, hD4, hD, h0⟩ := r2
          refine g_if_ne (pc := 32) C 43 dX12_ferry_32 rfl (fun c2 => ?_) (fun c2 => ?_)
          · refine g_iconst (pc := 43) (v := nI 0) C dX12_ferry_43 (by decide) ?_
            refine g_istore_n (pc := 44) (L' := [some (.ref _), _]) C dX12_ferry_44 rfl rfl ?_
            have e10 : a' 1010 = s_A S 1010 := g3 1010 (by decide) (by decide)
            have loop2 : ∀ d n, n + d = 190 → gx_G w X (s_setA (s_setI (rdS S i' a') 1101 1000 (nI 0)) 1010 (nsF D (s_A S 1010) n)) 0 0 45 [some (.ref (ad (w_b w) 1000)), some (.int (nI n))] [] (gx_E w X (pxFerry S (.ok (P, D)))) := by
              intro d
              induction d with
              | zero =>
                intro n hn
                have hn : n = 190 := hn
                subst hn
                refine g_iload_n (pc := 45) C dX12_ferry_45 rfl ?_
                refine g_sipush (pc := 46) (v := nI 190) C dX12_ferry_46 (by decide) ?_
                refine g_icmp_ge (pc := 49) C 81 dX12_ferry_49 rfl (fun c3 => ?_) (fun c3 => ?_)
                · refine g_aload_n (pc := 81) C dX12_ferry_81 rfl ?_
                  refine cf_X12_276 (pc := 82) C rfl (m_z (by exact hx.1) rfl) (c_X12_begins _ _ _ (by exact hx.1)) ⟨rfl, rfl⟩ ⟨rfl, rfl⟩ ⟨Nat.zero_le _, Nat.zero_le _⟩ rfl (Nat.le_of_ble_eq_true rfl) dX12_ferry_82 ?_
                  refine gx_S (S' := s_setA (s_setI (rdS S i' a') 1101 1000 (nI 0)) 1010 (begF (nsF D (s_A S 1010) 190))) (s_AA _ _ _ _) ?_
                  refine g_aload_n (pc := 85) C dX12_ferry_85 rfl ?_
                  refine g_iconst (pc := 86) (v := nI 0) C dX12_ferry_86 (by decide) ?_
                  refine mp_279 (pc := 87) C (by exact hx.1) dX12_ferry_87 ?_
                  refine g_aload_n (pc := 90) C dX12_ferry_90 rfl ?_
                  refine mg_39 (pc := 91) C (by exact hx.1) dX12_ferry_91 ?_
                  refine g_iconst (pc := 94) (v := nI 4) C dX12_ferry_94 (by decide) ?_
                  refine n_iald (pc := 95) (k := 1010) (n := 190) C rfl rfl (m_z (by exact hx.1) rfl) isn_v rfl (by omega) dX12_ferry_95 ?_
                  refine gx_ti (y := nI P) hD4 ?_
                  exact g_ireturn (pc := 96) C ⟨rfl, rfl⟩ dX12_ferry_96 ⟨i', a', g3, rfl, hP7, hD4, rfl⟩
                · exact absurd (nI_le (Nat.le_refl 190) (by omega)) c3
              | succ d ih =>
                intro n hn
                refine g_iload_n (pc := 45) C dX12_ferry_45 rfl ?_
                refine g_sipush (pc := 46) (v := nI 190) C dX12_ferry_46 (by decide) ?_
                refine g_icmp_ge (pc := 49) C 81 dX12_ferry_49 rfl (fun c3 => ?_) (fun c3 => ?_)
                · exact absurd c3 (nI_ge (by omega) (by omega))
                · have st : ∀ x, x = (if n < 159 then D n else nI 0) → gx_G w X (s_setA (s_setI (rdS S i' a') 1101 1000 (nI 0)) 1010 (nsF D (s_A S 1010) n)) 0 0 74 [some (.ref (ad (w_b w) 1000)), some (.int (nI n))] [.int x, .int (nI n), .ref (ad (w_b w) 1010)] (gx_E w X (pxFerry S (.ok (P, D)))) := by
                    intro x hx2
                    subst hx2
                    refine n_iast (pc := 74) (k := 1010) (n := 190) C rfl rfl (m_z (by exact hx.1) rfl) isn_v rfl (by omega) dX12_ferry_74 ?_
                    refine gx_S (S' := s_setA (s_setI (rdS S i' a') 1101 1000 (nI 0)) 1010 (nsF D (s_A S 1010) (n + 1))) (by rw [s_AA]; exact congrArg _ nsF_s) ?_
                    refine g_iinc (pc := 75) (L' := [some (.ref _), _]) C dX12_ferry_75 rfl (nI_1 _) rfl ?_
                    refine g_goto (pc := 78) C 45 dX12_ferry_78 rfl ?_
                    exact ih (n + 1) (by omega)
                  refine g_aload_n (pc := 52) C dX12_ferry_52 rfl ?_
                  refine mg_39 (pc := 53) C (by exact hx.1) dX12_ferry_53 ?_
                  refine g_iload_n (pc := 56) C dX12_ferry_56 rfl ?_
                  refine g_iload_n (pc := 57) C dX12_ferry_57 rfl ?_
                  refine g_sipush (pc := 58) (v := nI 159) C dX12_ferry_58 (by decide) ?_
                  refine g_icmp_ge (pc := 61) C 73 dX12_ferry_61 rfl (fun c4 => ?_) (fun c4 => ?_)
                  · have c4 : 159 ≤ n := (nI_leI (by omega) (by omega)).mp c4
                    refine g_iconst (pc := 73) (v := nI 0) C dX12_ferry_73 (by decide) ?_
                    exact st _ (by rw [if_neg (by omega)])
                  · have c4 : n < 159 := Nat.lt_of_not_le (fun q => c4 (nI_le q (by omega)))
                    refine g_aload_n (pc := 64) C dX12_ferry_64 rfl ?_
                    refine mg_26 (pc := 65) C (by exact hx.1) dX12_ferry_65 ?_
                    refine g_iload_n (pc := 68) C dX12_ferry_68 rfl ?_
                    refine n_iald (pc := 69) (k := 1006) (n := 159) C rfl rfl (m_z (by exact hx.1) rfl) isn_v rfl (by omega) dX12_ferry_69 ?_
                    refine gx_ti (y := D n) (congrFun hD n) ?_
                    refine g_goto (pc := 70) C 74 dX12_ferry_70 rfl ?_
                    exact st _ (by rw [if_pos c4])
            refine gx_S ?_ (loop2 190 0 rfl)
            rw [nsF_0]
            have : s_A (s_setI (rdS S i' a') 1101 1000 (nI 0)) 1010 = s_A S 1010 := rfl
            rw [← this, s_A_id]
          · exact absurd (fun q => absurd q (by decide)) c2
      · exact absurd (nI_le (Nat.le_refl 159) (by omega)) c
    | succ d ih =>
      intro n hn
      refine g_iload_n (pc := 8) C dX12_ferry_8 rfl ?_
      refine g_sipush (pc := 9) (v := nI 159) C dX12_ferry_9 (by decide) ?_
      refine g_icmp_ge (pc := 12) C 28 dX12_ferry_12 rfl (fun c => ?_) (fun c => ?_)
      · exact absurd c (nI_ge (by omega) (by omega))
      · refine g_aload_n (pc := 15) C dX12_ferry_15 rfl ?_
        refine mg_26 (pc := 16) C (hmA _ _) dX12_ferry_16 ?_
        refine g_iload_n (pc := 19) C dX12_ferry_19 rfl ?_
        refine g_iconst (pc := 20) (v := nI 0) C dX12_ferry_20 (by decide) ?_
        refine n_iast (pc := 21) (k := 1006) (n := 159) C rfl rfl (m_z (hmA _ _) rfl) isn_v rfl (by omega) dX12_ferry_21 ?_
        refine gx_S (S' := rdS S i (u1 (s_A S) 1006 (zroF (s_A S 1006) (n + 1)))) ?_ ?_
        · rw [rd_A S i _ 1006 _ (by omega)]
          refine congrArg (rdS S i) ?_
          funext k
          show (if k = 1006 then upd (zroF (s_A S 1006) n) n (nI 0) else (if k = 1006 then _ else s_A S k)) = (if k = 1006 then _ else s_A S k)
          by_cases e : k = 1006
          · rw [if_pos e, if_pos e, zroF_s]
          · rw [if_neg e, if_neg e, if_neg e]
        refine g_iinc (pc := 22) (L' := [some (.ref _), _]) C dX12_ferry_22 rfl (nI_1 _) rfl ?_
        refine g_goto (pc := 25) C 8 dX12_ferry_25 rfl ?_
        exact ih (n + 1) (by omega)
  refine gx_S ?_ (loop 159 0 rfl)
  rw [zroF_0]
  refine congrArg (rdS S i) ?_
  funext k
  show s_A S k = (if k = 1006 then s_A S 1006 else s_A S k)
  by_cases e : k = 1006
  · rw [if_pos e, e]
  · rw [if_neg e]
