/-! ===== the reference's texts: readsAll, rule, ferry ===== -/
theorem rdR_err {T : Nat → Int32} {L : Nat} (hL : L ≤ 400) : ∀ (d n m : Nat) (cs : List CL) (f : Nat), n ≤ L → m ≤ 60 → cs.length ≤ 12 → L - n < d → rdR T L d n m cs = .error f → 0 < f ∧ f ≤ 8 * L + 8 := by
  intro d
  induction d with
  | zero => intro n m cs f _ _ _ h; omega
  | succ d ih =>
    intro n m cs f hn hm hc hd h
    have h1 := clsR_ok (T := T) hL hn hm hc
    unfold rdR at h
    generalize clsR T L n m cs.length = u at h h1
    cases u with
    | error g => cases h; exact h1
    | ok p =>
      obtain ⟨n', m', q⟩ := p
      obtain ⟨b1, b2, b3, b4, b5⟩ := h1
      have hq1 := sk_ge (T := T) (L := L) (n := n')
      have hq2 := sk_L (T := T) b2
      have h : (if seeV T L (skN T L n') = nI 59 then rdR T L d (skN T L n' + 1) m' (cs ++ [q]) else if seeV T L (skN T L n') = -1 then .ok (cs ++ [q]) else .error (ftN 0 (skN T L n'))) = .error f := h
      by_cases e : seeV T L (skN T L n') = nI 59
      · rw [if_pos e] at h
        have hlt : skN T L n' < L := by
          refine Nat.lt_of_not_le (fun z => ?_)
          rw [see_end z] at e
          exact absurd e (by decide)
        have hl : (cs ++ [q]).length = cs.length + 1 := List.length_append
        exact ih _ _ _ f (by omega) b3 (by omega) (by omega) h
      · rw [if_neg e] at h
        by_cases e2 : seeV T L (skN T L n') = -1
        · rw [if_pos e2] at h; cases h
        · rw [if_neg e2] at h; cases h; unfold ftN; omega
theorem rdC_err {T : Nat → Int32} {L : Nat} : ∀ (d n c P : Nat) (D : Nat → Int32) (f : Nat), n ≤ L → P ≤ 7 → L - n < d → rdC T L d n c P D = .error f → 0 < f ∧ f ≤ 8 * L + 8 := by
  intro d
  induction d with
  | zero => intro n c P D f _ _ h; omega
  | succ d ih =>
    intro n c P D f hn hP hd h
    have h1 := clsC_ok (T := T) (c := c) (D := D) hn hP
    unfold rdC at h
    generalize clsC T L n c P D = u at h h1
    cases u with
    | error g => cases h; exact h1
    | ok p =>
      obtain ⟨n', P', D'⟩ := p
      obtain ⟨b1, b2, b3, b4⟩ := h1
      have hq1 := sk_ge (T := T) (L := L) (n := n')
      have hq2 := sk_L (T := T) b2
      have h : (if seeV T L (skN T L n') = nI 59 then rdC T L d (skN T L n' + 1) (c + 1) P' D' else if seeV T L (skN T L n') = -1 then .ok (P', D') else .error (ftN 0 (skN T L n'))) = .error f := h
      by_cases e : seeV T L (skN T L n') = nI 59
      · rw [if_pos e] at h
        have hlt : skN T L n' < L := by
          refine Nat.lt_of_not_le (fun z => ?_)
          rw [see_end z] at e
          exact absurd e (by decide)
        exact ih _ _ _ _ f (by omega) b3 (by omega) h
      · rw [if_neg e] at h
        by_cases e2 : seeV T L (skN T L n') = -1
        · rw [if_pos e2] at h; cases h
        · rw [if_neg e2] at h; cases h; unfold ftN; omega
def pxAR (S : St) (t : Nat) (i : Nat → Int32) (a : Nat → Nat → Int32) (R : Except Nat (List CL)) : Option Value → St → Prop := fun v S' => ∃ i' a', S' = s_setI (rdS S i' a') 1101 1000 (nI 0) ∧ fxI l7 i i' ∧ fxR t a a' ∧ match R with
  | .error f => v = some (.int (nI 0)) ∧ i' 1109 = nI f
  | .ok cs => v = some (.int (nI 1)) ∧ ∃ n m, n ≤ 400 ∧ (flC cs).length ≤ n ∧ cs.length ≤ 12 ∧ tcs t i' a' n m cs
theorem c_X12_readsR (w : Wd) (l : Launch) (S : St) (L : Nat) (hx : gx_x S L) (t : Nat) (ht6 : t < 6) (i : Nat → Int32) (a : Nat → Nat → Int32) (hi : i 1111 = nI t) (hc : a 1005 t = nI 0) : gx_M w l yX12_readsAll cX12_readsAll 2 (some .boolean) rmX12_readsAll [.ref (ad (w_b w) 1000)] (rdS S i a) (pxAR S t i a (rdR (s_A S 1001) L 401 0 0 [])) := by
  have hL : L ≤ 400 := hx.2.1.2
  have hmA : ∀ i a, gx_m (rdS S i a) := fun i a => hx.1
  generalize hR : rdR (s_A S 1001) L 401 0 0 [] = R
  refine gx_start rfl 1 rfl (Nat.le_of_ble_eq_true rfl) ?_
  intro X C _ hl
  subst hl
  refine gx_L (L' := [_, _]) rfl ?_
  /- the end, with a FAULT and without -/
  have finE : ∀ i2 a2 f z, fxI l7 i i2 → fxR t a a2 → i2 1109 = nI f → 0 < f → f ≤ 8 * L + 8 → R = .error f → gx_G w X (rdS S i2 a2) 0 0 88 [some (.ref (ad (w_b w) 1000)), z] [] (gx_E w X (pxAR S t i a R)) := by
    intro i2 a2 f z f2 g2 e2 h0 h1 hRf
    refine g_aload_n (pc := 88) C dX12_readsAll_88 rfl ?_
    refine g_iconst (pc := 89) (v := nI 0) C dX12_readsAll_89 (by decide) ?_
    refine mp_92 (pc := 90) C (hmA _ _) dX12_readsAll_90 ?_
    refine g_aload_n (pc := 93) C dX12_readsAll_93 rfl ?_
    refine mg_99 (pc := 94) C (by exact hx.1) dX12_readsAll_94 ?_
    refine gx_ti (y := nI f) e2 ?_
    refine g_if_ne (pc := 97) C 104 dX12_readsAll_97 rfl (fun c => ?_) (fun c => ?_)
    · refine g_iconst (pc := 104) (v := nI 0) C dX12_readsAll_104 (by decide) ?_
      rw [hRf]
      exact g_zreturn (pc := 105) C ⟨rfl, rfl⟩ (by first | exact Or.inl rfl | exact Or.inr rfl) dX12_readsAll_105 ⟨i2, a2, rfl, f2, g2, rfl, e2⟩
    · exact absurd (Decidable.not_not.mp c) (nI_ne0 h0 (by omega))
  have finO : ∀ i2 a2 n m cs z, fxI l7 i i2 → fxR t a a2 → tcs t i2 a2 n m cs → n ≤ 400 → (flC cs).length ≤ n → cs.length ≤ 12 → R = .ok cs → gx_G w X (rdS S i2 a2) 0 0 88 [some (.ref (ad (w_b w) 1000)), z] [] (gx_E w X (pxAR S t i a R)) := by
    intro i2 a2 n m cs z f2 g2 h2 hn hl hc hRf
    refine g_aload_n (pc := 88) C dX12_readsAll_88 rfl ?_
    refine g_iconst (pc := 89) (v := nI 0) C dX12_readsAll_89 (by decide) ?_
    refine mp_92 (pc := 90) C (hmA _ _) dX12_readsAll_90 ?_
    refine g_aload_n (pc := 93) C dX12_readsAll_93 rfl ?_
    refine mg_99 (pc := 94) C (by exact hx.1) dX12_readsAll_94 ?_
    refine gx_ti (y := 0) h2.1.2.1 ?_
    refine g_if_ne (pc := 97) C 104 dX12_readsAll_97 rfl (fun c => ?_) (fun c => ?_)
    · exact absurd rfl c
    · refine g_iconst (pc := 100) (v := nI 1) C dX12_readsAll_100 (by decide) ?_
      refine g_goto (pc := 101) C 105 dX12_readsAll_101 rfl ?_
      rw [hRf]
      exact g_zreturn (pc := 105) C ⟨rfl, rfl⟩ (by first | exact Or.inl rfl | exact Or.inr rfl) dX12_readsAll_105 ⟨i2, a2, rfl, f2, g2, rfl, n, m, hn, hl, hc, h2⟩
  have badE : ∀ i2 a2 f, fxI l7 i i2 → fxR t a a2 → i2 1109 = nI f → 0 < f → f ≤ 8 * L + 8 → R = .error f → gx_G w X (rdS S i2 a2) 0 0 34 [some (.ref (ad (w_b w) 1000)), none] [.int (nI 0)] (gx_E w X (pxAR S t i a R)) ∧ ∀ z, gx_G w X (rdS S i2 a2) 0 0 62 [some (.ref (ad (w_b w) 1000)), z] [.int (nI 0)] (gx_E w X (pxAR S t i a R)) := by
    intro i2 a2 f f2 g2 e2 h0 h1 hRf
    have at35 : gx_G w X (rdS S i2 a2) 0 0 35 [some (.ref (ad (w_b w) 1000)), some (.int (nI 0))] [] (gx_E w X (pxAR S t i a R)) := by
      refine g_iload_n (pc := 35) C dX12_readsAll_35 rfl ?_
      refine g_if_eq (pc := 36) C 66 dX12_readsAll_36 rfl (fun c => ?_) (fun c => ?_)
      · refine g_iload_n (pc := 66) C dX12_readsAll_66 rfl ?_
        refine g_if_eq (pc := 67) C 88 dX12_readsAll_67 rfl (fun c2 => ?_) (fun c2 => ?_)
        · exact finE i2 a2 f _ f2 g2 e2 h0 h1 hRf
        · exact absurd rfl c2
      · exact absurd rfl c
    refine ⟨?_, fun z => ?_⟩
    · refine g_istore_n (pc := 34) (L' := [some (.ref _), _]) C dX12_readsAll_34 rfl rfl ?_
      exact at35
    · refine g_istore_n (pc := 62) (L' := [some (.ref _), _]) C dX12_readsAll_62 rfl rfl ?_
      refine g_goto (pc := 63) C 35 dX12_readsAll_63 rfl ?_
      exact at35
  have loop : ∀ e d n m cs i1 a1, L - n = e → e ≤ d → tcs t i1 a1 n m cs → n ≤ L → (flC cs).length ≤ n → m ≤ 60 → cs.length ≤ 12 → fxI l7 i i1 → fxR t a a1 → (if seeV (s_A S 1001) L (skN (s_A S 1001) L n) = nI 59 then rdR (s_A S 1001) L d (skN (s_A S 1001) L n + 1) m cs else if seeV (s_A S 1001) L (skN (s_A S 1001) L n) = -1 then .ok cs else .error (ftN 0 (skN (s_A S 1001) L n))) = R → gx_G w X (rdS S i1 a1) 0 0 35 [some (.ref (ad (w_b w) 1000)), some (.int (nI 1))] [] (gx_E w X (pxAR S t i a R)) := by
    intro e
    induction e using Nat.strongRecOn with
    | _ e ih =>
      intro d n m cs i1 a1 he hed h1 hn hl hm hc12 f1 g1 hl2
      have hq1 := sk_ge (T := s_A S 1001) (L := L) (n := n)
      have hq2 := sk_L (T := s_A S 1001) hn
      have hqe : skN (s_A S 1001) L (skN (s_A S 1001) L n) = skN (s_A S 1001) L n := skN_idem
      refine g_iload_n (pc := 35) C dX12_readsAll_35 rfl ?_
      refine g_if_eq (pc := 36) C 66 dX12_readsAll_36 rfl (fun c => ?_) (fun c => ?_)
      · exact absurd c (by decide)
      · refine g_aload_n (pc := 39) C dX12_readsAll_39 rfl ?_
        refine cf_X12_105 (pc := 40) C rfl (m_z (hmA _ _) rfl) (r_see _ _ S L hx i1 a1 n h1.1.1 (by omega)) ⟨rfl, rfl⟩ ⟨rfl, rfl⟩ ⟨Nat.zero_le _, Nat.zero_le _⟩ rfl (Nat.le_of_ble_eq_true rfl) dX12_readsAll_40 ?_
        refine g_bipush (pc := 43) (v := nI 59) C dX12_readsAll_43 (by decide) ?_
        generalize hq : skN (s_A S 1001) L n = q at *
        have h2 : tcs t (u1 i1 1108 (nI q)) a1 q m cs := ⟨tx_u h1.1 rfl rfl rfl h1.1.2.2.2.1, h1.2⟩
        have f2 : fxI l7 i (u1 i1 1108 (nI q)) := f1.trans (fxI.u (by decide))
        generalize u1 i1 1108 (nI q) = i2 at h2 f2
        refine g_icmp_ne (pc := 45) C 66 dX12_readsAll_45 rfl (fun c1 => ?_) (fun c1 => ?_)
        · rw [if_neg c1] at hl2
          refine g_iload_n (pc := 66) C dX12_readsAll_66 rfl ?_
          refine g_if_eq (pc := 67) C 88 dX12_readsAll_67 rfl (fun c2 => ?_) (fun c2 => ?_)
          · exact absurd c2 (by decide)
          · refine g_aload_n (pc := 70) C dX12_readsAll_70 rfl ?_
            refine cf_X12_105 (pc := 71) C rfl (m_z (hmA _ _) rfl) (r_seeM _ _ S L hx i2 a1 q h2.1.1 (by omega) hqe) ⟨rfl, rfl⟩ ⟨rfl, rfl⟩ ⟨Nat.zero_le _, Nat.zero_le _⟩ rfl (Nat.le_of_ble_eq_true rfl) dX12_readsAll_71 ?_
            refine g_iconst (pc := 74) (v := -1) C dX12_readsAll_74 (by decide) ?_
            refine g_icmp_eq (pc := 75) C 88 dX12_readsAll_75 rfl (fun c3 => ?_) (fun c3 => ?_)
            · rw [if_pos c3] at hl2
              exact finO i2 a1 q m cs _ f2 g1 h2 (by omega) (by omega) hc12 hl2.symm
            · rw [if_neg c3] at hl2
              refine g_aload_n (pc := 78) C dX12_readsAll_78 rfl ?_
              refine g_iconst (pc := 79) (v := nI 0) C dX12_readsAll_79 (by decide) ?_
              refine g_aload_n (pc := 80) C dX12_readsAll_80 rfl ?_
              refine mg_102 (pc := 81) C (hmA _ _) dX12_readsAll_81 ?_
              refine gx_ti (y := nI q) h2.1.1 ?_
              refine cf_X12_123 (pc := 84) C rfl (m_z (hmA _ _) rfl) (r_fails _ _ S L hx i2 a1 h2.1.2.1 0 q) ⟨rfl, rfl⟩ ⟨rfl, rfl⟩ ⟨Nat.zero_le _, Nat.zero_le _⟩ rfl (Nat.le_of_ble_eq_true rfl) dX12_readsAll_84 ?_
              refine g_pop (pc := 87) C dX12_readsAll_87 rfl ?_
              exact finE _ a1 (ftN 0 q) _ (f2.trans (fxI.u (by decide))) g1 rfl (by unfold ftN; omega) (by unfold ftN; omega) hl2.symm
        · have c1 := Decidable.not_not.mp c1
          rw [if_pos c1] at hl2
          have hlt : q < L := by
            refine Nat.lt_of_not_le (fun z => ?_)
            rw [see_end z] at c1
            exact absurd c1 (by decide)
          obtain ⟨d, rfl⟩ : ∃ d0, d = d0 + 1 := ⟨d - 1, by omega⟩
          refine g_aload_n (pc := 48) C dX12_readsAll_48 rfl ?_
          refine g_dup (pc := 49) C dX12_readsAll_49 rfl ?_
          refine mg_102 (pc := 50) C (hmA _ _) dX12_readsAll_50 ?_
          refine gx_ti (y := nI q) h2.1.1 ?_
          refine g_iconst (pc := 53) (v := nI 1) C dX12_readsAll_53 (by decide) ?_
          refine g_iadd (pc := 54) C dX12_readsAll_54 ?_
          refine gx_ti (y := nI (q + 1)) (nI_add q 1) ?_
          refine mp_102 (pc := 55) C (hmA _ _) dX12_readsAll_55 ?_
          refine gx_S (S' := rdS S (u1 i2 1108 (nI (q + 1))) a1) (rd_I S i2 a1 1108 _ (by omega)) ?_
          have h3 : tcs t (u1 i2 1108 (nI (q + 1))) a1 (q + 1) m cs := ⟨tx_u h2.1 rfl rfl rfl h2.1.2.2.2.1, h2.2⟩
          have f3 : fxI l7 i (u1 i2 1108 (nI (q + 1))) := f2.trans (fxI.u (by decide))
          generalize u1 i2 1108 (nI (q + 1)) = i3 at h3 f3
          refine g_aload_n (pc := 58) C dX12_readsAll_58 rfl ?_
          refine cg_X12_267 (pc := 59) C rfl (m_z (hmA _ _) rfl) (c_X12_clauseR _ _ S L hx t ht6 i3 a1 (q + 1) m cs h3 (by omega) (by omega) hm hc12) ⟨rfl, rfl⟩ ⟨Nat.zero_le _, Nat.zero_le _⟩ rfl (Nat.le_of_ble_eq_true rfl) dX12_readsAll_59 ?_
          rintro _ _ ⟨i4, a4, rfl, f4, g4, r4⟩
          have hok := clsR_ok (T := s_A S 1001) hL (n := q + 1) (m := m) (c := cs.length) (by omega) hm hc12
          unfold rdR at hl2
          generalize clsR (s_A S 1001) L (q + 1) m cs.length = u at hl2 r4 hok
          cases u with
          | error f =>
            obtain ⟨rfl, r4⟩ := r4
            exact (badE i4 a4 f (f3.trans f4) (g1.trans g4) r4 hok.1 hok.2 hl2.symm).2 _
          | ok p =>
            obtain ⟨n', m', y⟩ := p
            obtain ⟨rfl, r4⟩ := r4
            obtain ⟨b1, b2, b3, b4, b5⟩ := hok
            have hlen : (cs ++ [y]).length = cs.length + 1 := List.length_append
            have hlen2 : (flC (cs ++ [y])).length = (flC cs).length + (clT y).length := by rw [flC_app, List.length_append]
            refine g_istore_n (pc := 62) (L' := [some (.ref _), _]) C dX12_readsAll_62 rfl rfl ?_
            refine g_goto (pc := 63) C 35 dX12_readsAll_63 rfl ?_
            exact ih (L - n') (by omega) d n' m' (cs ++ [y]) i4 a4 rfl (by omega) r4 b2 (by omega) b3 (by omega) (f3.trans f4) (g1.trans g4) hl2
  refine g_aload_n (pc := 0) C dX12_readsAll_0 rfl ?_
  refine mg_17 (pc := 1) C (hmA _ _) dX12_readsAll_1 ?_
  refine g_aload_n (pc := 4) C dX12_readsAll_4 rfl ?_
  refine mg_158 (pc := 5) C (hmA _ _) dX12_readsAll_5 ?_
  refine gx_ti (y := nI t) hi ?_
  refine g_iconst (pc := 8) (v := nI 0) C dX12_readsAll_8 (by decide) ?_
  refine n_iast (pc := 9) (k := 1003) (n := 7) C rfl rfl (m_z (hmA _ _) rfl) rfl rfl (by omega) dX12_readsAll_9 ?_
  refine gx_S (S' := rdS S i (u1 a 1003 (upd (a 1003) t (nI 0)))) (rd_A S i a 1003 _ (by omega)) ?_
  have g1 : fxR t a (u1 a 1003 (upd (a 1003) t (nI 0))) := ⟨rfl, fun _ _ => rfl, fun _ _ => rfl, fun _ _ => rfl⟩
  have k1 : (u1 a 1003 (upd (a 1003) t (nI 0))) 1003 t = nI 0 := pk_us (f := a 1003)
  have k2 : (u1 a 1003 (upd (a 1003) t (nI 0))) 1005 t = nI 0 := hc
  generalize u1 a 1003 (upd (a 1003) t (nI 0)) = a1 at g1 k1 k2
  refine g_aload_n (pc := 10) C dX12_readsAll_10 rfl ?_
  refine g_iconst (pc := 11) (v := nI 0) C dX12_readsAll_11 (by decide) ?_
  refine mp_258 (pc := 12) C (hmA _ _) dX12_readsAll_12 ?_
  refine gx_S (S' := rdS S (u1 i 1114 (nI 0)) a1) (rd_I S i a1 1114 _ (by omega)) ?_
  refine g_aload_n (pc := 15) C dX12_readsAll_15 rfl ?_
  refine g_iconst (pc := 16) (v := nI 0) C dX12_readsAll_16 (by decide) ?_
  refine mp_102 (pc := 17) C (hmA _ _) dX12_readsAll_17 ?_
  refine gx_S (S' := rdS S (u1 (u1 i 1114 (nI 0)) 1108 (nI 0)) a1) (rd_I S _ a1 1108 _ (by omega)) ?_
  refine g_aload_n (pc := 20) C dX12_readsAll_20 rfl ?_
  refine g_iconst (pc := 21) (v := nI 0) C dX12_readsAll_21 (by decide) ?_
  refine mp_99 (pc := 22) C (hmA _ _) dX12_readsAll_22 ?_
  refine gx_S (S' := rdS S (u1 (u1 (u1 i 1114 (nI 0)) 1108 (nI 0)) 1109 (nI 0)) a1) (rd_I S _ a1 1109 _ (by omega)) ?_
  refine g_aload_n (pc := 25) C dX12_readsAll_25 rfl ?_
  refine g_iconst (pc := 26) (v := nI 0) C dX12_readsAll_26 (by decide) ?_
  refine mp_161 (pc := 27) C (hmA _ _) dX12_readsAll_27 ?_
  refine gx_S (S' := rdS S (u1 (u1 (u1 (u1 i 1114 (nI 0)) 1108 (nI 0)) 1109 (nI 0)) 1112 (nI 0)) a1) (rd_I S _ a1 1112 _ (by omega)) ?_
  have h1 : tcs t (u1 (u1 (u1 (u1 i 1114 (nI 0)) 1108 (nI 0)) 1109 (nI 0)) 1112 (nI 0)) a1 0 0 [] := ⟨⟨rfl, rfl, hi, rfl, k1, fun j hj => absurd hj (by simp [flC])⟩, rfl, k2, trivial⟩
  have f1 : fxI l7 i (u1 (u1 (u1 (u1 i 1114 (nI 0)) 1108 (nI 0)) 1109 (nI 0)) 1112 (nI 0)) := (((fxI.u (by decide)).trans (fxI.u (by decide))).trans (fxI.u (by decide))).trans (fxI.u (by decide))
  generalize u1 (u1 (u1 (u1 i 1114 (nI 0)) 1108 (nI 0)) 1109 (nI 0)) 1112 (nI 0) = i1 at h1 f1
  refine g_aload_n (pc := 30) C dX12_readsAll_30 rfl ?_
  refine cg_X12_267 (pc := 31) C rfl (m_z (hmA _ _) rfl) (c_X12_clauseR _ _ S L hx t ht6 i1 a1 0 0 [] h1 (by omega) (by simp [flC]) (by omega) (by simp)) ⟨rfl, rfl⟩ ⟨Nat.zero_le _, Nat.zero_le _⟩ rfl (Nat.le_of_ble_eq_true rfl) dX12_readsAll_31 ?_
  rintro _ _ ⟨i4, a4, rfl, f4, g4, r4⟩
  have hok := clsR_ok (T := s_A S 1001) hL (n := 0) (m := 0) (c := ([] : List CL).length) (by omega) (by omega) (by simp)
  unfold rdR at hR
  generalize clsR (s_A S 1001) L 0 0 ([] : List CL).length = u at hR r4 hok
  cases u with
  | error f =>
    obtain ⟨rfl, r4⟩ := r4
    exact (badE i4 a4 f (f1.trans f4) (g1.trans g4) r4 hok.1 hok.2 hR.symm).1
  | ok p =>
    obtain ⟨n', m', y⟩ := p
    obtain ⟨rfl, r4⟩ := r4
    obtain ⟨b1, b2, b3, b4, b5⟩ := hok
    have hlen : ([] ++ [y] : List CL).length = 1 := rfl
    have hlen2 : (flC ([] ++ [y])).length = (clT y).length := by rw [flC_app]; simp [flC]
    refine g_istore_n (pc := 34) (L' := [some (.ref _), _]) C dX12_readsAll_34 rfl rfl ?_
    exact loop (L - n') 400 n' m' ([] ++ [y]) i4 a4 rfl (by omega) r4 b2 (by omega) b3 (by omega) (f1.trans f4) (g1.trans g4) hR
