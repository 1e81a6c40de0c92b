/-! ===== the reference's texts: fact, closes, tested ===== -/
theorem stK_len (s : Nat) : ∀ K, (stK s K).length + (stP s K).length = K.length
  | [] => rfl
  | k :: K => by
    have := stK_len s K
    unfold stK stP
    split
    · simp only [List.length_cons]; omega
    · rfl
theorem st3_idem : ∀ K, top3 (stK 3 K)
  | [] => top3_nil
  | k :: K => by
    unfold stK
    split
    · exact st3_idem K
    · next h => exact top3_c (by omega)
theorem sy_st3 {T : Nat → Int32} {L d n m : Nat} {K o : List Nat} : sy T L d true K n m o = sy T L d true (stK 3 K) n m (o ++ stP 3 K) := by
  cases d with
  | zero => rfl
  | succ d =>
    obtain ⟨e1, e2⟩ := st3_idem K
    unfold sy
    rw [e1, e2]
    simp only [List.append_nil]
theorem sy_f {T : Nat → Int32} {L d n m : Nat} {K o : List Nat} : sy T L d false K (skN T L n) m o = sy T L d false K n m o ∨ True := Or.inr trivial
theorem cmp_sk {T : Nat → Int32} {L n m : Nat} : cmpF T L (skN T L n) m = cmpF T L n m := by
  have hq : skN T L (skN T L n) = skN T L n := skN_idem
  have hv : valF T L (skN T L n) m = valF T L n m := by unfold valF numF; rw [hq]
  have ht : termF T L (skN T L n) m = termF T L n m := by unfold termF seqF; rw [hv]
  have hs : smF T L (skN T L n) m = smF T L n m := by unfold smF seqF; rw [ht]
  unfold cmpF
  rw [hs]
/-- how far the open row and what is put have come -/
def syS (S : St) (L t : Nat) (i : Nat → Int32) (a : Nat → Nat → Int32) (i' : Nat → Int32) (a' : Nat → Nat → Int32) (ph : Bool) (d : Nat) (K : List Nat) (n m : Nat) (o : List Nat) (R : RT) : Prop := fxI l6 i i' ∧ fxU t a a' ∧ tx t i' a' n m o ∧ opn i' a' K ∧ n ≤ L ∧ m ≤ 60 ∧ o.length + K.length ≤ n ∧ L - n < d ∧ sy (s_A S 1001) L d ph K n m o = R
theorem c_X12_fact (w : Wd) (l : Launch) (S : St) (L : Nat) (hx : gx_x S L) (t : Nat) (ht6 : t < 6) (i : Nat → Int32) (a : Nat → Nat → Int32) (i0 : Nat → Int32) (a0 : Nat → Nat → Int32) (R : RT) (d : Nat) (K : List Nat) (n m : Nat) (o : List Nat) (h : syS S L t i a i0 a0 false d K n m o R) (N : Nat) (hN : N ≤ n) : gx_M w l yX12_fact cX12_fact 3 (some .boolean) rmX12_fact [.ref (ad (w_b w) 1000)] (rdS S i0 a0) (fun v S' => ∃ i' a', S' = rdS S i' a' ∧ ((v = some (.int (nI 0)) ∧ fxI l6 i i' ∧ fxU t a a' ∧ ∃ f, R = .error f ∧ i' 1109 = nI f) ∨ (v = some (.int (nI 1)) ∧ ∃ d' K' n' m' o', N < n' ∧ syS S L t i a i' a' true d' K' n' m' o' R))) := by
  have hL : L ≤ 400 := hx.2.1.2
  have hmA : ∀ i a, gx_m (rdS S i a) := fun i a => hx.1
  generalize hpost : (fun (v : Option Value) (S' : St) => ∃ i' a', S' = rdS S i' a' ∧ ((v = some (.int (nI 0)) ∧ fxI l6 i i' ∧ fxU t a a' ∧ ∃ f, R = .error f ∧ i' 1109 = nI f) ∨ (v = some (.int (nI 1)) ∧ ∃ d' K' n' m' o', N < n' ∧ syS S L t i a i' a' true d' K' n' m' o' R))) = post
  refine gx_start rfl 2 rfl (Nat.le_of_ble_eq_true rfl) ?_
  intro X C _ hl
  subst hl
  refine gx_L (L' := [_, _, _]) rfl ?_
  refine g_iconst (pc := 0) (v := nI 1) C dX12_fact_0 (by decide) ?_
  refine g_istore_n (pc := 1) (L' := [some (.ref _), _, _]) C dX12_fact_1 rfl rfl ?_
  have loop : ∀ e d K n m o i0 a0 z, L - n = e → N ≤ n → syS S L t i a i0 a0 false d K n m o R → gx_G w X (rdS S i0 a0) 0 0 2 [some (.ref (ad (w_b w) 1000)), some (.int (nI 1)), z] [] (gx_E w X post) := by
    intro e
    induction e using Nat.strongRecOn with
    | _ e ih =>
      intro d K n m o i0 a0 z he hN h
      obtain ⟨f0, g0, h0, k0, hn, hm, hb, hd, hR⟩ := h
      obtain ⟨d, rfl⟩ : ∃ d0, d = d0 + 1 := ⟨d - 1, by omega⟩
      have hq1 := sk_ge (T := s_A S 1001) (L := L) (n := n)
      have hq2 := sk_L (T := s_A S 1001) hn
      have hqe : skN (s_A S 1001) L (skN (s_A S 1001) L n) = skN (s_A S 1001) L n := skN_idem
      rw [sy_F] at hR
      have hcs := cmp_sk (T := s_A S 1001) (L := L) (n := n) (m := m)
      refine g_iload_n (pc := 2) C dX12_fact_2 rfl ?_
      refine g_if_eq (pc := 3) C 75 dX12_fact_3 rfl (fun c0 => ?_) (fun c0 => ?_)
      · exact absurd c0 (by decide)
      · refine g_iconst (pc := 6) (v := nI 0) C dX12_fact_6 (by decide) ?_
        refine g_istore_n (pc := 7) (L' := [some (.ref _), _, _]) C dX12_fact_7 rfl rfl ?_
        refine g_aload_n (pc := 8) C dX12_fact_8 rfl ?_
        refine cf_X12_105 (pc := 9) C rfl (m_z (hmA _ _) rfl) (r_see _ _ S L hx i0 a0 n h0.1 (by omega)) ⟨rfl, rfl⟩ ⟨rfl, rfl⟩ ⟨Nat.zero_le _, Nat.zero_le _⟩ rfl (Nat.le_of_ble_eq_true rfl) dX12_fact_9 ?_
        generalize hq : skN (s_A S 1001) L n = q at *
        have h1 : tx t (u1 i0 1108 (nI q)) a0 q m o := tx_u h0 rfl rfl rfl h0.2.2.2.1
        have f1 : fxI l6 i (u1 i0 1108 (nI q)) := f0.trans (fxI.u (by decide))
        have k1 : opn (u1 i0 1108 (nI q)) a0 K := opn_to k0 rfl rfl rfl
        generalize u1 i0 1108 (nI q) = i1 at h1 f1 k1
        refine g_istore_n (pc := 12) (L' := [_, some (.int _), _]) C dX12_fact_12 rfl rfl ?_
        refine g_aload_n (pc := 13) C dX12_fact_13 rfl ?_
        refine g_ldc2 (pc := 14) (v := 7237492) C dX12_fact_14 kl_X12_198 ?_
        refine cf_X12_113 (pc := 17) C rfl (m_z (hmA _ _) rfl) (r_wordM _ _ S L hx i1 a0 q h1.1 (by omega) hqe _) ⟨rfl, rfl⟩ ⟨rfl, rfl⟩ ⟨Nat.zero_le _, Nat.zero_le _⟩ rfl (Nat.le_of_ble_eq_true rfl) dX12_fact_17 ?_
        refine g_if_eq (pc := 20) C 43 dX12_fact_20 rfl (fun c1 => ?_) (fun c1 => ?_)
        · have c1 := bI_0.mp c1
          rw [if_neg c1] at hR
          refine g_iload_n (pc := 43) C dX12_fact_43 rfl ?_
          refine g_bipush (pc := 44) (v := nI 91) C dX12_fact_44 (by decide) ?_
          refine g_icmp_ne (pc := 46) C 72 dX12_fact_46 rfl (fun c2 => ?_) (fun c2 => ?_)
          · rw [if_neg c2] at hR
            refine g_goto (pc := 72) C 2 dX12_fact_72 rfl ?_
            refine g_iload_n (pc := 2) C dX12_fact_2 rfl ?_
            refine g_if_eq (pc := 3) C 75 dX12_fact_3 rfl (fun c3 => ?_) (fun c3 => ?_)
            · refine g_aload_n (pc := 75) C dX12_fact_75 rfl ?_
              refine cg_X12_203 (pc := 76) C rfl (m_z (hmA _ _) rfl) (c_X12_compare _ _ S L hx t ht6 i1 a0 q m o h1 hq2 (by omega) hm) ⟨rfl, rfl⟩ ⟨Nat.zero_le _, Nat.zero_le _⟩ rfl (Nat.le_of_ble_eq_true rfl) dX12_fact_76 ?_
              rintro _ _ ⟨i2, a2, rfl, f2, g2, r2⟩
              have hok := okI_cmp (T := s_A S 1001) hL q m hq2 hm
              rw [← hcs] at hR
              generalize cmpF (s_A S 1001) L q m = u at hR r2 hok
              have f3 : fxI l6 i i2 := f1.trans (f2.sub (by decide))
              rw [← hpost]
              cases u with
              | error f =>
                obtain ⟨rfl, r2⟩ := r2
                have hR : Except.error f = R := hR
                exact g_zreturn (pc := 79) C ⟨rfl, rfl⟩ (by first | exact Or.inl rfl | exact Or.inr rfl) dX12_fact_79 ⟨i2, a2, rfl, Or.inl ⟨rfl, f3, g0.trans g2.U, f, hR.symm, r2⟩⟩
              | ok p =>
                obtain ⟨n', m', k⟩ := p
                obtain ⟨rfl, r2⟩ := r2
                obtain ⟨b1, b2, b3, b4⟩ := hok
                have hlen : (o ++ k).length = o.length + k.length := List.length_append
                exact g_zreturn (pc := 79) C ⟨rfl, rfl⟩ (by first | exact Or.inl rfl | exact Or.inr rfl) dX12_fact_79 ⟨i2, a2, rfl, Or.inr ⟨rfl, d, K, n', m', o ++ k, by omega, f3, g0.trans g2.U, r2, opn_to k1 (f2 1116 (by decide)) (f2 1113 (by decide)) (g2.1 1007 (by decide) (by decide)), b2, b3, by omega, by omega, hR⟩⟩
            · exact absurd rfl c3
          · have c2 := Decidable.not_not.mp c2
            rw [if_pos c2] at hR
            have hlt : q < L := by
              refine Nat.lt_of_not_le (fun z => ?_)
              rw [see_end z] at c2
              exact absurd c2 (by decide)
            refine g_aload_n (pc := 49) C dX12_fact_49 rfl ?_
            refine g_bipush (pc := 50) (v := nI 91) C dX12_fact_50 (by decide) ?_
            refine cf_X12_200 (pc := 52) C rfl (m_z (hmA _ _) rfl) (c_X12_opens _ _ S hx.1 i1 a0 K.length k1.1 (by omega) (nI 91)) ⟨rfl, rfl⟩ ⟨rfl, rfl⟩ ⟨Nat.zero_le _, Nat.zero_le _⟩ rfl (Nat.le_of_ble_eq_true rfl) dX12_fact_52 ?_
            have hdeq : i1 1113 = nI 10 ↔ dpN K = 10 := by
              rw [k1.2.1]
              exact nI_eq (by have := dp_le K; omega) (by omega)
            refine g_if_ne (pc := 55) C 60 dX12_fact_55 rfl (fun c3 => ?_) (fun c3 => ?_)
            · have c3 : ¬ i1 1113 = nI 10 := Decidable.not_not.mp (fun q => c3 (bI_0.mpr q))
              rw [if_neg (fun q => c3 (hdeq.mpr q))] at hR
              refine gx_S (S' := rdS S (u1 (u1 i1 1113 (i1 1113 + nI 1)) 1116 (nI (K.length + 1))) (u1 a0 1007 (upd (a0 1007) K.length (nI 91)))) (by rw [if_neg c3]) ?_
              have h2 : tx t (u1 (u1 i1 1113 (i1 1113 + nI 1)) 1116 (nI (K.length + 1))) (u1 a0 1007 (upd (a0 1007) K.length (nI 91))) q m o := tx_o (tx_u h1 h1.1 rfl rfl h1.2.2.2.1) rfl rfl
              have k2 : opn (u1 (u1 i1 1113 (i1 1113 + nI 1)) 1116 (nI (K.length + 1))) (u1 a0 1007 (upd (a0 1007) K.length (nI 91))) (91 :: K) := opn_push k1 rfl (by show i1 1113 + nI 1 = _; rw [k1.2.1, nI_add]; rfl) rfl (by omega)
              have f2 : fxI l6 i (u1 (u1 i1 1113 (i1 1113 + nI 1)) 1116 (nI (K.length + 1))) := (f1.trans (fxI.u (by decide))).trans (fxI.u (by decide))
              have g2 : fxU t a (u1 a0 1007 (upd (a0 1007) K.length (nI 91))) := g0.trans fxU_o
              generalize u1 (u1 i1 1113 (i1 1113 + nI 1)) 1116 (nI (K.length + 1)) = i2 at h2 k2 f2
              generalize u1 a0 1007 (upd (a0 1007) K.length (nI 91)) = a2 at h2 k2 g2
              refine g_aload_n (pc := 60) C dX12_fact_60 rfl ?_
              refine g_dup (pc := 61) C dX12_fact_61 rfl ?_
              refine mg_102 (pc := 62) C (hmA _ _) dX12_fact_62 ?_
              refine gx_ti (y := nI q) h2.1 ?_
              refine g_iconst (pc := 65) (v := nI 1) C dX12_fact_65 (by decide) ?_
              refine g_iadd (pc := 66) C dX12_fact_66 ?_
              refine gx_ti (y := nI (q + 1)) (nI_add q 1) ?_
              refine mp_102 (pc := 67) C (hmA _ _) dX12_fact_67 ?_
              refine gx_S (S' := rdS S (u1 i2 1108 (nI (q + 1))) a2) (rd_I S i2 a2 1108 _ (by omega)) ?_
              refine g_iconst (pc := 70) (v := nI 1) C dX12_fact_70 (by decide) ?_
              refine g_istore_n (pc := 71) (L' := [some (.ref _), _, _]) C dX12_fact_71 rfl rfl ?_
              refine g_goto (pc := 72) C 2 dX12_fact_72 rfl ?_
              have hlen : (91 :: K).length = K.length + 1 := rfl
              exact ih (L - (q + 1)) (by omega) d (91 :: K) (q + 1) m o _ a2 _ rfl (by omega) ⟨f2.trans (fxI.u (by decide)), g2, tx_u h2 rfl rfl rfl h2.2.2.2.1, opn_to k2 rfl rfl rfl, by omega, hm, by omega, by omega, hR⟩
            · have c3 : i1 1113 = nI 10 := Decidable.not_not.mp (bI_0.mp (Decidable.not_not.mp c3))
              rw [if_pos (hdeq.mp c3)] at hR
              refine gx_S (S' := rdS S (u1 i1 1109 (nI (ftN 2 q))) a0) (by rw [if_pos c3, if_pos h1.2.1, h1.1, ft_I]) ?_
              refine g_iconst (pc := 58) (v := nI 0) C dX12_fact_58 (by decide) ?_
              rw [← hpost]
              exact g_zreturn (pc := 59) C ⟨rfl, rfl⟩ (by first | exact Or.inl rfl | exact Or.inr rfl) dX12_fact_59 ⟨_, a0, rfl, Or.inl ⟨rfl, f1.trans (fxI.u (by decide)), g0, _, hR.symm, rfl⟩⟩
        · have c1 := Decidable.not_not.mp (fun q => c1 (bI_0.mpr q))
          rw [if_pos c1] at hR
          have hl1 := c1.1
          have hl2 := (lt_le (T := s_A S 1001) hq2).2
          refine g_aload_n (pc := 23) C dX12_fact_23 rfl ?_
          refine g_bipush (pc := 24) (v := nI 11) C dX12_fact_24 (by decide) ?_
          refine cf_X12_200 (pc := 26) C rfl (m_z (hmA _ _) rfl) (c_X12_opens _ _ S hx.1 i1 a0 K.length k1.1 (by omega) (nI 11)) ⟨rfl, rfl⟩ ⟨rfl, rfl⟩ ⟨Nat.zero_le _, Nat.zero_le _⟩ rfl (Nat.le_of_ble_eq_true rfl) dX12_fact_26 ?_
          have hdeq : i1 1113 = nI 10 ↔ dpN K = 10 := by
            rw [k1.2.1]
            exact nI_eq (by have := dp_le K; omega) (by omega)
          refine g_if_ne (pc := 29) C 34 dX12_fact_29 rfl (fun c3 => ?_) (fun c3 => ?_)
          · have c3 : ¬ i1 1113 = nI 10 := Decidable.not_not.mp (fun q => c3 (bI_0.mpr q))
            rw [if_neg (fun q => c3 (hdeq.mpr q))] at hR
            refine gx_S (S' := rdS S (u1 (u1 i1 1113 (i1 1113 + nI 1)) 1116 (nI (K.length + 1))) (u1 a0 1007 (upd (a0 1007) K.length (nI 11)))) (by rw [if_neg c3]) ?_
            have h2 : tx t (u1 (u1 i1 1113 (i1 1113 + nI 1)) 1116 (nI (K.length + 1))) (u1 a0 1007 (upd (a0 1007) K.length (nI 11))) q m o := tx_o (tx_u h1 h1.1 rfl rfl h1.2.2.2.1) rfl rfl
            have k2 : opn (u1 (u1 i1 1113 (i1 1113 + nI 1)) 1116 (nI (K.length + 1))) (u1 a0 1007 (upd (a0 1007) K.length (nI 11))) (11 :: K) := opn_push k1 rfl (by show i1 1113 + nI 1 = _; rw [k1.2.1, nI_add]; rfl) rfl (by omega)
            have f2 : fxI l6 i (u1 (u1 i1 1113 (i1 1113 + nI 1)) 1116 (nI (K.length + 1))) := (f1.trans (fxI.u (by decide))).trans (fxI.u (by decide))
            have g2 : fxU t a (u1 a0 1007 (upd (a0 1007) K.length (nI 11))) := g0.trans fxU_o
            generalize u1 (u1 i1 1113 (i1 1113 + nI 1)) 1116 (nI (K.length + 1)) = i2 at h2 k2 f2
            generalize u1 a0 1007 (upd (a0 1007) K.length (nI 11)) = a2 at h2 k2 g2
            refine g_aload_n (pc := 34) C dX12_fact_34 rfl ?_
            refine cf_X12_117 (pc := 35) C rfl (m_z (hmA _ _) rfl) (r_pass _ _ S L hx i2 a2 q h2.1 (by omega)) ⟨rfl, rfl⟩ ⟨rfl, rfl⟩ ⟨Nat.zero_le _, Nat.zero_le _⟩ rfl (Nat.le_of_ble_eq_true rfl) dX12_fact_35 ?_
            refine g_iconst (pc := 38) (v := nI 1) C dX12_fact_38 (by decide) ?_
            refine g_istore_n (pc := 39) (L' := [some (.ref _), _, _]) C dX12_fact_39 rfl rfl ?_
            refine g_goto (pc := 40) C 72 dX12_fact_40 rfl ?_
            refine g_goto (pc := 72) C 2 dX12_fact_72 rfl ?_
            have hlen : (11 :: K).length = K.length + 1 := rfl
            exact ih (L - ltN (s_A S 1001) L q) (by omega) d (11 :: K) (ltN (s_A S 1001) L q) m o _ a2 _ rfl (by omega) ⟨f2.trans (fxI.u (by decide)), g2, tx_u h2 rfl rfl rfl h2.2.2.2.1, opn_to k2 rfl rfl rfl, hl2, hm, by omega, by omega, hR⟩
          · have c3 : i1 1113 = nI 10 := Decidable.not_not.mp (bI_0.mp (Decidable.not_not.mp c3))
            rw [if_pos (hdeq.mp c3)] at hR
            refine gx_S (S' := rdS S (u1 i1 1109 (nI (ftN 2 q))) a0) (by rw [if_pos c3, if_pos h1.2.1, h1.1, ft_I]) ?_
            refine g_iconst (pc := 32) (v := nI 0) C dX12_fact_32 (by decide) ?_
            rw [← hpost]
            exact g_zreturn (pc := 33) C ⟨rfl, rfl⟩ (by first | exact Or.inl rfl | exact Or.inr rfl) dX12_fact_33 ⟨_, a0, rfl, Or.inl ⟨rfl, f1.trans (fxI.u (by decide)), g0, _, hR.symm, rfl⟩⟩
  exact loop (L - n) d K n m o i0 a0 _ rfl hN h
theorem c_X12_closes (w : Wd) (l : Launch) (S : St) (L : Nat) (hx : gx_x S L) (t : Nat) (ht6 : t < 6) (i : Nat → Int32) (a : Nat → Nat → Int32) (i0 : Nat → Int32) (a0 : Nat → Nat → Int32) (R : RT) (d : Nat) (K : List Nat) (n m : Nat) (o : List Nat) (h : syS S L t i a i0 a0 true d K n m o R) (N : Nat) (hN : N ≤ n) : gx_M w l yX12_closes cX12_closes 1 none rmX12_closes [.ref (ad (w_b w) 1000)] (rdS S i0 a0) (fun v S' => v = none ∧ ∃ i' a', S' = rdS S i' a' ∧ ∃ d' K' n' o', N ≤ n' ∧ syS S L t i a i' a' true d' K' n' m o' R ∧ top3 K' ∧ skN (s_A S 1001) L n' = n' ∧ ¬ (seeV (s_A S 1001) L n' = nI 93 ∧ 91 ∈ K')) := by
  have hL : L ≤ 400 := hx.2.1.2
  have hmA : ∀ i a, gx_m (rdS S i a) := fun i a => hx.1
  generalize hpost : (fun (v : Option Value) (S' : St) => v = none ∧ ∃ i' a', S' = rdS S i' a' ∧ ∃ d' K' n' o', N ≤ n' ∧ syS S L t i a i' a' true d' K' n' m o' R ∧ top3 K' ∧ skN (s_A S 1001) L n' = n' ∧ ¬ (seeV (s_A S 1001) L n' = nI 93 ∧ 91 ∈ K')) = post
  refine gx_start rfl 0 rfl (Nat.le_of_ble_eq_true rfl) ?_
  intro X C _ hl
  subst hl
  refine gx_L (L' := [_]) rfl ?_
  have loop : ∀ e d K n o i0 a0, L - n = e → N ≤ n → syS S L t i a i0 a0 true d K n m o R → top3 K → gx_G w X (rdS S i0 a0) 0 0 5 [some (.ref (ad (w_b w) 1000))] [] (gx_E w X post) := by
    intro e
    induction e using Nat.strongRecOn with
    | _ e ih =>
      intro d K n o i0 a0 he hN h h3
      obtain ⟨f0, g0, h0, k0, hn, hm, hb, hd, hR⟩ := h
      have hq1 := sk_ge (T := s_A S 1001) (L := L) (n := n)
      have hq2 := sk_L (T := s_A S 1001) hn
      have hqe : skN (s_A S 1001) L (skN (s_A S 1001) L n) = skN (s_A S 1001) L n := skN_idem
      rw [← sy_sk] at hR
      refine g_aload_n (pc := 5) C dX12_closes_5 rfl ?_
      refine cf_X12_105 (pc := 6) C rfl (m_z (hmA _ _) rfl) (r_see _ _ S L hx i0 a0 n h0.1 (by omega)) ⟨rfl, rfl⟩ ⟨rfl, rfl⟩ ⟨Nat.zero_le _, Nat.zero_le _⟩ rfl (Nat.le_of_ble_eq_true rfl) dX12_closes_6 ?_
      refine g_bipush (pc := 9) (v := nI 93) C dX12_closes_9 (by decide) ?_
      generalize hq : skN (s_A S 1001) L n = q at *
      have h1 : tx t (u1 i0 1108 (nI q)) a0 q m o := tx_u h0 rfl rfl rfl h0.2.2.2.1
      have f1 : fxI l6 i (u1 i0 1108 (nI q)) := f0.trans (fxI.u (by decide))
      have k1 : opn (u1 i0 1108 (nI q)) a0 K := opn_to k0 rfl rfl rfl
      generalize u1 i0 1108 (nI q) = i1 at h1 f1 k1
      refine g_icmp_ne (pc := 11) C 64 dX12_closes_11 rfl (fun c1 => ?_) (fun c1 => ?_)
      · rw [← hpost]
        exact g_return (pc := 64) C ⟨rfl, rfl⟩ dX12_closes_64 ⟨rfl, i1, a0, rfl, d, K, q, o, by omega, ⟨f1, g0, h1, k1, hq2, hm, by omega, by omega, hR⟩, h3, hqe, fun z => c1 z.1⟩
      · have c1 := Decidable.not_not.mp c1
        have hlt : q < L := by
          refine Nat.lt_of_not_le (fun z => ?_)
          rw [see_end z] at c1
          exact absurd c1 (by decide)
        refine g_aload_n (pc := 14) C dX12_closes_14 rfl ?_
        refine cf_X12_209 (pc := 15) C rfl (m_z (hmA _ _) rfl) (c_X12_isInside _ _ S hx.1 i1 a0 K k1 (by omega)) ⟨rfl, rfl⟩ ⟨rfl, rfl⟩ ⟨Nat.zero_le _, Nat.zero_le _⟩ rfl (Nat.le_of_ble_eq_true rfl) dX12_closes_15 ?_
        refine g_if_eq (pc := 18) C 64 dX12_closes_18 rfl (fun c2 => ?_) (fun c2 => ?_)
        · have c2 := bI_0.mp c2
          rw [← hpost]
          exact g_return (pc := 64) C ⟨rfl, rfl⟩ dX12_closes_64 ⟨rfl, i1, a0, rfl, d, K, q, o, by omega, ⟨f1, g0, h1, k1, hq2, hm, by omega, by omega, hR⟩, h3, hqe, fun z => c2 z.2⟩
        · have c2 := Decidable.not_not.mp (fun q => c2 (bI_0.mpr q))
          obtain ⟨d, rfl⟩ : ∃ d0, d = d0 + 1 := ⟨d - 1, by omega⟩
          rw [sy_T, hqe, h3.1, h3.2, if_pos ⟨c1, c2⟩, List.append_nil] at hR
          refine g_aload_n (pc := 21) C dX12_closes_21 rfl ?_
          refine g_iconst (pc := 22) (v := nI 1) C dX12_closes_22 (by decide) ?_
          refine cg_X12_206 (pc := 23) C rfl (m_z (hmA _ _) rfl) (c_X12_settles _ _ S L hx t ht6 1 (by omega) (by omega) K i1 a0 q m o h1 k1 (by omega)) ⟨rfl, rfl⟩ ⟨Nat.zero_le _, Nat.zero_le _⟩ rfl (Nat.le_of_ble_eq_true rfl) dX12_closes_23 ?_
          rintro _ _ ⟨rfl, i2, a2, rfl, f2, g2, h2, k2⟩
          have hst := stK_len 1 K
          /- the bracket is on top now -/
          obtain ⟨K2, hK2⟩ : ∃ K2, stK 1 K = 91 :: K2 := by
            have key : ∀ K : List Nat, (∀ k, k ∈ K → k = 11 ∨ k = 12 ∨ k = 13 ∨ k = 91) → 91 ∈ K → ∃ K2, stK 1 K = 91 :: K2 := by
              intro K
              induction K with
              | nil => intro _ h; cases h
              | cons k K ihK =>
                intro hk hm
                rcases hk k List.mem_cons_self with rfl | rfl | rfl | rfl
                · exact ihK (fun q hq => hk q (List.mem_cons_of_mem _ hq)) ((List.mem_cons.mp hm).resolve_left (by decide))
                · exact ihK (fun q hq => hk q (List.mem_cons_of_mem _ hq)) ((List.mem_cons.mp hm).resolve_left (by decide))
                · exact ihK (fun q hq => hk q (List.mem_cons_of_mem _ hq)) ((List.mem_cons.mp hm).resolve_left (by decide))
                · exact ⟨K, rfl⟩
            exact key K k1.2.2.2 c2
          rw [hK2] at k2 hR hst
          have hR : sy (s_A S 1001) L d true K2 (q + 1) m (o ++ stP 1 K) = R := hR
          have hst : K2.length + 1 + (stP 1 K).length = K.length := hst
          have hl2 : (o ++ stP 1 K).length = o.length + (stP 1 K).length := List.length_append
          refine g_aload_n (pc := 26) C dX12_closes_26 rfl ?_
          refine g_dup (pc := 27) C dX12_closes_27 rfl ?_
          refine mg_167 (pc := 28) C (hmA _ _) dX12_closes_28 ?_
          refine gx_ti (y := nI (K2.length + 1)) k2.1 ?_
          refine g_iconst (pc := 31) (v := nI 1) C dX12_closes_31 (by decide) ?_
          refine g_isub (pc := 32) C dX12_closes_32 ?_
          refine gx_ti (y := nI K2.length) (nI_pred K2.length) ?_
          refine mp_167 (pc := 33) C (hmA _ _) dX12_closes_33 ?_
          refine gx_S (S' := rdS S (u1 i2 1116 (nI K2.length)) a2) (rd_I S i2 a2 1116 _ (by omega)) ?_
          refine g_aload_n (pc := 36) C dX12_closes_36 rfl ?_
          refine g_dup (pc := 37) C dX12_closes_37 rfl ?_
          refine mg_164 (pc := 38) C (hmA _ _) dX12_closes_38 ?_
          refine gx_ti (y := nI (dpN K2 + 1)) k2.2.1 ?_
          refine g_iconst (pc := 41) (v := nI 1) C dX12_closes_41 (by decide) ?_
          refine g_isub (pc := 42) C dX12_closes_42 ?_
          refine gx_ti (y := nI (dpN K2)) (nI_pred (dpN K2)) ?_
          refine mp_164 (pc := 43) C (hmA _ _) dX12_closes_43 ?_
          refine gx_S (S' := rdS S (u1 (u1 i2 1116 (nI K2.length)) 1113 (nI (dpN K2))) a2) (rd_I S _ a2 1113 _ (by omega)) ?_
          refine g_aload_n (pc := 46) C dX12_closes_46 rfl ?_
          refine g_dup (pc := 47) C dX12_closes_47 rfl ?_
          refine mg_102 (pc := 48) C (hmA _ _) dX12_closes_48 ?_
          refine gx_ti (y := nI q) h2.1 ?_
          refine g_iconst (pc := 51) (v := nI 1) C dX12_closes_51 (by decide) ?_
          refine g_iadd (pc := 52) C dX12_closes_52 ?_
          refine gx_ti (y := nI (q + 1)) (nI_add q 1) ?_
          refine mp_102 (pc := 53) C (hmA _ _) dX12_closes_53 ?_
          refine gx_S (S' := rdS S (u1 (u1 (u1 i2 1116 (nI K2.length)) 1113 (nI (dpN K2))) 1108 (nI (q + 1))) a2) (rd_I S _ a2 1108 _ (by omega)) ?_
          have h4 : tx t (u1 (u1 (u1 i2 1116 (nI K2.length)) 1113 (nI (dpN K2))) 1108 (nI (q + 1))) a2 (q + 1) m (o ++ stP 1 K) := tx_u h2 rfl rfl rfl h2.2.2.2.1
          have k4 : opn (u1 (u1 (u1 i2 1116 (nI K2.length)) 1113 (nI (dpN K2))) 1108 (nI (q + 1))) a2 K2 := ⟨rfl, rfl, (opn_top k2).2, fun k hk => k2.2.2.2 k (List.mem_cons_of_mem _ hk)⟩
          have f4 : fxI l6 i (u1 (u1 (u1 i2 1116 (nI K2.length)) 1113 (nI (dpN K2))) 1108 (nI (q + 1))) := (((f1.trans f2).trans (fxI.u (by decide))).trans (fxI.u (by decide))).trans (fxI.u (by decide))
          generalize u1 (u1 (u1 i2 1116 (nI K2.length)) 1113 (nI (dpN K2))) 1108 (nI (q + 1)) = i4 at h4 k4 f4
          refine g_aload_n (pc := 56) C dX12_closes_56 rfl ?_
          refine g_iconst (pc := 57) (v := nI 3) C dX12_closes_57 (by decide) ?_
          refine cg_X12_206 (pc := 58) C rfl (m_z (hmA _ _) rfl) (c_X12_settles _ _ S L hx t ht6 3 (by omega) (by omega) K2 i4 a2 (q + 1) m (o ++ stP 1 K) h4 k4 (by omega)) ⟨rfl, rfl⟩ ⟨Nat.zero_le _, Nat.zero_le _⟩ rfl (Nat.le_of_ble_eq_true rfl) dX12_closes_58 ?_
          rintro _ _ ⟨rfl, i5, a5, rfl, f5, g5, h5, k5⟩
          have hst3 := stK_len 3 K2
          have hl3 : (o ++ stP 1 K ++ stP 3 K2).length = (o ++ stP 1 K).length + (stP 3 K2).length := List.length_append
          refine g_goto (pc := 61) C 5 dX12_closes_61 rfl ?_
          rw [sy_st3] at hR
          exact ih (L - (q + 1)) (by omega) d (stK 3 K2) (q + 1) _ i5 a5 rfl (by omega) ⟨f4.trans f5, (g0.trans g2).trans g5, h5, k5, by omega, hm, by omega, by omega, hR⟩ (st3_idem K2)
  obtain ⟨f0, g0, h0, k0, hn, hm, hb, hd, hR⟩ := h
  refine g_aload_n (pc := 0) C dX12_closes_0 rfl ?_
  refine g_iconst (pc := 1) (v := nI 3) C dX12_closes_1 (by decide) ?_
  refine cg_X12_206 (pc := 2) C rfl (m_z (hmA _ _) rfl) (c_X12_settles _ _ S L hx t ht6 3 (by omega) (by omega) K i0 a0 n m o h0 k0 (by omega)) ⟨rfl, rfl⟩ ⟨Nat.zero_le _, Nat.zero_le _⟩ rfl (Nat.le_of_ble_eq_true rfl) dX12_closes_2 ?_
  rintro _ _ ⟨rfl, i1, a1, rfl, f1, g1, h1, k1⟩
  have hst3 := stK_len 3 K
  have hl3 : (o ++ stP 3 K).length = o.length + (stP 3 K).length := List.length_append
  rw [sy_st3] at hR
  exact loop (L - n) d (stK 3 K) n _ i1 a1 rfl hN ⟨f0.trans f1, g0.trans g1, h1, k1, hn, hm, by omega, hd, hR⟩ (st3_idem K)
