/-! ===== THE CLASS: RuleReader: a VALUE, a SUM ===== -/
theorem m60 {m : Nat} (h : m ≤ 60) : (nI m + nI 1 ≤ nI 60) ↔ ¬ m = 60 := by
  rw [nI_add, nI_leI (by omega) (by omega)]; omega
theorem clK_n (x : Nat) : clK (16 * x) = x * 32 := by
  unfold clK
  rw [show 16 * x / 16 = x by omega, show 16 * x % 16 = 0 by omega]
  show 32 * x + 0 = x * 32
  omega
theorem clK_w (x : Nat) : clK (1 + 16 * x) = x * 32 + 1 := by
  unfold clK
  rw [show (1 + 16 * x) / 16 = x by omega, show (1 + 16 * x) % 16 = 1 by omega]
  show 32 * x + 1 = x * 32 + 1
  omega
/-- one more VALUE or FACT is counted -/
theorem cnt_end {U U1 : St} {L a m q c : Nat} {o : List Nat} {r : RT} (hm : m ≤ 60) (ha : a ≤ L) (hr : r = if m = 60 then .error (ftN 3 q) else .ok (a, m + 1, [c])) (h : rch U U1) (hu : ruU U1 (o ++ [clK c]) m) (hl : (o ++ [clK c]).length ≤ 512) : pxU U L o r none (rk4 (s_setI U1 705 4 (nI m + nI 1)) a (alw (bI (nI m + nI 1 ≤ nI 60)) 0 (nI q) (nI 3))) := by
  by_cases e : m = 60
  · rw [if_pos e] at hr
    refine pxU_e hr (h.trans (rch_I (g := 705) (v := nI m + nI 1))) ⟨a, (o ++ [clK c]).length, ha, ?_, (gI_ne (Or.inl (by decide))).trans hu.1, hl⟩
    unfold alw
    rw [bI_f (fun z => (m60 hm).mp z e), if_pos ⟨rfl, rfl⟩, ft_I]
  · rw [if_neg e] at hr
    have hb : alw (bI (nI m + nI 1 ≤ nI 60)) 0 (nI q) (nI 3) = 0 := by
      unfold alw
      rw [bI_t ((m60 hm).mpr e), if_neg (fun z => absurd z.1 (by decide))]
    rw [hb]
    exact pxU_o hr (h.trans rch_I) ⟨(gI_ne (Or.inl (by decide))).trans hu.1, by rw [gI_at, nI_add], fun j hj => hu.2.2 j hj⟩
theorem c_X8_readValue (w : Wd) (j : SJ) (l : Launch) (U : St) (T : Nat → Int32) (L n m : Nat) (o : List Nat) (h : ruP U T L n m o) : gx_MJ w j l yX8_readValue cX8_readValue 3 none rmX8_readValue [.ref (ad (w_b w) 4)] (rk4 U n 0) (pxU U L o (valF T L n m)) := by
  obtain ⟨hd, rfl, hc, hn, hm, ho, hu⟩ := id h
  have hL := hd.2.1.2.2.2
  have hB := hd.2.2
  have hs := sk_bd (T := s_A U 2) hn
  have zu : 121 ≤ s_z U := hd.2.1.1
  have o4 : ∀ S, 121 ≤ s_z S → gx_o S 4 7 := fun S q => o_st q rfl rfl
  have o1 : ∀ S, 121 ≤ s_z S → gx_o S 1 9 := fun S q => o_st q rfl rfl
  have rt := hd.1
  generalize hpost : pxU U L o (valF (s_A U 2) L n m) = post
  have hv : valF (s_A U 2) L n m = (if chP 48 57 (s_A U 2) L (skN (s_A U 2) L n) then (match numF (s_A U 2) L n (nI 0) 99999 with
    | .error f => .error f
    | .ok (n', x) => if m = 60 then .error (ftN 3 (skN (s_A U 2) L n)) else .ok (n', m + 1, [16 * x.toNatClampNeg])) else if whF (s_A U 2) L (skN (s_A U 2) L n) < 0 then .error (ftN 0 (skN (s_A U 2) L n)) else if m = 60 then .error (ftN 3 (skN (s_A U 2) L n)) else .ok (ltN (s_A U 2) L (skN (s_A U 2) L n), m + 1, [1 + 16 * (whF (s_A U 2) L (skN (s_A U 2) L n)).toNatClampNeg])) := rfl
  have hnum : numF (s_A U 2) L n (nI 0) 99999 = (if chP 48 57 (s_A U 2) L (skN (s_A U 2) L n) then (if nbOK (s_A U 2) L (skN (s_A U 2) L n) (nI 0) 99999 then .ok (dgN (s_A U 2) L (skN (s_A U 2) L n), nbV (s_A U 2) (skN (s_A U 2) L n) (dgN (s_A U 2) L (skN (s_A U 2) L n) - skN (s_A U 2) L n)) else .error (ftN 1 (skN (s_A U 2) L n))) else .error (ftN 0 (skN (s_A U 2) L n))) := rfl
  refine gx_startJ rfl 2 rfl (Nat.le_of_ble_eq_true rfl) ?_
  intro X C J hl
  subst hl
  refine gx_L (L' := [_, _, _]) rfl ?_
  refine g_aload_n (pc := 0) C dX8_readValue_0 rfl ?_
  refine cf_X8_57 (pc := 1) C (by exact (o4 _ zu).1) (zk (by exact (o4 _ zu).2)) (c_X5_skipBlanks_X8 _ _ U L hd n hn 0) ⟨rfl, rfl⟩ ⟨rfl, rfl⟩ ⟨Nat.zero_le _, Nat.zero_le _⟩ rfl (Nat.le_of_ble_eq_true rfl) dX8_readValue_1 ?_
  refine g_istore_n (pc := 4) (L' := [some (.ref _), _, _]) C dX8_readValue_4 rfl rfl ?_
  generalize skN (s_A U 2) L n = q at hs hv hnum ⊢
  refine g_aload_n (pc := 5) C dX8_readValue_5 rfl ?_
  refine g_aload_n (pc := 6) C dX8_readValue_6 rfl ?_
  refine fgr_X8_99 (pc := 7) C (by exact (o4 _ zu).1) (zk (by exact (o4 _ zu).2)) (by exact rt) dX8_readValue_7 ?_
  refine g_iload_n (pc := 10) C dX8_readValue_10 rfl ?_
  refine cf_X8_103 (pc := 11) C (by exact (o1 _ zu).1) (zk (by exact (o1 _ zu).2)) (c_X10_at _ _ (rk4 U q 0) L q hd.to.2.1 (by omega)) ⟨rfl, rfl⟩ ⟨rfl, rfl⟩ ⟨Nat.zero_le _, Nat.zero_le _⟩ rfl (Nat.le_of_ble_eq_true rfl) dX8_readValue_11 ?_
  refine cf_X8_117 (pc := 14) C (by exact (o4 _ zu).1) (zk (by exact (o4 _ zu).2)) (c_X5_isDigit_X8 _ _ (rk4 U q 0) (seeV (s_A U 2) L q)) ⟨rfl, rfl⟩ ⟨rfl, rfl⟩ ⟨Nat.zero_le _, Nat.zero_le _⟩ rfl (Nat.le_of_ble_eq_true rfl) dX8_readValue_14 ?_
  have hch := chP_see (T := s_A U 2) (L := L) (n := q) (lo := 48) (hi := 57) hB (by omega) (by omega)
  refine g_if_eq (pc := 17) C 38 dX8_readValue_17 rfl (fun c1 => ?_) (fun c1 => ?_)
  · have c1 : ¬ chP 48 57 (s_A U 2) L q := fun z => bI_0.mp c1 (hch.mp z)
    rw [if_neg c1] at hv
    have loop : ∀ d k, k + d = 12 → (∀ i, i < k → ¬ wdP (s_A U 2) L q (jsV (vwI i))) → gx_G w X (rk4 U q 0) 0 0 40 [some (.ref (ad (w_b w) 4)), some (.int (nI q)), some (.int (nI k))] [] (gx_E w X post) := by
      intro d
      induction d with
      | zero =>
        intro k hk hno
        have hk : k = 12 := hk
        subst hk
        rw [wh_12 hno, if_pos (by decide)] at hv
        refine g_iload_n (pc := 40) C dX8_readValue_40 rfl ?_
        refine g_bipush (pc := 41) (v := nI 12) C dX8_readValue_41 (by decide) ?_
        refine g_icmp_ge (pc := 43) C 76 dX8_readValue_43 rfl (fun c2 => ?_) (fun c2 => ?_)
        · refine g_aload_n (pc := 76) C dX8_readValue_76 rfl ?_
          refine g_iconst (pc := 77) (v := nI 0) C dX8_readValue_77 (by decide) ?_
          refine g_iload_n (pc := 78) C dX8_readValue_78 rfl ?_
          refine g_iconst (pc := 79) (v := nI 0) C dX8_readValue_79 (by decide) ?_
          refine cf_X8_53 (pc := 80) C (by exact (o4 _ zu).1) (zk (by exact (o4 _ zu).2)) (c_X5_allow_X8 _ _ U L hd q 0 (nI 0) (nI q) (nI 0) (Or.inl rfl)) ⟨rfl, rfl⟩ ⟨rfl, rfl⟩ ⟨Nat.zero_le _, Nat.zero_le _⟩ rfl (Nat.le_of_ble_eq_true rfl) dX8_readValue_80 ?_
          refine g_pop (pc := 83) C dX8_readValue_83 rfl ?_
          rw [← hpost]
          exact g_return (pc := 84) C ⟨rfl, rfl⟩ dX8_readValue_84 (pxU_e hv rch.refl ⟨q, o.length, hs.2, by unfold alw; rw [if_pos ⟨rfl, rfl⟩, ft_I], hu.1, by omega⟩)
        · exact absurd (by decide) c2
      | succ d ih =>
        intro k hk hno
        have hi := vwI_lt k (by omega)
        refine g_iload_n (pc := 40) C dX8_readValue_40 rfl ?_
        refine g_bipush (pc := 41) (v := nI 12) C dX8_readValue_41 (by decide) ?_
        refine g_icmp_ge (pc := 43) C 76 dX8_readValue_43 rfl (fun c2 => ?_) (fun c2 => ?_)
        · exact absurd c2 (nI_ge (by omega) (by omega))
        · refine g_aload_n (pc := 46) C dX8_readValue_46 rfl ?_
          refine g_aload_n (pc := 47) C dX8_readValue_47 rfl ?_
          refine g_iload_n (pc := 48) C dX8_readValue_48 rfl ?_
          refine cfj_X8_125 (pc := 49) C J (by exact (o4 _ zu).1) (zk (by exact (o4 _ zu).2)) (c_X8_valueWord _ _ _ (rk4 U q 0) k (by omega)) ⟨rfl, rfl⟩ ⟨rfl, rfl⟩ ⟨Nat.zero_le _, Nat.zero_le _⟩ rfl (Nat.le_of_ble_eq_true rfl) dX8_readValue_49 ?_
          refine cfj_X8_129 (pc := 52) C J (by exact (o4 _ zu).1) (zk (by exact (o4 _ zu).2)) (c_X5_takeWordHere_X8 _ _ _ U L hd q hs.2 0 (vwI k) hi) ⟨rfl, rfl⟩ ⟨rfl, rfl⟩ ⟨Nat.zero_le _, Nat.zero_le _⟩ rfl (Nat.le_of_ble_eq_true rfl) dX8_readValue_52 ?_
          by_cases hw : wdP (s_A U 2) L q (jsV (vwI k))
          · rw [if_pos hw]
            have hlt := lt_le (T := s_A U 2) (L := L) (n := q) hs.2
            rw [wh_at (by omega) hno hw, if_neg (nI_pos (by omega)), nI_clamp (by omega)] at hv
            refine g_if_eq (pc := 55) C 70 dX8_readValue_55 rfl (fun c3 => ?_) (fun c3 => ?_)
            · exact absurd hw (bI_0.mp c3)
            · refine g_aload_n (pc := 58) C dX8_readValue_58 rfl ?_
              refine g_iconst (pc := 59) (v := nI 1) C dX8_readValue_59 (by decide) ?_
              refine g_iload_n (pc := 60) C dX8_readValue_60 rfl ?_
              refine cf_X8_76 (pc := 61) C (by exact (o4 _ zu).1) (zk (by exact (o4 _ zu).2)) (c_X8_put _ _ U L hd hc (ltN (s_A U 2) L q) o.length (by omega) hu.1 0 (nI 1) (nI k)) ⟨rfl, rfl⟩ ⟨rfl, rfl⟩ ⟨Nat.zero_le _, Nat.zero_le _⟩ rfl (Nat.le_of_ble_eq_true rfl) dX8_readValue_61 ?_
              rw [if_pos (by omega)]
              have hu1 := hu.put (c := clK (1 + 16 * k)) (v := nI k * nI 32 + nI 1) (by rw [pk_mul, nI_add, clK_w])
              refine g_aload_n (pc := 64) C dX8_readValue_64 rfl ?_
              refine g_iload_n (pc := 65) C dX8_readValue_65 rfl ?_
              refine cf_X8_108 (pc := 66) C (by exact (o4 _ zu).1) (zk (by exact (o4 _ zu).2)) (c_X8_countPart _ _ _ L (hd.ch rch_put) (ltN (s_A U 2) L q) 0 (nI q) (nI m) hu1.2.1) ⟨rfl, rfl⟩ ⟨rfl, rfl⟩ ⟨Nat.zero_le _, Nat.zero_le _⟩ rfl (Nat.le_of_ble_eq_true rfl) dX8_readValue_66 ?_
              rw [← hpost]
              exact g_return (pc := 69) C ⟨rfl, rfl⟩ dX8_readValue_69 (cnt_end hm hlt.2 hv rch_put hu1 (by rw [List.length_append]; show o.length + 1 ≤ 512; omega))
          · rw [if_neg hw]
            refine g_if_eq (pc := 55) C 70 dX8_readValue_55 rfl (fun c3 => ?_) (fun c3 => ?_)
            · refine g_iinc (pc := 70) (L' := [_, some (.int _), _]) C dX8_readValue_70 rfl (nI_1 _) rfl ?_
              refine g_goto (pc := 73) C 40 dX8_readValue_73 rfl ?_
              exact ih (k + 1) (by omega) (fun i hi => by
                by_cases e : i = k
                · rw [e]; exact hw
                · exact hno i (by omega))
            · exact absurd (bI_0.mpr hw) c3
    refine g_iconst (pc := 38) (v := nI 0) C dX8_readValue_38 (by decide) ?_
    refine g_istore_n (pc := 39) (L' := [_, some (.int _), _]) C dX8_readValue_39 rfl rfl ?_
    exact loop 12 0 (by omega) (fun i hi => absurd hi (by omega))
  · have c1 := hch.mpr (Decidable.not_not.mp (fun z => c1 (bI_0.mpr z)))
    rw [if_pos c1] at hnum
    rw [if_pos c1, hnum] at hv
    have hdg := dg_le (T := s_A U 2) (L := L) (n := q) hs.2
    refine g_aload_n (pc := 20) C dX8_readValue_20 rfl ?_
    refine g_iconst (pc := 21) (v := nI 0) C dX8_readValue_21 (by decide) ?_
    refine g_aload_n (pc := 22) C dX8_readValue_22 rfl ?_
    refine g_iconst (pc := 23) (v := nI 0) C dX8_readValue_23 (by decide) ?_
    refine g_ldc (pc := 24) (v := 99999) C dX8_readValue_24 kc_X8_121 ?_
    refine cf_X8_122 (pc := 26) C (by exact (o4 _ zu).1) (zk (by exact (o4 _ zu).2)) (c_X5_takeNumberHere_X8 _ _ U L hd q hs.2 0 (nI 0) 99999) ⟨rfl, rfl⟩ ⟨rfl, rfl⟩ ⟨Nat.zero_le _, Nat.zero_le _⟩ rfl (Nat.le_of_ble_eq_true rfl) dX8_readValue_26 ?_
    refine cf_X8_76 (pc := 29) C (by exact (o4 _ zu).1) (zk (by exact (o4 _ zu).2)) (c_X8_put _ _ U L hd hc (dgN (s_A U 2) L q) o.length (by omega) hu.1 (nfT (s_A U 2) L q (nI 0) 99999 0) (nI 0) (nbV (s_A U 2) q (dgN (s_A U 2) L q - q))) ⟨rfl, rfl⟩ ⟨rfl, rfl⟩ ⟨Nat.zero_le _, Nat.zero_le _⟩ rfl (Nat.le_of_ble_eq_true rfl) dX8_readValue_29 ?_
    rw [if_pos (by omega)]
    by_cases hok : nbOK (s_A U 2) L q (nI 0) 99999
    · have hf : nfT (s_A U 2) L q (nI 0) 99999 0 = 0 := by unfold nfT; rw [if_pos rfl, if_pos c1, if_pos hok]
      rw [hf]
      rw [if_pos hok] at hv
      obtain ⟨x, hx, ex⟩ := nat_of (b := 99999) (by omega) hok.2
      simp only [ex] at hv ⊢
      rw [nI_clamp (by omega)] at hv
      have hu1 := hu.put (c := clK (16 * x)) (v := nI x * nI 32 + nI 0) (by rw [pk_mul, nI_add, clK_n]; rfl)
      refine g_aload_n (pc := 32) C dX8_readValue_32 rfl ?_
      refine g_iload_n (pc := 33) C dX8_readValue_33 rfl ?_
      refine cf_X8_108 (pc := 34) C (by exact (o4 _ zu).1) (zk (by exact (o4 _ zu).2)) (c_X8_countPart _ _ _ L (hd.ch rch_put) (dgN (s_A U 2) L q) 0 (nI q) (nI m) hu1.2.1) ⟨rfl, rfl⟩ ⟨rfl, rfl⟩ ⟨Nat.zero_le _, Nat.zero_le _⟩ rfl (Nat.le_of_ble_eq_true rfl) dX8_readValue_34 ?_
      rw [← hpost]
      exact g_return (pc := 37) C ⟨rfl, rfl⟩ dX8_readValue_37 (cnt_end hm hdg.2 hv rch_put hu1 (by rw [List.length_append]; show o.length + 1 ≤ 512; omega))
    · have hf : nfT (s_A U 2) L q (nI 0) 99999 0 = nI (ftN 1 q) := by unfold nfT; rw [if_pos rfl, if_pos c1, if_neg hok]
      rw [hf]
      rw [if_neg hok] at hv
      generalize nbV (s_A U 2) q (dgN (s_A U 2) L q - q) * nI 32 + nI 0 = v
      refine g_aload_n (pc := 32) C dX8_readValue_32 rfl ?_
      refine g_iload_n (pc := 33) C dX8_readValue_33 rfl ?_
      refine cf_X8_108 (pc := 34) C (by exact (o4 _ zu).1) (zk (by exact (o4 _ zu).2)) (c_X8_countPart _ _ (putS U o.length v) L (hd.ch rch_put) (dgN (s_A U 2) L q) (nI (ftN 1 q)) (nI q) (nI m) ((gI_ne (Or.inl (by decide))).trans hu.2.1)) ⟨rfl, rfl⟩ ⟨rfl, rfl⟩ ⟨Nat.zero_le _, Nat.zero_le _⟩ rfl (Nat.le_of_ble_eq_true rfl) dX8_readValue_34 ?_
      rw [← hpost]
      exact g_return (pc := 37) C ⟨rfl, rfl⟩ dX8_readValue_37 (pxU_e hv (rch_put.trans rch_I) ⟨dgN (s_A U 2) L q, o.length + 1, hdg.2, by
        unfold alw
        rw [if_neg (fun z => nI_ne0 (n := ftN 1 q) (by unfold ftN; omega) (by unfold ftN; omega) z.2)], (gI_ne (Or.inl (by decide))).trans gI_at, by omega⟩)
