/-! ===== THE CLASS: Puzzles: the least that is thrown ===== -/
def rmL (m : Nat) : Room := { frames := m + 9, cells := 0, slots := 0, locals := 30 * m + 200 }
/-- three ways a person: it stays, it is thrown whole, or in part -/
def lfF (A G R : Nat → Nat) (s P : Nat) : Nat → Int → Nat → Nat → Nat
  | 0, z, inp, thr => if max 0 z ≤ inp then thr + (max 0 z).toNat else 1000000
  | d + 1, z, inp, thr =>
    if s.testBit (P - (d + 1)) = true ∧ ¬ A (P - (d + 1)) = 0 then
      (if A (P - (d + 1)) + R (P - (d + 1)) - G (P - (d + 1)) + 1 < A (P - (d + 1)) then
        min (min (lfF A G R s P d z inp thr) (lfF A G R s P d (z - G (P - (d + 1))) inp (thr + A (P - (d + 1))))) (lfF A G R s P d z (inp + (A (P - (d + 1)) - 1 - (A (P - (d + 1)) + R (P - (d + 1)) - G (P - (d + 1))))) (thr + (A (P - (d + 1)) + R (P - (d + 1)) - G (P - (d + 1)))))
      else min (lfF A G R s P d z inp thr) (lfF A G R s P d (z - G (P - (d + 1))) inp (thr + A (P - (d + 1)))))
    else lfF A G R s P d z inp thr
/-- what u says of aims, of aims at mid stream, of growing -/
def agR (u : Nat → Int32) (P : Nat) (A G R : Nat → Nat) : Prop := ∀ p, p < P → u (14 + p) = nI (A p) ∧ midU u P (14 + p) = nI (G p) ∧ u (28 + p) = nI (R p) ∧ A p ≤ 99 ∧ G p ≤ 99 ∧ R p ≤ 9 ∧ (¬ A p = 0 → G p ≤ A p + R p)
theorem mn_n {a b : Nat} (ha : a < 2147483648) (hb : b < 2147483648) : mnF (nI a) (nI b) = nI (min a b) := by
  unfold mnF
  by_cases c : nI b < nI a
  · have c2 := (nI_ltI hb ha).mp c
    rw [if_pos c]; congr 1; omega
  · have c2 : ¬ b < a := fun q => c (nI_lt q ha)
    rw [if_neg c]; congr 1; omega
theorem lf_le {A G R : Nat → Nat} {s P : Nat} (hA : ∀ p, p < P → A p ≤ 99) : ∀ d z inp thr, d ≤ P → z ≤ 5000 → thr + 99 * d ≤ 10000 → lfF A G R s P d z inp thr ≤ 1000000
  | 0, z, inp, thr, _, hz, ht => by
    simp only [lfF]
    split <;> omega
  | d + 1, z, inp, thr, hd, hz, ht => by
    have a := hA (P - (d + 1)) (by omega)
    have h0 := lf_le (A := A) (G := G) (R := R) (s := s) hA d z inp thr (by omega) hz (by omega)
    simp only [lfF]
    split
    · split
      · omega
      · omega
    · exact h0
theorem c_X4_leastFrom (w : Wd) (l : Launch) (S : St) (c ca cg cl ce P H s : Nat) (u : Nat → Int32) (A G R : Nat → Nat) (h : pzS S c ca cg cl ce P H u) (hg : agR u P A G R) (hs : s < 128) : ∀ d p nd z inp thr, p + d = P → iv nd z → z ≤ 5000 → -(99 * (p : Int)) ≤ z → inp ≤ 99 * p → thr ≤ 99 * p → gx_M w l yX4_leastFrom cX4_leastFrom 11 (some .int) (rmL d) [.ref (ad (w_b w) 74), .int (nI p), .int (nI s), .int nd, .int (nI inp), .int (nI thr)] S (pI (nI (lfF A G R s P d z inp thr)) S) := by
  obtain ⟨hk, hv, hc, hk5, hr, hm⟩ := id h
  have hP7 := hc.2.2
  have o74 : gx_o S 74 4 := o_st hk.1 rfl rfl
  have rc := hv.1
  have rr := hv.2.1
  have rm := hk.2.2.2.1
  have hpp := hc.2.1.2.2.2.2.1
  have hA99 : ∀ p, p < P → A p ≤ 99 := fun p hp => (hg p hp).2.2.2.1
  intro d
  induction d with
  | zero =>
    intro p nd z inp thr hp hz hz5 hz0 hi ht
    have hp : p = P := hp
    subst hp
    refine gx_start rfl 5 rfl (Nat.le_of_ble_eq_true rfl) ?_
    intro X C _ hl
    subst hl
    refine gx_L (L' := [_, _, _, _, _, _, _, _, _, _, _]) rfl ?_
    refine g_iload_n (pc := 0) C dX4_leastFrom_0 rfl ?_
    refine g_aload_n (pc := 1) C dX4_leastFrom_1 rfl ?_
    refine fgr_X4_41 (pc := 2) C (by exact o74.1) (zk (by exact o74.2)) (by exact rc) dX4_leastFrom_2 ?_
    refine fg_X4_111 (pc := 5) C (by exact hc.1.1.1) (zk (by exact hc.1.1.2)) dX4_leastFrom_5 ?_
    refine gx_ti (y := nI p) hpp ?_
    refine g_icmp_lt (pc := 8) C 36 dX4_leastFrom_8 rfl (fun c1 => ?_) (fun c1 => ?_)
    · exact absurd c1 (nI_nlt (Nat.le_refl _) (by omega))
    · have em : mxF (nI 0) nd = nI (max 0 z).toNat := by
        unfold mxF
        by_cases q : nI 0 < nd
        · have q2 := (iv_lt (iv_n (n := 0) (by omega)) hz).mp q
          rw [if_pos q]
          exact (iv_eq hz (iv_n (by omega))).mpr (by omega)
        · have q2 : ¬ ((0 : Nat) : Int) < z := fun y => q ((iv_lt (iv_n (n := 0) (by omega)) hz).mpr y)
          rw [if_neg q]
          congr 1; omega
      refine g_iconst (pc := 11) (v := nI 0) C dX4_leastFrom_11 (by decide) ?_
      refine g_iload_n (pc := 12) C dX4_leastFrom_12 rfl ?_
      refine g_mmax (pc := 13) C wl_X4_114 ⟨Nat.ble_eq_true_of_le (by simp only [rmL]; omega), Nat.ble_eq_true_of_le (by simp only [rmL]; omega)⟩ ⟨Nat.zero_le _, Nat.zero_le _⟩ rfl (Nat.le_of_ble_eq_true rfl) dX4_leastFrom_13 ?_
      refine gx_ti (y := nI (max 0 z).toNat) em ?_
      refine g_istore (pc := 16) (L' := [_, _, _, _, _, some (.int _), _, _, _, _, _]) C dX4_leastFrom_16 rfl rfl ?_
      refine g_iload (pc := 18) C dX4_leastFrom_18 rfl ?_
      refine g_iload (pc := 20) C dX4_leastFrom_20 rfl ?_
      refine g_icmp_gt (pc := 22) C 33 dX4_leastFrom_22 rfl (fun c2 => ?_) (fun c2 => ?_)
      · have c2 : ¬ max 0 z ≤ inp := fun q => absurd c2 (nI_nlt (by omega) (by omega))
        refine g_ldc (pc := 33) (v := 1000000) C dX4_leastFrom_33 kc_X4_110 ?_
        exact g_ireturn (pc := 35) C ⟨rfl, rfl⟩ dX4_leastFrom_35 ⟨by simp only [lfF]; rw [if_neg c2]; rfl, rfl⟩
      · have c2 : max 0 z ≤ inp := by
          have : ¬ inp < (max 0 z).toNat := fun q => c2 (nI_lt q (by omega))
          omega
        refine g_iload (pc := 25) C dX4_leastFrom_25 rfl ?_
        refine g_iload (pc := 27) C dX4_leastFrom_27 rfl ?_
        refine g_iadd (pc := 29) C dX4_leastFrom_29 ?_
        refine gx_ti (y := nI (thr + (max 0 z).toNat)) (nI_add _ _) ?_
        refine g_goto (pc := 30) C 35 dX4_leastFrom_30 rfl ?_
        exact g_ireturn (pc := 35) C ⟨rfl, rfl⟩ dX4_leastFrom_35 ⟨by simp only [lfF]; rw [if_pos c2], rfl⟩
  | succ d ih =>
    intro p nd z inp thr hp hz hz5 hz0 hi ht
    obtain ⟨g1, g2, g3, g4, g5, g6, g7⟩ := hg p (by omega)
    have hpd : P - (d + 1) = p := by omega
    have hsh := shr_bit s hs p (by omega)
    have l0 := lf_le (A := A) (G := G) (R := R) (s := s) hA99 d z inp thr (by omega) hz5 (by omega)
    have l1 := lf_le (A := A) (G := G) (R := R) (s := s) hA99 d (z - G p) inp (thr + A p) (by omega) (by omega) (by omega)
    have hspec : lfF A G R s P (d + 1) z inp thr = if s.testBit p = true ∧ ¬ A p = 0 then (if A p + R p - G p + 1 < A p then min (min (lfF A G R s P d z inp thr) (lfF A G R s P d (z - G p) inp (thr + A p))) (lfF A G R s P d z (inp + (A p - 1 - (A p + R p - G p))) (thr + (A p + R p - G p))) else min (lfF A G R s P d z inp thr) (lfF A G R s P d (z - G p) inp (thr + A p))) else lfF A G R s P d z inp thr := by
      show (if s.testBit (P - (d + 1)) = true ∧ _ then _ else _) = _
      rw [hpd]
    rw [hspec]
    refine gx_start rfl 5 rfl (Nat.le_of_ble_eq_true rfl) ?_
    intro X C _ hl
    subst hl
    refine gx_L (L' := [_, _, _, _, _, _, _, _, _, _, _]) rfl ?_
    refine g_iload_n (pc := 0) C dX4_leastFrom_0 rfl ?_
    refine g_aload_n (pc := 1) C dX4_leastFrom_1 rfl ?_
    refine fgr_X4_41 (pc := 2) C (by exact o74.1) (zk (by exact o74.2)) (by exact rc) dX4_leastFrom_2 ?_
    refine fg_X4_111 (pc := 5) C (by exact hc.1.1.1) (zk (by exact hc.1.1.2)) dX4_leastFrom_5 ?_
    refine gx_ti (y := nI P) hpp ?_
    refine g_icmp_lt (pc := 8) C 36 dX4_leastFrom_8 rfl (fun c1 => ?_) (fun c1 => ?_)
    · refine g_aload_n (pc := 36) C dX4_leastFrom_36 rfl ?_
      refine g_iload_n (pc := 37) C dX4_leastFrom_37 rfl ?_
      refine g_iconst (pc := 38) (v := nI 1) C dX4_leastFrom_38 (by decide) ?_
      refine g_iadd (pc := 39) C dX4_leastFrom_39 ?_
      refine gx_ti (y := nI (p + 1)) (nI_add _ _) ?_
      refine g_iload_n (pc := 40) C dX4_leastFrom_40 rfl ?_
      refine g_iload_n (pc := 41) C dX4_leastFrom_41 rfl ?_
      refine g_iload (pc := 42) C dX4_leastFrom_42 rfl ?_
      refine g_iload (pc := 44) C dX4_leastFrom_44 rfl ?_
      refine cf_X4_106 (pc := 46) C (by exact o74.1) (zk (by exact o74.2)) (ih (p + 1) nd z inp thr (by omega) hz hz5 (by omega) (by omega) (by omega)) ⟨Nat.ble_eq_true_of_le (by simp only [rmL]; omega), Nat.ble_eq_true_of_le (by simp only [rmL]; omega)⟩ ⟨rfl, rfl⟩ ⟨Nat.zero_le _, Nat.zero_le _⟩ rfl (Nat.le_of_ble_eq_true rfl) dX4_leastFrom_46 ?_
      refine g_istore (pc := 49) (L' := [_, _, _, _, _, some (.int _), _, _, _, _, _]) C dX4_leastFrom_49 rfl rfl ?_
      refine g_aload_n (pc := 51) C dX4_leastFrom_51 rfl ?_
      refine fgr_X4_45 (pc := 52) C (by exact o74.1) (zk (by exact o74.2)) (by exact rr) dX4_leastFrom_52 ?_
      refine fgr_X4_120 (pc := 55) C (by exact hr.1.1.1) (zk (by exact hr.1.1.2)) (by exact hr.1.2.1) dX4_leastFrom_55 ?_
      refine g_iload_n (pc := 58) C dX4_leastFrom_58 rfl ?_
      refine n_iald (pc := 59) (n := 7) C (by exact hr.1.2.2.1) (by exact hr.1.2.2.2.1) (zk (by exact hr.1.2.2.2.2)) isn_v rfl (by omega) dX4_leastFrom_59 ?_
      refine gx_ti (y := nI (A p)) ((hr.2.1.2.2.2.2.2 p (by omega)).trans g1) ?_
      refine g_istore (pc := 60) (L' := [_, _, _, _, _, _, some (.int _), _, _, _, _]) C dX4_leastFrom_60 rfl rfl ?_
      refine g_iload_n (pc := 62) C dX4_leastFrom_62 rfl ?_
      refine g_iload_n (pc := 63) C dX4_leastFrom_63 rfl ?_
      refine g_ishr (pc := 64) C dX4_leastFrom_64 ?_
      refine g_iconst (pc := 65) (v := nI 1) C dX4_leastFrom_65 (by decide) ?_
      refine g_iand (pc := 66) C dX4_leastFrom_66 ?_
      refine gx_ti (y := if s.testBit p = true then nI 1 else nI 0) hsh ?_
      have out : ¬ (s.testBit p = true ∧ ¬ A p = 0) → gx_G w X S 0 0 75 [some (.ref (ad (w_b w) 74)), some (.int (nI p)), some (.int (nI s)), some (.int nd), some (.int (nI inp)), some (.int (nI thr)), some (.int (nI (lfF A G R s P d z inp thr))), some (.int (nI (A p))), none, none, none] [] (gx_E w X (pI (nI (if s.testBit p = true ∧ ¬ A p = 0 then (if A p + R p - G p + 1 < A p then min (min (lfF A G R s P d z inp thr) (lfF A G R s P d (z - G p) inp (thr + A p))) (lfF A G R s P d z (inp + (A p - 1 - (A p + R p - G p))) (thr + (A p + R p - G p))) else min (lfF A G R s P d z inp thr) (lfF A G R s P d (z - G p) inp (thr + A p))) else lfF A G R s P d z inp thr)) S)) := by
        intro hno
        rw [if_neg hno]
        refine g_iload (pc := 75) C dX4_leastFrom_75 rfl ?_
        exact g_ireturn (pc := 77) C ⟨rfl, rfl⟩ dX4_leastFrom_77 ⟨rfl, rfl⟩
      by_cases hb : s.testBit p = true
      · rw [if_pos hb]
        refine g_if_eq (pc := 67) C 75 dX4_leastFrom_67 rfl (fun c2 => ?_) (fun c2 => ?_)
        · exact absurd c2 (by decide)
        · refine g_iload (pc := 70) C dX4_leastFrom_70 rfl ?_
          refine g_if_ne (pc := 72) C 78 dX4_leastFrom_72 rfl (fun c3 => ?_) (fun c3 => ?_)
          · have c3 : ¬ A p = 0 := fun e => c3 (by rw [e]; rfl)
            have g7 := g7 c3
            rw [if_pos ⟨hb, c3⟩]
            refine g_aload_n (pc := 78) C dX4_leastFrom_78 rfl ?_
            refine fgr_X4_21 (pc := 79) C (by exact o74.1) (zk (by exact o74.2)) (by exact rm) dX4_leastFrom_79 ?_
            refine fgr_X4_120 (pc := 82) C (by exact hm.1.1.1) (zk (by exact hm.1.1.2)) (by exact hm.1.2.1) dX4_leastFrom_82 ?_
            refine g_iload_n (pc := 85) C dX4_leastFrom_85 rfl ?_
            refine n_iald (pc := 86) (n := 7) C (by exact hm.1.2.2.1) (by exact hm.1.2.2.2.1) (zk (by exact hm.1.2.2.2.2)) isn_v rfl (by omega) dX4_leastFrom_86 ?_
            refine gx_ti (y := nI (G p)) ((hm.2.1.2.2.2.2.2 p (by omega)).trans g2) ?_
            refine g_istore (pc := 87) (L' := [_, _, _, _, _, _, _, some (.int _), _, _, _]) C dX4_leastFrom_87 rfl rfl ?_
            refine g_iload (pc := 89) C dX4_leastFrom_89 rfl ?_
            refine g_aload_n (pc := 91) C dX4_leastFrom_91 rfl ?_
            refine g_iload_n (pc := 92) C dX4_leastFrom_92 rfl ?_
            refine g_iconst (pc := 93) (v := nI 1) C dX4_leastFrom_93 (by decide) ?_
            refine g_iadd (pc := 94) C dX4_leastFrom_94 ?_
            refine gx_ti (y := nI (p + 1)) (nI_add _ _) ?_
            refine g_iload_n (pc := 95) C dX4_leastFrom_95 rfl ?_
            refine g_iload_n (pc := 96) C dX4_leastFrom_96 rfl ?_
            refine g_iload (pc := 97) C dX4_leastFrom_97 rfl ?_
            refine g_isub (pc := 99) C dX4_leastFrom_99 ?_
            refine g_iload (pc := 100) C dX4_leastFrom_100 rfl ?_
            refine g_iload (pc := 102) C dX4_leastFrom_102 rfl ?_
            refine g_iload (pc := 104) C dX4_leastFrom_104 rfl ?_
            refine g_iadd (pc := 106) C dX4_leastFrom_106 ?_
            refine gx_ti (y := nI (thr + A p)) (nI_add _ _) ?_
            refine cf_X4_106 (pc := 107) C (by exact o74.1) (zk (by exact o74.2)) (ih (p + 1) (nd - nI (G p)) (z - G p) inp (thr + A p) (by omega) (iv_sub hz (iv_n (by omega)) (by omega) (by omega)) (by omega) (by omega) (by omega) (by omega)) ⟨Nat.ble_eq_true_of_le (by simp only [rmL]; omega), Nat.ble_eq_true_of_le (by simp only [rmL]; omega)⟩ ⟨rfl, rfl⟩ ⟨Nat.zero_le _, Nat.zero_le _⟩ rfl (Nat.le_of_ble_eq_true rfl) dX4_leastFrom_107 ?_
            refine g_mmin (pc := 110) C wl_X4_123 ⟨Nat.ble_eq_true_of_le (by simp only [rmL]; omega), Nat.ble_eq_true_of_le (by simp only [rmL]; omega)⟩ ⟨Nat.zero_le _, Nat.zero_le _⟩ rfl (Nat.le_of_ble_eq_true rfl) dX4_leastFrom_110 ?_
            refine gx_ti (y := nI (min (lfF A G R s P d z inp thr) (lfF A G R s P d (z - G p) inp (thr + A p)))) (mn_n (by omega) (by omega)) ?_
            refine g_istore (pc := 113) (L' := [_, _, _, _, _, some (.int _), _, _, _, _, _]) C dX4_leastFrom_113 rfl rfl ?_
            refine g_iload (pc := 115) C dX4_leastFrom_115 rfl ?_
            refine g_aload_n (pc := 117) C dX4_leastFrom_117 rfl ?_
            refine fgr_X4_41 (pc := 118) C (by exact o74.1) (zk (by exact o74.2)) (by exact rc) dX4_leastFrom_118 ?_
            refine fgr_X4_126 (pc := 121) C (by exact hc.1.1.1) (zk (by exact hc.1.1.2)) (by exact hc.1.2.2.2.1) dX4_leastFrom_121 ?_
            refine g_iload_n (pc := 124) C dX4_leastFrom_124 rfl ?_
            refine n_iald (pc := 125) (n := 7) C (by exact hc.1.2.2.2.2.1.1) (by exact hc.1.2.2.2.2.1.2.1) (zk (by exact hc.1.2.2.2.2.1.2.2)) isn_v rfl (by omega) dX4_leastFrom_125 ?_
            refine gx_ti (y := nI (R p)) (((hc.2.1.2.2.2.2.2.1 p (by omega)).2.1).trans g3) ?_
            refine g_iadd (pc := 126) C dX4_leastFrom_126 ?_
            refine gx_ti (y := nI (A p + R p)) (nI_add _ _) ?_
            refine g_iload (pc := 127) C dX4_leastFrom_127 rfl ?_
            refine g_isub (pc := 129) C dX4_leastFrom_129 ?_
            refine gx_ti (y := nI (A p + R p - G p)) (pk_sub g7) ?_
            refine g_istore (pc := 130) (L' := [_, _, _, _, _, _, _, _, some (.int _), _, _]) C dX4_leastFrom_130 rfl rfl ?_
            have i1 : iv (nI (A p) - nI 1 - nI (A p + R p - G p)) ((A p : Int) - 1 - (A p + R p - G p : Nat)) := iv_sub (iv_sub (iv_n (by omega)) (iv_n (n := 1) (by omega)) (by omega) (by omega)) (iv_n (by omega)) (by omega) (by omega)
            have i0 : iv 0 0 := iv_n (n := 0) (by omega)
            refine g_iload (pc := 132) C dX4_leastFrom_132 rfl ?_
            refine g_iconst (pc := 134) (v := nI 1) C dX4_leastFrom_134 (by decide) ?_
            refine g_isub (pc := 135) C dX4_leastFrom_135 ?_
            refine g_iload (pc := 136) C dX4_leastFrom_136 rfl ?_
            refine g_isub (pc := 138) C dX4_leastFrom_138 ?_
            refine g_istore (pc := 139) (L' := [_, _, _, _, _, _, _, _, _, some (.int _), _]) C dX4_leastFrom_139 rfl rfl ?_
            refine g_iload (pc := 141) C dX4_leastFrom_141 rfl ?_
            refine g_if_le (pc := 143) C 172 dX4_leastFrom_143 rfl (fun c4 => ?_) (fun c4 => ?_)
            · have c4 := (iv_le i1 i0).mp c4
              rw [if_neg (by omega)]
              refine g_iload (pc := 172) C dX4_leastFrom_172 rfl ?_
              exact g_ireturn (pc := 174) C ⟨rfl, rfl⟩ dX4_leastFrom_174 ⟨rfl, rfl⟩
            · have c4 : ¬ _ ≤ (0 : Int) := fun q => c4 ((iv_le i1 i0).mpr q)
              have hpt : nI (A p) - nI 1 - nI (A p + R p - G p) = nI (A p - 1 - (A p + R p - G p)) := iv_nat (iv_u i1 (by omega)) (by omega)
              have l2 := lf_le (A := A) (G := G) (R := R) (s := s) hA99 d z (inp + (A p - 1 - (A p + R p - G p))) (thr + (A p + R p - G p)) (by omega) hz5 (by omega)
              rw [if_pos (by omega)]
              refine g_iload (pc := 146) C dX4_leastFrom_146 rfl ?_
              refine g_aload_n (pc := 148) C dX4_leastFrom_148 rfl ?_
              refine g_iload_n (pc := 149) C dX4_leastFrom_149 rfl ?_
              refine g_iconst (pc := 150) (v := nI 1) C dX4_leastFrom_150 (by decide) ?_
              refine g_iadd (pc := 151) C dX4_leastFrom_151 ?_
              refine gx_ti (y := nI (p + 1)) (nI_add _ _) ?_
              refine g_iload_n (pc := 152) C dX4_leastFrom_152 rfl ?_
              refine g_iload_n (pc := 153) C dX4_leastFrom_153 rfl ?_
              refine g_iload (pc := 154) C dX4_leastFrom_154 rfl ?_
              refine g_iload (pc := 156) C dX4_leastFrom_156 rfl ?_
              refine gx_ti (y := nI (A p - 1 - (A p + R p - G p))) hpt ?_
              refine g_iadd (pc := 158) C dX4_leastFrom_158 ?_
              refine gx_ti (y := nI (inp + (A p - 1 - (A p + R p - G p)))) (nI_add _ _) ?_
              refine g_iload (pc := 159) C dX4_leastFrom_159 rfl ?_
              refine g_iload (pc := 161) C dX4_leastFrom_161 rfl ?_
              refine g_iadd (pc := 163) C dX4_leastFrom_163 ?_
              refine gx_ti (y := nI (thr + (A p + R p - G p))) (nI_add _ _) ?_
              refine cf_X4_106 (pc := 164) C (by exact o74.1) (zk (by exact o74.2)) (ih (p + 1) nd z (inp + (A p - 1 - (A p + R p - G p))) (thr + (A p + R p - G p)) (by omega) hz hz5 (by omega) (by omega) (by omega)) ⟨Nat.ble_eq_true_of_le (by simp only [rmL]; omega), Nat.ble_eq_true_of_le (by simp only [rmL]; omega)⟩ ⟨rfl, rfl⟩ ⟨Nat.zero_le _, Nat.zero_le _⟩ rfl (Nat.le_of_ble_eq_true rfl) dX4_leastFrom_164 ?_
              refine g_mmin (pc := 167) C wl_X4_123 ⟨Nat.ble_eq_true_of_le (by simp only [rmL]; omega), Nat.ble_eq_true_of_le (by simp only [rmL]; omega)⟩ ⟨Nat.zero_le _, Nat.zero_le _⟩ rfl (Nat.le_of_ble_eq_true rfl) dX4_leastFrom_167 ?_
              refine gx_ti (y := nI (min (min (lfF A G R s P d z inp thr) (lfF A G R s P d (z - G p) inp (thr + A p))) (lfF A G R s P d z (inp + (A p - 1 - (A p + R p - G p))) (thr + (A p + R p - G p))))) (mn_n (by omega) (by omega)) ?_
              refine g_istore (pc := 170) (L' := [_, _, _, _, _, some (.int _), _, _, _, _, _]) C dX4_leastFrom_170 rfl rfl ?_
              refine g_iload (pc := 172) C dX4_leastFrom_172 rfl ?_
              exact g_ireturn (pc := 174) C ⟨rfl, rfl⟩ dX4_leastFrom_174 ⟨rfl, rfl⟩
          · have c3 : A p = 0 := (nI_eq (b := 0) (by omega) (by omega)).mp (Decidable.not_not.mp c3)
            exact out (fun z => z.2 c3)
      · rw [if_neg hb]
        refine g_if_eq (pc := 67) C 75 dX4_leastFrom_67 rfl (fun c2 => ?_) (fun c2 => ?_)
        · exact out (fun z => hb z.1)
        · exact absurd rfl c2
    · exact absurd (nI_lt (by omega) (by omega)) c1
