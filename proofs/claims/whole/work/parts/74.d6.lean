/-! ===== THE CLASS: hours of drawn fog ===== -/
theorem l_mask {n : Nat} (hn : n < 2 ^ 63) : lN n &&& 2147483647 = lN (n % 2147483648) := by
  refine Int64.toBitVec_inj.mp ?_
  show (lN n).toBitVec &&& (2147483647 : Int64).toBitVec = (lN (n % 2147483648)).toBitVec
  refine BitVec.eq_of_toNat_eq ?_
  show (BitVec.ofNat 64 n &&& BitVec.ofNat 64 2147483647).toNat = (BitVec.ofNat 64 (n % 2147483648)).toNat
  rw [BitVec.toNat_and, BitVec.toNat_ofNat, BitVec.toNat_ofNat, BitVec.toNat_ofNat, Nat.mod_eq_of_lt (by omega), Nat.mod_eq_of_lt (show 2147483647 < 2 ^ 64 by omega), Nat.mod_eq_of_lt (a := n % 2147483648) (by omega)]
  exact Nat.and_two_pow_sub_one_eq_mod n 31
theorem dn_lN {k : Nat} (hk : k < 2147483648) : (lN k * 1103515245 + 12345) &&& 2147483647 = dnx (lN k) ∧ ∃ j, j < 2147483648 ∧ dnx (lN k) = lN j := by
  have e : lN k * 1103515245 + 12345 = lN (k * 1103515245 + 12345) := by
    show lN k * lN 1103515245 + lN 12345 = _
    rw [lN_mul, lN_add]
  have e2 : dnx (lN k) = lN ((k * 1103515245 + 12345) % 2147483648) := by
    unfold dnx remL
    rw [e]
    exact pk_lRem (b := 2147483648) (by omega) (by omega) (by omega)
  rw [e, l_mask (by omega), e2]
  exact ⟨rfl, _, by omega, rfl⟩
theorem w_lt {a b : Int32} : a.toInt64 < b.toInt64 ↔ a < b := by
  rw [Int64.lt_iff_toInt_lt, Int32.lt_iff_toInt_lt, Int32.toInt_toInt64, Int32.toInt_toInt64]
theorem dv_lt {k : Nat} (hk : k < 2147483648) {p : Int32} : (lN k / 65536 - lN k / 65536 / 100 * 100 < p.toInt64) ↔ dval (lN k) < p := by
  have e1 : lN k / 65536 = lN (k / 65536) := pk_lDiv (b := 65536) (by omega) (by omega) (by omega)
  have e2 : lN (k / 65536) - lN (k / 65536) / 100 * 100 = lN (k / 65536 % 100) := pk_lRem (b := 100) (by omega) (by omega) (by omega)
  have e3 : dval (lN k) = nI (k / 65536 % 100) := by
    unfold dval remL
    rw [e1]
    show (lN (k / 65536) - lN (k / 65536) / (nI 100).toInt64 * (nI 100).toInt64).toInt32 = _
    rw [show (nI 100).toInt64 = 100 by decide, e2, lN_i]
  rw [e1, e2, e3, ← nI_l (show k / 65536 % 100 < 2 ^ 31 by omega)]
  exact w_lt
theorem fgI_A {fr : Option ((Nat → Int64) → Int64)} {u : Nat → Int32} {P H k : Nat} {p : Int32} (hP : P ≤ 7) (ha : sdA P u) (hH : u 10 = nI H) (hk : k < 2147483648) : ∀ i, sdA P (fgI fr u P H p (lN k) i).1 ∧ (fgI fr u P H p (lN k) i).1 10 = nI (H + i) ∧ (∀ j, j < 10 ∨ 28 ≤ j → (fgI fr u P H p (lN k) i).1 j = u j) ∧ ∃ j, j < 2147483648 ∧ (fgI fr u P H p (lN k) i).2 = lN j
  | 0 => ⟨ha, hH, fun _ _ => rfl, k, hk, rfl⟩
  | i + 1 => by
    obtain ⟨h1, h2, h3, j, h4, h5⟩ := fgI_A (fr := fr) (p := p) hP ha hH hk i
    obtain ⟨-, j', h6, h7⟩ := dn_lN h4
    refine ⟨sdA_pass hP h1, ?_, fun q hq => (passF_out hP hq).trans (h3 q hq), j', h6, ?_⟩
    · show passF _ _ _ _ _ 10 = _
      rw [passF_hour hP, h2, nI_add]; rfl
    · show dnx (fgI fr u P H p (lN k) i).2 = _
      rw [h5]; exact h7
theorem c_X2_drawFogs (w : Wd) (l : Launch) (S : St) (c ca cg cl ce P H m n xk : Nat) (p : Int32) (ro : Option Nat) (fr : Option ((Nat → Int64) → Int64)) (u : Nat → Int32) (hf : ftK S) (hw : nwS S c ca cg cl ce P u) (ha : sdA P u) (hfr : frC2 S ro fr) (hH : u 10 = nI H) (hn : H + n < 2000) (hm : m ≤ 10) (hx : s_I S 803 7 = nI xk) (hxk : xk < 2147483648) : gx_M w l yX2_drawFogs cX2_drawFogs 11 none rmX2_drawFogs [.ref (ad (w_b w) 82), .ref (ad (w_b w) 7), va_rf (ro.map (ad (w_b w))), .int (nI m), .int (nI n), .int p] S (fun v S' => v = none ∧ eqO dF S S' ∧ ftK S' ∧ s_I S' 205 82 = (fgO fr u P H p n (nI xk).toInt64 m).2.1 ∧ s_I S' 206 82 = (fgO fr u P H p n (nI xk).toInt64 m).2.2) := by
  rw [nI_l (by omega)]
  obtain ⟨hz, r1, r2, hc, hk, hr⟩ := id hw
  have hP7 := hc.2.2
  have hap := apart_ft hk
  have of0 : gx_o S 82 2 := o_st hz rfl rfl
  have o7 : gx_o S 7 8 := o_st hz rfl rfl
  have h82 : ¬ dT 83 84 85 86 87 82 := by unfold dT dP dR; omega
  have d82 : ¬ dR 86 87 82 := by unfold dR; omega
  have hO : ∀ i, ∃ j, j < 2147483648 ∧ (fgO fr u P H p n (lN xk) i).1 = lN j := by
    intro i
    induction i with
    | zero => exact ⟨xk, hxk, rfl⟩
    | succ i ih =>
      obtain ⟨j, hj, e⟩ := ih
      show ∃ j, j < 2147483648 ∧ (fgI fr u P H p (fgO fr u P H p n (lN xk) i).1 n).2 = lN j
      rw [e]
      exact (fgI_A hP7 ha hH hj n).2.2.2
  generalize hpost : (fun (v : Option Value) (S' : St) => v = none ∧ eqO dF S S' ∧ ftK S' ∧ s_I S' 205 82 = (fgO fr u P H p n (lN xk) m).2.1 ∧ s_I S' 206 82 = (fgO fr u P H p n (lN xk) m).2.2) = post
  refine gx_start rfl 5 (by cases ro <;> rfl) (Nat.le_of_ble_eq_true (by cases ro <;> rfl)) ?_
  intro X C _ hl
  subst hl
  refine gx_L (L' := [some (.ref (ad (w_b w) 82)), some (.ref (ad (w_b w) 7)), some (va_rf (ro.map (ad (w_b w)))), some (.int (nI m)), some (.int (nI n)), some (.int p), none, none, none, none, none]) (by cases ro <;> rfl) ?_
  have loop : ∀ d y S1 z9 z10, y + d = m → eqO dF S S1 → ftK S1 → s_I S1 205 82 = (fgO fr u P H p n (lN xk) y).2.1 → s_I S1 206 82 = (fgO fr u P H p n (lN xk) y).2.2 → gx_G w X S1 0 0 20 [some (.ref (ad (w_b w) 82)), some (.ref (ad (w_b w) 7)), some (va_rf (ro.map (ad (w_b w)))), some (.int (nI m)), some (.int (nI n)), some (.int p), some (.long (fgO fr u P H p n (lN xk) y).1), none, some (.int (nI y)), z9, z10] [] (gx_E w X post) := by
    intro d
    induction d with
    | zero =>
      intro y S1 z9 z10 hy q1 f1 e1 e2
      have hy : y = m := hy
      subst hy
      refine g_iload (pc := 20) C dX2_drawFogs_20 rfl ?_
      refine g_iload_n (pc := 22) C dX2_drawFogs_22 rfl ?_
      refine g_icmp_ge (pc := 23) C 161 dX2_drawFogs_23 rfl (fun c1 => ?_) (fun c1 => ?_)
      · rw [← hpost]
        exact g_return (pc := 161) C ⟨rfl, rfl⟩ dX2_drawFogs_161 ⟨rfl, q1, f1, e1, e2⟩
      · exact absurd (nI_le (Nat.le_refl y) (by omega)) c1
    | succ d ih =>
      intro y S1 z9 z10 hy q1 f1 e1 e2
      obtain ⟨k0, hk0, ek0⟩ := hO y
      have hA := fun i => fgI_A (fr := fr) (p := p) hP7 ha hH hk0 i
      have w1 := hw.to q1 dF_now
      obtain ⟨hz1, r11, r21, hc1, -, hr1⟩ := id w1
      have o71 : gx_o S1 7 8 := o_st hz1 rfl rfl
      have of1 : gx_o S1 82 2 := o_st hz1 rfl rfl
      have rt1 := f1.2.2.1
      have ort1 := f1.2.2.2.2.2.2.1
      refine g_iload (pc := 20) C dX2_drawFogs_20 rfl ?_
      refine g_iload_n (pc := 22) C dX2_drawFogs_22 rfl ?_
      refine g_icmp_ge (pc := 23) C 161 dX2_drawFogs_23 rfl (fun c1 => ?_) (fun c1 => ?_)
      · exact absurd c1 (nI_ge (by omega) (by omega))
      · refine g_aload_n (pc := 26) C dX2_drawFogs_26 rfl ?_
        refine fgr_X2_21 (pc := 27) C (by exact of1.1) (zk (by exact of1.2)) (by exact rt1) dX2_drawFogs_27 ?_
        refine g_aload_n (pc := 30) C dX2_drawFogs_30 rfl ?_
        refine fgr_X2_32 (pc := 31) C (by exact o71.1) (zk (by exact o71.2)) (by exact r21) dX2_drawFogs_31 ?_
        refine cg_X2_37 (pc := 34) C (by exact ort1.1) (zk (by exact ort1.2)) (c_X6_copyFrom _ _ S1 86 87 13 14 P u hP7 f1.2.2.2.2.2.2 hr1) ⟨rfl, rfl⟩ ⟨Nat.zero_le _, Nat.zero_le _⟩ rfl (Nat.le_of_ble_eq_true rfl) dX2_drawFogs_34 ?_
        rintro _ S2 ⟨rfl, q2, h2⟩
        have f2 : ftK S2 := ft_cp f1 q2 h2.1
        refine g_iconst (pc := 37) (v := nI 0) C dX2_drawFogs_37 (by decide) ?_
        refine g_istore (pc := 38) (L' := [_, _, _, _, _, _, _, _, some (.int _), _, _]) C dX2_drawFogs_38 rfl rfl ?_
        rw [ek0]
        have inner : ∀ d i S3 z10, i + d = n → eqO dF S S3 → ftK S3 → s_I S3 205 82 = (fgO fr u P H p n (lN xk) y).2.1 → s_I S3 206 82 = (fgO fr u P H p n (lN xk) y).2.2 → rvS S3 86 87 P (fgI fr u P H p (lN k0) i).1 → gx_G w X S3 0 0 40 [some (.ref (ad (w_b w) 82)), some (.ref (ad (w_b w) 7)), some (va_rf (ro.map (ad (w_b w)))), some (.int (nI m)), some (.int (nI n)), some (.int p), some (.long (fgI fr u P H p (lN k0) i).2), none, some (.int (nI y)), some (.int (nI i)), z10] [] (gx_E w X post) := by
          intro d'
          induction d' with
          | zero =>
            intro i S3 z10 hi q3 f3 g1 g2 h3
            have hi : i = n := hi
            have w3 := hw.to q3 dF_now
            obtain ⟨hz3, r13, r23, hc3, -, hr3⟩ := id w3
            have o73 : gx_o S3 7 8 := o_st hz3 rfl rfl
            have of3 : gx_o S3 82 2 := o_st hz3 rfl rfl
            have rt3 := f3.2.2.1
            have ort3 := h3.1.1
            have or3 := hr3.1.1
            refine g_iload (pc := 40) C dX2_drawFogs_40 rfl ?_
            refine g_iload (pc := 42) C dX2_drawFogs_42 rfl ?_
            refine g_icmp_ge (pc := 44) C 112 dX2_drawFogs_44 rfl (fun c2 => ?_) (fun c2 => ?_)
            · refine g_aload_n (pc := 112) C dX2_drawFogs_112 rfl ?_
              refine g_dup (pc := 113) C dX2_drawFogs_113 rfl ?_
              refine fg_X2_124 (pc := 114) C (by exact of3.1) (zk (by exact of3.2)) dX2_drawFogs_114 ?_
              refine gx_ti (y := (fgO fr u P H p n (lN xk) y).2.1) g1 ?_
              refine g_aload_n (pc := 117) C dX2_drawFogs_117 rfl ?_
              refine fgr_X2_21 (pc := 118) C (by exact of3.1) (zk (by exact of3.2)) (by exact rt3) dX2_drawFogs_118 ?_
              refine fg_X2_79 (pc := 121) C (by exact ort3.1) (zk (by exact ort3.2)) dX2_drawFogs_121 ?_
              refine gx_ti (y := nI (onN (fgI fr u P H p (lN k0) i).1 (nI 1) P)) h3.2.1.2.2.1 ?_
              refine cf_X2_82 (pc := 124) C (c_bitCount _ _ _ _ (onN_128 hP7)) ⟨rfl, rfl⟩ ⟨rfl, rfl⟩ ⟨Nat.zero_le _, Nat.zero_le _⟩ rfl (Nat.le_of_ble_eq_true rfl) dX2_drawFogs_124 ?_
              refine g_iadd (pc := 127) C dX2_drawFogs_127 ?_
              refine fp_X2_124 (pc := 128) C (by exact of3.1) (zk (by exact of3.2)) dX2_drawFogs_128 ?_
              refine g_aload_n (pc := 131) C dX2_drawFogs_131 rfl ?_
              refine g_dup (pc := 132) C dX2_drawFogs_132 rfl ?_
              refine fg_X2_127 (pc := 133) C (by exact of3.1) (zk (by exact of3.2)) dX2_drawFogs_133 ?_
              refine gx_ti (y := (fgO fr u P H p n (lN xk) y).2.2) g2 ?_
              refine g_aload_n (pc := 136) C dX2_drawFogs_136 rfl ?_
              refine fgr_X2_21 (pc := 137) C (by exact of3.1) (zk (by exact of3.2)) (by exact rt3) dX2_drawFogs_137 ?_
              refine fg_X2_140 (pc := 140) C (by exact ort3.1) (zk (by exact ort3.2)) dX2_drawFogs_140 ?_
              refine gx_ti (y := (fgI fr u P H p (lN k0) i).1 12) h3.2.1.2.2.2.1 ?_
              refine g_aload_n (pc := 143) C dX2_drawFogs_143 rfl ?_
              refine fgr_X2_32 (pc := 144) C (by exact o73.1) (zk (by exact o73.2)) (by exact r23) dX2_drawFogs_144 ?_
              refine fg_X2_140 (pc := 147) C (by exact or3.1) (zk (by exact or3.2)) dX2_drawFogs_147 ?_
              refine gx_ti (y := u 12) hr3.2.1.2.2.2.1 ?_
              refine g_isub (pc := 150) C dX2_drawFogs_150 ?_
              refine g_iadd (pc := 151) C dX2_drawFogs_151 ?_
              refine fp_X2_127 (pc := 152) C (by exact of3.1) (zk (by exact of3.2)) dX2_drawFogs_152 ?_
              refine g_iinc (pc := 155) (L' := [_, _, _, _, _, _, _, none, _, _, _]) C dX2_drawFogs_155 rfl (nI_1 _) rfl ?_
              refine g_goto (pc := 158) C 20 dX2_drawFogs_158 rfl ?_
              have hst : fgO fr u P H p n (lN xk) (y + 1) = ((fgI fr u P H p (lN k0) i).2, (fgO fr u P H p n (lN xk) y).2.1 + nI (popN (onN (fgI fr u P H p (lN k0) i).1 (nI 1) P)), (fgO fr u P H p n (lN xk) y).2.2 + ((fgI fr u P H p (lN k0) i).1 12 - u 12)) := by
                rw [hi, ← ek0]; rfl
              have := ih (y + 1) (s_setI (s_setI S3 205 82 ((fgO fr u P H p n (lN xk) y).2.1 + nI (popN (onN (fgI fr u P H p (lN k0) i).1 (nI 1) P)))) 206 82 ((fgO fr u P H p n (lN xk) y).2.2 + ((fgI fr u P H p (lN k0) i).1 12 - u 12))) (some (.int (nI i))) z10 (by omega) (q3.trans ((eqO.sI (by unfold dF; omega)).trans (eqO.sI (by unfold dF; omega)))) f3 (by rw [hst]; rfl) (by rw [hst]; rfl)
              rw [hst] at this
              exact this
            · exact absurd (nI_le (by omega) (by omega)) c2
          | succ d' ih' =>
            intro i S3 z10 hi q3 f3 g1 g2 h3
            obtain ⟨sA, h10, hex, j, hj, ej⟩ := hA i
            obtain ⟨dn1, j', hj', dn2⟩ := dn_lN hj
            have w3 := hw.to q3 dF_now
            obtain ⟨hz3, r13, r23, hc3, -, hr3⟩ := id w3
            have o73 : gx_o S3 7 8 := o_st hz3 rfl rfl
            have of3 : gx_o S3 82 2 := o_st hz3 rfl rfl
            have op3 : gx_o S3 83 3 := f3.2.2.2.2.2.1.1
            have rp3 := f3.2.1
            have rt3 := f3.2.2.1
            have ort3 := h3.1.1
            refine g_iload (pc := 40) C dX2_drawFogs_40 rfl ?_
            refine g_iload (pc := 42) C dX2_drawFogs_42 rfl ?_
            refine g_icmp_ge (pc := 44) C 112 dX2_drawFogs_44 rfl (fun c2 => ?_) (fun c2 => ?_)
            · exact absurd c2 (nI_ge (by omega) (by omega))
            · rw [ej]
              refine g_lload (pc := 47) C dX2_drawFogs_47 rfl ?_
              refine g_ldc2 (pc := 49) (v := 1103515245) C dX2_drawFogs_49 kl_X2_130 ?_
              refine g_lmul (pc := 52) C dX2_drawFogs_52 ?_
              refine g_ldc2 (pc := 53) (v := 12345) C dX2_drawFogs_53 kl_X2_132 ?_
              refine g_ladd (pc := 56) C dX2_drawFogs_56 ?_
              refine g_ldc2 (pc := 57) (v := 2147483647) C dX2_drawFogs_57 kl_X2_134 ?_
              refine g_land (pc := 60) C dX2_drawFogs_60 ?_
              refine gx_tl (y := lN j') (dn1.trans dn2) ?_
              refine g_lstore (pc := 61) (L' := [_, _, _, _, _, some (.int _), _, _, _, _, _]) C dX2_drawFogs_61 rfl rfl ?_
              refine g_lload (pc := 63) C dX2_drawFogs_63 rfl ?_
              refine g_ldc2 (pc := 65) (v := 65536) C dX2_drawFogs_65 kl_X2_136 ?_
              refine g_ldiv (pc := 68) C dX2_drawFogs_68 (by decide) ?_
              refine g_ldc2 (pc := 69) (v := 100) C dX2_drawFogs_69 kl_X2_138 ?_
              refine g_lrem (pc := 72) C dX2_drawFogs_72 (by decide) ?_
              refine g_iload (pc := 73) C dX2_drawFogs_73 rfl ?_
              refine g_i2l (pc := 75) C dX2_drawFogs_75 ?_
              refine g_lcmp (pc := 76) C dX2_drawFogs_76 ?_
              have sail : ∀ dr : Prop, ∀ [Decidable dr], (dr ↔ dval (lN j') < p) → gx_G w X S3 0 0 85 [some (.ref (ad (w_b w) 82)), some (.ref (ad (w_b w) 7)), some (va_rf (ro.map (ad (w_b w)))), some (.int (nI m)), some (.int (nI n)), some (.int p), some (.long (lN j')), none, some (.int (nI y)), some (.int (nI i)), z10] [.int (bI dr)] (gx_E w X post) := by
                intro dr _ hdr
                refine g_istore (pc := 85) (L' := [_, _, _, _, _, _, _, _, _, some (.int _), _]) C dX2_drawFogs_85 rfl rfl ?_
                refine g_aload_n (pc := 87) C dX2_drawFogs_87 rfl ?_
                refine fgr_X2_12 (pc := 88) C (by exact of3.1) (zk (by exact of3.2)) (by exact rp3) dX2_drawFogs_88 ?_
                refine g_aload_n (pc := 91) C dX2_drawFogs_91 rfl ?_
                refine fgr_X2_41 (pc := 92) C (by exact o73.1) (zk (by exact o73.2)) (by exact r13) dX2_drawFogs_92 ?_
                refine g_aload_n (pc := 95) C dX2_drawFogs_95 rfl ?_
                refine fgr_X2_21 (pc := 96) C (by exact of3.1) (zk (by exact of3.2)) (by exact rt3) dX2_drawFogs_96 ?_
                refine g_aload_nV (pc := 99) C dX2_drawFogs_99 rfl ?_
                refine g_iload (pc := 100) C dX2_drawFogs_100 rfl ?_
                refine cg_X2_49 (pc := 102) C (by exact op3.1) (zk (by exact op3.2)) (c_X3_sail _ _ S3 83 84 85 c ca cg cl ce 86 87 P (H + i) ro fr dr (fgI fr u P H p (lN k0) i).1 f3.2.2.2.2.2.1 (hc3.u hex) h3 sA (hfr.to q3 dF_2000) hap h10 (by omega)) ⟨rfl, rfl⟩ ⟨Nat.zero_le _, Nat.zero_le _⟩ rfl (Nat.le_of_ble_eq_true rfl) dX2_drawFogs_102 ?_
                rintro _ S4 ⟨rfl, q4, p4, h4⟩
                refine g_pop (pc := 105) C dX2_drawFogs_105 rfl ?_
                refine g_iinc (pc := 106) (L' := [_, _, _, _, _, _, _, _, some (.int _), _, _]) C dX2_drawFogs_106 rfl (nI_1 _) rfl ?_
                refine g_goto (pc := 109) C 40 dX2_drawFogs_109 rfl ?_
                have hst : fgI fr u P H p (lN k0) (i + 1) = (passF fr (bI dr) (fgI fr u P H p (lN k0) i).1 P (H + i), lN j') := by
                  show (passF fr (bI (dval (dnx (fgI fr u P H p (lN k0) i).2) < p)) (fgI fr u P H p (lN k0) i).1 P (H + i), dnx (fgI fr u P H p (lN k0) i).2) = _
                  rw [ej, dn2, bI_iff hdr]
                have := ih' (i + 1) S4 (some (.int (bI dr))) (by omega) (q3.trans (q4.mono dT_dF)) (f3.z q4 h82 p4 h4.1) ((q4.I h82).trans g1) ((q4.I h82).trans g2) (by rw [hst]; exact h4)
                rw [hst] at this
                exact this
              refine g_if_ge (pc := 77) C 84 dX2_drawFogs_77 rfl (fun c3 => ?_) (fun c3 => ?_)
              · have c3 : ¬ dval (lN j') < p := fun q => absurd ((dv_lt hj').mpr q) (Int64.not_lt.mpr (lg_ge.mp c3))
                refine g_iconst (pc := 84) (v := nI 0) C dX2_drawFogs_84 (by decide) ?_
                exact sail False ⟨fun q => q.elim, fun q => c3 q⟩
              · have c3 : dval (lN j') < p := (dv_lt hj').mp (Int64.not_le.mp (fun q => c3 (lg_ge.mpr q)))
                refine g_iconst (pc := 80) (v := nI 1) C dX2_drawFogs_80 (by decide) ?_
                refine g_goto (pc := 81) C 85 dX2_drawFogs_81 rfl ?_
                exact sail True ⟨fun _ => c3, fun _ => trivial⟩
        exact inner n 0 S2 _ (by omega) (q1.trans (q2.mono dR_dF)) f2 ((q2.I d82).trans e1) ((q2.I d82).trans e2) h2
  refine g_aload_n (pc := 0) C dX2_drawFogs_0 rfl ?_
  refine fg_X2_121 (pc := 1) C (by exact o7.1) (zk (by exact o7.2)) dX2_drawFogs_1 ?_
  refine gx_ti (y := nI xk) hx ?_
  refine g_i2l (pc := 4) C dX2_drawFogs_4 ?_
  refine gx_tl (y := lN xk) (nI_l (by omega)) ?_
  refine g_lstore (pc := 5) (L' := [_, _, _, _, _, some (.int _), _, _, _, _, _]) C dX2_drawFogs_5 rfl rfl ?_
  refine g_aload_n (pc := 7) C dX2_drawFogs_7 rfl ?_
  refine g_iconst (pc := 8) (v := nI 0) C dX2_drawFogs_8 (by decide) ?_
  refine fp_X2_124 (pc := 9) C (by exact of0.1) (zk (by exact of0.2)) dX2_drawFogs_9 ?_
  refine g_aload_n (pc := 12) C dX2_drawFogs_12 rfl ?_
  refine g_iconst (pc := 13) (v := nI 0) C dX2_drawFogs_13 (by decide) ?_
  refine fp_X2_127 (pc := 14) C (by exact of0.1) (zk (by exact of0.2)) dX2_drawFogs_14 ?_
  refine g_iconst (pc := 17) (v := nI 0) C dX2_drawFogs_17 (by decide) ?_
  refine g_istore (pc := 18) (L' := [_, _, _, _, _, _, _, none, _, _, _]) C dX2_drawFogs_18 rfl rfl ?_
  exact loop m 0 _ _ _ (by omega) ((eqO.sI (by unfold dF; omega)).trans (eqO.sI (by unfold dF; omega))) hf rfl rfl
