/-! ===== the law's loop ===== -/
theorem and63 (x : Int32) : ∃ k, k < 64 ∧ x &&& nI 63 = nI k := by
  refine ⟨(x.toBitVec &&& 63#32).toNat, ?_, ?_⟩
  · rw [BitVec.toNat_and]
    exact Nat.lt_of_le_of_lt Nat.and_le_right (by decide)
  · refine Int32.toBitVec_inj.mp ?_
    rw [Int32.toBitVec_and]
    show x.toBitVec &&& 63#32 = BitVec.ofNat 32 (x.toBitVec &&& 63#32).toNat
    rw [BitVec.ofNat_toNat, BitVec.setWidth_eq]
theorem lw_n2 {a b r : Nat} (h : a ≤ 100000 + 600 * r) (g : b ≤ a + 600) : b ≤ 100000 + 600 * (r + 1) := by
  rw [Nat.mul_add, ← Nat.add_assoc]
  exact Nat.le_trans g (Nat.add_le_add_right h 600)
theorem lw_more {Ln i : Nat} (hn : Ln ≤ 3072) (hi : i ≤ 4000) : nI Ln - nI 6 < nI i ↔ Ln < i + 6 := by
  have h1 : iv (nI Ln - nI 6) ((Ln : Int) - (6 : Nat)) := iv_sub (iv_n (by omega)) (iv_n (by omega)) (by omega) (by omega)
  rw [iv_lt h1 (iv_n (n := i) (by omega))]
  omega
section
variable {w : Wd} {X : FX} {j : SJ} {b Ln i n1 n2 : Nat} {xs : Nat → Int32} {Q : State → Prop} {S : St}
theorem law_sw (K : lwK w X j b Ln xs) (hi : i + 6 ≤ Ln) (hn1 : n1 ≤ 10000) (hn2 : n2 ≤ 3000000) (hI : INV S) (kk : lwN w X b i n1 n2 Q) {k : Nat} (hk : k < 64) : gx_G w X S n1 n2 33 (lwL w b i) [.int (nI k)] Q := by
  have C := K.1
  obtain ⟨q, c, ca, cg, cl, ce, P, H, m, nr, jj, z, L, u, f, x, Fs, W, Tp, im, hC, hR⟩ := hI
  by_cases h33 : 33 ≤ k
  · refine g_tableOut (pc := 33) C 1099 dL_law_33 (Or.inr ?_) rfl ?_
    · rw [nI_toInt (by omega)]; omega
    · exact kk S n1 n2 (by omega) (by omega) (INV.mk hC hR)
  · have h : k = 0 ∨ k = 1 ∨ k = 2 ∨ k = 3 ∨ k = 4 ∨ k = 5 ∨ k = 6 ∨ k = 7 ∨ k = 8 ∨ k = 9 ∨ k = 10 ∨ k = 11 ∨ k = 12 ∨ k = 13 ∨ k = 14 ∨ k = 15 ∨ k = 16 ∨ k = 17 ∨ k = 18 ∨ k = 19 ∨ k = 20 ∨ k = 21 ∨ k = 22 ∨ k = 23 ∨ k = 24 ∨ k = 25 ∨ k = 26 ∨ k = 27 ∨ k = 28 ∨ k = 29 ∨ k = 30 ∨ k = 31 ∨ k = 32 := by omega
    rcases h with rfl | rfl | rfl | rfl | rfl | rfl | rfl | rfl | rfl | rfl | rfl | rfl | rfl | rfl | rfl | rfl | rfl | rfl | rfl | rfl | rfl | rfl | rfl | rfl | rfl | rfl | rfl | rfl | rfl | rfl | rfl | rfl | rfl
    · refine g_tableIn (pc := 33) (off := 147) C 180 dL_law_33 (by decide) (by decide) rfl rfl ?_
      exact law_feed K hi hn1 hn2 hC hR kk
    · refine g_tableIn (pc := 33) (off := 210) C 243 dL_law_33 (by decide) (by decide) rfl rfl ?_
      exact law_end K hi hn1 hn2 hC hR kk
    · refine g_tableIn (pc := 33) (off := 233) C 266 dL_law_33 (by decide) (by decide) rfl rfl ?_
      exact law_ferry K hi hn1 hn2 hC hR kk
    · refine g_tableIn (pc := 33) (off := 246) C 279 dL_law_33 (by decide) (by decide) rfl rfl ?_
      by_cases h6 : nr = 6
      · exact law_rule6 K hi hn1 hn2 h6 hC hR kk
      · have := hR.2.2.2.1.2.1
        exact law_rule K hi hn1 hn2 (by omega) hC hR kk
    · refine g_tableIn (pc := 33) (off := 259) C 292 dL_law_33 (by decide) (by decide) rfl rfl ?_
      exact law_force K hi hn1 hn2 hC hR kk
    · refine g_tableIn (pc := 33) (off := 282) C 315 dL_law_33 (by decide) (by decide) rfl rfl ?_
      exact law_person K hi hn1 hn2 hC hR kk
    · refine g_tableIn (pc := 33) (off := 315) C 348 dL_law_33 (by decide) (by decide) rfl rfl ?_
      exact law_beside K hi hn1 hn2 hC hR kk
    · refine g_tableIn (pc := 33) (off := 348) C 381 dL_law_33 (by decide) (by decide) rfl rfl ?_
      exact law_trip K hi hn1 hn2 hC hR kk
    · refine g_tableIn (pc := 33) (off := 361) C 394 dL_law_33 (by decide) (by decide) rfl rfl ?_
      exact law_cross K hi hn1 hn2 hC hR kk
    · refine g_tableIn (pc := 33) (off := 384) C 417 dL_law_33 (by decide) (by decide) rfl rfl ?_
      exact law_toss K hi hn1 hn2 hC hR kk
    · refine g_tableIn (pc := 33) (off := 417) C 450 dL_law_33 (by decide) (by decide) rfl rfl ?_
      exact law_talk K hi hn1 hn2 hC hR kk
    · refine g_tableIn (pc := 33) (off := 450) C 483 dL_law_33 (by decide) (by decide) rfl rfl ?_
      exact law_undo K hi hn1 hn2 hC hR kk
    · refine g_tableIn (pc := 33) (off := 463) C 496 dL_law_33 (by decide) (by decide) rfl rfl ?_
      exact law_ahead K hi hn1 hn2 hC hR kk
    · refine g_tableIn (pc := 33) (off := 506) C 539 dL_law_33 (by decide) (by decide) rfl rfl ?_
      exact law_over K hi hn1 hn2 hC hR kk
    · refine g_tableIn (pc := 33) (off := 519) C 552 dL_law_33 (by decide) (by decide) rfl rfl ?_
      exact law_weight K hi hn1 hn2 hC hR kk
    · refine g_tableIn (pc := 33) (off := 542) C 575 dL_law_33 (by decide) (by decide) rfl rfl ?_
      exact law_most K hi hn1 hn2 hC hR kk
    · refine g_tableIn (pc := 33) (off := 565) C 598 dL_law_33 (by decide) (by decide) rfl rfl ?_
      exact law_lighten K hi hn1 hn2 hC hR kk
    · refine g_tableIn (pc := 33) (off := 588) C 621 dL_law_33 (by decide) (by decide) rfl rfl ?_
      exact law_fewest K hi hn1 hn2 hC hR kk
    · refine g_tableIn (pc := 33) (off := 611) C 644 dL_law_33 (by decide) (by decide) rfl rfl ?_
      exact law_row K hi hn1 hn2 hC hR kk
    · refine g_tableIn (pc := 33) (off := 634) C 667 dL_law_33 (by decide) (by decide) rfl rfl ?_
      exact law_fare K hi hn1 hn2 hC hR kk
    · refine g_tableIn (pc := 33) (off := 677) C 710 dL_law_33 (by decide) (by decide) rfl rfl ?_
      exact law_stay K hi hn1 hn2 hC hR kk
    · refine g_tableIn (pc := 33) (off := 700) C 733 dL_law_33 (by decide) (by decide) rfl rfl ?_
      exact law_lies K hi hn1 hn2 hC hR kk
    · refine g_tableIn (pc := 33) (off := 753) C 786 dL_law_33 (by decide) (by decide) rfl rfl ?_
      exact law_waits K hi hn1 hn2 hC hR kk
    · refine g_tableIn (pc := 33) (off := 776) C 809 dL_law_33 (by decide) (by decide) rfl rfl ?_
      exact law_soothe K hi hn1 hn2 hC hR kk
    · refine g_tableIn (pc := 33) (off := 809) C 842 dL_law_33 (by decide) (by decide) rfl rfl ?_
      exact law_never K hi hn1 hn2 hC hR kk
    · refine g_tableIn (pc := 33) (off := 822) C 855 dL_law_33 (by decide) (by decide) rfl rfl ?_
      exact law_note K hi hn1 hn2 hC hR kk
    · refine g_tableIn (pc := 33) (off := 865) C 898 dL_law_33 (by decide) (by decide) rfl rfl ?_
      exact law_ruled K hi hn1 hn2 hC hR kk
    · refine g_tableIn (pc := 33) (off := 888) C 921 dL_law_33 (by decide) (by decide) rfl rfl ?_
      exact law_look K hi hn1 hn2 hC hR kk
    · refine g_tableIn (pc := 33) (off := 921) C 954 dL_law_33 (by decide) (by decide) rfl rfl ?_
      exact law_seed K hi hn1 hn2 hC hR kk
    · refine g_tableIn (pc := 33) (off := 944) C 977 dL_law_33 (by decide) (by decide) rfl rfl ?_
      exact law_fogs K hi hn1 hn2 hC hR kk
    · refine g_tableIn (pc := 33) (off := 997) C 1030 dL_law_33 (by decide) (by decide) rfl rfl ?_
      by_cases hw : xs (i + 1) < 0 ∨ nI 16 ≤ xs (i + 1)
      · exact law_countN K hi hn1 hn2 hw hC hR kk
      · have g1 : nI 0 ≤ xs (i + 1) := by rw [nI_0]; exact Int32.not_lt.mp (fun g => hw (Or.inl g))
        have g2 : xs (i + 1) < nI 16 := Int32.not_le.mp (fun g => hw (Or.inr g))
        obtain ⟨k0, e1, e2⟩ := nat_of (b := 16) (by omega) ⟨g1, Int32.le_of_lt g2⟩
        rw [e2] at g2
        exact law_countK K hi hn1 hn2 k0 ((nI_ltI (by omega) (by omega)).mp g2) e2 hC hR kk
    · refine g_tableIn (pc := 33) (off := 1020) C 1053 dL_law_33 (by decide) (by decide) rfl rfl ?_
      exact law_image K hi hn1 hn2 hC hR kk
    · refine g_tableIn (pc := 33) (off := 1043) C 1076 dL_law_33 (by decide) (by decide) rfl rfl ?_
      exact law_back K hi hn1 hn2 hC hR kk
theorem law_loop (K : lwK w X j b Ln xs) (hend : ∀ S n1 n2 L, n1 ≤ 10000 → n2 ≤ 3000000 → gx_G w X S n1 n2 1105 L [] Q) : ∀ d r S n1 n2, d + r = 514 → n1 ≤ 1000 + 5 * r → n2 ≤ 100000 + 600 * r → INV S → gx_G w X S n1 n2 18 (lwL w b (6 * r)) [] Q := by
  have C := K.1
  have hX := K.2.2.1
  have hb := K.2.2.2.1
  have hn := K.2.2.2.2
  intro d
  induction d with
  | zero =>
    intro r S n1 n2 hd h1 h2 hI
    refine g_iload_n (pc := 18) C dL_law_18 rfl ?_
    refine g_aload_n (pc := 19) C dL_law_19 rfl ?_
    refine g_slen (pc := 20) C hX hb dL_law_20 ?_
    refine g_bipush (pc := 21) (v := nI 6) C dL_law_21 (by decide) ?_
    refine g_isub (pc := 23) C dL_law_23 ?_
    refine g_icmp_gt (pc := 24) C 1105 dL_law_24 rfl (fun _ => hend _ _ _ _ (by omega) (by omega)) (fun c => absurd ((lw_more hn (by omega)).mpr (by omega)) c)
  | succ d ih =>
    intro r S n1 n2 hd h1 h2 hI
    refine g_iload_n (pc := 18) C dL_law_18 rfl ?_
    refine g_aload_n (pc := 19) C dL_law_19 rfl ?_
    refine g_slen (pc := 20) C hX hb dL_law_20 ?_
    refine g_bipush (pc := 21) (v := nI 6) C dL_law_21 (by decide) ?_
    refine g_isub (pc := 23) C dL_law_23 ?_
    refine g_icmp_gt (pc := 24) C 1105 dL_law_24 rfl (fun _ => hend _ _ _ _ (by omega) (by omega)) (fun c => ?_)
    have hi : 6 * r + 6 ≤ Ln := Nat.le_of_not_lt (fun g => c ((lw_more hn (i := 6 * r) (by omega)).mpr g))
    refine g_aload_n (pc := 27) C dL_law_27 rfl ?_
    refine g_iload_n (pc := 28) C dL_law_28 rfl ?_
    refine g_sld (pc := 29) (j := 6 * r) C hX hb hn rfl (by omega) dL_law_29 ?_
    refine g_bipush (pc := 30) (v := nI 63) C dL_law_30 (by decide) ?_
    refine g_iand (pc := 32) C dL_law_32 ?_
    obtain ⟨k, hk, ek⟩ := and63 (xs (6 * r))
    refine gx_ti (y := nI k) ek ?_
    refine law_sw K hi (by omega) (by omega) hI ?_ hk
    intro S' n1' n2' g1 g2 hI'
    refine g_iinc (pc := 1099) (v := nI (6 * (r + 1))) (L' := lwL w b (6 * (r + 1))) C dL_law_1099 rfl ?_ rfl ?_
    · show nI (6 * r) + nI 6 = nI (6 * (r + 1))
      rw [nI_add]; congr 1
    refine g_goto (pc := 1102) C 18 dL_law_1102 rfl ?_
    have e0 : d + (r + 1) = 514 := by omega
    have e1 : n1' ≤ 1000 + 5 * (r + 1) := by omega
    have e2 : n2' ≤ 100000 + 600 * (r + 1) := lw_n2 h2 g2
    exact ih (r + 1) S' n1' n2' e0 e1 e2 hI'
end
