/-! ===== THE CLASS: a River begins, is copied, grows, carries ===== -/
def dR (r ra : Nat) : Nat → Prop := fun k => k = r ∨ k = ra
def amU (P : Nat) (u : Nat → Int32) : Prop := ∀ p, p < P → ∃ a, a ≤ 99 ∧ u (14 + p) = nI a
theorem onN_ext {u v : Nat → Int32} {x : Int32} : ∀ n, (∀ p, p < n → u (21 + p) = v (21 + p)) → onN u x n = onN v x n
  | 0, _ => rfl
  | n + 1, h => by
    have ih := onN_ext (u := u) (v := v) (x := x) n (fun p hp => h p (by omega))
    simp only [onN, ih, h n (by omega)]
theorem onN_0 {u : Nat → Int32} : ∀ n, (∀ p, p < n → u (21 + p) = nI 0) → onN u (nI 1) n = 0
  | 0, _ => rfl
  | n + 1, h => by
    have ih := onN_0 (u := u) n (fun p hp => h p (by omega))
    simp only [onN, ih, h n (by omega)]
    rw [if_neg (by decide)]
theorem beg_lo {u : Nat → Int32} {j : Nat} (h : j < 10 ∨ 28 ≤ j) : begF u j = u j := by
  unfold begF begB begA
  rw [if_neg (by omega), if_neg (by omega), if_neg (by omega)]
theorem beg_10 {u : Nat → Int32} {j : Nat} (h : 10 ≤ j ∧ j < 14) : begF u j = nI 0 := by
  unfold begF begB begA
  rw [if_neg (by omega), if_neg (by omega), if_pos (by omega)]
theorem beg_aim {u : Nat → Int32} {p : Nat} (h : p < 7) : begF u (14 + p) = u (42 + p) := by
  unfold begF begB begA
  rw [if_pos (by omega), if_neg (by omega), show 14 + p - 14 = p by omega]
theorem beg_side {u : Nat → Int32} {p : Nat} (h : p < 7) : begF u (21 + p) = nI 0 := by
  unfold begF begB begA
  rw [if_neg (by omega), if_pos (by omega)]
section RV6
variable {S : St} {r ra : Nat} {h b f s o : Int32} {g : Nat → Int32}
theorem rv6_0 : s_I (s_setA (s_setI (s_setI (s_setI (s_setI (s_setI S 500 r h) 501 r b) 502 r f) 503 r s) 504 r o) ra g) 500 r = h := by
  show u2 (s_I S) 500 r h 500 r = h
  exact u2_at
theorem rv6_1 : s_I (s_setA (s_setI (s_setI (s_setI (s_setI (s_setI S 500 r h) 501 r b) 502 r f) 503 r s) 504 r o) ra g) 501 r = b := by
  show u2 (u2 (s_I S) 500 r h) 501 r b 501 r = b
  exact u2_at
theorem rv6_2 : s_I (s_setA (s_setI (s_setI (s_setI (s_setI (s_setI S 500 r h) 501 r b) 502 r f) 503 r s) 504 r o) ra g) 502 r = f := by
  show u2 (u2 (u2 (s_I S) 500 r h) 501 r b) 502 r f 502 r = f
  exact u2_at
theorem rv6_3 : s_I (s_setA (s_setI (s_setI (s_setI (s_setI (s_setI S 500 r h) 501 r b) 502 r f) 503 r s) 504 r o) ra g) 503 r = s := by
  show u2 (u2 (u2 (u2 (s_I S) 500 r h) 501 r b) 502 r f) 503 r s 503 r = s
  exact u2_at
theorem rv6_4 : s_I (s_setA (s_setI (s_setI (s_setI (s_setI (s_setI S 500 r h) 501 r b) 502 r f) 503 r s) 504 r o) ra g) 504 r = o := by
  show u2 (u2 (u2 (u2 (u2 (s_I S) 500 r h) 501 r b) 502 r f) 503 r s) 504 r o 504 r = o
  exact u2_at
end RV6
theorem c_X6_begin (w : Wd) (l : Launch) (S : St) (c ca cg cl ce r ra P : Nat) (u : Nat → Int32) (hc : crS S c ca cg cl ce P u) (h : rvK S r ra) : gx_M w l yX6_begin cX6_begin 2 none rmX6_begin [.ref (ad (w_b w) r), .ref (ad (w_b w) c)] S (fun v S' => v = none ∧ eqO (dR r ra) S S' ∧ rvS S' r ra P (begF u)) := by
  obtain ⟨oc, rr, oa⟩ := h
  have occ := hc.1.1
  have rca := hc.1.2.1
  have oca := hc.1.2.2.1
  have hA := hc.2.1.2.2.2.2.2.1
  have hP7 := hc.2.2
  refine gx_start rfl 0 rfl (Nat.le_of_ble_eq_true rfl) ?_
  intro X C _ hl
  subst hl
  refine gx_L (L' := [_, _]) rfl ?_
  refine g_aload_n (pc := 0) C dX6_begin_0 rfl ?_
  refine g_iconst (pc := 1) (v := nI 0) C dX6_begin_1 (by decide) ?_
  refine fp_X6_15 (pc := 2) C (by exact oc.1) (zk (by exact oc.2)) dX6_begin_2 ?_
  refine g_aload_n (pc := 5) C dX6_begin_5 rfl ?_
  refine g_iconst (pc := 6) (v := nI 0) C dX6_begin_6 (by decide) ?_
  refine fp_X6_19 (pc := 7) C (by exact oc.1) (zk (by exact oc.2)) dX6_begin_7 ?_
  refine g_aload_n (pc := 10) C dX6_begin_10 rfl ?_
  refine g_iconst (pc := 11) (v := nI 0) C dX6_begin_11 (by decide) ?_
  refine fp_X6_22 (pc := 12) C (by exact oc.1) (zk (by exact oc.2)) dX6_begin_12 ?_
  refine g_aload_n (pc := 15) C dX6_begin_15 rfl ?_
  refine g_iconst (pc := 16) (v := nI 0) C dX6_begin_16 (by decide) ?_
  refine fp_X6_25 (pc := 17) C (by exact oc.1) (zk (by exact oc.2)) dX6_begin_17 ?_
  refine g_aload_n (pc := 20) C dX6_begin_20 rfl ?_
  refine g_iconst (pc := 21) (v := nI 0) C dX6_begin_21 (by decide) ?_
  refine fp_X6_28 (pc := 22) C (by exact oc.1) (zk (by exact oc.2)) dX6_begin_22 ?_
  refine g_aload_n (pc := 25) C dX6_begin_25 rfl ?_
  refine fgr_X6_31 (pc := 26) C (by exact occ.1) (zk (by exact occ.2)) (by exact rca) dX6_begin_26 ?_
  refine g_iconst (pc := 29) (v := nI 0) C dX6_begin_29 (by decide) ?_
  refine g_aload_n (pc := 30) C dX6_begin_30 rfl ?_
  refine fgr_X6_9 (pc := 31) C (by exact oc.1) (zk (by exact oc.2)) (by exact rr) dX6_begin_31 ?_
  refine g_iconst (pc := 34) (v := nI 0) C dX6_begin_34 (by decide) ?_
  refine g_bipush (pc := 35) (v := nI 7) C dX6_begin_35 (by decide) ?_
  refine g_copyi (pc := 37) (sp := 0) (dp := 0) (n := 7) C wl_X6_34 (by exact oca) (by exact oa) ⟨by omega, by omega, by omega⟩ (by omega) (by omega) ⟨rfl, rfl⟩ rfl (Nat.le_of_ble_eq_true rfl) dX6_begin_37 ?_
  exact g_return (pc := 40) C ⟨rfl, rfl⟩ dX6_begin_40 ⟨rfl, (((((eqO.sI (Or.inl rfl)).trans (eqO.sI (Or.inl rfl))).trans (eqO.sI (Or.inl rfl))).trans (eqO.sI (Or.inl rfl))).trans (eqO.sI (Or.inl rfl))).trans (eqO.sA (Or.inr rfl)), ⟨oc, rr, oa⟩, ⟨rv6_0.trans (beg_10 (by omega)).symm, rv6_1.trans (beg_10 (by omega)).symm, rv6_2.trans (by rw [onN_0 P (fun p hp => beg_side (by omega))]), rv6_3.trans (beg_10 (by omega)).symm, rv6_4.trans (beg_10 (by omega)).symm, fun p hp => by
    refine (congrFun gA_at p).trans ?_
    rw [pk_cpy_in (by omega) (by omega), beg_aim (by omega), Nat.sub_zero, Nat.zero_add]
    exact (hA p hp).1⟩, Or.inl (beg_10 (by omega)), fun p hp => Or.inl (beg_side (by omega))⟩
theorem c_X6_copyFrom (w : Wd) (l : Launch) (S : St) (r ra o oa P : Nat) (u : Nat → Int32) (hP7 : P ≤ 7) (h : rvK S r ra) (ho : rvS S o oa P u) : gx_M w l yX6_copyFrom cX6_copyFrom 2 none rmX6_copyFrom [.ref (ad (w_b w) r), .ref (ad (w_b w) o)] S (fun v S' => v = none ∧ eqO (dR r ra) S S' ∧ rvS S' r ra P u) := by
  obtain ⟨oc, rr, oaa⟩ := h
  obtain ⟨⟨occ, rca, oca⟩, ⟨v1, v2, v3, v4, v5, hA⟩, hs⟩ := ho
  refine gx_start rfl 0 rfl (Nat.le_of_ble_eq_true rfl) ?_
  intro X C _ hl
  subst hl
  refine gx_L (L' := [_, _]) rfl ?_
  refine g_aload_n (pc := 0) C dX6_copyFrom_0 rfl ?_
  refine g_aload_n (pc := 1) C dX6_copyFrom_1 rfl ?_
  refine fg_X6_15 (pc := 2) C (by exact occ.1) (zk (by exact occ.2)) dX6_copyFrom_2 ?_
  refine gx_ti (y := u 10) v1 ?_
  refine fp_X6_15 (pc := 5) C (by exact oc.1) (zk (by exact oc.2)) dX6_copyFrom_5 ?_
  refine g_aload_n (pc := 8) C dX6_copyFrom_8 rfl ?_
  refine g_aload_n (pc := 9) C dX6_copyFrom_9 rfl ?_
  refine fg_X6_19 (pc := 10) C (by exact occ.1) (zk (by exact occ.2)) dX6_copyFrom_10 ?_
  refine gx_ti (y := u 11) v2 ?_
  refine fp_X6_19 (pc := 13) C (by exact oc.1) (zk (by exact oc.2)) dX6_copyFrom_13 ?_
  refine g_aload_n (pc := 16) C dX6_copyFrom_16 rfl ?_
  refine g_aload_n (pc := 17) C dX6_copyFrom_17 rfl ?_
  refine fg_X6_22 (pc := 18) C (by exact occ.1) (zk (by exact occ.2)) dX6_copyFrom_18 ?_
  refine gx_ti (y := nI (onN u (nI 1) P)) v3 ?_
  refine fp_X6_22 (pc := 21) C (by exact oc.1) (zk (by exact oc.2)) dX6_copyFrom_21 ?_
  refine g_aload_n (pc := 24) C dX6_copyFrom_24 rfl ?_
  refine g_aload_n (pc := 25) C dX6_copyFrom_25 rfl ?_
  refine fg_X6_25 (pc := 26) C (by exact occ.1) (zk (by exact occ.2)) dX6_copyFrom_26 ?_
  refine gx_ti (y := u 12) v4 ?_
  refine fp_X6_25 (pc := 29) C (by exact oc.1) (zk (by exact oc.2)) dX6_copyFrom_29 ?_
  refine g_aload_n (pc := 32) C dX6_copyFrom_32 rfl ?_
  refine g_aload_n (pc := 33) C dX6_copyFrom_33 rfl ?_
  refine fg_X6_28 (pc := 34) C (by exact occ.1) (zk (by exact occ.2)) dX6_copyFrom_34 ?_
  refine gx_ti (y := u 13) v5 ?_
  refine fp_X6_28 (pc := 37) C (by exact oc.1) (zk (by exact oc.2)) dX6_copyFrom_37 ?_
  refine g_aload_n (pc := 40) C dX6_copyFrom_40 rfl ?_
  refine fgr_X6_9 (pc := 41) C (by exact occ.1) (zk (by exact occ.2)) (by exact rca) dX6_copyFrom_41 ?_
  refine g_iconst (pc := 44) (v := nI 0) C dX6_copyFrom_44 (by decide) ?_
  refine g_aload_n (pc := 45) C dX6_copyFrom_45 rfl ?_
  refine fgr_X6_9 (pc := 46) C (by exact oc.1) (zk (by exact oc.2)) (by exact rr) dX6_copyFrom_46 ?_
  refine g_iconst (pc := 49) (v := nI 0) C dX6_copyFrom_49 (by decide) ?_
  refine g_bipush (pc := 50) (v := nI 7) C dX6_copyFrom_50 (by decide) ?_
  refine g_copyi (pc := 52) (sp := 0) (dp := 0) (n := 7) C wl_X6_34 (by exact oca) (by exact oaa) ⟨by omega, by omega, by omega⟩ (by omega) (by omega) ⟨rfl, rfl⟩ rfl (Nat.le_of_ble_eq_true rfl) dX6_copyFrom_52 ?_
  exact g_return (pc := 55) C ⟨rfl, rfl⟩ dX6_copyFrom_55 ⟨rfl, (((((eqO.sI (Or.inl rfl)).trans (eqO.sI (Or.inl rfl))).trans (eqO.sI (Or.inl rfl))).trans (eqO.sI (Or.inl rfl))).trans (eqO.sI (Or.inl rfl))).trans (eqO.sA (Or.inr rfl)), ⟨oc, rr, oaa⟩, ⟨rv6_0, rv6_1, rv6_2, rv6_3, rv6_4, fun p hp => by
    refine (congrFun gA_at p).trans ?_
    rw [pk_cpy_in (by omega) (by omega), Nat.sub_zero, Nat.zero_add]
    exact hA p hp⟩, hs⟩
theorem mn_at (x : Int32) : mnF (nI 99) x = atMostF x (nI 99) := by
  unfold mnF atMostF
  by_cases h : x < nI 99
  · rw [if_pos h, if_pos (Int32.le_of_lt h)]
  · rw [if_neg h]
    by_cases h2 : x ≤ nI 99
    · rw [if_pos h2]; exact Int32.le_antisymm (Int32.not_lt.mp h) h2
    · rw [if_neg h2]
theorem grw_in {u : Nat → Int32} {s n p : Nat} : grwF u s n (14 + p) = if p < n ∧ s.testBit p = true then grownF u p (u (14 + p)) else u (14 + p) := by
  unfold grwF
  rw [show 14 + p - 14 = p by omega]
  by_cases h : p < n ∧ s.testBit p = true
  · rw [if_pos ⟨by omega, by omega, h.2⟩, if_pos h]
  · rw [if_neg (fun q => h ⟨by omega, q.2.2⟩), if_neg h]
theorem c_X6_grow (w : Wd) (l : Launch) (S : St) (c ca cg cl ce r ra P : Nat) (u : Nat → Int32) (hc : crS S c ca cg cl ce P u) (h : rvS S r ra P u) (hd : ra ≠ cg) (ham : amU P u) (s : Nat) (hs : s < 128) : gx_M w l yX6_grow cX6_grow 4 none rmX6_grow [.ref (ad (w_b w) r), .ref (ad (w_b w) c), .int (nI s)] S (fun v S' => v = none ∧ eqO (dR r ra) S S' ∧ rvS S' r ra P (grwF u s P)) := by
  obtain ⟨⟨oc, rr, oa⟩, ⟨v1, v2, v3, v4, v5, hA⟩, hsd⟩ := h
  have occ := hc.1.1
  have rcg := hc.1.2.2.2.1
  have ocg := hc.1.2.2.2.2.1
  have hP := hc.2.1.2.2.2.2.1
  have hG := hc.2.1.2.2.2.2.2.1
  have hP7 := hc.2.2
  refine gx_start rfl 1 rfl (Nat.le_of_ble_eq_true rfl) ?_
  intro X C _ hl
  subst hl
  refine gx_L (L' := [_, _, _, _]) rfl ?_
  refine g_iconst (pc := 0) (v := nI 0) C dX6_grow_0 (by decide) ?_
  refine g_istore_n (pc := 1) (L' := [_, _, some (.int _), _]) C dX6_grow_1 rfl rfl ?_
  have loop : ∀ d n R, n + d = P → (∀ p, p < P → R p = grwF u s n (14 + p)) → gx_G w X (s_setA S ra R) 0 0 2 [some (.ref (ad (w_b w) r)), some (.ref (ad (w_b w) c)), some (.int (nI s)), some (.int (nI n))] [] (gx_E w X (fun v S' => v = none ∧ eqO (dR r ra) S S' ∧ rvS S' r ra P (grwF u s P))) := by
    intro d
    induction d with
    | zero =>
      intro n R hn hR
      have hn : n = P := hn
      subst hn
      refine g_iload_n (pc := 2) C dX6_grow_2 rfl ?_
      refine g_aload_n (pc := 3) C dX6_grow_3 rfl ?_
      refine fg_X6_48 (pc := 4) C (by exact occ.1) (zk (by exact occ.2)) dX6_grow_4 ?_
      refine gx_ti (y := nI n) hP ?_
      refine g_icmp_ge (pc := 7) C 58 dX6_grow_7 rfl (fun c1 => ?_) (fun c1 => ?_)
      · exact g_return (pc := 58) C ⟨rfl, rfl⟩ dX6_grow_58 ⟨rfl, eqO.sA (Or.inr rfl), ⟨oc, rr, oa⟩, ⟨v1.trans (grwF_lo (by omega) hP7).symm, v2.trans (grwF_lo (by omega) hP7).symm, v3.trans (by rw [onN_ext n (fun p hp => (grwF_lo (said := u) (s := s) (n := n) (j := 21 + p) (by omega) hP7).symm)]), v4.trans (grwF_lo (by omega) hP7).symm, v5.trans (grwF_lo (by omega) hP7).symm, fun p hp => (congrFun gA_at p).trans (hR p hp)⟩, by rw [grwF_lo (by omega) hP7]; exact hsd.1, fun p hp => by rw [grwF_lo (by omega) hP7]; exact hsd.2 p hp⟩
      · exact absurd (nI_le (Nat.le_refl n) (by omega)) c1
    | succ d ih =>
      intro n R hn hR
      have hn7 : n < 7 := by omega
      have hRn : R n = u (14 + n) := (hR n (by omega)).trans (by rw [grw_in, if_neg (by omega)])
      have same : ¬ (s.testBit n = true ∧ 0 < u (14 + n)) → ∀ p, p < P → R p = grwF u s (n + 1) (14 + p) := by
        intro hno p hp
        rw [hR p hp, grw_in, grw_in]
        by_cases e : p = n
        · subst e
          rw [if_neg (by omega)]
          by_cases e2 : s.testBit p = true
          · rw [if_pos ⟨by omega, e2⟩]
            obtain ⟨a, ha, ea⟩ := ham p hp
            have hle : u (14 + p) ≤ 0 := Int32.not_lt.mp (fun q => hno ⟨e2, q⟩)
            have h0 : a = 0 := by
              rw [ea] at hle
              exact Decidable.byContradiction (fun q => nI_nle (by omega) (by omega) hle)
            unfold grownF
            rw [if_pos hle, ea, h0]
          · rw [if_neg (fun q => e2 q.2)]
        · by_cases e3 : p < n ∧ s.testBit p = true
          · rw [if_pos e3, if_pos ⟨by omega, e3.2⟩]
          · rw [if_neg e3, if_neg (fun q => e3 ⟨by omega, q.2⟩)]
      refine g_iload_n (pc := 2) C dX6_grow_2 rfl ?_
      refine g_aload_n (pc := 3) C dX6_grow_3 rfl ?_
      refine fg_X6_48 (pc := 4) C (by exact occ.1) (zk (by exact occ.2)) dX6_grow_4 ?_
      refine gx_ti (y := nI P) hP ?_
      refine g_icmp_ge (pc := 7) C 58 dX6_grow_7 rfl (fun c1 => ?_) (fun c1 => ?_)
      · exact absurd c1 (nI_ge (by omega) (by omega))
      · refine g_iload_n (pc := 10) C dX6_grow_10 rfl ?_
        refine g_iload_n (pc := 11) C dX6_grow_11 rfl ?_
        refine g_ishr (pc := 12) C dX6_grow_12 ?_
        refine g_iconst (pc := 13) (v := nI 1) C dX6_grow_13 (by decide) ?_
        refine g_iand (pc := 14) C dX6_grow_14 ?_
        refine g_iconst (pc := 15) (v := nI 1) C dX6_grow_15 (by decide) ?_
        refine g_icmp_ne (pc := 16) C 52 dX6_grow_16 rfl (fun c2 => ?_) (fun c2 => ?_)
        · have c2 : ¬ s.testBit n = true := fun q => c2 ((isOf_nI s hs n (by omega)).mpr q)
          refine g_iinc (pc := 52) (L' := [_, _, some (.int _), _]) C dX6_grow_52 rfl (nI_1 _) rfl ?_
          refine g_goto (pc := 55) C 2 dX6_grow_55 rfl ?_
          exact ih (n + 1) R (by omega) (same (fun q => c2 q.1))
        · have c2 : s.testBit n = true := (isOf_nI s hs n (by omega)).mp (Decidable.not_not.mp c2)
          refine g_aload_n (pc := 19) C dX6_grow_19 rfl ?_
          refine fgr_X6_9 (pc := 20) C (by exact oc.1) (zk (by exact oc.2)) (by exact rr) dX6_grow_20 ?_
          refine g_iload_n (pc := 23) C dX6_grow_23 rfl ?_
          refine n_iald (pc := 24) (n := 7) C (by exact oa.1) (by exact oa.2.1) (zk (by exact oa.2.2)) isn_v rfl (by omega) dX6_grow_24 ?_
          refine gx_ti (y := u (14 + n)) ((congrFun gA_at n).trans hRn) ?_
          refine g_if_le (pc := 25) C 52 dX6_grow_25 rfl (fun c3 => ?_) (fun c3 => ?_)
          · refine g_iinc (pc := 52) (L' := [_, _, some (.int _), _]) C dX6_grow_52 rfl (nI_1 _) rfl ?_
            refine g_goto (pc := 55) C 2 dX6_grow_55 rfl ?_
            exact ih (n + 1) R (by omega) (same (fun q => absurd q.2 (Int32.not_lt.mpr c3)))
          · have c3 : ¬ u (14 + n) ≤ 0 := c3
            refine g_aload_n (pc := 28) C dX6_grow_28 rfl ?_
            refine fgr_X6_9 (pc := 29) C (by exact oc.1) (zk (by exact oc.2)) (by exact rr) dX6_grow_29 ?_
            refine g_iload_n (pc := 32) C dX6_grow_32 rfl ?_
            refine g_bipush (pc := 33) (v := nI 99) C dX6_grow_33 (by decide) ?_
            refine g_aload_n (pc := 35) C dX6_grow_35 rfl ?_
            refine fgr_X6_9 (pc := 36) C (by exact oc.1) (zk (by exact oc.2)) (by exact rr) dX6_grow_36 ?_
            refine g_iload_n (pc := 39) C dX6_grow_39 rfl ?_
            refine n_iald (pc := 40) (n := 7) C (by exact oa.1) (by exact oa.2.1) (zk (by exact oa.2.2)) isn_v rfl (by omega) dX6_grow_40 ?_
            refine gx_ti (y := u (14 + n)) ((congrFun gA_at n).trans hRn) ?_
            refine g_aload_n (pc := 41) C dX6_grow_41 rfl ?_
            refine fgr_X6_86 (pc := 42) C (by exact occ.1) (zk (by exact occ.2)) (by exact rcg) dX6_grow_42 ?_
            refine g_iload_n (pc := 45) C dX6_grow_45 rfl ?_
            refine n_iald (pc := 46) (n := 7) C (by exact ocg.1) (by exact ocg.2.1) (zk (by exact ocg.2.2)) isn_v rfl (by omega) dX6_grow_46 ?_
            refine gx_ti (y := u (28 + n)) ((congrFun (gA_ne (fun e => hd e.symm)) n).trans (hG n (by omega)).2.1) ?_
            refine g_iadd (pc := 47) C dX6_grow_47 ?_
            refine g_mmin (pc := 48) C wl_X6_89 ⟨rfl, rfl⟩ ⟨Nat.zero_le _, Nat.zero_le _⟩ rfl (Nat.le_of_ble_eq_true rfl) dX6_grow_48 ?_
            refine gx_ti (y := grownF u n (u (14 + n))) (by rw [mn_at]; unfold grownF; rw [if_neg c3]) ?_
            refine n_iast (pc := 51) (n := 7) C (by exact oa.1) (by exact oa.2.1) (zk (by exact oa.2.2)) isn_v rfl (by omega) dX6_grow_51 ?_
            refine gx_S (S' := s_setA S ra (upd R n (grownF u n (u (14 + n))))) (by rw [gA_at, s_AA]) ?_
            refine g_iinc (pc := 52) (L' := [_, _, some (.int _), _]) C dX6_grow_52 rfl (nI_1 _) rfl ?_
            refine g_goto (pc := 55) C 2 dX6_grow_55 rfl ?_
            refine ih (n + 1) _ (by omega) (fun p hp => ?_)
            rw [grw_in]
            by_cases e : p = n
            · subst e
              rw [pk_us, if_pos ⟨by omega, c2⟩]
            · rw [pk_un e, hR p hp, grw_in]
              by_cases e3 : p < n ∧ s.testBit p = true
              · rw [if_pos e3, if_pos ⟨by omega, e3.2⟩]
              · rw [if_neg e3, if_neg (fun q => e3 ⟨by omega, q.2⟩)]
  refine gx_S ?_ (loop P 0 (s_A S ra) (by omega) (fun p hp => (hA p hp).trans (by rw [grw_in, if_neg (by omega)])))
  rw [s_A_id]
theorem xor_n7 : ∀ a, a < 128 → ∀ b, b < 128 → nI a ^^^ nI b = nI (a ^^^ b) := by decide +kernel
theorem sub_bit {s o : Nat} (h : s ||| o = o) {p : Nat} (hp : s.testBit p = true) : o.testBit p = true := by
  rw [← h, Nat.testBit_or, hp]; rfl
theorem on_crs {u g : Nat → Int32} {P s : Nat} (hP : P ≤ 7) (hs : sdU P u) (h11 : g 11 = u 11) (hg : ∀ p, p < P → g (21 + p) = u (21 + p)) (hsub : s ||| onN u (u 11) P = onN u (u 11) P) : onN (crsF g s P) (nI 1) P = onN u (nI 1) P ^^^ s := by
  refine Nat.eq_of_testBit_eq (fun p => ?_)
  by_cases hp : p < P
  · have e1 : crsF g s P (21 + p) = if s.testBit p = true then nI 1 - u 11 else u (21 + p) := by
      unfold crsF
      rw [show 21 + p - 21 = p by omega, h11, hg p hp]
      by_cases hb : s.testBit p = true
      · rw [if_pos ⟨by omega, by omega, hb⟩, if_pos hb]
      · rw [if_neg (fun q => hb q.2.2), if_neg hb]
    rw [Nat.testBit_xor]
    have b1 := on_bit (u := crsF g s P) (x := nI 1) hp
    have b2 := on_bit (u := u) (x := nI 1) hp
    rw [e1] at b1
    by_cases hb : s.testBit p = true
    · rw [if_pos hb] at b1
      have b3 : u (21 + p) = u 11 := (on_bit hp).mp (sub_bit hsub hb)
      rw [b3] at b2
      rw [hb]
      rcases hs.1 with e | e
      · rw [e] at b1 b2
        have t1 : (onN (crsF g s P) (nI 1) P).testBit p = true := b1.mpr (by decide)
        have t2 : (onN u (nI 1) P).testBit p = false := by
          cases hx : (onN u (nI 1) P).testBit p with
          | false => rfl
          | true => exact absurd (b2.mp hx) (by decide)
        rw [t1, t2]; rfl
      · rw [e] at b1 b2
        have t1 : (onN (crsF g s P) (nI 1) P).testBit p = false := by
          cases hx : (onN (crsF g s P) (nI 1) P).testBit p with
          | false => rfl
          | true => exact absurd (b1.mp hx) (by decide)
        have t2 : (onN u (nI 1) P).testBit p = true := b2.mpr rfl
        rw [t1, t2]; rfl
    · rw [if_neg hb] at b1
      have hb : s.testBit p = false := by simpa using hb
      rw [hb, Bool.xor_false]
      cases hx : (onN u (nI 1) P).testBit p with
      | true => exact b1.mpr (b2.mp hx)
      | false =>
        cases hy : (onN (crsF g s P) (nI 1) P).testBit p with
        | false => rfl
        | true =>
          have := b2.mpr (b1.mp hy)
          rw [hx] at this; cases this
  · have hb : s.testBit p = false := by
      cases hx : s.testBit p with
      | false => rfl
      | true =>
        have := sub_bit hsub hx
        rw [on_out (by omega)] at this; cases this
    rw [Nat.testBit_xor, on_out (by omega), on_out (by omega), hb]; rfl
theorem fog_grw {drawn : Int32} {u : Nat → Int32} {s P H : Nat} (hP : P ≤ 7) : fogF drawn (grwF u s P) H ↔ fogF drawn u H := by
  unfold fogF
  rw [grwF_lo (by omega) hP, grwF_lo (by omega) hP]
theorem bI_iff {p q : Prop} [Decidable p] [Decidable q] (h : p ↔ q) : bI p = bI q := by
  unfold bI
  by_cases e : p
  · rw [if_pos e, if_pos (h.mp e)]
  · rw [if_neg e, if_neg (fun z => e (h.mpr z))]
theorem crS.u {S : St} {c ca cg cl ce P : Nat} {u v : Nat → Int32} (h : crS S c ca cg cl ce P u) (e : ∀ j, j < 10 ∨ 28 ≤ j → v j = u j) : crS S c ca cg cl ce P v := by
  obtain ⟨g0, ⟨g1, g2, g3, g4, g5, g6, g7, g8⟩, g9⟩ := h
  exact ⟨g0, ⟨g1.trans (e 0 (by omega)).symm, g2.trans (e 1 (by omega)).symm, g3.trans (e 2 (by omega)).symm, g4.trans (e 3 (by omega)).symm, g5, fun p hp => by rw [e (42 + p) (by omega), e (28 + p) (by omega), e (35 + p) (by omega)]; exact g6 p hp, fun p hp q hq => by rw [e (49 + 7 * p + q) (by omega)]; exact g7 p hp q hq, fun h hh => by rw [e (98 + h) (by omega)]; exact g8 h hh⟩, g9⟩
theorem symU.u {P : Nat} {u v : Nat → Int32} (h : symU P u) (e : ∀ j, j < 10 ∨ 28 ≤ j → v j = u j) : symU P v := fun p hp q hq => by rw [e _ (by omega), e _ (by omega)]; exact h p hp q hq
theorem grw_e {u : Nat → Int32} {s P : Nat} (hP : P ≤ 7) : ∀ j, j < 10 ∨ 28 ≤ j → grwF u s P j = u j := fun j hj => grwF_lo (by omega) hP
theorem weight_fog {u : Nat → Int32} {P : Nat} {f g : Prop} [Decidable f] [Decidable g] (h : f ↔ g) {s : Nat} {mid : Prop} [Decidable mid] : weightF u P f s mid = weightF u P g s mid := by
  unfold weightF weighF
  by_cases e : f
  · rw [if_pos e, if_pos (h.mp e)]
  · rw [if_neg e, if_neg (fun z => e (h.mpr z))]
theorem c_X6_carry (w : Wd) (l : Launch) (S : St) (c ca cg cl ce r ra P H : Nat) (u : Nat → Int32) (hc : crS S c ca cg cl ce P u) (h : rvS S r ra P u) (hne : r ≠ c ∧ ra ≠ ca ∧ ra ≠ cg ∧ ra ≠ cl ∧ ra ≠ ce ∧ r ≠ ca ∧ r ≠ cg ∧ r ≠ cl ∧ r ≠ ce ∧ ra ≠ c) (ham : amU P u) (hy : symU P u) (s : Nat) (hsub : s ||| onN u (u 11) P = onN u (u 11) P) (drawn : Int32) : gx_M w l yX6_carry cX6_carry 5 (some .boolean) rmX6_carry [.ref (ad (w_b w) r), .ref (ad (w_b w) c), .int (nI s), .int (bI (fogF drawn u H))] S (fun v S' => v = some (.int (bI (goOK drawn u P H s))) ∧ eqO (dR r ra) S S' ∧ rvS S' r ra P (goF drawn u P H s)) := by
  obtain ⟨n1, n2, n3, n4, n5, n6, n7, n8, n9, n10⟩ := hne
  have hP7 := hc.2.2
  have ho : onN u (u 11) P < 128 := onN_128 hP7
  have hs : s < 128 := by
    have : s ≤ s ||| onN u (u 11) P := Nat.left_le_or
    omega
  have oc := h.1.1
  refine gx_start rfl 1 rfl (Nat.le_of_ble_eq_true rfl) ?_
  intro X C _ hl
  subst hl
  refine gx_L (L' := [_, _, _, _, _]) rfl ?_
  refine g_aload_n (pc := 0) C dX6_carry_0 rfl ?_
  refine g_aload_n (pc := 1) C dX6_carry_1 rfl ?_
  refine g_iload_n (pc := 2) C dX6_carry_2 rfl ?_
  refine cg_X6_94 (pc := 3) C (by exact oc.1) (zk (by exact oc.2)) (c_X6_grow _ _ S c ca cg cl ce r ra P u hc h n3 ham s hs) ⟨rfl, rfl⟩ ⟨Nat.zero_le _, Nat.zero_le _⟩ rfl (Nat.le_of_ble_eq_true rfl) dX6_carry_3 ?_
  rintro _ S1 ⟨rfl, q1, h1⟩
  have hc1 : crS S1 c ca cg cl ce P (grwF u s P) := (hc.to q1 ⟨fun q => q.elim (fun e => n1 e.symm) (fun e => n10 e.symm), fun q => q.elim (fun e => n6 e.symm) (fun e => n2 e.symm), fun q => q.elim (fun e => n7 e.symm) (fun e => n3 e.symm), fun q => q.elim (fun e => n8 e.symm) (fun e => n4 e.symm), fun q => q.elim (fun e => n9 e.symm) (fun e => n5 e.symm)⟩).u (grw_e hP7)
  have hy1 : symU P (grwF u s P) := hy.u (grw_e hP7)
  have oc1 := h1.1.1
  have occ1 := hc1.1.1
  have hld : s_I S1 1 c = grwF u s P 1 := hc1.2.1.2.1
  have hfg := fog_grw (drawn := drawn) (u := u) (s := s) (H := H) hP7
  refine g_aload_n (pc := 6) C dX6_carry_6 rfl ?_
  refine g_aload_n (pc := 7) C dX6_carry_7 rfl ?_
  refine g_iload_n (pc := 8) C dX6_carry_8 rfl ?_
  refine g_iload_n (pc := 9) C dX6_carry_9 rfl ?_
  refine cf_X6_79 (pc := 10) C (by exact oc1.1) (zk (by exact oc1.2)) (c_X6_weigh _ _ S1 c ca cg cl ce r ra P (grwF u s P) hc1 h1 hy1 s hs (fogF drawn u H)) ⟨rfl, rfl⟩ ⟨rfl, rfl⟩ ⟨Nat.zero_le _, Nat.zero_le _⟩ rfl (Nat.le_of_ble_eq_true rfl) dX6_carry_10 ?_
  refine gx_ti (y := weightF (grwF u s P) P (fogF drawn (grwF u s P) H) s False) (weight_fog hfg.symm) ?_
  refine g_aload_n (pc := 13) C dX6_carry_13 rfl ?_
  refine fg_X6_83 (pc := 14) C (by exact occ1.1) (zk (by exact occ1.2)) dX6_carry_14 ?_
  obtain ⟨⟨k1, k2, k3⟩, ⟨v1, v2, v3, v4, v5, hA⟩, hsd⟩ := h1
  have e11 : grwF u s P 11 = u 11 := grwF_lo (by omega) hP7
  refine gx_ti (y := grwF u s P 1) hld ?_
  refine g_icmp_gt (pc := 17) C 24 dX6_carry_17 rfl (fun c1 => ?_) (fun c1 => ?_)
  · have hno : ¬ goOK drawn u P H s := Int32.not_le.mpr c1
    have eG : goG drawn u P H s = upd (grwF u s P) 12 (grwF u s P 12 + nI 1) := if_neg hno
    refine g_iconst (pc := 24) (v := nI 0) C dX6_carry_24 (by decide) ?_
    refine g_istore (pc := 25) (L' := [_, _, _, some (.int _), _]) C dX6_carry_25 rfl rfl ?_
    refine g_iload (pc := 27) C dX6_carry_27 rfl ?_
    refine g_if_eq (pc := 29) C 55 dX6_carry_29 rfl (fun c2 => ?_) (fun c2 => ?_)
    · refine g_aload_n (pc := 55) C dX6_carry_55 rfl ?_
      refine g_dup (pc := 56) C dX6_carry_56 rfl ?_
      refine fg_X6_25 (pc := 57) C (by exact oc1.1) (zk (by exact oc1.2)) dX6_carry_57 ?_
      refine gx_ti (y := grwF u s P 12) v4 ?_
      refine g_iconst (pc := 60) (v := nI 1) C dX6_carry_60 (by decide) ?_
      refine g_iadd (pc := 61) C dX6_carry_61 ?_
      refine fp_X6_25 (pc := 62) C (by exact oc1.1) (zk (by exact oc1.2)) dX6_carry_62 ?_
      refine g_aload_n (pc := 65) C dX6_carry_65 rfl ?_
      refine g_dup (pc := 66) C dX6_carry_66 rfl ?_
      refine fg_X6_15 (pc := 67) C (by exact oc1.1) (zk (by exact oc1.2)) dX6_carry_67 ?_
      refine gx_ti (y := grwF u s P 10) v1 ?_
      refine g_iconst (pc := 70) (v := nI 1) C dX6_carry_70 (by decide) ?_
      refine g_iadd (pc := 71) C dX6_carry_71 ?_
      refine fp_X6_15 (pc := 72) C (by exact oc1.1) (zk (by exact oc1.2)) dX6_carry_72 ?_
      refine g_iload (pc := 75) C dX6_carry_75 rfl ?_
      exact g_zreturn (pc := 77) C ⟨rfl, rfl⟩ (Or.inl rfl) dX6_carry_77 ⟨by rw [bI_f hno], q1.trans ((eqO.sI (Or.inl rfl)).trans (eqO.sI (Or.inl rfl))), ⟨k1, k2, k3⟩, ⟨by unfold goF; rw [pk_us, eG, pk_un (by omega)]; exact gI_at, by unfold goF; rw [pk_un (by omega), eG, pk_un (by omega)]; exact v2, by
        rw [onN_ext (v := grwF u s P) P (fun p hp => by unfold goF; rw [pk_un (by omega), eG, pk_un (by omega)])]; exact v3, by unfold goF; rw [pk_un (by omega), eG, pk_us]; exact gI_at (S := S1) (f := 503), by unfold goF; rw [pk_un (by omega), eG, pk_un (by omega)]; exact v5, fun p hp => by unfold goF; rw [pk_un (by omega), eG, pk_un (by omega)]; exact hA p hp⟩, by unfold goF; rw [pk_un (by omega), eG, pk_un (by omega)]; exact hsd.1, fun p hp => by unfold goF; rw [pk_un (by omega), eG, pk_un (by omega)]; exact hsd.2 p hp⟩
    · exact absurd rfl c2
  · have hok : goOK drawn u P H s := Int32.not_lt.mp c1
    have eG : goG drawn u P H s = upd (crsF (grwF u s P) s P) 11 (nI 1 - crsF (grwF u s P) s P 11) := if_pos hok
    have hcr : ∀ j, j < 21 ∨ 28 ≤ j → crsF (grwF u s P) s P j = grwF u s P j := fun j hj => crsF_lo hj hP7
    have hsd0 : sdU P u := ⟨e11 ▸ hsd.1, fun p hp => by have := hsd.2 p hp; rw [grwF_lo (by omega) hP7] at this; exact this⟩
    have hon := on_crs (g := grwF u s P) hP7 hsd0 e11 (fun p hp => grwF_lo (by omega) hP7) hsub
    have hon2 : onN (grwF u s P) (nI 1) P = onN u (nI 1) P := onN_ext P (fun p hp => grwF_lo (by omega) hP7)
    have heq : ∀ j, j ≠ 10 → j ≠ 11 → goF drawn u P H s j = crsF (grwF u s P) s P j := fun j h1 h2 => by unfold goF; rw [pk_un h1, eG, pk_un h2]
    refine g_iconst (pc := 20) (v := nI 1) C dX6_carry_20 (by decide) ?_
    refine g_goto (pc := 21) C 25 dX6_carry_21 rfl ?_
    refine g_istore (pc := 25) (L' := [_, _, _, some (.int _), _]) C dX6_carry_25 rfl rfl ?_
    refine g_iload (pc := 27) C dX6_carry_27 rfl ?_
    refine g_if_eq (pc := 29) C 55 dX6_carry_29 rfl (fun c2 => ?_) (fun c2 => ?_)
    · exact absurd c2 (by decide)
    · refine g_aload_n (pc := 32) C dX6_carry_32 rfl ?_
      refine g_dup (pc := 33) C dX6_carry_33 rfl ?_
      refine fg_X6_22 (pc := 34) C (by exact oc1.1) (zk (by exact oc1.2)) dX6_carry_34 ?_
      refine gx_ti (y := nI (onN u (nI 1) P)) (v3.trans (by rw [hon2])) ?_
      refine g_iload_n (pc := 37) C dX6_carry_37 rfl ?_
      refine g_ixor (pc := 38) C dX6_carry_38 ?_
      refine gx_ti (y := nI (onN u (nI 1) P ^^^ s)) (xor_n7 _ (onN_128 hP7) s hs) ?_
      refine fp_X6_22 (pc := 39) C (by exact oc1.1) (zk (by exact oc1.2)) dX6_carry_39 ?_
      refine g_aload_n (pc := 42) C dX6_carry_42 rfl ?_
      refine g_iconst (pc := 43) (v := nI 1) C dX6_carry_43 (by decide) ?_
      refine g_aload_n (pc := 44) C dX6_carry_44 rfl ?_
      refine fg_X6_19 (pc := 45) C (by exact oc1.1) (zk (by exact oc1.2)) dX6_carry_45 ?_
      refine gx_ti (y := grwF u s P 11) v2 ?_
      refine g_isub (pc := 48) C dX6_carry_48 ?_
      refine fp_X6_19 (pc := 49) C (by exact oc1.1) (zk (by exact oc1.2)) dX6_carry_49 ?_
      refine g_goto (pc := 52) C 65 dX6_carry_52 rfl ?_
      refine g_aload_n (pc := 65) C dX6_carry_65 rfl ?_
      refine g_dup (pc := 66) C dX6_carry_66 rfl ?_
      refine fg_X6_15 (pc := 67) C (by exact oc1.1) (zk (by exact oc1.2)) dX6_carry_67 ?_
      refine gx_ti (y := grwF u s P 10) v1 ?_
      refine g_iconst (pc := 70) (v := nI 1) C dX6_carry_70 (by decide) ?_
      refine g_iadd (pc := 71) C dX6_carry_71 ?_
      refine fp_X6_15 (pc := 72) C (by exact oc1.1) (zk (by exact oc1.2)) dX6_carry_72 ?_
      refine g_iload (pc := 75) C dX6_carry_75 rfl ?_
      exact g_zreturn (pc := 77) C ⟨rfl, rfl⟩ (Or.inr rfl) dX6_carry_77 ⟨by rw [bI_t hok], q1.trans (((eqO.sI (Or.inl rfl)).trans (eqO.sI (Or.inl rfl))).trans (eqO.sI (Or.inl rfl))), ⟨k1, k2, k3⟩, ⟨by unfold goF; rw [pk_us, eG, pk_un (by omega), hcr 10 (by omega)]; exact gI_at, by unfold goF; rw [pk_un (by omega), eG, pk_us, hcr 11 (by omega)]; exact gI_at (S := s_setI S1 502 r (nI (onN u (nI 1) P ^^^ s))) (f := 501), by
        rw [onN_ext (v := crsF (grwF u s P) s P) P (fun p hp => heq _ (by omega) (by omega)), hon]; exact gI_at (S := S1) (f := 502), by rw [heq 12 (by omega) (by omega), hcr 12 (by omega)]; exact v4, by rw [heq 13 (by omega) (by omega), hcr 13 (by omega)]; exact v5, fun p hp => by rw [heq _ (by omega) (by omega), hcr _ (by omega)]; exact hA p hp⟩, by
        unfold goF; rw [pk_un (by omega), eG, pk_us, hcr 11 (by omega), e11]
        rcases hsd0.1 with e | e
        · rw [e]; exact Or.inr (by decide)
        · rw [e]; exact Or.inl (by decide), fun p hp => by
        rw [heq _ (by omega) (by omega)]
        unfold crsF
        split
        · rw [e11]
          rcases hsd0.1 with e | e
          · rw [e]; exact Or.inr (by decide)
          · rw [e]; exact Or.inl (by decide)
        · exact hsd.2 p hp⟩
