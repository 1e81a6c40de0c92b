/-! ===== the reference: small methods ===== -/
theorem lg_lt {x y : Int64} : lg_cmp x y < 0 ↔ x < y := lg_cmp_lt x y
theorem lg_gt {x y : Int64} : 0 < lg_cmp x y ↔ y < x := lg_cmp_gt x y
theorem pI_t {p : Prop} [Decidable p] {S : St} (h : p) : pI (bI p) S (some (.int (nI 1))) S := ⟨by rw [bI_t h], rfl⟩
theorem pI_f {p : Prop} [Decidable p] {S : St} (h : ¬ p) : pI (bI p) S (some (.int (nI 0))) S := ⟨by rw [bI_f h], rfl⟩
def isOfF (set k : Int32) : Prop := (set >>> (k &&& 31)) &&& nI 1 = nI 1
theorem isOf_iff {s p : Nat} (hs : s < 128) (hp : p < 7) : isOfF (nI s) (nI p) ↔ s.testBit p = true := isOf_nI s hs p hp
def atMostF (n most : Int32) : Int32 := if n ≤ most then n else most
def onN (said : Nat → Int32) (side : Int32) : Nat → Nat
  | 0 => 0
  | n + 1 => onN said side n + (if said (21 + n) = side then 2 ^ n else 0)
theorem onN_lt (said : Nat → Int32) (side : Int32) : ∀ n, onN said side n < 2 ^ n
  | 0 => by simp [onN]
  | n + 1 => by
    have := onN_lt said side n
    simp only [onN, Nat.pow_succ]
    split <;> omega
theorem onN_128 {said : Nat → Int32} {side : Int32} {P : Nat} (h : P ≤ 7) : onN said side P < 128 := Nat.lt_of_lt_of_le (onN_lt said side P) (Nat.pow_le_pow_right (by decide) h)
theorem c_X12_in (w : Wd) (l : Launch) (S : St) (v lo hi : Int64) : gx_M w l yX12_in cX12_in 6 (some .boolean) rmX12_in [.long v, .long lo, .long hi] S (pI (bI (lo ≤ v ∧ v ≤ hi)) S) := by
  refine gx_start rfl 0 rfl (Nat.le_of_ble_eq_true rfl) ?_
  intro X C _ hl
  subst hl
  refine gx_L (L' := [_, _, _, _, _, _]) rfl ?_
  refine g_lload_n (pc := 0) C dX12_in_0 rfl ?_
  refine g_lload_n (pc := 1) C dX12_in_1 rfl ?_
  refine g_lcmp (pc := 2) C dX12_in_2 ?_
  refine g_if_lt (pc := 3) C 17 dX12_in_3 rfl (fun h3 => ?_) (fun h3 => ?_)
  · refine g_iconst (pc := 17) (v := nI 0) C dX12_in_17 (by decide) ?_
    exact g_zreturn (pc := 18) C ⟨rfl, rfl⟩ (by first | exact Or.inl rfl | exact Or.inr rfl) dX12_in_18 ((by first | exact pI_t ⟨Int64.not_lt.mp (fun q => h3 (lg_lt.mpr q)), Int64.not_lt.mp (fun q => h10 (lg_gt.mpr q))⟩ | exact pI_f (fun q => absurd (lg_lt.mp h3) (Int64.not_lt.mpr q.1)) | exact pI_f (fun q => absurd (lg_gt.mp h10) (Int64.not_lt.mpr q.2))))
  · refine g_lload_n (pc := 6) C dX12_in_6 rfl ?_
    refine g_lload (pc := 7) C dX12_in_7 rfl ?_
    refine g_lcmp (pc := 9) C dX12_in_9 ?_
    refine g_if_gt (pc := 10) C 17 dX12_in_10 rfl (fun h10 => ?_) (fun h10 => ?_)
    · refine g_iconst (pc := 17) (v := nI 0) C dX12_in_17 (by decide) ?_
      exact g_zreturn (pc := 18) C ⟨rfl, rfl⟩ (by first | exact Or.inl rfl | exact Or.inr rfl) dX12_in_18 ((by first | exact pI_t ⟨Int64.not_lt.mp (fun q => h3 (lg_lt.mpr q)), Int64.not_lt.mp (fun q => h10 (lg_gt.mpr q))⟩ | exact pI_f (fun q => absurd (lg_lt.mp h3) (Int64.not_lt.mpr q.1)) | exact pI_f (fun q => absurd (lg_gt.mp h10) (Int64.not_lt.mpr q.2))))
    · refine g_iconst (pc := 13) (v := nI 1) C dX12_in_13 (by decide) ?_
      refine g_goto (pc := 14) C 18 dX12_in_14 rfl ?_
      exact g_zreturn (pc := 18) C ⟨rfl, rfl⟩ (by first | exact Or.inl rfl | exact Or.inr rfl) dX12_in_18 ((by first | exact pI_t ⟨Int64.not_lt.mp (fun q => h3 (lg_lt.mpr q)), Int64.not_lt.mp (fun q => h10 (lg_gt.mpr q))⟩ | exact pI_f (fun q => absurd (lg_lt.mp h3) (Int64.not_lt.mpr q.1)) | exact pI_f (fun q => absurd (lg_gt.mp h10) (Int64.not_lt.mpr q.2))))
theorem c_X12_isOf (w : Wd) (l : Launch) (S : St) (set k : Int32) : gx_M w l yX12_isOf cX12_isOf 2 (some .boolean) rmX12_isOf [.int set, .int k] S (pI (bI ((set >>> (k &&& 31)) &&& nI 1 = nI 1)) S) := by
  refine gx_start rfl 0 rfl (Nat.le_of_ble_eq_true rfl) ?_
  intro X C _ hl
  subst hl
  refine gx_L (L' := [_, _]) rfl ?_
  refine g_iload_n (pc := 0) C dX12_isOf_0 rfl ?_
  refine g_iload_n (pc := 1) C dX12_isOf_1 rfl ?_
  refine g_ishr (pc := 2) C dX12_isOf_2 ?_
  refine g_iconst (pc := 3) (v := nI 1) C dX12_isOf_3 (by decide) ?_
  refine g_iand (pc := 4) C dX12_isOf_4 ?_
  refine g_iconst (pc := 5) (v := nI 1) C dX12_isOf_5 (by decide) ?_
  refine g_icmp_ne (pc := 6) C 13 dX12_isOf_6 rfl (fun h6 => ?_) (fun h6 => ?_)
  · refine g_iconst (pc := 13) (v := nI 0) C dX12_isOf_13 (by decide) ?_
    exact g_zreturn (pc := 14) C ⟨rfl, rfl⟩ (by first | exact Or.inl rfl | exact Or.inr rfl) dX12_isOf_14 (⟨by first | rw [bI_f h6] | rw [bI_t (Decidable.not_not.mp h6)], rfl⟩)
  · refine g_iconst (pc := 9) (v := nI 1) C dX12_isOf_9 (by decide) ?_
    refine g_goto (pc := 10) C 14 dX12_isOf_10 rfl ?_
    exact g_zreturn (pc := 14) C ⟨rfl, rfl⟩ (by first | exact Or.inl rfl | exact Or.inr rfl) dX12_isOf_14 (⟨by first | rw [bI_f h6] | rw [bI_t (Decidable.not_not.mp h6)], rfl⟩)
theorem c_X12_isOfN (w : Wd) (l : Launch) (S : St) (s p : Nat) (hs : s < 128) (hp : p < 7) : gx_M w l yX12_isOf cX12_isOf 2 (some .boolean) rmX12_isOf [.int (nI s), .int (nI p)] S (pI (bI (s.testBit p = true)) S) := by
  have h := c_X12_isOf w l S (nI s) (nI p)
  rw [show bI ((nI s >>> (nI p &&& 31)) &&& nI 1 = nI 1) = bI (s.testBit p = true) from by
    unfold bI
    simp only [isOf_nI s hs p hp]] at h
  exact h
theorem c_X12_bits (w : Wd) (l : Launch) (S : St) (s : Nat) (hs : s < 128) : gx_M w l yX12_bits cX12_bits 3 (some .int) rmX12_bits [.int (nI s)] S (pI (nI (popN s)) S) := by
  refine gx_start rfl 2 rfl (Nat.le_of_ble_eq_true rfl) ?_
  intro X C _ hl
  subst hl
  refine gx_L (L' := [_, _, _]) rfl ?_
  refine g_iconst (pc := 0) (v := nI 0) C dX12_bits_0 (by decide) ?_
  refine g_istore_n (pc := 1) (L' := [some (.int _), _, _]) C dX12_bits_1 rfl rfl ?_
  refine g_iload_n (pc := 2) C dX12_bits_2 rfl ?_
  refine g_istore_n (pc := 3) (L' := [_, some (.int _), _]) C dX12_bits_3 rfl rfl ?_
  have loop : ∀ k t n, t ≤ k → t < 128 → n + popN t = popN s → gx_G w X S 0 0 4 [some (.int (nI s)), some (.int (nI n)), some (.int (nI t))] [] (gx_E w X (pI (nI (popN s)) S)) := by
    intro k
    induction k with
    | zero =>
      intro t n ht _ hn
      have ht : t = 0 := by omega
      subst ht
      refine g_iload_n (pc := 4) C dX12_bits_4 rfl ?_
      refine g_if_eq (pc := 5) C 20 dX12_bits_5 rfl (fun h => ?_) (fun h => ?_)
      · refine g_iload_n (pc := 20) C dX12_bits_20 rfl ?_
        have hn : n = popN s := hn
        subst hn
        exact g_ireturn (pc := 21) C ⟨rfl, rfl⟩ dX12_bits_21 ⟨rfl, rfl⟩
      · exact absurd rfl h
    | succ k ih =>
      intro t n ht h128 hn
      refine g_iload_n (pc := 4) C dX12_bits_4 rfl ?_
      refine g_if_eq (pc := 5) C 20 dX12_bits_5 rfl (fun h => ?_) (fun h => ?_)
      · have h0 : t = 0 := by
          have := (nI_eq (a := t) (b := 0) (by omega) (by omega)).mp h
          exact this
        subst h0
        have hn : n = popN s := hn
        subst hn
        refine g_iload_n (pc := 20) C dX12_bits_20 rfl ?_
        exact g_ireturn (pc := 21) C ⟨rfl, rfl⟩ dX12_bits_21 ⟨rfl, rfl⟩
      · have h0 : 0 < t := Nat.pos_of_ne_zero (fun e => h (by rw [e]; rfl))
        obtain ⟨e1, e2⟩ := popN_step t h128 h0
        refine g_iinc (pc := 8) (L' := [some (.int _), _, _]) C dX12_bits_8 rfl (nI_1 _) rfl ?_
        refine g_iload_n (pc := 11) C dX12_bits_11 rfl ?_
        refine g_iload_n (pc := 12) C dX12_bits_12 rfl ?_
        refine g_iconst (pc := 13) (v := nI 1) C dX12_bits_13 (by decide) ?_
        refine g_isub (pc := 14) C dX12_bits_14 ?_
        refine g_iand (pc := 15) C dX12_bits_15 ?_
        refine gx_ti (and_pred t h128 h0) ?_
        refine g_istore_n (pc := 16) (L' := [_, some (.int _), _]) C dX12_bits_16 rfl rfl ?_
        refine g_goto (pc := 17) C 4 dX12_bits_17 rfl ?_
        exact ih _ (n + 1) (by omega) (by omega) (by omega)
  exact loop s s 0 (Nat.le_refl s) hs (by omega)
theorem c_X12_atMost (w : Wd) (l : Launch) (S : St) (n most : Int32) : gx_M w l yX12_atMost cX12_atMost 2 (some .int) rmX12_atMost [.int n, .int most] S (pI (atMostF n most) S) := by
  refine gx_start rfl 0 rfl (Nat.le_of_ble_eq_true rfl) ?_
  intro X C _ hl
  subst hl
  refine gx_L (L' := [_, _]) rfl ?_
  refine g_iload_n (pc := 0) C dX12_atMost_0 rfl ?_
  refine g_iload_n (pc := 1) C dX12_atMost_1 rfl ?_
  refine g_icmp_le (pc := 2) C 9 dX12_atMost_2 rfl (fun h2 => ?_) (fun h2 => ?_)
  · refine g_iload_n (pc := 9) C dX12_atMost_9 rfl ?_
    exact g_ireturn (pc := 10) C ⟨rfl, rfl⟩ dX12_atMost_10 (⟨by simp [atMostF, h2], rfl⟩)
  · refine g_iload_n (pc := 5) C dX12_atMost_5 rfl ?_
    refine g_goto (pc := 6) C 10 dX12_atMost_6 rfl ?_
    exact g_ireturn (pc := 10) C ⟨rfl, rfl⟩ dX12_atMost_10 (⟨by simp [atMostF, h2], rfl⟩)
theorem c_X12_besideOf (w : Wd) (l : Launch) (S : St) (hm : gx_m S) (a b : Nat) (ha : a < 7) (hb : b < 7) : gx_M w l yX12_besideOf cX12_besideOf 3 (some .int) rmX12_besideOf [.ref (ad (w_b w) 1000), .int (nI a), .int (nI b)] S (pI (s_A S 1010 (49 + 7 * a + b)) S) := by
  refine gx_start rfl 0 rfl (Nat.le_of_ble_eq_true rfl) ?_
  intro X C _ hl
  subst hl
  refine gx_L (L' := [_, _, _]) rfl ?_
  refine g_aload_n (pc := 0) C dX12_besideOf_0 rfl ?_
  refine mg_39 (pc := 1) C (by exact hm) dX12_besideOf_1 ?_
  refine g_bipush (pc := 4) (v := nI 49) C dX12_besideOf_4 (by decide) ?_
  refine g_bipush (pc := 6) (v := nI 7) C dX12_besideOf_6 (by decide) ?_
  refine g_iload_n (pc := 8) C dX12_besideOf_8 rfl ?_
  refine g_imul (pc := 9) C dX12_besideOf_9 ?_
  refine g_iadd (pc := 10) C dX12_besideOf_10 ?_
  refine g_iload_n (pc := 11) C dX12_besideOf_11 rfl ?_
  refine g_iadd (pc := 12) C dX12_besideOf_12 ?_
  refine n_iald (pc := 13) (k := 1010) (n := 190) C rfl rfl (by exact m_z hm rfl) (isn_add (isn_add isn_v (isn_mul isn_v isn_v)) isn_v) rfl (by omega) dX12_besideOf_13 ?_
  exact g_ireturn (pc := 14) C ⟨rfl, rfl⟩ dX12_besideOf_14 (⟨rfl, rfl⟩)
theorem c_X12_onSide (w : Wd) (l : Launch) (S : St) (hm : gx_m S) (P : Nat) (hP : s_A S 1010 4 = nI P) (hP7 : P ≤ 7) (side : Int32) : gx_M w l yX12_onSide cX12_onSide 4 (some .int) rmX12_onSide [.ref (ad (w_b w) 1000), .int side] S (pI (nI (onN (s_A S 1010) side P)) S) := by
  refine gx_start rfl 2 rfl (Nat.le_of_ble_eq_true rfl) ?_
  intro X C _ hl
  subst hl
  refine gx_L (L' := [_, _, _, _]) rfl ?_
  refine g_iconst (pc := 0) (v := nI 0) C dX12_onSide_0 (by decide) ?_
  refine g_istore_n (pc := 1) (L' := [_, some (.int _), _, _]) C dX12_onSide_1 rfl rfl ?_
  refine g_iconst (pc := 2) (v := nI 0) C dX12_onSide_2 (by decide) ?_
  refine g_istore_n (pc := 3) (L' := [_, _, some (.int _), _]) C dX12_onSide_3 rfl rfl ?_
  have loop : ∀ k n, n + k = P → gx_G w X S 0 0 4 [some (.ref (ad (w_b w) 1000)), some (.int side), some (.int (nI (onN (s_A S 1010) side n))), some (.int (nI n))] [] (gx_E w X (pI (nI (onN (s_A S 1010) side P)) S)) := by
    intro k
    induction k with
    | zero =>
      intro n hn
      have hn : n = P := hn
      subst hn
      refine g_iload_n (pc := 4) C dX12_onSide_4 rfl ?_
      refine g_aload_n (pc := 5) C dX12_onSide_5 rfl ?_
      refine mg_39 (pc := 6) C (by exact hm) dX12_onSide_6 ?_
      refine g_iconst (pc := 9) (v := nI 4) C dX12_onSide_9 (by decide) ?_
      refine n_iald (pc := 10) (k := 1010) (n := 190) C rfl rfl (by exact m_z hm rfl) isn_v rfl (by omega) dX12_onSide_10 ?_
      refine gx_ti hP ?_
      refine g_icmp_ge (pc := 11) C 43 dX12_onSide_11 rfl (fun h => ?_) (fun h => ?_)
      · refine g_iload_n (pc := 43) C dX12_onSide_43 rfl ?_
        exact g_ireturn (pc := 44) C ⟨rfl, rfl⟩ dX12_onSide_44 ⟨rfl, rfl⟩
      · exact absurd (nI_le (Nat.le_refl n) (by omega)) h
    | succ k ih =>
      intro n hn
      have hlt := onN_lt (s_A S 1010) side n
      have h128 : onN (s_A S 1010) side n < 128 := onN_128 (by omega)
      refine g_iload_n (pc := 4) C dX12_onSide_4 rfl ?_
      refine g_aload_n (pc := 5) C dX12_onSide_5 rfl ?_
      refine mg_39 (pc := 6) C (by exact hm) dX12_onSide_6 ?_
      refine g_iconst (pc := 9) (v := nI 4) C dX12_onSide_9 (by decide) ?_
      refine n_iald (pc := 10) (k := 1010) (n := 190) C rfl rfl (by exact m_z hm rfl) isn_v rfl (by omega) dX12_onSide_10 ?_
      refine gx_ti hP ?_
      refine g_icmp_ge (pc := 11) C 43 dX12_onSide_11 rfl (fun h => ?_) (fun h => ?_)
      · exact absurd h (nI_ge (by omega) (by omega))
      · refine g_iload_n (pc := 14) C dX12_onSide_14 rfl ?_
        refine g_aload_n (pc := 15) C dX12_onSide_15 rfl ?_
        refine mg_39 (pc := 16) C (by exact hm) dX12_onSide_16 ?_
        refine g_bipush (pc := 19) (v := nI 21) C dX12_onSide_19 (by decide) ?_
        refine g_iload_n (pc := 21) C dX12_onSide_21 rfl ?_
        refine g_iadd (pc := 22) C dX12_onSide_22 ?_
        refine n_iald (pc := 23) (k := 1010) (n := 190) C rfl rfl (by exact m_z hm rfl) (isn_add isn_v isn_v) rfl (by omega) dX12_onSide_23 ?_
        refine g_iload_n (pc := 24) C dX12_onSide_24 rfl ?_
        refine g_icmp_ne (pc := 25) C 34 dX12_onSide_25 rfl (fun h2 => ?_) (fun h2 => ?_)
        · refine g_iconst (pc := 34) (v := nI 0) C dX12_onSide_34 (by decide) ?_
          refine g_ior (pc := 35) C dX12_onSide_35 ?_
          refine gx_ti (y := nI (onN (s_A S 1010) side (n + 1))) (by rw [or_0 _ h128]; simp [onN, h2]) ?_
          refine g_istore_n (pc := 36) (L' := [_, some (.int _), _, _]) C dX12_onSide_36 rfl rfl ?_
          refine g_iinc (pc := 37) (L' := [_, _, some (.int _), _]) C dX12_onSide_37 rfl (nI_1 _) rfl ?_
          refine g_goto (pc := 40) C 4 dX12_onSide_40 rfl ?_
          exact ih (n + 1) (by omega)
        · refine g_iconst (pc := 28) (v := nI 1) C dX12_onSide_28 (by decide) ?_
          refine g_iload_n (pc := 29) C dX12_onSide_29 rfl ?_
          refine g_ishl (pc := 30) C dX12_onSide_30 ?_
          refine g_goto (pc := 31) C 35 dX12_onSide_31 rfl ?_
          refine g_ior (pc := 35) C dX12_onSide_35 ?_
          refine gx_ti (y := nI (onN (s_A S 1010) side (n + 1))) (by rw [or_bit n (by omega) _ h128 hlt]; simp [onN, Decidable.not_not.mp h2]) ?_
          refine g_istore_n (pc := 36) (L' := [_, some (.int _), _, _]) C dX12_onSide_36 rfl rfl ?_
          refine g_iinc (pc := 37) (L' := [_, _, some (.int _), _]) C dX12_onSide_37 rfl (nI_1 _) rfl ?_
          refine g_goto (pc := 40) C 4 dX12_onSide_40 rfl ?_
          exact ih (n + 1) (by omega)
  exact loop P 0 (by omega)
