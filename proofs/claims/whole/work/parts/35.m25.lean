/-! ===== the reference: four, feed, end; isUsed, keepsRow ===== -/
def tpS (S : St) (T : Nat → Int32) (n : Int32) : St := s_setI (s_setA S 1001 T) 1101 1000 n
theorem s_IA (S : St) (f k a : Nat) (t : Int32) (g : Nat → Int32) : s_setA (s_setI S f k t) a g = s_setI (s_setA S a g) f k t := rfl
theorem tp_A (S : St) (T U : Nat → Int32) (n : Int32) : s_setA (tpS S T n) 1001 U = tpS S U n := by unfold tpS; rw [s_IA, s_AA]
theorem tp_I (S : St) (T : Nat → Int32) (n m : Int32) : s_setI (tpS S T n) 1101 1000 m = tpS S T m := by unfold tpS; rw [s_II]
theorem tp_id (S : St) : tpS S (s_A S 1001) (s_I S 1101 1000) = S := by
  unfold tpS
  rw [s_A_id]; exact s_I_id S 1101 1000
theorem tp_rA (S : St) (T : Nat → Int32) (n : Int32) : s_A (tpS S T n) 1001 = T := rfl
theorem tp_rI (S : St) (T : Nat → Int32) (n : Int32) : s_I (tpS S T n) 1101 1000 = n := rfl
def ozF (k : Nat) : Int32 := nI 24 - nI (8 * k)
theorem ozF_s : ∀ k, k < 4 → ozF k + (-8) = ozF (k + 1) ∧ ¬ ozF k < 0 := by decide +kernel
def bytF (v : Int32) (k : Nat) : Int32 := vp_nar .byte (v >>> (ozF k &&& 31)).toInt8.toInt32
def fourF (T : Nat → Int32) (n : Nat) (v : Int32) (k : Nat) : Nat → Int32 := fun j => if n ≤ j ∧ j < n + k then bytF v (j - n) else T j
theorem fourF_0 {T : Nat → Int32} {n : Nat} {v : Int32} : fourF T n v 0 = T := by
  funext j; unfold fourF; rw [if_neg (by omega)]
theorem fourF_s {T : Nat → Int32} {n : Nat} {v : Int32} {k : Nat} : upd (fourF T n v k) (n + k) (bytF v k) = fourF T n v (k + 1) := by
  funext j
  show (if j = n + k then bytF v k else (if n ≤ j ∧ j < n + k then bytF v (j - n) else T j)) = (if n ≤ j ∧ j < n + (k + 1) then bytF v (j - n) else T j)
  by_cases e : j = n + k
  · rw [if_pos e, if_pos (by omega), show j - n = k by omega]
  · rw [if_neg e]
    by_cases e2 : n ≤ j ∧ j < n + k
    · rw [if_pos e2, if_pos (by omega)]
    · rw [if_neg e2, if_neg (by omega)]
theorem c_X12_four (w : Wd) (l : Launch) (S : St) (hm : gx_m S) (T : Nat → Int32) (n : Nat) (hn : n + 4 ≤ 400) (v : Int32) : gx_M w l yX12_four cX12_four 3 none rmX12_four [.ref (ad (w_b w) 1000), .int v] (tpS S T (nI n)) (pV (tpS S (fourF T n v 4) (nI (n + 4)))) := by
  have hmA : ∀ T n, gx_m (tpS S T n) := fun T n => hm
  refine gx_start rfl 1 rfl (Nat.le_of_ble_eq_true rfl) ?_
  intro X C _ hl
  subst hl
  refine gx_L (L' := [_, _, _]) rfl ?_
  refine g_bipush (pc := 0) (v := nI 24) C dX12_four_0 (by decide) ?_
  refine g_istore_n (pc := 2) (L' := [_, some (.int _), _]) C dX12_four_2 rfl rfl ?_
  have loop : ∀ d k, k + d = 4 → gx_G w X (tpS S (fourF T n v k) (nI (n + k))) 0 0 3 [some (.ref (ad (w_b w) 1000)), some (.int v), some (.int (ozF k))] [] (gx_E w X (pV (tpS S (fourF T n v 4) (nI (n + 4))))) := by
    intro d
    induction d with
    | zero =>
      intro k hk
      have hk : k = 4 := hk
      subst hk
      refine g_iload_n (pc := 3) C dX12_four_3 rfl ?_
      refine g_if_lt (pc := 4) C 36 dX12_four_4 rfl (fun h => ?_) (fun h => ?_)
      · exact g_return (pc := 36) C ⟨rfl, rfl⟩ dX12_four_36 ⟨rfl, rfl⟩
      · exact absurd (by decide) h
    | succ d ih =>
      intro k hk
      obtain ⟨e1, e2⟩ := ozF_s k (by omega)
      refine g_iload_n (pc := 3) C dX12_four_3 rfl ?_
      refine g_if_lt (pc := 4) C 36 dX12_four_4 rfl (fun h => ?_) (fun h => ?_)
      · exact absurd h e2
      · refine g_aload_n (pc := 7) C dX12_four_7 rfl ?_
        refine mg_7 (pc := 8) C (hmA _ _) dX12_four_8 ?_
        refine g_aload_n (pc := 11) C dX12_four_11 rfl ?_
        refine mg_92 (pc := 12) C (hmA _ _) dX12_four_12 ?_
        refine gx_ti (y := nI (n + k)) rfl ?_
        refine g_iload_n (pc := 15) C dX12_four_15 rfl ?_
        refine g_iload_n (pc := 16) C dX12_four_16 rfl ?_
        refine g_ishr (pc := 17) C dX12_four_17 ?_
        refine g_i2b (pc := 18) C dX12_four_18 ?_
        refine n_bast (pc := 19) (k := 1001) (n := 400) C rfl rfl (m_z (hmA _ _) rfl) isn_v rfl (by omega) dX12_four_19 ?_
        refine gx_S (S' := tpS S (fourF T n v (k + 1)) (nI (n + k))) (by rw [tp_rA, tp_A]; exact congrArg (fun f => tpS S f (nI (n + k))) fourF_s) ?_
        refine g_aload_n (pc := 20) C dX12_four_20 rfl ?_
        refine g_dup (pc := 21) C dX12_four_21 rfl ?_
        refine mg_92 (pc := 22) C (hmA _ _) dX12_four_22 ?_
        refine g_iconst (pc := 25) (v := nI 1) C dX12_four_25 (by decide) ?_
        refine g_iadd (pc := 26) C dX12_four_26 ?_
        refine gx_ti (y := nI (n + (k + 1))) (nI_add (n + k) 1) ?_
        refine mp_92 (pc := 27) C (hmA _ _) dX12_four_27 ?_
        refine gx_S (tp_I S _ _ _) ?_
        refine g_iinc (pc := 30) (L' := [_, some (.int _), _]) C dX12_four_30 rfl e1 rfl ?_
        refine g_goto (pc := 33) C 3 dX12_four_33 rfl ?_
        exact ih (k + 1) (by omega)
  refine gx_S ?_ (loop 4 0 rfl)
  rw [fourF_0]; rfl
def feedF (T : Nat → Int32) (n : Nat) (a b c d e : Int32) : Nat → Int32 := fourF (fourF (fourF (fourF (fourF T n a 4) (n + 4) b 4) (n + 8) c 4) (n + 12) d 4) (n + 16) e 4
theorem c_X12_feed (w : Wd) (l : Launch) (S : St) (hm : gx_m S) (n : Nat) (hn : n ≤ 400) (hT : s_I S 1101 1000 = nI n) (a b c d e : Int32) : gx_M w l yX12_feed cX12_feed 6 (some .int) rmX12_feed [.ref (ad (w_b w) 1000), .int a, .int b, .int c, .int d, .int e] S (pI (if n + 20 ≤ 400 then nI (n + 20) else -1) (if n + 20 ≤ 400 then tpS S (feedF (s_A S 1001) n a b c d e) (nI (n + 20)) else S)) := by
  have hmA : ∀ T n, gx_m (tpS S T n) := fun T n => hm
  refine gx_start rfl 0 rfl (Nat.le_of_ble_eq_true rfl) ?_
  intro X C _ hl
  subst hl
  refine gx_L (L' := [_, _, _, _, _, _]) rfl ?_
  refine g_aload_n (pc := 0) C dX12_feed_0 rfl ?_
  refine mg_92 (pc := 1) C (by exact hm) dX12_feed_1 ?_
  refine gx_ti hT ?_
  refine g_bipush (pc := 4) (v := nI 20) C dX12_feed_4 (by decide) ?_
  refine g_iadd (pc := 6) C dX12_feed_6 ?_
  refine gx_ti (nI_add n 20) ?_
  refine g_sipush (pc := 7) (v := nI 400) C dX12_feed_7 (by decide) ?_
  refine g_icmp_le (pc := 10) C 15 dX12_feed_10 rfl (fun h => ?_) (fun h => ?_)
  · have h : n + 20 ≤ 400 := (nI_leI (by omega) (by omega)).mp h
    rw [if_pos h, if_pos h]
    refine gx_S (S' := tpS S (s_A S 1001) (nI n)) (by rw [← hT]; exact (tp_id S).symm) ?_
    refine g_aload_n (pc := 15) C dX12_feed_15 rfl ?_
    refine g_iload_n (pc := 16) C dX12_feed_16 rfl ?_
    refine cf_X12_95 (pc := 17) C rfl (m_z (hmA _ _) rfl) (c_X12_four _ _ _ hm (s_A S 1001) n (by omega) a) ⟨rfl, rfl⟩ ⟨rfl, rfl⟩ ⟨Nat.zero_le _, Nat.zero_le _⟩ rfl (Nat.le_of_ble_eq_true rfl) dX12_feed_17 ?_
    refine g_aload_n (pc := 20) C dX12_feed_20 rfl ?_
    refine g_iload_n (pc := 21) C dX12_feed_21 rfl ?_
    refine cf_X12_95 (pc := 22) C rfl (m_z (hmA _ _) rfl) (c_X12_four _ _ _ hm _ (n + 4) (by omega) b) ⟨rfl, rfl⟩ ⟨rfl, rfl⟩ ⟨Nat.zero_le _, Nat.zero_le _⟩ rfl (Nat.le_of_ble_eq_true rfl) dX12_feed_22 ?_
    refine g_aload_n (pc := 25) C dX12_feed_25 rfl ?_
    refine g_iload_n (pc := 26) C dX12_feed_26 rfl ?_
    refine cf_X12_95 (pc := 27) C rfl (m_z (hmA _ _) rfl) (c_X12_four _ _ _ hm _ (n + 8) (by omega) c) ⟨rfl, rfl⟩ ⟨rfl, rfl⟩ ⟨Nat.zero_le _, Nat.zero_le _⟩ rfl (Nat.le_of_ble_eq_true rfl) dX12_feed_27 ?_
    refine g_aload_n (pc := 30) C dX12_feed_30 rfl ?_
    refine g_iload (pc := 31) C dX12_feed_31 rfl ?_
    refine cf_X12_95 (pc := 33) C rfl (m_z (hmA _ _) rfl) (c_X12_four _ _ _ hm _ (n + 12) (by omega) d) ⟨rfl, rfl⟩ ⟨rfl, rfl⟩ ⟨Nat.zero_le _, Nat.zero_le _⟩ rfl (Nat.le_of_ble_eq_true rfl) dX12_feed_33 ?_
    refine g_aload_n (pc := 36) C dX12_feed_36 rfl ?_
    refine g_iload (pc := 37) C dX12_feed_37 rfl ?_
    refine cf_X12_95 (pc := 39) C rfl (m_z (hmA _ _) rfl) (c_X12_four _ _ _ hm _ (n + 16) (by omega) e) ⟨rfl, rfl⟩ ⟨rfl, rfl⟩ ⟨Nat.zero_le _, Nat.zero_le _⟩ rfl (Nat.le_of_ble_eq_true rfl) dX12_feed_39 ?_
    refine g_aload_n (pc := 42) C dX12_feed_42 rfl ?_
    refine mg_92 (pc := 43) C (hmA _ _) dX12_feed_43 ?_
    exact g_ireturn (pc := 46) C ⟨rfl, rfl⟩ dX12_feed_46 ⟨rfl, rfl⟩
  · rw [if_neg (fun q => h (nI_le q (by omega))), if_neg (fun q => h (nI_le q (by omega)))]
    refine g_iconst (pc := 13) (v := -1) C dX12_feed_13 (by decide) ?_
    exact g_ireturn (pc := 14) C ⟨rfl, rfl⟩ dX12_feed_14 ⟨rfl, rfl⟩
theorem c_X12_end (w : Wd) (l : Launch) (S : St) (hm : gx_m S) (n : Int32) : gx_M w l yX12_end cX12_end 2 (some .int) rmX12_end [.ref (ad (w_b w) 1000), .int n] S (pI (if 0 ≤ n ∧ n ≤ s_I S 1101 1000 then n else -1) (if 0 ≤ n ∧ n ≤ s_I S 1101 1000 then s_setI S 1101 1000 n else S)) := by
  refine gx_start rfl 0 rfl (Nat.le_of_ble_eq_true rfl) ?_
  intro X C _ hl
  subst hl
  refine gx_L (L' := [_, _]) rfl ?_
  refine g_iload_n (pc := 0) C dX12_end_0 rfl ?_
  refine g_if_lt (pc := 1) C 12 dX12_end_1 rfl (fun h1 => ?_) (fun h1 => ?_)
  · have e : ¬ (0 ≤ n ∧ n ≤ s_I S 1101 1000) := fun q => absurd h1 (Int32.not_lt.mpr q.1)
    rw [if_neg e, if_neg e]
    refine g_iconst (pc := 12) (v := -1) C dX12_end_12 (by decide) ?_
    exact g_ireturn (pc := 13) C ⟨rfl, rfl⟩ dX12_end_13 (⟨rfl, rfl⟩)
  · refine g_iload_n (pc := 4) C dX12_end_4 rfl ?_
    refine g_aload_n (pc := 5) C dX12_end_5 rfl ?_
    refine mg_92 (pc := 6) C (by exact hm) dX12_end_6 ?_
    refine g_icmp_le (pc := 9) C 14 dX12_end_9 rfl (fun h9 => ?_) (fun h9 => ?_)
    · have e : 0 ≤ n ∧ n ≤ s_I S 1101 1000 := ⟨Int32.not_lt.mp h1, h9⟩
      rw [if_pos e, if_pos e]
      refine g_aload_n (pc := 14) C dX12_end_14 rfl ?_
      refine g_iload_n (pc := 15) C dX12_end_15 rfl ?_
      refine mp_92 (pc := 16) C (by exact hm) dX12_end_16 ?_
      refine g_iload_n (pc := 19) C dX12_end_19 rfl ?_
      exact g_ireturn (pc := 20) C ⟨rfl, rfl⟩ dX12_end_20 (⟨rfl, rfl⟩)
    · have e : ¬ (0 ≤ n ∧ n ≤ s_I S 1101 1000) := fun q => h9 q.2
      rw [if_neg e, if_neg e]
      refine g_iconst (pc := 12) (v := -1) C dX12_end_12 (by decide) ?_
      exact g_ireturn (pc := 13) C ⟨rfl, rfl⟩ dX12_end_13 (⟨rfl, rfl⟩)
abbrev usedF (R : Nat → Int32) (p : Int32) (k : Nat) : Prop := ¬ ∀ i, i < k → ¬ R i = p
theorem c_X12_isUsed (w : Wd) (l : Launch) (S : St) (hm : gx_m S) (k : Nat) (hk : k ≤ 8) (p : Int32) : gx_M w l yX12_isUsed cX12_isUsed 4 (some .boolean) rmX12_isUsed [.ref (ad (w_b w) 1000), .int (nI k), .int p] S (pI (bI (usedF (s_A S 1017) p k)) S) := by
  refine gx_start rfl 1 rfl (Nat.le_of_ble_eq_true rfl) ?_
  intro X C _ hl
  subst hl
  refine gx_L (L' := [_, _, _, _]) rfl ?_
  refine g_iconst (pc := 0) (v := nI 0) C dX12_isUsed_0 (by decide) ?_
  refine g_istore_n (pc := 1) (L' := [_, _, some (.int _), _]) C dX12_isUsed_1 rfl rfl ?_
  have loop : ∀ d i, i + d = k → (∀ j, j < i → ¬ s_A S 1017 j = p) → gx_G w X S 0 0 2 [some (.ref (ad (w_b w) 1000)), some (.int (nI k)), some (.int p), some (.int (nI i))] [] (gx_E w X (pI (bI (usedF (s_A S 1017) p k)) S)) := by
    intro d
    induction d with
    | zero =>
      intro i hi hno
      have hi : i = k := hi
      subst hi
      refine g_iload_n (pc := 2) C dX12_isUsed_2 rfl ?_
      refine g_iload_n (pc := 3) C dX12_isUsed_3 rfl ?_
      refine g_icmp_ge (pc := 4) C 25 dX12_isUsed_4 rfl (fun h => ?_) (fun h => ?_)
      · refine g_iconst (pc := 25) (v := nI 0) C dX12_isUsed_25 (by decide) ?_
        exact g_zreturn (pc := 26) C ⟨rfl, rfl⟩ (by first | exact Or.inl rfl | exact Or.inr rfl) dX12_isUsed_26 (pI_f (fun q => q hno))
      · exact absurd (nI_le (Nat.le_refl i) (by omega)) h
    | succ d ih =>
      intro i hi hno
      refine g_iload_n (pc := 2) C dX12_isUsed_2 rfl ?_
      refine g_iload_n (pc := 3) C dX12_isUsed_3 rfl ?_
      refine g_icmp_ge (pc := 4) C 25 dX12_isUsed_4 rfl (fun h => ?_) (fun h => ?_)
      · exact absurd h (nI_ge (by omega) (by omega))
      · refine g_aload_n (pc := 7) C dX12_isUsed_7 rfl ?_
        refine mg_65 (pc := 8) C (by exact hm) dX12_isUsed_8 ?_
        refine g_iload_n (pc := 11) C dX12_isUsed_11 rfl ?_
        refine n_iald (pc := 12) (k := 1017) (n := 8) C rfl rfl (by exact m_z hm rfl) isn_v rfl (by omega) dX12_isUsed_12 ?_
        refine g_iload_n (pc := 13) C dX12_isUsed_13 rfl ?_
        refine g_icmp_ne (pc := 14) C 19 dX12_isUsed_14 rfl (fun h2 => ?_) (fun h2 => ?_)
        · refine g_iinc (pc := 19) (L' := [_, _, some (.int _), _]) C dX12_isUsed_19 rfl (nI_1 _) rfl ?_
          refine g_goto (pc := 22) C 2 dX12_isUsed_22 rfl ?_
          exact ih (i + 1) (by omega) (fun j hj => if e : j = i then e ▸ h2 else hno j (by omega))
        · have h2 := Decidable.not_not.mp h2
          refine g_iconst (pc := 17) (v := nI 1) C dX12_isUsed_17 (by decide) ?_
          exact g_zreturn (pc := 18) C ⟨rfl, rfl⟩ (by first | exact Or.inl rfl | exact Or.inr rfl) dX12_isUsed_18 (pI_t (fun q => q i (by omega) h2))
  exact loop k 0 (by omega) (fun j hj => absurd hj (by omega))
def rsF (said : Nat → Int32) (r : Nat → Nat) : Nat → Int32
  | 0 => nI 0
  | i + 1 => rsF said r i + said (49 + 7 * r i + r (i + 1))
abbrev rwBad (least n : Int32) : Prop := 0 ≤ least ∧ least ≤ n
def rwS (S : St) (R B : Nat → Int32) (t : Int32) : St := s_setI (s_setA (s_setA S 1017 R) 1018 B) 1133 1000 t
theorem rw_R (S : St) (R R2 B : Nat → Int32) (t : Int32) : s_setA (rwS S R B t) 1017 R2 = rwS S R2 B t := by
  unfold rwS; rw [s_IA, s_AA2 _ 1018 1017 _ _ (by decide), s_AA]
theorem rw_B (S : St) (R B B2 : Nat → Int32) (t : Int32) : s_setA (rwS S R B t) 1018 B2 = rwS S R B2 t := by
  unfold rwS; rw [s_IA, s_AA]
theorem rw_I (S : St) (R B : Nat → Int32) (t t2 : Int32) : s_setI (rwS S R B t) 1133 1000 t2 = rwS S R B t2 := by
  unfold rwS; rw [s_II]
theorem rw_rR (S : St) (R B : Nat → Int32) (t : Int32) : s_A (rwS S R B t) 1017 = R := rfl
theorem rw_rB (S : St) (R B : Nat → Int32) (t : Int32) : s_A (rwS S R B t) 1018 = B := rfl
theorem rw_rI (S : St) (R B : Nat → Int32) (t : Int32) : s_I (rwS S R B t) 1133 1000 = t := rfl
theorem rw_rS (S : St) (R B : Nat → Int32) (t : Int32) : s_A (rwS S R B t) 1010 = s_A S 1010 := rfl
def rwK (said : Nat → Int32) (R : Nat → Int32) (r : Nat → Nat) (many : Nat) (q : Int32 × (Nat → Int32)) : Int32 × (Nat → Int32) := if rwBad q.1 (rsF said r (many - 1)) then q else (rsF said r (many - 1), va_cpy R q.2 0 0 many)
theorem c_X12_keepsRow (w : Wd) (l : Launch) (S : St) (hm : gx_m S) (R B : Nat → Int32) (t : Int32) (r : Nat → Nat) (many : Nat) (h8 : many ≤ 7) (hr : ∀ i, i < many → R i = nI (r i) ∧ r i < 7) : gx_M w l yX12_keepsRow cX12_keepsRow 4 none rmX12_keepsRow [.ref (ad (w_b w) 1000), .int (nI many)] (rwS S R B t) (pV (rwS S R (rwK (s_A S 1010) R r many (t, B)).2 (rwK (s_A S 1010) R r many (t, B)).1)) := by
  have hmA : ∀ R B t, gx_m (rwS S R B t) := fun R B t => hm
  generalize hq : pV (rwS S R (rwK (s_A S 1010) R r many (t, B)).2 (rwK (s_A S 1010) R r many (t, B)).1) = post
  refine gx_start rfl 2 rfl (Nat.le_of_ble_eq_true rfl) ?_
  intro X C _ hl
  subst hl
  refine gx_L (L' := [_, _, _, _]) rfl ?_
  refine g_iconst (pc := 0) (v := nI 0) C dX12_keepsRow_0 (by decide) ?_
  refine g_istore_n (pc := 1) (L' := [_, some (.int _), _, _]) C dX12_keepsRow_1 rfl rfl ?_
  refine g_iconst (pc := 2) (v := nI 1) C dX12_keepsRow_2 (by decide) ?_
  refine g_istore_n (pc := 3) (L' := [_, _, some (.int _), _]) C dX12_keepsRow_3 rfl rfl ?_
  have fin : ∀ z3, gx_G w X (rwS S R B t) 0 0 36 [some (.ref (ad (w_b w) 1000)), some (.int (nI many)), some (.int (rsF (s_A S 1010) r (many - 1))), z3] [] (gx_E w X post) := by
    intro z3
    have bad : rwBad t (rsF (s_A S 1010) r (many - 1)) → gx_G w X (rwS S R B t) 0 0 51 [some (.ref (ad (w_b w) 1000)), some (.int (nI many)), some (.int (rsF (s_A S 1010) r (many - 1))), z3] [] (gx_E w X post) := by
      intro hb
      rw [← hq]
      exact g_return (pc := 51) C ⟨rfl, rfl⟩ dX12_keepsRow_51 ⟨rfl, by unfold rwK; rw [if_pos hb]⟩
    have good : ¬ rwBad t (rsF (s_A S 1010) r (many - 1)) → gx_G w X (rwS S R B t) 0 0 52 [some (.ref (ad (w_b w) 1000)), some (.int (nI many)), some (.int (rsF (s_A S 1010) r (many - 1))), z3] [] (gx_E w X post) := by
      intro hb
      refine g_aload_n (pc := 52) C dX12_keepsRow_52 rfl ?_
      refine g_iload_n (pc := 53) C dX12_keepsRow_53 rfl ?_
      refine mp_403 (pc := 54) C (hmA _ _ _) dX12_keepsRow_54 ?_
      refine gx_S (rw_I S R B t _) ?_
      refine g_iconst (pc := 57) (v := nI 0) C dX12_keepsRow_57 (by decide) ?_
      refine g_istore_n (pc := 58) (L' := [_, _, some (.int _), _]) C dX12_keepsRow_58 rfl rfl ?_
      have loop : ∀ d i, i + d = many → gx_G w X (rwS S R (va_cpy R B 0 0 i) (rsF (s_A S 1010) r (many - 1))) 0 0 59 [some (.ref (ad (w_b w) 1000)), some (.int (nI many)), some (.int (rsF (s_A S 1010) r (many - 1))), some (.int (nI i))] [] (gx_E w X post) := by
        intro d
        induction d with
        | zero =>
          intro i hi
          have hi : i = many := hi
          subst hi
          refine g_iload_n (pc := 59) C dX12_keepsRow_59 rfl ?_
          refine g_iload_n (pc := 60) C dX12_keepsRow_60 rfl ?_
          refine g_icmp_ge (pc := 61) C 82 dX12_keepsRow_61 rfl (fun h => ?_) (fun h => ?_)
          · rw [← hq]
            exact g_return (pc := 82) C ⟨rfl, rfl⟩ dX12_keepsRow_82 ⟨rfl, by unfold rwK; rw [if_neg hb]⟩
          · exact absurd (nI_le (Nat.le_refl i) (by omega)) h
        | succ d ih =>
          intro i hi
          refine g_iload_n (pc := 59) C dX12_keepsRow_59 rfl ?_
          refine g_iload_n (pc := 60) C dX12_keepsRow_60 rfl ?_
          refine g_icmp_ge (pc := 61) C 82 dX12_keepsRow_61 rfl (fun h => ?_) (fun h => ?_)
          · exact absurd h (nI_ge (by omega) (by omega))
          · refine g_aload_n (pc := 64) C dX12_keepsRow_64 rfl ?_
            refine mg_68 (pc := 65) C (hmA _ _ _) dX12_keepsRow_65 ?_
            refine g_iload_n (pc := 68) C dX12_keepsRow_68 rfl ?_
            refine g_aload_n (pc := 69) C dX12_keepsRow_69 rfl ?_
            refine mg_65 (pc := 70) C (hmA _ _ _) dX12_keepsRow_70 ?_
            refine g_iload_n (pc := 73) C dX12_keepsRow_73 rfl ?_
            refine n_iald (pc := 74) (k := 1017) (n := 8) C rfl rfl (m_z (hmA _ _ _) rfl) isn_v rfl (by omega) dX12_keepsRow_74 ?_
            refine n_iast (pc := 75) (k := 1018) (n := 8) C rfl rfl (m_z (hmA _ _ _) rfl) isn_v rfl (by omega) dX12_keepsRow_75 ?_
            refine gx_S (S' := rwS S R (va_cpy R B 0 0 (i + 1)) (rsF (s_A S 1010) r (many - 1))) ?_ ?_
            · rw [rw_rB, rw_rR, rw_B]
              have := cpy_step (f := R) (g := B) (sp := 0) (dp := 0) (n := i)
              rw [Nat.zero_add] at this
              rw [this]
            refine g_iinc (pc := 76) (L' := [_, _, some (.int _), _]) C dX12_keepsRow_76 rfl (nI_1 _) rfl ?_
            refine g_goto (pc := 79) C 59 dX12_keepsRow_79 rfl ?_
            exact ih (i + 1) (by omega)
      refine gx_S ?_ (loop many 0 (by omega))
      rw [cpy_0]
    refine g_aload_n (pc := 36) C dX12_keepsRow_36 rfl ?_
    refine mg_403 (pc := 37) C (hmA _ _ _) dX12_keepsRow_37 ?_
    refine gx_ti (rw_rI S R B t) ?_
    refine g_if_lt (pc := 40) C 52 dX12_keepsRow_40 rfl (fun h => ?_) (fun h => ?_)
    · exact good (fun q => absurd h (Int32.not_lt.mpr q.1))
    · refine g_iload_n (pc := 43) C dX12_keepsRow_43 rfl ?_
      refine g_aload_n (pc := 44) C dX12_keepsRow_44 rfl ?_
      refine mg_403 (pc := 45) C (hmA _ _ _) dX12_keepsRow_45 ?_
      refine gx_ti (rw_rI S R B t) ?_
      refine g_icmp_lt (pc := 48) C 52 dX12_keepsRow_48 rfl (fun h2 => ?_) (fun h2 => ?_)
      · exact good (fun q => absurd h2 (Int32.not_lt.mpr q.2))
      · exact bad ⟨Int32.not_lt.mp h, Int32.not_lt.mp h2⟩
  have loop : ∀ d i, i + 1 + d = many → gx_G w X (rwS S R B t) 0 0 4 [some (.ref (ad (w_b w) 1000)), some (.int (nI many)), some (.int (rsF (s_A S 1010) r i)), some (.int (nI (i + 1)))] [] (gx_E w X post) := by
    intro d
    induction d with
    | zero =>
      intro i hi
      have hi : many - 1 = i := by omega
      refine g_iload_n (pc := 4) C dX12_keepsRow_4 rfl ?_
      refine g_iload_n (pc := 5) C dX12_keepsRow_5 rfl ?_
      refine g_icmp_ge (pc := 6) C 36 dX12_keepsRow_6 rfl (fun h => ?_) (fun h => ?_)
      · rw [← hi]
        exact fin _
      · exact absurd (nI_le (by omega) (by omega)) h
    | succ d ih =>
      intro i hi
      refine g_iload_n (pc := 4) C dX12_keepsRow_4 rfl ?_
      refine g_iload_n (pc := 5) C dX12_keepsRow_5 rfl ?_
      refine g_icmp_ge (pc := 6) C 36 dX12_keepsRow_6 rfl (fun h => ?_) (fun h => ?_)
      · exact absurd h (nI_ge (by omega) (by omega))
      · obtain ⟨a1, a2⟩ := hr i (by omega)
        obtain ⟨b1, b2⟩ := hr (i + 1) (by omega)
        refine g_iload_n (pc := 9) C dX12_keepsRow_9 rfl ?_
        refine g_aload_n (pc := 10) C dX12_keepsRow_10 rfl ?_
        refine g_aload_n (pc := 11) C dX12_keepsRow_11 rfl ?_
        refine mg_65 (pc := 12) C (hmA _ _ _) dX12_keepsRow_12 ?_
        refine g_iload_n (pc := 15) C dX12_keepsRow_15 rfl ?_
        refine g_iconst (pc := 16) (v := nI 1) C dX12_keepsRow_16 (by decide) ?_
        refine g_isub (pc := 17) C dX12_keepsRow_17 ?_
        refine n_iald (pc := 18) (k := 1017) (n := 8) C rfl rfl (m_z (hmA _ _ _) rfl) (isn_sub isn_v isn_v (by omega)) rfl (by omega) dX12_keepsRow_18 ?_
        refine gx_ti (y := nI (r i)) a1 ?_
        refine g_aload_n (pc := 19) C dX12_keepsRow_19 rfl ?_
        refine mg_65 (pc := 20) C (hmA _ _ _) dX12_keepsRow_20 ?_
        refine g_iload_n (pc := 23) C dX12_keepsRow_23 rfl ?_
        refine n_iald (pc := 24) (k := 1017) (n := 8) C rfl rfl (m_z (hmA _ _ _) rfl) isn_v rfl (by omega) dX12_keepsRow_24 ?_
        refine gx_ti (y := nI (r (i + 1))) b1 ?_
        refine cf_X12_314 (pc := 25) C rfl (m_z (hmA _ _ _) rfl) (c_X12_besideOf _ _ _ (hmA _ _ _) (r i) (r (i + 1)) a2 b2) ⟨rfl, rfl⟩ ⟨rfl, rfl⟩ ⟨Nat.zero_le _, Nat.zero_le _⟩ rfl (Nat.le_of_ble_eq_true rfl) dX12_keepsRow_25 ?_
        refine g_iadd (pc := 28) C dX12_keepsRow_28 ?_
        refine gx_ti (y := rsF (s_A S 1010) r (i + 1)) rfl ?_
        refine g_istore_n (pc := 29) (L' := [_, some (.int _), _, _]) C dX12_keepsRow_29 rfl rfl ?_
        refine g_iinc (pc := 30) (L' := [_, _, some (.int _), _]) C dX12_keepsRow_30 rfl (nI_1 _) rfl ?_
        refine g_goto (pc := 33) C 4 dX12_keepsRow_33 rfl ?_
        exact ih (i + 1) (by omega)
  by_cases h0 : many = 0
  · subst h0
    refine g_iload_n (pc := 4) C dX12_keepsRow_4 rfl ?_
    refine g_iload_n (pc := 5) C dX12_keepsRow_5 rfl ?_
    refine g_icmp_ge (pc := 6) C 36 dX12_keepsRow_6 rfl (fun h => ?_) (fun h => ?_)
    · exact fin _
    · exact absurd (nI_le (by omega) (by omega)) h
  · exact loop (many - 1) 0 (by omega)
