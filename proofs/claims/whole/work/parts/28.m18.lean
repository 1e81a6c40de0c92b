/-! ===== the reference: most, never, stay ===== -/
theorem or_nI : ∀ a, a < 128 → ∀ b, b < 128 → nI a ||| nI b = nI (a ||| b) ∧ a ||| b < 128 := by decide +kernel
def betterF (o : Option Nat) (k : Nat) : Bool := match o with
  | none => true
  | some b => decide (popN b < popN k)
def mstF (ok : Nat → Bool) : Nat → Option Nat
  | 0 => none
  | k + 1 => if betterF (mstF ok k) k = true ∧ ok k = true then some k else mstF ok k
theorem mstF_lt {ok : Nat → Bool} : ∀ {n b : Nat}, mstF ok n = some b → b < n
  | 0, _, h => by cases h
  | n + 1, b, h => by
    simp only [mstF] at h
    split at h
    · cases h; omega
    · have := mstF_lt h; omega
def ccF (drawn : Int32) (said : Nat → Int32) (P H s : Nat) : Bool := decide (canCF said P (fogF drawn said H) s)
abbrev mostOK (said : Nat → Int32) (what : Int32) : Prop := said 0 = nI 1 ∧ (nI 0 ≤ what ∧ what ≤ nI 1)
def mostA (o : Option Nat) (what : Int32) : Int32 := match o with
  | none => -2
  | some b => if what = nI 0 then nI (popN b) else nI b
theorem c_X12_most (w : Wd) (l : Launch) (S : St) (hm : gx_m S) (P H : Nat) (hp : gx_p S P H) (what : Int32) : gx_M w l yX12_most cX12_most 4 (some .int) rmX12_most [.ref (ad (w_b w) 1000), .int what] S (pI (if mostOK (s_A S 1010) what then mostA (mstF (ccF (s_I S 1123 1000) (s_A S 1010) P H) (2 ^ P)) what else -1) S) := by
  obtain ⟨hP, hP7, hH, hH2⟩ := id hp
  have h2P : 2 ^ P ≤ 2 ^ 7 := Nat.pow_le_pow_right (by decide) hP7
  refine gx_start rfl 2 rfl (Nat.le_of_ble_eq_true rfl) ?_
  intro X C _ hl
  subst hl
  refine gx_L (L' := [_, _, _, _]) rfl ?_
  have bad : ∀ z2 z3, ¬ mostOK (s_A S 1010) what → gx_G w X S 0 0 17 [some (.ref (ad (w_b w) 1000)), some (.int what), z2, z3] [] (gx_E w X (pI (if mostOK (s_A S 1010) what then mostA (mstF (ccF (s_I S 1123 1000) (s_A S 1010) P H) (2 ^ P)) what else -1) S)) := by
    intro z2 z3 hb
    refine g_iconst (pc := 17) (v := -1) C dX12_most_17 (by decide) ?_
    exact g_ireturn (pc := 18) C ⟨rfl, rfl⟩ dX12_most_18 (⟨by rw [if_neg hb], rfl⟩)
  refine g_aload_n (pc := 0) C dX12_most_0 rfl ?_
  refine cf_X12_297 (pc := 1) C rfl (by exact m_z hm rfl) (c_X12_isCrossing _ _ _ hm) ⟨rfl, rfl⟩ ⟨rfl, rfl⟩ ⟨Nat.zero_le _, Nat.zero_le _⟩ rfl (Nat.le_of_ble_eq_true rfl) dX12_most_1 ?_
  refine g_if_eq (pc := 4) C 17 dX12_most_4 rfl (fun h => ?_) (fun h => ?_)
  · exact bad _ _ (fun q => bI_0.mp h q.1)
  · have h := Decidable.not_not.mp (fun q => h (bI_0.mpr q))
    refine g_iload_n (pc := 7) C dX12_most_7 rfl ?_
    refine g_i2l (pc := 8) C dX12_most_8 ?_
    refine g_lconst (pc := 9) (v := 0) C dX12_most_9 (by decide) ?_
    refine g_lconst (pc := 10) (v := 1) C dX12_most_10 (by decide) ?_
    refine cf_X12_130 (pc := 11) C (c_X12_in32 _ _ _ _ (nI 0) (nI 1) _ _ rfl rfl) ⟨rfl, rfl⟩ ⟨rfl, rfl⟩ ⟨Nat.zero_le _, Nat.zero_le _⟩ rfl (Nat.le_of_ble_eq_true rfl) dX12_most_11 ?_
    refine g_if_ne (pc := 14) C 19 dX12_most_14 rfl (fun h2 => ?_) (fun h2 => ?_)
    · have h2 := Decidable.not_not.mp (fun q => h2 (bI_0.mpr q))
      have hok : mostOK (s_A S 1010) what := ⟨h, h2⟩
      rw [if_pos hok]
      refine g_iconst (pc := 19) (v := -1) C dX12_most_19 (by decide) ?_
      refine g_istore_n (pc := 20) (L' := [_, some (.int _), _, _]) C dX12_most_20 rfl rfl ?_
      refine g_iconst (pc := 21) (v := nI 0) C dX12_most_21 (by decide) ?_
      refine g_istore_n (pc := 22) (L' := [_, _, some (.int _), _]) C dX12_most_22 rfl rfl ?_
      have loop : ∀ k i, i + k = 2 ^ P → gx_G w X S 0 0 23 [some (.ref (ad (w_b w) 1000)), some (.int what), some (.int (oI (mstF (ccF (s_I S 1123 1000) (s_A S 1010) P H) i))), some (.int (nI i))] [] (gx_E w X (pI (mostA (mstF (ccF (s_I S 1123 1000) (s_A S 1010) P H) (2 ^ P)) what) S)) := by
        intro k
        induction k with
        | zero =>
          intro i hi
          have hi : i = 2 ^ P := hi
          refine g_iload_n (pc := 23) C dX12_most_23 rfl ?_
          refine g_iconst (pc := 24) (v := nI 1) C dX12_most_24 (by decide) ?_
          refine g_aload_n (pc := 25) C dX12_most_25 rfl ?_
          refine mg_39 (pc := 26) C (by exact hm) dX12_most_26 ?_
          refine g_iconst (pc := 29) (v := nI 4) C dX12_most_29 (by decide) ?_
          refine n_iald (pc := 30) (k := 1010) (n := 190) C rfl rfl (by exact m_z hm rfl) isn_v rfl (by omega) dX12_most_30 ?_
          refine gx_ti hP ?_
          refine g_ishl (pc := 31) C dX12_most_31 ?_
          refine gx_ti (shl_bit P (by omega)) ?_
          rw [← hi]
          refine g_icmp_ge (pc := 32) C 66 dX12_most_32 rfl (fun h3 => ?_) (fun h3 => ?_)
          · refine g_iload_n (pc := 66) C dX12_most_66 rfl ?_
            cases e : mstF (ccF (s_I S 1123 1000) (s_A S 1010) P H) i with
            | none =>
              refine g_if_ge (pc := 67) C 75 dX12_most_67 rfl (fun h4 => ?_) (fun h4 => ?_)
              · exact absurd h4 (by decide)
              · refine g_bipush (pc := 70) (v := -2) C dX12_most_70 (by decide) ?_
                refine g_goto (pc := 72) C 87 dX12_most_72 rfl ?_
                exact g_ireturn (pc := 87) C ⟨rfl, rfl⟩ dX12_most_87 (⟨rfl, rfl⟩)
            | some b =>
              have hb := mstF_lt e
              refine g_if_ge (pc := 67) C 75 dX12_most_67 rfl (fun h4 => ?_) (fun h4 => ?_)
              · refine g_iload_n (pc := 75) C dX12_most_75 rfl ?_
                refine g_if_ne (pc := 76) C 86 dX12_most_76 rfl (fun h5 => ?_) (fun h5 => ?_)
                · refine g_iload_n (pc := 86) C dX12_most_86 rfl ?_
                  exact g_ireturn (pc := 87) C ⟨rfl, rfl⟩ dX12_most_87 (⟨by simp only [mostA]; rw [if_neg (fun q => h5 (by rw [q]; rfl))]; rfl, rfl⟩)
                · have h5 : what = nI 0 := Decidable.not_not.mp h5
                  refine g_iload_n (pc := 79) C dX12_most_79 rfl ?_
                  refine gx_ti (y := nI b) rfl ?_
                  refine cf_X12_337 (pc := 80) C (c_X12_bits _ _ _ b (by omega)) ⟨rfl, rfl⟩ ⟨rfl, rfl⟩ ⟨Nat.zero_le _, Nat.zero_le _⟩ rfl (Nat.le_of_ble_eq_true rfl) dX12_most_80 ?_
                  refine g_goto (pc := 83) C 87 dX12_most_83 rfl ?_
                  exact g_ireturn (pc := 87) C ⟨rfl, rfl⟩ dX12_most_87 (⟨by simp only [mostA]; rw [if_pos h5], rfl⟩)
              · exact absurd (nI_pos' (by omega)) h4
          · exact absurd (nI_le (Nat.le_refl i) (by omega)) h3
        | succ k ih =>
          intro i hi
          have skip : ¬ (betterF (mstF (ccF (s_I S 1123 1000) (s_A S 1010) P H) i) i = true ∧ ccF (s_I S 1123 1000) (s_A S 1010) P H i = true) → gx_G w X S 0 0 60 [some (.ref (ad (w_b w) 1000)), some (.int what), some (.int (oI (mstF (ccF (s_I S 1123 1000) (s_A S 1010) P H) i))), some (.int (nI i))] [] (gx_E w X (pI (mostA (mstF (ccF (s_I S 1123 1000) (s_A S 1010) P H) (2 ^ P)) what) S)) := by
            intro hno
            refine g_iinc (pc := 60) (L' := [_, _, some (.int _), _]) C dX12_most_60 rfl (nI_1 _) rfl ?_
            refine g_goto (pc := 63) C 23 dX12_most_63 rfl ?_
            have := ih (i + 1) (by omega)
            rw [show mstF (ccF (s_I S 1123 1000) (s_A S 1010) P H) (i + 1) = mstF (ccF (s_I S 1123 1000) (s_A S 1010) P H) i from if_neg hno] at this
            exact this
          have tryit : betterF (mstF (ccF (s_I S 1123 1000) (s_A S 1010) P H) i) i = true → gx_G w X S 0 0 50 [some (.ref (ad (w_b w) 1000)), some (.int what), some (.int (oI (mstF (ccF (s_I S 1123 1000) (s_A S 1010) P H) i))), some (.int (nI i))] [] (gx_E w X (pI (mostA (mstF (ccF (s_I S 1123 1000) (s_A S 1010) P H) (2 ^ P)) what) S)) := by
            intro hb
            refine g_aload_n (pc := 50) C dX12_most_50 rfl ?_
            refine g_iload_n (pc := 51) C dX12_most_51 rfl ?_
            refine cf_X12_391 (pc := 52) C rfl (by exact m_z hm rfl) (c_X12_canCross _ _ _ hm P H hp i (by omega)) ⟨rfl, rfl⟩ ⟨rfl, rfl⟩ ⟨Nat.zero_le _, Nat.zero_le _⟩ rfl (Nat.le_of_ble_eq_true rfl) dX12_most_52 ?_
            refine g_if_eq (pc := 55) C 60 dX12_most_55 rfl (fun h4 => ?_) (fun h4 => ?_)
            · exact skip (fun q => bI_0.mp h4 (of_decide_eq_true q.2))
            · have h4 := Decidable.not_not.mp (fun q => h4 (bI_0.mpr q))
              refine g_iload_n (pc := 58) C dX12_most_58 rfl ?_
              refine g_istore_n (pc := 59) (L' := [_, some (.int _), _, _]) C dX12_most_59 rfl rfl ?_
              refine g_iinc (pc := 60) (L' := [_, _, some (.int _), _]) C dX12_most_60 rfl (nI_1 _) rfl ?_
              refine g_goto (pc := 63) C 23 dX12_most_63 rfl ?_
              have := ih (i + 1) (by omega)
              rw [show mstF (ccF (s_I S 1123 1000) (s_A S 1010) P H) (i + 1) = some i from if_pos ⟨hb, decide_eq_true h4⟩] at this
              exact this
          refine g_iload_n (pc := 23) C dX12_most_23 rfl ?_
          refine g_iconst (pc := 24) (v := nI 1) C dX12_most_24 (by decide) ?_
          refine g_aload_n (pc := 25) C dX12_most_25 rfl ?_
          refine mg_39 (pc := 26) C (by exact hm) dX12_most_26 ?_
          refine g_iconst (pc := 29) (v := nI 4) C dX12_most_29 (by decide) ?_
          refine n_iald (pc := 30) (k := 1010) (n := 190) C rfl rfl (by exact m_z hm rfl) isn_v rfl (by omega) dX12_most_30 ?_
          refine gx_ti hP ?_
          refine g_ishl (pc := 31) C dX12_most_31 ?_
          refine gx_ti (shl_bit P (by omega)) ?_
          refine g_icmp_ge (pc := 32) C 66 dX12_most_32 rfl (fun h3 => ?_) (fun h3 => ?_)
          · exact absurd h3 (nI_ge (by omega) (by omega))
          · refine g_iload_n (pc := 35) C dX12_most_35 rfl ?_
            cases e : mstF (ccF (s_I S 1123 1000) (s_A S 1010) P H) i with
            | none =>
              rw [e] at tryit skip
              refine g_if_lt (pc := 36) C 50 dX12_most_36 rfl (fun h4 => ?_) (fun h4 => ?_)
              · exact tryit rfl
              · exact absurd (by decide) h4
            | some b =>
              have hb := mstF_lt e
              rw [e] at tryit skip
              refine g_if_lt (pc := 36) C 50 dX12_most_36 rfl (fun h4 => ?_) (fun h4 => ?_)
              · exact absurd h4 (nI_pos (by omega))
              · refine g_iload_n (pc := 39) C dX12_most_39 rfl ?_
                refine cf_X12_337 (pc := 40) C (c_X12_bits _ _ _ i (by omega)) ⟨rfl, rfl⟩ ⟨rfl, rfl⟩ ⟨Nat.zero_le _, Nat.zero_le _⟩ rfl (Nat.le_of_ble_eq_true rfl) dX12_most_40 ?_
                refine g_iload_n (pc := 43) C dX12_most_43 rfl ?_
                refine gx_ti (y := nI b) rfl ?_
                refine cf_X12_337 (pc := 44) C (c_X12_bits _ _ _ b (by omega)) ⟨rfl, rfl⟩ ⟨rfl, rfl⟩ ⟨Nat.zero_le _, Nat.zero_le _⟩ rfl (Nat.le_of_ble_eq_true rfl) dX12_most_44 ?_
                have p1 := popN_le i (by omega)
                have p2 := popN_le b (by omega)
                refine g_icmp_le (pc := 47) C 60 dX12_most_47 rfl (fun h5 => ?_) (fun h5 => ?_)
                · exact skip (fun q => absurd ((nI_leI (by omega) (by omega)).mp h5) (Nat.not_le.mpr (of_decide_eq_true q.1)))
                · exact tryit (decide_eq_true (Nat.lt_of_not_le (fun q => h5 (nI_le q (by omega)))))
      exact loop (2 ^ P) 0 (by omega)
    · exact bad _ _ (fun q => bI_0.mp (Decidable.not_not.mp h2) q.2)
def nvF (ok : Nat → Bool) : Nat → Nat
  | 0 => 0
  | k + 1 => if ¬ (k ||| nvF ok k = nvF ok k) ∧ ok k = true then nvF ok k ||| k else nvF ok k
theorem nvF_lt {ok : Nat → Bool} : ∀ n, n ≤ 128 → nvF ok n < 128
  | 0, _ => by simp [nvF]
  | n + 1, h => by
    have := nvF_lt (ok := ok) n (by omega)
    simp only [nvF]
    split
    · exact (or_nI _ this n (by omega)).2
    · exact this
theorem c_X12_never (w : Wd) (l : Launch) (S : St) (hm : gx_m S) (P H : Nat) (hp : gx_p S P H) : gx_M w l yX12_never cX12_never 3 (some .int) rmX12_never [.ref (ad (w_b w) 1000)] S (pI (if s_A S 1010 0 = nI 1 then nI (onN (s_A S 1010) (s_A S 1010 11) P - (onN (s_A S 1010) (s_A S 1010 11) P &&& nvF (ccF (s_I S 1123 1000) (s_A S 1010) P H) (2 ^ P))) else -1) S) := by
  obtain ⟨hP, hP7, hH, hH2⟩ := id hp
  have h2P : 2 ^ P ≤ 2 ^ 7 := Nat.pow_le_pow_right (by decide) hP7
  have ho : onN (s_A S 1010) (s_A S 1010 11) P < 128 := onN_128 hP7
  refine gx_start rfl 2 rfl (Nat.le_of_ble_eq_true rfl) ?_
  intro X C _ hl
  subst hl
  refine gx_L (L' := [_, _, _]) rfl ?_
  refine g_aload_n (pc := 0) C dX12_never_0 rfl ?_
  refine cf_X12_297 (pc := 1) C rfl (by exact m_z hm rfl) (c_X12_isCrossing _ _ _ hm) ⟨rfl, rfl⟩ ⟨rfl, rfl⟩ ⟨Nat.zero_le _, Nat.zero_le _⟩ rfl (Nat.le_of_ble_eq_true rfl) dX12_never_1 ?_
  refine g_if_ne (pc := 4) C 9 dX12_never_4 rfl (fun h => ?_) (fun h => ?_)
  · have h := Decidable.not_not.mp (fun q => h (bI_0.mpr q))
    rw [if_pos h]
    refine g_iconst (pc := 9) (v := nI 0) C dX12_never_9 (by decide) ?_
    refine g_istore_n (pc := 10) (L' := [some (.ref _), _, _]) C dX12_never_10 rfl rfl ?_
    refine g_iconst (pc := 11) (v := nI 0) C dX12_never_11 (by decide) ?_
    refine g_istore_n (pc := 12) (L' := [_, some (.int _), _]) C dX12_never_12 rfl rfl ?_
    have loop : ∀ k i, i + k = 2 ^ P → gx_G w X S 0 0 13 [some (.ref (ad (w_b w) 1000)), some (.int (nI (nvF (ccF (s_I S 1123 1000) (s_A S 1010) P H) i))), some (.int (nI i))] [] (gx_E w X (pI (nI (onN (s_A S 1010) (s_A S 1010 11) P - (onN (s_A S 1010) (s_A S 1010 11) P &&& nvF (ccF (s_I S 1123 1000) (s_A S 1010) P H) (2 ^ P)))) S)) := by
      intro k
      induction k with
      | zero =>
        intro i hi
        have hi : i = 2 ^ P := hi
        have hv := nvF_lt (ok := ccF (s_I S 1123 1000) (s_A S 1010) P H) i (by omega)
        refine g_iload_n (pc := 13) C dX12_never_13 rfl ?_
        refine g_iconst (pc := 14) (v := nI 1) C dX12_never_14 (by decide) ?_
        refine g_aload_n (pc := 15) C dX12_never_15 rfl ?_
        refine mg_39 (pc := 16) C (by exact hm) dX12_never_16 ?_
        refine g_iconst (pc := 19) (v := nI 4) C dX12_never_19 (by decide) ?_
        refine n_iald (pc := 20) (k := 1010) (n := 190) C rfl rfl (by exact m_z hm rfl) isn_v rfl (by omega) dX12_never_20 ?_
        refine gx_ti hP ?_
        refine g_ishl (pc := 21) C dX12_never_21 ?_
        refine gx_ti (shl_bit P (by omega)) ?_
        rw [← hi]
        refine g_icmp_ge (pc := 22) C 51 dX12_never_22 rfl (fun h3 => ?_) (fun h3 => ?_)
        · refine g_aload_n (pc := 51) C dX12_never_51 rfl ?_
          refine g_aload_n (pc := 52) C dX12_never_52 rfl ?_
          refine mg_39 (pc := 53) C (by exact hm) dX12_never_53 ?_
          refine g_bipush (pc := 56) (v := nI 11) C dX12_never_56 (by decide) ?_
          refine n_iald (pc := 58) (k := 1010) (n := 190) C rfl rfl (by exact m_z hm rfl) isn_v rfl (by omega) dX12_never_58 ?_
          refine cf_X12_334 (pc := 59) C rfl (by exact m_z hm rfl) (c_X12_onSide _ _ _ hm P hP hP7 _) ⟨rfl, rfl⟩ ⟨rfl, rfl⟩ ⟨Nat.zero_le _, Nat.zero_le _⟩ rfl (Nat.le_of_ble_eq_true rfl) dX12_never_59 ?_
          refine g_iload_n (pc := 62) C dX12_never_62 rfl ?_
          refine g_iconst (pc := 63) (v := -1) C dX12_never_63 (by decide) ?_
          refine g_ixor (pc := 64) C dX12_never_64 ?_
          refine g_iand (pc := 65) C dX12_never_65 ?_
          refine gx_ti (andn_nI _ ho _ hv) ?_
          exact g_ireturn (pc := 66) C ⟨rfl, rfl⟩ dX12_never_66 ⟨rfl, rfl⟩
        · exact absurd (nI_le (Nat.le_refl i) (by omega)) h3
      | succ k ih =>
        intro i hi
        have hv := nvF_lt (ok := ccF (s_I S 1123 1000) (s_A S 1010) P H) i (by omega)
        have skip : ¬ (¬ (i ||| nvF (ccF (s_I S 1123 1000) (s_A S 1010) P H) i = nvF (ccF (s_I S 1123 1000) (s_A S 1010) P H) i) ∧ ccF (s_I S 1123 1000) (s_A S 1010) P H i = true) → gx_G w X S 0 0 45 [some (.ref (ad (w_b w) 1000)), some (.int (nI (nvF (ccF (s_I S 1123 1000) (s_A S 1010) P H) i))), some (.int (nI i))] [] (gx_E w X (pI (nI (onN (s_A S 1010) (s_A S 1010 11) P - (onN (s_A S 1010) (s_A S 1010 11) P &&& nvF (ccF (s_I S 1123 1000) (s_A S 1010) P H) (2 ^ P)))) S)) := by
          intro hno
          refine g_iinc (pc := 45) (L' := [_, some (.int _), _]) C dX12_never_45 rfl (nI_1 _) rfl ?_
          refine g_goto (pc := 48) C 13 dX12_never_48 rfl ?_
          have := ih (i + 1) (by omega)
          rw [show nvF (ccF (s_I S 1123 1000) (s_A S 1010) P H) (i + 1) = nvF (ccF (s_I S 1123 1000) (s_A S 1010) P H) i from if_neg hno] at this
          exact this
        refine g_iload_n (pc := 13) C dX12_never_13 rfl ?_
        refine g_iconst (pc := 14) (v := nI 1) C dX12_never_14 (by decide) ?_
        refine g_aload_n (pc := 15) C dX12_never_15 rfl ?_
        refine mg_39 (pc := 16) C (by exact hm) dX12_never_16 ?_
        refine g_iconst (pc := 19) (v := nI 4) C dX12_never_19 (by decide) ?_
        refine n_iald (pc := 20) (k := 1010) (n := 190) C rfl rfl (by exact m_z hm rfl) isn_v rfl (by omega) dX12_never_20 ?_
        refine gx_ti hP ?_
        refine g_ishl (pc := 21) C dX12_never_21 ?_
        refine gx_ti (shl_bit P (by omega)) ?_
        refine g_icmp_ge (pc := 22) C 51 dX12_never_22 rfl (fun h3 => ?_) (fun h3 => ?_)
        · exact absurd h3 (nI_ge (by omega) (by omega))
        · refine g_iload_n (pc := 25) C dX12_never_25 rfl ?_
          refine g_iload_n (pc := 26) C dX12_never_26 rfl ?_
          refine g_iconst (pc := 27) (v := -1) C dX12_never_27 (by decide) ?_
          refine g_ixor (pc := 28) C dX12_never_28 ?_
          refine g_iand (pc := 29) C dX12_never_29 ?_
          refine g_if_eq (pc := 30) C 45 dX12_never_30 rfl (fun h4 => ?_) (fun h4 => ?_)
          · exact skip (fun q => q.1 ((sub_iff i (by omega) _ hv).mp h4))
          · have h4 : ¬ (i ||| nvF (ccF (s_I S 1123 1000) (s_A S 1010) P H) i = nvF (ccF (s_I S 1123 1000) (s_A S 1010) P H) i) := fun q => h4 ((sub_iff i (by omega) _ hv).mpr q)
            refine g_aload_n (pc := 33) C dX12_never_33 rfl ?_
            refine g_iload_n (pc := 34) C dX12_never_34 rfl ?_
            refine cf_X12_391 (pc := 35) C rfl (by exact m_z hm rfl) (c_X12_canCross _ _ _ hm P H hp i (by omega)) ⟨rfl, rfl⟩ ⟨rfl, rfl⟩ ⟨Nat.zero_le _, Nat.zero_le _⟩ rfl (Nat.le_of_ble_eq_true rfl) dX12_never_35 ?_
            refine g_if_eq (pc := 38) C 45 dX12_never_38 rfl (fun h5 => ?_) (fun h5 => ?_)
            · exact skip (fun q => bI_0.mp h5 (of_decide_eq_true q.2))
            · have h5 := Decidable.not_not.mp (fun q => h5 (bI_0.mpr q))
              refine g_iload_n (pc := 41) C dX12_never_41 rfl ?_
              refine g_iload_n (pc := 42) C dX12_never_42 rfl ?_
              refine g_ior (pc := 43) C dX12_never_43 ?_
              refine gx_ti (or_nI _ hv i (by omega)).1 ?_
              refine g_istore_n (pc := 44) (L' := [some (.ref _), _, _]) C dX12_never_44 rfl rfl ?_
              refine g_iinc (pc := 45) (L' := [_, some (.int _), _]) C dX12_never_45 rfl (nI_1 _) rfl ?_
              refine g_goto (pc := 48) C 13 dX12_never_48 rfl ?_
              have := ih (i + 1) (by omega)
              rw [show nvF (ccF (s_I S 1123 1000) (s_A S 1010) P H) (i + 1) = nvF (ccF (s_I S 1123 1000) (s_A S 1010) P H) i ||| i from if_pos ⟨h4, decide_eq_true h5⟩] at this
              exact this
    exact loop (2 ^ P) 0 (by omega)
  · have h := bI_0.mp (Decidable.not_not.mp h)
    refine g_iconst (pc := 7) (v := -1) C dX12_never_7 (by decide) ?_
    exact g_ireturn (pc := 8) C ⟨rfl, rfl⟩ dX12_never_8 (⟨by rw [if_neg h], rfl⟩)
def styF (o : Nat) (wt : Nat → Int32) : Nat → Option (Nat × Int32)
  | 0 => none
  | p + 1 => if o.testBit p = true then (match styF o wt p with
      | none => some (p, wt p)
      | some (b, m) => if wt p < m then some (p, wt p) else some (b, m)) else styF o wt p
def stB : Option (Nat × Int32) → Int32
  | none => -2
  | some (b, _) => nI b
def stM : Option (Nat × Int32) → Int32
  | none => -2
  | some (_, m) => m
theorem styF_lt {o : Nat} {wt : Nat → Int32} : ∀ {n b : Nat} {m : Int32}, styF o wt n = some (b, m) → b < n
  | 0, _, _, h => by cases h
  | n + 1, b, m, h => by
    simp only [styF] at h
    split at h
    · cases e : styF o wt n with
      | none => rw [e] at h; cases h; omega
      | some q =>
        obtain ⟨b', m'⟩ := q
        rw [e] at h
        simp only at h
        split at h
        · cases h; omega
        · cases h; have := styF_lt e; omega
    · have := styF_lt h; omega
theorem c_X12_stay (w : Wd) (l : Launch) (S : St) (hm : gx_m S) (P H : Nat) (hp : gx_p S P H) (what : Int32) : gx_M w l yX12_stay cX12_stay 7 (some .int) rmX12_stay [.ref (ad (w_b w) 1000), .int what] S (pI (if mostOK (s_A S 1010) what then (if what = nI 0 then stB (styF (onN (s_A S 1010) (s_A S 1010 11) P) (fun p => weightF (s_A S 1010) P (fogF (s_I S 1123 1000) (s_A S 1010) H) (onN (s_A S 1010) (s_A S 1010 11) P - (onN (s_A S 1010) (s_A S 1010 11) P &&& 2 ^ p)) False) P) else stM (styF (onN (s_A S 1010) (s_A S 1010 11) P) (fun p => weightF (s_A S 1010) P (fogF (s_I S 1123 1000) (s_A S 1010) H) (onN (s_A S 1010) (s_A S 1010 11) P - (onN (s_A S 1010) (s_A S 1010 11) P &&& 2 ^ p)) False) P)) else -1) S) := by
  obtain ⟨hP, hP7, hH, hH2⟩ := id hp
  have ho : onN (s_A S 1010) (s_A S 1010 11) P < 128 := onN_128 hP7
  generalize ho2 : onN (s_A S 1010) (s_A S 1010 11) P = o at ho ⊢
  generalize hwt : (fun p => weightF (s_A S 1010) P (fogF (s_I S 1123 1000) (s_A S 1010) H) (o - (o &&& 2 ^ p)) False) = wt
  refine gx_start rfl 5 rfl (Nat.le_of_ble_eq_true rfl) ?_
  intro X C _ hl
  subst hl
  refine gx_L (L' := [_, _, _, _, _, _, _]) rfl ?_
  have bad : ∀ z2 z3 z4 z5 z6, ¬ mostOK (s_A S 1010) what → gx_G w X S 0 0 17 [some (.ref (ad (w_b w) 1000)), some (.int what), z2, z3, z4, z5, z6] [] (gx_E w X (pI (if mostOK (s_A S 1010) what then (if what = nI 0 then stB (styF o wt P) else stM (styF o wt P)) else -1) S)) := by
    intro z2 z3 z4 z5 z6 hb
    refine g_iconst (pc := 17) (v := -1) C dX12_stay_17 (by decide) ?_
    exact g_ireturn (pc := 18) C ⟨rfl, rfl⟩ dX12_stay_18 (⟨by rw [if_neg hb], rfl⟩)
  refine g_aload_n (pc := 0) C dX12_stay_0 rfl ?_
  refine cf_X12_297 (pc := 1) C rfl (by exact m_z hm rfl) (c_X12_isCrossing _ _ _ hm) ⟨rfl, rfl⟩ ⟨rfl, rfl⟩ ⟨Nat.zero_le _, Nat.zero_le _⟩ rfl (Nat.le_of_ble_eq_true rfl) dX12_stay_1 ?_
  refine g_if_eq (pc := 4) C 17 dX12_stay_4 rfl (fun h => ?_) (fun h => ?_)
  · exact bad _ _ _ _ _ (fun q => bI_0.mp h q.1)
  · have h := Decidable.not_not.mp (fun q => h (bI_0.mpr q))
    refine g_iload_n (pc := 7) C dX12_stay_7 rfl ?_
    refine g_i2l (pc := 8) C dX12_stay_8 ?_
    refine g_lconst (pc := 9) (v := 0) C dX12_stay_9 (by decide) ?_
    refine g_lconst (pc := 10) (v := 1) C dX12_stay_10 (by decide) ?_
    refine cf_X12_130 (pc := 11) C (c_X12_in32 _ _ _ _ (nI 0) (nI 1) _ _ rfl rfl) ⟨rfl, rfl⟩ ⟨rfl, rfl⟩ ⟨Nat.zero_le _, Nat.zero_le _⟩ rfl (Nat.le_of_ble_eq_true rfl) dX12_stay_11 ?_
    refine g_if_ne (pc := 14) C 19 dX12_stay_14 rfl (fun h2 => ?_) (fun h2 => ?_)
    · have h2 := Decidable.not_not.mp (fun q => h2 (bI_0.mpr q))
      have hok : mostOK (s_A S 1010) what := ⟨h, h2⟩
      rw [if_pos hok]
      refine g_aload_n (pc := 19) C dX12_stay_19 rfl ?_
      refine g_aload_n (pc := 20) C dX12_stay_20 rfl ?_
      refine mg_39 (pc := 21) C (by exact hm) dX12_stay_21 ?_
      refine g_bipush (pc := 24) (v := nI 11) C dX12_stay_24 (by decide) ?_
      refine n_iald (pc := 26) (k := 1010) (n := 190) C rfl rfl (by exact m_z hm rfl) isn_v rfl (by omega) dX12_stay_26 ?_
      refine cf_X12_334 (pc := 27) C rfl (by exact m_z hm rfl) (c_X12_onSide _ _ _ hm P hP hP7 _) ⟨rfl, rfl⟩ ⟨rfl, rfl⟩ ⟨Nat.zero_le _, Nat.zero_le _⟩ rfl (Nat.le_of_ble_eq_true rfl) dX12_stay_27 ?_
      refine gx_ti (y := nI o) (by rw [ho2]) ?_
      refine g_istore_n (pc := 30) (L' := [_, some (.int _), _, _, _, _, _]) C dX12_stay_30 rfl rfl ?_
      refine g_bipush (pc := 31) (v := -2) C dX12_stay_31 (by decide) ?_
      refine g_istore_n (pc := 33) (L' := [_, _, some (.int _), _, _, _, _]) C dX12_stay_33 rfl rfl ?_
      refine g_bipush (pc := 34) (v := -2) C dX12_stay_34 (by decide) ?_
      refine g_istore (pc := 36) (L' := [_, _, _, some (.int _), _, _, _]) C dX12_stay_36 rfl rfl ?_
      refine g_iconst (pc := 38) (v := nI 0) C dX12_stay_38 (by decide) ?_
      refine g_istore (pc := 39) (L' := [_, _, _, _, some (.int _), _, _]) C dX12_stay_39 rfl rfl ?_
      have loop : ∀ k i z, i + k = P → gx_G w X S 0 0 41 [some (.ref (ad (w_b w) 1000)), some (.int what), some (.int (nI o)), some (.int (stB (styF o wt i))), some (.int (stM (styF o wt i))), some (.int (nI i)), z] [] (gx_E w X (pI (if what = nI 0 then stB (styF o wt P) else stM (styF o wt P)) S)) := by
        intro k
        induction k with
        | zero =>
          intro i z hi
          have hi : i = P := hi
          subst hi
          refine g_iload (pc := 41) C dX12_stay_41 rfl ?_
          refine g_aload_n (pc := 43) C dX12_stay_43 rfl ?_
          refine mg_39 (pc := 44) C (by exact hm) dX12_stay_44 ?_
          refine g_iconst (pc := 47) (v := nI 4) C dX12_stay_47 (by decide) ?_
          refine n_iald (pc := 48) (k := 1010) (n := 190) C rfl rfl (by exact m_z hm rfl) isn_v rfl (by omega) dX12_stay_48 ?_
          refine gx_ti hP ?_
          refine g_icmp_ge (pc := 49) C 106 dX12_stay_49 rfl (fun h3 => ?_) (fun h3 => ?_)
          · refine g_iload_n (pc := 106) C dX12_stay_106 rfl ?_
            refine g_if_ne (pc := 107) C 114 dX12_stay_107 rfl (fun h4 => ?_) (fun h4 => ?_)
            · refine g_iload (pc := 114) C dX12_stay_114 rfl ?_
              exact g_ireturn (pc := 116) C ⟨rfl, rfl⟩ dX12_stay_116 (⟨by rw [if_neg (fun q => h4 (by rw [q]; rfl))], rfl⟩)
            · have h4 : what = nI 0 := Decidable.not_not.mp h4
              refine g_iload_n (pc := 110) C dX12_stay_110 rfl ?_
              refine g_goto (pc := 111) C 116 dX12_stay_111 rfl ?_
              exact g_ireturn (pc := 116) C ⟨rfl, rfl⟩ dX12_stay_116 (⟨by rw [if_pos h4], rfl⟩)
          · exact absurd (nI_le (Nat.le_refl i) (by omega)) h3
        | succ k ih =>
          intro i z hi
          refine g_iload (pc := 41) C dX12_stay_41 rfl ?_
          refine g_aload_n (pc := 43) C dX12_stay_43 rfl ?_
          refine mg_39 (pc := 44) C (by exact hm) dX12_stay_44 ?_
          refine g_iconst (pc := 47) (v := nI 4) C dX12_stay_47 (by decide) ?_
          refine n_iald (pc := 48) (k := 1010) (n := 190) C rfl rfl (by exact m_z hm rfl) isn_v rfl (by omega) dX12_stay_48 ?_
          refine gx_ti hP ?_
          refine g_icmp_ge (pc := 49) C 106 dX12_stay_49 rfl (fun h3 => ?_) (fun h3 => ?_)
          · exact absurd h3 (nI_ge (by omega) (by omega))
          · refine g_iload_n (pc := 52) C dX12_stay_52 rfl ?_
            refine g_iload (pc := 53) C dX12_stay_53 rfl ?_
            refine cf_X12_308 (pc := 55) C (c_X12_isOfN _ _ _ o i ho (by omega)) ⟨rfl, rfl⟩ ⟨rfl, rfl⟩ ⟨Nat.zero_le _, Nat.zero_le _⟩ rfl (Nat.le_of_ble_eq_true rfl) dX12_stay_55 ?_
            refine g_if_ne (pc := 58) C 64 dX12_stay_58 rfl (fun h4 => ?_) (fun h4 => ?_)
            · have h4 := Decidable.not_not.mp (fun q => h4 (bI_0.mpr q))
              refine g_aload_n (pc := 64) C dX12_stay_64 rfl ?_
              refine g_iload_n (pc := 65) C dX12_stay_65 rfl ?_
              refine g_iconst (pc := 66) (v := nI 1) C dX12_stay_66 (by decide) ?_
              refine g_iload (pc := 67) C dX12_stay_67 rfl ?_
              refine g_ishl (pc := 69) C dX12_stay_69 ?_
              refine gx_ti (shl_bit i (by omega)) ?_
              refine g_iconst (pc := 70) (v := -1) C dX12_stay_70 (by decide) ?_
              refine g_ixor (pc := 71) C dX12_stay_71 ?_
              refine g_iand (pc := 72) C dX12_stay_72 ?_
              have hb2 : 2 ^ i < 128 := Nat.pow_lt_pow_right (by decide) (by omega : i < 7)
              refine gx_ti (andn_nI _ ho _ hb2) ?_
              refine g_iconst (pc := 73) (v := nI 0) C dX12_stay_73 (by decide) ?_
              refine cf_X12_340 (pc := 74) C rfl (by exact m_z hm rfl) (c_X12_weightOf _ _ _ hm P H hp (o - (o &&& 2 ^ i)) (by omega) False) ⟨rfl, rfl⟩ ⟨rfl, rfl⟩ ⟨Nat.zero_le _, Nat.zero_le _⟩ rfl (Nat.le_of_ble_eq_true rfl) dX12_stay_74 ?_
              refine gx_ti (y := wt i) (by rw [← hwt]) ?_
              refine g_istore (pc := 77) (L' := [_, _, _, _, _, some (.int _), _]) C dX12_stay_77 rfl rfl ?_
              refine g_iload_n (pc := 79) C dX12_stay_79 rfl ?_
              have take : styF o wt (i + 1) = some (i, wt i) → gx_G w X S 0 0 93 [some (.ref (ad (w_b w) 1000)), some (.int what), some (.int (nI o)), some (.int (stB (styF o wt i))), some (.int (stM (styF o wt i))), some (.int (nI i)), some (.int (wt i))] [] (gx_E w X (pI (if what = nI 0 then stB (styF o wt P) else stM (styF o wt P)) S)) := by
                intro e
                refine g_iload (pc := 93) C dX12_stay_93 rfl ?_
                refine g_istore_n (pc := 95) (L' := [_, _, some (.int _), _, _, _, _]) C dX12_stay_95 rfl rfl ?_
                refine g_iload (pc := 96) C dX12_stay_96 rfl ?_
                refine g_istore (pc := 98) (L' := [_, _, _, some (.int _), _, _, _]) C dX12_stay_98 rfl rfl ?_
                refine g_iinc (pc := 100) (L' := [_, _, _, _, some (.int _), _, _]) C dX12_stay_100 rfl (nI_1 _) rfl ?_
                refine g_goto (pc := 103) C 41 dX12_stay_103 rfl ?_
                have := ih (i + 1) (some (.int (wt i))) (by omega)
                rw [e] at this
                exact this
              cases e : styF o wt i with
              | none =>
                rw [e] at take
                refine g_if_lt (pc := 80) C 93 dX12_stay_80 rfl (fun h5 => ?_) (fun h5 => ?_)
                · exact take (by simp only [styF, e]; rw [if_pos h4])
                · exact absurd (by decide) h5
              | some q =>
                obtain ⟨b, mm⟩ := q
                have hbl := styF_lt e
                rw [e] at take
                refine g_if_lt (pc := 80) C 93 dX12_stay_80 rfl (fun h5 => ?_) (fun h5 => ?_)
                · exact absurd h5 (nI_pos (by omega))
                · refine g_iload (pc := 83) C dX12_stay_83 rfl ?_
                  refine g_iload (pc := 85) C dX12_stay_85 rfl ?_
                  refine g_icmp_lt (pc := 87) C 93 dX12_stay_87 rfl (fun h6 => ?_) (fun h6 => ?_)
                  · have h6 : wt i < mm := h6
                    exact take (by simp only [styF, e]; rw [if_pos h4, if_pos h6])
                  · have h6 : ¬ wt i < mm := h6
                    refine g_goto (pc := 90) C 100 dX12_stay_90 rfl ?_
                    refine g_iinc (pc := 100) (L' := [_, _, _, _, some (.int _), _, _]) C dX12_stay_100 rfl (nI_1 _) rfl ?_
                    refine g_goto (pc := 103) C 41 dX12_stay_103 rfl ?_
                    have := ih (i + 1) (some (.int (wt i))) (by omega)
                    rw [show styF o wt (i + 1) = some (b, mm) from by simp only [styF, e]; rw [if_pos h4, if_neg h6]] at this
                    exact this
            · have h4 := bI_0.mp (Decidable.not_not.mp h4)
              refine g_goto (pc := 61) C 100 dX12_stay_61 rfl ?_
              refine g_iinc (pc := 100) (L' := [_, _, _, _, some (.int _), _, _]) C dX12_stay_100 rfl (nI_1 _) rfl ?_
              refine g_goto (pc := 103) C 41 dX12_stay_103 rfl ?_
              have := ih (i + 1) z (by omega)
              rw [show styF o wt (i + 1) = styF o wt i from by simp only [styF]; rw [if_neg h4]] at this
              exact this
      exact loop P 0 _ (by omega)
    · exact bad _ _ _ _ _ (fun q => bI_0.mp (Decidable.not_not.mp h2) q.2)
