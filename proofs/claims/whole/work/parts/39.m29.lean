/-! ===== the reference: fewest ===== -/
theorem ndP_keep {pl : Nat → Nat → Option Nat} {all : Nat} {N : Nat → Int32} {n i t v : Nat} (hv : v < 1000) (h : N t = nI v) : ndP pl all N n i t = nI v := by
  unfold ndP
  rw [if_neg, h]
  intro q
  have h2 := (of_decide_eq_true q.2).1
  rw [h] at h2
  exact absurd h2 (nI_pos (by omega))
theorem okT_keep {pl : Nat → Nat → Option Nat} {all : Nat} {N : Nat → Int32} {n i v j s : Nat} (hv : v < 1000) (h : okT pl N v j s = true) : okT pl (ndP pl all N n i) v j s = true := by
  unfold okT at h ⊢
  split at h
  · cases h
  · next t e =>
    exact decide_eq_true (ndP_keep hv (of_decide_eq_true h))
def ndI (pl : Nat → Nat → Option Nat) (all : Nat) (N : Nat → Int32) (n : Nat) : Prop := ∀ j, j < 256 → N j < 0 ∨ ∃ v, v ≤ n ∧ N j = nI v ∧ (v = 0 ∨ ∃ m s, v = m + 1 ∧ s < all + 1 ∧ okT pl N m j s = true)
theorem ndI_R {pl : Nat → Nat → Option Nat} {all : Nat} {N : Nat → Int32} (h0 : ∀ j, j < 256 → N j = nI 0 ∨ N j = -1) : ∀ n, n < 999 → ndI pl all (ndR pl all N n) n
  | 0, _ => fun j hj => by
    rcases h0 j hj with h | h
    · exact Or.inr ⟨0, Nat.le_refl 0, h, Or.inl rfl⟩
    · refine Or.inl ?_
      show N j < 0
      rw [h]; decide
  | n + 1, hn => fun j hj => by
    have ih := ndI_R (pl := pl) (all := all) h0 n (by omega) j hj
    show ndP pl all (ndR pl all N n) n 256 j < 0 ∨ ∃ v, v ≤ n + 1 ∧ ndP pl all (ndR pl all N n) n 256 j = nI v ∧ (v = 0 ∨ ∃ m s, v = m + 1 ∧ s < all + 1 ∧ okT pl (ndP pl all (ndR pl all N n) n 256) m j s = true)
    generalize ndR pl all N n = M at ih ⊢
    by_cases hc : chgF pl all M n j = true
    · have e : ndP pl all M n 256 j = nI (n + 1) := if_pos ⟨hj, hc⟩
      refine Or.inr ⟨n + 1, Nat.le_refl _, e, Or.inr ?_⟩
      have h3 := (of_decide_eq_true hc).2.2
      refine Classical.byContradiction (fun hno => h3 (fun s hs => ?_))
      cases hk : okT pl M n j s with
      | false => rfl
      | true => exact absurd ⟨n, s, rfl, hs, okT_keep (by omega) hk⟩ hno
    · have e : ndP pl all M n 256 j = M j := if_neg (fun q => hc q.2)
      rw [e]
      rcases ih with h | ⟨v, hv, h1, h2⟩
      · exact Or.inl h
      · refine Or.inr ⟨v, by omega, h1, ?_⟩
        rcases h2 with h2 | ⟨m, s, a1, a2, a3⟩
        · exact Or.inl h2
        · exact Or.inr ⟨m, s, a1, a2, okT_keep (by omega) a3⟩
theorem n0F_v {all : Nat} {N : Nat → Int32} : ∀ j, j < 256 → n0F all N 256 j = nI 0 ∨ n0F all N 256 j = -1 := by
  intro j hj
  unfold n0F
  rw [if_pos hj]
  split
  · exact Or.inl rfl
  · exact Or.inr rfl
def fwOK (pl : Nat → Nat → Option Nat) (all : Nat) (N : Nat → Int32) (place : Nat) (what v : Int32) : Prop := (N place < 0 ∧ v = -2) ∨ (0 ≤ N place ∧ (N place = 0 ∨ what = 0) ∧ v = N place) ∨ (∃ m s, m < 1000 ∧ N place = nI (m + 1) ∧ ¬ what = 0 ∧ s < all + 1 ∧ okT pl N m place s = true ∧ (∀ q, q < s → okT pl N m place q = false) ∧ v = nI s)
theorem c_X12_fewest (w : Wd) (l : Launch) (S : St) (hm : gx_m S) (P H : Nat) (hp : gx_p S P H) (b : Nat) (hb : b < 2) (hB : s_A S 1010 11 = nI b) (V0 : Nat → Int32) (hV0 : V0 = btF (boF (s_I S 1123 1000) (s_A S 1010) P H) (s_A S 1016) (2 ^ P)) (N0 : Nat → Int32) (hN0 : N0 = n0F (2 ^ P - 1) (s_A S 1015) 256) (what : Int32) : gx_M w l yX12_fewest cX12_fewest 4 (some .int) rmX12_fewest [.ref (ad (w_b w) 1000), .int what] S (fun a S' => if mostOK (s_A S 1010) what then (∃ n v, n ≤ 256 ∧ (∀ i, i < n → mrF (plF P V0) (2 ^ P - 1) (ndR (plF P V0) (2 ^ P - 1) N0 i) i 256 = true) ∧ mrF (plF P V0) (2 ^ P - 1) (ndR (plF P V0) (2 ^ P - 1) N0 n) n 256 = false ∧ S' = ndS S V0 (ndR (plF P V0) (2 ^ P - 1) N0 (n + 1)) ∧ a = some (.int v) ∧ fwOK (plF P V0) (2 ^ P - 1) (ndR (plF P V0) (2 ^ P - 1) N0 (n + 1)) (128 * b + onN (s_A S 1010) (nI 1) P) what v) else (a = some (.int (-1)) ∧ S' = S)) := by
  obtain ⟨hP, hP7, hH, hH2⟩ := id hp
  have h2P : 2 ^ P ≤ 2 ^ 7 := Nat.pow_le_pow_right (by decide) hP7
  have h1P : 1 ≤ 2 ^ P := Nat.one_le_two_pow
  have ho : onN (s_A S 1010) (nI 1) P < 128 := onN_128 hP7
  refine gx_start rfl 2 rfl (Nat.le_of_ble_eq_true rfl) ?_
  intro X C _ hl
  subst hl
  refine gx_L (L' := [_, _, _, _]) rfl ?_
  generalize hq : (fun (a : Option Value) (S' : St) => if mostOK (s_A S 1010) what then (∃ n v, n ≤ 256 ∧ (∀ i, i < n → mrF (plF P V0) (2 ^ P - 1) (ndR (plF P V0) (2 ^ P - 1) N0 i) i 256 = true) ∧ mrF (plF P V0) (2 ^ P - 1) (ndR (plF P V0) (2 ^ P - 1) N0 n) n 256 = false ∧ S' = ndS S V0 (ndR (plF P V0) (2 ^ P - 1) N0 (n + 1)) ∧ a = some (.int v) ∧ fwOK (plF P V0) (2 ^ P - 1) (ndR (plF P V0) (2 ^ P - 1) N0 (n + 1)) (128 * b + onN (s_A S 1010) (nI 1) P) what v) else (a = some (.int (-1)) ∧ S' = S)) = post
  have bad : ∀ z2 z3, ¬ mostOK (s_A S 1010) what → gx_G w X S 0 0 17 [some (.ref (ad (w_b w) 1000)), some (.int what), z2, z3] [] (gx_E w X post) := by
    intro z2 z3 hb
    subst hq
    refine g_iconst (pc := 17) (v := -1) C dX12_fewest_17 (by decide) ?_
    exact g_ireturn (pc := 18) C ⟨rfl, rfl⟩ dX12_fewest_18 ((by rw [if_neg hb]; exact ⟨rfl, rfl⟩))
  refine g_aload_n (pc := 0) C dX12_fewest_0 rfl ?_
  refine cf_X12_297 (pc := 1) C rfl (by exact m_z hm rfl) (c_X12_isCrossing _ _ _ hm) ⟨rfl, rfl⟩ ⟨rfl, rfl⟩ ⟨Nat.zero_le _, Nat.zero_le _⟩ rfl (Nat.le_of_ble_eq_true rfl) dX12_fewest_1 ?_
  refine g_if_eq (pc := 4) C 17 dX12_fewest_4 rfl (fun h => ?_) (fun h => ?_)
  · exact bad _ _ (fun q => bI_0.mp h q.1)
  · have h := Decidable.not_not.mp (fun q => h (bI_0.mpr q))
    refine g_iload_n (pc := 7) C dX12_fewest_7 rfl ?_
    refine g_i2l (pc := 8) C dX12_fewest_8 ?_
    refine g_lconst (pc := 9) (v := 0) C dX12_fewest_9 (by decide) ?_
    refine g_lconst (pc := 10) (v := 1) C dX12_fewest_10 (by decide) ?_
    refine cf_X12_130 (pc := 11) C (c_X12_in32 _ _ _ _ (nI 0) (nI 1) _ _ rfl rfl) ⟨rfl, rfl⟩ ⟨rfl, rfl⟩ ⟨Nat.zero_le _, Nat.zero_le _⟩ rfl (Nat.le_of_ble_eq_true rfl) dX12_fewest_11 ?_
    refine g_if_ne (pc := 14) C 19 dX12_fewest_14 rfl (fun h2 => ?_) (fun h2 => ?_)
    · have h2 := Decidable.not_not.mp (fun q => h2 (bI_0.mpr q))
      have hok : mostOK (s_A S 1010) what := ⟨h, h2⟩
      refine g_aload_n (pc := 19) C dX12_fewest_19 rfl ?_
      refine cg_X12_400 (pc := 20) C rfl (m_z hm rfl) (c_X12_fillsNeeds _ _ S hm P H hp V0 hV0 N0 hN0) ⟨rfl, rfl⟩ ⟨Nat.zero_le _, Nat.zero_le _⟩ rfl (Nat.le_of_ble_eq_true rfl) dX12_fewest_20 ?_
      rintro _ _ ⟨rfl, n, hn, hr1, hr2, rfl⟩
      have hI : ndI (plF P V0) (2 ^ P - 1) (ndR (plF P V0) (2 ^ P - 1) N0 (n + 1)) (n + 1) := ndI_R (by rw [hN0]; exact n0F_v) (n + 1) (by omega)
      have hend : ∀ v, fwOK (plF P V0) (2 ^ P - 1) (ndR (plF P V0) (2 ^ P - 1) N0 (n + 1)) (128 * b + onN (s_A S 1010) (nI 1) P) what v → post (some (.int v)) (ndS S V0 (ndR (plF P V0) (2 ^ P - 1) N0 (n + 1))) := by
        intro v hv
        rw [← hq]
        show (if mostOK (s_A S 1010) what then _ else _)
        rw [if_pos hok]
        exact ⟨n, v, hn, hr1, hr2, rfl, rfl, hv⟩
      have hlt : ∀ j s t, s < 128 → plF P V0 j s = some t → t < 256 := fun j s t hs e => plF_lt hs e
      have hmT : gx_m (ndS S V0 (ndR (plF P V0) (2 ^ P - 1) N0 (n + 1))) := hm
      have hT1 : s_A (ndS S V0 (ndR (plF P V0) (2 ^ P - 1) N0 (n + 1))) 1010 = s_A S 1010 := rfl
      have hT2 : s_A (ndS S V0 (ndR (plF P V0) (2 ^ P - 1) N0 (n + 1))) 1015 = ndR (plF P V0) (2 ^ P - 1) N0 (n + 1) := rfl
      have hT3 : s_A (ndS S V0 (ndR (plF P V0) (2 ^ P - 1) N0 (n + 1))) 1016 = V0 := rfl
      clear hr1 hr2 hq bad
      generalize ndS S V0 (ndR (plF P V0) (2 ^ P - 1) N0 (n + 1)) = T at hmT hT1 hT2 hT3 hend ⊢
      generalize ndR (plF P V0) (2 ^ P - 1) N0 (n + 1) = N at hI hend hT2
      have hPT : s_A T 1010 4 = nI P := by rw [hT1]; exact hP
      refine g_sipush (pc := 23) (v := nI 128) C dX12_fewest_23 (by decide) ?_
      refine g_aload_n (pc := 26) C dX12_fewest_26 rfl ?_
      refine mg_39 (pc := 27) C hmT dX12_fewest_27 ?_
      refine g_bipush (pc := 30) (v := nI 11) C dX12_fewest_30 (by decide) ?_
      refine n_iald (pc := 32) (k := 1010) (n := 190) C rfl rfl (m_z hmT rfl) isn_v rfl (by omega) dX12_fewest_32 ?_
      refine gx_ti (y := nI b) (by rw [hT1]; exact hB) ?_
      refine g_imul (pc := 33) C dX12_fewest_33 ?_
      refine g_aload_n (pc := 34) C dX12_fewest_34 rfl ?_
      refine g_iconst (pc := 35) (v := nI 1) C dX12_fewest_35 (by decide) ?_
      refine cf_X12_334 (pc := 36) C rfl (m_z hmT rfl) (c_X12_onSide _ _ _ hmT P hPT hP7 _) ⟨rfl, rfl⟩ ⟨rfl, rfl⟩ ⟨Nat.zero_le _, Nat.zero_le _⟩ rfl (Nat.le_of_ble_eq_true rfl) dX12_fewest_36 ?_
      refine gx_ti (y := nI (onN (s_A S 1010) (nI 1) P)) (by rw [hT1]) ?_
      refine g_iadd (pc := 39) C dX12_fewest_39 ?_
      refine gx_ti (y := nI (128 * b + onN (s_A S 1010) (nI 1) P)) (isn_add (isn_mul isn_v isn_v) isn_v) ?_
      have hpl : 128 * b + onN (s_A S 1010) (nI 1) P < 256 := by omega
      generalize 128 * b + onN (s_A S 1010) (nI 1) P = place at hpl hend ⊢
      refine g_istore_n (pc := 40) (L' := [_, some (.int _), _, _]) C dX12_fewest_40 rfl rfl ?_
      refine g_aload_n (pc := 41) C dX12_fewest_41 rfl ?_
      refine mg_58 (pc := 42) C hmT dX12_fewest_42 ?_
      refine g_iload_n (pc := 45) C dX12_fewest_45 rfl ?_
      refine n_iald (pc := 46) (k := 1015) (n := 256) C rfl rfl (m_z hmT rfl) isn_v rfl (by omega) dX12_fewest_46 ?_
      refine gx_ti (y := N place) (by rw [hT2]) ?_
      refine g_if_gt (pc := 47) C 66 dX12_fewest_47 rfl (fun h3 => ?_) (fun h3 => ?_)
      · refine g_iload_n (pc := 66) C dX12_fewest_66 rfl ?_
        refine g_if_ne (pc := 67) C 77 dX12_fewest_67 rfl (fun h4 => ?_) (fun h4 => ?_)
        · rcases hI place hpl with h5 | ⟨v, hv, h5, h6⟩
          · exact absurd (Int32.lt_trans h3 h5) (Int32.lt_irrefl)
          · rcases h6 with h6 | ⟨m, s0, rfl, hs0, hk0⟩
            · rw [h5, h6] at h3
              exact absurd h3 (by decide)
            · refine g_iconst (pc := 77) (v := nI 0) C dX12_fewest_77 (by decide) ?_
              refine g_istore_n (pc := 78) (L' := [_, _, some (.int _), _]) C dX12_fewest_78 rfl rfl ?_
              have loop : ∀ d s, s + d = s0 → (∀ q, q < s → okT (plF P V0) N m place q = false) → gx_G w X T 0 0 79 [some (.ref (ad (w_b w) 1000)), some (.int what), some (.int (nI place)), some (.int (nI s))] [] (gx_E w X post) := by
                intro d
                induction d with
                | zero =>
                  intro s hs hno
                  have hs : s = s0 := hs
                  subst hs
                  have hk1 := hk0
                  unfold okT at hk1
                  split at hk1
                  · cases hk1
                  · next t e =>
                    have hk1 := of_decide_eq_true hk1
                    have ht := hlt _ _ _ (by omega) e
                    refine g_aload_n (pc := 79) C dX12_fewest_79 rfl ?_
                    refine g_iload_n (pc := 80) C dX12_fewest_80 rfl ?_
                    refine g_iload_n (pc := 81) C dX12_fewest_81 rfl ?_
                    refine cf_X12_397 (pc := 82) C rfl (m_z hmT rfl) (c_X12_placeBy _ _ _ hmT P hPT hP7 place s hpl (by omega)) ⟨rfl, rfl⟩ ⟨rfl, rfl⟩ ⟨Nat.zero_le _, Nat.zero_le _⟩ rfl (Nat.le_of_ble_eq_true rfl) dX12_fewest_82 ?_
                    refine gx_ti (y := nI t) (by rw [hT3, e]; rfl) ?_
                    refine g_if_lt (pc := 85) C 110 dX12_fewest_85 rfl (fun h6 => ?_) (fun h6 => ?_)
                    · exact absurd h6 (nI_pos (by omega))
                    · refine g_aload_n (pc := 88) C dX12_fewest_88 rfl ?_
                      refine mg_58 (pc := 89) C hmT dX12_fewest_89 ?_
                      refine g_aload_n (pc := 92) C dX12_fewest_92 rfl ?_
                      refine g_iload_n (pc := 93) C dX12_fewest_93 rfl ?_
                      refine g_iload_n (pc := 94) C dX12_fewest_94 rfl ?_
                      refine cf_X12_397 (pc := 95) C rfl (m_z hmT rfl) (c_X12_placeBy _ _ _ hmT P hPT hP7 place s hpl (by omega)) ⟨rfl, rfl⟩ ⟨rfl, rfl⟩ ⟨Nat.zero_le _, Nat.zero_le _⟩ rfl (Nat.le_of_ble_eq_true rfl) dX12_fewest_95 ?_
                      refine gx_ti (y := nI t) (by rw [hT3, e]; rfl) ?_
                      refine n_iald (pc := 98) (k := 1015) (n := 256) C rfl rfl (m_z hmT rfl) isn_v rfl ht dX12_fewest_98 ?_
                      refine g_aload_n (pc := 99) C dX12_fewest_99 rfl ?_
                      refine mg_58 (pc := 100) C hmT dX12_fewest_100 ?_
                      refine g_iload_n (pc := 103) C dX12_fewest_103 rfl ?_
                      refine n_iald (pc := 104) (k := 1015) (n := 256) C rfl rfl (m_z hmT rfl) isn_v rfl (by omega) dX12_fewest_104 ?_
                      refine gx_ti (y := nI (m + 1)) (by rw [hT2]; exact h5) ?_
                      refine g_iconst (pc := 105) (v := nI 1) C dX12_fewest_105 (by decide) ?_
                      refine g_isub (pc := 106) C dX12_fewest_106 ?_
                      refine gx_ti (y := nI m) (isn_sub isn_v isn_v (by omega)) ?_
                      refine g_icmp_eq (pc := 107) C 116 dX12_fewest_107 rfl (fun h7 => ?_) (fun h7 => ?_)
                      · refine g_iload_n (pc := 116) C dX12_fewest_116 rfl ?_
                        exact g_ireturn (pc := 117) C ⟨rfl, rfl⟩ dX12_fewest_117 (hend _ (Or.inr (Or.inr ⟨m, s, by omega, h5, h4, hs0, hk0, hno, rfl⟩)))
                      · exact absurd (by rw [hT2]; exact hk1) h7
                | succ d ih =>
                  intro s hs hno
                  have next : okT (plF P V0) N m place s = false → gx_G w X T 0 0 110 [some (.ref (ad (w_b w) 1000)), some (.int what), some (.int (nI place)), some (.int (nI s))] [] (gx_E w X post) := by
                    intro hk
                    refine g_iinc (pc := 110) (L' := [_, _, some (.int _), _]) C dX12_fewest_110 rfl (nI_1 _) rfl ?_
                    refine g_goto (pc := 113) C 79 dX12_fewest_113 rfl ?_
                    exact ih (s + 1) (by omega) (fun q hq => if e : q = s then e ▸ hk else hno q (by omega))
                  cases e : plF P V0 place s with
                  | none =>
                    refine g_aload_n (pc := 79) C dX12_fewest_79 rfl ?_
                    refine g_iload_n (pc := 80) C dX12_fewest_80 rfl ?_
                    refine g_iload_n (pc := 81) C dX12_fewest_81 rfl ?_
                    refine cf_X12_397 (pc := 82) C rfl (m_z hmT rfl) (c_X12_placeBy _ _ _ hmT P hPT hP7 place s hpl (by omega)) ⟨rfl, rfl⟩ ⟨rfl, rfl⟩ ⟨Nat.zero_le _, Nat.zero_le _⟩ rfl (Nat.le_of_ble_eq_true rfl) dX12_fewest_82 ?_
                    refine gx_ti (y := -1) (by rw [hT3, e]; rfl) ?_
                    refine g_if_lt (pc := 85) C 110 dX12_fewest_85 rfl (fun h6 => ?_) (fun h6 => ?_)
                    · exact next (by unfold okT; rw [e])
                    · exact absurd (by decide) h6
                  | some t =>
                    have ht := hlt _ _ _ (by omega) e
                    have hk : okT (plF P V0) N m place s = decide (N t = nI m) := by unfold okT; rw [e]
                    refine g_aload_n (pc := 79) C dX12_fewest_79 rfl ?_
                    refine g_iload_n (pc := 80) C dX12_fewest_80 rfl ?_
                    refine g_iload_n (pc := 81) C dX12_fewest_81 rfl ?_
                    refine cf_X12_397 (pc := 82) C rfl (m_z hmT rfl) (c_X12_placeBy _ _ _ hmT P hPT hP7 place s hpl (by omega)) ⟨rfl, rfl⟩ ⟨rfl, rfl⟩ ⟨Nat.zero_le _, Nat.zero_le _⟩ rfl (Nat.le_of_ble_eq_true rfl) dX12_fewest_82 ?_
                    refine gx_ti (y := nI t) (by rw [hT3, e]; rfl) ?_
                    refine g_if_lt (pc := 85) C 110 dX12_fewest_85 rfl (fun h6 => ?_) (fun h6 => ?_)
                    · exact absurd h6 (nI_pos (by omega))
                    · refine g_aload_n (pc := 88) C dX12_fewest_88 rfl ?_
                      refine mg_58 (pc := 89) C hmT dX12_fewest_89 ?_
                      refine g_aload_n (pc := 92) C dX12_fewest_92 rfl ?_
                      refine g_iload_n (pc := 93) C dX12_fewest_93 rfl ?_
                      refine g_iload_n (pc := 94) C dX12_fewest_94 rfl ?_
                      refine cf_X12_397 (pc := 95) C rfl (m_z hmT rfl) (c_X12_placeBy _ _ _ hmT P hPT hP7 place s hpl (by omega)) ⟨rfl, rfl⟩ ⟨rfl, rfl⟩ ⟨Nat.zero_le _, Nat.zero_le _⟩ rfl (Nat.le_of_ble_eq_true rfl) dX12_fewest_95 ?_
                      refine gx_ti (y := nI t) (by rw [hT3, e]; rfl) ?_
                      refine n_iald (pc := 98) (k := 1015) (n := 256) C rfl rfl (m_z hmT rfl) isn_v rfl ht dX12_fewest_98 ?_
                      refine g_aload_n (pc := 99) C dX12_fewest_99 rfl ?_
                      refine mg_58 (pc := 100) C hmT dX12_fewest_100 ?_
                      refine g_iload_n (pc := 103) C dX12_fewest_103 rfl ?_
                      refine n_iald (pc := 104) (k := 1015) (n := 256) C rfl rfl (m_z hmT rfl) isn_v rfl (by omega) dX12_fewest_104 ?_
                      refine gx_ti (y := nI (m + 1)) (by rw [hT2]; exact h5) ?_
                      refine g_iconst (pc := 105) (v := nI 1) C dX12_fewest_105 (by decide) ?_
                      refine g_isub (pc := 106) C dX12_fewest_106 ?_
                      refine gx_ti (y := nI m) (isn_sub isn_v isn_v (by omega)) ?_
                      refine g_icmp_eq (pc := 107) C 116 dX12_fewest_107 rfl (fun h7 => ?_) (fun h7 => ?_)
                      · rw [hT2] at h7
                        refine g_iload_n (pc := 116) C dX12_fewest_116 rfl ?_
                        exact g_ireturn (pc := 117) C ⟨rfl, rfl⟩ dX12_fewest_117 (hend _ (Or.inr (Or.inr ⟨m, s, by omega, h5, h4, by omega, by rw [hk]; exact decide_eq_true h7, hno, rfl⟩)))
                      · rw [hT2] at h7
                        exact next (by rw [hk]; exact decide_eq_false h7)
              exact loop s0 0 (by omega) (fun q hq => absurd hq (by omega))
        · have h4 := Decidable.not_not.mp h4
          refine g_aload_n (pc := 70) C dX12_fewest_70 rfl ?_
          refine mg_58 (pc := 71) C hmT dX12_fewest_71 ?_
          refine g_iload_n (pc := 74) C dX12_fewest_74 rfl ?_
          refine n_iald (pc := 75) (k := 1015) (n := 256) C rfl rfl (m_z hmT rfl) isn_v rfl (by omega) dX12_fewest_75 ?_
          exact g_ireturn (pc := 76) C ⟨rfl, rfl⟩ dX12_fewest_76 (hend _ (Or.inr (Or.inl ⟨Int32.le_of_lt h3, Or.inr h4, by rw [hT2]⟩)))
      · have h3 := Int32.not_lt.mp h3
        refine g_aload_n (pc := 50) C dX12_fewest_50 rfl ?_
        refine mg_58 (pc := 51) C hmT dX12_fewest_51 ?_
        refine g_iload_n (pc := 54) C dX12_fewest_54 rfl ?_
        refine n_iald (pc := 55) (k := 1015) (n := 256) C rfl rfl (m_z hmT rfl) isn_v rfl (by omega) dX12_fewest_55 ?_
        refine gx_ti (y := N place) (by rw [hT2]) ?_
        refine g_if_ge (pc := 56) C 64 dX12_fewest_56 rfl (fun h4 => ?_) (fun h4 => ?_)
        · have e : N place = 0 := Int32.le_antisymm h3 h4
          refine g_iconst (pc := 64) (v := nI 0) C dX12_fewest_64 (by decide) ?_
          exact g_ireturn (pc := 65) C ⟨rfl, rfl⟩ dX12_fewest_65 (hend _ (Or.inr (Or.inl ⟨h4, Or.inl e, by rw [e]; rfl⟩)))
        · have h4 := Int32.not_le.mp h4
          refine g_bipush (pc := 59) (v := -2) C dX12_fewest_59 (by decide) ?_
          refine g_goto (pc := 61) C 65 dX12_fewest_61 rfl ?_
          exact g_ireturn (pc := 65) C ⟨rfl, rfl⟩ dX12_fewest_65 (hend _ (Or.inl ⟨h4, rfl⟩))
    · exact bad _ _ (fun q => bI_0.mp (Decidable.not_not.mp h2) q.2)
