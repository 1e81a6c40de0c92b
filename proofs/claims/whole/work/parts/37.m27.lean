/-! ===== the reference: placeBy ===== -/
theorem xor_set : ∀ a, a < 128 → ∀ b, b < 128 → nI a ^^^ nI b = nI (a ^^^ b) ∧ a ^^^ b < 128 := by decide +kernel
def plTh (P pl : Nat) : Nat := if pl / 128 = 1 then pl % 128 else (2 ^ P - 1) - ((2 ^ P - 1) &&& (pl % 128))
def plF (P : Nat) (V : Nat → Int32) (pl s : Nat) : Option Nat := if s ||| plTh P pl = plTh P pl ∧ ¬ V (128 * (pl / 128) + s) = 0 then some (128 * (1 - pl / 128) + (pl % 128 ^^^ s)) else none
theorem plF_lt {P : Nat} {V : Nat → Int32} {pl s t : Nat} (hs : s < 128) (h : plF P V pl s = some t) : t < 256 := by
  unfold plF at h
  split at h
  · have := (xor_set (pl % 128) (Nat.mod_lt _ (by omega)) s hs).2
    cases h
    omega
  · cases h
theorem c_X12_placeBy (w : Wd) (l : Launch) (S : St) (hm : gx_m S) (P : Nat) (hP : s_A S 1010 4 = nI P) (hP7 : P ≤ 7) (pl s : Nat) (hpl : pl < 256) (hs : s < 128) : gx_M w l yX12_placeBy cX12_placeBy 6 (some .int) rmX12_placeBy [.ref (ad (w_b w) 1000), .int (nI pl), .int (nI s)] S (pI (oI (plF P (s_A S 1016) pl s)) S) := by
  have h2P : 2 ^ P ≤ 2 ^ 7 := Nat.pow_le_pow_right (by decide) hP7
  have h1P : 1 ≤ 2 ^ P := Nat.one_le_two_pow
  have hmod : pl % 128 < 128 := Nat.mod_lt _ (by omega)
  have hside : pl / 128 < 2 := by omega
  have hx := xor_set (pl % 128) hmod s hs
  refine gx_start rfl 3 rfl (Nat.le_of_ble_eq_true rfl) ?_
  intro X C _ hl
  subst hl
  refine gx_L (L' := [_, _, _, _, _, _]) rfl ?_
  refine g_iload_n (pc := 0) C dX12_placeBy_0 rfl ?_
  refine g_sipush (pc := 1) (v := nI 128) C dX12_placeBy_1 (by decide) ?_
  refine g_idiv (pc := 4) C dX12_placeBy_4 (by decide) ?_
  refine gx_ti (y := nI (pl / 128)) (pk_div (by omega) (by omega) (by omega)) ?_
  refine g_istore_n (pc := 5) (L' := [_, _, some (.int _), _, _, _]) C dX12_placeBy_5 rfl rfl ?_
  refine g_iload_n (pc := 6) C dX12_placeBy_6 rfl ?_
  refine g_sipush (pc := 7) (v := nI 128) C dX12_placeBy_7 (by decide) ?_
  refine g_irem (pc := 10) C dX12_placeBy_10 (by decide) ?_
  refine gx_ti (y := nI (pl % 128)) (pk_rem (by omega) (by omega) (by omega)) ?_
  refine g_istore (pc := 11) (L' := [_, _, _, some (.int _), _, _]) C dX12_placeBy_11 rfl rfl ?_
  refine g_iload_n (pc := 13) C dX12_placeBy_13 rfl ?_
  refine g_iconst (pc := 14) (v := nI 1) C dX12_placeBy_14 (by decide) ?_
  have hthl : plTh P pl < 128 := by unfold plTh; split <;> omega
  have tail : gx_G w X S 0 0 38 [some (.ref (ad (w_b w) 1000)), some (.int (nI pl)), some (.int (nI s)), some (.int (nI (pl / 128))), some (.int (nI (pl % 128))), none] [.int (nI (plTh P pl))] (gx_E w X (pI (oI (plF P (s_A S 1016) pl s)) S)) := by
    unfold plF
    generalize plTh P pl = th at hthl ⊢
    refine g_istore (pc := 38) (L' := [_, _, _, _, some (.int _), _]) C dX12_placeBy_38 rfl rfl ?_
    refine g_iload_n (pc := 40) C dX12_placeBy_40 rfl ?_
    refine g_iload (pc := 41) C dX12_placeBy_41 rfl ?_
    refine g_iconst (pc := 43) (v := -1) C dX12_placeBy_43 (by decide) ?_
    refine g_ixor (pc := 44) C dX12_placeBy_44 ?_
    refine g_iand (pc := 45) C dX12_placeBy_45 ?_
    refine g_if_ne (pc := 46) C 64 dX12_placeBy_46 rfl (fun h => ?_) (fun h => ?_)
    · rw [if_neg (fun q => h ((sub_iff s hs th hthl).mpr q.1))]
      refine g_iconst (pc := 64) (v := -1) C dX12_placeBy_64 (by decide) ?_
      exact g_ireturn (pc := 65) C ⟨rfl, rfl⟩ dX12_placeBy_65 (⟨rfl, rfl⟩)
    · have h := (sub_iff s hs th hthl).mp (Decidable.not_not.mp h)
      refine g_aload_n (pc := 49) C dX12_placeBy_49 rfl ?_
      refine mg_61 (pc := 50) C (by exact hm) dX12_placeBy_50 ?_
      refine g_sipush (pc := 53) (v := nI 128) C dX12_placeBy_53 (by decide) ?_
      refine g_iload_n (pc := 56) C dX12_placeBy_56 rfl ?_
      refine g_imul (pc := 57) C dX12_placeBy_57 ?_
      refine g_iload_n (pc := 58) C dX12_placeBy_58 rfl ?_
      refine g_iadd (pc := 59) C dX12_placeBy_59 ?_
      refine n_zald (pc := 60) (k := 1016) (n := 256) C rfl rfl (by exact m_z hm rfl) (isn_add (isn_mul isn_v isn_v) isn_v) rfl (by omega) dX12_placeBy_60 ?_
      refine g_if_ne (pc := 61) C 66 dX12_placeBy_61 rfl (fun h2 => ?_) (fun h2 => ?_)
      · rw [if_pos ⟨h, h2⟩]
        refine g_sipush (pc := 66) (v := nI 128) C dX12_placeBy_66 (by decide) ?_
        refine g_iconst (pc := 69) (v := nI 1) C dX12_placeBy_69 (by decide) ?_
        refine g_iload_n (pc := 70) C dX12_placeBy_70 rfl ?_
        refine g_isub (pc := 71) C dX12_placeBy_71 ?_
        refine gx_ti (y := nI (1 - pl / 128)) (isn_sub isn_v isn_v (by omega)) ?_
        refine g_imul (pc := 72) C dX12_placeBy_72 ?_
        refine g_iload (pc := 73) C dX12_placeBy_73 rfl ?_
        refine g_iload_n (pc := 75) C dX12_placeBy_75 rfl ?_
        refine g_ixor (pc := 76) C dX12_placeBy_76 ?_
        refine gx_ti hx.1 ?_
        refine g_iadd (pc := 77) C dX12_placeBy_77 ?_
        refine gx_ti (y := nI (128 * (1 - pl / 128) + (pl % 128 ^^^ s))) (isn_add (isn_mul isn_v isn_v) isn_v) ?_
        exact g_ireturn (pc := 78) C ⟨rfl, rfl⟩ dX12_placeBy_78 ⟨rfl, rfl⟩
      · have h2 := Decidable.not_not.mp h2
        rw [if_neg (fun q => q.2 h2)]
        refine g_iconst (pc := 64) (v := -1) C dX12_placeBy_64 (by decide) ?_
        exact g_ireturn (pc := 65) C ⟨rfl, rfl⟩ dX12_placeBy_65 (⟨rfl, rfl⟩)
  refine g_icmp_ne (pc := 15) C 23 dX12_placeBy_15 rfl (fun h => ?_) (fun h => ?_)
  · have h : ¬ pl / 128 = 1 := fun q => h (by rw [q])
    refine g_iconst (pc := 23) (v := nI 1) C dX12_placeBy_23 (by decide) ?_
    refine g_aload_n (pc := 24) C dX12_placeBy_24 rfl ?_
    refine mg_39 (pc := 25) C (by exact hm) dX12_placeBy_25 ?_
    refine g_iconst (pc := 28) (v := nI 4) C dX12_placeBy_28 (by decide) ?_
    refine n_iald (pc := 29) (k := 1010) (n := 190) C rfl rfl (by exact m_z hm rfl) isn_v rfl (by omega) dX12_placeBy_29 ?_
    refine gx_ti hP ?_
    refine g_ishl (pc := 30) C dX12_placeBy_30 ?_
    refine gx_ti (shl_bit P (by omega)) ?_
    refine g_iconst (pc := 31) (v := nI 1) C dX12_placeBy_31 (by decide) ?_
    refine g_isub (pc := 32) C dX12_placeBy_32 ?_
    refine gx_ti (y := nI (2 ^ P - 1)) (isn_sub isn_v isn_v h1P) ?_
    refine g_iload (pc := 33) C dX12_placeBy_33 rfl ?_
    refine g_iconst (pc := 35) (v := -1) C dX12_placeBy_35 (by decide) ?_
    refine g_ixor (pc := 36) C dX12_placeBy_36 ?_
    refine g_iand (pc := 37) C dX12_placeBy_37 ?_
    refine gx_ti (y := nI (plTh P pl)) ?_ tail
    rw [andn_nI (2 ^ P - 1) (by omega) (pl % 128) hmod]
    unfold plTh; rw [if_neg h]
  · have h : pl / 128 = 1 := (nI_eq (by omega) (by omega)).mp (Decidable.not_not.mp h)
    refine g_iload (pc := 18) C dX12_placeBy_18 rfl ?_
    refine g_goto (pc := 20) C 38 dX12_placeBy_20 rfl ?_
    refine gx_ti (y := nI (plTh P pl)) ?_ tail
    unfold plTh; rw [if_pos h]
