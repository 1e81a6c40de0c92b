/-! ===== the reference: who comes aboard next; a trip ===== -/
def oI : Option Nat → Int32
  | none => -1
  | some p => nI p
def nxF (ok : Nat → Bool) (sm : Nat → Int64) : Nat → Option Nat × Int64
  | 0 => (none, 0)
  | n + 1 => if ok n = true ∧ (nxF ok sm n).2 < sm n then (some n, sm n) else nxF ok sm n
def okF (drawn : Int32) (said : Nat → Int32) (P H s : Nat) (p : Nat) : Bool := decide (¬ s.testBit p = true ∧ canBF said P (fogF drawn said H) (s ||| 2 ^ p))
def nextF (fr : Option ((Nat → Int64) → Int64)) (drawn : Int32) (said : Nat → Int32) (P H s : Nat) : Option Nat := (nxF (okF drawn said P H s) (fun p => sumF fr drawn said P H p s) P).1
theorem nxF_some {ok : Nat → Bool} {sm : Nat → Int64} : ∀ {n p : Nat}, (nxF ok sm n).1 = some p → p < n ∧ ok p = true
  | 0, _, h => by cases h
  | n + 1, p, h => by
    unfold nxF at h
    split at h
    · rename_i h2; cases h; exact ⟨by omega, h2.1⟩
    · obtain ⟨h1, h2⟩ := nxF_some h
      exact ⟨by omega, h2⟩
theorem c_X12_nextAboard (w : Wd) (l : Launch) (S : St) (hm : gx_m S) (P H : Nat) (hp : gx_p S P H) (s : Nat) (hs : s < 128) (fr : Option ((Nat → Int64) → Int64)) (hfr : frW S fr) (B W : Nat → Int64) (t : Int32) : gx_M w l yX12_nextAboard cX12_nextAboard 8 (some .int) rmX12_nextAboard [.ref (ad (w_b w) 1000), .int (nI s)] (scw S B W t) (fun a S' => ∃ B' W' t', a = some (.int (oI (nextF fr (s_I S 1123 1000) (s_A S 1010) P H s))) ∧ S' = scw S B' W' t') := by
  obtain ⟨hP, hP7, hH, hH2⟩ := id hp
  refine gx_start rfl 6 rfl (Nat.le_of_ble_eq_true rfl) ?_
  intro X C _ hl
  subst hl
  refine gx_L (L' := [_, _, _, _, _, _, _, _]) rfl ?_
  refine g_iconst (pc := 0) (v := -1) C dX12_nextAboard_0 (by decide) ?_
  refine g_istore_n (pc := 1) (L' := [_, some (.int _), _, _, _, _, _, _]) C dX12_nextAboard_1 rfl rfl ?_
  refine g_lconst (pc := 2) (v := 0) C dX12_nextAboard_2 (by decide) ?_
  refine g_lstore_n (pc := 3) (L' := [_, _, some (.int _), _, _, _, _, _]) C dX12_nextAboard_3 rfl rfl ?_
  refine g_iconst (pc := 4) (v := nI 0) C dX12_nextAboard_4 (by decide) ?_
  refine g_istore (pc := 5) (L' := [_, _, _, _, none, _, _, _]) C dX12_nextAboard_5 rfl rfl ?_
  have loop : ∀ k n B W t z6 z7, n + k = P → gx_G w X (scw S B W t) 0 0 7 [some (.ref (ad (w_b w) 1000)), some (.int (nI s)), some (.int (oI (nxF (okF (s_I S 1123 1000) (s_A S 1010) P H s) (fun p => sumF fr (s_I S 1123 1000) (s_A S 1010) P H p s) n).1)), some (.long (nxF (okF (s_I S 1123 1000) (s_A S 1010) P H s) (fun p => sumF fr (s_I S 1123 1000) (s_A S 1010) P H p s) n).2), none, some (.int (nI n)), z6, z7] [] (gx_E w X (fun a S' => ∃ B' W' t', a = some (.int (oI (nextF fr (s_I S 1123 1000) (s_A S 1010) P H s))) ∧ S' = scw S B' W' t')) := by
    intro k
    induction k with
    | zero =>
      intro n B W t z6 z7 hn
      have hn : n = P := hn
      subst hn
      refine g_iload (pc := 7) C dX12_nextAboard_7 rfl ?_
      refine g_aload_n (pc := 9) C dX12_nextAboard_9 rfl ?_
      refine mg_39 (pc := 10) C (by exact hm) dX12_nextAboard_10 ?_
      refine g_iconst (pc := 13) (v := nI 4) C dX12_nextAboard_13 (by decide) ?_
      refine n_iald (pc := 14) (k := 1010) (n := 190) C rfl rfl (by exact m_z hm rfl) isn_v rfl (by omega) dX12_nextAboard_14 ?_
      refine gx_ti (y := nI n) hP ?_
      refine g_icmp_ge (pc := 15) C 74 dX12_nextAboard_15 rfl (fun h => ?_) (fun h => ?_)
      · refine g_iload_n (pc := 74) C dX12_nextAboard_74 rfl ?_
        exact g_ireturn (pc := 75) C ⟨rfl, rfl⟩ dX12_nextAboard_75 ⟨B, W, t, rfl, rfl⟩
      · exact absurd (nI_le (Nat.le_refl n) (by omega)) h
    | succ k ih =>
      intro n B W t z6 z7 hn
      have skip : ∀ B W t z6 z7, ¬ (okF (s_I S 1123 1000) (s_A S 1010) P H s n = true ∧ (nxF (okF (s_I S 1123 1000) (s_A S 1010) P H s) (fun p => sumF fr (s_I S 1123 1000) (s_A S 1010) P H p s) n).2 < sumF fr (s_I S 1123 1000) (s_A S 1010) P H n s) → gx_G w X (scw S B W t) 0 0 68 [some (.ref (ad (w_b w) 1000)), some (.int (nI s)), some (.int (oI (nxF (okF (s_I S 1123 1000) (s_A S 1010) P H s) (fun p => sumF fr (s_I S 1123 1000) (s_A S 1010) P H p s) n).1)), some (.long (nxF (okF (s_I S 1123 1000) (s_A S 1010) P H s) (fun p => sumF fr (s_I S 1123 1000) (s_A S 1010) P H p s) n).2), none, some (.int (nI n)), z6, z7] [] (gx_E w X (fun a S' => ∃ B' W' t', a = some (.int (oI (nextF fr (s_I S 1123 1000) (s_A S 1010) P H s))) ∧ S' = scw S B' W' t')) := by
        intro B W t z6 z7 hno
        refine g_iinc (pc := 68) (L' := [_, _, _, _, none, _, _, _]) C dX12_nextAboard_68 rfl (nI_1 _) rfl ?_
        refine g_goto (pc := 71) C 7 dX12_nextAboard_71 rfl ?_
        have := ih (n + 1) B W t z6 z7 (by omega)
        rw [show nxF (okF (s_I S 1123 1000) (s_A S 1010) P H s) (fun p => sumF fr (s_I S 1123 1000) (s_A S 1010) P H p s) (n + 1) = nxF (okF (s_I S 1123 1000) (s_A S 1010) P H s) (fun p => sumF fr (s_I S 1123 1000) (s_A S 1010) P H p s) n from if_neg hno] at this
        exact this
      refine g_iload (pc := 7) C dX12_nextAboard_7 rfl ?_
      refine g_aload_n (pc := 9) C dX12_nextAboard_9 rfl ?_
      refine mg_39 (pc := 10) C (by exact hm) dX12_nextAboard_10 ?_
      refine g_iconst (pc := 13) (v := nI 4) C dX12_nextAboard_13 (by decide) ?_
      refine n_iald (pc := 14) (k := 1010) (n := 190) C rfl rfl (by exact m_z hm rfl) isn_v rfl (by omega) dX12_nextAboard_14 ?_
      refine gx_ti (y := nI P) hP ?_
      refine g_icmp_ge (pc := 15) C 74 dX12_nextAboard_15 rfl (fun h => ?_) (fun h => ?_)
      · exact absurd h (nI_ge (by omega) (by omega))
      · refine g_iload_n (pc := 18) C dX12_nextAboard_18 rfl ?_
        refine g_iload (pc := 19) C dX12_nextAboard_19 rfl ?_
        refine cf_X12_308 (pc := 21) C (c_X12_isOfN _ _ _ s n hs (by omega)) ⟨rfl, rfl⟩ ⟨rfl, rfl⟩ ⟨Nat.zero_le _, Nat.zero_le _⟩ rfl (Nat.le_of_ble_eq_true rfl) dX12_nextAboard_21 ?_
        refine g_if_ne (pc := 24) C 68 dX12_nextAboard_24 rfl (fun h2 => ?_) (fun h2 => ?_)
        · have h2 : s.testBit n = true := Decidable.not_not.mp (fun q => h2 (bI_0.mpr q))
          exact skip B W t z6 z7 (fun q => absurd h2 (of_decide_eq_true q.1).1)
        · have h2 : ¬ s.testBit n = true := bI_0.mp (Decidable.not_not.mp h2)
          refine g_aload_n (pc := 27) C dX12_nextAboard_27 rfl ?_
          refine g_iload_n (pc := 28) C dX12_nextAboard_28 rfl ?_
          refine g_iconst (pc := 29) (v := nI 1) C dX12_nextAboard_29 (by decide) ?_
          refine g_iload (pc := 30) C dX12_nextAboard_30 rfl ?_
          refine g_ishl (pc := 32) C dX12_nextAboard_32 ?_
          refine gx_ti (shl_bit n (by omega)) ?_
          refine g_ior (pc := 33) C dX12_nextAboard_33 ?_
          refine gx_ti (or_set n (by omega) s hs).1 ?_
          refine cf_X12_343 (pc := 34) C rfl (by exact m_z hm rfl) (c_X12_canBoard _ _ _ (by exact hm) P H (by exact hp) (s ||| 2 ^ n) (or_lt s hs n (by omega))) ⟨rfl, rfl⟩ ⟨rfl, rfl⟩ ⟨Nat.zero_le _, Nat.zero_le _⟩ rfl (Nat.le_of_ble_eq_true rfl) dX12_nextAboard_34 ?_
          refine gx_ti (y := bI (canBF (s_A S 1010) P (fogF (s_I S 1123 1000) (s_A S 1010) H) (s ||| 2 ^ n))) rfl ?_
          refine g_if_ne (pc := 37) C 43 dX12_nextAboard_37 rfl (fun h3 => ?_) (fun h3 => ?_)
          · have h3 : canBF (s_A S 1010) P (fogF (s_I S 1123 1000) (s_A S 1010) H) (s ||| 2 ^ n) := Decidable.not_not.mp (fun q => h3 (bI_0.mpr q))
            have hok : okF (s_I S 1123 1000) (s_A S 1010) P H s n = true := decide_eq_true ⟨h2, h3⟩
            refine g_aload_n (pc := 43) C dX12_nextAboard_43 rfl ?_
            refine g_iload (pc := 44) C dX12_nextAboard_44 rfl ?_
            refine g_iload_n (pc := 46) C dX12_nextAboard_46 rfl ?_
            refine cg_X12_360 (pc := 47) C rfl (by exact m_z hm rfl) (c_X12_sumOf _ _ S hm P H hp n s (by omega) hs fr hfr B W t) ⟨rfl, rfl⟩ ⟨Nat.zero_le _, Nat.zero_le _⟩ rfl (Nat.le_of_ble_eq_true rfl) dX12_nextAboard_47 ?_
            rintro _ _ ⟨B', W', t', rfl, rfl⟩
            refine g_lstore (pc := 50) (L' := [_, _, _, _, _, some (.int _), _, _]) C dX12_nextAboard_50 rfl rfl ?_
            refine g_lload (pc := 52) C dX12_nextAboard_52 rfl ?_
            refine g_lload_n (pc := 54) C dX12_nextAboard_54 rfl ?_
            refine g_lcmp (pc := 55) C dX12_nextAboard_55 ?_
            refine g_if_gt (pc := 56) C 62 dX12_nextAboard_56 rfl (fun h4 => ?_) (fun h4 => ?_)
            · have h4 := lg_gt.mp h4
              refine g_iload (pc := 62) C dX12_nextAboard_62 rfl ?_
              refine g_istore_n (pc := 64) (L' := [_, some (.int _), _, _, _, _, _, _]) C dX12_nextAboard_64 rfl rfl ?_
              refine g_lload (pc := 65) C dX12_nextAboard_65 rfl ?_
              refine g_lstore_n (pc := 67) (L' := [_, _, some (.int _), _, _, _, _, _]) C dX12_nextAboard_67 rfl rfl ?_
              refine g_iinc (pc := 68) (L' := [_, _, _, _, none, _, _, _]) C dX12_nextAboard_68 rfl (nI_1 _) rfl ?_
              refine g_goto (pc := 71) C 7 dX12_nextAboard_71 rfl ?_
              have := ih (n + 1) B' W' t' (some (.long (sumF fr (s_I S 1123 1000) (s_A S 1010) P H n s))) none (by omega)
              rw [show nxF (okF (s_I S 1123 1000) (s_A S 1010) P H s) (fun p => sumF fr (s_I S 1123 1000) (s_A S 1010) P H p s) (n + 1) = (some n, sumF fr (s_I S 1123 1000) (s_A S 1010) P H n s) from if_pos ⟨hok, h4⟩] at this
              exact this
            · refine g_goto (pc := 59) C 68 dX12_nextAboard_59 rfl ?_
              exact skip B' W' t' _ _ (fun q => h4 (lg_gt.mpr q.2))
          · have h3 : ¬ canBF (s_A S 1010) P (fogF (s_I S 1123 1000) (s_A S 1010) H) (s ||| 2 ^ n) := bI_0.mp (Decidable.not_not.mp h3)
            refine g_goto (pc := 40) C 68 dX12_nextAboard_40 rfl ?_
            exact skip B W t z6 z7 (fun q => absurd (of_decide_eq_true q.1).2 h3)
  exact loop P 0 B W t _ _ (by omega)
/-- who comes aboard, one behind the other -/
def tripF (nx : Nat → Option Nat) : Nat → Nat → Nat
  | 0, s => s
  | k + 1, s => match nx s with
    | none => s
    | some p => tripF nx k (s ||| 2 ^ p)
def setF (fr : Option ((Nat → Int64) → Int64)) (drawn : Int32) (said : Nat → Int32) (P H : Nat) : Nat := tripF (nextF fr drawn said P H) 128 0
def passF (fr : Option ((Nat → Int64) → Int64)) (drawn : Int32) (said : Nat → Int32) (P H : Nat) : Nat → Int32 := if setF fr drawn said P H ≠ 0 ∨ canBF said P (fogF drawn said H) 0 then goF drawn said P H (setF fr drawn said P H) else upd said 10 (said 10 + nI 1)
theorem c_X12_passes (w : Wd) (l : Launch) (S : St) (hm : gx_m S) (P H : Nat) (hp : gx_p S P H) (fr : Option ((Nat → Int64) → Int64)) (hfr : frW S fr) (B W : Nat → Int64) (t : Int32) : gx_M w l yX12_passes cX12_passes 3 (some .int) rmX12_passes [.ref (ad (w_b w) 1000)] (scw S B W t) (fun a S' => ∃ B' W' t', a = some (.int (nI (setF fr (s_I S 1123 1000) (s_A S 1010) P H))) ∧ S' = scw (s_setA S 1010 (passF fr (s_I S 1123 1000) (s_A S 1010) P H)) B' W' t') := by
  obtain ⟨hP, hP7, hH, hH2⟩ := id hp
  refine gx_start rfl 2 rfl (Nat.le_of_ble_eq_true rfl) ?_
  intro X C _ hl
  subst hl
  refine gx_L (L' := [_, _, _]) rfl ?_
  refine g_iconst (pc := 0) (v := nI 0) C dX12_passes_0 (by decide) ?_
  refine g_istore_n (pc := 1) (L' := [some (.ref _), _, _]) C dX12_passes_1 rfl rfl ?_
  refine g_aload_n (pc := 2) C dX12_passes_2 rfl ?_
  refine g_iconst (pc := 3) (v := nI 0) C dX12_passes_3 (by decide) ?_
  have tail : ∀ s B W t z, s < 128 → s = setF fr (s_I S 1123 1000) (s_A S 1010) P H → gx_G w X (scw S B W t) 0 0 27 [some (.ref (ad (w_b w) 1000)), some (.int (nI s)), z] [] (gx_E w X (fun a S' => ∃ B' W' t', a = some (.int (nI (setF fr (s_I S 1123 1000) (s_A S 1010) P H))) ∧ S' = scw (s_setA S 1010 (passF fr (s_I S 1123 1000) (s_A S 1010) P H)) B' W' t')) := by
    intro s B W t z hs hset
    have cross : (s ≠ 0 ∨ canBF (s_A S 1010) P (fogF (s_I S 1123 1000) (s_A S 1010) H) 0) → gx_G w X (scw S B W t) 0 0 39 [some (.ref (ad (w_b w) 1000)), some (.int (nI s)), z] [] (gx_E w X (fun a S' => ∃ B' W' t', a = some (.int (nI (setF fr (s_I S 1123 1000) (s_A S 1010) P H))) ∧ S' = scw (s_setA S 1010 (passF fr (s_I S 1123 1000) (s_A S 1010) P H)) B' W' t')) := by
      intro hgo
      refine g_aload_n (pc := 39) C dX12_passes_39 rfl ?_
      refine g_iload_n (pc := 40) C dX12_passes_40 rfl ?_
      refine cf_X12_367 (pc := 41) C rfl (by exact m_z hm rfl) (c_X12_goesOver _ _ _ (by exact hm) P H (by exact hp) s hs) ⟨rfl, rfl⟩ ⟨rfl, rfl⟩ ⟨Nat.zero_le _, Nat.zero_le _⟩ rfl (Nat.le_of_ble_eq_true rfl) dX12_passes_41 ?_
      refine g_pop (pc := 44) C dX12_passes_44 rfl ?_
      refine g_goto (pc := 45) C 59 dX12_passes_45 rfl ?_
      refine g_iload_n (pc := 59) C dX12_passes_59 rfl ?_
      exact g_ireturn (pc := 60) C ⟨rfl, rfl⟩ dX12_passes_60 ⟨B, W, t, by rw [hset], by unfold passF; rw [if_pos (by rw [← hset]; exact hgo), ← hset]; rfl⟩
    refine g_iload_n (pc := 27) C dX12_passes_27 rfl ?_
    refine g_if_ne (pc := 28) C 39 dX12_passes_28 rfl (fun h => ?_) (fun h => ?_)
    · exact cross (Or.inl (fun q => h (by rw [q]; rfl)))
    · have h0 : s = 0 := (nI_eq (b := 0) (by omega) (by omega)).mp (Decidable.not_not.mp h)
      refine g_aload_n (pc := 31) C dX12_passes_31 rfl ?_
      refine g_iconst (pc := 32) (v := nI 0) C dX12_passes_32 (by decide) ?_
      refine cf_X12_343 (pc := 33) C rfl (by exact m_z hm rfl) (c_X12_canBoard _ _ _ (by exact hm) P H (by exact hp) 0 (by omega)) ⟨rfl, rfl⟩ ⟨rfl, rfl⟩ ⟨Nat.zero_le _, Nat.zero_le _⟩ rfl (Nat.le_of_ble_eq_true rfl) dX12_passes_33 ?_
      refine gx_ti (y := bI (canBF (s_A S 1010) P (fogF (s_I S 1123 1000) (s_A S 1010) H) 0)) rfl ?_
      refine g_if_eq (pc := 36) C 48 dX12_passes_36 rfl (fun h2 => ?_) (fun h2 => ?_)
      · have h2 := bI_0.mp h2
        refine g_aload_n (pc := 48) C dX12_passes_48 rfl ?_
        refine mg_39 (pc := 49) C (by exact hm) dX12_passes_49 ?_
        refine g_bipush (pc := 52) (v := nI 10) C dX12_passes_52 (by decide) ?_
        refine g_dup2 (pc := 54) C dX12_passes_54 rfl rfl ?_
        refine n_iald (pc := 55) (k := 1010) (n := 190) C rfl rfl (by exact m_z hm rfl) isn_v rfl (by omega) dX12_passes_55 ?_
        refine g_iconst (pc := 56) (v := nI 1) C dX12_passes_56 (by decide) ?_
        refine g_iadd (pc := 57) C dX12_passes_57 ?_
        refine n_iast (pc := 58) (k := 1010) (n := 190) C rfl rfl (by exact m_z hm rfl) isn_v rfl (by omega) dX12_passes_58 ?_
        refine g_iload_n (pc := 59) C dX12_passes_59 rfl ?_
        exact g_ireturn (pc := 60) C ⟨rfl, rfl⟩ dX12_passes_60 ⟨B, W, t, by rw [hset], by unfold passF; rw [if_neg (by rw [← hset, h0]; exact fun q => q.elim (fun z => z rfl) h2)]; rfl⟩
      · exact cross (Or.inr (Decidable.not_not.mp (fun q => h2 (bI_0.mpr q))))
  have loop : ∀ k s j B W t, s + k = 128 → k ≤ j → tripF (nextF fr (s_I S 1123 1000) (s_A S 1010) P H) j s = setF fr (s_I S 1123 1000) (s_A S 1010) P H → 0 < k → gx_G w X (scw S B W t) 0 0 8 [some (.ref (ad (w_b w) 1000)), some (.int (nI s)), some (.int (oI (nextF fr (s_I S 1123 1000) (s_A S 1010) P H s)))] [] (gx_E w X (fun a S' => ∃ B' W' t', a = some (.int (nI (setF fr (s_I S 1123 1000) (s_A S 1010) P H))) ∧ S' = scw (s_setA S 1010 (passF fr (s_I S 1123 1000) (s_A S 1010) P H)) B' W' t')) := by
    intro k
    induction k using Nat.strongRecOn with
    | _ k ih =>
      intro s j B W t hk hj htr hpos
      obtain ⟨j, rfl⟩ : ∃ j', j = j' + 1 := ⟨j - 1, by omega⟩
      simp only [tripF] at htr
      refine g_iload_n (pc := 8) C dX12_passes_8 rfl ?_
      cases hnx : nextF fr (s_I S 1123 1000) (s_A S 1010) P H s with
      | none =>
        rw [hnx] at htr
        refine g_if_lt (pc := 9) C 27 dX12_passes_9 rfl (fun h => ?_) (fun h => ?_)
        · exact tail s B W t _ (by omega) htr
        · exact absurd (by decide) h
      | some p =>
        rw [hnx] at htr
        obtain ⟨hpP, hok⟩ := nxF_some hnx
        have hnb : s.testBit p = false := by
          have := (of_decide_eq_true hok).1
          simpa using this
        obtain ⟨e1, e2, e3⟩ := or_set p (by omega) s (by omega)
        have e3 := e3 hnb
        refine g_if_lt (pc := 9) C 27 dX12_passes_9 rfl (fun h => ?_) (fun h => ?_)
        · exact absurd h (nI_pos (by omega))
        · refine g_iload_n (pc := 12) C dX12_passes_12 rfl ?_
          refine g_iconst (pc := 13) (v := nI 1) C dX12_passes_13 (by decide) ?_
          refine g_iload_n (pc := 14) C dX12_passes_14 rfl ?_
          refine g_ishl (pc := 15) C dX12_passes_15 ?_
          refine gx_ti (shl_bit p (by omega)) ?_
          refine g_ior (pc := 16) C dX12_passes_16 ?_
          refine gx_ti e1 ?_
          refine g_istore_n (pc := 17) (L' := [some (.ref _), _, _]) C dX12_passes_17 rfl rfl ?_
          refine g_aload_n (pc := 18) C dX12_passes_18 rfl ?_
          refine g_iload_n (pc := 19) C dX12_passes_19 rfl ?_
          refine cg_X12_364 (pc := 20) C rfl (by exact m_z hm rfl) (c_X12_nextAboard _ _ S hm P H hp (s ||| 2 ^ p) e2 fr hfr B W t) ⟨rfl, rfl⟩ ⟨Nat.zero_le _, Nat.zero_le _⟩ rfl (Nat.le_of_ble_eq_true rfl) dX12_passes_20 ?_
          rintro _ _ ⟨B', W', t', rfl, rfl⟩
          refine g_istore_n (pc := 23) (L' := [_, some (.int _), _]) C dX12_passes_23 rfl rfl ?_
          refine g_goto (pc := 24) C 8 dX12_passes_24 rfl ?_
          exact ih (128 - (s ||| 2 ^ p)) (by omega) (s ||| 2 ^ p) j B' W' t' (by omega) (by omega) htr (by omega)
  refine cg_X12_364 (pc := 4) C rfl (by exact m_z hm rfl) (c_X12_nextAboard _ _ S hm P H hp 0 (by omega) fr hfr B W t) ⟨rfl, rfl⟩ ⟨Nat.zero_le _, Nat.zero_le _⟩ rfl (Nat.le_of_ble_eq_true rfl) dX12_passes_4 ?_
  rintro _ _ ⟨B', W', t', rfl, rfl⟩
  refine g_istore_n (pc := 7) (L' := [_, some (.int _), _]) C dX12_passes_7 rfl rfl ?_
  exact loop 128 0 128 B' W' t' rfl (Nat.le_refl _) rfl (by omega)
