/-! ===== the reference: by which rules it was so ===== -/
def ntF (said : Nat → Int32) (n : Int32) : Nat → Nat → Bool
  | 0, _ => true
  | k + 1, q => if said (159 + 3 * q) = n ∧ ¬ said (21 + (said (159 + 3 * q + 1)).toNatClampNeg) = said (159 + 3 * q + 2) then false else ntF said n k (q + 1)
/-- the notes: m of them, each of a PERSON -/
def gx_nt (said : Nat → Int32) (m : Nat) : Prop := said 189 = nI m ∧ m ≤ 10 ∧ ∀ q, q < m → ∃ j, j < 7 ∧ said (159 + 3 * q + 1) = nI j
theorem c_X12_areNotesSo (w : Wd) (l : Launch) (S : St) (hm : gx_m S) (m : Nat) (hn : gx_nt (s_A S 1010) m) (n : Int32) : gx_M w l yX12_areNotesSo cX12_areNotesSo 3 (some .boolean) rmX12_areNotesSo [.ref (ad (w_b w) 1000), .int n] S (pI (bI (ntF (s_A S 1010) n m 0 = true)) S) := by
  obtain ⟨h189, hm10, hq⟩ := hn
  refine gx_start rfl 1 rfl (Nat.le_of_ble_eq_true rfl) ?_
  intro X C _ hl
  subst hl
  refine gx_L (L' := [_, _, _]) rfl ?_
  refine g_iconst (pc := 0) (v := nI 0) C dX12_areNotesSo_0 (by decide) ?_
  refine g_istore_n (pc := 1) (L' := [_, some (.int _), _]) C dX12_areNotesSo_1 rfl rfl ?_
  have loop : ∀ k q, q + k = m → ntF (s_A S 1010) n m 0 = ntF (s_A S 1010) n k q → gx_G w X S 0 0 2 [some (.ref (ad (w_b w) 1000)), some (.int n), some (.int (nI (3 * q)))] [] (gx_E w X (pI (bI (ntF (s_A S 1010) n m 0 = true)) S)) := by
    intro k
    induction k with
    | zero =>
      intro q hk hr
      have hk : q = m := hk
      subst hk
      refine g_iload_n (pc := 2) C dX12_areNotesSo_2 rfl ?_
      refine g_iconst (pc := 3) (v := nI 3) C dX12_areNotesSo_3 (by decide) ?_
      refine g_aload_n (pc := 4) C dX12_areNotesSo_4 rfl ?_
      refine mg_39 (pc := 5) C (by exact hm) dX12_areNotesSo_5 ?_
      refine g_sipush (pc := 8) (v := nI 189) C dX12_areNotesSo_8 (by decide) ?_
      refine n_iald (pc := 11) (k := 1010) (n := 190) C rfl rfl (by exact m_z hm rfl) isn_v rfl (by omega) dX12_areNotesSo_11 ?_
      refine gx_ti h189 ?_
      refine g_imul (pc := 12) C dX12_areNotesSo_12 ?_
      refine gx_ti (pk_mul 3 q) ?_
      refine g_icmp_ge (pc := 13) C 73 dX12_areNotesSo_13 rfl (fun h => ?_) (fun h => ?_)
      · refine g_iconst (pc := 73) (v := nI 1) C dX12_areNotesSo_73 (by decide) ?_
        exact g_zreturn (pc := 74) C ⟨rfl, rfl⟩ (by first | exact Or.inl rfl | exact Or.inr rfl) dX12_areNotesSo_74 (pI_t (by rw [hr]; rfl))
      · exact absurd (nI_le (Nat.le_refl _) (by omega)) h
    | succ k ih =>
      intro q hk hr
      obtain ⟨j, hj, ej⟩ := hq q (by omega)
      have ejc : (s_A S 1010 (159 + 3 * q + 1)).toNatClampNeg = j := by rw [ej]; exact nI_clamp (by omega)
      simp only [ntF] at hr
      rw [ejc] at hr
      refine g_iload_n (pc := 2) C dX12_areNotesSo_2 rfl ?_
      refine g_iconst (pc := 3) (v := nI 3) C dX12_areNotesSo_3 (by decide) ?_
      refine g_aload_n (pc := 4) C dX12_areNotesSo_4 rfl ?_
      refine mg_39 (pc := 5) C (by exact hm) dX12_areNotesSo_5 ?_
      refine g_sipush (pc := 8) (v := nI 189) C dX12_areNotesSo_8 (by decide) ?_
      refine n_iald (pc := 11) (k := 1010) (n := 190) C rfl rfl (by exact m_z hm rfl) isn_v rfl (by omega) dX12_areNotesSo_11 ?_
      refine gx_ti h189 ?_
      refine g_imul (pc := 12) C dX12_areNotesSo_12 ?_
      refine gx_ti (pk_mul 3 m) ?_
      refine g_icmp_ge (pc := 13) C 73 dX12_areNotesSo_13 rfl (fun h => ?_) (fun h => ?_)
      · exact absurd h (nI_ge (by omega) (by omega))
      · have next : ¬ (s_A S 1010 (159 + 3 * q) = n ∧ ¬ s_A S 1010 (21 + j) = s_A S 1010 (159 + 3 * q + 2)) → gx_G w X S 0 0 67 [some (.ref (ad (w_b w) 1000)), some (.int n), some (.int (nI (3 * q)))] [] (gx_E w X (pI (bI (ntF (s_A S 1010) n m 0 = true)) S)) := by
          intro hno
          rw [if_neg hno] at hr
          refine g_iinc (pc := 67) (L' := [_, some (.int _), _]) C dX12_areNotesSo_67 rfl (nI_add (3 * q) 3) rfl ?_
          refine g_goto (pc := 70) C 2 dX12_areNotesSo_70 rfl ?_
          exact ih (q + 1) (by omega) hr
        refine g_aload_n (pc := 16) C dX12_areNotesSo_16 rfl ?_
        refine mg_39 (pc := 17) C (by exact hm) dX12_areNotesSo_17 ?_
        refine g_sipush (pc := 20) (v := nI 159) C dX12_areNotesSo_20 (by decide) ?_
        refine g_iload_n (pc := 23) C dX12_areNotesSo_23 rfl ?_
        refine g_iadd (pc := 24) C dX12_areNotesSo_24 ?_
        refine n_iald (pc := 25) (k := 1010) (n := 190) C rfl rfl (by exact m_z hm rfl) (isn_add isn_v isn_v) rfl (by omega) dX12_areNotesSo_25 ?_
        refine g_iload_n (pc := 26) C dX12_areNotesSo_26 rfl ?_
        refine g_icmp_ne (pc := 27) C 67 dX12_areNotesSo_27 rfl (fun h2 => ?_) (fun h2 => ?_)
        · exact next (fun z => h2 z.1)
        · have h2 := Decidable.not_not.mp h2
          refine g_aload_n (pc := 30) C dX12_areNotesSo_30 rfl ?_
          refine mg_39 (pc := 31) C (by exact hm) dX12_areNotesSo_31 ?_
          refine g_bipush (pc := 34) (v := nI 21) C dX12_areNotesSo_34 (by decide) ?_
          refine g_aload_n (pc := 36) C dX12_areNotesSo_36 rfl ?_
          refine mg_39 (pc := 37) C (by exact hm) dX12_areNotesSo_37 ?_
          refine g_sipush (pc := 40) (v := nI 159) C dX12_areNotesSo_40 (by decide) ?_
          refine g_iload_n (pc := 43) C dX12_areNotesSo_43 rfl ?_
          refine g_iadd (pc := 44) C dX12_areNotesSo_44 ?_
          refine g_iconst (pc := 45) (v := nI 1) C dX12_areNotesSo_45 (by decide) ?_
          refine g_iadd (pc := 46) C dX12_areNotesSo_46 ?_
          refine n_iald (pc := 47) (k := 1010) (n := 190) C rfl rfl (by exact m_z hm rfl) (isn_add (isn_add isn_v isn_v) isn_v) rfl (by omega) dX12_areNotesSo_47 ?_
          refine gx_ti ej ?_
          refine g_iadd (pc := 48) C dX12_areNotesSo_48 ?_
          refine n_iald (pc := 49) (k := 1010) (n := 190) C rfl rfl (by exact m_z hm rfl) (isn_add isn_v isn_v) rfl (by omega) dX12_areNotesSo_49 ?_
          refine g_aload_n (pc := 50) C dX12_areNotesSo_50 rfl ?_
          refine mg_39 (pc := 51) C (by exact hm) dX12_areNotesSo_51 ?_
          refine g_sipush (pc := 54) (v := nI 159) C dX12_areNotesSo_54 (by decide) ?_
          refine g_iload_n (pc := 57) C dX12_areNotesSo_57 rfl ?_
          refine g_iadd (pc := 58) C dX12_areNotesSo_58 ?_
          refine g_iconst (pc := 59) (v := nI 2) C dX12_areNotesSo_59 (by decide) ?_
          refine g_iadd (pc := 60) C dX12_areNotesSo_60 ?_
          refine n_iald (pc := 61) (k := 1010) (n := 190) C rfl rfl (by exact m_z hm rfl) (isn_add (isn_add isn_v isn_v) isn_v) rfl (by omega) dX12_areNotesSo_61 ?_
          refine g_icmp_eq (pc := 62) C 67 dX12_areNotesSo_62 rfl (fun h3 => ?_) (fun h3 => ?_)
          · exact next (fun z => z.2 h3)
          · refine g_iconst (pc := 65) (v := nI 0) C dX12_areNotesSo_65 (by decide) ?_
            exact g_zreturn (pc := 66) C ⟨rfl, rfl⟩ (by first | exact Or.inl rfl | exact Or.inr rfl) dX12_areNotesSo_66 (pI_f (by rw [hr, if_pos ⟨h2, h3⟩]; exact fun z => Bool.noConfusion z))
  exact loop m 0 (by omega) rfl
def frOf (Fs : Nat → (Nat → Int64) → Int64) (r : Nat) : Option ((Nat → Int64) → Int64) := match r with
  | 0 => none
  | k + 1 => some (Fs k)
def fitF (fr : Option ((Nat → Int64) → Int64)) (drawn : Int32) (said : Nat → Int32) (P m : Nat) : Nat → Bool
  | 0 => true
  | n + 1 => fitF fr drawn said P m n && ntF (pnF fr drawn (begF said) P 0 (n + 1)) (nI n) m 0
def ffU (K : St) (f g sd : Nat → Int32) (fc : Int32) : St := s_setI (s_setA (s_setA (s_setA K 1020 f) 1021 g) 1010 sd) 1121 1000 fc
theorem ff_I (K : St) (f g sd : Nat → Int32) (fc v : Int32) (B W : Nat → Int64) (t : Int32) : s_setI (scw (ffU K f g sd fc) B W t) 1121 1000 v = scw (ffU K f g sd v) B W t := by
  have : u2 (u2 (u2 (s_I K) 1121 1000 fc) 1118 1000 t) 1121 1000 v = u2 (u2 (s_I K) 1121 1000 v) 1118 1000 t := by
    funext g j; unfold u2
    by_cases e : g = 1121
    · subst e; simp
      split <;> rfl
    · simp [e]
  show (_, _, _, _, u2 (u2 (u2 (s_I K) 1121 1000 fc) 1118 1000 t) 1121 1000 v, _, _, _, _) = _
  rw [this]; rfl
theorem ff_A (K : St) (f g sd h : Nat → Int32) (fc : Int32) : s_setA (ffU K f g sd fc) 1010 h = ffU K f g h fc := by
  show s_setI (s_setA (s_setA (s_setA (s_setA K 1020 f) 1021 g) 1010 sd) 1010 h) 1121 1000 fc = _
  rw [s_AA]; rfl
theorem ff_G (K : St) (f g sd h : Nat → Int32) (fc : Int32) : s_setA (ffU K f g sd fc) 1021 h = ffU K f h sd fc := by
  show s_setI (s_setA (s_setA (s_setA (s_setA K 1020 f) 1021 g) 1010 sd) 1021 h) 1121 1000 fc = _
  rw [s_AA2 _ 1010 1021 _ _ (by decide), s_AA]; rfl
theorem ff_F (K : St) (f g sd h : Nat → Int32) (fc : Int32) : s_setA (ffU K f g sd fc) 1020 h = ffU K h g sd fc := by
  show s_setI (s_setA (s_setA (s_setA (s_setA K 1020 f) 1021 g) 1010 sd) 1020 h) 1121 1000 fc = _
  rw [s_AA2 _ 1010 1020 _ _ (by decide), s_AA2 _ 1021 1020 _ _ (by decide), s_AA]; rfl
theorem ffs_A (K : St) (f g sd h : Nat → Int32) (fc : Int32) (B W : Nat → Int64) (t : Int32) : s_setA (scw (ffU K f g sd fc) B W t) 1010 h = scw (ffU K f g h fc) B W t := by
  rw [scw_setA, ff_A]
theorem ffs_G (K : St) (f g sd h : Nat → Int32) (fc : Int32) (B W : Nat → Int64) (t : Int32) : s_setA (scw (ffU K f g sd fc) B W t) 1021 h = scw (ffU K f h sd fc) B W t := by
  rw [← ff_G K f g sd h fc]; rfl
theorem ffs_F (K : St) (f g sd h : Nat → Int32) (fc : Int32) (B W : Nat → Int64) (t : Int32) : s_setA (scw (ffU K f g sd fc) B W t) 1020 h = scw (ffU K h g sd fc) B W t := by
  rw [← ff_F K f g sd h fc]; rfl
theorem ff_rA (K : St) (f g sd : Nat → Int32) (fc : Int32) (B W : Nat → Int64) (t : Int32) : s_A (scw (ffU K f g sd fc) B W t) 1010 = sd := rfl
theorem ff_rF (K : St) (f g sd : Nat → Int32) (fc : Int32) (B W : Nat → Int64) (t : Int32) : s_A (scw (ffU K f g sd fc) B W t) 1020 = f := rfl
theorem ff_rG (K : St) (f g sd : Nat → Int32) (fc : Int32) (B W : Nat → Int64) (t : Int32) : s_A (scw (ffU K f g sd fc) B W t) 1021 = g := rfl
theorem ff_uA (K : St) (f g sd : Nat → Int32) (fc : Int32) : s_A (ffU K f g sd fc) 1010 = sd := rfl
theorem ff_uD (K : St) (f g sd : Nat → Int32) (fc : Int32) : s_I (ffU K f g sd fc) 1123 1000 = s_I K 1123 1000 := rfl
theorem keep_D (S : St) : s_I (keepS S) 1123 1000 = s_I S 1123 1000 := rfl
theorem pnF_s0 (fr : Option ((Nat → Int64) → Int64)) (d : Int32) (sd : Nat → Int32) (P n : Nat) : pnF fr d sd P 0 (n + 1) = passF fr d (pnF fr d sd P 0 n) P n := by
  show passF fr d (pnF fr d sd P 0 n) P (0 + n) = _
  rw [Nat.zero_add]
theorem begF_out {said sd : Nat → Int32} (h : ∀ j, (j < 10 ∨ 28 ≤ j) → sd j = said j) : begF sd = begF said := by
  funext j
  simp only [begF, begB, begA]
  (repeat' split) <;> first | rfl | (exfalso; omega) | exact h _ (by omega)
theorem begF_lo {said : Nat → Int32} {j : Nat} (h : j < 10 ∨ 28 ≤ j) : begF said j = said j := by
  simp only [begF, begB, begA]
  (repeat' split) <;> first | rfl | (exfalso; omega)
theorem begF_hour {said : Nat → Int32} : begF said 10 = nI 0 := by
  simp only [begF, begB, begA]
  rw [if_neg (by omega), if_neg (by omega), if_pos (by omega)]
theorem nar_bI {p : Prop} [Decidable p] : vp_nar .boolean (bI p) = bI p := by
  unfold bI; split <;> rfl
theorem c_X12_fillsFits (w : Wd) (l : Launch) (S : St) (hm : gx_m S) (P H : Nat) (hp : gx_p S P H) (m : Nat) (hn : gx_nt (s_A S 1010) m) (nr : Nat) (hnr : s_I S 1102 1000 = nI nr) (hnr6 : nr ≤ 6) (Fs : Nat → (Nat → Int64) → Int64) (hFs : ∀ r, r < nr → ruleW S r (Fs r)) (th : Nat) (hth : th ≤ 60) : gx_M w l yX12_fillsFits cX12_fillsFits 7 none rmX12_fillsFits [.ref (ad (w_b w) 1000), .int (nI th)] S (fun a S' => a = none ∧ ∃ f g B' W' t', S' = scw (s_setA (s_setA (keepS S) 1020 f) 1021 g) B' W' t' ∧ (∀ r, r ≤ nr → f r = bI (fitF (frOf Fs r) (s_I S 1123 1000) (s_A S 1010) P m 61 = true)) ∧ ∀ r, r ≤ nr → ∀ p, p < 7 → g (7 * r + p) = pnF (frOf Fs r) (s_I S 1123 1000) (begF (s_A S 1010)) P 0 (th + 1) (21 + p)) := by
  obtain ⟨hP, hP7, hH, hH2⟩ := id hp
  have hmK : gx_m (keepS S) := hm
  generalize hq : (fun (a : Option Value) (S' : St) => a = none ∧ ∃ f g B' W' t', S' = scw (s_setA (s_setA (keepS S) 1020 f) 1021 g) B' W' t' ∧ (∀ r, r ≤ nr → f r = bI (fitF (frOf Fs r) (s_I S 1123 1000) (s_A S 1010) P m 61 = true)) ∧ ∀ r, r ≤ nr → ∀ p, p < 7 → g (7 * r + p) = pnF (frOf Fs r) (s_I S 1123 1000) (begF (s_A S 1010)) P 0 (th + 1) (21 + p)) = post
  refine gx_start rfl 5 rfl (Nat.le_of_ble_eq_true rfl) ?_
  intro X C _ hl
  subst hl
  refine gx_L (L' := [_, _, _, _, _, _, _]) rfl ?_
  refine g_aload_n (pc := 0) C dX12_fillsFits_0 rfl ?_
  refine mg_42 (pc := 1) C (by exact hm) dX12_fillsFits_1 ?_
  refine g_istore_n (pc := 4) (L' := [_, some (.int _), _, _, _, _, _]) C dX12_fillsFits_4 rfl rfl ?_
  refine g_aload_n (pc := 5) C dX12_fillsFits_5 rfl ?_
  refine cf_X12_385 (pc := 6) C rfl (by exact m_z hm rfl) (c_X12_keeps _ _ _ (by exact hm)) ⟨rfl, rfl⟩ ⟨rfl, rfl⟩ ⟨Nat.zero_le _, Nat.zero_le _⟩ rfl (Nat.le_of_ble_eq_true rfl) dX12_fillsFits_6 ?_
  refine g_iconst (pc := 9) (v := nI 0) C dX12_fillsFits_9 (by decide) ?_
  refine g_istore_n (pc := 10) (L' := [_, _, some (.int _), _, _, _, _]) C dX12_fillsFits_10 rfl rfl ?_
  refine gx_S (S' := scw (ffU (keepS S) (s_A S 1020) (s_A S 1021) (s_A S 1010) (s_I S 1121 1000)) (s_B S 1008) (s_B S 1009) (s_I S 1118 1000)) ?_ ?_
  · have e : ffU (keepS S) (s_A S 1020) (s_A S 1021) (s_A S 1010) (s_I S 1121 1000) = keepS S := by
      unfold ffU
      rw [show s_setA (keepS S) 1020 (s_A S 1020) = keepS S from s_A_id (keepS S) 1020, show s_setA (keepS S) 1021 (s_A S 1021) = keepS S from s_A_id (keepS S) 1021, show s_setA (keepS S) 1010 (s_A S 1010) = keepS S from s_A_id (keepS S) 1010]
      exact s_I_id (keepS S) 1121 1000
    rw [e]
    exact (scw_id (keepS S)).symm
  have hmA : ∀ f g sd fc B W t, gx_m (scw (ffU (keepS S) f g sd fc) B W t) := fun f g sd fc B W t => hm
  have outer : ∀ k r f g sd fc z4 z5 z6 B W t, r + k = nr + 1 → (∀ j, (j < 10 ∨ 28 ≤ j) → sd j = s_A S 1010 j) → (∀ q, q < r → f q = bI (fitF (frOf Fs q) (s_I S 1123 1000) (s_A S 1010) P m 61 = true)) → (∀ q, q < r → ∀ p, p < 7 → g (7 * q + p) = pnF (frOf Fs q) (s_I S 1123 1000) (begF (s_A S 1010)) P 0 (th + 1) (21 + p)) → gx_G w X (scw (ffU (keepS S) f g sd fc) B W t) 0 0 11 [some (.ref (ad (w_b w) 1000)), some (.int (nI th)), some (.int (s_I S 1121 1000)), some (.int (nI r)), z4, z5, z6] [] (gx_E w X post) := by
    intro k
    induction k with
    | zero =>
      intro r f g sd fc z4 z5 z6 B W t hr hsd hf hg
      refine g_iload_n (pc := 11) C dX12_fillsFits_11 rfl ?_
      refine g_aload_n (pc := 12) C dX12_fillsFits_12 rfl ?_
      refine mg_270 (pc := 13) C (hmA _ _ _ _ _ _ _) dX12_fillsFits_13 ?_
      refine gx_ti (y := nI nr) hnr ?_
      refine g_icmp_gt (pc := 16) C 133 dX12_fillsFits_16 rfl (fun h => ?_) (fun h => ?_)
      · refine g_aload_n (pc := 133) C dX12_fillsFits_133 rfl ?_
        refine g_iload_n (pc := 134) C dX12_fillsFits_134 rfl ?_
        refine mp_42 (pc := 135) C (hmA _ _ _ _ _ _ _) dX12_fillsFits_135 ?_
        refine gx_S (ff_I _ _ _ _ _ _ B W t) ?_
        refine g_aload_n (pc := 138) C dX12_fillsFits_138 rfl ?_
        refine cf_X12_388 (pc := 139) C rfl (m_z (hmA _ _ _ _ _ _ _) rfl) (c_X12_laysBack _ _ _ (hmA _ _ _ _ _ _ _)) ⟨rfl, rfl⟩ ⟨rfl, rfl⟩ ⟨Nat.zero_le _, Nat.zero_le _⟩ rfl (Nat.le_of_ble_eq_true rfl) dX12_fillsFits_139 ?_
        have elay : layS (scw (ffU (keepS S) f g sd (s_I S 1121 1000)) B W t) = scw (s_setA (s_setA (keepS S) 1020 f) 1021 g) B W t := by
          have e1 : layS (ffU (keepS S) f g sd (s_I S 1121 1000)) = s_setA (s_setA (keepS S) 1020 f) 1021 g := by
            have e2 : va_cpy (s_A (keepS S) 1012) sd 0 10 18 = s_A S 1010 := by
              funext j
              show (if 10 ≤ j ∧ j < 10 + 18 then (if 0 ≤ 0 + (j - 10) ∧ 0 + (j - 10) < 0 + 18 then s_A S 1010 (10 + (0 + (j - 10) - 0)) else s_A S 1012 (0 + (j - 10))) else sd j) = s_A S 1010 j
              split
              · rw [if_pos (by omega)]
                congr 1; omega
              · exact hsd j (by omega)
            show s_setA (ffU (keepS S) f g sd (s_I S 1121 1000)) 1010 (va_cpy (s_A (keepS S) 1012) sd 0 10 18) = _
            rw [e2, ff_A]
            unfold ffU
            rw [show s_setA (s_setA (s_setA (keepS S) 1020 f) 1021 g) 1010 (s_A S 1010) = s_setA (s_setA (keepS S) 1020 f) 1021 g from s_A_id (s_setA (s_setA (keepS S) 1020 f) 1021 g) 1010]
            exact s_I_id (s_setA (s_setA (keepS S) 1020 f) 1021 g) 1121 1000
          rw [← e1]; rfl
        refine gx_S elay ?_
        subst hq
        exact g_return (pc := 142) C ⟨rfl, rfl⟩ dX12_fillsFits_142 ⟨rfl, f, g, B, W, t, rfl, fun q hq => hf q (by omega), fun q hq => hg q (by omega)⟩
      · exact absurd (nI_lt (show nr < r by omega) (by omega)) h
    | succ k ih =>
      intro r f g sd fc z4 z5 z6 B W t hr hsd hf hg
      refine g_iload_n (pc := 11) C dX12_fillsFits_11 rfl ?_
      refine g_aload_n (pc := 12) C dX12_fillsFits_12 rfl ?_
      refine mg_270 (pc := 13) C (hmA _ _ _ _ _ _ _) dX12_fillsFits_13 ?_
      refine gx_ti (y := nI nr) hnr ?_
      refine g_icmp_gt (pc := 16) C 133 dX12_fillsFits_16 rfl (fun h => ?_) (fun h => ?_)
      · exact absurd h (nI_nlt (by omega) (by omega))
      · refine g_aload_n (pc := 19) C dX12_fillsFits_19 rfl ?_
        refine g_iload_n (pc := 20) C dX12_fillsFits_20 rfl ?_
        refine g_iconst (pc := 21) (v := nI 1) C dX12_fillsFits_21 (by decide) ?_
        refine g_isub (pc := 22) C dX12_fillsFits_22 ?_
        have hfc : ∃ fv : Int32, fv = nI r - nI 1 ∧ ∀ sd2, frW (ffU (keepS S) f g sd2 fv) (frOf Fs r) := by
          refine ⟨_, rfl, fun sd2 => ?_⟩
          cases r with
          | zero => rfl
          | succ q => exact ⟨q, by omega, nI_pred q, hFs q (by omega)⟩
        obtain ⟨fv, hfv, hfr⟩ := hfc
        refine gx_ti (y := fv) hfv.symm ?_
        refine mp_42 (pc := 23) C (hmA _ _ _ _ _ _ _) dX12_fillsFits_23 ?_
        refine gx_S (ff_I _ _ _ _ _ _ B W t) ?_
        refine g_aload_n (pc := 26) C dX12_fillsFits_26 rfl ?_
        refine cf_X12_276 (pc := 27) C rfl (m_z (hmA _ _ _ _ _ _ _) rfl) (c_X12_begins _ _ (scw (ffU (keepS S) f g sd fv) B W t) (hmA _ _ _ _ _ _ _)) ⟨rfl, rfl⟩ ⟨rfl, rfl⟩ ⟨Nat.zero_le _, Nat.zero_le _⟩ rfl (Nat.le_of_ble_eq_true rfl) dX12_fillsFits_27 ?_
        refine g_iconst (pc := 30) (v := nI 1) C dX12_fillsFits_30 (by decide) ?_
        refine g_istore (pc := 31) (L' := [_, _, _, some (.int _), _, _, _]) C dX12_fillsFits_31 rfl rfl ?_
        refine g_iconst (pc := 33) (v := nI 0) C dX12_fillsFits_33 (by decide) ?_
        refine g_istore (pc := 34) (L' := [_, _, _, _, some (.int _), _, _]) C dX12_fillsFits_34 rfl rfl ?_
        refine gx_S (S' := scw (ffU (keepS S) f g (pnF (frOf Fs r) (s_I S 1123 1000) (begF (s_A S 1010)) P 0 0) fv) B W t) ?_ ?_
        · rw [ff_rA, ffs_A, begF_out hsd]; rfl
        have hout : ∀ n j, (j < 10 ∨ 28 ≤ j) → pnF (frOf Fs r) (s_I S 1123 1000) (begF (s_A S 1010)) P 0 n j = s_A S 1010 j := fun n j hj => (pnF_out hP7 hj n).trans (begF_lo hj)
        have inner : ∀ j n g z6 B W t, n + j = 61 → (n ≤ th ∨ ∀ p, p < 7 → g (7 * r + p) = pnF (frOf Fs r) (s_I S 1123 1000) (begF (s_A S 1010)) P 0 (th + 1) (21 + p)) → (∀ q, q < r → ∀ p, p < 7 → g (7 * q + p) = pnF (frOf Fs q) (s_I S 1123 1000) (begF (s_A S 1010)) P 0 (th + 1) (21 + p)) → gx_G w X (scw (ffU (keepS S) f g (pnF (frOf Fs r) (s_I S 1123 1000) (begF (s_A S 1010)) P 0 n) fv) B W t) 0 0 36 [some (.ref (ad (w_b w) 1000)), some (.int (nI th)), some (.int (s_I S 1121 1000)), some (.int (nI r)), some (.int (bI (fitF (frOf Fs r) (s_I S 1123 1000) (s_A S 1010) P m n = true))), some (.int (nI n)), z6] [] (gx_E w X post) := by
          intro j
          induction j with
          | zero =>
            intro n g z6 B W t hn1 hg1 hg2
            have hn1 : n = 61 := hn1
            subst hn1
            have hg1 := hg1.elim (fun q => absurd q (by omega)) id
            refine g_iload (pc := 36) C dX12_fillsFits_36 rfl ?_
            refine g_bipush (pc := 38) (v := nI 60) C dX12_fillsFits_38 (by decide) ?_
            refine g_icmp_gt (pc := 40) C 119 dX12_fillsFits_40 rfl (fun h2 => ?_) (fun h2 => ?_)
            · refine g_aload_n (pc := 119) C dX12_fillsFits_119 rfl ?_
              refine mg_74 (pc := 120) C (hmA _ _ _ _ _ _ _) dX12_fillsFits_120 ?_
              refine g_iload_n (pc := 123) C dX12_fillsFits_123 rfl ?_
              refine g_iload (pc := 124) C dX12_fillsFits_124 rfl ?_
              refine n_zast (pc := 126) (k := 1020) (n := 7) C rfl rfl (m_z (hmA _ _ _ _ _ _ _) rfl) isn_v rfl (by omega) dX12_fillsFits_126 ?_
              refine gx_S (S' := scw (ffU (keepS S) (upd f r (bI (fitF (frOf Fs r) (s_I S 1123 1000) (s_A S 1010) P m 61 = true))) g (pnF (frOf Fs r) (s_I S 1123 1000) (begF (s_A S 1010)) P 0 61) fv) B W t) ?_ ?_
              · rw [nar_bI, ff_rF, ffs_F]
              refine g_iinc (pc := 127) (L' := [_, _, some (.int _), _, _, _, _]) C dX12_fillsFits_127 rfl (nI_1 _) rfl ?_
              refine g_goto (pc := 130) C 11 dX12_fillsFits_130 rfl ?_
              refine ih (r + 1) _ g _ fv _ _ _ B W t (by omega) (hout 61) (fun q hq => ?_) (fun q hq => ?_)
              · by_cases e : q = r
                · subst e; simp only [upd]; rw [if_pos trivial]
                · simp only [upd]; rw [if_neg e]; exact hf q (by omega)
              · by_cases e : q = r
                · subst e; exact hg1
                · exact hg2 q (by omega)
            · exact absurd (nI_lt (show 60 < 61 by omega) (by omega)) h2
          | succ j jh =>
            intro n g z6 B W t hn1 hg1 hg2
            have hp2 : gx_p (ffU (keepS S) f g (pnF (frOf Fs r) (s_I S 1123 1000) (begF (s_A S 1010)) P 0 n) fv) P n := by
              refine ⟨(hout n 4 (by omega)).trans hP, hP7, ?_, by omega⟩
              have := pnF_hour (fr := frOf Fs r) (drawn := s_I S 1123 1000) (said := begF (s_A S 1010)) (P := P) (H := 0) hP7 begF_hour n
              rw [Nat.zero_add] at this
              exact this
            refine g_iload (pc := 36) C dX12_fillsFits_36 rfl ?_
            refine g_bipush (pc := 38) (v := nI 60) C dX12_fillsFits_38 (by decide) ?_
            refine g_icmp_gt (pc := 40) C 119 dX12_fillsFits_40 rfl (fun h2 => ?_) (fun h2 => ?_)
            · exact absurd h2 (nI_nlt (by omega) (by omega))
            · refine g_aload_n (pc := 43) C dX12_fillsFits_43 rfl ?_
              refine cg_X12_373 (pc := 44) C rfl (m_z (hmA _ _ _ _ _ _ _) rfl) (c_X12_passes _ _ (ffU (keepS S) f g (pnF (frOf Fs r) (s_I S 1123 1000) (begF (s_A S 1010)) P 0 n) fv) hm P n hp2 (frOf Fs r) (hfr _) B W t) ⟨rfl, rfl⟩ ⟨Nat.zero_le _, Nat.zero_le _⟩ rfl (Nat.le_of_ble_eq_true rfl) dX12_fillsFits_44 ?_
              rintro _ _ ⟨B', W', t', rfl, rfl⟩
              refine gx_S (S' := scw (ffU (keepS S) f g (pnF (frOf Fs r) (s_I S 1123 1000) (begF (s_A S 1010)) P 0 (n + 1)) fv) B' W' t') ?_ ?_
              · rw [ff_uA, ff_uD, ff_A, keep_D, ← pnF_s0]
              have hout2 := hout (n + 1)
              have hfit : fitF (frOf Fs r) (s_I S 1123 1000) (s_A S 1010) P m (n + 1) = (fitF (frOf Fs r) (s_I S 1123 1000) (s_A S 1010) P m n && ntF (pnF (frOf Fs r) (s_I S 1123 1000) (begF (s_A S 1010)) P 0 (n + 1)) (nI n) m 0) := rfl
              have hjh := fun g z6 B W t => jh (n + 1) g z6 B W t (by omega)
              rw [hfit] at hjh
              have hth1 : n = th → pnF (frOf Fs r) (s_I S 1123 1000) (begF (s_A S 1010)) P 0 (n + 1) = pnF (frOf Fs r) (s_I S 1123 1000) (begF (s_A S 1010)) P 0 (th + 1) := fun e => by rw [e]
              generalize pnF (frOf Fs r) (s_I S 1123 1000) (begF (s_A S 1010)) P 0 (n + 1) = sn at hout2 hjh hth1 ⊢
              generalize fitF (frOf Fs r) (s_I S 1123 1000) (s_A S 1010) P m n = fb at hjh ⊢
              have hnt2 : gx_nt sn m := ⟨(hout2 189 (by omega)).trans hn.1, hn.2.1, fun q hq => by
                obtain ⟨j, hj, e⟩ := hn.2.2 q hq
                exact ⟨j, hj, (hout2 _ (by omega)).trans e⟩⟩
              have sides : ∀ (is : Int32), is = bI ((fb && ntF sn (nI n) m 0) = true) → ∀ z6, gx_G w X (scw (ffU (keepS S) f g sn fv) B' W' t') 0 0 69 [some (.ref (ad (w_b w) 1000)), some (.int (nI th)), some (.int (s_I S 1121 1000)), some (.int (nI r)), some (.int is), some (.int (nI n)), z6] [] (gx_E w X post) := by
                intro is his z6
                refine g_iconst (pc := 69) (v := nI 0) C dX12_fillsFits_69 (by decide) ?_
                refine g_istore (pc := 70) (L' := [_, _, _, _, _, some (.int _), _]) C dX12_fillsFits_70 rfl rfl ?_
                by_cases hnt : n = th
                · have ssd : ∀ kk p g2, p + kk = 7 → (∀ q, q < p → g2 (7 * r + q) = sn (21 + q)) → (∀ q, q < r → ∀ p, p < 7 → g2 (7 * q + p) = pnF (frOf Fs q) (s_I S 1123 1000) (begF (s_A S 1010)) P 0 (th + 1) (21 + p)) → gx_G w X (scw (ffU (keepS S) f g2 sn fv) B' W' t') 0 0 72 [some (.ref (ad (w_b w) 1000)), some (.int (nI th)), some (.int (s_I S 1121 1000)), some (.int (nI r)), some (.int is), some (.int (nI n)), some (.int (nI p))] [] (gx_E w X post) := by
                    intro kk
                    induction kk with
                    | zero =>
                      intro p g2 hp7 hg7 hg8
                      have hp7 : p = 7 := hp7
                      subst hp7
                      refine g_iload (pc := 72) C dX12_fillsFits_72 rfl ?_
                      refine g_bipush (pc := 74) (v := nI 7) C dX12_fillsFits_74 (by decide) ?_
                      refine g_icmp_ge (pc := 76) C 113 dX12_fillsFits_76 rfl (fun h4 => ?_) (fun h4 => ?_)
                      · refine g_iinc (pc := 113) (L' := [_, _, _, _, some (.int _), _, _]) C dX12_fillsFits_113 rfl (nI_1 _) rfl ?_
                        refine g_goto (pc := 116) C 36 dX12_fillsFits_116 rfl ?_
                        rw [his]
                        exact hjh g2 _ B' W' t' (Or.inr (fun q hq => (hg7 q hq).trans (by rw [← hth1 hnt]))) hg8
                      · exact absurd (nI_le (Nat.le_refl 7) (by omega)) h4
                    | succ kk kh =>
                      intro p g2 hp7 hg7 hg8
                      refine g_iload (pc := 72) C dX12_fillsFits_72 rfl ?_
                      refine g_bipush (pc := 74) (v := nI 7) C dX12_fillsFits_74 (by decide) ?_
                      refine g_icmp_ge (pc := 76) C 113 dX12_fillsFits_76 rfl (fun h4 => ?_) (fun h4 => ?_)
                      · exact absurd h4 (nI_ge (by omega) (by omega))
                      · refine g_iload (pc := 79) C dX12_fillsFits_79 rfl ?_
                        refine g_iload_n (pc := 81) C dX12_fillsFits_81 rfl ?_
                        refine g_icmp_ne (pc := 82) C 113 dX12_fillsFits_82 rfl (fun h5 => ?_) (fun h5 => ?_)
                        · exact absurd (by rw [hnt]) h5
                        · refine g_aload_n (pc := 85) C dX12_fillsFits_85 rfl ?_
                          refine mg_77 (pc := 86) C (hmA _ _ _ _ _ _ _) dX12_fillsFits_86 ?_
                          refine g_bipush (pc := 89) (v := nI 7) C dX12_fillsFits_89 (by decide) ?_
                          refine g_iload_n (pc := 91) C dX12_fillsFits_91 rfl ?_
                          refine g_imul (pc := 92) C dX12_fillsFits_92 ?_
                          refine g_iload (pc := 93) C dX12_fillsFits_93 rfl ?_
                          refine g_iadd (pc := 95) C dX12_fillsFits_95 ?_
                          refine g_aload_n (pc := 96) C dX12_fillsFits_96 rfl ?_
                          refine mg_39 (pc := 97) C (hmA _ _ _ _ _ _ _) dX12_fillsFits_97 ?_
                          refine g_bipush (pc := 100) (v := nI 21) C dX12_fillsFits_100 (by decide) ?_
                          refine g_iload (pc := 102) C dX12_fillsFits_102 rfl ?_
                          refine g_iadd (pc := 104) C dX12_fillsFits_104 ?_
                          refine n_iald (pc := 105) (k := 1010) (n := 190) C rfl rfl (m_z (hmA _ _ _ _ _ _ _) rfl) (isn_add isn_v isn_v) rfl (by omega) dX12_fillsFits_105 ?_
                          refine n_iast (pc := 106) (k := 1021) (n := 49) C rfl rfl (m_z (hmA _ _ _ _ _ _ _) rfl) (isn_add (isn_mul isn_v isn_v) isn_v) rfl (by omega) dX12_fillsFits_106 ?_
                          refine gx_S (S' := scw (ffU (keepS S) f (upd g2 (7 * r + p) (sn (21 + p))) sn fv) B' W' t') ?_ ?_
                          · rw [ff_rG, ff_rA, ffs_G]
                          refine g_iinc (pc := 107) (L' := [_, _, _, _, _, some (.int _), _]) C dX12_fillsFits_107 rfl (nI_1 _) rfl ?_
                          refine g_goto (pc := 110) C 72 dX12_fillsFits_110 rfl ?_
                          refine kh (p + 1) _ (by omega) (fun q hq => ?_) (fun q hq p2 hp2 => ?_)
                          · by_cases e : q = p
                            · subst e; simp only [upd]; rw [if_pos trivial]
                            · simp only [upd]; rw [if_neg (by omega)]; exact hg7 q (by omega)
                          · simp only [upd]; rw [if_neg (by omega)]; exact hg8 q hq p2 hp2
                  exact ssd 7 0 g rfl (fun q hq => absurd hq (by omega)) hg2
                · have hne : ¬ nI n = nI th := fun q => hnt ((nI_eq (by omega) (by omega)).mp q)
                  refine g_iload (pc := 72) C dX12_fillsFits_72 rfl ?_
                  refine g_bipush (pc := 74) (v := nI 7) C dX12_fillsFits_74 (by decide) ?_
                  refine g_icmp_ge (pc := 76) C 113 dX12_fillsFits_76 rfl (fun h4 => ?_) (fun h4 => ?_)
                  · exact absurd h4 (nI_ge (by omega) (by omega))
                  · refine g_iload (pc := 79) C dX12_fillsFits_79 rfl ?_
                    refine g_iload_n (pc := 81) C dX12_fillsFits_81 rfl ?_
                    refine g_icmp_ne (pc := 82) C 113 dX12_fillsFits_82 rfl (fun h5 => ?_) (fun h5 => ?_)
                    · refine g_iinc (pc := 113) (L' := [_, _, _, _, some (.int _), _, _]) C dX12_fillsFits_113 rfl (nI_1 _) rfl ?_
                      refine g_goto (pc := 116) C 36 dX12_fillsFits_116 rfl ?_
                      rw [his]
                      exact hjh g _ B' W' t' (hg1.elim (fun q => Or.inl (by omega)) Or.inr) hg2
                    · exact absurd (Decidable.not_not.mp h5) hne
              refine g_pop (pc := 47) C dX12_fillsFits_47 rfl ?_
              refine g_iload (pc := 48) C dX12_fillsFits_48 rfl ?_
              refine g_if_eq (pc := 50) C 66 dX12_fillsFits_50 rfl (fun h3 => ?_) (fun h3 => ?_)
              · have h3 := bI_0.mp h3
                refine g_iconst (pc := 66) (v := nI 0) C dX12_fillsFits_66 (by decide) ?_
                refine g_istore (pc := 67) (L' := [_, _, _, some (.int _), _, _, _]) C dX12_fillsFits_67 rfl rfl ?_
                exact sides _ (by rw [bI_f (by simp [h3])]) _
              · have h3 : fb = true := Decidable.not_not.mp (fun q => h3 (bI_0.mpr q))
                refine g_aload_n (pc := 53) C dX12_fillsFits_53 rfl ?_
                refine g_iload (pc := 54) C dX12_fillsFits_54 rfl ?_
                refine cf_X12_428 (pc := 56) C rfl (m_z (hmA _ _ _ _ _ _ _) rfl) (c_X12_areNotesSo _ _ (scw (ffU (keepS S) f g sn fv) B' W' t') (hmA _ _ _ _ _ _ _) m (by exact hnt2) _) ⟨rfl, rfl⟩ ⟨rfl, rfl⟩ ⟨Nat.zero_le _, Nat.zero_le _⟩ rfl (Nat.le_of_ble_eq_true rfl) dX12_fillsFits_56 ?_
                refine gx_ti (y := bI (ntF sn (nI n) m 0 = true)) rfl ?_
                refine g_if_eq (pc := 59) C 66 dX12_fillsFits_59 rfl (fun h4 => ?_) (fun h4 => ?_)
                · have h4 := bI_0.mp h4
                  refine g_iconst (pc := 66) (v := nI 0) C dX12_fillsFits_66 (by decide) ?_
                  refine g_istore (pc := 67) (L' := [_, _, _, some (.int _), _, _, _]) C dX12_fillsFits_67 rfl rfl ?_
                  exact sides _ (by rw [bI_f (by simp [h4])]) _
                · have h4 : ntF sn (nI n) m 0 = true := Decidable.not_not.mp (fun q => h4 (bI_0.mpr q))
                  refine g_iconst (pc := 62) (v := nI 1) C dX12_fillsFits_62 (by decide) ?_
                  refine g_goto (pc := 63) C 67 dX12_fillsFits_63 rfl ?_
                  refine g_istore (pc := 67) (L' := [_, _, _, some (.int _), _, _, _]) C dX12_fillsFits_67 rfl rfl ?_
                  exact sides _ (by rw [bI_t (by simp [h3, h4])]) _
        exact inner 61 0 g _ B W t rfl (Or.inl (Nat.zero_le _)) hg
  exact outer (nr + 1) 0 _ _ _ _ _ _ _ _ _ _ (by omega) (fun _ _ => rfl) (fun q hq => absurd hq (by omega)) (fun q hq => absurd hq (by omega))
