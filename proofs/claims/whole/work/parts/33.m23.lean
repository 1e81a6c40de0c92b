/-! ===== the reference: ruled, look ===== -/
def rlF (ft : Nat → Bool) (nr : Nat) : Nat → Nat × Int32
  | 0 => (0, -2)
  | d + 1 => if ft (nr - d) = true then ((rlF ft nr d).1 + 1, nI (nr - d) - nI 1) else rlF ft nr d
theorem rlF_le {ft : Nat → Bool} {nr : Nat} : ∀ d, (rlF ft nr d).1 ≤ d
  | 0 => Nat.le_refl _
  | d + 1 => by
    have := rlF_le (ft := ft) (nr := nr) d
    simp only [rlF]; split
    · simp; exact this
    · omega
/-- which rules are so: 0 is none, k + 1 is rule k -/
def ftF (Fs : Nat → (Nat → Int64) → Int64) (drawn : Int32) (said : Nat → Int32) (P m : Nat) (r : Nat) : Bool := fitF (frOf Fs r) drawn said P m 61
theorem c_X12_ruled (w : Wd) (l : Launch) (S : St) (hm : gx_m S) (P H : Nat) (hp : gx_p S P H) (m : Nat) (hn : gx_nt (s_A S 1010) m) (nr : Nat) (hnr : s_I S 1102 1000 = nI nr) (hnr6 : nr ≤ 6) (Fs : Nat → (Nat → Int64) → Int64) (hFs : ∀ r, r < nr → ruleW S r (Fs r)) (what : Int32) : gx_M w l yX12_ruled cX12_ruled 5 (some .int) rmX12_ruled [.ref (ad (w_b w) 1000), .int what] S (fun a S' => if mostOK (s_A S 1010) what then (∃ f g B' W' t', a = some (.int (if what = nI 0 then nI (rlF (ftF Fs (s_I S 1123 1000) (s_A S 1010) P m) nr (nr + 1)).1 else (rlF (ftF Fs (s_I S 1123 1000) (s_A S 1010) P m) nr (nr + 1)).2)) ∧ S' = scw (s_setA (s_setA (keepS S) 1020 f) 1021 g) B' W' t') else (a = some (.int (-3)) ∧ S' = S)) := by
  refine gx_start rfl 3 rfl (Nat.le_of_ble_eq_true rfl) ?_
  intro X C _ hl
  subst hl
  refine gx_L (L' := [_, _, _, _, _]) rfl ?_
  refine g_aload_n (pc := 0) C dX12_ruled_0 rfl ?_
  refine cf_X12_297 (pc := 1) C rfl (by exact m_z hm rfl) (c_X12_isCrossing _ _ _ hm) ⟨rfl, rfl⟩ ⟨rfl, rfl⟩ ⟨Nat.zero_le _, Nat.zero_le _⟩ rfl (Nat.le_of_ble_eq_true rfl) dX12_ruled_1 ?_
  refine g_if_eq (pc := 4) C 17 dX12_ruled_4 rfl (fun h => ?_) (fun h => ?_)
  · have h := bI_0.mp h
    refine g_bipush (pc := 17) (v := -3) C dX12_ruled_17 (by decide) ?_
    exact g_ireturn (pc := 19) C ⟨rfl, rfl⟩ dX12_ruled_19 ((by rw [if_neg (fun q => h q.1)]; exact ⟨rfl, rfl⟩))
  · have h := Decidable.not_not.mp (fun q => h (bI_0.mpr q))
    refine g_iload_n (pc := 7) C dX12_ruled_7 rfl ?_
    refine g_i2l (pc := 8) C dX12_ruled_8 ?_
    refine g_lconst (pc := 9) (v := 0) C dX12_ruled_9 (by decide) ?_
    refine g_lconst (pc := 10) (v := 1) C dX12_ruled_10 (by decide) ?_
    refine cf_X12_130 (pc := 11) C (c_X12_in32 _ _ _ _ (nI 0) (nI 1) _ _ rfl rfl) ⟨rfl, rfl⟩ ⟨rfl, rfl⟩ ⟨Nat.zero_le _, Nat.zero_le _⟩ rfl (Nat.le_of_ble_eq_true rfl) dX12_ruled_11 ?_
    refine g_if_ne (pc := 14) C 20 dX12_ruled_14 rfl (fun h2 => ?_) (fun h2 => ?_)
    · have h2 := Decidable.not_not.mp (fun q => h2 (bI_0.mpr q))
      have hok : mostOK (s_A S 1010) what := ⟨h, h2⟩
      refine g_aload_n (pc := 20) C dX12_ruled_20 rfl ?_
      refine g_iconst (pc := 21) (v := nI 0) C dX12_ruled_21 (by decide) ?_
      refine cg_X12_431 (pc := 22) C rfl (by exact m_z hm rfl) (c_X12_fillsFits _ _ S hm P H hp m hn nr hnr hnr6 Fs hFs 0 (by omega)) ⟨rfl, rfl⟩ ⟨Nat.zero_le _, Nat.zero_le _⟩ rfl (Nat.le_of_ble_eq_true rfl) dX12_ruled_22 ?_
      rintro _ _ ⟨rfl, f, g, B, W, t, rfl, hf, -⟩
      generalize hq : (fun (a : Option Value) (S' : St) => if mostOK (s_A S 1010) what then (∃ f g B' W' t', a = some (.int (if what = nI 0 then nI (rlF (ftF Fs (s_I S 1123 1000) (s_A S 1010) P m) nr (nr + 1)).1 else (rlF (ftF Fs (s_I S 1123 1000) (s_A S 1010) P m) nr (nr + 1)).2)) ∧ S' = scw (s_setA (s_setA (keepS S) 1020 f) 1021 g) B' W' t') else (a = some (.int (-3)) ∧ S' = S)) = post
      have hend : ∀ v, v = (if what = nI 0 then nI (rlF (ftF Fs (s_I S 1123 1000) (s_A S 1010) P m) nr (nr + 1)).1 else (rlF (ftF Fs (s_I S 1123 1000) (s_A S 1010) P m) nr (nr + 1)).2) → post (some (.int v)) (scw (s_setA (s_setA (keepS S) 1020 f) 1021 g) B W t) := by
        intro v hv
        rw [← hq]
        show (if mostOK (s_A S 1010) what then _ else _)
        rw [if_pos hok, hv]
        exact ⟨f, g, B, W, t, rfl, rfl⟩
      have hm2 : gx_m (scw (s_setA (s_setA (keepS S) 1020 f) 1021 g) B W t) := hm
      have hf2 : ∀ r, r ≤ nr → s_A (scw (s_setA (s_setA (keepS S) 1020 f) 1021 g) B W t) 1020 r = bI (ftF Fs (s_I S 1123 1000) (s_A S 1010) P m r = true) := hf
      have hnr2 : s_I (scw (s_setA (s_setA (keepS S) 1020 f) 1021 g) B W t) 1102 1000 = nI nr := hnr
      show gx_G w X (scw (s_setA (s_setA (keepS S) 1020 f) 1021 g) B W t) 0 0 25 _ [] _
      generalize scw (s_setA (s_setA (keepS S) 1020 f) 1021 g) B W t = T at hend hm2 hf2 hnr2 ⊢
      generalize ftF Fs (s_I S 1123 1000) (s_A S 1010) P m = ft at hend hf2
      clear hq
      refine g_iconst (pc := 25) (v := nI 0) C dX12_ruled_25 (by decide) ?_
      refine g_istore_n (pc := 26) (L' := [_, some (.int _), _, _, _]) C dX12_ruled_26 rfl rfl ?_
      refine g_bipush (pc := 27) (v := -2) C dX12_ruled_27 (by decide) ?_
      refine g_istore_n (pc := 29) (L' := [_, _, some (.int _), _, _]) C dX12_ruled_29 rfl rfl ?_
      refine g_aload_n (pc := 30) C dX12_ruled_30 rfl ?_
      refine mg_270 (pc := 31) C hm2 dX12_ruled_31 ?_
      refine gx_ti hnr2 ?_
      refine g_istore (pc := 34) (L' := [_, _, _, some (.int _), _]) C dX12_ruled_34 rfl rfl ?_
      have loop : ∀ i d, i + d = nr + 1 → gx_G w X T 0 0 36 [some (.ref (ad (w_b w) 1000)), some (.int what), some (.int (nI (rlF ft nr d).1)), some (.int (rlF ft nr d).2), some (.int (nI i + (-1)))] [] (gx_E w X post) := by
        intro i
        induction i with
        | zero =>
          intro d hd
          have hd : d = nr + 1 := by omega
          subst hd
          refine g_iload (pc := 36) C dX12_ruled_36 rfl ?_
          refine g_if_lt (pc := 38) C 68 dX12_ruled_38 rfl (fun h3 => ?_) (fun h3 => ?_)
          · refine g_iload_n (pc := 68) C dX12_ruled_68 rfl ?_
            refine g_if_ne (pc := 69) C 76 dX12_ruled_69 rfl (fun h4 => ?_) (fun h4 => ?_)
            · refine g_iload_n (pc := 76) C dX12_ruled_76 rfl ?_
              exact g_ireturn (pc := 77) C ⟨rfl, rfl⟩ dX12_ruled_77 (hend _ (by rw [if_neg (fun q => h4 (by rw [q]; rfl))]))
            · have h4 : what = nI 0 := Decidable.not_not.mp h4
              refine g_iload_n (pc := 72) C dX12_ruled_72 rfl ?_
              refine g_goto (pc := 73) C 77 dX12_ruled_73 rfl ?_
              exact g_ireturn (pc := 77) C ⟨rfl, rfl⟩ dX12_ruled_77 (hend _ (by rw [if_pos h4]))
          · exact absurd (by decide) h3
        | succ i ih =>
          intro d hd
          have hk : nr - d = i := by omega
          rw [pk_m1]
          refine g_iload (pc := 36) C dX12_ruled_36 rfl ?_
          refine g_if_lt (pc := 38) C 68 dX12_ruled_38 rfl (fun h3 => ?_) (fun h3 => ?_)
          · exact absurd h3 (nI_pos (by omega))
          · refine g_aload_n (pc := 41) C dX12_ruled_41 rfl ?_
            refine mg_74 (pc := 42) C hm2 dX12_ruled_42 ?_
            refine g_iload (pc := 45) C dX12_ruled_45 rfl ?_
            refine n_zald (pc := 47) (k := 1020) (n := 7) C rfl rfl (m_z hm2 rfl) isn_v rfl (by omega) dX12_ruled_47 ?_
            refine gx_ti (hf2 i (by omega)) ?_
            refine g_if_ne (pc := 48) C 54 dX12_ruled_48 rfl (fun h4 => ?_) (fun h4 => ?_)
            · have h4 := Decidable.not_not.mp (fun q => h4 (bI_0.mpr q))
              refine g_iload (pc := 54) C dX12_ruled_54 rfl ?_
              refine g_iconst (pc := 56) (v := nI 1) C dX12_ruled_56 (by decide) ?_
              refine g_isub (pc := 57) C dX12_ruled_57 ?_
              refine g_istore_n (pc := 58) (L' := [_, _, some (.int _), _, _]) C dX12_ruled_58 rfl rfl ?_
              refine g_iinc (pc := 59) (L' := [_, some (.int _), _, _, _]) C dX12_ruled_59 rfl (nI_1 _) rfl ?_
              refine g_iinc (pc := 62) (L' := [_, _, _, some (.int _), _]) C dX12_ruled_62 rfl rfl rfl ?_
              refine g_goto (pc := 65) C 36 dX12_ruled_65 rfl ?_
              have := ih (d + 1) (by omega)
              rw [show rlF ft nr (d + 1) = ((rlF ft nr d).1 + 1, nI i - nI 1) from by simp only [rlF]; rw [hk, if_pos h4]] at this
              exact this
            · have h4 := bI_0.mp (Decidable.not_not.mp h4)
              refine g_goto (pc := 51) C 62 dX12_ruled_51 rfl ?_
              refine g_iinc (pc := 62) (L' := [_, _, _, some (.int _), _]) C dX12_ruled_62 rfl rfl rfl ?_
              refine g_goto (pc := 65) C 36 dX12_ruled_65 rfl ?_
              have := ih (d + 1) (by omega)
              rw [show rlF ft nr (d + 1) = rlF ft nr d from by simp only [rlF]; rw [hk, if_neg h4]] at this
              exact this
      have := loop (nr + 1) 0 (by omega)
      rw [pk_m1] at this
      exact this
    · have h2 := bI_0.mp (Decidable.not_not.mp h2)
      refine g_bipush (pc := 17) (v := -3) C dX12_ruled_17 (by decide) ?_
      exact g_ireturn (pc := 19) C ⟨rfl, rfl⟩ dX12_ruled_19 ((by rw [if_neg (fun q => h2 q.2)]; exact ⟨rfl, rfl⟩))
def alF (ft : Nat → Bool) (sd : Nat → Int32) : Nat → Nat × Nat
  | 0 => (0, 0)
  | k + 1 => if ft k = true then (if sd k = nI 1 then ((alF ft sd k).1 + 1, (alF ft sd k).2) else ((alF ft sd k).1, (alF ft sd k).2 + 1)) else alF ft sd k
theorem alF_le {ft : Nat → Bool} {sd : Nat → Int32} : ∀ k, (alF ft sd k).1 ≤ k ∧ (alF ft sd k).2 ≤ k
  | 0 => ⟨Nat.le_refl _, Nat.le_refl _⟩
  | k + 1 => by
    have := alF_le (ft := ft) (sd := sd) k
    simp only [alF]; split
    · split <;> simp <;> omega
    · omega
def alM (q : Nat × Nat) : Nat := if q.2 < q.1 then q.1 else q.2
theorem c_X12_alikeAt (w : Wd) (l : Launch) (S : St) (hm : gx_m S) (nr : Nat) (hnr : s_I S 1102 1000 = nI nr) (hnr6 : nr ≤ 6) (p : Nat) (hp : p < 7) (ft : Nat → Bool) (sd : Nat → Int32) (hf : ∀ r, r ≤ nr → s_A S 1020 r = bI (ft r = true)) (hs : ∀ r, r ≤ nr → s_A S 1021 (7 * r + p) = sd r) : gx_M w l yX12_alikeAt cX12_alikeAt 5 (some .int) rmX12_alikeAt [.ref (ad (w_b w) 1000), .int (nI p)] S (pI (nI (alM (alF ft sd (nr + 1)))) S) := by
  refine gx_start rfl 3 rfl (Nat.le_of_ble_eq_true rfl) ?_
  intro X C _ hl
  subst hl
  refine gx_L (L' := [_, _, _, _, _]) rfl ?_
  refine g_iconst (pc := 0) (v := nI 0) C dX12_alikeAt_0 (by decide) ?_
  refine g_istore_n (pc := 1) (L' := [_, some (.int _), _, _, _]) C dX12_alikeAt_1 rfl rfl ?_
  refine g_iconst (pc := 2) (v := nI 0) C dX12_alikeAt_2 (by decide) ?_
  refine g_istore_n (pc := 3) (L' := [_, _, some (.int _), _, _]) C dX12_alikeAt_3 rfl rfl ?_
  refine g_iconst (pc := 4) (v := nI 0) C dX12_alikeAt_4 (by decide) ?_
  refine g_istore (pc := 5) (L' := [_, _, _, some (.int _), _]) C dX12_alikeAt_5 rfl rfl ?_
  have loop : ∀ k i, i + k = nr + 1 → gx_G w X S 0 0 7 [some (.ref (ad (w_b w) 1000)), some (.int (nI p)), some (.int (nI (alF ft sd i).1)), some (.int (nI (alF ft sd i).2)), some (.int (nI i))] [] (gx_E w X (pI (nI (alM (alF ft sd (nr + 1)))) S)) := by
    intro k
    induction k with
    | zero =>
      intro i hi
      have hi : i = nr + 1 := hi
      subst hi
      have hle := alF_le (ft := ft) (sd := sd) (nr + 1)
      refine g_iload (pc := 7) C dX12_alikeAt_7 rfl ?_
      refine g_aload_n (pc := 9) C dX12_alikeAt_9 rfl ?_
      refine mg_270 (pc := 10) C (by exact hm) dX12_alikeAt_10 ?_
      refine gx_ti hnr ?_
      refine g_icmp_gt (pc := 13) C 60 dX12_alikeAt_13 rfl (fun h => ?_) (fun h => ?_)
      · refine g_iload_n (pc := 60) C dX12_alikeAt_60 rfl ?_
        refine g_iload_n (pc := 61) C dX12_alikeAt_61 rfl ?_
        refine g_icmp_le (pc := 62) C 69 dX12_alikeAt_62 rfl (fun h2 => ?_) (fun h2 => ?_)
        · have h2 := (nI_leI (by omega) (by omega)).mp h2
          refine g_iload_n (pc := 69) C dX12_alikeAt_69 rfl ?_
          exact g_ireturn (pc := 70) C ⟨rfl, rfl⟩ dX12_alikeAt_70 (⟨by unfold alM; rw [if_neg (by omega)], rfl⟩)
        · have h2 : (alF ft sd (nr + 1)).2 < (alF ft sd (nr + 1)).1 := Nat.lt_of_not_le (fun q => h2 (nI_le q (by omega)))
          refine g_iload_n (pc := 65) C dX12_alikeAt_65 rfl ?_
          refine g_goto (pc := 66) C 70 dX12_alikeAt_66 rfl ?_
          exact g_ireturn (pc := 70) C ⟨rfl, rfl⟩ dX12_alikeAt_70 (⟨by unfold alM; rw [if_pos h2], rfl⟩)
      · exact absurd (nI_lt (show nr < nr + 1 by omega) (by omega)) h
    | succ k ih =>
      intro i hi
      refine g_iload (pc := 7) C dX12_alikeAt_7 rfl ?_
      refine g_aload_n (pc := 9) C dX12_alikeAt_9 rfl ?_
      refine mg_270 (pc := 10) C (by exact hm) dX12_alikeAt_10 ?_
      refine gx_ti hnr ?_
      refine g_icmp_gt (pc := 13) C 60 dX12_alikeAt_13 rfl (fun h => ?_) (fun h => ?_)
      · exact absurd h (nI_nlt (by omega) (by omega))
      · refine g_aload_n (pc := 16) C dX12_alikeAt_16 rfl ?_
        refine mg_74 (pc := 17) C (by exact hm) dX12_alikeAt_17 ?_
        refine g_iload (pc := 20) C dX12_alikeAt_20 rfl ?_
        refine n_zald (pc := 22) (k := 1020) (n := 7) C rfl rfl (by exact m_z hm rfl) isn_v rfl (by omega) dX12_alikeAt_22 ?_
        refine gx_ti (hf i (by omega)) ?_
        refine g_if_ne (pc := 23) C 29 dX12_alikeAt_23 rfl (fun h2 => ?_) (fun h2 => ?_)
        · have h2 := Decidable.not_not.mp (fun q => h2 (bI_0.mpr q))
          refine g_aload_n (pc := 29) C dX12_alikeAt_29 rfl ?_
          refine mg_77 (pc := 30) C (by exact hm) dX12_alikeAt_30 ?_
          refine g_bipush (pc := 33) (v := nI 7) C dX12_alikeAt_33 (by decide) ?_
          refine g_iload (pc := 35) C dX12_alikeAt_35 rfl ?_
          refine g_imul (pc := 37) C dX12_alikeAt_37 ?_
          refine g_iload_n (pc := 38) C dX12_alikeAt_38 rfl ?_
          refine g_iadd (pc := 39) C dX12_alikeAt_39 ?_
          refine n_iald (pc := 40) (k := 1021) (n := 49) C rfl rfl (by exact m_z hm rfl) (isn_add (isn_mul isn_v isn_v) isn_v) rfl (by omega) dX12_alikeAt_40 ?_
          refine gx_ti (hs i (by omega)) ?_
          refine g_iconst (pc := 41) (v := nI 1) C dX12_alikeAt_41 (by decide) ?_
          refine g_icmp_ne (pc := 42) C 51 dX12_alikeAt_42 rfl (fun h3 => ?_) (fun h3 => ?_)
          · refine g_iinc (pc := 51) (L' := [_, _, some (.int _), _, _]) C dX12_alikeAt_51 rfl (nI_1 _) rfl ?_
            refine g_iinc (pc := 54) (L' := [_, _, _, some (.int _), _]) C dX12_alikeAt_54 rfl (nI_1 _) rfl ?_
            refine g_goto (pc := 57) C 7 dX12_alikeAt_57 rfl ?_
            have := ih (i + 1) (by omega)
            rw [show alF ft sd (i + 1) = ((alF ft sd i).1, (alF ft sd i).2 + 1) from by simp only [alF]; rw [if_pos h2, if_neg h3]] at this
            exact this
          · have h3 := Decidable.not_not.mp h3
            refine g_iinc (pc := 45) (L' := [_, some (.int _), _, _, _]) C dX12_alikeAt_45 rfl (nI_1 _) rfl ?_
            refine g_goto (pc := 48) C 54 dX12_alikeAt_48 rfl ?_
            refine g_iinc (pc := 54) (L' := [_, _, _, some (.int _), _]) C dX12_alikeAt_54 rfl (nI_1 _) rfl ?_
            refine g_goto (pc := 57) C 7 dX12_alikeAt_57 rfl ?_
            have := ih (i + 1) (by omega)
            rw [show alF ft sd (i + 1) = ((alF ft sd i).1 + 1, (alF ft sd i).2) from by simp only [alF]; rw [if_pos h2, if_pos h3]] at this
            exact this
        · have h2 := bI_0.mp (Decidable.not_not.mp h2)
          refine g_goto (pc := 26) C 54 dX12_alikeAt_26 rfl ?_
          refine g_iinc (pc := 54) (L' := [_, _, _, some (.int _), _]) C dX12_alikeAt_54 rfl (nI_1 _) rfl ?_
          refine g_goto (pc := 57) C 7 dX12_alikeAt_57 rfl ?_
          have := ih (i + 1) (by omega)
          rw [show alF ft sd (i + 1) = alF ft sd i from by simp only [alF]; rw [if_neg h2]] at this
          exact this
  exact loop (nr + 1) 0 (by omega)
def lkF (al : Nat → Nat) : Nat → Option (Nat × Nat)
  | 0 => none
  | p + 1 => if al p = 0 then lkF al p else (match lkF al p with
    | none => some (p, al p)
    | some (b, f) => if al p < f then some (p, al p) else some (b, f))
def lkB : Option (Nat × Nat) → Int32
  | none => -2
  | some (b, _) => nI b
def lkM : Option (Nat × Nat) → Int32
  | none => -2
  | some (_, f) => nI f
theorem lkF_lt {al : Nat → Nat} (ha : ∀ p, al p ≤ 7) : ∀ {n b f : Nat}, lkF al n = some (b, f) → b < n ∧ f ≤ 7
  | 0, _, _, h => by cases h
  | n + 1, b, f, h => by
    have hn := ha n
    simp only [lkF] at h
    split at h
    · have := lkF_lt ha h; omega
    · cases e : lkF al n with
      | none => rw [e] at h; cases h; omega
      | some q =>
        obtain ⟨b', m'⟩ := q
        rw [e] at h
        have := lkF_lt ha e
        simp only at h
        split at h
        · cases h; omega
        · cases h; omega
abbrev lookOK (said : Nat → Int32) (n what : Int32) : Prop := said 0 = nI 1 ∧ (nI 0 ≤ n ∧ n ≤ nI 60) ∧ (nI 0 ≤ what ∧ what ≤ nI 1)
def lookR (Fs : Nat → (Nat → Int64) → Int64) (drawn : Int32) (said : Nat → Int32) (P m nr th : Nat) : Option (Nat × Nat) := lkF (fun p => alM (alF (ftF Fs drawn said P m) (fun r => pnF (frOf Fs r) drawn (begF said) P 0 (th + 1) (21 + p)) (nr + 1))) P
theorem c_X12_look (w : Wd) (l : Launch) (S : St) (hm : gx_m S) (P H : Nat) (hp : gx_p S P H) (m : Nat) (hn : gx_nt (s_A S 1010) m) (nr : Nat) (hnr : s_I S 1102 1000 = nI nr) (hnr6 : nr ≤ 6) (Fs : Nat → (Nat → Int64) → Int64) (hFs : ∀ r, r < nr → ruleW S r (Fs r)) (n what : Int32) : gx_M w l yX12_look cX12_look 7 (some .int) rmX12_look [.ref (ad (w_b w) 1000), .int n, .int what] S (fun a S' => if lookOK (s_A S 1010) n what then (∃ f g B' W' t', a = some (.int (if what = nI 0 then lkB (lookR Fs (s_I S 1123 1000) (s_A S 1010) P m nr n.toNatClampNeg) else lkM (lookR Fs (s_I S 1123 1000) (s_A S 1010) P m nr n.toNatClampNeg))) ∧ S' = scw (s_setA (s_setA (keepS S) 1020 f) 1021 g) B' W' t') else (a = some (.int (-1)) ∧ S' = S)) := by
  obtain ⟨hP, hP7, hH, hH2⟩ := id hp
  refine gx_start rfl 4 rfl (Nat.le_of_ble_eq_true rfl) ?_
  intro X C _ hl
  subst hl
  refine gx_L (L' := [_, _, _, _, _, _, _]) rfl ?_
  refine g_aload_n (pc := 0) C dX12_look_0 rfl ?_
  refine cf_X12_297 (pc := 1) C rfl (by exact m_z hm rfl) (c_X12_isCrossing _ _ _ hm) ⟨rfl, rfl⟩ ⟨rfl, rfl⟩ ⟨Nat.zero_le _, Nat.zero_le _⟩ rfl (Nat.le_of_ble_eq_true rfl) dX12_look_1 ?_
  refine g_if_eq (pc := 4) C 29 dX12_look_4 rfl (fun h => ?_) (fun h => ?_)
  · have h := bI_0.mp h
    refine g_iconst (pc := 29) (v := -1) C dX12_look_29 (by decide) ?_
    exact g_ireturn (pc := 30) C ⟨rfl, rfl⟩ dX12_look_30 ((by rw [if_neg (fun q => h q.1)]; exact ⟨rfl, rfl⟩))
  · have h := Decidable.not_not.mp (fun q => h (bI_0.mpr q))
    refine g_iload_n (pc := 7) C dX12_look_7 rfl ?_
    refine g_i2l (pc := 8) C dX12_look_8 ?_
    refine g_lconst (pc := 9) (v := 0) C dX12_look_9 (by decide) ?_
    refine g_ldc2 (pc := 10) (v := 60) C dX12_look_10 kl_X12_426 ?_
    refine cf_X12_130 (pc := 13) C (c_X12_in32 _ _ _ _ (nI 0) (nI 60) _ _ rfl rfl) ⟨rfl, rfl⟩ ⟨rfl, rfl⟩ ⟨Nat.zero_le _, Nat.zero_le _⟩ rfl (Nat.le_of_ble_eq_true rfl) dX12_look_13 ?_
    refine g_if_eq (pc := 16) C 29 dX12_look_16 rfl (fun h2 => ?_) (fun h2 => ?_)
    · have h2 := bI_0.mp h2
      refine g_iconst (pc := 29) (v := -1) C dX12_look_29 (by decide) ?_
      exact g_ireturn (pc := 30) C ⟨rfl, rfl⟩ dX12_look_30 ((by rw [if_neg (fun q => h2 q.2.1)]; exact ⟨rfl, rfl⟩))
    · have h2 := Decidable.not_not.mp (fun q => h2 (bI_0.mpr q))
      refine g_iload_n (pc := 19) C dX12_look_19 rfl ?_
      refine g_i2l (pc := 20) C dX12_look_20 ?_
      refine g_lconst (pc := 21) (v := 0) C dX12_look_21 (by decide) ?_
      refine g_lconst (pc := 22) (v := 1) C dX12_look_22 (by decide) ?_
      refine cf_X12_130 (pc := 23) C (c_X12_in32 _ _ _ _ (nI 0) (nI 1) _ _ rfl rfl) ⟨rfl, rfl⟩ ⟨rfl, rfl⟩ ⟨Nat.zero_le _, Nat.zero_le _⟩ rfl (Nat.le_of_ble_eq_true rfl) dX12_look_23 ?_
      refine g_if_ne (pc := 26) C 31 dX12_look_26 rfl (fun h3 => ?_) (fun h3 => ?_)
      · have h3 := Decidable.not_not.mp (fun q => h3 (bI_0.mpr q))
        have hok : lookOK (s_A S 1010) n what := ⟨h, h2, h3⟩
        obtain ⟨th, hth, rfl⟩ := nat_of (b := 60) (by omega) h2
        rw [show (nI th).toNatClampNeg = th from nI_clamp (by omega)]
        refine g_aload_n (pc := 31) C dX12_look_31 rfl ?_
        refine g_iload_n (pc := 32) C dX12_look_32 rfl ?_
        refine cg_X12_431 (pc := 33) C rfl (by exact m_z hm rfl) (c_X12_fillsFits _ _ S hm P H hp m hn nr hnr hnr6 Fs hFs th hth) ⟨rfl, rfl⟩ ⟨Nat.zero_le _, Nat.zero_le _⟩ rfl (Nat.le_of_ble_eq_true rfl) dX12_look_33 ?_
        rintro _ _ ⟨rfl, f, g, B, W, t, rfl, hf, hg⟩
        generalize hq : (fun (a : Option Value) (S' : St) => if lookOK (s_A S 1010) (nI th) what then (∃ f g B' W' t', a = some (.int (if what = nI 0 then lkB (lookR Fs (s_I S 1123 1000) (s_A S 1010) P m nr th) else lkM (lookR Fs (s_I S 1123 1000) (s_A S 1010) P m nr th))) ∧ S' = scw (s_setA (s_setA (keepS S) 1020 f) 1021 g) B' W' t') else (a = some (.int (-1)) ∧ S' = S)) = post
        have hend : ∀ v, v = (if what = nI 0 then lkB (lookR Fs (s_I S 1123 1000) (s_A S 1010) P m nr th) else lkM (lookR Fs (s_I S 1123 1000) (s_A S 1010) P m nr th)) → post (some (.int v)) (scw (s_setA (s_setA (keepS S) 1020 f) 1021 g) B W t) := by
          intro v hv
          rw [← hq]
          show (if lookOK (s_A S 1010) (nI th) what then _ else _)
          rw [if_pos hok, hv]
          exact ⟨f, g, B, W, t, rfl, rfl⟩
        have hm2 : gx_m (scw (s_setA (s_setA (keepS S) 1020 f) 1021 g) B W t) := hm
        have hf2 : ∀ r, r ≤ nr → s_A (scw (s_setA (s_setA (keepS S) 1020 f) 1021 g) B W t) 1020 r = bI (ftF Fs (s_I S 1123 1000) (s_A S 1010) P m r = true) := hf
        have hg2 : ∀ r, r ≤ nr → ∀ p, p < 7 → s_A (scw (s_setA (s_setA (keepS S) 1020 f) 1021 g) B W t) 1021 (7 * r + p) = pnF (frOf Fs r) (s_I S 1123 1000) (begF (s_A S 1010)) P 0 (th + 1) (21 + p) := hg
        have hnr2 : s_I (scw (s_setA (s_setA (keepS S) 1020 f) 1021 g) B W t) 1102 1000 = nI nr := hnr
        have hP2 : s_A (scw (s_setA (s_setA (keepS S) 1020 f) 1021 g) B W t) 1010 4 = nI P := hP
        show gx_G w X (scw (s_setA (s_setA (keepS S) 1020 f) 1021 g) B W t) 0 0 36 _ [] _
        generalize scw (s_setA (s_setA (keepS S) 1020 f) 1021 g) B W t = T at hend hm2 hf2 hg2 hnr2 hP2 ⊢
        generalize hal : (fun p => alM (alF (ftF Fs (s_I S 1123 1000) (s_A S 1010) P m) (fun r => pnF (frOf Fs r) (s_I S 1123 1000) (begF (s_A S 1010)) P 0 (th + 1) (21 + p)) (nr + 1))) = al
        have hlk : lookR Fs (s_I S 1123 1000) (s_A S 1010) P m nr th = lkF al P := by rw [← hal]; rfl
        rw [hlk] at hend
        have hal7 : ∀ p, al p ≤ 7 := by
          intro p
          rw [← hal]
          have := alF_le (ft := ftF Fs (s_I S 1123 1000) (s_A S 1010) P m) (sd := fun r => pnF (frOf Fs r) (s_I S 1123 1000) (begF (s_A S 1010)) P 0 (th + 1) (21 + p)) (nr + 1)
          show alM _ ≤ 7
          unfold alM; split <;> omega
        clear hq
        refine g_bipush (pc := 36) (v := -2) C dX12_look_36 (by decide) ?_
        refine g_istore_n (pc := 38) (L' := [_, _, some (.int _), _, _, _, _]) C dX12_look_38 rfl rfl ?_
        refine g_bipush (pc := 39) (v := -2) C dX12_look_39 (by decide) ?_
        refine g_istore (pc := 41) (L' := [_, _, _, some (.int _), _, _, _]) C dX12_look_41 rfl rfl ?_
        refine g_iconst (pc := 43) (v := nI 0) C dX12_look_43 (by decide) ?_
        refine g_istore (pc := 44) (L' := [_, _, _, _, some (.int _), _, _]) C dX12_look_44 rfl rfl ?_
        have loop : ∀ k i z, i + k = P → gx_G w X T 0 0 46 [some (.ref (ad (w_b w) 1000)), some (.int (nI th)), some (.int what), some (.int (lkB (lkF al i))), some (.int (lkM (lkF al i))), some (.int (nI i)), z] [] (gx_E w X post) := by
          intro k
          induction k with
          | zero =>
            intro i z hi
            have hi : i = P := hi
            subst hi
            refine g_iload (pc := 46) C dX12_look_46 rfl ?_
            refine g_aload_n (pc := 48) C dX12_look_48 rfl ?_
            refine mg_39 (pc := 49) C hm2 dX12_look_49 ?_
            refine g_iconst (pc := 52) (v := nI 4) C dX12_look_52 (by decide) ?_
            refine n_iald (pc := 53) (k := 1010) (n := 190) C rfl rfl (m_z hm2 rfl) isn_v rfl (by omega) dX12_look_53 ?_
            refine gx_ti hP2 ?_
            refine g_icmp_ge (pc := 54) C 97 dX12_look_54 rfl (fun h4 => ?_) (fun h4 => ?_)
            · refine g_iload_n (pc := 97) C dX12_look_97 rfl ?_
              refine g_if_ne (pc := 98) C 105 dX12_look_98 rfl (fun h5 => ?_) (fun h5 => ?_)
              · refine g_iload (pc := 105) C dX12_look_105 rfl ?_
                exact g_ireturn (pc := 107) C ⟨rfl, rfl⟩ dX12_look_107 (hend _ (by rw [if_neg (fun q => h5 (by rw [q]; rfl))]))
              · have h5 : what = nI 0 := Decidable.not_not.mp h5
                refine g_iload_n (pc := 101) C dX12_look_101 rfl ?_
                refine g_goto (pc := 102) C 107 dX12_look_102 rfl ?_
                exact g_ireturn (pc := 107) C ⟨rfl, rfl⟩ dX12_look_107 (hend _ (by rw [if_pos h5]))
            · exact absurd (nI_le (Nat.le_refl i) (by omega)) h4
          | succ k ih =>
            intro i z hi
            have ha := hal7 i
            refine g_iload (pc := 46) C dX12_look_46 rfl ?_
            refine g_aload_n (pc := 48) C dX12_look_48 rfl ?_
            refine mg_39 (pc := 49) C hm2 dX12_look_49 ?_
            refine g_iconst (pc := 52) (v := nI 4) C dX12_look_52 (by decide) ?_
            refine n_iald (pc := 53) (k := 1010) (n := 190) C rfl rfl (m_z hm2 rfl) isn_v rfl (by omega) dX12_look_53 ?_
            refine gx_ti hP2 ?_
            refine g_icmp_ge (pc := 54) C 97 dX12_look_54 rfl (fun h4 => ?_) (fun h4 => ?_)
            · exact absurd h4 (nI_ge (by omega) (by omega))
            · refine g_aload_n (pc := 57) C dX12_look_57 rfl ?_
              refine g_iload (pc := 58) C dX12_look_58 rfl ?_
              refine cf_X12_434 (pc := 60) C rfl (m_z hm2 rfl) (c_X12_alikeAt _ _ T hm2 nr hnr2 hnr6 i (by omega) (ftF Fs (s_I S 1123 1000) (s_A S 1010) P m) (fun r => pnF (frOf Fs r) (s_I S 1123 1000) (begF (s_A S 1010)) P 0 (th + 1) (21 + i)) hf2 (fun r hr => hg2 r hr i (by omega))) ⟨rfl, rfl⟩ ⟨rfl, rfl⟩ ⟨Nat.zero_le _, Nat.zero_le _⟩ rfl (Nat.le_of_ble_eq_true rfl) dX12_look_60 ?_
              refine gx_ti (y := nI (al i)) (by rw [← hal]) ?_
              refine g_istore (pc := 63) (L' := [_, _, _, _, _, some (.int _), _]) C dX12_look_63 rfl rfl ?_
              refine g_iload (pc := 65) C dX12_look_65 rfl ?_
              have take : lkF al (i + 1) = some (i, al i) → gx_G w X T 0 0 84 [some (.ref (ad (w_b w) 1000)), some (.int (nI th)), some (.int what), some (.int (lkB (lkF al i))), some (.int (lkM (lkF al i))), some (.int (nI i)), some (.int (nI (al i)))] [] (gx_E w X post) := by
                intro e
                refine g_iload (pc := 84) C dX12_look_84 rfl ?_
                refine g_istore_n (pc := 86) (L' := [_, _, some (.int _), _, _, _, _]) C dX12_look_86 rfl rfl ?_
                refine g_iload (pc := 87) C dX12_look_87 rfl ?_
                refine g_istore (pc := 89) (L' := [_, _, _, some (.int _), _, _, _]) C dX12_look_89 rfl rfl ?_
                refine g_iinc (pc := 91) (L' := [_, _, _, _, some (.int _), _, _]) C dX12_look_91 rfl (nI_1 _) rfl ?_
                refine g_goto (pc := 94) C 46 dX12_look_94 rfl ?_
                have := ih (i + 1) (some (.int (nI (al i)))) (by omega)
                rw [e] at this
                exact this
              refine g_if_eq (pc := 67) C 91 dX12_look_67 rfl (fun h5 => ?_) (fun h5 => ?_)
              · have h5 : al i = 0 := (nI_eq (b := 0) (by omega) (by omega)).mp h5
                refine g_iinc (pc := 91) (L' := [_, _, _, _, some (.int _), _, _]) C dX12_look_91 rfl (nI_1 _) rfl ?_
                refine g_goto (pc := 94) C 46 dX12_look_94 rfl ?_
                have := ih (i + 1) (some (.int (nI (al i)))) (by omega)
                rw [show lkF al (i + 1) = lkF al i from by simp only [lkF]; rw [if_pos h5]] at this
                exact this
              · have h5 : ¬ al i = 0 := fun q => h5 (by rw [q]; rfl)
                refine g_iload_n (pc := 70) C dX12_look_70 rfl ?_
                cases e : lkF al i with
                | none =>
                  rw [e] at take
                  refine g_if_lt (pc := 71) C 84 dX12_look_71 rfl (fun h6 => ?_) (fun h6 => ?_)
                  · exact take (by simp only [lkF, e]; rw [if_neg h5])
                  · exact absurd (by decide) h6
                | some q =>
                  obtain ⟨b, fm⟩ := q
                  have hbl := lkF_lt hal7 e
                  rw [e] at take
                  refine g_if_lt (pc := 71) C 84 dX12_look_71 rfl (fun h6 => ?_) (fun h6 => ?_)
                  · exact absurd h6 (nI_pos (by omega))
                  · refine g_iload (pc := 74) C dX12_look_74 rfl ?_
                    refine g_iload (pc := 76) C dX12_look_76 rfl ?_
                    refine g_icmp_lt (pc := 78) C 84 dX12_look_78 rfl (fun h7 => ?_) (fun h7 => ?_)
                    · have h7 : al i < fm := (nI_ltI (by omega) (by omega)).mp h7
                      exact take (by simp only [lkF, e]; rw [if_neg h5, if_pos h7])
                    · have h7 : ¬ al i < fm := fun q => h7 (nI_lt q (by omega))
                      refine g_goto (pc := 81) C 91 dX12_look_81 rfl ?_
                      refine g_iinc (pc := 91) (L' := [_, _, _, _, some (.int _), _, _]) C dX12_look_91 rfl (nI_1 _) rfl ?_
                      refine g_goto (pc := 94) C 46 dX12_look_94 rfl ?_
                      have := ih (i + 1) (some (.int (nI (al i)))) (by omega)
                      rw [show lkF al (i + 1) = some (b, fm) from by simp only [lkF, e]; rw [if_neg h5, if_neg h7]] at this
                      exact this
        exact loop P 0 _ (by omega)
      · have h3 := bI_0.mp (Decidable.not_not.mp h3)
        refine g_iconst (pc := 29) (v := -1) C dX12_look_29 (by decide) ?_
        exact g_ireturn (pc := 30) C ⟨rfl, rfl⟩ dX12_look_30 ((by rw [if_neg (fun q => h3 q.2.2)]; exact ⟨rfl, rfl⟩))
