/-! ===== THE CLASS: Puzzles: sets that are safe, who stays ===== -/
def sB : Option Nat → Int32
  | none => -1
  | some b => nI b
def sC : Option Nat → Int32
  | none => -1
  | some b => nI (popN b)
theorem c_X4_largestSafeSet (w : Wd) (l : Launch) (S : St) (c ca cg cl ce P H : Nat) (u : Nat → Int32) (h : pzS S c ca cg cl ce P H u) (hb : bdU P u) (ha : sdA P u) : gx_M w l yX4_largestSafeSet cX4_largestSafeSet 4 (some .int) rmX4_largestSafeSet [.ref (ad (w_b w) 74)] S (pI (sB (mstF (ccF 0 u P H) (2 ^ P))) S) := by
  obtain ⟨hk, hv, hc, hk5, hr, hm⟩ := id h
  have hP7 := hc.2.2
  have h2P := p128 hP7
  have o74 : gx_o S 74 4 := o_st hk.1 rfl rfl
  refine gx_start rfl 3 rfl (Nat.le_of_ble_eq_true rfl) ?_
  intro X C _ hl
  subst hl
  refine gx_L (L' := [_, _, _, _]) rfl ?_
  refine g_iconst (pc := 0) (v := -1) C dX4_largestSafeSet_0 (by decide) ?_
  refine g_istore_n (pc := 1) (L' := [some (.ref _), _, _, _]) C dX4_largestSafeSet_1 rfl rfl ?_
  refine g_iconst (pc := 2) (v := -1) C dX4_largestSafeSet_2 (by decide) ?_
  refine g_istore_n (pc := 3) (L' := [_, some (.int _), _, _]) C dX4_largestSafeSet_3 rfl rfl ?_
  refine g_iconst (pc := 4) (v := nI 0) C dX4_largestSafeSet_4 (by decide) ?_
  refine g_istore_n (pc := 5) (L' := [_, _, some (.int _), _]) C dX4_largestSafeSet_5 rfl rfl ?_
  have loop : ∀ d k, k + d = 2 ^ P → gx_G w X S 0 0 6 [some (.ref (ad (w_b w) 74)), some (.int (sB (mstF (ccF 0 u P H) k))), some (.int (sC (mstF (ccF 0 u P H) k))), some (.int (nI k))] [] (gx_E w X (pI (sB (mstF (ccF 0 u P H) (2 ^ P))) S)) := by
    intro d
    induction d with
    | zero =>
      intro k hk
      have hk : k = 2 ^ P := hk
      subst hk
      refine g_iload_n (pc := 6) C dX4_largestSafeSet_6 rfl ?_
      refine g_aload_n (pc := 7) C dX4_largestSafeSet_7 rfl ?_
      refine fg_X4_60 (pc := 8) C (by exact o74.1) (zk (by exact o74.2)) dX4_largestSafeSet_8 ?_
      refine gx_ti (y := nI (2 ^ P - 1)) hv.2.2.2.1 ?_
      refine g_icmp_gt (pc := 11) C 43 dX4_largestSafeSet_11 rfl (fun c1 => ?_) (fun c1 => ?_)
      · refine g_iload_n (pc := 43) C dX4_largestSafeSet_43 rfl ?_
        exact g_ireturn (pc := 44) C ⟨rfl, rfl⟩ dX4_largestSafeSet_44 ⟨rfl, rfl⟩
      · exact absurd (nI_lt (by omega) (by omega)) c1
    | succ d ih =>
      intro k hk
      have next := ih (k + 1) (by omega)
      simp only [mstF] at next
      have pk := popN_le k (by omega)
      refine g_iload_n (pc := 6) C dX4_largestSafeSet_6 rfl ?_
      refine g_aload_n (pc := 7) C dX4_largestSafeSet_7 rfl ?_
      refine fg_X4_60 (pc := 8) C (by exact o74.1) (zk (by exact o74.2)) dX4_largestSafeSet_8 ?_
      refine gx_ti (y := nI (2 ^ P - 1)) hv.2.2.2.1 ?_
      refine g_icmp_gt (pc := 11) C 43 dX4_largestSafeSet_11 rfl (fun c1 => ?_) (fun c1 => ?_)
      · exact absurd c1 (nI_nlt (by omega) (by omega))
      · have skip : ¬ (betterF (mstF (ccF 0 u P H) k) k = true ∧ ccF 0 u P H k = true) → gx_G w X S 0 0 37 [some (.ref (ad (w_b w) 74)), some (.int (sB (mstF (ccF 0 u P H) k))), some (.int (sC (mstF (ccF 0 u P H) k))), some (.int (nI k))] [] (gx_E w X (pI (sB (mstF (ccF 0 u P H) (2 ^ P))) S)) := by
          intro hno
          rw [if_neg hno] at next
          refine g_iinc (pc := 37) (L' := [_, _, some (.int _), _]) C dX4_largestSafeSet_37 rfl (nI_1 _) rfl ?_
          refine g_goto (pc := 40) C 6 dX4_largestSafeSet_40 rfl ?_
          exact next
        have hbet : betterF (mstF (ccF 0 u P H) k) k = true ↔ ¬ nI (popN k) ≤ sC (mstF (ccF 0 u P H) k) := by
          cases e : mstF (ccF 0 u P H) k with
          | none => exact ⟨fun _ q => absurd (Int32.le_trans (nI_le (Nat.zero_le (popN k)) (by omega)) q) (by decide), fun _ => rfl⟩
          | some b =>
            have hb := mstF_lt e
            have pb := popN_le b (by omega)
            constructor
            · intro q z
              have q : popN b < popN k := of_decide_eq_true q
              exact absurd ((nI_leI (by omega) (by omega)).mp z) (by omega)
            · intro z
              exact decide_eq_true (Nat.lt_of_not_le (fun q => z (nI_le q (by omega))))
        refine g_iload_n (pc := 14) C dX4_largestSafeSet_14 rfl ?_
        refine cf_X4_81 (pc := 15) C (c_bitCount _ _ S k (by omega)) ⟨rfl, rfl⟩ ⟨rfl, rfl⟩ ⟨Nat.zero_le _, Nat.zero_le _⟩ rfl (Nat.le_of_ble_eq_true rfl) dX4_largestSafeSet_15 ?_
        refine g_iload_n (pc := 18) C dX4_largestSafeSet_18 rfl ?_
        refine g_icmp_le (pc := 19) C 37 dX4_largestSafeSet_19 rfl (fun c2 => ?_) (fun c2 => ?_)
        · exact skip (fun q => hbet.mp q.1 c2)
        · refine g_aload_n (pc := 22) C dX4_largestSafeSet_22 rfl ?_
          refine g_iload_n (pc := 23) C dX4_largestSafeSet_23 rfl ?_
          refine cf_X4_87 (pc := 24) C (by exact o74.1) (zk (by exact o74.2)) (c_X4_isSafe _ _ S c ca cg cl ce P H u h hb ha k (by omega)) ⟨rfl, rfl⟩ ⟨rfl, rfl⟩ ⟨Nat.zero_le _, Nat.zero_le _⟩ rfl (Nat.le_of_ble_eq_true rfl) dX4_largestSafeSet_24 ?_
          refine g_if_eq (pc := 27) C 37 dX4_largestSafeSet_27 rfl (fun c3 => ?_) (fun c3 => ?_)
          · exact skip (fun q => bI_0.mp c3 q.2)
          · have c3 := Decidable.not_not.mp (fun q => c3 (bI_0.mpr q))
            rw [if_pos ⟨hbet.mpr c2, c3⟩] at next
            refine g_iload_n (pc := 30) C dX4_largestSafeSet_30 rfl ?_
            refine g_istore_n (pc := 31) (L' := [some (.ref _), _, _, _]) C dX4_largestSafeSet_31 rfl rfl ?_
            refine g_iload_n (pc := 32) C dX4_largestSafeSet_32 rfl ?_
            refine cf_X4_81 (pc := 33) C (c_bitCount _ _ S k (by omega)) ⟨rfl, rfl⟩ ⟨rfl, rfl⟩ ⟨Nat.zero_le _, Nat.zero_le _⟩ rfl (Nat.le_of_ble_eq_true rfl) dX4_largestSafeSet_33 ?_
            refine g_istore_n (pc := 36) (L' := [_, some (.int _), _, _]) C dX4_largestSafeSet_36 rfl rfl ?_
            refine g_iinc (pc := 37) (L' := [_, _, some (.int _), _]) C dX4_largestSafeSet_37 rfl (nI_1 _) rfl ?_
            refine g_goto (pc := 40) C 6 dX4_largestSafeSet_40 rfl ?_
            exact next
  exact loop (2 ^ P) 0 (by omega)
theorem c_X4_neverSafe (w : Wd) (l : Launch) (S : St) (c ca cg cl ce P H : Nat) (u : Nat → Int32) (h : pzS S c ca cg cl ce P H u) (hb : bdU P u) (ha : sdA P u) : gx_M w l yX4_neverSafe cX4_neverSafe 3 (some .int) rmX4_neverSafe [.ref (ad (w_b w) 74)] S (pI (nI (onN u (u 11) P - (onN u (u 11) P &&& nvF (ccF 0 u P H) (2 ^ P)))) S) := by
  obtain ⟨hk, hv, hc, hk5, hr, hm⟩ := id h
  have hP7 := hc.2.2
  have h2P := p128 hP7
  have o74 : gx_o S 74 4 := o_st hk.1 rfl rfl
  have ho : onN u (u 11) P < 128 := onN_128 hP7
  refine gx_start rfl 2 rfl (Nat.le_of_ble_eq_true rfl) ?_
  intro X C _ hl
  subst hl
  refine gx_L (L' := [_, _, _]) rfl ?_
  refine g_iconst (pc := 0) (v := nI 0) C dX4_neverSafe_0 (by decide) ?_
  refine g_istore_n (pc := 1) (L' := [some (.ref _), _, _]) C dX4_neverSafe_1 rfl rfl ?_
  refine g_iconst (pc := 2) (v := nI 0) C dX4_neverSafe_2 (by decide) ?_
  refine g_istore_n (pc := 3) (L' := [_, some (.int _), _]) C dX4_neverSafe_3 rfl rfl ?_
  have loop : ∀ d k, k + d = 2 ^ P → gx_G w X S 0 0 4 [some (.ref (ad (w_b w) 74)), some (.int (nI (nvF (ccF 0 u P H) k))), some (.int (nI k))] [] (gx_E w X (pI (nI (onN u (u 11) P - (onN u (u 11) P &&& nvF (ccF 0 u P H) (2 ^ P)))) S)) := by
    intro d
    induction d with
    | zero =>
      intro k hk
      have hk : k = 2 ^ P := hk
      subst hk
      have hn := nvF_lt (ok := ccF 0 u P H) (2 ^ P) (by omega)
      refine g_iload_n (pc := 4) C dX4_neverSafe_4 rfl ?_
      refine g_aload_n (pc := 5) C dX4_neverSafe_5 rfl ?_
      refine fg_X4_60 (pc := 6) C (by exact o74.1) (zk (by exact o74.2)) dX4_neverSafe_6 ?_
      refine gx_ti (y := nI (2 ^ P - 1)) hv.2.2.2.1 ?_
      refine g_icmp_gt (pc := 9) C 38 dX4_neverSafe_9 rfl (fun c1 => ?_) (fun c1 => ?_)
      · refine g_aload_n (pc := 38) C dX4_neverSafe_38 rfl ?_
        refine fg_X4_67 (pc := 39) C (by exact o74.1) (zk (by exact o74.2)) dX4_neverSafe_39 ?_
        refine gx_ti (y := nI (onN u (u 11) P)) hv.2.2.2.2 ?_
        refine g_iload_n (pc := 42) C dX4_neverSafe_42 rfl ?_
        refine g_iconst (pc := 43) (v := -1) C dX4_neverSafe_43 (by decide) ?_
        refine g_ixor (pc := 44) C dX4_neverSafe_44 ?_
        refine g_iand (pc := 45) C dX4_neverSafe_45 ?_
        refine gx_ti (y := nI (onN u (u 11) P - (onN u (u 11) P &&& nvF (ccF 0 u P H) (2 ^ P)))) (andn_nI _ ho _ hn) ?_
        exact g_ireturn (pc := 46) C ⟨rfl, rfl⟩ dX4_neverSafe_46 ⟨rfl, rfl⟩
      · exact absurd (nI_lt (by omega) (by omega)) c1
    | succ d ih =>
      intro k hk
      have next := ih (k + 1) (by omega)
      simp only [nvF] at next
      have hn := nvF_lt (ok := ccF 0 u P H) k (by omega)
      refine g_iload_n (pc := 4) C dX4_neverSafe_4 rfl ?_
      refine g_aload_n (pc := 5) C dX4_neverSafe_5 rfl ?_
      refine fg_X4_60 (pc := 6) C (by exact o74.1) (zk (by exact o74.2)) dX4_neverSafe_6 ?_
      refine gx_ti (y := nI (2 ^ P - 1)) hv.2.2.2.1 ?_
      refine g_icmp_gt (pc := 9) C 38 dX4_neverSafe_9 rfl (fun c1 => ?_) (fun c1 => ?_)
      · exact absurd c1 (nI_nlt (by omega) (by omega))
      · have skip : ¬ (¬ (k ||| nvF (ccF 0 u P H) k = nvF (ccF 0 u P H) k) ∧ ccF 0 u P H k = true) → gx_G w X S 0 0 32 [some (.ref (ad (w_b w) 74)), some (.int (nI (nvF (ccF 0 u P H) k))), some (.int (nI k))] [] (gx_E w X (pI (nI (onN u (u 11) P - (onN u (u 11) P &&& nvF (ccF 0 u P H) (2 ^ P)))) S)) := by
          intro hno
          rw [if_neg hno] at next
          refine g_iinc (pc := 32) (L' := [_, some (.int _), _]) C dX4_neverSafe_32 rfl (nI_1 _) rfl ?_
          refine g_goto (pc := 35) C 4 dX4_neverSafe_35 rfl ?_
          exact next
        refine g_iload_n (pc := 12) C dX4_neverSafe_12 rfl ?_
        refine g_iload_n (pc := 13) C dX4_neverSafe_13 rfl ?_
        refine g_iconst (pc := 14) (v := -1) C dX4_neverSafe_14 (by decide) ?_
        refine g_ixor (pc := 15) C dX4_neverSafe_15 ?_
        refine g_iand (pc := 16) C dX4_neverSafe_16 ?_
        refine g_if_eq (pc := 17) C 32 dX4_neverSafe_17 rfl (fun c2 => ?_) (fun c2 => ?_)
        · exact skip (fun q => q.1 ((sub_iff k (by omega) _ hn).mp c2))
        · refine g_aload_n (pc := 20) C dX4_neverSafe_20 rfl ?_
          refine g_iload_n (pc := 21) C dX4_neverSafe_21 rfl ?_
          refine cf_X4_87 (pc := 22) C (by exact o74.1) (zk (by exact o74.2)) (c_X4_isSafe _ _ S c ca cg cl ce P H u h hb ha k (by omega)) ⟨rfl, rfl⟩ ⟨rfl, rfl⟩ ⟨Nat.zero_le _, Nat.zero_le _⟩ rfl (Nat.le_of_ble_eq_true rfl) dX4_neverSafe_22 ?_
          refine g_if_eq (pc := 25) C 32 dX4_neverSafe_25 rfl (fun c3 => ?_) (fun c3 => ?_)
          · exact skip (fun q => bI_0.mp c3 q.2)
          · have c3 := Decidable.not_not.mp (fun q => c3 (bI_0.mpr q))
            rw [if_pos ⟨fun q => c2 ((sub_iff k (by omega) _ hn).mpr q), c3⟩] at next
            refine g_iload_n (pc := 28) C dX4_neverSafe_28 rfl ?_
            refine g_iload_n (pc := 29) C dX4_neverSafe_29 rfl ?_
            refine g_ior (pc := 30) C dX4_neverSafe_30 ?_
            refine gx_ti (y := nI (nvF (ccF 0 u P H) k ||| k)) (or_nI _ hn k (by omega)).1 ?_
            refine g_istore_n (pc := 31) (L' := [some (.ref _), _, _]) C dX4_neverSafe_31 rfl rfl ?_
            refine g_iinc (pc := 32) (L' := [_, some (.int _), _]) C dX4_neverSafe_32 rfl (nI_1 _) rfl ?_
            refine g_goto (pc := 35) C 4 dX4_neverSafe_35 rfl ?_
            exact next
  exact loop (2 ^ P) 0 (by omega)
theorem out_nI : ∀ o, o < 128 → ∀ p, p < 7 → nI o &&& ((nI 1 <<< (nI p &&& 31)) ^^^ (-1)) = nI (o - (o &&& 2 ^ p)) ∧ o - (o &&& 2 ^ p) < 128 := by decide +kernel
theorem c_X4_weightWithout (w : Wd) (l : Launch) (S : St) (c ca cg cl ce P H : Nat) (u : Nat → Int32) (h : pzS S c ca cg cl ce P H u) (ha : sdA P u) (p : Nat) (hp : p < P) : gx_M w l yX4_weightWithout cX4_weightWithout 2 (some .int) rmX4_weightWithout [.ref (ad (w_b w) 74), .int (nI p)] S (pI (weightF u P (fogF 0 u H) (onN u (u 11) P - (onN u (u 11) P &&& 2 ^ p)) False) S) := by
  obtain ⟨hk, hv, hc, hk5, hr, hm⟩ := id h
  have hP7 := hc.2.2
  have o74 : gx_o S 74 4 := o_st hk.1 rfl rfl
  have ho := out_nI _ (onN_128 (said := u) (side := u 11) hP7) p (by omega)
  have rc := hv.1
  have rr := hv.2.1
  refine gx_start rfl 0 rfl (Nat.le_of_ble_eq_true rfl) ?_
  intro X C _ hl
  subst hl
  refine gx_L (L' := [_, _]) rfl ?_
  refine g_aload_n (pc := 0) C dX4_weightWithout_0 rfl ?_
  refine fgr_X4_45 (pc := 1) C (by exact o74.1) (zk (by exact o74.2)) (by exact rr) dX4_weightWithout_1 ?_
  refine g_aload_n (pc := 4) C dX4_weightWithout_4 rfl ?_
  refine fgr_X4_41 (pc := 5) C (by exact o74.1) (zk (by exact o74.2)) (by exact rc) dX4_weightWithout_5 ?_
  refine g_aload_n (pc := 8) C dX4_weightWithout_8 rfl ?_
  refine fg_X4_67 (pc := 9) C (by exact o74.1) (zk (by exact o74.2)) dX4_weightWithout_9 ?_
  refine gx_ti (y := nI (onN u (u 11) P)) hv.2.2.2.2 ?_
  refine g_iconst (pc := 12) (v := nI 1) C dX4_weightWithout_12 (by decide) ?_
  refine g_iload_n (pc := 13) C dX4_weightWithout_13 rfl ?_
  refine g_ishl (pc := 14) C dX4_weightWithout_14 ?_
  refine g_iconst (pc := 15) (v := -1) C dX4_weightWithout_15 (by decide) ?_
  refine g_ixor (pc := 16) C dX4_weightWithout_16 ?_
  refine g_iand (pc := 17) C dX4_weightWithout_17 ?_
  refine gx_ti (y := nI (onN u (u 11) P - (onN u (u 11) P &&& 2 ^ p))) ho.1 ?_
  refine g_aload_n (pc := 18) C dX4_weightWithout_18 rfl ?_
  refine fg_X4_50 (pc := 19) C (by exact o74.1) (zk (by exact o74.2)) dX4_weightWithout_19 ?_
  refine gx_ti (y := bI (fogF 0 u H)) hv.2.2.1 ?_
  refine cf_X4_164 (pc := 22) C (by exact hr.1.1.1) (zk (by exact hr.1.1.2)) (c_X6_weigh _ _ S c ca cg cl ce 13 14 P u hc hr ha.1 _ ho.2 (fogF 0 u H)) ⟨rfl, rfl⟩ ⟨rfl, rfl⟩ ⟨Nat.zero_le _, Nat.zero_le _⟩ rfl (Nat.le_of_ble_eq_true rfl) dX4_weightWithout_22 ?_
  exact g_ireturn (pc := 25) C ⟨rfl, rfl⟩ dX4_weightWithout_25 ⟨rfl, rfl⟩
def tB : Option (Nat × Int32) → Int32
  | none => -1
  | some (b, _) => nI b
def tM : Option (Nat × Int32) → Int32
  | none => nI 1000000
  | some (_, m) => m
theorem weight_lt {P s : Nat} {u : Nat → Int32} (h : bdU P u) (ha : sdA P u) (hP : P ≤ 7) (fog : Prop) [Decidable fog] : weightF u P fog s False < nI 1000000 := by
  obtain ⟨f, l, hf, hl, el, ef, hw⟩ := weigh_iv (s := s) h fog (u 11)
  obtain ⟨a, b, h1, h2, e1, e2⟩ := aims_n (s := s) ha.2.1 ha.2.2.2 P (Nat.le_refl P)
  obtain ⟨t, ht, et⟩ := twos_n (s := s) h hP P (Nat.le_refl P)
  unfold weightF
  rw [e1, et, nI_add]
  refine (iv_lt (hw _ (by omega) hP) (iv_n (by omega))).mpr ?_
  unfold wgZ
  split <;> omega
theorem c_X4_bestToStay (w : Wd) (l : Launch) (S : St) (c ca cg cl ce P H : Nat) (u : Nat → Int32) (h : pzS S c ca cg cl ce P H u) (hb : bdU P u) (ha : sdA P u) : gx_M w l yX4_bestToStay cX4_bestToStay 4 (some .int) rmX4_bestToStay [.ref (ad (w_b w) 74)] S (pI (tB (styF (onN u (u 11) P) (fun p => weightF u P (fogF 0 u H) (onN u (u 11) P - (onN u (u 11) P &&& 2 ^ p)) False) P)) S) := by
  obtain ⟨hk, hv, hc, hk5, hr, hm⟩ := id h
  have hP7 := hc.2.2
  have o74 : gx_o S 74 4 := o_st hk.1 rfl rfl
  have ho : onN u (u 11) P < 128 := onN_128 hP7
  have rc := hv.1
  have hW : ∀ p, p < P → gx_M w l yX4_weightWithout cX4_weightWithout 2 (some .int) rmX4_weightWithout [.ref (ad (w_b w) 74), .int (nI p)] S (pI ((fun p => weightF u P (fogF 0 u H) (onN u (u 11) P - (onN u (u 11) P &&& 2 ^ p)) False) p) S) := fun p hp => c_X4_weightWithout w l S c ca cg cl ce P H u h ha p hp
  have hlt : ∀ p, (fun p => weightF u P (fogF 0 u H) (onN u (u 11) P - (onN u (u 11) P &&& 2 ^ p)) False) p < nI 1000000 := fun p => weight_lt hb ha hP7 _
  generalize (fun p => weightF u P (fogF 0 u H) (onN u (u 11) P - (onN u (u 11) P &&& 2 ^ p)) False) = wt at hW hlt ⊢
  refine gx_start rfl 3 rfl (Nat.le_of_ble_eq_true rfl) ?_
  intro X C _ hl
  subst hl
  refine gx_L (L' := [_, _, _, _]) rfl ?_
  refine g_iconst (pc := 0) (v := -1) C dX4_bestToStay_0 (by decide) ?_
  refine g_istore_n (pc := 1) (L' := [some (.ref _), _, _, _]) C dX4_bestToStay_1 rfl rfl ?_
  refine g_ldc (pc := 2) (v := 1000000) C dX4_bestToStay_2 kc_X4_110 ?_
  refine g_istore_n (pc := 4) (L' := [_, some (.int _), _, _]) C dX4_bestToStay_4 rfl rfl ?_
  refine g_iconst (pc := 5) (v := nI 0) C dX4_bestToStay_5 (by decide) ?_
  refine g_istore_n (pc := 6) (L' := [_, _, some (.int _), _]) C dX4_bestToStay_6 rfl rfl ?_
  have loop : ∀ d k, k + d = P → gx_G w X S 0 0 7 [some (.ref (ad (w_b w) 74)), some (.int (tB (styF (onN u (u 11) P) wt k))), some (.int (tM (styF (onN u (u 11) P) wt k))), some (.int (nI k))] [] (gx_E w X (pI (tB (styF (onN u (u 11) P) wt P)) S)) := by
    intro d
    induction d with
    | zero =>
      intro k hk
      have hk : k = P := hk
      subst hk
      refine g_iload_n (pc := 7) C dX4_bestToStay_7 rfl ?_
      refine g_aload_n (pc := 8) C dX4_bestToStay_8 rfl ?_
      refine fgr_X4_41 (pc := 9) C (by exact o74.1) (zk (by exact o74.2)) (by exact rc) dX4_bestToStay_9 ?_
      refine fg_X4_111 (pc := 12) C (by exact hc.1.1.1) (zk (by exact hc.1.1.2)) dX4_bestToStay_12 ?_
      refine gx_ti (y := nI k) hc.2.1.2.2.2.2.1 ?_
      refine g_icmp_ge (pc := 15) C 53 dX4_bestToStay_15 rfl (fun c1 => ?_) (fun c1 => ?_)
      · refine g_iload_n (pc := 53) C dX4_bestToStay_53 rfl ?_
        exact g_ireturn (pc := 54) C ⟨rfl, rfl⟩ dX4_bestToStay_54 ⟨rfl, rfl⟩
      · exact absurd (nI_le (Nat.le_refl _) (by omega)) c1
    | succ d ih =>
      intro k hk
      have next := ih (k + 1) (by omega)
      simp only [styF] at next
      refine g_iload_n (pc := 7) C dX4_bestToStay_7 rfl ?_
      refine g_aload_n (pc := 8) C dX4_bestToStay_8 rfl ?_
      refine fgr_X4_41 (pc := 9) C (by exact o74.1) (zk (by exact o74.2)) (by exact rc) dX4_bestToStay_9 ?_
      refine fg_X4_111 (pc := 12) C (by exact hc.1.1.1) (zk (by exact hc.1.1.2)) dX4_bestToStay_12 ?_
      refine gx_ti (y := nI P) hc.2.1.2.2.2.2.1 ?_
      refine g_icmp_ge (pc := 15) C 53 dX4_bestToStay_15 rfl (fun c1 => ?_) (fun c1 => ?_)
      · exact absurd c1 (nI_ge (by omega) (by omega))
      · refine g_aload_n (pc := 18) C dX4_bestToStay_18 rfl ?_
        refine fg_X4_67 (pc := 19) C (by exact o74.1) (zk (by exact o74.2)) dX4_bestToStay_19 ?_
        refine gx_ti (y := nI (onN u (u 11) P)) hv.2.2.2.2 ?_
        refine g_iload_n (pc := 22) C dX4_bestToStay_22 rfl ?_
        refine g_ishr (pc := 23) C dX4_bestToStay_23 ?_
        refine g_iconst (pc := 24) (v := nI 1) C dX4_bestToStay_24 (by decide) ?_
        refine g_iand (pc := 25) C dX4_bestToStay_25 ?_
        refine gx_ti (y := (if (onN u (u 11) P).testBit k = true then nI 1 else nI 0)) (shr_bit _ ho k (by omega)) ?_
        refine g_iconst (pc := 26) (v := nI 1) C dX4_bestToStay_26 (by decide) ?_
        by_cases hb2 : (onN u (u 11) P).testBit k = true
        · rw [if_pos hb2] at next ⊢
          refine g_icmp_ne (pc := 27) C 47 dX4_bestToStay_27 rfl (fun c2 => ?_) (fun c2 => ?_)
          · exact absurd rfl c2
          · have take : styF (onN u (u 11) P) wt (k + 1) = some (k, wt k) → gx_G w X S 0 0 39 [some (.ref (ad (w_b w) 74)), some (.int (tB (styF (onN u (u 11) P) wt k))), some (.int (tM (styF (onN u (u 11) P) wt k))), some (.int (nI k))] [] (gx_E w X (pI (tB (styF (onN u (u 11) P) wt P)) S)) := by
              intro e
              have next := ih (k + 1) (by omega)
              rw [e] at next
              refine g_iload_n (pc := 39) C dX4_bestToStay_39 rfl ?_
              refine g_istore_n (pc := 40) (L' := [some (.ref _), _, _, _]) C dX4_bestToStay_40 rfl rfl ?_
              refine g_aload_n (pc := 41) C dX4_bestToStay_41 rfl ?_
              refine g_iload_n (pc := 42) C dX4_bestToStay_42 rfl ?_
              refine cf_X4_168 (pc := 43) C (by exact o74.1) (zk (by exact o74.2)) (hW k (by omega)) ⟨rfl, rfl⟩ ⟨rfl, rfl⟩ ⟨Nat.zero_le _, Nat.zero_le _⟩ rfl (Nat.le_of_ble_eq_true rfl) dX4_bestToStay_43 ?_
              refine g_istore_n (pc := 46) (L' := [_, some (.int _), _, _]) C dX4_bestToStay_46 rfl rfl ?_
              refine g_iinc (pc := 47) (L' := [_, _, some (.int _), _]) C dX4_bestToStay_47 rfl (nI_1 _) rfl ?_
              refine g_goto (pc := 50) C 7 dX4_bestToStay_50 rfl ?_
              exact next
            refine g_aload_n (pc := 30) C dX4_bestToStay_30 rfl ?_
            refine g_iload_n (pc := 31) C dX4_bestToStay_31 rfl ?_
            refine cf_X4_168 (pc := 32) C (by exact o74.1) (zk (by exact o74.2)) (hW k (by omega)) ⟨rfl, rfl⟩ ⟨rfl, rfl⟩ ⟨Nat.zero_le _, Nat.zero_le _⟩ rfl (Nat.le_of_ble_eq_true rfl) dX4_bestToStay_32 ?_
            refine g_iload_n (pc := 35) C dX4_bestToStay_35 rfl ?_
            cases e : styF (onN u (u 11) P) wt k with
            | none =>
              rw [e] at take next
              refine g_icmp_ge (pc := 36) C 47 dX4_bestToStay_36 rfl (fun c3 => ?_) (fun c3 => ?_)
              · exact absurd c3 (Int32.not_le.mpr (hlt k))
              · exact take (by simp only [styF]; rw [if_pos hb2, e])
            | some q =>
              obtain ⟨b, m⟩ := q
              rw [e] at take next
              refine g_icmp_ge (pc := 36) C 47 dX4_bestToStay_36 rfl (fun c3 => ?_) (fun c3 => ?_)
              · have c3 : ¬ wt k < m := Int32.not_lt.mpr c3
                have next := next
                simp only [] at next
                rw [if_neg c3] at next
                refine g_iinc (pc := 47) (L' := [_, _, some (.int _), _]) C dX4_bestToStay_47 rfl (nI_1 _) rfl ?_
                refine g_goto (pc := 50) C 7 dX4_bestToStay_50 rfl ?_
                exact next
              · have c3 : wt k < m := Int32.not_le.mp c3
                exact take (by simp only [styF]; rw [if_pos hb2, e]; exact if_pos c3)
        · rw [if_neg hb2] at next ⊢
          refine g_icmp_ne (pc := 27) C 47 dX4_bestToStay_27 rfl (fun c2 => ?_) (fun c2 => ?_)
          · refine g_iinc (pc := 47) (L' := [_, _, some (.int _), _]) C dX4_bestToStay_47 rfl (nI_1 _) rfl ?_
            refine g_goto (pc := 50) C 7 dX4_bestToStay_50 rfl ?_
            exact next
          · exact absurd (Decidable.not_not.mp c2) (by decide)
  exact loop P 0 (by omega)
