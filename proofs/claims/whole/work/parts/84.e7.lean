/-! ===== THE CLASS: Puzzles: rows ===== -/
def rmT (m : Nat) : Room := { frames := m + 9, cells := 0, slots := 0, locals := 26 * m + 200 }
def dW : Nat → Prop := fun k => k = 74 ∨ k = 75 ∨ k = 76
def rwR (S : St) (many : Nat) (q : Int32 × (Nat → Int32)) : Prop := (q.1 = -1 ∧ s_I S 401 74 = nI 1000000) ∨ ∃ n, n ≤ 63 ∧ q.1 = nI n ∧ s_I S 401 74 = nI n ∧ ∀ i, i < many → s_A S 75 i = q.2 i
/-- what a search may change -/
def dwE (S S' : St) : Prop := eqO dW S S' ∧ (∀ f, s_R S' f 74 = s_R S f 74) ∧ ∀ f, f ≠ 401 → s_I S' f 74 = s_I S f 74
theorem dwE.trans {S T U : St} (h : dwE S T) (g : dwE T U) : dwE S U := ⟨h.1.trans g.1, fun f => (g.2.1 f).trans (h.2.1 f), fun f hf => (g.2.2 f hf).trans (h.2.2 f hf)⟩
theorem dwE.refl {S : St} : dwE S S := ⟨eqO.refl, fun _ => rfl, fun _ _ => rfl⟩
theorem dW_now : ∀ k, dW k → ¬ (k = 7 ∨ k = 13 ∨ k = 14 ∨ ck k) := by
  intro k h
  unfold dW at h
  unfold ck
  omega
theorem pzS.w {S T : St} {c ca cg cl ce P H : Nat} {u : Nat → Int32} (h : pzS S c ca cg cl ce P H u) (e : dwE S T) : pzS T c ca cg cl ce P H u := by
  obtain ⟨⟨z, k1, k2, k3, k4, k5, k6, k7⟩, ⟨v1, v2, v3, v4, v5⟩, hc, hk, hr, hm⟩ := h
  have hdc : ¬ dW c ∧ ¬ dW ca ∧ ¬ dW cg ∧ ¬ dW cl ∧ ¬ dW ce := by
    obtain ⟨h1, h2, h3, h4, h5⟩ := id hk
    unfold ck at h1 h2 h3 h4 h5
    unfold dW
    omega
  exact ⟨⟨by rw [e.1.1]; exact z, (e.2.1 _).trans k1, (e.2.1 _).trans k2, (e.2.1 _).trans k3, (e.2.1 _).trans k4, (e.2.1 _).trans k5, (e.2.1 _).trans k6, k7.to e.1 (by unfold dW; omega)⟩, ⟨(e.2.1 _).trans v1, (e.2.1 _).trans v2, (e.2.2 _ (by decide)).trans v3, (e.2.2 _ (by decide)).trans v4, (e.2.2 _ (by decide)).trans v5⟩, hc.to e.1 hdc, hk, hr.to e.1 (by unfold dW; omega), hm.to e.1 (by unfold dW; omega)⟩
theorem c_X4_tryRow (w : Wd) (l : Launch) (c ca cg cl ce P H th many : Nat) (u : Nat → Int32) (hb : bdU P u) (hmany : many ≤ 7) : ∀ m k r left q S n, k + m = many → pzS S c ca cg cl ce P H u → (∀ j, j < k → r j < P) → lfP th r k left → (∀ j, j < k → s_A S 76 j = nI (r j)) → smF2 u r k = nI n → n ≤ 63 → rwR S many q → gx_M w l yX4_tryRow cX4_tryRow 7 none (rmT m) [.ref (ad (w_b w) 74), .int (nI k), .int (nI many), .int (nI left), .int (nI n)] S (fun v S' => v = none ∧ dwE S S' ∧ (∀ j, j < k → s_A S' 76 j = s_A S 76 j) ∧ rwR S' many (trF u th P many r k q)) := by
  intro m
  induction m with
  | zero =>
    intro k r left q S n hk h hr hlf hR hn hn63 hq
    have hk : k = many := hk
    subst hk
    have o74 : gx_o S 74 4 := o_st h.1.1 rfl rfl
    generalize hpost : (fun (v : Option Value) (S' : St) => v = none ∧ dwE S S' ∧ (∀ j, j < k → s_A S' 76 j = s_A S 76 j) ∧ rwR S' k (trF u th P k r k q)) = post
    have hpr := fun t (e : q.1 = nI t) (ht : t ≤ 63) (htn : t ≤ n) => tr_prune (th := th) hb hmany e ht 0 k r n rfl hr hn hn63 htn
    refine gx_start rfl 2 rfl (Nat.le_of_ble_eq_true rfl) ?_
    intro X C _ hl
    subst hl
    refine gx_L (L' := [_, _, _, _, _, _, _]) rfl ?_
    refine g_iload (pc := 0) C dX4_tryRow_0 rfl ?_
    refine g_aload_n (pc := 2) C dX4_tryRow_2 rfl ?_
    refine fg_X4_148 (pc := 3) C (by exact o74.1) (zk (by exact o74.2)) dX4_tryRow_3 ?_
    refine g_icmp_lt (pc := 6) C 10 dX4_tryRow_6 rfl (fun c1 => ?_) (fun c1 => ?_)
    · refine g_iload_n (pc := 10) C dX4_tryRow_10 rfl ?_
      refine g_iload_n (pc := 11) C dX4_tryRow_11 rfl ?_
      refine g_icmp_ge (pc := 12) C 21 dX4_tryRow_12 rfl (fun c2 => ?_) (fun c2 => ?_)
      · refine g_aload_n (pc := 21) C dX4_tryRow_21 rfl ?_
        refine g_iload (pc := 22) C dX4_tryRow_22 rfl ?_
        refine fp_X4_148 (pc := 24) C (by exact o74.1) (zk (by exact o74.2)) dX4_tryRow_24 ?_
        generalize hS1 : s_setI S 401 74 (nI n) = S1
        have q1 : dwE S S1 := by rw [← hS1]; exact ⟨eqO.sI (Or.inl rfl), fun _ => rfl, fun f hf => gI_ne (Or.inl hf)⟩
        have h1 := h.w q1
        have o1 : gx_o S1 74 4 := o_st h1.1.1 rfl rfl
        have a75 : gx_a S1 75 13 7 := a_st h1.1.1 rfl rfl rfl
        have a76 : gx_a S1 76 13 7 := a_st h1.1.1 rfl rfl rfl
        have r75 := h1.1.2.1
        have r76 := h1.1.2.2.1
        have e76 : s_A S1 76 = s_A S 76 := by rw [← hS1]; rfl
        refine g_aload_n (pc := 27) C dX4_tryRow_27 rfl ?_
        refine fgr_X4_15 (pc := 28) C (by exact o1.1) (zk (by exact o1.2)) (by exact r76) dX4_tryRow_28 ?_
        refine g_iconst (pc := 31) (v := nI 0) C dX4_tryRow_31 (by decide) ?_
        refine g_aload_n (pc := 32) C dX4_tryRow_32 rfl ?_
        refine fgr_X4_9 (pc := 33) C (by exact o1.1) (zk (by exact o1.2)) (by exact r75) dX4_tryRow_33 ?_
        refine g_iconst (pc := 36) (v := nI 0) C dX4_tryRow_36 (by decide) ?_
        refine g_bipush (pc := 37) (v := nI 7) C dX4_tryRow_37 (by decide) ?_
        refine g_copyi (pc := 39) (sp := 0) (dp := 0) (n := 7) C wl_X4_155 (by exact a76) (by exact a75) ⟨by omega, by omega, by omega⟩ (by omega) (by omega) ⟨Nat.ble_eq_true_of_le (by simp only [rmT]; omega), Nat.ble_eq_true_of_le (by simp only [rmT]; omega)⟩ rfl (Nat.le_of_ble_eq_true rfl) dX4_tryRow_39 ?_
        rw [← hpost]
        exact g_return (pc := 42) C ⟨rfl, rfl⟩ dX4_tryRow_42 ⟨rfl, q1.trans ⟨eqO.sA (Or.inr (Or.inl rfl)), fun _ => rfl, fun _ _ => rfl⟩, fun j hj => by rw [gA_ne (by decide), e76], by
          unfold trF
          rw [if_pos rfl]
          unfold rwN rwK
          have en : rsF u r (k - 1) = nI n := hn
          rw [if_neg, en]
          · refine Or.inr ⟨n, hn63, rfl, by show s_I S1 401 74 = nI n; rw [← hS1]; exact gI_at, fun i hi => ?_⟩
            rw [gA_at, pk_cpy_in (by omega) (by omega), Nat.sub_zero, Nat.zero_add, e76]
            show s_A S 76 i = va_cpy (fun i => nI (r i)) q.2 0 0 k i
            rw [pk_cpy_in (by omega) (by omega), Nat.sub_zero, Nat.zero_add]
            exact hR i hi
          · rw [en]
            rintro ⟨z1, z2⟩
            rcases hq with ⟨e, -⟩ | ⟨t, ht, e, et, -⟩
            · rw [e] at z1; exact absurd z1 (by decide)
            · rw [e] at z2
              rw [et] at c1
              have := (nI_leI (by omega) (by omega)).mp z2
              exact absurd c1 (nI_nlt (by omega) (by omega))⟩
      · exact absurd (nI_le (Nat.le_refl _) (by omega)) c2
    · rw [← hpost]
      exact g_return (pc := 9) C ⟨rfl, rfl⟩ dX4_tryRow_9 ⟨rfl, dwE.refl, fun _ _ => rfl, by
        rcases hq with ⟨e, et⟩ | ⟨t, ht, e, et, hB⟩
        · rw [et] at c1; exact absurd (nI_lt (by omega) (by omega)) c1
        · rw [et] at c1
          have : t ≤ n := Nat.le_of_not_lt (fun z => c1 (nI_lt z (by omega)))
          rw [hpr t e ht this]
          exact Or.inr ⟨t, ht, e, et, hB⟩⟩
  | succ m ih =>
    intro k r left q S n hk h hr hlf hR hn hn63 hq
    have hkm : k < many := by omega
    have o74 : gx_o S 74 4 := o_st h.1.1 rfl rfl
    generalize hpost : (fun (v : Option Value) (S' : St) => v = none ∧ dwE S S' ∧ (∀ j, j < k → s_A S' 76 j = s_A S 76 j) ∧ rwR S' many (trF u th P many r k q)) = post
    have hpr := fun t (e : q.1 = nI t) (ht : t ≤ 63) (htn : t ≤ n) => tr_prune (th := th) hb hmany e ht (m + 1) k r n hk hr hn hn63 htn
    have hP7 := h.2.2.1.2.2
    refine gx_start rfl 2 rfl (Nat.le_of_ble_eq_true rfl) ?_
    intro X C _ hl
    subst hl
    refine gx_L (L' := [_, _, _, _, _, _, _]) rfl ?_
    refine g_iload (pc := 0) C dX4_tryRow_0 rfl ?_
    refine g_aload_n (pc := 2) C dX4_tryRow_2 rfl ?_
    refine fg_X4_148 (pc := 3) C (by exact o74.1) (zk (by exact o74.2)) dX4_tryRow_3 ?_
    refine g_icmp_lt (pc := 6) C 10 dX4_tryRow_6 rfl (fun c1 => ?_) (fun c1 => ?_)
    · refine g_iload_n (pc := 10) C dX4_tryRow_10 rfl ?_
      refine g_iload_n (pc := 11) C dX4_tryRow_11 rfl ?_
      refine g_icmp_ge (pc := 12) C 21 dX4_tryRow_12 rfl (fun c2 => ?_) (fun c2 => ?_)
      · exact absurd c2 (nI_ge (by omega) (by omega))
      · refine g_iload_n (pc := 15) C dX4_tryRow_15 rfl ?_
        refine g_bipush (pc := 16) (v := nI 7) C dX4_tryRow_16 (by decide) ?_
        refine g_icmp_lt (pc := 18) C 43 dX4_tryRow_18 rfl (fun c3 => ?_) (fun c3 => ?_)
        · have loop : ∀ d p S1 z6, p + d = P → dwE S S1 → (∀ j, j < k → s_A S1 76 j = s_A S 76 j) → rwR S1 many (lpF (stpF u th P many r k) p q) → gx_G w X S1 0 0 46 [some (.ref (ad (w_b w) 74)), some (.int (nI k)), some (.int (nI many)), some (.int (nI left)), some (.int (nI n)), some (.int (nI p)), z6] [] (gx_E w X post) := by
            intro d
            induction d with
            | zero =>
              intro p S1 z6 hp q1 t1 hq1
              have hp : p = P := hp
              subst hp
              have h1 := h.w q1
              have o1 : gx_o S1 74 4 := o_st h1.1.1 rfl rfl
              have rc := h1.2.1.1
              have hc1 := h1.2.2.1
              refine g_iload (pc := 46) C dX4_tryRow_46 rfl ?_
              refine g_aload_n (pc := 48) C dX4_tryRow_48 rfl ?_
              refine fgr_X4_41 (pc := 49) C (by exact o1.1) (zk (by exact o1.2)) (by exact rc) dX4_tryRow_49 ?_
              refine fg_X4_111 (pc := 52) C (by exact hc1.1.1.1) (zk (by exact hc1.1.1.2)) dX4_tryRow_52 ?_
              refine gx_ti (y := nI p) hc1.2.1.2.2.2.2.1 ?_
              refine g_icmp_ge (pc := 55) C 130 dX4_tryRow_55 rfl (fun c4 => ?_) (fun c4 => ?_)
              · rw [← hpost]
                exact g_return (pc := 130) C ⟨rfl, rfl⟩ dX4_tryRow_130 ⟨rfl, q1, t1, by rw [tr_lp hkm]; exact hq1⟩
              · exact absurd (nI_le (Nat.le_refl _) (by omega)) c4
            | succ d jh =>
              intro p S1 z6 hp q1 t1 hq1
              have hpP : p < P := by omega
              have h1 := h.w q1
              have o1 : gx_o S1 74 4 := o_st h1.1.1 rfl rfl
              have a76 : gx_a S1 76 13 7 := a_st h1.1.1 rfl rfl rfl
              have r76 := h1.1.2.2.1
              have rc := h1.2.1.1
              have hc1 := h1.2.2.1
              have hstep : lpF (stpF u th P many r k) (p + 1) q = stpF u th P many r k p (lpF (stpF u th P many r k) p q) := rfl
              have hlp := hlf.2 p (by omega)
              refine g_iload (pc := 46) C dX4_tryRow_46 rfl ?_
              refine g_aload_n (pc := 48) C dX4_tryRow_48 rfl ?_
              refine fgr_X4_41 (pc := 49) C (by exact o1.1) (zk (by exact o1.2)) (by exact rc) dX4_tryRow_49 ?_
              refine fg_X4_111 (pc := 52) C (by exact hc1.1.1.1) (zk (by exact hc1.1.1.2)) dX4_tryRow_52 ?_
              refine gx_ti (y := nI P) hc1.2.1.2.2.2.2.1 ?_
              refine g_icmp_ge (pc := 55) C 130 dX4_tryRow_55 rfl (fun c4 => ?_) (fun c4 => ?_)
              · exact absurd c4 (nI_ge (by omega) (by omega))
              · refine g_iload_n (pc := 58) C dX4_tryRow_58 rfl ?_
                refine g_iload (pc := 59) C dX4_tryRow_59 rfl ?_
                refine g_ishr (pc := 61) C dX4_tryRow_61 ?_
                refine g_iconst (pc := 62) (v := nI 1) C dX4_tryRow_62 (by decide) ?_
                refine g_iand (pc := 63) C dX4_tryRow_63 ?_
                refine gx_ti (y := (if left.testBit p = true then nI 1 else nI 0)) (shr_bit left hlf.1 p (by omega)) ?_
                refine g_iconst (pc := 64) (v := nI 1) C dX4_tryRow_64 (by decide) ?_
                by_cases hbp : left.testBit p = true
                · rw [if_pos hbp]
                  have hst2 : lpF (stpF u th P many r k) (p + 1) q = trF u th P many (updN r k p) (k + 1) (lpF (stpF u th P many r k) p q) := by
                    rw [hstep]
                    unfold stpF
                    rw [if_pos (hlp.mp hbp)]
                  refine g_icmp_ne (pc := 65) C 124 dX4_tryRow_65 rfl (fun c5 => ?_) (fun c5 => ?_)
                  · exact absurd rfl c5
                  · refine g_aload_n (pc := 68) C dX4_tryRow_68 rfl ?_
                    refine fgr_X4_15 (pc := 69) C (by exact o1.1) (zk (by exact o1.2)) (by exact r76) dX4_tryRow_69 ?_
                    refine g_iload_n (pc := 72) C dX4_tryRow_72 rfl ?_
                    refine g_iload (pc := 73) C dX4_tryRow_73 rfl ?_
                    refine n_iast (pc := 75) (n := 7) C (by exact a76.1) (by exact a76.2.1) (zk (by exact a76.2.2)) isn_v rfl (by omega) dX4_tryRow_75 ?_
                    generalize hS2 : s_setA S1 76 (upd (s_A S1 76) k (nI p)) = S2
                    have q2 : dwE S1 S2 := by rw [← hS2]; exact ⟨eqO.sA (Or.inr (Or.inr rfl)), fun _ => rfl, fun _ _ => rfl⟩
                    have e76 : s_A S2 76 = upd (s_A S1 76) k (nI p) := by rw [← hS2]; exact gA_at
                    have q12 := q1.trans q2
                    have h2 := h.w q12
                    have o2 : gx_o S2 74 4 := o_st h2.1.1 rfl rfl
                    have a762 : gx_a S2 76 13 7 := a_st h2.1.1 rfl rfl rfl
                    have r762 := h2.1.2.2.1
                    have rc2 := h2.2.1.1
                    have hc2 := h2.2.2.1
                    have hq2 : rwR S2 many (lpF (stpF u th P many r k) p q) := by
                      rcases hq1 with ⟨e, et⟩ | ⟨t, ht, e, et, hB⟩
                      · exact Or.inl ⟨e, by rw [← hS2]; exact et⟩
                      · exact Or.inr ⟨t, ht, e, by rw [← hS2]; exact et, fun i hi => by rw [← hS2, gA_ne (by decide)]; exact hB i hi⟩
                    have t2 : ∀ j, j < k + 1 → s_A S2 76 j = nI (updN r k p j) := fun j hj => by
                      rw [e76]
                      unfold updN
                      by_cases e : j = k
                      · subst e; rw [pk_us, if_pos rfl]
                      · rw [pk_un e, if_neg e, t1 j (by omega)]; exact hR j (by omega)
                    obtain ⟨n', g1, g2, eg⟩ := sm_up hb (by omega) hr hpP hn hn63
                    obtain ⟨n2, g3, eg2⟩ := sm_n hb (k := k + 1) (by omega) (upd_lt hr hpP)
                    have hnn : n' = n2 := (nI_eq (by omega) (by omega)).mp (eg.symm.trans eg2)
                    obtain ⟨ho1, ho2⟩ := out_nI left hlf.1 p (by omega)
                    have cont : ∀ x, nI n + x = nI n' → gx_G w X S2 0 0 101 [some (.ref (ad (w_b w) 74)), some (.int (nI k)), some (.int (nI many)), some (.int (nI left)), some (.int (nI n)), some (.int (nI p)), z6] [.int x] (gx_E w X post) := by
                      intro x hx
                      refine g_istore (pc := 101) (L' := [_, _, _, _, _, some (.int _), _]) C dX4_tryRow_101 rfl rfl ?_
                      refine g_aload_n (pc := 103) C dX4_tryRow_103 rfl ?_
                      refine g_iload_n (pc := 104) C dX4_tryRow_104 rfl ?_
                      refine g_iconst (pc := 105) (v := nI 1) C dX4_tryRow_105 (by decide) ?_
                      refine g_iadd (pc := 106) C dX4_tryRow_106 ?_
                      refine gx_ti (y := nI (k + 1)) (nI_add _ _) ?_
                      refine g_iload_n (pc := 107) C dX4_tryRow_107 rfl ?_
                      refine g_iload_n (pc := 108) C dX4_tryRow_108 rfl ?_
                      refine g_iconst (pc := 109) (v := nI 1) C dX4_tryRow_109 (by decide) ?_
                      refine g_iload (pc := 110) C dX4_tryRow_110 rfl ?_
                      refine g_ishl (pc := 112) C dX4_tryRow_112 ?_
                      refine g_iconst (pc := 113) (v := -1) C dX4_tryRow_113 (by decide) ?_
                      refine g_ixor (pc := 114) C dX4_tryRow_114 ?_
                      refine g_iand (pc := 115) C dX4_tryRow_115 ?_
                      refine gx_ti (y := nI (left - (left &&& 2 ^ p))) ho1 ?_
                      refine g_iload (pc := 116) C dX4_tryRow_116 rfl ?_
                      refine g_iload (pc := 118) C dX4_tryRow_118 rfl ?_
                      refine g_iadd (pc := 120) C dX4_tryRow_120 ?_
                      refine gx_ti (y := nI n') hx ?_
                      refine cg_X4_151 (pc := 121) C (by exact o2.1) (zk (by exact o2.2)) (ih (k + 1) (updN r k p) (left - (left &&& 2 ^ p)) (lpF (stpF u th P many r k) p q) S2 n' (by omega) h2 (upd_lt hr hpP) (lf_next hlf (by omega) hbp) t2 eg (by omega) hq2) ⟨Nat.ble_eq_true_of_le (by simp only [rmT]; omega), Nat.ble_eq_true_of_le (by simp only [rmT]; omega)⟩ ⟨Nat.zero_le _, Nat.zero_le _⟩ rfl (Nat.le_of_ble_eq_true rfl) dX4_tryRow_121 ?_
                      rintro _ S3 ⟨rfl, q3, t3, hq3⟩
                      refine g_iinc (pc := 124) (L' := [_, _, _, _, some (.int _), _, _]) C dX4_tryRow_124 rfl (nI_1 _) rfl ?_
                      refine g_goto (pc := 127) C 46 dX4_tryRow_127 rfl ?_
                      refine jh (p + 1) S3 _ (by omega) (q12.trans q3) (fun j hj => ?_) (by rw [hst2]; exact hq3)
                      rw [t3 j (by omega), e76, pk_un (by omega)]
                      exact t1 j hj
                    refine g_iload_n (pc := 76) C dX4_tryRow_76 rfl ?_
                    refine g_if_ne (pc := 77) C 84 dX4_tryRow_77 rfl (fun c6 => ?_) (fun c6 => ?_)
                    · have hk0 : k ≠ 0 := fun e => c6 (by rw [e]; rfl)
                      refine g_aload_n (pc := 84) C dX4_tryRow_84 rfl ?_
                      refine fgr_X4_41 (pc := 85) C (by exact o2.1) (zk (by exact o2.2)) (by exact rc2) dX4_tryRow_85 ?_
                      refine g_aload_n (pc := 88) C dX4_tryRow_88 rfl ?_
                      refine fgr_X4_15 (pc := 89) C (by exact o2.1) (zk (by exact o2.2)) (by exact r762) dX4_tryRow_89 ?_
                      refine g_iload_n (pc := 92) C dX4_tryRow_92 rfl ?_
                      refine g_iconst (pc := 93) (v := nI 1) C dX4_tryRow_93 (by decide) ?_
                      refine g_isub (pc := 94) C dX4_tryRow_94 ?_
                      refine n_iald (pc := 95) (n := 7) C (by exact a762.1) (by exact a762.2.1) (zk (by exact a762.2.2)) (pk_sub (by omega)) rfl (by omega) dX4_tryRow_95 ?_
                      refine gx_ti (y := nI (r (k - 1))) (by rw [e76, pk_un (by omega), t1 _ (by omega)]; exact hR _ (by omega)) ?_
                      refine g_iload (pc := 96) C dX4_tryRow_96 rfl ?_
                      refine cf_X4_161 (pc := 98) C (by exact hc2.1.1.1) (zk (by exact hc2.1.1.2)) (c_X0_extra _ _ S2 c ca cg cl ce P u hc2 (r (k - 1)) p (hr _ (by omega)) hpP) ⟨Nat.ble_eq_true_of_le (by simp only [rmT, rmX0_extra]; omega), Nat.ble_eq_true_of_le (by simp only [rmT, rmX0_extra]; omega)⟩ ⟨rfl, rfl⟩ ⟨Nat.zero_le _, Nat.zero_le _⟩ rfl (Nat.le_of_ble_eq_true rfl) dX4_tryRow_98 ?_
                      refine cont _ ?_
                      rw [← eg, sm_next, if_neg hk0, hn]
                    · have hk0 : k = 0 := (nI_eq (b := 0) (by omega) (by omega)).mp (Decidable.not_not.mp c6)
                      refine g_iconst (pc := 80) (v := nI 0) C dX4_tryRow_80 (by decide) ?_
                      refine g_goto (pc := 81) C 101 dX4_tryRow_81 rfl ?_
                      refine cont _ ?_
                      rw [← eg, sm_next, if_pos hk0, hn]
                · rw [if_neg hbp]
                  have hst2 : lpF (stpF u th P many r k) (p + 1) q = lpF (stpF u th P many r k) p q := by
                    rw [hstep]
                    generalize lpF (stpF u th P many r k) p q = qq
                    unfold stpF
                    rw [if_neg (fun z => hbp (hlp.mpr z))]
                  refine g_icmp_ne (pc := 65) C 124 dX4_tryRow_65 rfl (fun c5 => ?_) (fun c5 => ?_)
                  · refine g_iinc (pc := 124) (L' := [_, _, _, _, some (.int _), _, _]) C dX4_tryRow_124 rfl (nI_1 _) rfl ?_
                    refine g_goto (pc := 127) C 46 dX4_tryRow_127 rfl ?_
                    exact jh (p + 1) S1 _ (by omega) q1 t1 (by rw [hst2]; exact hq1)
                  · exact absurd (Decidable.not_not.mp c5) (by decide)
          refine g_iconst (pc := 43) (v := nI 0) C dX4_tryRow_43 (by decide) ?_
          refine g_istore (pc := 44) (L' := [_, _, _, _, some (.int _), _, _]) C dX4_tryRow_44 rfl rfl ?_
          exact loop P 0 S _ (by omega) dwE.refl (fun _ _ => rfl) hq
        · exact absurd (nI_lt (by omega) (by omega)) c3
    · rw [← hpost]
      exact g_return (pc := 9) C ⟨rfl, rfl⟩ dX4_tryRow_9 ⟨rfl, dwE.refl, fun _ _ => rfl, by
        rcases hq with ⟨e, et⟩ | ⟨t, ht, e, et, hB⟩
        · rw [et] at c1; exact absurd (nI_lt (by omega) (by omega)) c1
        · rw [et] at c1
          have : t ≤ n := Nat.le_of_not_lt (fun z => c1 (nI_lt z (by omega)))
          rw [hpr t e ht this]
          exact Or.inr ⟨t, ht, e, et, hB⟩⟩
def rmFR : Room := { frames := 20, cells := 0, slots := 0, locals := 500 }
theorem row_tr {u : Nat → Int32} {th P : Nat} {B : Nat → Int32} : (trF u th P (popN th) (fun _ => 0) 0 (-1, B)).1 = (rowF u th P B).1 ∧ ∀ i, i < popN th → (trF u th P (popN th) (fun _ => 0) 0 (-1, B)).2 i = (rowF u th P B).2 i := by
  unfold trF rowF
  by_cases c : popN th = 0
  · rw [if_pos c.symm, if_pos c]
    refine ⟨?_, fun i hi => absurd hi (by omega)⟩
    rw [c]
    unfold rwN rwK
    rw [if_neg (fun z => absurd (show (0 : Int32) ≤ -1 from z.1) (by decide))]
    rfl
  · rw [if_neg (fun e => c e.symm), if_neg c, Nat.sub_zero]
    exact ⟨rfl, fun _ _ => rfl⟩
theorem c_X4_findRow (w : Wd) (l : Launch) (S : St) (c ca cg cl ce P H : Nat) (u : Nat → Int32) (h : pzS S c ca cg cl ce P H u) (hb : bdU P u) (B : Nat → Int32) : gx_M w l yX4_findRow cX4_findRow 2 (some .int) rmFR [.ref (ad (w_b w) 74)] S (fun v S' => v = some (.int (nI (popN (onN u (u 11) P)))) ∧ dwE S S' ∧ s_I S' 401 74 = (rowF u (onN u (u 11) P) P B).1 ∧ ∀ i, i < popN (onN u (u 11) P) → s_A S' 75 i = (rowF u (onN u (u 11) P) P B).2 i) := by
  have hP7 := h.2.2.1.2.2
  have ho : onN u (u 11) P < 128 := onN_128 hP7
  have hoP := onN_lt u (u 11) P
  have hev := h.2.1.2.2.2.2
  have o74 : gx_o S 74 4 := o_st h.1.1 rfl rfl
  have hp7 := popN_le _ ho
  generalize onN u (u 11) P = o at ho hoP hp7 hev ⊢
  generalize hpost : (fun (v : Option Value) (S' : St) => v = some (.int (nI (popN o))) ∧ dwE S S' ∧ s_I S' 401 74 = (rowF u o P B).1 ∧ ∀ i, i < popN o → s_A S' 75 i = (rowF u o P B).2 i) = post
  refine gx_start rfl 1 rfl (Nat.le_of_ble_eq_true rfl) ?_
  intro X C _ hl
  subst hl
  refine gx_L (L' := [_, _]) rfl ?_
  refine g_aload_n (pc := 0) C dX4_findRow_0 rfl ?_
  refine g_ldc (pc := 1) (v := 1000000) C dX4_findRow_1 kc_X4_110 ?_
  refine fp_X4_148 (pc := 3) C (by exact o74.1) (zk (by exact o74.2)) dX4_findRow_3 ?_
  generalize hS1 : s_setI S 401 74 1000000 = S1
  have q1 : dwE S S1 := by rw [← hS1]; exact ⟨eqO.sI (Or.inl rfl), fun _ => rfl, fun f hf => gI_ne (Or.inl hf)⟩
  have h1 := h.w q1
  have o1 : gx_o S1 74 4 := o_st h1.1.1 rfl rfl
  have hev1 : s_I S1 411 74 = nI o := (q1.2.2 _ (by decide)).trans hev
  have hq1 : rwR S1 (popN o) (-1, B) := Or.inl ⟨rfl, by rw [← hS1]; exact gI_at⟩
  have hlf : lfP o (fun _ => 0) 0 o := ⟨ho, fun p hp => ⟨fun z => ⟨z, fun i hi => absurd hi (by omega)⟩, fun z => z.1⟩⟩
  refine g_aload_n (pc := 6) C dX4_findRow_6 rfl ?_
  refine fg_X4_67 (pc := 7) C (by exact o1.1) (zk (by exact o1.2)) dX4_findRow_7 ?_
  refine gx_ti (y := nI o) hev1 ?_
  refine cf_X4_81 (pc := 10) C (c_bitCount _ _ S1 o ho) ⟨rfl, rfl⟩ ⟨rfl, rfl⟩ ⟨Nat.zero_le _, Nat.zero_le _⟩ rfl (Nat.le_of_ble_eq_true rfl) dX4_findRow_10 ?_
  refine g_istore_n (pc := 13) (L' := [some (.ref _), _]) C dX4_findRow_13 rfl rfl ?_
  refine g_aload_n (pc := 14) C dX4_findRow_14 rfl ?_
  refine g_iconst (pc := 15) (v := nI 0) C dX4_findRow_15 (by decide) ?_
  refine g_iload_n (pc := 16) C dX4_findRow_16 rfl ?_
  refine g_aload_n (pc := 17) C dX4_findRow_17 rfl ?_
  refine fg_X4_67 (pc := 18) C (by exact o1.1) (zk (by exact o1.2)) dX4_findRow_18 ?_
  refine gx_ti (y := nI o) hev1 ?_
  refine g_iconst (pc := 21) (v := nI 0) C dX4_findRow_21 (by decide) ?_
  refine cg_X4_151 (pc := 22) C (by exact o1.1) (zk (by exact o1.2)) (c_X4_tryRow _ _ c ca cg cl ce P H o (popN o) u hb hp7 (popN o) 0 (fun _ => 0) o (-1, B) S1 0 (by omega) h1 (fun j hj => absurd hj (by omega)) hlf (fun j hj => absurd hj (by omega)) rfl (by omega) hq1) ⟨Nat.ble_eq_true_of_le (by simp only [rmT, rmFR]; omega), Nat.ble_eq_true_of_le (by simp only [rmT, rmFR]; omega)⟩ ⟨Nat.zero_le _, Nat.zero_le _⟩ rfl (Nat.le_of_ble_eq_true rfl) dX4_findRow_22 ?_
  rintro _ S2 ⟨rfl, q2, t2, hq2⟩
  have hge := (tr_ge (th := o) hb hp7 (popN o) 0 (fun _ => 0) (-1, B) (by omega) (fun j hj => absurd hj (by omega))).2 o hlf rfl hoP
  refine g_iload_n (pc := 25) C dX4_findRow_25 rfl ?_
  rw [← hpost]
  exact g_ireturn (pc := 26) C ⟨rfl, rfl⟩ dX4_findRow_26 ⟨rfl, q1.trans q2, by
    rcases hq2 with ⟨e, et⟩ | ⟨t, ht, e, et, hB⟩
    · rw [e] at hge; exact absurd hge (by decide)
    · rw [et, ← e]; exact row_tr.1, fun i hi => by
    rcases hq2 with ⟨e, et⟩ | ⟨t, ht, e, et, hB⟩
    · rw [e] at hge; exact absurd hge (by decide)
    · rw [hB i hi]; exact row_tr.2 i hi⟩
