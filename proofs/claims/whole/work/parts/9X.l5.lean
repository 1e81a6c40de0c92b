/-! ===== THE CLASS: RuleReader: takeComparison ===== -/
theorem clK_6 : ∀ s, s < 5 → clK (6 + s) = 10 + s := by decide
def tcP (U : St) (T : Nat → Int32) (L m q : Nat) : Option Value → St → Prop := fun v S' => match sgF T L q with
  | none => v = some (.int (nI 12)) ∧ S' = rk4 U q (nI (ftN 0 q))
  | some (s, q2) => v = some (.int (nI (clK (6 + s)))) ∧ S' = rk4 (s_setI U 705 4 (nI m + nI 1)) q2 (alw (bI (nI m + nI 1 ≤ nI 60)) 0 (nI q) (nI 3))
theorem tcP_n {U S' : St} {T : Nat → Int32} {L m q : Nat} {v : Option Value} (h : sgF T L q = none) (h1 : v = some (.int (nI 12))) (h2 : S' = rk4 U q (nI (ftN 0 q))) : tcP U T L m q v S' := by
  unfold tcP; rw [h]; exact ⟨h1, h2⟩
theorem tcP_s {U S' : St} {T : Nat → Int32} {L m q s q2 : Nat} {v : Option Value} (h : sgF T L q = some (s, q2)) (h1 : v = some (.int (nI (clK (6 + s))))) (h2 : S' = rk4 (s_setI U 705 4 (nI m + nI 1)) q2 (alw (bI (nI m + nI 1 ≤ nI 60)) 0 (nI q) (nI 3))) : tcP U T L m q v S' := by
  unfold tcP; rw [h]; exact ⟨h1, h2⟩
theorem c_X8_takeComparison (w : Wd) (l : Launch) (U : St) (T : Nat → Int32) (L n m : Nat) (o : List Nat) (h : ruP U T L n m o) : gx_M w l yX8_takeComparison cX8_takeComparison 4 (some .int) rmX8_takeComparison [.ref (ad (w_b w) 4)] (rk4 U n 0) (tcP U T L m (skN T L n)) := by
  obtain ⟨hd, hT, hc, hn, hm, ho, hu⟩ := id h
  have hL := hd.2.1.2.2.2
  have hB : ∀ i, i < L → isB (T i) := by rw [← hT]; exact hd.2.2
  have o4 : ∀ S, 121 ≤ s_z S → gx_o S 4 7 := fun S q => o_st q rfl rfl
  have o1 : ∀ S, 121 ≤ s_z S → gx_o S 1 9 := fun S q => o_st q rfl rfl
  have zu : 121 ≤ s_z U := hd.2.1.1
  have rt := hd.1
  have hs := sk_bd (T := T) hn
  generalize hpost : tcP U T L m (skN T L n) = post
  refine gx_start rfl 3 rfl (Nat.le_of_ble_eq_true rfl) ?_
  intro X C _ hl
  subst hl
  refine gx_L (L' := [_, _, _, _]) rfl ?_
  refine g_aload_n (pc := 0) C dX8_takeComparison_0 rfl ?_
  refine cf_X8_57 (pc := 1) C (by exact (o4 _ zu).1) (zk (by exact (o4 _ zu).2)) (t_skip _ _ hT hd hn 0) ⟨rfl, rfl⟩ ⟨rfl, rfl⟩ ⟨Nat.zero_le _, Nat.zero_le _⟩ rfl (Nat.le_of_ble_eq_true rfl) dX8_takeComparison_1 ?_
  refine g_istore_n (pc := 4) (L' := [some (.ref _), _, _, _]) C dX8_takeComparison_4 rfl rfl ?_
  generalize skN T L n = q at hs hpost ⊢
  refine g_aload_n (pc := 5) C dX8_takeComparison_5 rfl ?_
  refine fgr_X8_99 (pc := 6) C (by exact (o4 _ zu).1) (zk (by exact (o4 _ zu).2)) (by exact rt) dX8_takeComparison_6 ?_
  refine g_iload_n (pc := 9) C dX8_takeComparison_9 rfl ?_
  refine cf_X8_103 (pc := 10) C (by exact (o1 _ zu).1) (zk (by exact (o1 _ zu).2)) (t_at _ _ hT hd (by omega)) ⟨rfl, rfl⟩ ⟨rfl, rfl⟩ ⟨Nat.zero_le _, Nat.zero_le _⟩ rfl (Nat.le_of_ble_eq_true rfl) dX8_takeComparison_10 ?_
  refine g_istore_n (pc := 13) (L' := [_, some (.int _), _, _]) C dX8_takeComparison_13 rfl rfl ?_
  have hsg : sgF T L q = (if seeV T L q = nI 60 then (if eqP T L (q + 1) then some (1, q + 2) else some (0, q + 1)) else if seeV T L q = nI 61 then some (2, q + 1) else if seeV T L q = nI 62 then (if eqP T L (q + 1) then some (3, q + 2) else some (4, q + 1)) else none) := rfl
  have heq : eqP T L (q + 1) ↔ seeV T L (q + 1) = nI 61 := (see_at hB (by omega)).symm
  have yes : ∀ c, seeV T L q = c → (c = nI 60 ∨ c = nI 61 ∨ c = nI 62) → gx_G w X (rk4 U q 0) 0 0 33 [some (.ref (ad (w_b w) 4)), some (.int (nI q)), some (.int c), none] [.ref (ad (w_b w) 4)] (gx_E w X post) := by
    intro c hcq hc3
    have hU2 : s_A (s_setI U 705 4 (nI m + nI 1)) 2 = T := hT
    have hd2 : rd4K (s_setI U 705 4 (nI m + nI 1)) L := hd.ch rch_I
    have zu2 : 121 ≤ s_z (s_setI U 705 4 (nI m + nI 1)) := zu
    have rt2 : s_R (s_setI U 705 4 (nI m + nI 1)) 700 4 = some 1 := rt
    refine g_iconst (pc := 33) (v := nI 1) C dX8_takeComparison_33 (by decide) ?_
    refine g_goto (pc := 34) C 38 dX8_takeComparison_34 rfl ?_
    refine g_iload_n (pc := 38) C dX8_takeComparison_38 rfl ?_
    refine g_iconst (pc := 39) (v := nI 0) C dX8_takeComparison_39 (by decide) ?_
    refine cf_X8_53 (pc := 40) C (by exact (o4 _ zu).1) (zk (by exact (o4 _ zu).2)) (c_X5_allow_X8 _ _ U L hd q 0 (nI 1) (nI q) (nI 0) (Or.inr rfl)) ⟨rfl, rfl⟩ ⟨rfl, rfl⟩ ⟨Nat.zero_le _, Nat.zero_le _⟩ rfl (Nat.le_of_ble_eq_true rfl) dX8_takeComparison_40 ?_
    refine g_if_ne (pc := 43) C 49 dX8_takeComparison_43 rfl (fun c1 => ?_) (fun c1 => ?_)
    · refine gx_S (S' := rk4 U q 0) (by unfold alw; rw [if_neg (fun z => absurd z.1 (by decide))]) ?_
      refine g_aload_n (pc := 49) C dX8_takeComparison_49 rfl ?_
      refine g_iload_n (pc := 50) C dX8_takeComparison_50 rfl ?_
      refine cf_X8_108 (pc := 51) C (by exact (o4 _ zu).1) (zk (by exact (o4 _ zu).2)) (c_X8_countPart _ _ U L hd q 0 (nI q) (nI m) hu.2.1) ⟨rfl, rfl⟩ ⟨rfl, rfl⟩ ⟨Nat.zero_le _, Nat.zero_le _⟩ rfl (Nat.le_of_ble_eq_true rfl) dX8_takeComparison_51 ?_
      generalize hf : alw (bI (nI m + nI 1 ≤ nI 60)) 0 (nI q) (nI 3) = f
      generalize hU : s_setI U 705 4 (nI m + nI 1) = U2 at hU2 hd2 zu2 rt2 ⊢
      refine g_aload_n (pc := 54) C dX8_takeComparison_54 rfl ?_
      refine g_dup (pc := 55) C dX8_takeComparison_55 rfl ?_
      refine fg_X8_15 (pc := 56) C (by exact (o4 _ zu2).1) (zk (by exact (o4 _ zu2).2)) dX8_takeComparison_56 ?_
      refine gx_ti (y := nI q) rk4_gA ?_
      refine g_iconst (pc := 59) (v := nI 1) C dX8_takeComparison_59 (by decide) ?_
      refine g_iadd (pc := 60) C dX8_takeComparison_60 ?_
      refine gx_ti (y := nI (q + 1)) (nI_add _ _) ?_
      refine fp_X8_15 (pc := 61) C (by exact (o4 _ zu2).1) (zk (by exact (o4 _ zu2).2)) dX8_takeComparison_61 ?_
      refine gx_S (S' := rk4 U2 (q + 1) f) (rk4_at _ _ _ _) ?_
      have fin : ∀ (q2 s : Nat) (wd : Int32), s < 5 → sgF T L q = some (s, q2) → (c = nI 60 ∧ ((wd = nI 1 ∧ s = 1) ∨ (wd = nI 0 ∧ s = 0)) ∨ c = nI 61 ∧ s = 2 ∨ c = nI 62 ∧ ((wd = nI 1 ∧ s = 3) ∨ (wd = nI 0 ∧ s = 4))) → gx_G w X (rk4 U2 q2 f) 0 0 106 [some (.ref (ad (w_b w) 4)), some (.int (nI q)), some (.int c), some (.int wd)] [] (gx_E w X post) := by
        intro q2 s wd hs5 hsg2 hcs
        have hp : ∀ v, v = nI (clK (6 + s)) → post (some (.int v)) (rk4 U2 q2 f) := by
          intro v hv
          rw [← hpost]; exact tcP_s hsg2 (by rw [hv]) (by rw [hf, hU])
        rcases hcs with ⟨e, h1⟩ | ⟨e, rfl⟩ | ⟨e, h1⟩
        · subst e
          refine g_iload_n (pc := 106) C dX8_takeComparison_106 rfl ?_
          refine g_bipush (pc := 107) (v := nI 60) C dX8_takeComparison_107 (by decide) ?_
          refine g_icmp_ne (pc := 109) C 124 dX8_takeComparison_109 rfl (fun d1 => ?_) (fun d1 => ?_)
          · exact absurd rfl d1
          · rcases h1 with ⟨rfl, rfl⟩ | ⟨rfl, rfl⟩
            · refine g_iload_n (pc := 112) C dX8_takeComparison_112 rfl ?_
              refine g_if_eq (pc := 113) C 121 dX8_takeComparison_113 rfl (fun d2 => ?_) (fun d2 => ?_)
              · exact absurd d2 (by decide)
              · refine g_bipush (pc := 116) (v := nI 11) C dX8_takeComparison_116 (by decide) ?_
                refine g_goto (pc := 118) C 123 dX8_takeComparison_118 rfl ?_
                exact g_ireturn (pc := 123) C ⟨rfl, rfl⟩ dX8_takeComparison_123 (hp _ (by decide))
            · refine g_iload_n (pc := 112) C dX8_takeComparison_112 rfl ?_
              refine g_if_eq (pc := 113) C 121 dX8_takeComparison_113 rfl (fun d2 => ?_) (fun d2 => ?_)
              · refine g_bipush (pc := 121) (v := nI 10) C dX8_takeComparison_121 (by decide) ?_
                exact g_ireturn (pc := 123) C ⟨rfl, rfl⟩ dX8_takeComparison_123 (hp _ (by decide))
              · exact absurd rfl d2
        · subst e
          refine g_iload_n (pc := 106) C dX8_takeComparison_106 rfl ?_
          refine g_bipush (pc := 107) (v := nI 60) C dX8_takeComparison_107 (by decide) ?_
          refine g_icmp_ne (pc := 109) C 124 dX8_takeComparison_109 rfl (fun d1 => ?_) (fun d1 => ?_)
          · refine g_iload_n (pc := 124) C dX8_takeComparison_124 rfl ?_
            refine g_bipush (pc := 125) (v := nI 62) C dX8_takeComparison_125 (by decide) ?_
            refine g_icmp_ne (pc := 127) C 142 dX8_takeComparison_127 rfl (fun d2 => ?_) (fun d2 => ?_)
            · refine g_bipush (pc := 142) (v := nI 12) C dX8_takeComparison_142 (by decide) ?_
              exact g_ireturn (pc := 144) C ⟨rfl, rfl⟩ dX8_takeComparison_144 (hp _ (by decide))
            · exact absurd (Decidable.not_not.mp d2) (by decide)
          · exact absurd (Decidable.not_not.mp d1) (by decide)
        · subst e
          refine g_iload_n (pc := 106) C dX8_takeComparison_106 rfl ?_
          refine g_bipush (pc := 107) (v := nI 60) C dX8_takeComparison_107 (by decide) ?_
          refine g_icmp_ne (pc := 109) C 124 dX8_takeComparison_109 rfl (fun d1 => ?_) (fun d1 => ?_)
          · refine g_iload_n (pc := 124) C dX8_takeComparison_124 rfl ?_
            refine g_bipush (pc := 125) (v := nI 62) C dX8_takeComparison_125 (by decide) ?_
            refine g_icmp_ne (pc := 127) C 142 dX8_takeComparison_127 rfl (fun d2 => ?_) (fun d2 => ?_)
            · exact absurd rfl d2
            · rcases h1 with ⟨rfl, rfl⟩ | ⟨rfl, rfl⟩
              · refine g_iload_n (pc := 130) C dX8_takeComparison_130 rfl ?_
                refine g_if_eq (pc := 131) C 139 dX8_takeComparison_131 rfl (fun d3 => ?_) (fun d3 => ?_)
                · exact absurd d3 (by decide)
                · refine g_bipush (pc := 134) (v := nI 13) C dX8_takeComparison_134 (by decide) ?_
                  refine g_goto (pc := 136) C 141 dX8_takeComparison_136 rfl ?_
                  exact g_ireturn (pc := 141) C ⟨rfl, rfl⟩ dX8_takeComparison_141 (hp _ (by decide))
              · refine g_iload_n (pc := 130) C dX8_takeComparison_130 rfl ?_
                refine g_if_eq (pc := 131) C 139 dX8_takeComparison_131 rfl (fun d3 => ?_) (fun d3 => ?_)
                · refine g_bipush (pc := 139) (v := nI 14) C dX8_takeComparison_139 (by decide) ?_
                  exact g_ireturn (pc := 141) C ⟨rfl, rfl⟩ dX8_takeComparison_141 (hp _ (by decide))
                · exact absurd rfl d3
          · exact absurd (Decidable.not_not.mp d1) (by decide)
      have narrow0 : ∀ s, sgF T L q = some (s, q + 1) → s < 5 → (c = nI 60 ∧ s = 0 ∨ c = nI 61 ∧ s = 2 ∨ c = nI 62 ∧ s = 4) → gx_G w X (rk4 U2 (q + 1) f) 0 0 90 [some (.ref (ad (w_b w) 4)), some (.int (nI q)), some (.int c), none] [] (gx_E w X post) := by
        intro s hs2 hs5 hcs
        refine g_iconst (pc := 90) (v := nI 0) C dX8_takeComparison_90 (by decide) ?_
        refine g_istore_n (pc := 91) (L' := [_, _, some (.int _), _]) C dX8_takeComparison_91 rfl rfl ?_
        refine g_iload_n (pc := 92) C dX8_takeComparison_92 rfl ?_
        refine g_if_eq (pc := 93) C 106 dX8_takeComparison_93 rfl (fun d1 => ?_) (fun d1 => ?_)
        · refine fin (q + 1) s _ hs5 hs2 ?_
          rcases hcs with ⟨a, b⟩ | ⟨a, b⟩ | ⟨a, b⟩
          · exact Or.inl ⟨a, Or.inr ⟨rfl, b⟩⟩
          · exact Or.inr (Or.inl ⟨a, b⟩)
          · exact Or.inr (Or.inr ⟨a, Or.inr ⟨rfl, b⟩⟩)
        · exact absurd rfl d1
      refine g_iload_n (pc := 64) C dX8_takeComparison_64 rfl ?_
      refine g_bipush (pc := 65) (v := nI 61) C dX8_takeComparison_65 (by decide) ?_
      refine g_icmp_eq (pc := 67) C 90 dX8_takeComparison_67 rfl (fun d0 => ?_) (fun d0 => ?_)
      · subst d0
        exact narrow0 2 (by rw [hsg, hcq, if_neg (by decide), if_pos rfl]) (by omega) (Or.inr (Or.inl ⟨rfl, rfl⟩))
      · refine g_aload_n (pc := 70) C dX8_takeComparison_70 rfl ?_
        refine fgr_X8_99 (pc := 71) C (by exact (o4 _ zu2).1) (zk (by exact (o4 _ zu2).2)) (by exact rt2) dX8_takeComparison_71 ?_
        refine g_aload_n (pc := 74) C dX8_takeComparison_74 rfl ?_
        refine fg_X8_15 (pc := 75) C (by exact (o4 _ zu2).1) (zk (by exact (o4 _ zu2).2)) dX8_takeComparison_75 ?_
        refine gx_ti (y := nI (q + 1)) rk4_gA ?_
        refine cf_X8_103 (pc := 78) C (by exact (o1 _ zu2).1) (zk (by exact (o1 _ zu2).2)) (t_at _ _ hU2 hd2 (by omega)) ⟨rfl, rfl⟩ ⟨rfl, rfl⟩ ⟨Nat.zero_le _, Nat.zero_le _⟩ rfl (Nat.le_of_ble_eq_true rfl) dX8_takeComparison_78 ?_
        refine g_bipush (pc := 81) (v := nI 61) C dX8_takeComparison_81 (by decide) ?_
        refine g_icmp_ne (pc := 83) C 90 dX8_takeComparison_83 rfl (fun d1 => ?_) (fun d1 => ?_)
        · have hne : ¬ eqP T L (q + 1) := fun z => d1 (heq.mp z)
          rcases hc3 with e | e | e
          · refine narrow0 0 ?_ (by omega) (Or.inl ⟨e, rfl⟩)
            rw [hsg, hcq, e, if_pos rfl, if_neg hne]
          · exact absurd e d0
          · refine narrow0 4 ?_ (by omega) (Or.inr (Or.inr ⟨e, rfl⟩))
            rw [hsg, hcq, e, if_neg (by decide), if_neg (by decide), if_pos rfl, if_neg hne]
        · have hye : eqP T L (q + 1) := heq.mpr (Decidable.not_not.mp d1)
          refine g_iconst (pc := 86) (v := nI 1) C dX8_takeComparison_86 (by decide) ?_
          refine g_goto (pc := 87) C 91 dX8_takeComparison_87 rfl ?_
          refine g_istore_n (pc := 91) (L' := [_, _, some (.int _), _]) C dX8_takeComparison_91 rfl rfl ?_
          refine g_iload_n (pc := 92) C dX8_takeComparison_92 rfl ?_
          refine g_if_eq (pc := 93) C 106 dX8_takeComparison_93 rfl (fun d2 => ?_) (fun d2 => ?_)
          · exact absurd d2 (by decide)
          · refine g_aload_n (pc := 96) C dX8_takeComparison_96 rfl ?_
            refine g_dup (pc := 97) C dX8_takeComparison_97 rfl ?_
            refine fg_X8_15 (pc := 98) C (by exact (o4 _ zu2).1) (zk (by exact (o4 _ zu2).2)) dX8_takeComparison_98 ?_
            refine gx_ti (y := nI (q + 1)) rk4_gA ?_
            refine g_iconst (pc := 101) (v := nI 1) C dX8_takeComparison_101 (by decide) ?_
            refine g_iadd (pc := 102) C dX8_takeComparison_102 ?_
            refine gx_ti (y := nI (q + 2)) (nI_add _ _) ?_
            refine fp_X8_15 (pc := 103) C (by exact (o4 _ zu2).1) (zk (by exact (o4 _ zu2).2)) dX8_takeComparison_103 ?_
            refine gx_S (S' := rk4 U2 (q + 2) f) (rk4_at _ _ _ _) ?_
            rcases hc3 with e | e | e
            · refine fin (q + 2) 1 _ (by omega) ?_ (Or.inl ⟨e, Or.inl ⟨rfl, rfl⟩⟩)
              rw [hsg, hcq, e, if_pos rfl, if_pos hye]
            · exact absurd e d0
            · refine fin (q + 2) 3 _ (by omega) ?_ (Or.inr (Or.inr ⟨e, Or.inl ⟨rfl, rfl⟩⟩))
              rw [hsg, hcq, e, if_neg (by decide), if_neg (by decide), if_pos rfl, if_pos hye]
    · exact absurd (Decidable.not_not.mp c1) (by decide)
  refine g_aload_n (pc := 14) C dX8_takeComparison_14 rfl ?_
  refine g_iload_n (pc := 15) C dX8_takeComparison_15 rfl ?_
  refine g_bipush (pc := 16) (v := nI 60) C dX8_takeComparison_16 (by decide) ?_
  refine g_icmp_eq (pc := 18) C 33 dX8_takeComparison_18 rfl (fun c1 => ?_) (fun c1 => ?_)
  · exact yes _ rfl (Or.inl c1)
  · refine g_iload_n (pc := 21) C dX8_takeComparison_21 rfl ?_
    refine g_bipush (pc := 22) (v := nI 61) C dX8_takeComparison_22 (by decide) ?_
    refine g_icmp_eq (pc := 24) C 33 dX8_takeComparison_24 rfl (fun c2 => ?_) (fun c2 => ?_)
    · exact yes _ rfl (Or.inr (Or.inl c2))
    · refine g_iload_n (pc := 27) C dX8_takeComparison_27 rfl ?_
      refine g_bipush (pc := 28) (v := nI 62) C dX8_takeComparison_28 (by decide) ?_
      refine g_icmp_ne (pc := 30) C 37 dX8_takeComparison_30 rfl (fun c3 => ?_) (fun c3 => ?_)
      · have hno : sgF T L q = none := by rw [hsg, if_neg c1, if_neg c2, if_neg c3]
        refine g_iconst (pc := 37) (v := nI 0) C dX8_takeComparison_37 (by decide) ?_
        refine g_iload_n (pc := 38) C dX8_takeComparison_38 rfl ?_
        refine g_iconst (pc := 39) (v := nI 0) C dX8_takeComparison_39 (by decide) ?_
        refine cf_X8_53 (pc := 40) C (by exact (o4 _ zu).1) (zk (by exact (o4 _ zu).2)) (c_X5_allow_X8 _ _ U L hd q 0 (nI 0) (nI q) (nI 0) (Or.inl rfl)) ⟨rfl, rfl⟩ ⟨rfl, rfl⟩ ⟨Nat.zero_le _, Nat.zero_le _⟩ rfl (Nat.le_of_ble_eq_true rfl) dX8_takeComparison_40 ?_
        refine g_if_ne (pc := 43) C 49 dX8_takeComparison_43 rfl (fun c4 => ?_) (fun c4 => ?_)
        · exact absurd rfl c4
        · refine g_bipush (pc := 46) (v := nI 12) C dX8_takeComparison_46 (by decide) ?_
          rw [← hpost]
          exact g_ireturn (pc := 48) C ⟨rfl, rfl⟩ dX8_takeComparison_48 (tcP_n hno rfl (by unfold alw; rw [if_pos ⟨rfl, rfl⟩, ft_I]))
      · exact yes _ rfl (Or.inr (Or.inr (Decidable.not_not.mp c3)))
