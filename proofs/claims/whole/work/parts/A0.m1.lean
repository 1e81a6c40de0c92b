/-! ===== THE CLASS: RuleReader: a CLAUSE, a text ===== -/
def rmRC : Room := { frames := 44, cells := 0, slots := 0, locals := 1200 }
def rmRR : Room := { frames := 45, cells := 0, slots := 0, locals := 1300 }
def pxQ (U : St) (L : Nat) (o : List Nat) (r : RB) : Option Value → St → Prop := fun v S' => v = none ∧ ∃ U', rch U U' ∧ match r with
  | .error f => ruE L U' S' f
  | .ok (n', m', q) => S' = rk4 U' n' 0 ∧ ruU U' (o ++ cdC [q]) m'
theorem pxQ_e {U U' S' : St} {L f : Nat} {o : List Nat} {r : RB} (hr : r = .error f) (h : rch U U') (e : ruE L U' S' f) : pxQ U L o r none S' := by
  subst hr; exact ⟨rfl, U', h, e⟩
theorem pxQ_o {U U' : St} {L n' m' : Nat} {q : CL} {o : List Nat} {r : RB} (hr : r = .ok (n', m', q)) (h : rch U U') (e : ruU U' (o ++ cdC [q]) m') : pxQ U L o r none (rk4 U' n' 0) := by
  subst hr; exact ⟨rfl, U', h, rfl, e⟩
theorem cdC_app (q : CL) : ∀ cs, cdC (cs ++ [q]) = cdC cs ++ cdC [q]
  | [] => rfl
  | (k1, none) :: cs => by
    show k1.map clK ++ [3] ++ cdC (cs ++ [q]) = _
    rw [cdC_app q cs]; simp [cdC]
  | (k1, some k2) :: cs => by
    show k1.map clK ++ k2.map clK ++ [4] ++ cdC (cs ++ [q]) = _
    rw [cdC_app q cs]; simp [cdC]
theorem cdC_one (q : CL) : (cdC [q]).length = (clT q).length + 1 := by
  obtain ⟨k1, k2⟩ := q
  cases k2 with
  | none => simp [cdC, clT]
  | some k2 => simp [cdC, clT]; omega
theorem c_X8_readClause (w : Wd) (j : SJ) (l : Launch) (U : St) (T : Nat → Int32) (L n m c : Nat) (o : List Nat) (h : ruP U T L n m o) (hc12 : c ≤ 12) (hoc : o.length ≤ n + c) : gx_MJ w j l yX8_readClause cX8_readClause 3 none rmRC [.ref (ad (w_b w) 4), .int (nI c)] (rk4 U n 0) (pxQ U L o (clsR T L n m c)) := by
  obtain ⟨hd, hT, hc, hn, hm, ho, hu⟩ := id h
  have hL := hd.2.1.2.2.2
  have o4 : ∀ S, 121 ≤ s_z S → gx_o S 4 7 := fun S q => o_st q rfl rfl
  have zu : 121 ≤ s_z U := hd.2.1.1
  have hs := sk_bd (T := T) hn
  have hidem : skN T L (skN T L n) = skN T L n := skN_idem
  have hcl : clsR T L n m c = if wdP T L (skN T L n) 422775452260 then (if c = 12 then .error (ftN 4 (skN T L n)) else bdF T L (skN T L n) m) else .error (ftN 0 (skN T L n)) := rfl
  generalize clsR T L n m c = R at hcl ⊢
  generalize hpost : pxQ U L o R = post
  refine gx_startJ rfl 1 rfl (Nat.le_of_ble_eq_true rfl) ?_
  intro X C J hl
  subst hl
  refine gx_L (L' := [_, _, _]) rfl ?_
  refine g_aload_n (pc := 0) C dX8_readClause_0 rfl ?_
  refine cf_X8_57 (pc := 1) C (by exact (o4 _ zu).1) (zk (by exact (o4 _ zu).2)) (t_skip _ _ hT hd hn 0) ⟨Nat.ble_eq_true_of_le (by simp only [rmRC, rmQ, rmX5_skipBlanks, rmX5_takeWord, rmX5_allow, rmX8_put, rmX8_readSum]; omega), Nat.ble_eq_true_of_le (by simp only [rmRC, rmQ, rmX5_skipBlanks, rmX5_takeWord, rmX5_allow, rmX8_put, rmX8_readSum]; omega)⟩ ⟨rfl, rfl⟩ ⟨Nat.zero_le _, Nat.zero_le _⟩ rfl (Nat.le_of_ble_eq_true rfl) dX8_readClause_1 ?_
  refine g_istore_n (pc := 4) (L' := [_, some (.int _), _]) C dX8_readClause_4 rfl rfl ?_
  generalize skN T L n = q at hs hidem hcl ⊢
  have cw := t_word w j (x_l X) hT hd hs.2 0 5 (by omega)
  rw [hidem] at cw
  refine g_aload_n (pc := 5) C dX8_readClause_5 rfl ?_
  refine g_aload_n (pc := 6) C dX8_readClause_6 rfl ?_
  refine g_ldcS (pc := 7) C (js_X8_61 J) dX8_readClause_7 ?_
  refine cfj_X8_63 (pc := 9) C J (by exact (o4 _ zu).1) (zk (by exact (o4 _ zu).2)) cw ⟨Nat.ble_eq_true_of_le (by simp only [rmRC, rmQ, rmX5_skipBlanks, rmX5_takeWord, rmX5_allow, rmX8_put, rmX8_readSum]; omega), Nat.ble_eq_true_of_le (by simp only [rmRC, rmQ, rmX5_skipBlanks, rmX5_takeWord, rmX5_allow, rmX8_put, rmX8_readSum]; omega)⟩ ⟨rfl, rfl⟩ ⟨Nat.zero_le _, Nat.zero_le _⟩ rfl (Nat.le_of_ble_eq_true rfl) dX8_readClause_9 ?_
  refine g_iload_n (pc := 12) C dX8_readClause_12 rfl ?_
  refine g_iconst (pc := 13) (v := nI 0) C dX8_readClause_13 (by decide) ?_
  by_cases hw : wdP T L q (jsV 5)
  · rw [if_pos (show wdP T L q 422775452260 from hw)] at hcl
    rw [if_pos hw, bI_t hw]
    have hlt := lt_le (T := T) (L := L) (n := q) hs.2
    have hq1 := hw.1
    have hbd : bdF T L q m = match smF T L (ltN T L q) m with
      | .error f => .error f
      | .ok (n1, m1, k1) => if wdP T L (skN T L n1) 26982 then match testF T L (factE T L 10) (ltN T L (skN T L n1)) m1 with
          | .error f => .error f
          | .ok (n2, m2, k2) => .ok (n2, m2, (k1, some k2))
        else .ok (skN T L n1, m1, (k1, none)) := rfl
    rw [hbd] at hcl
    clear cw hw hbd
    generalize ltN T L q = a at hlt hq1 hcl ⊢
    refine cf_X8_53 (pc := 14) C (by exact (o4 _ zu).1) (zk (by exact (o4 _ zu).2)) (c_X5_allow_X8 _ _ U L hd a 0 (nI 1) (nI q) (nI 0) (Or.inr rfl)) ⟨Nat.ble_eq_true_of_le (by simp only [rmRC, rmQ, rmX5_skipBlanks, rmX5_takeWord, rmX5_allow, rmX8_put, rmX8_readSum]; omega), Nat.ble_eq_true_of_le (by simp only [rmRC, rmQ, rmX5_skipBlanks, rmX5_takeWord, rmX5_allow, rmX8_put, rmX8_readSum]; omega)⟩ ⟨rfl, rfl⟩ ⟨Nat.zero_le _, Nat.zero_le _⟩ rfl (Nat.le_of_ble_eq_true rfl) dX8_readClause_14 ?_
    refine gx_S (S' := rk4 U a 0) (by unfold alw; rw [if_neg (fun z => absurd z.1 (by decide))]) ?_
    refine g_if_eq (pc := 17) C 40 dX8_readClause_17 rfl (fun c1 => ?_) (fun c1 => ?_)
    · exact absurd c1 (by decide)
    · refine g_aload_n (pc := 20) C dX8_readClause_20 rfl ?_
      refine g_iload_n (pc := 21) C dX8_readClause_21 rfl ?_
      refine g_bipush (pc := 22) (v := nI 12) C dX8_readClause_22 (by decide) ?_
      by_cases h12 : c = 12
      · rw [if_pos h12] at hcl
        refine g_icmp_ge (pc := 24) C 31 dX8_readClause_24 rfl (fun c2 => ?_) (fun c2 => ?_)
        · refine g_iconst (pc := 31) (v := nI 0) C dX8_readClause_31 (by decide) ?_
          refine g_iload_n (pc := 32) C dX8_readClause_32 rfl ?_
          refine g_iconst (pc := 33) (v := nI 4) C dX8_readClause_33 (by decide) ?_
          refine cf_X8_53 (pc := 34) C (by exact (o4 _ zu).1) (zk (by exact (o4 _ zu).2)) (c_X5_allow_X8 _ _ U L hd a 0 (nI 0) (nI q) (nI 4) (Or.inl rfl)) ⟨Nat.ble_eq_true_of_le (by simp only [rmRC, rmQ, rmX5_skipBlanks, rmX5_takeWord, rmX5_allow, rmX8_put, rmX8_readSum]; omega), Nat.ble_eq_true_of_le (by simp only [rmRC, rmQ, rmX5_skipBlanks, rmX5_takeWord, rmX5_allow, rmX8_put, rmX8_readSum]; omega)⟩ ⟨rfl, rfl⟩ ⟨Nat.zero_le _, Nat.zero_le _⟩ rfl (Nat.le_of_ble_eq_true rfl) dX8_readClause_34 ?_
          refine g_if_ne (pc := 37) C 41 dX8_readClause_37 rfl (fun c3 => ?_) (fun c3 => ?_)
          · exact absurd rfl c3
          · rw [← hpost]
            exact g_return (pc := 40) C ⟨rfl, rfl⟩ dX8_readClause_40 (pxQ_e hcl rch.refl ⟨a, o.length, hlt.2, by unfold alw; rw [if_pos ⟨rfl, rfl⟩, ft_I], hu.1, by omega⟩)
        · exact absurd (nI_le (show 12 ≤ c by omega) (by omega)) c2
      · rw [if_neg h12] at hcl
        refine g_icmp_ge (pc := 24) C 31 dX8_readClause_24 rfl (fun c2 => ?_) (fun c2 => ?_)
        · exact absurd c2 (nI_ge (by omega) (by omega))
        · refine g_iconst (pc := 27) (v := nI 1) C dX8_readClause_27 (by decide) ?_
          refine g_goto (pc := 28) C 32 dX8_readClause_28 rfl ?_
          refine g_iload_n (pc := 32) C dX8_readClause_32 rfl ?_
          refine g_iconst (pc := 33) (v := nI 4) C dX8_readClause_33 (by decide) ?_
          refine cf_X8_53 (pc := 34) C (by exact (o4 _ zu).1) (zk (by exact (o4 _ zu).2)) (c_X5_allow_X8 _ _ U L hd a 0 (nI 1) (nI q) (nI 4) (Or.inr rfl)) ⟨Nat.ble_eq_true_of_le (by simp only [rmRC, rmQ, rmX5_skipBlanks, rmX5_takeWord, rmX5_allow, rmX8_put, rmX8_readSum]; omega), Nat.ble_eq_true_of_le (by simp only [rmRC, rmQ, rmX5_skipBlanks, rmX5_takeWord, rmX5_allow, rmX8_put, rmX8_readSum]; omega)⟩ ⟨rfl, rfl⟩ ⟨Nat.zero_le _, Nat.zero_le _⟩ rfl (Nat.le_of_ble_eq_true rfl) dX8_readClause_34 ?_
          refine gx_S (S' := rk4 U a 0) (by unfold alw; rw [if_neg (fun z => absurd z.1 (by decide))]) ?_
          have hP : ruP U T L a m o := h.nx rch.refl hlt.2 hm (by omega) hu
          have hk1 := okI_sm (T := T) hL a m hlt.2 hm
          refine g_if_ne (pc := 37) C 41 dX8_readClause_37 rfl (fun c3 => ?_) (fun c3 => ?_)
          · refine g_aload_n (pc := 41) C dX8_readClause_41 rfl ?_
            refine cgj_X8_67 (pc := 42) C J (by exact (o4 _ zu).1) (zk (by exact (o4 _ zu).2)) (c_X8_readSum _ _ _ U T L a m o hP) ⟨Nat.ble_eq_true_of_le (by simp only [rmRC, rmQ, rmX5_skipBlanks, rmX5_takeWord, rmX5_allow, rmX8_put, rmX8_readSum]; omega), Nat.ble_eq_true_of_le (by simp only [rmRC, rmQ, rmX5_skipBlanks, rmX5_takeWord, rmX5_allow, rmX8_put, rmX8_readSum]; omega)⟩ ⟨Nat.zero_le _, Nat.zero_le _⟩ rfl (Nat.le_of_ble_eq_true rfl) dX8_readClause_42 ?_
            rintro _ S1 ⟨rfl, U1, r1, h1⟩
            have hd1 := hd.ch r1
            have zu1 : 121 ≤ s_z U1 := hd1.2.1.1
            have hT1 : s_A U1 2 = T := (r1.1.A (by decide)).trans hT
            have hc1 : s_R U1 703 4 = some 5 := (r1.2 _).trans hc
            cases hr : smF T L a m with
            | error f =>
              rw [hr] at h1 hcl hk1
              obtain ⟨n3, z, hn3, e3, hz, hz5⟩ := h1
              subst e3
              refine g_aload_n (pc := 45) C dX8_readClause_45 rfl ?_
              refine fg_X8_19 (pc := 46) C (by exact (o4 _ zu1).1) (zk (by exact (o4 _ zu1).2)) dX8_readClause_46 ?_
              refine gx_ti (y := nI f) rk4_gF ?_
              refine g_if_ne (pc := 49) C 75 dX8_readClause_49 rfl (fun c4 => ?_) (fun c4 => ?_)
              · refine g_aload_n (pc := 75) C dX8_readClause_75 rfl ?_
                refine g_iconst (pc := 76) (v := nI 3) C dX8_readClause_76 (by decide) ?_
                refine g_iconst (pc := 77) (v := nI 0) C dX8_readClause_77 (by decide) ?_
                refine cf_X8_76 (pc := 78) C (by exact (o4 _ zu1).1) (zk (by exact (o4 _ zu1).2)) (c_X8_put _ _ U1 L hd1 hc1 n3 z hz5 hz (nI f) (nI 3) (nI 0)) ⟨Nat.ble_eq_true_of_le (by simp only [rmRC, rmQ, rmX5_skipBlanks, rmX5_takeWord, rmX5_allow, rmX8_put, rmX8_readSum]; omega), Nat.ble_eq_true_of_le (by simp only [rmRC, rmQ, rmX5_skipBlanks, rmX5_takeWord, rmX5_allow, rmX8_put, rmX8_readSum]; omega)⟩ ⟨rfl, rfl⟩ ⟨Nat.zero_le _, Nat.zero_le _⟩ rfl (Nat.le_of_ble_eq_true rfl) dX8_readClause_78 ?_
                obtain ⟨U4, r4, e4, q4⟩ := ruE_put (f := f) (v := nI 0 * nI 32 + nI 3) hn3 hz hz5
                rw [← hpost, e4]
                exact g_return (pc := 81) C ⟨rfl, rfl⟩ dX8_readClause_81 (pxQ_e hcl (r1.trans r4) q4)
              · exact absurd (Decidable.not_not.mp c4) (ftpos hk1 hL)
            | ok p =>
              obtain ⟨n1, m1, k1⟩ := p
              rw [hr] at h1 hcl hk1
              simp only at hcl
              obtain ⟨e3, hu1⟩ := h1
              obtain ⟨b1, b2, b3, b4⟩ := hk1
              subst e3
              have hs1 := sk_bd (T := T) b2
              refine g_aload_n (pc := 45) C dX8_readClause_45 rfl ?_
              refine fg_X8_19 (pc := 46) C (by exact (o4 _ zu1).1) (zk (by exact (o4 _ zu1).2)) dX8_readClause_46 ?_
              refine gx_ti (y := 0) rk4_gF ?_
              refine g_if_ne (pc := 49) C 75 dX8_readClause_49 rfl (fun c4 => ?_) (fun c4 => ?_)
              · exact absurd rfl c4
              · refine g_aload_n (pc := 52) C dX8_readClause_52 rfl ?_
                refine g_ldcS (pc := 53) C (js_X8_71 J) dX8_readClause_53 ?_
                refine cfj_X8_63 (pc := 55) C J (by exact (o4 _ zu1).1) (zk (by exact (o4 _ zu1).2)) (t_word _ _ _ hT1 hd1 b2 0 16 (by omega)) ⟨Nat.ble_eq_true_of_le (by simp only [rmRC, rmQ, rmX5_skipBlanks, rmX5_takeWord, rmX5_allow, rmX8_put, rmX8_readSum]; omega), Nat.ble_eq_true_of_le (by simp only [rmRC, rmQ, rmX5_skipBlanks, rmX5_takeWord, rmX5_allow, rmX8_put, rmX8_readSum]; omega)⟩ ⟨rfl, rfl⟩ ⟨Nat.zero_le _, Nat.zero_le _⟩ rfl (Nat.le_of_ble_eq_true rfl) dX8_readClause_55 ?_
                by_cases hw2 : wdP T L (skN T L n1) (jsV 16)
                · rw [if_pos (show wdP T L (skN T L n1) 26982 from hw2)] at hcl
                  rw [if_pos hw2]
                  have hlt2 := lt_le (T := T) (L := L) (n := skN T L n1) hs1.2
                  have hq2 := hw2.1
                  refine g_if_eq (pc := 58) C 75 dX8_readClause_58 rfl (fun c5 => ?_) (fun c5 => ?_)
                  · exact absurd hw2 (bI_0.mp c5)
                  · clear c5 hw2
                    generalize ltN T L (skN T L n1) = a2 at hlt2 hq2 hcl ⊢
                    have hP2 : ruP U1 T L a2 m1 (o ++ k1.map clK) := h.nx r1 hlt2.2 b3 (by rw [clK_len]; omega) hu1
                    have hk2 := okI_test (T := T) (okI_fact (T := T) hL 10) hL a2 m1 hlt2.2 b3
                    refine g_aload_n (pc := 61) C dX8_readClause_61 rfl ?_
                    refine g_iconst (pc := 62) (v := nI 0) C dX8_readClause_62 (by decide) ?_
                    refine cgj_X8_73 (pc := 63) C J (by exact (o4 _ zu1).1) (zk (by exact (o4 _ zu1).2)) (c_X8_readTest0 _ _ _ U1 T L a2 m1 _ hP2) ⟨Nat.ble_eq_true_of_le (by simp only [rmRC, rmQ, rmX5_skipBlanks, rmX5_takeWord, rmX5_allow, rmX8_put, rmX8_readSum]; omega), Nat.ble_eq_true_of_le (by simp only [rmRC, rmQ, rmX5_skipBlanks, rmX5_takeWord, rmX5_allow, rmX8_put, rmX8_readSum]; omega)⟩ ⟨Nat.zero_le _, Nat.zero_le _⟩ rfl (Nat.le_of_ble_eq_true rfl) dX8_readClause_63 ?_
                    rintro _ S3 ⟨rfl, U3, r3, h3⟩
                    have hd3 := hd1.ch r3
                    have zu3 : 121 ≤ s_z U3 := hd3.2.1.1
                    have hc3 : s_R U3 703 4 = some 5 := (r3.2 _).trans hc1
                    cases hr2 : testF T L (factE T L 10) a2 m1 with
                    | error f =>
                      rw [hr2] at h3 hcl
                      obtain ⟨n3, z, hn3, e3, hz, hz5⟩ := h3
                      subst e3
                      refine g_aload_n (pc := 66) C dX8_readClause_66 rfl ?_
                      refine g_iconst (pc := 67) (v := nI 4) C dX8_readClause_67 (by decide) ?_
                      refine g_iconst (pc := 68) (v := nI 0) C dX8_readClause_68 (by decide) ?_
                      refine cf_X8_76 (pc := 69) C (by exact (o4 _ zu3).1) (zk (by exact (o4 _ zu3).2)) (c_X8_put _ _ U3 L hd3 hc3 n3 z hz5 hz (nI f) (nI 4) (nI 0)) ⟨Nat.ble_eq_true_of_le (by simp only [rmRC, rmQ, rmX5_skipBlanks, rmX5_takeWord, rmX5_allow, rmX8_put, rmX8_readSum]; omega), Nat.ble_eq_true_of_le (by simp only [rmRC, rmQ, rmX5_skipBlanks, rmX5_takeWord, rmX5_allow, rmX8_put, rmX8_readSum]; omega)⟩ ⟨rfl, rfl⟩ ⟨Nat.zero_le _, Nat.zero_le _⟩ rfl (Nat.le_of_ble_eq_true rfl) dX8_readClause_69 ?_
                      refine g_goto (pc := 72) C 81 dX8_readClause_72 rfl ?_
                      obtain ⟨U4, r4, e4, q4⟩ := ruE_put (f := f) (v := nI 0 * nI 32 + nI 4) hn3 hz hz5
                      rw [← hpost, e4]
                      exact g_return (pc := 81) C ⟨rfl, rfl⟩ dX8_readClause_81 (pxQ_e hcl ((r1.trans r3).trans r4) q4)
                    | ok p =>
                      obtain ⟨n2, m2, k2⟩ := p
                      rw [hr2] at h3 hcl hk2
                      obtain ⟨e3, hu3⟩ := h3
                      obtain ⟨d1, d2, d3, d4⟩ := hk2
                      subst e3
                      rw [clK_ap] at hu3
                      refine g_aload_n (pc := 66) C dX8_readClause_66 rfl ?_
                      refine g_iconst (pc := 67) (v := nI 4) C dX8_readClause_67 (by decide) ?_
                      refine g_iconst (pc := 68) (v := nI 0) C dX8_readClause_68 (by decide) ?_
                      refine cf_X8_76 (pc := 69) C (by exact (o4 _ zu3).1) (zk (by exact (o4 _ zu3).2)) (c_X8_put _ _ U3 L hd3 hc3 n2 (o ++ (k1 ++ k2).map clK).length (by rw [clK_len, List.length_append]; omega) hu3.1 0 (nI 4) (nI 0)) ⟨Nat.ble_eq_true_of_le (by simp only [rmRC, rmQ, rmX5_skipBlanks, rmX5_takeWord, rmX5_allow, rmX8_put, rmX8_readSum]; omega), Nat.ble_eq_true_of_le (by simp only [rmRC, rmQ, rmX5_skipBlanks, rmX5_takeWord, rmX5_allow, rmX8_put, rmX8_readSum]; omega)⟩ ⟨rfl, rfl⟩ ⟨Nat.zero_le _, Nat.zero_le _⟩ rfl (Nat.le_of_ble_eq_true rfl) dX8_readClause_69 ?_
                      refine g_goto (pc := 72) C 81 dX8_readClause_72 rfl ?_
                      rw [if_pos (by rw [clK_len, List.length_append]; omega)]
                      have hu4 := hu3.put (c := 4) (v := nI 0 * nI 32 + nI 4) (put0 _)
                      rw [← hpost]
                      exact g_return (pc := 81) C ⟨rfl, rfl⟩ dX8_readClause_81 (pxQ_o hcl ((r1.trans r3).trans rch_put) (by rw [show o ++ cdC [(k1, some k2)] = o ++ (k1 ++ k2).map clK ++ [4] by simp [cdC]]; exact hu4))
                · rw [if_neg (show ¬ wdP T L (skN T L n1) 26982 from hw2)] at hcl
                  rw [if_neg hw2]
                  refine g_if_eq (pc := 58) C 75 dX8_readClause_58 rfl (fun c5 => ?_) (fun c5 => ?_)
                  · refine g_aload_n (pc := 75) C dX8_readClause_75 rfl ?_
                    refine g_iconst (pc := 76) (v := nI 3) C dX8_readClause_76 (by decide) ?_
                    refine g_iconst (pc := 77) (v := nI 0) C dX8_readClause_77 (by decide) ?_
                    refine cf_X8_76 (pc := 78) C (by exact (o4 _ zu1).1) (zk (by exact (o4 _ zu1).2)) (c_X8_put _ _ U1 L hd1 hc1 (skN T L n1) (o ++ k1.map clK).length (by rw [clK_len]; omega) hu1.1 0 (nI 3) (nI 0)) ⟨Nat.ble_eq_true_of_le (by simp only [rmRC, rmQ, rmX5_skipBlanks, rmX5_takeWord, rmX5_allow, rmX8_put, rmX8_readSum]; omega), Nat.ble_eq_true_of_le (by simp only [rmRC, rmQ, rmX5_skipBlanks, rmX5_takeWord, rmX5_allow, rmX8_put, rmX8_readSum]; omega)⟩ ⟨rfl, rfl⟩ ⟨Nat.zero_le _, Nat.zero_le _⟩ rfl (Nat.le_of_ble_eq_true rfl) dX8_readClause_78 ?_
                    rw [if_pos (by rw [clK_len]; omega)]
                    have hu4 := hu1.put (c := 3) (v := nI 0 * nI 32 + nI 3) (put0 _)
                    rw [← hpost]
                    exact g_return (pc := 81) C ⟨rfl, rfl⟩ dX8_readClause_81 (pxQ_o hcl (r1.trans rch_put) (by rw [show o ++ cdC [(k1, none)] = o ++ k1.map clK ++ [3] by simp [cdC]]; exact hu4))
                  · exact absurd (bI_0.mpr hw2) c5
          · exact absurd (Decidable.not_not.mp c3) (by decide)
  · rw [if_neg (show ¬ wdP T L q 422775452260 from hw)] at hcl
    rw [if_neg hw, bI_f hw]
    refine cf_X8_53 (pc := 14) C (by exact (o4 _ zu).1) (zk (by exact (o4 _ zu).2)) (c_X5_allow_X8 _ _ U L hd q 0 (nI 0) (nI q) (nI 0) (Or.inl rfl)) ⟨Nat.ble_eq_true_of_le (by simp only [rmRC, rmQ, rmX5_skipBlanks, rmX5_takeWord, rmX5_allow, rmX8_put, rmX8_readSum]; omega), Nat.ble_eq_true_of_le (by simp only [rmRC, rmQ, rmX5_skipBlanks, rmX5_takeWord, rmX5_allow, rmX8_put, rmX8_readSum]; omega)⟩ ⟨rfl, rfl⟩ ⟨Nat.zero_le _, Nat.zero_le _⟩ rfl (Nat.le_of_ble_eq_true rfl) dX8_readClause_14 ?_
    refine g_if_eq (pc := 17) C 40 dX8_readClause_17 rfl (fun c1 => ?_) (fun c1 => ?_)
    · rw [← hpost]
      exact g_return (pc := 40) C ⟨rfl, rfl⟩ dX8_readClause_40 (pxQ_e hcl rch.refl ⟨q, o.length, hs.2, by unfold alw; rw [if_pos ⟨rfl, rfl⟩, ft_I], hu.1, by omega⟩)
    · exact absurd rfl c1
