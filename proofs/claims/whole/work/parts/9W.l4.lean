/-! ===== THE CLASS: RuleReader: readSum ===== -/
theorem t_skip (w : Wd) (l : Launch) {U : St} {T : Nat → Int32} {L n : Nat} (hT : s_A U 2 = T) (h : rd4K U L) (hn : n ≤ L) (f : Int32) : gx_M w l yX5_skipBlanks cX5_skipBlanks 2 (some .int) rmX5_skipBlanks [.ref (ad (w_b w) 4)] (rk4 U n f) (pI (nI (skN T L n)) (rk4 U (skN T L n) f)) := by
  subst hT; exact c_X5_skipBlanks_X8 w l U L h n hn f
theorem t_at (w : Wd) (l : Launch) {U : St} {T : Nat → Int32} {L n m : Nat} {f : Int32} (hT : s_A U 2 = T) (h : rd4K U L) (hm : m < 1000000) : gx_M w l yX10_at cX10_at 2 (some .int) rmX10_at [.ref (ad (w_b w) 1), .int (nI m)] (rk4 U n f) (pI (seeV T L m) (rk4 U n f)) := by
  subst hT; exact c_X10_at w l (rk4 U n f) L m h.to.2.1 hm
theorem t_sign (w : Wd) (l : Launch) {U : St} {T : Nat → Int32} {L n : Nat} (hT : s_A U 2 = T) (h : rd4K U L) (hn : n ≤ L) (f : Int32) (c : Nat) (hc : c < 128) : gx_M w l yX5_takeSign cX5_takeSign 3 (some .boolean) rmX5_takeSign [.ref (ad (w_b w) 4), .int (nI c)] (rk4 U n f) (pI (bI (seeV T L (skN T L n) = nI c)) (rk4 U (if seeV T L (skN T L n) = nI c then skN T L n + 1 else skN T L n) f)) := by
  subst hT; exact c_X5_takeSign_X8 w l U L h n hn f c hc
theorem t_word (w : Wd) (j : SJ) (l : Launch) {U : St} {T : Nat → Int32} {L n : Nat} (hT : s_A U 2 = T) (h : rd4K U L) (hn : n ≤ L) (f : Int32) (i : Nat) (hi : i < 20) : gx_MJ w j l yX5_takeWord cX5_takeWord 2 (some .boolean) rmX5_takeWord [.ref (ad (w_b w) 4), .ref (j.1 i)] (rk4 U n f) (pI (bI (wdP T L (skN T L n) (jsV i))) (rk4 U (if wdP T L (skN T L n) (jsV i) then ltN T L (skN T L n) else skN T L n) f)) := by
  subst hT; exact c_X5_takeWord_X8 w j l U L h n hn f i hi
/-- a put behind a FAULT -/
theorem ruE_put {L : Nat} {U : St} {n z f : Nat} {v : Int32} (hn : n ≤ L) (hz : s_I U 704 4 = nI z) (hz5 : z ≤ 512) : ∃ U', rch U U' ∧ rk4 (if z < 512 then putS U z v else U) n (nI f) = rk4 U' n (nI f) ∧ ruE L U' (rk4 U' n (nI f)) f := by
  by_cases h : z < 512
  · refine ⟨putS U z v, rch_put, by rw [if_pos h], n, z + 1, hn, rfl, gI_at, by omega⟩
  · refine ⟨U, rch.refl, by rw [if_neg h], n, z, hn, rfl, hz, hz5⟩
theorem ftpos {f : Nat} {L : Nat} (h : 0 < f ∧ f ≤ 8 * L + 8) (hL : L ≤ 400) : ¬ nI f = 0 := nI_ne0 h.1 (by omega)
theorem clK_len (o k : List Nat) : (o ++ k.map clK).length = o.length + k.length := by rw [List.length_append, List.length_map]
theorem put0 (c : Nat) : nI 0 * nI 32 + nI c = nI c := by
  rw [pk_mul, nI_add]; congr 1; omega
theorem clK_ap (o a b : List Nat) : o ++ a.map clK ++ b.map clK = o ++ (a ++ b).map clK := by
  rw [List.map_append, List.append_assoc]
theorem clK_sn (o a : List Nat) (s : Nat) : o ++ (a ++ [s]).map clK = o ++ a.map clK ++ [clK s] := by
  rw [List.map_append, ← List.append_assoc]; rfl
theorem c_X8_readSum (w : Wd) (j : SJ) (l : Launch) (U : St) (T : Nat → Int32) (L n m : Nat) (o : List Nat) (h : ruP U T L n m o) : gx_MJ w j l yX8_readSum cX8_readSum 4 none rmX8_readSum [.ref (ad (w_b w) 4)] (rk4 U n 0) (pxU U L o (smF T L n m)) := by
  obtain ⟨hd, hT, hc, hn, hm, ho, hu⟩ := id h
  have hL := hd.2.1.2.2.2
  have o4 : ∀ S, 121 ≤ s_z S → gx_o S 4 7 := fun S q => o_st q rfl rfl
  have o1 : ∀ S, 121 ≤ s_z S → gx_o S 1 9 := fun S q => o_st q rfl rfl
  have zu : 121 ≤ s_z U := hd.2.1.1
  have hsm := okI_sm (T := T) hL n m hn hm
  generalize hR : smF T L n m = R at hsm ⊢
  generalize hpost : pxU U L o R = post
  refine gx_startJ rfl 3 rfl (Nat.le_of_ble_eq_true rfl) ?_
  intro X C J hl
  subst hl
  refine gx_L (L' := [_, _, _, _]) rfl ?_
  have errEnd : ∀ U1 S1 wv z2 z3 f, R = .error f → rch U U1 → ruE L U1 S1 f → gx_G w X S1 0 0 103 [some (.ref (ad (w_b w) 4)), some (.int wv), z2, z3] [] (gx_E w X post) := by
    intro U1 S1 wv z2 z3 f he h1 ⟨n1, z, hn1, e1, hz, hz5⟩
    subst e1
    have hd1 := hd.ch h1
    have zu1 : 121 ≤ s_z U1 := hd1.2.1.1
    refine g_iload_n (pc := 103) C dX8_readSum_103 rfl ?_
    refine g_iconst (pc := 104) (v := -1) C dX8_readSum_104 (by decide) ?_
    refine g_icmp_eq (pc := 105) C 114 dX8_readSum_105 rfl (fun c1 => ?_) (fun c1 => ?_)
    · rw [← hpost]
      exact g_return (pc := 114) C ⟨rfl, rfl⟩ dX8_readSum_114 (pxU_e he h1 ⟨n1, z, hn1, rfl, hz, hz5⟩)
    · refine g_aload_n (pc := 108) C dX8_readSum_108 rfl ?_
      refine g_iload_n (pc := 109) C dX8_readSum_109 rfl ?_
      refine g_iconst (pc := 110) (v := nI 0) C dX8_readSum_110 (by decide) ?_
      refine cf_X8_76 (pc := 111) C (by exact (o4 _ zu1).1) (zk (by exact (o4 _ zu1).2)) (c_X8_put _ _ U1 L hd1 ((h1.2 _).trans hc) n1 z hz5 hz (nI f) wv (nI 0)) ⟨rfl, rfl⟩ ⟨rfl, rfl⟩ ⟨Nat.zero_le _, Nat.zero_le _⟩ rfl (Nat.le_of_ble_eq_true rfl) dX8_readSum_111 ?_
      obtain ⟨U2, r2, e2, q2⟩ := ruE_put (f := f) (v := nI 0 * nI 32 + wv) hn1 hz hz5
      rw [← hpost, e2]
      exact g_return (pc := 114) C ⟨rfl, rfl⟩ dX8_readSum_114 (pxU_e he (h1.trans r2) q2)
  have errL : ∀ U1 S1 wv k z3 f, R = .error f → rch U U1 → ruE L U1 S1 f → gx_G w X S1 0 0 97 [some (.ref (ad (w_b w) 4)), some (.int wv), some (.int (nI k)), z3] [] (gx_E w X post) := by
    intro U1 S1 wv k z3 f he h1 hE
    obtain ⟨n1, z, hn1, e1, hz, hz5⟩ := id hE
    have zu1 : 121 ≤ s_z U1 := (hd.ch h1).2.1.1
    subst e1
    refine g_iinc (pc := 97) (L' := [_, some (.int _), _, _]) C dX8_readSum_97 rfl (nI_1 _) rfl ?_
    refine g_goto (pc := 100) C 8 dX8_readSum_100 rfl ?_
    refine g_iload_n (pc := 8) C dX8_readSum_8 rfl ?_
    refine g_sipush (pc := 9) (v := nI 400) C dX8_readSum_9 (by decide) ?_
    refine g_icmp_ge (pc := 12) C 103 dX8_readSum_12 rfl (fun c1 => ?_) (fun c1 => ?_)
    · exact errEnd U1 _ wv _ z3 f he h1 hE
    · refine g_aload_n (pc := 15) C dX8_readSum_15 rfl ?_
      refine fg_X8_19 (pc := 16) C (by exact (o4 _ zu1).1) (zk (by exact (o4 _ zu1).2)) dX8_readSum_16 ?_
      refine gx_ti (y := nI f) rk4_gF ?_
      rw [he] at hsm
      refine g_if_ne (pc := 19) C 103 dX8_readSum_19 rfl (fun c2 => ?_) (fun c2 => ?_)
      · exact errEnd U1 _ wv _ z3 f he h1 hE
      · exact absurd (Decidable.not_not.mp c2) (ftpos hsm hL)
  have loop : ∀ e n1 m1 acc wt k U1 z3 wv, L - n1 < e → k < n1 → n1 ≤ L → m1 ≤ 60 → rch U U1 → ruU U1 (o ++ acc.map clK) m1 → o.length + acc.length + wt.length ≤ n1 + 13 → ((wt = [] ∧ wv = -1) ∨ ∃ s, wt = [s] ∧ (s = 2 ∨ s = 3) ∧ wv = nI (clK s)) → R = ctF T L acc wt n1 m1 → gx_G w X (rk4 U1 n1 0) 0 0 8 [some (.ref (ad (w_b w) 4)), some (.int wv), some (.int (nI k)), z3] [] (gx_E w X post) := by
    intro e
    induction e with
    | zero => intro n1 m1 acc wt k U1 z3 wv he; omega
    | succ e ih =>
      intro n1 m1 acc wt k U1 z3 wv he hk hn1 hm1 h1 hu1 hb hw hR1
      have hd1 := hd.ch h1
      have hT1 : s_A U1 2 = T := (h1.1.A (by decide)).trans hT
      have hc1 : s_R U1 703 4 = some 5 := (h1.2 _).trans hc
      have zu1 : 121 ≤ s_z U1 := hd1.2.1.1
      have rt1 : s_R U1 700 4 = some 1 := hd1.1
      have hs := sk_bd (T := T) hn1
      have hwP : wv = -1 ↔ wt = [] := by
        rcases hw with ⟨a, b⟩ | ⟨s, a, b, c⟩
        · exact ⟨fun _ => a, fun _ => b⟩
        · rw [a, c]
          refine ⟨fun q => absurd q (nI_m1 (by rcases b with rfl | rfl <;> decide)), fun q => by cases q⟩
      -- the waiting sign is put
      have hput : ∀ (n2 : Nat), ∃ U2, rch U1 U2 ∧ ruU U2 (o ++ (acc ++ wt).map clK) m1 ∧ (wt = [] → U2 = U1) ∧ (¬ wt = [] → rk4 (if (o ++ acc.map clK).length < 512 then putS U1 (o ++ acc.map clK).length (nI 0 * nI 32 + wv) else U1) n2 0 = rk4 U2 n2 0) := by
        intro n2
        rcases hw with ⟨a, b⟩ | ⟨s, a, b, c⟩
        · exact ⟨U1, rch.refl, by rw [a, List.append_nil]; exact hu1, fun _ => rfl, fun q => absurd a q⟩
        · refine ⟨putS U1 (o ++ acc.map clK).length (nI 0 * nI 32 + wv), rch_put, ?_, (fun q => by rw [a] at q; cases q), (fun _ => by rw [if_pos (by rw [clK_len]; omega)])⟩
          have := hu1.put (c := clK s) (v := nI 0 * nI 32 + wv) (by rw [c, put0])
          rw [a, List.map_append, ← List.append_assoc]
          exact this
      refine g_iload_n (pc := 8) C dX8_readSum_8 rfl ?_
      refine g_sipush (pc := 9) (v := nI 400) C dX8_readSum_9 (by decide) ?_
      refine g_icmp_ge (pc := 12) C 103 dX8_readSum_12 rfl (fun c1 => ?_) (fun c1 => ?_)
      · exact absurd c1 (nI_ge (by omega) (by omega))
      · refine g_aload_n (pc := 15) C dX8_readSum_15 rfl ?_
        refine fg_X8_19 (pc := 16) C (by exact (o4 _ zu1).1) (zk (by exact (o4 _ zu1).2)) dX8_readSum_16 ?_
        refine gx_ti (y := 0) rk4_gF ?_
        refine g_if_ne (pc := 19) C 103 dX8_readSum_19 rfl (fun c2 => ?_) (fun c2 => ?_)
        · exact absurd rfl c2
        · refine g_aload_n (pc := 22) C dX8_readSum_22 rfl ?_
          refine g_aload_n (pc := 23) C dX8_readSum_23 rfl ?_
          refine fgr_X8_99 (pc := 24) C (by exact (o4 _ zu1).1) (zk (by exact (o4 _ zu1).2)) (by exact rt1) dX8_readSum_24 ?_
          refine g_aload_n (pc := 27) C dX8_readSum_27 rfl ?_
          refine cf_X8_57 (pc := 28) C (by exact (o4 _ zu1).1) (zk (by exact (o4 _ zu1).2)) (t_skip _ _ hT1 hd1 hn1 0) ⟨rfl, rfl⟩ ⟨rfl, rfl⟩ ⟨Nat.zero_le _, Nat.zero_le _⟩ rfl (Nat.le_of_ble_eq_true rfl) dX8_readSum_28 ?_
          have hend := ct_end (T := T) (L := L) (n := n1) (m := m1) (acc := acc) (wt := wt) hL hn1
          have hctT := fun s => ct_T (T := T) (L := L) (n := n1) (m := m1) (s := s) (acc := acc) (wt := wt) hL hn1 hm1
          have hctS := fun s => ct_S (T := T) (L := L) (n := n1) (m := m1) (s := s) (acc := acc) (wt := wt) hL hn1 hm1
          have hlt := fun s (z : opT (seeV T L (skN T L n1)) = some s) => op_lt (by decide) z
          have hlt2 := fun s (z : opS (seeV T L (skN T L n1)) = some s) => op_lt (by decide) z
          generalize skN T L n1 = q at hs hend hctT hctS hlt hlt2 ⊢
          refine cf_X8_103 (pc := 31) C (by exact (o1 _ zu1).1) (zk (by exact (o1 _ zu1).2)) (t_at _ _ hT1 hd1 (by omega)) ⟨rfl, rfl⟩ ⟨rfl, rfl⟩ ⟨Nat.zero_le _, Nat.zero_le _⟩ rfl (Nat.le_of_ble_eq_true rfl) dX8_readSum_31 ?_
          refine cf_X8_114 (pc := 34) C (by exact (o4 _ zu1).1) (zk (by exact (o4 _ zu1).2)) (c_X8_operation _ _ (rk4 U1 q 0) (seeV T L q)) ⟨rfl, rfl⟩ ⟨rfl, rfl⟩ ⟨Nat.zero_le _, Nat.zero_le _⟩ rfl (Nat.le_of_ble_eq_true rfl) dX8_readSum_34 ?_
          obtain ⟨U2, r2, hu2, eU1, eU2⟩ := hput (q + 1)
          have hd2 := hd1.ch r2
          have zu2 : 121 ≤ s_z U2 := hd2.2.1.1
          rcases opV_c (seeV T L q) with ⟨a1, a2, a3⟩ | ⟨a1, s, a2, a3, a4⟩ | ⟨s, a2, a3, a4⟩
          · rw [a3]
            have hR2 := hR1.trans (hend a1 a2)
            obtain ⟨U2, r2, hu2, eU1, eU2⟩ := hput q
            refine g_istore_n (pc := 37) (L' := [_, _, some (.int _), _]) C dX8_readSum_37 rfl rfl ?_
            refine g_iload_n (pc := 38) C dX8_readSum_38 rfl ?_
            refine g_iconst (pc := 39) (v := -1) C dX8_readSum_39 (by decide) ?_
            refine g_icmp_ne (pc := 40) C 46 dX8_readSum_40 rfl (fun c3 => ?_) (fun c3 => ?_)
            · exact absurd rfl c3
            · refine g_goto (pc := 43) C 103 dX8_readSum_43 rfl ?_
              refine g_iload_n (pc := 103) C dX8_readSum_103 rfl ?_
              refine g_iconst (pc := 104) (v := -1) C dX8_readSum_104 (by decide) ?_
              refine g_icmp_eq (pc := 105) C 114 dX8_readSum_105 rfl (fun c4 => ?_) (fun c4 => ?_)
              · have ew := hwP.mp c4
                rw [← hpost, ← eU1 ew]
                exact g_return (pc := 114) C ⟨rfl, rfl⟩ dX8_readSum_114 (pxU_o hR2 (h1.trans r2) hu2)
              · have ew : ¬ wt = [] := fun z => c4 (hwP.mpr z)
                refine g_aload_n (pc := 108) C dX8_readSum_108 rfl ?_
                refine g_iload_n (pc := 109) C dX8_readSum_109 rfl ?_
                refine g_iconst (pc := 110) (v := nI 0) C dX8_readSum_110 (by decide) ?_
                refine cf_X8_76 (pc := 111) C (by exact (o4 _ zu1).1) (zk (by exact (o4 _ zu1).2)) (c_X8_put _ _ U1 L hd1 hc1 q (o ++ acc.map clK).length (by rw [clK_len]; omega) hu1.1 0 wv (nI 0)) ⟨rfl, rfl⟩ ⟨rfl, rfl⟩ ⟨Nat.zero_le _, Nat.zero_le _⟩ rfl (Nat.le_of_ble_eq_true rfl) dX8_readSum_111 ?_
                rw [← hpost, eU2 ew]
                exact g_return (pc := 114) C ⟨rfl, rfl⟩ dX8_readSum_114 (pxU_o hR2 (h1.trans r2) hu2)
          · have hq := hlt2 s a2
            have hR2 := hR1.trans (hctS s a1 a2)
            have hk2 := okI_val T L (q + 1) m1 (by omega) hm1
            have hlen : (o ++ (acc ++ wt).map clK).length ≤ q + 1 + 13 := by rw [clK_len, List.length_append]; omega
            have hP2 : ruP U2 T L (q + 1) m1 (o ++ (acc ++ wt).map clK) := h.nx (h1.trans r2) (by omega) hm1 hlen hu2
            rw [a3]
            have go : gx_G w X (rk4 U2 (q + 1) 0) 0 0 78 [some (.ref (ad (w_b w) 4)), some (.int wv), some (.int (nI k)), some (.int (nI (clK s)))] [] (gx_E w X post) := by
              refine g_iload_n (pc := 78) C dX8_readSum_78 rfl ?_
              refine g_istore_n (pc := 79) (L' := [some (.ref _), _, _, _]) C dX8_readSum_79 rfl rfl ?_
              refine g_aload_n (pc := 80) C dX8_readSum_80 rfl ?_
              refine cgj_X8_111 (pc := 81) C J (by exact (o4 _ zu2).1) (zk (by exact (o4 _ zu2).2)) (c_X8_readValue _ _ _ U2 T L (q + 1) m1 _ hP2) ⟨rfl, rfl⟩ ⟨Nat.zero_le _, Nat.zero_le _⟩ rfl (Nat.le_of_ble_eq_true rfl) dX8_readSum_81 ?_
              rintro _ S3 ⟨rfl, U3, r3, h3⟩
              cases hr : valF T L (q + 1) m1 with
              | error f =>
                rw [hr] at h3 hR2
                refine g_goto (pc := 84) C 97 dX8_readSum_84 rfl ?_
                exact errL U3 S3 _ k _ f hR2 ((h1.trans r2).trans r3) h3
              | ok p =>
                obtain ⟨n', m', k'⟩ := p
                rw [hr] at h3 hR2 hk2
                obtain ⟨e3, hu3⟩ := h3
                obtain ⟨b1, b2, b3, b4⟩ := hk2
                subst e3
                refine g_goto (pc := 84) C 97 dX8_readSum_84 rfl ?_
                refine g_iinc (pc := 97) (L' := [_, some (.int _), _, _]) C dX8_readSum_97 rfl (nI_1 _) rfl ?_
                refine g_goto (pc := 100) C 8 dX8_readSum_100 rfl ?_
                exact ih n' m' (acc ++ wt ++ k') [s] (k + 1) U3 _ _ (by omega) (by omega) b2 b3 ((h1.trans r2).trans r3) (by rw [clK_ap] at hu3; exact hu3) (by rw [List.length_append, List.length_append]; show _ + 1 ≤ _; omega) (Or.inr ⟨s, rfl, a4, rfl⟩) hR2
            have at67 : gx_G w X (rk4 U1 (q + 1) 0) 0 0 67 [some (.ref (ad (w_b w) 4)), some (.int wv), some (.int (nI k)), some (.int (nI (clK s)))] [] (gx_E w X post) := by
              refine g_iload_n (pc := 67) C dX8_readSum_67 rfl ?_
              refine g_iconst (pc := 68) (v := -1) C dX8_readSum_68 (by decide) ?_
              refine g_icmp_eq (pc := 69) C 78 dX8_readSum_69 rfl (fun c5 => ?_) (fun c5 => ?_)
              · rw [← eU1 (hwP.mp c5)]
                exact go
              · have ew : ¬ wt = [] := fun z => c5 (hwP.mpr z)
                refine g_aload_n (pc := 72) C dX8_readSum_72 rfl ?_
                refine g_iload_n (pc := 73) C dX8_readSum_73 rfl ?_
                refine g_iconst (pc := 74) (v := nI 0) C dX8_readSum_74 (by decide) ?_
                refine cf_X8_76 (pc := 75) C (by exact (o4 _ zu1).1) (zk (by exact (o4 _ zu1).2)) (c_X8_put _ _ U1 L hd1 hc1 (q + 1) (o ++ acc.map clK).length (by rw [clK_len]; omega) hu1.1 0 wv (nI 0)) ⟨rfl, rfl⟩ ⟨rfl, rfl⟩ ⟨Nat.zero_le _, Nat.zero_le _⟩ rfl (Nat.le_of_ble_eq_true rfl) dX8_readSum_75 ?_
                rw [eU2 ew]
                exact go
            refine g_istore_n (pc := 37) (L' := [_, _, some (.int _), _]) C dX8_readSum_37 rfl rfl ?_
            refine g_iload_n (pc := 38) C dX8_readSum_38 rfl ?_
            refine g_iconst (pc := 39) (v := -1) C dX8_readSum_39 (by decide) ?_
            refine g_icmp_ne (pc := 40) C 46 dX8_readSum_40 rfl (fun c3 => ?_) (fun c3 => ?_)
            · refine g_aload_n (pc := 46) C dX8_readSum_46 rfl ?_
              refine g_dup (pc := 47) C dX8_readSum_47 rfl ?_
              refine fg_X8_15 (pc := 48) C (by exact (o4 _ zu1).1) (zk (by exact (o4 _ zu1).2)) dX8_readSum_48 ?_
              refine gx_ti (y := nI q) rk4_gA ?_
              refine g_iconst (pc := 51) (v := nI 1) C dX8_readSum_51 (by decide) ?_
              refine g_iadd (pc := 52) C dX8_readSum_52 ?_
              refine gx_ti (y := nI (q + 1)) (nI_add _ _) ?_
              refine fp_X8_15 (pc := 53) C (by exact (o4 _ zu1).1) (zk (by exact (o4 _ zu1).2)) dX8_readSum_53 ?_
              refine gx_S (S' := rk4 U1 (q + 1) 0) (rk4_at _ _ _ _) ?_
              refine g_iload_n (pc := 56) C dX8_readSum_56 rfl ?_
              refine g_iconst (pc := 57) (v := nI 5) C dX8_readSum_57 (by decide) ?_
              rcases a4 with rfl | rfl
              · refine g_icmp_eq (pc := 58) C 67 dX8_readSum_58 rfl (fun c4 => ?_) (fun c4 => ?_)
                · exact at67
                · exact absurd rfl c4
              · refine g_icmp_eq (pc := 58) C 67 dX8_readSum_58 rfl (fun c4 => ?_) (fun c4 => ?_)
                · exact absurd c4 (by decide)
                · refine g_iload_n (pc := 61) C dX8_readSum_61 rfl ?_
                  refine g_bipush (pc := 62) (v := nI 6) C dX8_readSum_62 (by decide) ?_
                  refine g_icmp_ne (pc := 64) C 87 dX8_readSum_64 rfl (fun c5 => ?_) (fun c5 => ?_)
                  · exact absurd rfl c5
                  · exact at67
            · exact absurd (Decidable.not_not.mp c3) (nI_m1 (by rcases a4 with rfl | rfl <;> decide))
          · have hq := hlt s a2
            have hR2 := hR1.trans (hctT s a2)
            have hk2 := okI_val T L (q + 1) m1 (by omega) hm1
            have hlen : (o ++ acc.map clK).length ≤ q + 1 + 13 := by rw [clK_len]; omega
            have hP2 : ruP U1 T L (q + 1) m1 (o ++ acc.map clK) := h.nx h1 (by omega) hm1 hlen hu1
            rw [a3]
            have at87 : gx_G w X (rk4 U1 (q + 1) 0) 0 0 87 [some (.ref (ad (w_b w) 4)), some (.int wv), some (.int (nI k)), some (.int (nI (clK s)))] [] (gx_E w X post) := by
              refine g_aload_n (pc := 87) C dX8_readSum_87 rfl ?_
              refine cgj_X8_111 (pc := 88) C J (by exact (o4 _ zu1).1) (zk (by exact (o4 _ zu1).2)) (c_X8_readValue _ _ _ U1 T L (q + 1) m1 _ hP2) ⟨rfl, rfl⟩ ⟨Nat.zero_le _, Nat.zero_le _⟩ rfl (Nat.le_of_ble_eq_true rfl) dX8_readSum_88 ?_
              rintro _ S3 ⟨rfl, U3, r3, h3⟩
              have hd3 := hd1.ch r3
              have zu3 : 121 ≤ s_z U3 := hd3.2.1.1
              cases hr : valF T L (q + 1) m1 with
              | error f =>
                rw [hr] at h3 hR2
                obtain ⟨n3, z, hn3, e3, hz, hz5⟩ := h3
                subst e3
                refine g_aload_n (pc := 91) C dX8_readSum_91 rfl ?_
                refine g_iload_n (pc := 92) C dX8_readSum_92 rfl ?_
                refine g_iconst (pc := 93) (v := nI 0) C dX8_readSum_93 (by decide) ?_
                refine cf_X8_76 (pc := 94) C (by exact (o4 _ zu3).1) (zk (by exact (o4 _ zu3).2)) (c_X8_put _ _ U3 L hd3 ((r3.2 _).trans hc1) n3 z hz5 hz (nI f) (nI (clK s)) (nI 0)) ⟨rfl, rfl⟩ ⟨rfl, rfl⟩ ⟨Nat.zero_le _, Nat.zero_le _⟩ rfl (Nat.le_of_ble_eq_true rfl) dX8_readSum_94 ?_
                obtain ⟨U4, r4, e4, q4⟩ := ruE_put (f := f) (v := nI 0 * nI 32 + nI (clK s)) hn3 hz hz5
                rw [e4]
                exact errL U4 _ _ k _ f hR2 ((h1.trans r3).trans r4) q4
              | ok p =>
                obtain ⟨n', m', k'⟩ := p
                rw [hr] at h3 hR2 hk2
                obtain ⟨e3, hu3⟩ := h3
                obtain ⟨b1, b2, b3, b4⟩ := hk2
                subst e3
                rw [clK_ap] at hu3
                refine g_aload_n (pc := 91) C dX8_readSum_91 rfl ?_
                refine g_iload_n (pc := 92) C dX8_readSum_92 rfl ?_
                refine g_iconst (pc := 93) (v := nI 0) C dX8_readSum_93 (by decide) ?_
                refine cf_X8_76 (pc := 94) C (by exact (o4 _ zu3).1) (zk (by exact (o4 _ zu3).2)) (c_X8_put _ _ U3 L hd3 ((r3.2 _).trans hc1) n' (o ++ (acc ++ k').map clK).length (by rw [clK_len, List.length_append]; omega) hu3.1 0 (nI (clK s)) (nI 0)) ⟨rfl, rfl⟩ ⟨rfl, rfl⟩ ⟨Nat.zero_le _, Nat.zero_le _⟩ rfl (Nat.le_of_ble_eq_true rfl) dX8_readSum_94 ?_
                refine g_iinc (pc := 97) (L' := [_, some (.int _), _, _]) C dX8_readSum_97 rfl (nI_1 _) rfl ?_
                refine g_goto (pc := 100) C 8 dX8_readSum_100 rfl ?_
                rw [if_pos (by rw [clK_len, List.length_append]; omega)]
                have hu4 := hu3.put (c := clK s) (v := nI 0 * nI 32 + nI (clK s)) (put0 _)
                exact ih n' m' (acc ++ k' ++ [s]) wt (k + 1) _ _ wv (by omega) (by omega) b2 b3 ((h1.trans r3).trans rch_put) (by rw [clK_sn]; exact hu4) (by rw [List.length_append, List.length_append]; show o.length + (acc.length + k'.length + 1) + wt.length ≤ _; omega) hw hR2
            refine g_istore_n (pc := 37) (L' := [_, _, some (.int _), _]) C dX8_readSum_37 rfl rfl ?_
            refine g_iload_n (pc := 38) C dX8_readSum_38 rfl ?_
            refine g_iconst (pc := 39) (v := -1) C dX8_readSum_39 (by decide) ?_
            refine g_icmp_ne (pc := 40) C 46 dX8_readSum_40 rfl (fun c3 => ?_) (fun c3 => ?_)
            · refine g_aload_n (pc := 46) C dX8_readSum_46 rfl ?_
              refine g_dup (pc := 47) C dX8_readSum_47 rfl ?_
              refine fg_X8_15 (pc := 48) C (by exact (o4 _ zu1).1) (zk (by exact (o4 _ zu1).2)) dX8_readSum_48 ?_
              refine gx_ti (y := nI q) rk4_gA ?_
              refine g_iconst (pc := 51) (v := nI 1) C dX8_readSum_51 (by decide) ?_
              refine g_iadd (pc := 52) C dX8_readSum_52 ?_
              refine gx_ti (y := nI (q + 1)) (nI_add _ _) ?_
              refine fp_X8_15 (pc := 53) C (by exact (o4 _ zu1).1) (zk (by exact (o4 _ zu1).2)) dX8_readSum_53 ?_
              refine gx_S (S' := rk4 U1 (q + 1) 0) (rk4_at _ _ _ _) ?_
              refine g_iload_n (pc := 56) C dX8_readSum_56 rfl ?_
              refine g_iconst (pc := 57) (v := nI 5) C dX8_readSum_57 (by decide) ?_
              refine g_icmp_eq (pc := 58) C 67 dX8_readSum_58 rfl (fun c4 => ?_) (fun c4 => ?_)
              · exact absurd c4 (by rcases a4 with rfl | rfl | rfl <;> decide)
              · refine g_iload_n (pc := 61) C dX8_readSum_61 rfl ?_
                refine g_bipush (pc := 62) (v := nI 6) C dX8_readSum_62 (by decide) ?_
                refine g_icmp_ne (pc := 64) C 87 dX8_readSum_64 rfl (fun c5 => ?_) (fun c5 => ?_)
                · exact at87
                · exact absurd (Decidable.not_not.mp c5) (by rcases a4 with rfl | rfl | rfl <;> decide)
            · exact absurd (Decidable.not_not.mp c3) (nI_m1 (by rcases a4 with rfl | rfl | rfl <;> decide))
  refine g_iconst (pc := 0) (v := -1) C dX8_readSum_0 (by decide) ?_
  refine g_istore_n (pc := 1) (L' := [some (.ref _), _, _, _]) C dX8_readSum_1 rfl rfl ?_
  refine g_aload_n (pc := 2) C dX8_readSum_2 rfl ?_
  refine cgj_X8_111 (pc := 3) C J (by exact (o4 _ zu).1) (zk (by exact (o4 _ zu).2)) (c_X8_readValue _ _ _ U T L n m o h) ⟨rfl, rfl⟩ ⟨Nat.zero_le _, Nat.zero_le _⟩ rfl (Nat.le_of_ble_eq_true rfl) dX8_readSum_3 ?_
  rintro _ S3 ⟨rfl, U3, r3, h3⟩
  have hd3 := hd.ch r3
  have zu3 : 121 ≤ s_z U3 := hd3.2.1.1
  have hR2 : R = match valF T L n m with
    | .error f => .error f
    | .ok (n', m', k) => ctF T L k [] n' m' := hR.symm.trans sm_ct
  have hk2 := okI_val T L n m hn hm
  cases hr : valF T L n m with
  | error f =>
    rw [hr] at h3 hR2
    obtain ⟨n3, z, hn3, e3, hz, hz5⟩ := id h3
    subst e3
    refine g_iconst (pc := 6) (v := nI 0) C dX8_readSum_6 (by decide) ?_
    refine g_istore_n (pc := 7) (L' := [_, some (.int _), _, _]) C dX8_readSum_7 rfl rfl ?_
    refine g_iload_n (pc := 8) C dX8_readSum_8 rfl ?_
    refine g_sipush (pc := 9) (v := nI 400) C dX8_readSum_9 (by decide) ?_
    refine g_icmp_ge (pc := 12) C 103 dX8_readSum_12 rfl (fun c1 => ?_) (fun c1 => ?_)
    · exact errEnd U3 _ _ _ _ f hR2 r3 h3
    · refine g_aload_n (pc := 15) C dX8_readSum_15 rfl ?_
      refine fg_X8_19 (pc := 16) C (by exact (o4 _ zu3).1) (zk (by exact (o4 _ zu3).2)) dX8_readSum_16 ?_
      refine gx_ti (y := nI f) rk4_gF ?_
      rw [hR2] at hsm
      refine g_if_ne (pc := 19) C 103 dX8_readSum_19 rfl (fun c2 => ?_) (fun c2 => ?_)
      · exact errEnd U3 _ _ _ _ f hR2 r3 h3
      · exact absurd (Decidable.not_not.mp c2) (ftpos hsm hL)
  | ok p =>
    obtain ⟨n', m', k'⟩ := p
    rw [hr] at h3 hR2 hk2
    obtain ⟨e3, hu3⟩ := h3
    obtain ⟨b1, b2, b3, b4⟩ := hk2
    subst e3
    refine g_iconst (pc := 6) (v := nI 0) C dX8_readSum_6 (by decide) ?_
    refine g_istore_n (pc := 7) (L' := [_, some (.int _), _, _]) C dX8_readSum_7 rfl rfl ?_
    exact loop (L + 1) n' m' k' [] 0 U3 _ _ (by omega) (by omega) b2 b3 r3 hu3 (by show o.length + k'.length + 0 ≤ _; omega) (Or.inl ⟨rfl, rfl⟩) hR2
