/-! ===== THE CLASS: RuleReader: FACTS that hang together ===== -/
def rmF (e : Nat) : Room := { frames := 3 * e + 10, cells := 0, slots := 0, locals := 80 * e + 250 }
def rmP (e : Nat) : Room := { frames := 3 * e + 11, cells := 0, slots := 0, locals := 80 * e + 275 }
def rmQ (e : Nat) : Room := { frames := 3 * e + 12, cells := 0, slots := 0, locals := 80 * e + 300 }
theorem loopW_fuel {T : Nat → Int32} {L : Nat} {v : Int64} {s : Nat} {item : Nat → Nat → RT} (hi : okI L item) : ∀ e d d' n m o, L - n ≤ e → L - n ≤ d → L - n ≤ d' → n ≤ L → m ≤ 60 → loopW T L v s item d n m o = loopW T L v s item d' n m o := by
  intro e
  induction e with
  | zero =>
    intro d d' n m o he hd hd' hn hm
    rw [loopW_eq hd, loopW_eq hd', skF_0 (by omega), if_neg (fun q => absurd (wd_lt q) (by omega)), if_neg (fun q => absurd (wd_lt q) (by omega))]
  | succ e ih =>
    intro d d' n m o he hd hd' hn hm
    rw [loopW_eq hd, loopW_eq hd']
    have hs := sk_bd (T := T) hn
    by_cases c : wdP T L (skN T L n) v
    · rw [if_pos c, if_pos c]
      have hq := lt_le (T := T) (L := L) (n := skN T L n) hs.2
      have hq1 := c.1
      have hk := hi (ltN T L (skN T L n)) m hq.2 hm
      cases r : item (ltN T L (skN T L n)) m with
      | error f => rfl
      | ok p =>
        obtain ⟨n', m', k⟩ := p
        rw [r] at hk
        obtain ⟨h1, h2, h3, h4⟩ := hk
        exact ih (d - 1) (d' - 1) n' m' _ (by omega) (by omega) (by omega) h2 h3
    · rw [if_neg c, if_neg c]
theorem c_X8_readPart (w : Wd) (j : SJ) (l : Launch) (T : Nat → Int32) (L e d : Nat) (item : Nat → Nat → RT) (hi : okI L item) (hItem : ∀ U n m o, ruP U T L n m o → gx_MJ w j l yX8_readFact cX8_readFact 4 none (rmF e) [.ref (ad (w_b w) 4), .int (nI d)] (rk4 U n 0) (pxU U L o (item n m))) (U : St) (n m : Nat) (o : List Nat) (h : ruP U T L n m o) : gx_MJ w j l yX8_readPart cX8_readPart 3 none (rmP e) [.ref (ad (w_b w) 4), .int (nI d)] (rk4 U n 0) (pxU U L o (seqW T L 6385252 12 item n m)) := by
  obtain ⟨hd, hT, hc, hn, hm, ho, hu⟩ := id h
  have hL := hd.2.1.2.2.2
  have o4 : ∀ S, 121 ≤ s_z S → gx_o S 4 7 := fun S q => o_st q rfl rfl
  have zu : 121 ≤ s_z U := hd.2.1.1
  have hsm := okI_seqW (T := T) (v := 6385252) (s := 12) hi hL n m hn hm
  have hsq : seqW T L 6385252 12 item n m = match item n m with
    | .error f => .error f
    | .ok (n', m', k) => loopW T L 6385252 12 item 400 n' m' k := rfl
  generalize seqW T L 6385252 12 item n m = R at hsm hsq ⊢
  generalize hpost : pxU U L o R = post
  refine gx_startJ rfl 1 rfl (Nat.le_of_ble_eq_true rfl) ?_
  intro X C J hl
  subst hl
  refine gx_L (L' := [_, _, _]) rfl ?_
  have errL : ∀ U1 S1 k f, R = .error f → rch U U1 → ruE L U1 S1 f → gx_G w X S1 0 0 7 [some (.ref (ad (w_b w) 4)), some (.int (nI d)), some (.int (nI k))] [] (gx_E w X post) := by
    intro U1 S1 k f he h1 hE
    obtain ⟨n1, z, hn1, e1, hz, hz5⟩ := id hE
    have zu1 : 121 ≤ s_z U1 := (hd.ch h1).2.1.1
    subst e1
    refine g_iload_n (pc := 7) C dX8_readPart_7 rfl ?_
    refine g_sipush (pc := 8) (v := nI 400) C dX8_readPart_8 (by decide) ?_
    refine g_icmp_ge (pc := 11) C 48 dX8_readPart_11 rfl (fun c1 => ?_) (fun c1 => ?_)
    · rw [← hpost]
      exact g_return (pc := 48) C ⟨rfl, rfl⟩ dX8_readPart_48 (pxU_e he h1 hE)
    · refine g_aload_n (pc := 14) C dX8_readPart_14 rfl ?_
      refine fg_X8_19 (pc := 15) C (by exact (o4 _ zu1).1) (zk (by exact (o4 _ zu1).2)) dX8_readPart_15 ?_
      refine gx_ti (y := nI f) rk4_gF ?_
      rw [he] at hsm
      refine g_if_ne (pc := 18) C 48 dX8_readPart_18 rfl (fun c2 => ?_) (fun c2 => ?_)
      · rw [← hpost]
        exact g_return (pc := 48) C ⟨rfl, rfl⟩ dX8_readPart_48 (pxU_e he h1 hE)
      · exact absurd (Decidable.not_not.mp c2) (ftpos hsm hL)
  have loop : ∀ e1 n1 m1 acc k U1, L - n1 < e1 → k < n1 → n1 ≤ L → m1 ≤ 60 → rch U U1 → ruU U1 (o ++ acc.map clK) m1 → o.length + acc.length ≤ n1 + 13 → R = loopW T L 6385252 12 item 400 n1 m1 acc → gx_G w X (rk4 U1 n1 0) 0 0 7 [some (.ref (ad (w_b w) 4)), some (.int (nI d)), some (.int (nI k))] [] (gx_E w X post) := by
    intro e1
    induction e1 with
    | zero => intro n1 m1 acc k U1 he; omega
    | succ e1 ih =>
      intro n1 m1 acc k U1 he hk hn1 hm1 h1 hu1 hb hR1
      have hd1 := hd.ch h1
      have hT1 : s_A U1 2 = T := (h1.1.A (by decide)).trans hT
      have hc1 : s_R U1 703 4 = some 5 := (h1.2 _).trans hc
      have zu1 : 121 ≤ s_z U1 := hd1.2.1.1
      have hs := sk_bd (T := T) hn1
      have hlt := lt_le (T := T) (L := L) (n := skN T L n1) hs.2
      rw [loopW_eq (by omega)] at hR1
      refine g_iload_n (pc := 7) C dX8_readPart_7 rfl ?_
      refine g_sipush (pc := 8) (v := nI 400) C dX8_readPart_8 (by decide) ?_
      refine g_icmp_ge (pc := 11) C 48 dX8_readPart_11 rfl (fun c1 => ?_) (fun c1 => ?_)
      · exact absurd c1 (nI_ge (by omega) (by omega))
      · refine g_aload_n (pc := 14) C dX8_readPart_14 rfl ?_
        refine fg_X8_19 (pc := 15) C (by exact (o4 _ zu1).1) (zk (by exact (o4 _ zu1).2)) dX8_readPart_15 ?_
        refine gx_ti (y := 0) rk4_gF ?_
        refine g_if_ne (pc := 18) C 48 dX8_readPart_18 rfl (fun c2 => ?_) (fun c2 => ?_)
        · exact absurd rfl c2
        · refine g_aload_n (pc := 21) C dX8_readPart_21 rfl ?_
          refine g_ldcS (pc := 22) C (js_X8_88 J) dX8_readPart_22 ?_
          refine cfj_X8_63 (pc := 24) C J (by exact (o4 _ zu1).1) (zk (by exact (o4 _ zu1).2)) (t_word _ _ _ hT1 hd1 hn1 0 18 (by omega)) ⟨Nat.ble_eq_true_of_le (by simp only [rmF, rmP, rmQ, rmX5_takeWord, rmX8_put]; omega), Nat.ble_eq_true_of_le (by simp only [rmF, rmP, rmQ, rmX5_takeWord, rmX8_put]; omega)⟩ ⟨rfl, rfl⟩ ⟨Nat.zero_le _, Nat.zero_le _⟩ rfl (Nat.le_of_ble_eq_true rfl) dX8_readPart_24 ?_
          by_cases hw : wdP T L (skN T L n1) (jsV 18)
          · rw [if_pos hw]
            rw [if_pos (show wdP T L (skN T L n1) 6385252 from hw)] at hR1
            refine g_if_eq (pc := 27) C 48 dX8_readPart_27 rfl (fun c3 => ?_) (fun c3 => ?_)
            · exact absurd hw (bI_0.mp c3)
            · clear c3
              have hq1 := hw.1
              generalize skN T L n1 = q at hs hlt hR1 hw hq1 ⊢
              generalize ltN T L q = q2 at hlt hR1 hq1 ⊢
              have hk2 := hi q2 m1 hlt.2 hm1
              have hlen : (o ++ acc.map clK).length ≤ q2 + 13 := by rw [clK_len]; omega
              have hP2 : ruP U1 T L q2 m1 (o ++ acc.map clK) := h.nx h1 hlt.2 hm1 hlen hu1
              refine g_aload_n (pc := 30) C dX8_readPart_30 rfl ?_
              refine g_iload_n (pc := 31) C dX8_readPart_31 rfl ?_
              refine cgj_X8_85 (pc := 32) C J (by exact (o4 _ zu1).1) (zk (by exact (o4 _ zu1).2)) (hItem U1 q2 m1 _ hP2) ⟨Nat.ble_eq_true_of_le (by simp only [rmF, rmP, rmQ, rmX5_takeWord, rmX8_put]; omega), Nat.ble_eq_true_of_le (by simp only [rmF, rmP, rmQ, rmX5_takeWord, rmX8_put]; omega)⟩ ⟨Nat.zero_le _, Nat.zero_le _⟩ rfl (Nat.le_of_ble_eq_true rfl) dX8_readPart_32 ?_
              rintro _ S3 ⟨rfl, U3, r3, h3⟩
              have hd3 := hd1.ch r3
              have zu3 : 121 ≤ s_z U3 := hd3.2.1.1
              cases hr : item q2 m1 with
              | error f =>
                rw [hr] at h3 hR1
                obtain ⟨n3, z, hn3, e3, hz, hz5⟩ := h3
                subst e3
                refine g_aload_n (pc := 35) C dX8_readPart_35 rfl ?_
                refine g_bipush (pc := 36) (v := nI 15) C dX8_readPart_36 (by decide) ?_
                refine g_iconst (pc := 38) (v := nI 0) C dX8_readPart_38 (by decide) ?_
                refine cf_X8_76 (pc := 39) C (by exact (o4 _ zu3).1) (zk (by exact (o4 _ zu3).2)) (c_X8_put _ _ U3 L hd3 ((r3.2 _).trans hc1) n3 z hz5 hz (nI f) (nI 15) (nI 0)) ⟨Nat.ble_eq_true_of_le (by simp only [rmF, rmP, rmQ, rmX5_takeWord, rmX8_put]; omega), Nat.ble_eq_true_of_le (by simp only [rmF, rmP, rmQ, rmX5_takeWord, rmX8_put]; omega)⟩ ⟨rfl, rfl⟩ ⟨Nat.zero_le _, Nat.zero_le _⟩ rfl (Nat.le_of_ble_eq_true rfl) dX8_readPart_39 ?_
                refine g_iinc (pc := 42) (L' := [_, some (.int _), _]) C dX8_readPart_42 rfl (nI_1 _) rfl ?_
                refine g_goto (pc := 45) C 7 dX8_readPart_45 rfl ?_
                obtain ⟨U4, r4, e4, q4⟩ := ruE_put (f := f) (v := nI 0 * nI 32 + nI 15) hn3 hz hz5
                rw [e4]
                exact errL U4 _ (k + 1) f hR1 ((h1.trans r3).trans r4) q4
              | ok p =>
                obtain ⟨n', m', k'⟩ := p
                rw [hr] at h3 hR1 hk2
                obtain ⟨e3, hu3⟩ := h3
                obtain ⟨b1, b2, b3, b4⟩ := hk2
                subst e3
                rw [clK_ap] at hu3
                have hR2 : R = loopW T L 6385252 12 item 400 n' m' (acc ++ k' ++ [12]) := hR1.trans (loopW_fuel hi 400 (400 - 1) 400 n' m' _ (by omega) (by omega) (by omega) b2 b3)
                refine g_aload_n (pc := 35) C dX8_readPart_35 rfl ?_
                refine g_bipush (pc := 36) (v := nI 15) C dX8_readPart_36 (by decide) ?_
                refine g_iconst (pc := 38) (v := nI 0) C dX8_readPart_38 (by decide) ?_
                refine cf_X8_76 (pc := 39) C (by exact (o4 _ zu3).1) (zk (by exact (o4 _ zu3).2)) (c_X8_put _ _ U3 L hd3 ((r3.2 _).trans hc1) n' (o ++ (acc ++ k').map clK).length (by rw [clK_len, List.length_append]; omega) hu3.1 0 (nI 15) (nI 0)) ⟨Nat.ble_eq_true_of_le (by simp only [rmF, rmP, rmQ, rmX5_takeWord, rmX8_put]; omega), Nat.ble_eq_true_of_le (by simp only [rmF, rmP, rmQ, rmX5_takeWord, rmX8_put]; omega)⟩ ⟨rfl, rfl⟩ ⟨Nat.zero_le _, Nat.zero_le _⟩ rfl (Nat.le_of_ble_eq_true rfl) dX8_readPart_39 ?_
                refine g_iinc (pc := 42) (L' := [_, some (.int _), _]) C dX8_readPart_42 rfl (nI_1 _) rfl ?_
                refine g_goto (pc := 45) C 7 dX8_readPart_45 rfl ?_
                rw [if_pos (by rw [clK_len, List.length_append]; omega)]
                have hu4 := hu3.put (c := clK 12) (v := nI 0 * nI 32 + nI 15) (put0 _)
                exact ih n' m' (acc ++ k' ++ [12]) (k + 1) _ (by omega) (by omega) b2 b3 ((h1.trans r3).trans rch_put) (by rw [clK_sn]; exact hu4) (by rw [List.length_append, List.length_append]; show o.length + (acc.length + k'.length + 1) ≤ _; omega) hR2
          · rw [if_neg hw]
            rw [if_neg (show ¬ wdP T L (skN T L n1) 6385252 from hw)] at hR1
            refine g_if_eq (pc := 27) C 48 dX8_readPart_27 rfl (fun c3 => ?_) (fun c3 => ?_)
            · rw [← hpost]
              exact g_return (pc := 48) C ⟨rfl, rfl⟩ dX8_readPart_48 (pxU_o hR1 h1 hu1)
            · exact absurd (bI_0.mpr hw) c3
  refine g_aload_n (pc := 0) C dX8_readPart_0 rfl ?_
  refine g_iload_n (pc := 1) C dX8_readPart_1 rfl ?_
  refine cgj_X8_85 (pc := 2) C J (by exact (o4 _ zu).1) (zk (by exact (o4 _ zu).2)) (hItem U n m o h) ⟨Nat.ble_eq_true_of_le (by simp only [rmF, rmP, rmQ, rmX5_takeWord, rmX8_put]; omega), Nat.ble_eq_true_of_le (by simp only [rmF, rmP, rmQ, rmX5_takeWord, rmX8_put]; omega)⟩ ⟨Nat.zero_le _, Nat.zero_le _⟩ rfl (Nat.le_of_ble_eq_true rfl) dX8_readPart_2 ?_
  rintro _ S3 ⟨rfl, U3, r3, h3⟩
  have hk2 := hi n m hn hm
  cases hr : item n m with
  | error f =>
    rw [hr] at h3 hsq
    refine g_iconst (pc := 5) (v := nI 0) C dX8_readPart_5 (by decide) ?_
    refine g_istore_n (pc := 6) (L' := [_, some (.int _), _]) C dX8_readPart_6 rfl rfl ?_
    exact errL U3 S3 0 f hsq r3 h3
  | ok p =>
    obtain ⟨n', m', k'⟩ := p
    rw [hr] at h3 hsq hk2
    obtain ⟨e3, hu3⟩ := h3
    obtain ⟨b1, b2, b3, b4⟩ := hk2
    subst e3
    refine g_iconst (pc := 5) (v := nI 0) C dX8_readPart_5 (by decide) ?_
    refine g_istore_n (pc := 6) (L' := [_, some (.int _), _]) C dX8_readPart_6 rfl rfl ?_
    exact loop (L + 1) n' m' k' 0 U3 (by omega) (by omega) b2 b3 r3 hu3 (by omega) hsq
theorem c_X8_readTest (w : Wd) (j : SJ) (l : Launch) (T : Nat → Int32) (L e d : Nat) (item : Nat → Nat → RT) (hi : okI L item) (hItem : ∀ U n m o, ruP U T L n m o → gx_MJ w j l yX8_readPart cX8_readPart 3 none (rmP e) [.ref (ad (w_b w) 4), .int (nI d)] (rk4 U n 0) (pxU U L o (item n m))) (U : St) (n m : Nat) (o : List Nat) (h : ruP U T L n m o) : gx_MJ w j l yX8_readTest cX8_readTest 3 none (rmQ e) [.ref (ad (w_b w) 4), .int (nI d)] (rk4 U n 0) (pxU U L o (seqW T L 28530 13 item n m)) := by
  obtain ⟨hd, hT, hc, hn, hm, ho, hu⟩ := id h
  have hL := hd.2.1.2.2.2
  have o4 : ∀ S, 121 ≤ s_z S → gx_o S 4 7 := fun S q => o_st q rfl rfl
  have zu : 121 ≤ s_z U := hd.2.1.1
  have hsm := okI_seqW (T := T) (v := 28530) (s := 13) hi hL n m hn hm
  have hsq : seqW T L 28530 13 item n m = match item n m with
    | .error f => .error f
    | .ok (n', m', k) => loopW T L 28530 13 item 400 n' m' k := rfl
  generalize seqW T L 28530 13 item n m = R at hsm hsq ⊢
  generalize hpost : pxU U L o R = post
  refine gx_startJ rfl 1 rfl (Nat.le_of_ble_eq_true rfl) ?_
  intro X C J hl
  subst hl
  refine gx_L (L' := [_, _, _]) rfl ?_
  have errL : ∀ U1 S1 k f, R = .error f → rch U U1 → ruE L U1 S1 f → gx_G w X S1 0 0 7 [some (.ref (ad (w_b w) 4)), some (.int (nI d)), some (.int (nI k))] [] (gx_E w X post) := by
    intro U1 S1 k f he h1 hE
    obtain ⟨n1, z, hn1, e1, hz, hz5⟩ := id hE
    have zu1 : 121 ≤ s_z U1 := (hd.ch h1).2.1.1
    subst e1
    refine g_iload_n (pc := 7) C dX8_readTest_7 rfl ?_
    refine g_sipush (pc := 8) (v := nI 400) C dX8_readTest_8 (by decide) ?_
    refine g_icmp_ge (pc := 11) C 48 dX8_readTest_11 rfl (fun c1 => ?_) (fun c1 => ?_)
    · rw [← hpost]
      exact g_return (pc := 48) C ⟨rfl, rfl⟩ dX8_readTest_48 (pxU_e he h1 hE)
    · refine g_aload_n (pc := 14) C dX8_readTest_14 rfl ?_
      refine fg_X8_19 (pc := 15) C (by exact (o4 _ zu1).1) (zk (by exact (o4 _ zu1).2)) dX8_readTest_15 ?_
      refine gx_ti (y := nI f) rk4_gF ?_
      rw [he] at hsm
      refine g_if_ne (pc := 18) C 48 dX8_readTest_18 rfl (fun c2 => ?_) (fun c2 => ?_)
      · rw [← hpost]
        exact g_return (pc := 48) C ⟨rfl, rfl⟩ dX8_readTest_48 (pxU_e he h1 hE)
      · exact absurd (Decidable.not_not.mp c2) (ftpos hsm hL)
  have loop : ∀ e1 n1 m1 acc k U1, L - n1 < e1 → k < n1 → n1 ≤ L → m1 ≤ 60 → rch U U1 → ruU U1 (o ++ acc.map clK) m1 → o.length + acc.length ≤ n1 + 13 → R = loopW T L 28530 13 item 400 n1 m1 acc → gx_G w X (rk4 U1 n1 0) 0 0 7 [some (.ref (ad (w_b w) 4)), some (.int (nI d)), some (.int (nI k))] [] (gx_E w X post) := by
    intro e1
    induction e1 with
    | zero => intro n1 m1 acc k U1 he; omega
    | succ e1 ih =>
      intro n1 m1 acc k U1 he hk hn1 hm1 h1 hu1 hb hR1
      have hd1 := hd.ch h1
      have hT1 : s_A U1 2 = T := (h1.1.A (by decide)).trans hT
      have hc1 : s_R U1 703 4 = some 5 := (h1.2 _).trans hc
      have zu1 : 121 ≤ s_z U1 := hd1.2.1.1
      have hs := sk_bd (T := T) hn1
      have hlt := lt_le (T := T) (L := L) (n := skN T L n1) hs.2
      rw [loopW_eq (by omega)] at hR1
      refine g_iload_n (pc := 7) C dX8_readTest_7 rfl ?_
      refine g_sipush (pc := 8) (v := nI 400) C dX8_readTest_8 (by decide) ?_
      refine g_icmp_ge (pc := 11) C 48 dX8_readTest_11 rfl (fun c1 => ?_) (fun c1 => ?_)
      · exact absurd c1 (nI_ge (by omega) (by omega))
      · refine g_aload_n (pc := 14) C dX8_readTest_14 rfl ?_
        refine fg_X8_19 (pc := 15) C (by exact (o4 _ zu1).1) (zk (by exact (o4 _ zu1).2)) dX8_readTest_15 ?_
        refine gx_ti (y := 0) rk4_gF ?_
        refine g_if_ne (pc := 18) C 48 dX8_readTest_18 rfl (fun c2 => ?_) (fun c2 => ?_)
        · exact absurd rfl c2
        · refine g_aload_n (pc := 21) C dX8_readTest_21 rfl ?_
          refine g_ldcS (pc := 22) C (js_X8_83 J) dX8_readTest_22 ?_
          refine cfj_X8_63 (pc := 24) C J (by exact (o4 _ zu1).1) (zk (by exact (o4 _ zu1).2)) (t_word _ _ _ hT1 hd1 hn1 0 19 (by omega)) ⟨Nat.ble_eq_true_of_le (by simp only [rmF, rmP, rmQ, rmX5_takeWord, rmX8_put]; omega), Nat.ble_eq_true_of_le (by simp only [rmF, rmP, rmQ, rmX5_takeWord, rmX8_put]; omega)⟩ ⟨rfl, rfl⟩ ⟨Nat.zero_le _, Nat.zero_le _⟩ rfl (Nat.le_of_ble_eq_true rfl) dX8_readTest_24 ?_
          by_cases hw : wdP T L (skN T L n1) (jsV 19)
          · rw [if_pos hw]
            rw [if_pos (show wdP T L (skN T L n1) 28530 from hw)] at hR1
            refine g_if_eq (pc := 27) C 48 dX8_readTest_27 rfl (fun c3 => ?_) (fun c3 => ?_)
            · exact absurd hw (bI_0.mp c3)
            · clear c3
              have hq1 := hw.1
              generalize skN T L n1 = q at hs hlt hR1 hw hq1 ⊢
              generalize ltN T L q = q2 at hlt hR1 hq1 ⊢
              have hk2 := hi q2 m1 hlt.2 hm1
              have hlen : (o ++ acc.map clK).length ≤ q2 + 13 := by rw [clK_len]; omega
              have hP2 : ruP U1 T L q2 m1 (o ++ acc.map clK) := h.nx h1 hlt.2 hm1 hlen hu1
              refine g_aload_n (pc := 30) C dX8_readTest_30 rfl ?_
              refine g_iload_n (pc := 31) C dX8_readTest_31 rfl ?_
              refine cgj_X8_80 (pc := 32) C J (by exact (o4 _ zu1).1) (zk (by exact (o4 _ zu1).2)) (hItem U1 q2 m1 _ hP2) ⟨Nat.ble_eq_true_of_le (by simp only [rmF, rmP, rmQ, rmX5_takeWord, rmX8_put]; omega), Nat.ble_eq_true_of_le (by simp only [rmF, rmP, rmQ, rmX5_takeWord, rmX8_put]; omega)⟩ ⟨Nat.zero_le _, Nat.zero_le _⟩ rfl (Nat.le_of_ble_eq_true rfl) dX8_readTest_32 ?_
              rintro _ S3 ⟨rfl, U3, r3, h3⟩
              have hd3 := hd1.ch r3
              have zu3 : 121 ≤ s_z U3 := hd3.2.1.1
              cases hr : item q2 m1 with
              | error f =>
                rw [hr] at h3 hR1
                obtain ⟨n3, z, hn3, e3, hz, hz5⟩ := h3
                subst e3
                refine g_aload_n (pc := 35) C dX8_readTest_35 rfl ?_
                refine g_bipush (pc := 36) (v := nI 16) C dX8_readTest_36 (by decide) ?_
                refine g_iconst (pc := 38) (v := nI 0) C dX8_readTest_38 (by decide) ?_
                refine cf_X8_76 (pc := 39) C (by exact (o4 _ zu3).1) (zk (by exact (o4 _ zu3).2)) (c_X8_put _ _ U3 L hd3 ((r3.2 _).trans hc1) n3 z hz5 hz (nI f) (nI 16) (nI 0)) ⟨Nat.ble_eq_true_of_le (by simp only [rmF, rmP, rmQ, rmX5_takeWord, rmX8_put]; omega), Nat.ble_eq_true_of_le (by simp only [rmF, rmP, rmQ, rmX5_takeWord, rmX8_put]; omega)⟩ ⟨rfl, rfl⟩ ⟨Nat.zero_le _, Nat.zero_le _⟩ rfl (Nat.le_of_ble_eq_true rfl) dX8_readTest_39 ?_
                refine g_iinc (pc := 42) (L' := [_, some (.int _), _]) C dX8_readTest_42 rfl (nI_1 _) rfl ?_
                refine g_goto (pc := 45) C 7 dX8_readTest_45 rfl ?_
                obtain ⟨U4, r4, e4, q4⟩ := ruE_put (f := f) (v := nI 0 * nI 32 + nI 16) hn3 hz hz5
                rw [e4]
                exact errL U4 _ (k + 1) f hR1 ((h1.trans r3).trans r4) q4
              | ok p =>
                obtain ⟨n', m', k'⟩ := p
                rw [hr] at h3 hR1 hk2
                obtain ⟨e3, hu3⟩ := h3
                obtain ⟨b1, b2, b3, b4⟩ := hk2
                subst e3
                rw [clK_ap] at hu3
                have hR2 : R = loopW T L 28530 13 item 400 n' m' (acc ++ k' ++ [13]) := hR1.trans (loopW_fuel hi 400 (400 - 1) 400 n' m' _ (by omega) (by omega) (by omega) b2 b3)
                refine g_aload_n (pc := 35) C dX8_readTest_35 rfl ?_
                refine g_bipush (pc := 36) (v := nI 16) C dX8_readTest_36 (by decide) ?_
                refine g_iconst (pc := 38) (v := nI 0) C dX8_readTest_38 (by decide) ?_
                refine cf_X8_76 (pc := 39) C (by exact (o4 _ zu3).1) (zk (by exact (o4 _ zu3).2)) (c_X8_put _ _ U3 L hd3 ((r3.2 _).trans hc1) n' (o ++ (acc ++ k').map clK).length (by rw [clK_len, List.length_append]; omega) hu3.1 0 (nI 16) (nI 0)) ⟨Nat.ble_eq_true_of_le (by simp only [rmF, rmP, rmQ, rmX5_takeWord, rmX8_put]; omega), Nat.ble_eq_true_of_le (by simp only [rmF, rmP, rmQ, rmX5_takeWord, rmX8_put]; omega)⟩ ⟨rfl, rfl⟩ ⟨Nat.zero_le _, Nat.zero_le _⟩ rfl (Nat.le_of_ble_eq_true rfl) dX8_readTest_39 ?_
                refine g_iinc (pc := 42) (L' := [_, some (.int _), _]) C dX8_readTest_42 rfl (nI_1 _) rfl ?_
                refine g_goto (pc := 45) C 7 dX8_readTest_45 rfl ?_
                rw [if_pos (by rw [clK_len, List.length_append]; omega)]
                have hu4 := hu3.put (c := clK 13) (v := nI 0 * nI 32 + nI 16) (put0 _)
                exact ih n' m' (acc ++ k' ++ [13]) (k + 1) _ (by omega) (by omega) b2 b3 ((h1.trans r3).trans rch_put) (by rw [clK_sn]; exact hu4) (by rw [List.length_append, List.length_append]; show o.length + (acc.length + k'.length + 1) ≤ _; omega) hR2
          · rw [if_neg hw]
            rw [if_neg (show ¬ wdP T L (skN T L n1) 28530 from hw)] at hR1
            refine g_if_eq (pc := 27) C 48 dX8_readTest_27 rfl (fun c3 => ?_) (fun c3 => ?_)
            · rw [← hpost]
              exact g_return (pc := 48) C ⟨rfl, rfl⟩ dX8_readTest_48 (pxU_o hR1 h1 hu1)
            · exact absurd (bI_0.mpr hw) c3
  refine g_aload_n (pc := 0) C dX8_readTest_0 rfl ?_
  refine g_iload_n (pc := 1) C dX8_readTest_1 rfl ?_
  refine cgj_X8_80 (pc := 2) C J (by exact (o4 _ zu).1) (zk (by exact (o4 _ zu).2)) (hItem U n m o h) ⟨Nat.ble_eq_true_of_le (by simp only [rmF, rmP, rmQ, rmX5_takeWord, rmX8_put]; omega), Nat.ble_eq_true_of_le (by simp only [rmF, rmP, rmQ, rmX5_takeWord, rmX8_put]; omega)⟩ ⟨Nat.zero_le _, Nat.zero_le _⟩ rfl (Nat.le_of_ble_eq_true rfl) dX8_readTest_2 ?_
  rintro _ S3 ⟨rfl, U3, r3, h3⟩
  have hk2 := hi n m hn hm
  cases hr : item n m with
  | error f =>
    rw [hr] at h3 hsq
    refine g_iconst (pc := 5) (v := nI 0) C dX8_readTest_5 (by decide) ?_
    refine g_istore_n (pc := 6) (L' := [_, some (.int _), _]) C dX8_readTest_6 rfl rfl ?_
    exact errL U3 S3 0 f hsq r3 h3
  | ok p =>
    obtain ⟨n', m', k'⟩ := p
    rw [hr] at h3 hsq hk2
    obtain ⟨e3, hu3⟩ := h3
    obtain ⟨b1, b2, b3, b4⟩ := hk2
    subst e3
    refine g_iconst (pc := 5) (v := nI 0) C dX8_readTest_5 (by decide) ?_
    refine g_istore_n (pc := 6) (L' := [_, some (.int _), _]) C dX8_readTest_6 rfl rfl ?_
    exact loop (L + 1) n' m' k' 0 U3 (by omega) (by omega) b2 b3 r3 hu3 (by omega) hsq
