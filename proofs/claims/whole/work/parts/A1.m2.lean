/-! ===== THE CLASS: RuleReader: read ===== -/
theorem t_goes (w : Wd) (l : Launch) {U : St} {T : Nat → Int32} {L n : Nat} (hT : s_A U 2 = T) (h : rd4K U L) (hn : n ≤ L) (f : Int32) : gx_M w l yX5_goesOn cX5_goesOn 1 (some .boolean) rmX5_goesOn [.ref (ad (w_b w) 4)] (rk4 U n f) (pI (bI (f = 0 ∧ seeV T L (skN T L n) = nI 59)) (if f = 0 then (if seeV T L (skN T L n) = nI 59 then rk4 U (skN T L n + 1) 0 else rk4 U (skN T L n) (if seeV T L (skN T L n) = -1 then 0 else nI (ftN 0 (skN T L n)))) else rk4 U n f)) := by
  subst hT; exact c_X5_goesOn_X8 w l U L h n hn f
theorem clsR_b {T : Nat → Int32} {L n m c : Nat} (hL : L ≤ 400) (hn : n ≤ L) (hm : m ≤ 60) : match clsR T L n m c with
    | .error f => 0 < f ∧ f ≤ 8 * L + 8
    | .ok (n', m', q) => n < n' ∧ n' ≤ L ∧ m' ≤ 60 ∧ n + (clT q).length ≤ n' ∧ ¬ c = 12 := by
  have hs := sk_bd (T := T) hn
  have hb := bd_ok (T := T) hL hs.2 hm
  unfold clsR
  by_cases h1 : wdP T L (skN T L n) 422775452260
  · rw [if_pos h1]
    by_cases h2 : c = 12
    · rw [if_pos h2]; show 0 < ftN 4 _ ∧ ftN 4 _ ≤ _; unfold ftN; omega
    · rw [if_neg h2]
      cases hr : bdF T L (skN T L n) m with
      | error f => rw [hr] at hb; exact hb
      | ok p => obtain ⟨n', m', q⟩ := p; rw [hr] at hb; obtain ⟨b1, b2, b3, b4⟩ := hb; exact ⟨by omega, b2, b3, by omega, h2⟩
  · rw [if_neg h1]; show 0 < ftN 0 _ ∧ ftN 0 _ ≤ _; unfold ftN; omega
def pxRd (S : St) (L : Nat) (r : Except Nat (List CL)) : Option Value → St → Prop := fun v S' => rch S S' ∧ match r with
  | .error f => v = some (.int (nI f)) ∧ 0 < f ∧ f ≤ 8 * L + 8
  | .ok cs => v = some (.int 0) ∧ s_I S' 704 4 = nI (cdC cs).length ∧ (cdC cs).length ≤ 420 ∧ ∀ i, i < (cdC cs).length → s_A S' 5 i = nI ((cdC cs).getD i 0)
theorem pxRd_e {S S' : St} {L f : Nat} {r : Except Nat (List CL)} (hr : r = .error f) (h : rch S S') (hf : 0 < f ∧ f ≤ 8 * L + 8) : pxRd S L r (some (.int (nI f))) S' := by
  subst hr; exact ⟨h, rfl, hf⟩
theorem pxRd_o {S S' : St} {L : Nat} {cs : List CL} {r : Except Nat (List CL)} (hr : r = .ok cs) (h : rch S S') (h1 : s_I S' 704 4 = nI (cdC cs).length) (h2 : (cdC cs).length ≤ 420) (h3 : ∀ i, i < (cdC cs).length → s_A S' 5 i = nI ((cdC cs).getD i 0)) : pxRd S L r (some (.int 0)) S' := by
  subst hr; exact ⟨h, rfl, h1, h2, h3⟩
theorem c_X8_read (w : Wd) (j : SJ) (l : Launch) (S : St) (L : Nat) (hd : rd4K S L) (hc : s_R S 703 4 = some 5) : gx_MJ w j l yX8_read cX8_read 3 (some .int) rmRR [.ref (ad (w_b w) 4)] S (pxRd S L (rdR (s_A S 2) L 401 0 0 [])) := by
  have hL := hd.2.1.2.2.2
  have o4 : ∀ S, 121 ≤ s_z S → gx_o S 4 7 := fun S q => o_st q rfl rfl
  have zu : 121 ≤ s_z S := hd.2.1.1
  generalize hT : s_A S 2 = T
  generalize hR : rdR T L 401 0 0 [] = R
  generalize hpost : pxRd S L R = post
  refine gx_startJ rfl 2 rfl (Nat.le_of_ble_eq_true rfl) ?_
  intro X C J hl
  subst hl
  refine gx_L (L' := [_, _, _]) rfl ?_
  have exit : ∀ U1 a (f : Int32) k, 121 ≤ s_z U1 → post (some (.int f)) (rk4 U1 a f) → gx_G w X (rk4 U1 a f) 0 0 24 [some (.ref (ad (w_b w) 4)), some (.int (nI 0)), some (.int (nI k))] [] (gx_E w X post) := by
    intro U1 a f k zu1 hp
    refine g_iload_n (pc := 24) C dX8_read_24 rfl ?_
    refine g_if_eq (pc := 25) C 50 dX8_read_25 rfl (fun c1 => ?_) (fun c1 => ?_)
    · refine g_aload_n (pc := 50) C dX8_read_50 rfl ?_
      refine fg_X8_19 (pc := 51) C (by exact (o4 _ zu1).1) (zk (by exact (o4 _ zu1).2)) dX8_read_51 ?_
      refine gx_ti (y := f) rk4_gF ?_
      exact g_ireturn (pc := 54) C ⟨rfl, rfl⟩ dX8_read_54 hp
    · exact absurd rfl c1
  have loop : ∀ dd cs n1 m1 U1, dd + cs.length = 401 → cs.length ≤ 12 → rch S U1 → ruP U1 T L n1 m1 (cdC cs) → (cdC cs).length ≤ n1 + cs.length → R = rdR T L dd n1 m1 cs → gx_G w X (rk4 U1 n1 0) 0 0 24 [some (.ref (ad (w_b w) 4)), some (.int (nI 1)), some (.int (nI cs.length))] [] (gx_E w X post) := by
    intro dd
    induction dd with
    | zero => intro cs n1 m1 U1 h1 h2; omega
    | succ dd ih =>
      intro cs n1 m1 U1 h1 h2 r1 hP1 hb hR1
      obtain ⟨hd1, hT1, hc1, hn1, hm1, ho1, hu1⟩ := id hP1
      have zu1 : 121 ≤ s_z U1 := hd1.2.1.1
      have hk := clsR_b (T := T) (c := cs.length) hL hn1 hm1
      have hR2 : R = match clsR T L n1 m1 cs.length with
        | .error f => .error f
        | .ok (n', m', q) => if seeV T L (skN T L n') = nI 59 then rdR T L dd (skN T L n' + 1) m' (cs ++ [q]) else if seeV T L (skN T L n') = -1 then .ok (cs ++ [q]) else .error (ftN 0 (skN T L n')) := hR1
      refine g_iload_n (pc := 24) C dX8_read_24 rfl ?_
      refine g_if_eq (pc := 25) C 50 dX8_read_25 rfl (fun c1 => ?_) (fun c1 => ?_)
      · exact absurd c1 (by decide)
      · refine g_iload_n (pc := 28) C dX8_read_28 rfl ?_
        refine g_bipush (pc := 29) (v := nI 12) C dX8_read_29 (by decide) ?_
        refine g_icmp_gt (pc := 31) C 50 dX8_read_31 rfl (fun c2 => ?_) (fun c2 => ?_)
        · exact absurd c2 (nI_nlt h2 (by omega))
        · refine g_aload_n (pc := 34) C dX8_read_34 rfl ?_
          refine g_iload_n (pc := 35) C dX8_read_35 rfl ?_
          refine cgj_X8_28 (pc := 36) C J (by exact (o4 _ zu1).1) (zk (by exact (o4 _ zu1).2)) (c_X8_readClause _ _ _ U1 T L n1 m1 cs.length (cdC cs) hP1 h2 hb) ⟨Nat.ble_eq_true_of_le (by simp only [rmRR, rmRC, rmX5_goesOn]; omega), Nat.ble_eq_true_of_le (by simp only [rmRR, rmRC, rmX5_goesOn]; omega)⟩ ⟨Nat.zero_le _, Nat.zero_le _⟩ rfl (Nat.le_of_ble_eq_true rfl) dX8_read_36 ?_
          rintro _ S3 ⟨rfl, U3, r3, h3⟩
          have hd3 := hd1.ch r3
          have zu3 : 121 ≤ s_z U3 := hd3.2.1.1
          have hT3 : s_A U3 2 = T := (r3.1.A (by decide)).trans hT1
          cases hr : clsR T L n1 m1 cs.length with
          | error f =>
            rw [hr] at h3 hR2 hk
            obtain ⟨n3, z, hn3, e3, hz, hz5⟩ := h3
            subst e3
            have hf0 := ftpos hk hL
            refine g_aload_n (pc := 39) C dX8_read_39 rfl ?_
            refine cf_X8_32 (pc := 40) C (by exact (o4 _ zu3).1) (zk (by exact (o4 _ zu3).2)) (t_goes _ _ hT3 hd3 hn3 (nI f)) ⟨Nat.ble_eq_true_of_le (by simp only [rmRR, rmRC, rmX5_goesOn]; omega), Nat.ble_eq_true_of_le (by simp only [rmRR, rmRC, rmX5_goesOn]; omega)⟩ ⟨rfl, rfl⟩ ⟨Nat.zero_le _, Nat.zero_le _⟩ rfl (Nat.le_of_ble_eq_true rfl) dX8_read_40 ?_
            rw [if_neg hf0, bI_f (fun q => hf0 q.1)]
            refine g_istore_n (pc := 43) (L' := [some (.ref _), _, _]) C dX8_read_43 rfl rfl ?_
            refine g_iinc (pc := 44) (L' := [_, some (.int _), _]) C dX8_read_44 rfl (nI_1 _) rfl ?_
            refine g_goto (pc := 47) C 24 dX8_read_47 rfl ?_
            refine exit U3 n3 (nI f) _ zu3 ?_
            rw [← hpost]
            exact pxRd_e hR2 ((r1.trans r3).trans rch_rk) hk
          | ok p =>
            obtain ⟨n', m', q⟩ := p
            rw [hr] at h3 hR2 hk
            simp only at hR2
            obtain ⟨e3, hu3⟩ := h3
            obtain ⟨b1, b2, b3, b4, b5⟩ := hk
            subst e3
            have hs3 := sk_bd (T := T) b2
            have hl3 : (cdC (cs ++ [q])).length ≤ n' + cs.length + 1 := by
              rw [cdC_app, List.length_append, cdC_one]; omega
            rw [← cdC_app] at hu3
            refine g_aload_n (pc := 39) C dX8_read_39 rfl ?_
            refine cf_X8_32 (pc := 40) C (by exact (o4 _ zu3).1) (zk (by exact (o4 _ zu3).2)) (t_goes _ _ hT3 hd3 b2 0) ⟨Nat.ble_eq_true_of_le (by simp only [rmRR, rmRC, rmX5_goesOn]; omega), Nat.ble_eq_true_of_le (by simp only [rmRR, rmRC, rmX5_goesOn]; omega)⟩ ⟨rfl, rfl⟩ ⟨Nat.zero_le _, Nat.zero_le _⟩ rfl (Nat.le_of_ble_eq_true rfl) dX8_read_40 ?_
            rw [if_pos rfl]
            have hls : (cs ++ [q]).length = cs.length + 1 := by rw [List.length_append]; rfl
            by_cases h59 : seeV T L (skN T L n') = nI 59
            · rw [if_pos h59] at hR2 ⊢
              have hlt : skN T L n' < L := Nat.lt_of_not_le (fun z => by rw [see_end z] at h59; exact absurd h59 (by decide))
              rw [bI_t ⟨rfl, h59⟩]
              have := ih (cs ++ [q]) (skN T L n' + 1) m' U3 (by omega) (by omega) (r1.trans r3) (hP1.nx r3 (by omega) b3 (by omega) hu3) (by omega) hR2
              rw [hls] at this
              refine g_istore_n (pc := 43) (L' := [some (.ref _), _, _]) C dX8_read_43 rfl rfl ?_
              refine g_iinc (pc := 44) (L' := [_, some (.int _), _]) C dX8_read_44 rfl (nI_1 _) rfl ?_
              refine g_goto (pc := 47) C 24 dX8_read_47 rfl ?_
              exact this
            · rw [if_neg h59] at hR2 ⊢
              rw [bI_f (fun z => h59 z.2)]
              by_cases hm1 : seeV T L (skN T L n') = -1
              · rw [if_pos hm1] at hR2 ⊢
                refine g_istore_n (pc := 43) (L' := [some (.ref _), _, _]) C dX8_read_43 rfl rfl ?_
                refine g_iinc (pc := 44) (L' := [_, some (.int _), _]) C dX8_read_44 rfl (nI_1 _) rfl ?_
                refine g_goto (pc := 47) C 24 dX8_read_47 rfl ?_
                refine exit U3 (skN T L n') 0 _ zu3 ?_
                rw [← hpost]
                exact pxRd_o hR2 ((r1.trans r3).trans rch_rk) ((rk_g (by decide) (by decide)).trans hu3.1) (by omega) hu3.2.2
              · rw [if_neg hm1] at hR2 ⊢
                refine g_istore_n (pc := 43) (L' := [some (.ref _), _, _]) C dX8_read_43 rfl rfl ?_
                refine g_iinc (pc := 44) (L' := [_, some (.int _), _]) C dX8_read_44 rfl (nI_1 _) rfl ?_
                refine g_goto (pc := 47) C 24 dX8_read_47 rfl ?_
                refine exit U3 (skN T L n') (nI (ftN 0 (skN T L n'))) _ zu3 ?_
                rw [← hpost]
                exact pxRd_e hR2 ((r1.trans r3).trans rch_rk) (by unfold ftN; omega)
  refine g_aload_n (pc := 0) C dX8_read_0 rfl ?_
  refine g_iconst (pc := 1) (v := nI 0) C dX8_read_1 (by decide) ?_
  refine fp_X8_15 (pc := 2) C (by exact (o4 _ zu).1) (zk (by exact (o4 _ zu).2)) dX8_read_2 ?_
  refine g_aload_n (pc := 5) C dX8_read_5 rfl ?_
  refine g_iconst (pc := 6) (v := nI 0) C dX8_read_6 (by decide) ?_
  refine fp_X8_19 (pc := 7) C (by exact (o4 _ zu).1) (zk (by exact (o4 _ zu).2)) dX8_read_7 ?_
  refine g_aload_n (pc := 10) C dX8_read_10 rfl ?_
  refine g_iconst (pc := 11) (v := nI 0) C dX8_read_11 (by decide) ?_
  refine fp_X8_22 (pc := 12) C (by exact (o4 _ zu).1) (zk (by exact (o4 _ zu).2)) dX8_read_12 ?_
  refine g_aload_n (pc := 15) C dX8_read_15 rfl ?_
  refine g_iconst (pc := 16) (v := nI 0) C dX8_read_16 (by decide) ?_
  refine fp_X8_25 (pc := 17) C (by exact (o4 _ zu).1) (zk (by exact (o4 _ zu).2)) dX8_read_17 ?_
  refine gx_S (S' := rk4 (s_setI (s_setI S 704 4 (nI 0)) 705 4 (nI 0)) 0 0) ?_ ?_
  · rw [← rk_I _ _ 705 _ _ (by decide) (by decide), ← rk_I _ _ 704 _ _ (by decide) (by decide)]; rfl
  have rr : rch S (s_setI (s_setI S 704 4 (nI 0)) 705 4 (nI 0)) := rch_I.trans rch_I
  have hP : ruP (s_setI (s_setI S 704 4 (nI 0)) 705 4 (nI 0)) T L 0 0 (cdC []) := ⟨hd.ch rr, hT, hc, by omega, by omega, by show 0 ≤ _; omega, (gI_ne (Or.inl (by decide))).trans gI_at, gI_at, fun i hi => absurd hi (by show ¬ i < 0; omega)⟩
  refine g_iconst (pc := 20) (v := nI 1) C dX8_read_20 (by decide) ?_
  refine g_istore_n (pc := 21) (L' := [some (.ref _), _, _]) C dX8_read_21 rfl rfl ?_
  refine g_iconst (pc := 22) (v := nI 0) C dX8_read_22 (by decide) ?_
  refine g_istore_n (pc := 23) (L' := [_, some (.int _), _]) C dX8_read_23 rfl rfl ?_
  exact loop 401 [] 0 0 _ rfl (by show 0 ≤ 12; omega) rr hP (by show 0 ≤ _; omega) hR.symm
