/-! ===== THE CLASS: CrossingReader: readBeside, readClause ===== -/
theorem rk3_e {U : St} {n : Nat} {f : Int32} : eqO (fun k => k = 3) U (rk3 U n f) := (eqO.sI (D := fun k => k = 3) rfl).trans (eqO.sI rfl)
theorem t3_skip (w : Wd) (l : Launch) {U : St} {T : Nat → Int32} {L n : Nat} (hT : s_A U 2 = T) (h : rd3K U L) (hn : n ≤ L) (f : Int32) : gx_M w l yX5_skipBlanks cX5_skipBlanks 2 (some .int) rmX5_skipBlanks [.ref (ad (w_b w) 3)] (rk3 U n f) (pI (nI (skN T L n)) (rk3 U (skN T L n) f)) := by
  subst hT; exact c_X5_skipBlanks_X1 w l U L h n hn f
theorem t3_word (w : Wd) (j : SJ) (l : Launch) {U : St} {T : Nat → Int32} {L n : Nat} (hT : s_A U 2 = T) (h : rd3K U L) (hn : n ≤ L) (f : Int32) (i : Nat) (hi : i < 20) : gx_MJ w j l yX5_takeWord cX5_takeWord 2 (some .boolean) rmX5_takeWord [.ref (ad (w_b w) 3), .ref (j.1 i)] (rk3 U n f) (pI (bI (wdP T L (skN T L n) (jsV i))) (rk3 U (if wdP T L (skN T L n) (jsV i) then ltN T L (skN T L n) else skN T L n) f)) := by
  subst hT; exact c_X5_takeWord_X1 w j l U L h n hn f i hi
theorem tn_sk {T : Nat → Int32} {L n : Nat} : tnN T L (skN T L n) = tnN T L n ∧ tnV T L (skN T L n) = tnV T L n := by
  unfold tnN tnV; rw [skN_idem]; exact ⟨rfl, rfl⟩
theorem tf_sk {T : Nat → Int32} {L n : Nat} {lo hi f : Int32} : tnF T L (skN T L n) lo hi f = tnF T L n lo hi f := by
  unfold tnF; rw [skN_idem]
theorem of_P {P : Nat} {v : Int32} (hP : P ≤ 7) (h : nI 0 ≤ v ∧ v ≤ nI P - nI 1) : ∃ x, x < P ∧ v = nI x := by
  by_cases h0 : P = 0
  · subst h0
    exact absurd (Int32.le_trans h.1 h.2) (by decide)
  · rw [pk_sub (by omega)] at h
    obtain ⟨x, hx, e⟩ := nat_of (by omega) h
    exact ⟨x, by omega, e⟩
theorem crZ.ext {U : St} {c ca cg cl ce P p q : Nat} {D : Nat → Int32} {z : Int32} (hz : crZ U c ca cg cl ce P D) (hk : k5D c ca cg cl ce) (hp : p < 7) (hq : q < 7) : crZ (s_setA U ce (upd (upd (s_A U ce) (7 * p + q) z) (7 * q + p) z)) c ca cg cl ce P (upd (upd D (49 + 7 * p + q) z) (49 + 7 * q + p) z) := by
  obtain ⟨⟨g0, g1, g2, g3, g4⟩, g5, g6, g7, g8, g9, gA⟩ := hz
  obtain ⟨-, n1, n2, n3, n4, n5, n6⟩ := hk
  have e : ∀ j, j < 49 ∨ 98 ≤ j → upd (upd D (49 + 7 * p + q) z) (49 + 7 * q + p) z j = D j := fun j hj => by rw [pk_un (by omega), pk_un (by omega)]
  refine ⟨⟨g0.trans (e 0 (by omega)).symm, g1.trans (e 1 (by omega)).symm, g2.trans (e 2 (by omega)).symm, g3.trans (e 3 (by omega)).symm, g4⟩, (e 4 (by omega)).trans g5, g6, fun i hi => ?_, fun i hi hi7 => ?_, fun a ha b hb => ?_, fun i hi => by rw [e _ (by omega)]; exact gA i hi⟩
  · rw [gA_ne n4, gA_ne n5, gA_ne n6, e _ (by omega), e _ (by omega), e _ (by omega)]; exact g7 i hi
  · rw [e _ (by omega), e _ (by omega), e _ (by omega)]; exact g8 i hi hi7
  · rw [gA_at]
    by_cases q1 : 7 * a + b = 7 * q + p
    · rw [q1, pk_us, show 49 + 7 * a + b = 49 + 7 * q + p by omega, pk_us]
    · rw [pk_un q1, pk_un (show 49 + 7 * a + b ≠ 49 + 7 * q + p by omega)]
      by_cases q2 : 7 * a + b = 7 * p + q
      · rw [q2, pk_us, show 49 + 7 * a + b = 49 + 7 * p + q by omega, pk_us]
      · rw [pk_un q2, pk_un (show 49 + 7 * a + b ≠ 49 + 7 * p + q by omega)]; exact g9 a ha b hb
theorem c_X1_readBeside (w : Wd) (l : Launch) (U : St) (T : Nat → Int32) (c ca cg cl ce L n q P : Nat) (D : Nat → Int32) (h : cwP U T c ca cg cl ce L n) (hz : crZ U c ca cg cl ce P D) (fine : Prop) [Decidable fine] : gx_M w l yX1_readBeside cX1_readBeside 7 none rmX1_readBeside [.ref (ad (w_b w) 3), .int (bI fine), .int (nI q)] (rk3 U n 0) (pxCr U c ca cg cl ce L (if fine then besN T L n P D else .error (ftN 4 q))) := by
  obtain ⟨hd, hT, hi, hn, hK, hk5⟩ := id h
  have hL := hd.2.1.2.2.2
  have hP7 := hz.2.2.1
  have o3 : ∀ S, 121 ≤ s_z S → gx_o S 3 1 := fun S q => o_st q rfl rfl
  have zu : 121 ≤ s_z U := hd.2.1.1
  have hpe : ∀ n f, s_I (rk3 U n f) 4 c = nI P := fun n f => (rk3_g (by decide) (by decide)).trans hz.1.2.2.2.2
  generalize hR : (if fine then besN T L n P D else .error (ftN 4 q)) = R
  generalize hpost : pxCr U c ca cg cl ce L R = post
  refine gx_start rfl 4 rfl (Nat.le_of_ble_eq_true rfl) ?_
  intro X C _ hl
  subst hl
  refine gx_L (L' := [_, _, _, _, _, _, _]) rfl ?_
  by_cases hf : fine
  · rw [if_pos hf] at hR
    rw [bI_t hf]
    refine g_aload_n (pc := 0) C dX1_readBeside_0 rfl ?_
    refine g_iload_n (pc := 1) C dX1_readBeside_1 rfl ?_
    refine g_iload_n (pc := 2) C dX1_readBeside_2 rfl ?_
    refine g_iconst (pc := 3) (v := nI 4) C dX1_readBeside_3 (by decide) ?_
    refine cf_X1_73 (pc := 4) C (by exact (o3 _ zu).1) (zk (by exact (o3 _ zu).2)) (c_X5_allow_X1 _ _ U L hd n 0 (nI 1) (nI q) (nI 4) (Or.inr rfl)) ⟨rfl, rfl⟩ ⟨rfl, rfl⟩ ⟨Nat.zero_le _, Nat.zero_le _⟩ rfl (Nat.le_of_ble_eq_true rfl) dX1_readBeside_4 ?_
    rw [al1]
    refine g_if_eq (pc := 7) C 94 dX1_readBeside_7 rfl (fun c1 => ?_) (fun c1 => ?_)
    · exact absurd c1 (by decide)
    · have t1 := tn_le (T := T) hn
      refine g_aload_n (pc := 10) C dX1_readBeside_10 rfl ?_
      refine g_iconst (pc := 11) (v := nI 0) C dX1_readBeside_11 (by decide) ?_
      refine g_aload_n (pc := 12) C dX1_readBeside_12 rfl ?_
      refine fgr_X1_9 (pc := 13) C (by exact (o3 _ zu).1) (zk (by exact (o3 _ zu).2)) (by exact hi) dX1_readBeside_13 ?_
      refine fg_X1_40 (pc := 16) C (by exact hK.1.1) (zk (by exact hK.1.2)) dX1_readBeside_16 ?_
      refine gx_ti (y := nI P) (hpe _ _) ?_
      refine g_iconst (pc := 19) (v := nI 1) C dX1_readBeside_19 (by decide) ?_
      refine g_isub (pc := 20) C dX1_readBeside_20 ?_
      refine cf_X1_81 (pc := 21) C (by exact (o3 _ zu).1) (zk (by exact (o3 _ zu).2)) (t3_num _ _ hT hd hn 0 (nI 0) (nI P - nI 1)) ⟨rfl, rfl⟩ ⟨rfl, rfl⟩ ⟨Nat.zero_le _, Nat.zero_le _⟩ rfl (Nat.le_of_ble_eq_true rfl) dX1_readBeside_21 ?_
      refine g_istore_n (pc := 24) (L' := [_, _, some (.int _), _, _, _, _]) C dX1_readBeside_24 rfl rfl ?_
      have c1 := tn_c (T := T) hL hn (nI 0) (nI P - nI 1)
      unfold besN at hR
      generalize tnF T L n (nI 0) (nI P - nI 1) 0 = f1 at c1 ⊢
      generalize tnV T L n = v1 at c1 ⊢
      generalize tnN T L n = n1 at c1 t1 ⊢
      have t2 := tn_le (T := T) t1.2
      have hs1 := sk_bd (T := T) t1.2
      have cn := t3_num w (x_l X) hT hd hs1.2 f1 (nI 0) (nI P - nI 1)
      rw [tn_sk.1, tn_sk.2, tf_sk] at cn
      refine g_aload_n (pc := 25) C dX1_readBeside_25 rfl ?_
      refine cf_X1_36 (pc := 26) C (by exact (o3 _ zu).1) (zk (by exact (o3 _ zu).2)) (t3_skip _ _ hT hd t1.2 f1) ⟨rfl, rfl⟩ ⟨rfl, rfl⟩ ⟨Nat.zero_le _, Nat.zero_le _⟩ rfl (Nat.le_of_ble_eq_true rfl) dX1_readBeside_26 ?_
      refine g_istore (pc := 29) (L' := [_, _, _, some (.int _), _, _, _]) C dX1_readBeside_29 rfl rfl ?_
      refine g_aload_n (pc := 31) C dX1_readBeside_31 rfl ?_
      refine g_iconst (pc := 32) (v := nI 0) C dX1_readBeside_32 (by decide) ?_
      refine g_aload_n (pc := 33) C dX1_readBeside_33 rfl ?_
      refine fgr_X1_9 (pc := 34) C (by exact (o3 _ zu).1) (zk (by exact (o3 _ zu).2)) (by exact hi) dX1_readBeside_34 ?_
      refine fg_X1_40 (pc := 37) C (by exact hK.1.1) (zk (by exact hK.1.2)) dX1_readBeside_37 ?_
      refine gx_ti (y := nI P) (hpe _ _) ?_
      refine g_iconst (pc := 40) (v := nI 1) C dX1_readBeside_40 (by decide) ?_
      refine g_isub (pc := 41) C dX1_readBeside_41 ?_
      refine cf_X1_81 (pc := 42) C (by exact (o3 _ zu).1) (zk (by exact (o3 _ zu).2)) cn ⟨rfl, rfl⟩ ⟨rfl, rfl⟩ ⟨Nat.zero_le _, Nat.zero_le _⟩ rfl (Nat.le_of_ble_eq_true rfl) dX1_readBeside_42 ?_
      refine g_istore (pc := 45) (L' := [_, _, _, _, some (.int _), _, _]) C dX1_readBeside_45 rfl rfl ?_
      have c2 := tn_c (T := T) hL t1.2 (nI 0) (nI P - nI 1)
      have g2 : ¬ f1 = 0 → tnF T L n1 (nI 0) (nI P - nI 1) f1 = f1 := tn_f
      have g2' : f1 = 0 → tnF T L n1 (nI 0) (nI P - nI 1) f1 = tnF T L n1 (nI 0) (nI P - nI 1) 0 := fun z => by rw [z]
      clear cn
      generalize tnF T L n1 (nI 0) (nI P - nI 1) 0 = f20 at c2 g2'
      generalize tnF T L n1 (nI 0) (nI P - nI 1) f1 = f2 at g2 g2' ⊢
      generalize tnV T L n1 = v2 at c2 ⊢
      generalize tnN T L n1 = n2 at c2 t2 ⊢
      have t3 := tn_le (T := T) t2.2
      have at62 : ∀ (b : Int32), (b = 0 ∨ b = 1) → (b = 0 ↔ v2 = v1) → gx_G w X (rk3 U n2 f2) 0 0 59 [some (.ref (ad (w_b w) 3)), some (.int (nI 1)), some (.int (nI q)), some (.int v1), some (.int (nI (skN T L n1))), some (.int v2), none] [.int b, .ref (ad (w_b w) 3)] (gx_E w X post) := by
        intro b hb hbv
        refine g_iload (pc := 59) C dX1_readBeside_59 rfl ?_
        refine g_iconst (pc := 61) (v := nI 1) C dX1_readBeside_61 (by decide) ?_
        refine cf_X1_73 (pc := 62) C (by exact (o3 _ zu).1) (zk (by exact (o3 _ zu).2)) (c_X5_allow_X1 _ _ U L hd n2 f2 b (nI (skN T L n1)) (nI 1) hb) ⟨rfl, rfl⟩ ⟨rfl, rfl⟩ ⟨Nat.zero_le _, Nat.zero_le _⟩ rfl (Nat.le_of_ble_eq_true rfl) dX1_readBeside_62 ?_
        refine g_pop (pc := 65) C dX1_readBeside_65 rfl ?_
        refine g_aload_n (pc := 66) C dX1_readBeside_66 rfl ?_
        refine g_iconst (pc := 67) (v := nI 0) C dX1_readBeside_67 (by decide) ?_
        refine g_bipush (pc := 68) (v := nI 9) C dX1_readBeside_68 (by decide) ?_
        refine cf_X1_81 (pc := 70) C (by exact (o3 _ zu).1) (zk (by exact (o3 _ zu).2)) (t3_num _ _ hT hd t2.2 (alw b f2 (nI (skN T L n1)) (nI 1)) (nI 0) (nI 9)) ⟨rfl, rfl⟩ ⟨rfl, rfl⟩ ⟨Nat.zero_le _, Nat.zero_le _⟩ rfl (Nat.le_of_ble_eq_true rfl) dX1_readBeside_70 ?_
        refine g_istore (pc := 73) (L' := [_, _, _, _, _, some (.int _), _]) C dX1_readBeside_73 rfl rfl ?_
        have c3 := tn_c (T := T) hL t2.2 (nI 0) (nI 9)
        have g3 : ¬ alw b f2 (nI (skN T L n1)) (nI 1) = 0 → tnF T L n2 (nI 0) (nI 9) (alw b f2 (nI (skN T L n1)) (nI 1)) = alw b f2 (nI (skN T L n1)) (nI 1) := tn_f
        have bad : ∀ e, R = .error e → ¬ nI e = 0 → tnF T L n2 (nI 0) (nI 9) (alw b f2 (nI (skN T L n1)) (nI 1)) = nI e → gx_G w X (rk3 U (tnN T L n2) (tnF T L n2 (nI 0) (nI 9) (alw b f2 (nI (skN T L n1)) (nI 1)))) 0 0 75 [some (.ref (ad (w_b w) 3)), some (.int (nI 1)), some (.int (nI q)), some (.int v1), some (.int (nI (skN T L n1))), some (.int v2), some (.int (tnV T L n2))] [] (gx_E w X post) := by
          intro e he hne hfe
          rw [hfe]
          refine g_aload_n (pc := 75) C dX1_readBeside_75 rfl ?_
          refine fg_X1_25 (pc := 76) C (by exact (o3 _ zu).1) (zk (by exact (o3 _ zu).2)) dX1_readBeside_76 ?_
          refine gx_ti (y := nI e) rk3_gF ?_
          refine g_if_ne (pc := 79) C 94 dX1_readBeside_79 rfl (fun d1 => ?_) (fun d1 => ?_)
          · rw [← hpost]
            exact g_return (pc := 94) C ⟨rfl, rfl⟩ dX1_readBeside_94 (pxCr_e he cch.refl t3.2 rfl)
          · exact absurd (Decidable.not_not.mp d1) hne
        rcases c1 with ⟨a1, a2, a3⟩ | ⟨e1, a1, a2, a3⟩
        · rw [a1] at hR
          simp only at hR
          have e2 := g2' a2
          rcases c2 with ⟨b1, b2, b3⟩ | ⟨e2', b1, b2, b3⟩
          · rw [b1] at hR
            simp only at hR
            have e3 : f2 = 0 := e2.trans b2
            by_cases hv : v1 = v2
            · rw [if_pos hv] at hR
              have ea : alw b f2 (nI (skN T L n1)) (nI 1) = nI (ftN 1 (skN T L n1)) := by
                unfold alw; rw [if_pos ⟨hbv.mpr hv.symm, e3⟩, ft_I]
              have hne : ¬ nI (ftN 1 (skN T L n1)) = 0 := nI_ne0 (by unfold ftN; omega) (by unfold ftN; omega)
              exact bad _ hR.symm hne ((g3 (by rw [ea]; exact hne)).trans ea)
            · rw [if_neg hv] at hR
              have ea : alw b f2 (nI (skN T L n1)) (nI 1) = 0 := by
                unfold alw; rw [if_neg (fun z => hv (hbv.mp z.1).symm), e3]
              rcases c3 with ⟨d1, d2, d3⟩ | ⟨e3', d1, d2, d3⟩
              · rw [d1] at hR
                simp only at hR
                obtain ⟨x, hx, rfl⟩ := of_P hP7 a3
                obtain ⟨y, hy, rfl⟩ := of_P hP7 b3
                rw [nI_clamp (by omega), nI_clamp (by omega)] at hR
                rw [ea, d2]
                refine g_aload_n (pc := 75) C dX1_readBeside_75 rfl ?_
                refine fg_X1_25 (pc := 76) C (by exact (o3 _ zu).1) (zk (by exact (o3 _ zu).2)) dX1_readBeside_76 ?_
                refine gx_ti (y := 0) rk3_gF ?_
                refine g_if_ne (pc := 79) C 94 dX1_readBeside_79 rfl (fun k1 => ?_) (fun k1 => ?_)
                · exact absurd rfl k1
                · have hcr : crS (rk3 U (tnN T L n2) 0) c ca cg cl ce P D := (hz.cr hK).to rk3_e ⟨(ck_lo hk5.1.1).2.2, (ck_lo hk5.1.2.1).2.2, (ck_lo hk5.1.2.2.1).2.2, (ck_lo hk5.1.2.2.2.1).2.2, (ck_lo hk5.1.2.2.2.2).2.2⟩
                  refine g_aload_n (pc := 82) C dX1_readBeside_82 rfl ?_
                  refine fgr_X1_9 (pc := 83) C (by exact (o3 _ zu).1) (zk (by exact (o3 _ zu).2)) (by exact hi) dX1_readBeside_83 ?_
                  refine g_iload_n (pc := 86) C dX1_readBeside_86 rfl ?_
                  refine g_iload (pc := 87) C dX1_readBeside_87 rfl ?_
                  refine g_iload (pc := 89) C dX1_readBeside_89 rfl ?_
                  refine cf_X1_97 (pc := 91) C (by exact hK.1.1) (zk (by exact hK.1.2)) (c_X0_setExtra _ _ (rk3 U (tnN T L n2) 0) c ca cg cl ce P D hcr x y (tnV T L n2) hx hy) ⟨rfl, rfl⟩ ⟨rfl, rfl⟩ ⟨Nat.zero_le _, Nat.zero_le _⟩ rfl (Nat.le_of_ble_eq_true rfl) dX1_readBeside_91 ?_
                  rw [← hpost]
                  exact g_return (pc := 94) C ⟨rfl, rfl⟩ dX1_readBeside_94 (pxCr_o hR.symm cch_E rfl (hz.ext hk5 (by omega) (by omega)))
              · rw [d1] at hR
                exact bad _ hR.symm d3 (by rw [ea]; exact d2)
          · rw [b1] at hR
            have e3 : f2 = nI e2' := e2.trans b2
            have ea : alw b f2 (nI (skN T L n1)) (nI 1) = nI e2' := by
              unfold alw; rw [if_neg (fun z => b3 (e3.symm.trans z.2)), e3]
            exact bad _ hR.symm b3 ((g3 (by rw [ea]; exact b3)).trans ea)
        · rw [a1] at hR
          have e2 : f2 = f1 := g2 (by rw [a2]; exact a3)
          have ea : alw b f2 (nI (skN T L n1)) (nI 1) = nI e1 := by
            unfold alw; rw [if_neg (fun z => a3 (a2.symm.trans (e2.symm.trans z.2))), e2, a2]
          exact bad _ hR.symm a3 ((g3 (by rw [ea]; exact a3)).trans ea)
      refine g_aload_n (pc := 47) C dX1_readBeside_47 rfl ?_
      refine g_iload (pc := 48) C dX1_readBeside_48 rfl ?_
      refine g_iload_n (pc := 50) C dX1_readBeside_50 rfl ?_
      refine g_icmp_eq (pc := 51) C 58 dX1_readBeside_51 rfl (fun d1 => ?_) (fun d1 => ?_)
      · refine g_iconst (pc := 58) (v := nI 0) C dX1_readBeside_58 (by decide) ?_
        exact at62 _ (Or.inl rfl) ⟨fun _ => d1, fun _ => rfl⟩
      · refine g_iconst (pc := 54) (v := nI 1) C dX1_readBeside_54 (by decide) ?_
        refine g_goto (pc := 55) C 59 dX1_readBeside_55 rfl ?_
        exact at62 _ (Or.inr rfl) ⟨fun z => absurd z (by decide), fun z => absurd z d1⟩
  · rw [if_neg hf] at hR
    rw [bI_f hf]
    refine g_aload_n (pc := 0) C dX1_readBeside_0 rfl ?_
    refine g_iload_n (pc := 1) C dX1_readBeside_1 rfl ?_
    refine g_iload_n (pc := 2) C dX1_readBeside_2 rfl ?_
    refine g_iconst (pc := 3) (v := nI 4) C dX1_readBeside_3 (by decide) ?_
    refine cf_X1_73 (pc := 4) C (by exact (o3 _ zu).1) (zk (by exact (o3 _ zu).2)) (c_X5_allow_X1 _ _ U L hd n 0 (nI 0) (nI q) (nI 4) (Or.inl rfl)) ⟨rfl, rfl⟩ ⟨rfl, rfl⟩ ⟨Nat.zero_le _, Nat.zero_le _⟩ rfl (Nat.le_of_ble_eq_true rfl) dX1_readBeside_4 ?_
    refine g_if_eq (pc := 7) C 94 dX1_readBeside_7 rfl (fun c1 => ?_) (fun c1 => ?_)
    · rw [← hpost]
      exact g_return (pc := 94) C ⟨rfl, rfl⟩ dX1_readBeside_94 (pxCr_e hR.symm cch.refl hn (by rw [al4]))
    · exact absurd rfl c1
