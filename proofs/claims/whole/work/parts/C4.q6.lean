/-! ===== AimFerry.rule ===== -/
def rmRU : Room := { frames := 47, cells := 2, slots := 520, locals := 1500 }
def ruS (S : St) (n t : Nat) : St := s_setI (s_setQ (rlN S n) 6 (va_up (s_Q (rlN S n) 6) t (some (kz (s_z S))))) 1010 0 (nI (t + 1))
def pxRul (S : St) (t : Nat) (R : Except Nat (List CL)) : Option Value → St → Prop := fun v S' => ∃ S1, rch S S1 ∧ match R with
  | .error f => v = some (.int (-2 - nI f)) ∧ S' = s_setI S1 901 1 (nI 0)
  | .ok cs => v = some (.int (nI t)) ∧ (cdC cs).length ≤ 420 ∧ (∀ i, i < (cdC cs).length → s_A S1 5 i = nI ((cdC cs).getD i 0)) ∧ S' = ruS (s_setI S1 901 1 (nI 0)) (cdC cs).length t
theorem kz_s {S : St} {kd n : Nat} : kz (s_z (s_new S kd n)) = kz (s_z S + 1) := by rw [nw_z]
theorem eqN_rl {S : St} {n : Nat} : eqN S (rlN S n) := by
  have e1 : eqN S (s_new (s_new S 6 0) 13 n) := eqN.new.trans eqN.new
  have e2 : eqO (fun k => k = kz (s_z S) ∨ k = kz (s_z S + 1)) (s_new (s_new S 6 0) 13 n) (rlN S n) := by
    unfold rlN mk_X7_init cpS
    refine eqO.trans (eqO.sA (Or.inr ?_)) (eqO.sR (Or.inl rfl))
    exact kz_s
  exact e1.set e2 (fun k hk g => g.elim (fun h => ok_ne hk h) (fun h => ok_ne (ok_nw (kd := 6) (n := 0) hk) (h.trans kz_s.symm)))
theorem rl_o {S : St} {n : Nat} (hz : 121 ≤ s_z S) : gx_o (rlN S n) (kz (s_z S)) 6 := (o_nw (n := n) (o_at hz) : gx_o (s_new (s_new S 6 0) 13 n) (kz (s_z S)) 6)
theorem rl_a {S : St} {n : Nat} (hz : 121 ≤ s_z S) : gx_a (rlN S n) (kz (s_z S + 1)) 13 n := by
  have h : gx_a (s_new (s_new S 6 0) 13 n) (kz (s_z (s_new S 6 0))) 13 n := a_at (by rw [nw_z]; omega)
  rw [kz_s] at h
  exact h
theorem rl_A {S : St} {n : Nat} (hz : 121 ≤ s_z S) : s_A (rlN S n) (kz (s_z S + 1)) = va_cpy (s_A S 5) (fun _ => 0) 0 0 n := by
  have e : s_A (s_new S 6 0) 5 = s_A S 5 := nw_A (by rw [kz_dyn hz]; omega)
  show s_A (s_setA (s_new (s_new S 6 0) 13 n) (kz (s_z (s_new S 6 0))) (va_cpy (s_A (s_new S 6 0) 5) (fun _ => 0) 0 0 n)) (kz (s_z S + 1)) = _
  rw [kz_s, gA_at, e]
theorem c_X11_rule6 (w : Wd) (j : SJ) (l : Launch) (S : St) (h : afK S) (h6 : s_I S 1010 0 = nI 6) : gx_MJ w j l yX11_rule cX11_rule 2 (some .int) rmRU [.ref (ad (w_b w) 0)] S (pI (-1) S) := by
  have o0 : gx_o S 0 10 := o_st h.1 rfl rfl
  refine gx_startJ rfl 1 rfl (Nat.le_of_ble_eq_true rfl) ?_
  intro X C J hl
  subst hl
  refine gx_L (L' := [_, _]) rfl ?_
  refine g_aload_n (pc := 0) C dX11_rule_0 rfl ?_
  refine fg_X11_103 (pc := 1) C o0.1 (zk o0.2) dX11_rule_1 ?_
  refine gx_ti (y := nI 6) h6 ?_
  refine g_bipush (pc := 4) (v := nI 6) C dX11_rule_4 (by decide) ?_
  refine g_icmp_lt (pc := 6) C 11 dX11_rule_6 rfl (fun c => absurd c (by decide)) (fun _ => ?_)
  refine g_iconst (pc := 9) (v := -1) C dX11_rule_9 (by decide) ?_
  exact g_ireturn (pc := 10) C ⟨rfl, rfl⟩ dX11_rule_10 ⟨rfl, rfl⟩
theorem c_X11_rule (w : Wd) (j : SJ) (l : Launch) (S : St) (L t : Nat) (h : afK S) (hd : rd4K S L) (h2 : s_R S 1002 0 = some 4) (hc : s_R S 703 4 = some 5) (ht : s_I S 1010 0 = nI t) (ht6 : t < 6) (h6 : gx_a S 6 17 6) : gx_MJ w j l yX11_rule cX11_rule 2 (some .int) rmRU [.ref (ad (w_b w) 0)] S (pxRul S t (rdR (s_A S 2) L 401 0 0 [])) := by
  have o0 : gx_o S 0 10 := o_st h.1 rfl rfl
  have o4 : gx_o S 4 7 := o_st h.1 rfl rfl
  have hL := hd.2.1.2.2.2
  have hread := fun l => c_X8_read w j l S L hd hc
  generalize rdR (s_A S 2) L 401 0 0 [] = R at hread ⊢
  generalize hpost : pxRul S t R = post
  refine gx_startJ rfl 1 rfl (Nat.le_of_ble_eq_true rfl) ?_
  intro X C J hl
  subst hl
  refine gx_L (L' := [_, _]) rfl ?_
  refine g_aload_n (pc := 0) C dX11_rule_0 rfl ?_
  refine fg_X11_103 (pc := 1) C o0.1 (zk o0.2) dX11_rule_1 ?_
  refine gx_ti (y := nI t) ht ?_
  refine g_bipush (pc := 4) (v := nI 6) C dX11_rule_4 (by decide) ?_
  refine g_icmp_lt (pc := 6) C 11 dX11_rule_6 rfl (fun _ => ?_) (fun c => absurd (nI_lt ht6 (by decide)) c)
  refine g_aload_n (pc := 11) C dX11_rule_11 rfl ?_
  refine fgr_X11_28 (pc := 12) C o0.1 (zk o0.2) h2 dX11_rule_12 ?_
  refine cgj_X11_106 (pc := 15) C J o4.1 (zk o4.2) (hread _) ⟨rfl, rfl⟩ ⟨by decide, by decide⟩ rfl (Nat.le_of_ble_eq_true rfl) dX11_rule_15 ?_
  rintro v S1 ⟨hch, p⟩
  have e := hch.1
  have hz1 : 121 ≤ s_z S1 := by rw [e.1]; exact h.1
  have p0 : gx_o S1 0 10 := o_st hz1 rfl rfl
  have p1 : gx_o S1 1 9 := o_st hz1 rfl rfl
  have r1 : s_R S1 1000 0 = some 1 := (e.R (by omega)).trans h.2.1
  have tail : ∀ (y : Int32), (¬ y = 0 → post (some (.int (-2 - y))) (s_setI S1 901 1 (nI 0))) → (y = 0 → gx_G w X (s_setI S1 901 1 (nI 0)) 0 0 36 [some (.ref (ad (w_b w) 0)), some (.int y)] [] (gx_E w X post)) → gx_G w X S1 0 0 18 [some (.ref (ad (w_b w) 0)), none] [.int y] (gx_E w X post) := by
    intro y hy1 hy2
    refine g_istore_n (pc := 18) (L' := [some (.ref (ad (w_b w) 0)), some (.int y)]) C dX11_rule_18 rfl rfl ?_
    refine g_aload_n (pc := 19) C dX11_rule_19 rfl ?_
    refine fgr_X11_10 (pc := 20) C p0.1 (zk p0.2) r1 dX11_rule_20 ?_
    refine g_iconst (pc := 23) (v := nI 0) C dX11_rule_23 (by decide) ?_
    refine fp_X11_82 (pc := 24) C p1.1 (zk p1.2) dX11_rule_24 ?_
    refine g_iload_n (pc := 27) C dX11_rule_27 rfl ?_
    refine g_if_eq (pc := 28) C 36 dX11_rule_28 rfl (fun c => hy2 c) (fun c => ?_)
    refine g_bipush (pc := 31) (v := -2) C dX11_rule_31 (by decide) ?_
    refine g_iload_n (pc := 33) C dX11_rule_33 rfl ?_
    refine g_isub (pc := 34) C dX11_rule_34 ?_
    exact g_ireturn (pc := 35) C ⟨rfl, rfl⟩ dX11_rule_35 (hy1 c)
  cases R with
  | error f =>
    obtain ⟨rfl, f0, fL⟩ := p
    exact tail _ (fun _ => by rw [← hpost]; exact ⟨S1, hch, rfl, rfl⟩) (fun c => absurd c (nI_ne0 f0 (by omega)))
  | ok cs =>
    obtain ⟨rfl, s7, h420, hA⟩ := p
    refine tail _ (fun c => absurd rfl c) (fun _ => ?_)
    have q0 : gx_o (s_setI S1 901 1 (nI 0)) 0 10 := o_st hz1 rfl rfl
    have q4 : gx_o (s_setI S1 901 1 (nI 0)) 4 7 := o_st hz1 rfl rfl
    have q6 : gx_a (s_setI S1 901 1 (nI 0)) 6 17 6 := (e.a h6 : gx_a S1 6 17 6)
    have rr : s_R (s_setI S1 901 1 (nI 0)) 1003 0 = some 6 := (e.R (by omega)).trans h.2.2.1
    have r2 : s_R (s_setI S1 901 1 (nI 0)) 1002 0 = some 4 := (e.R (by omega)).trans h2
    have ti : s_I (s_setI S1 901 1 (nI 0)) 1010 0 = nI t := (gI_ne (Or.inl (by decide))).trans ((e.I (by omega)).trans ht)
    have c5 : s_R (s_setI S1 901 1 (nI 0)) 703 4 = some 5 := (hch.2 703).trans hc
    have i7 : s_I (s_setI S1 901 1 (nI 0)) 704 4 = nI (cdC cs).length := (gI_ne (Or.inl (by decide))).trans s7
    have hz2 : 121 ≤ s_z (s_setI S1 901 1 (nI 0)) := hz1
    have hp0 : pxRul S t (.ok cs) (some (.int (nI t))) (ruS (s_setI S1 901 1 (nI 0)) (cdC cs).length t) := ⟨S1, hch, rfl, h420, hA, rfl⟩
    rw [hpost] at hp0
    generalize hS2 : s_setI S1 901 1 (nI 0) = S2 at q0 q4 q6 rr r2 ti c5 i7 hz2 hp0 ⊢
    generalize hn : (cdC cs).length = n at *
    refine g_aload_n (pc := 36) C dX11_rule_36 rfl ?_
    refine fgr_X11_34 (pc := 37) C q0.1 (zk q0.2) rr dX11_rule_37 ?_
    refine g_aload_n (pc := 40) C dX11_rule_40 rfl ?_
    refine fg_X11_103 (pc := 41) C q0.1 (zk q0.2) dX11_rule_41 ?_
    refine gx_ti (y := nI t) ti ?_
    refine g_aload_n (pc := 44) C dX11_rule_44 rfl ?_
    refine fgr_X11_28 (pc := 45) C q0.1 (zk q0.2) r2 dX11_rule_45 ?_
    refine cg_X11_109 (pc := 48) C q4.1 (zk q4.2) (c_X8_made w _ S2 n hz2 c5 h420 i7) ⟨rfl, rfl⟩ ⟨by decide, by decide⟩ rfl (Nat.le_of_ble_eq_true rfl) dX11_rule_48 ?_
    rintro _ _ ⟨rfl, rfl⟩
    have en := eqN_rl (S := S2) (n := n)
    have u6 : gx_a (rlN S2 n) 6 17 6 := en.a q6
    have uo := rl_o (n := n) hz2
    have u0 : gx_o (rlN S2 n) 0 10 := en.o q0
    have ui : s_I (rlN S2 n) 1010 0 = nI t := (en.I q0.2).trans ti
    refine gs_rule (pc := 51) (k := 6) (n := 6) (j := t) C u6.1 u6.2.1 (zk u6.2.2) uo.1 (zk uo.2) rfl ht6 (by decide) dX11_rule_51 ?_
    have v0 : gx_o (s_setQ (rlN S2 n) 6 (va_up (s_Q (rlN S2 n) 6) t (some (kz (s_z S2))))) 0 10 := u0
    have vi : s_I (s_setQ (rlN S2 n) 6 (va_up (s_Q (rlN S2 n) 6) t (some (kz (s_z S2))))) 1010 0 = nI t := ui
    refine g_aload_n (pc := 52) C dX11_rule_52 rfl ?_
    refine g_dup (pc := 53) C dX11_rule_53 rfl ?_
    refine fg_X11_103 (pc := 54) C v0.1 (zk v0.2) dX11_rule_54 ?_
    refine gx_ti (y := nI t) vi ?_
    refine g_iconst (pc := 57) (v := nI 1) C dX11_rule_57 (by decide) ?_
    refine g_iadd (pc := 58) C dX11_rule_58 ?_
    refine gx_ti (y := nI (t + 1)) (nI_add _ _) ?_
    refine fp_X11_103 (pc := 59) C v0.1 (zk v0.2) dX11_rule_59 ?_
    refine gx_S (S' := ruS S2 n t) rfl ?_
    have w0 : gx_o (ruS S2 n t) 0 10 := v0
    refine g_aload_n (pc := 62) C dX11_rule_62 rfl ?_
    refine fg_X11_103 (pc := 63) C w0.1 (zk w0.2) dX11_rule_63 ?_
    refine gx_ti (y := nI (t + 1)) gI_at ?_
    refine g_iconst (pc := 66) (v := 1) C dX11_rule_66 (by decide) ?_
    refine g_isub (pc := 67) C dX11_rule_67 ?_
    refine gx_ti (y := nI t) (nI_pred t) ?_
    exact g_ireturn (pc := 68) C ⟨rfl, rfl⟩ dX11_rule_68 hp0
