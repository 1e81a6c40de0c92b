/-! ===== a RULE is made: Arrays.copyOf, RuleReader.made ===== -/
theorem ok_nw {S : St} {k kd n : Nat} (h : okK S k) : okK (s_new S kd n) k := by
  obtain ⟨h1, h2⟩ := h
  refine ⟨by rw [nw_z]; omega, ?_⟩
  rw [nw_z]
  rcases h2 with h | h | h
  · exact Or.inl h
  · exact Or.inr (Or.inl h)
  · exact Or.inr (Or.inr ⟨h.1, by omega⟩)
theorem ok_ne {S : St} {k : Nat} (h : okK S k) : k ≠ kz (s_z S) := fun e => by
  obtain ⟨h1, h2⟩ := h
  unfold kz at e
  rw [if_neg (by omega), if_neg (by omega)] at e
  omega
theorem kz_dyn {z : Nat} (h : 121 ≤ z) : kz z = 2000 + (z - 121) := by unfold kz; rw [if_neg (by omega), if_neg (by omega)]
theorem ok_at {S : St} {kd n : Nat} (h : 121 ≤ s_z S) : okK (s_new S kd n) (kz (s_z S)) := by
  refine ⟨by rw [nw_z]; omega, Or.inr (Or.inr ?_)⟩
  rw [nw_z, kz_dyn h]
  omega
theorem o_nw {S : St} {k kd kd' n : Nat} (h : gx_o S k kd) : gx_o (s_new S kd' n) k kd := ⟨(nw_k (ok_ne h.2)).trans h.1, ok_nw h.2⟩
theorem a_nw {S : St} {k kd m kd' n : Nat} (h : gx_a S k kd m) : gx_a (s_new S kd' n) k kd m := ⟨(nw_k (ok_ne h.2.2)).trans h.1, (nw_n (ok_ne h.2.2)).trans h.2.1, ok_nw h.2.2⟩
theorem o_at {S : St} {kd n : Nat} (h : 121 ≤ s_z S) : gx_o (s_new S kd n) (kz (s_z S)) kd := ⟨(fit_kn (fit_dyn h)).1, ok_at h⟩
theorem a_at {S : St} {kd n : Nat} (h : 121 ≤ s_z S) : gx_a (s_new S kd n) (kz (s_z S)) kd n := ⟨(fit_kn (fit_dyn h)).1, (fit_kn (fit_dyn h)).2, ok_at h⟩
theorem wl_J7_304 : Cond.methodLink RJ7 304 yJ9_min_7cf53 ∈ gx_T := gx_mem (List.mem_of_getElem? (i := 827) (by decide +kernel)) (by first | rfl | decide +kernel)
def rmCO : Room := { frames := 2, cells := 1, slots := 512, locals := 140 }
def rmMD : Room := { frames := 6, cells := 2, slots := 520, locals := 200 }
def cpS (S : St) (k n : Nat) : St := s_setA (s_new S 13 n) (kz (s_z S)) (va_cpy (s_A S k) (fun _ => 0) 0 0 n)
theorem c_copyOf (w : Wd) (l : Launch) (S : St) (k n : Nat) (hk : gx_a S k 13 512) (hn : n ≤ 420) : gx_M w l yJ7_copyOf_59c91 cJ7_copyOf_59c91 3 (some (.array .int)) rmCO [.ref (ad (w_b w) k), .int (nI n)] S (pA (.ref (ad (w_b w) (kz (s_z S)))) (cpS S k n)) := by
  have hz : 121 ≤ s_z S := hk.2.2.1
  have hk1 : gx_a (s_new S 13 n) k 13 512 := a_nw hk
  have hk2 : gx_a (s_new S 13 n) (kz (s_z S)) 13 n := a_at hz
  refine gx_start rfl 1 rfl (Nat.le_of_ble_eq_true rfl) ?_
  intro X C _ hl
  subst hl
  refine gx_L (L' := [_, _, _]) rfl ?_
  refine g_iload_n (pc := 0) C dJ7_copyOf_59c91_0 rfl ?_
  refine g_aload_n (pc := 1) C dJ7_copyOf_59c91_1 rfl ?_
  refine g_alen13 (pc := 2) (n := 512) (v := nI (512)) C (by exact hk.1) (by exact hk.2.1) (zk (by exact hk.2.2)) rfl dJ7_copyOf_59c91_2 ?_
  refine g_icmp_ne (pc := 3) C 14 dJ7_copyOf_59c91_3 rfl (fun c => ?_) (fun c => ?_)
  · refine g_iload_n (pc := 14) C dJ7_copyOf_59c91_14 rfl ?_
    refine gm_int (pc := 15) C rfl (by omega) (fit_kn (fit_dyn hz)).1 (fit_kn (fit_dyn hz)).2 ⟨by decide, by show 0 + n ≤ 512; omega⟩ dJ7_copyOf_59c91_15 ?_
    refine g_astore_n (pc := 17) (L' := [_, some (.int _), _]) C dJ7_copyOf_59c91_17 rfl rfl ?_
    refine g_aload_n (pc := 18) C dJ7_copyOf_59c91_18 rfl ?_
    refine g_iconst (pc := 19) (v := nI 0) C dJ7_copyOf_59c91_19 (by decide) ?_
    refine g_aload_n (pc := 20) C dJ7_copyOf_59c91_20 rfl ?_
    refine g_iconst (pc := 21) (v := nI 0) C dJ7_copyOf_59c91_21 (by decide) ?_
    refine g_aload_n (pc := 22) C dJ7_copyOf_59c91_22 rfl ?_
    refine g_alen13 (pc := 23) (n := 512) (v := nI (512)) C (by exact hk1.1) (by exact hk1.2.1) (zk (by exact hk1.2.2)) rfl dJ7_copyOf_59c91_23 ?_
    refine g_iload_n (pc := 24) C dJ7_copyOf_59c91_24 rfl ?_
    refine g_mmin (pc := 25) C wl_J7_304 ⟨rfl, rfl⟩ ⟨by decide, by show 0 + n ≤ 512; omega⟩ rfl (Nat.le_of_ble_eq_true rfl) dJ7_copyOf_59c91_25 ?_
    refine gx_ti (y := nI n) ?_ ?_
    · show (if nI n < nI 512 then nI n else nI 512) = nI n
      rw [if_pos (nI_lt (by omega) (by omega))]
    · refine g_copyi (pc := 28) (sp := 0) (dp := 0) (n := n) C wl_J7_150 (by exact hk1) (by exact hk2) ⟨by omega, by omega, by omega⟩ (by omega) (by omega) ⟨rfl, rfl⟩ rfl (Nat.le_of_ble_eq_true rfl) dJ7_copyOf_59c91_28 ?_
      refine gx_S (S' := cpS S k n) ?_ ?_
      · rw [nw_A (ok_ne hk.2.2), nw_A0]; rfl
      · refine g_aload_n (pc := 31) C dJ7_copyOf_59c91_31 rfl ?_
        exact g_areturn (pc := 32) C (Or.inr ⟨_, rfl⟩) (Or.inr ⟨_, rfl⟩) ⟨rfl, Nat.ble_eq_true_of_le (by show 0 + n ≤ 512; omega)⟩ dJ7_copyOf_59c91_32 ⟨rfl, rfl⟩
  · exact absurd (fun e => absurd ((nI_eq (by omega) (by omega)).mp e) (by omega)) c
def rlN (S : St) (n : Nat) : St := mk_X7_init (cpS (s_new S 6 0) 5 n) (kz (s_z S)) (kz (s_z S + 1))
theorem c_X8_made (w : Wd) (l : Launch) (S : St) (n : Nat) (hz : 121 ≤ s_z S) (hc : s_R S 703 4 = some 5) (hn : n ≤ 420) (hs : s_I S 704 4 = nI n) : gx_M w l yX8_made cX8_made 1 (some (.object "AimFerry$Rule")) rmMD [.ref (ad (w_b w) 4)] S (pA (.ref (ad (w_b w) (kz (s_z S)))) (rlN S n)) := by
  have hz1 : 121 ≤ s_z (s_new S 6 0) := by rw [nw_z]; omega
  have o4 : gx_o (s_new S 6 0) 4 7 := o_st hz1 rfl rfl
  have ne4 : 4 ≠ kz (s_z S) := by rw [kz_dyn hz]; omega
  have hc1 : s_R (s_new S 6 0) 703 4 = some 5 := (nw_R ne4).trans hc
  have hs1 : s_I (s_new S 6 0) 704 4 = nI n := (nw_I ne4).trans hs
  have a5 : gx_a (s_new S 6 0) 5 13 512 := a_st hz1 rfl rfl rfl
  have ok : gx_o (cpS (s_new S 6 0) 5 n) (kz (s_z S)) 6 := o_nw (n := n) (o_at hz)
  refine gx_start rfl 0 rfl (Nat.le_of_ble_eq_true rfl) ?_
  intro X C _ hl
  subst hl
  refine gx_L (L' := [_]) rfl ?_
  refine gn_X8_36 (pc := 0) C (fit_kn (fit_dyn hz)).1 (fit_kn (fit_dyn hz)).2 ⟨by decide, by decide⟩ dX8_made_0 ?_
  refine g_dup (pc := 3) C dX8_made_3 rfl ?_
  refine g_aload_n (pc := 4) C dX8_made_4 rfl ?_
  refine fgr_X8_11 (pc := 5) C (by exact o4.1) (zk (by exact o4.2)) (by exact hc1) dX8_made_5 ?_
  refine g_aload_n (pc := 8) C dX8_made_8 rfl ?_
  refine fg_X8_22 (pc := 9) C (by exact o4.1) (zk (by exact o4.2)) dX8_made_9 ?_
  refine gx_ti (y := nI n) hs1 ?_
  refine g_sipush (pc := 12) (v := nI 512) C dX8_made_12 (by decide) ?_
  refine g_mmin (pc := 15) C wl_X8_38 ⟨rfl, rfl⟩ ⟨by decide, by decide⟩ rfl (Nat.le_of_ble_eq_true rfl) dX8_made_15 ?_
  refine gx_ti (y := nI n) ?_ ?_
  · show (if nI 512 < nI n then nI 512 else nI n) = nI n
    rw [if_neg (nI_nlt (by omega) (by omega))]
  · refine cg_X8_44 (pc := 18) C (c_copyOf _ _ (s_new S 6 0) 5 n a5 hn) ⟨rfl, rfl⟩ ⟨by decide, by decide⟩ rfl (Nat.le_of_ble_eq_true rfl) dX8_made_18 ?_
    rintro _ _ ⟨rfl, rfl⟩
    refine ci_X8_50 (pc := 21) C (c_X7_init _ _ (cpS (s_new S 6 0) 5 n) (kz (s_z S)) (kz (s_z S + 1)) ⟨ok.1, zk ok.2⟩ trivial) ⟨rfl, rfl⟩ ⟨by decide, by decide⟩ rfl (Nat.le_of_ble_eq_true rfl) dX8_made_21 ?_
    rintro _ _ ⟨rfl, rfl⟩
    exact g_areturn (pc := 24) C (Or.inl ⟨_, rfl⟩) (Or.inr ⟨_, rfl⟩) ⟨rfl, rfl⟩ dX8_made_24 ⟨rfl, rfl⟩
