/-! ===== THE CLASS: the Pilot asks a Rule ===== -/
def plK (S : St) (pl kw ks : Nat) : Prop := gx_o S pl 3 ∧ s_R S 300 pl = some kw ∧ gx_a S kw 14 12 ∧ s_R S 301 pl = some ks ∧ gx_a S ks 14 40 ∧ kw ≠ ks
/-- the Pilot on a TRIP: those aboard so far -/
def plT (S : St) (pl kw ks c r : Nat) (ro : Option Nat) (fog : Prop) [Decidable fog] (u : Nat → Int32) (P s : Nat) : Prop := plK S pl kw ks ∧ s_R S 302 pl = some c ∧ s_R S 303 pl = some r ∧ s_R S 304 pl = ro ∧ s_I S 305 pl = bI fog ∧ s_I S 306 pl = nI s ∧ s_I S 307 pl = fulF u P s ∧ s_I S 308 pl = lightF u s P
/-- by which rule: none, or one that reckons -/
def frC (S : St) (ro : Option Nat) (fr : Option ((Nat → Int64) → Int64)) : Prop := match ro with
  | none => fr = none
  | some rk => ∃ kc cs, rcS S rk kc cs ∧ fr = some (fun wd => evC wd cs)
theorem c_X3_fullWith (w : Wd) (l : Launch) (S : St) (pl kw ks c ca cg cl ce r ra P s : Nat) (ro : Option Nat) (fog : Prop) [Decidable fog] (u : Nat → Int32) (hp : plT S pl kw ks c r ro fog u P s) (hc : crS S c ca cg cl ce P u) (h : rvS S r ra P u) (hs : s < 128) (p : Nat) (hpP : p < P) : gx_M w l yX3_fullWith cX3_fullWith 2 (some .int) rmX3_fullWith [.ref (ad (w_b w) pl), .int (nI p)] S (pI (fulF u P s + u (14 + p) + exF u p s P) S) := by
  obtain ⟨⟨op, rw', ow, rs', os', hne⟩, rc, rr, ru, hf, ha, hfu, hli⟩ := hp
  have occ := hc.1.1
  obtain ⟨⟨orv, rra, ora⟩, ⟨-, -, -, -, -, hA⟩, -⟩ := h
  have hP7 := hc.2.2
  refine gx_start rfl 0 rfl (Nat.le_of_ble_eq_true rfl) ?_
  intro X C _ hl
  subst hl
  refine gx_L (L' := [_, _]) rfl ?_
  refine g_aload_n (pc := 0) C dX3_fullWith_0 rfl ?_
  refine fg_X3_51 (pc := 1) C (by exact op.1) (zk (by exact op.2)) dX3_fullWith_1 ?_
  refine gx_ti (y := fulF u P s) hfu ?_
  refine g_aload_n (pc := 4) C dX3_fullWith_4 rfl ?_
  refine fgr_X3_24 (pc := 5) C (by exact op.1) (zk (by exact op.2)) (by exact rr) dX3_fullWith_5 ?_
  refine fgr_X3_76 (pc := 8) C (by exact orv.1) (zk (by exact orv.2)) (by exact rra) dX3_fullWith_8 ?_
  refine g_iload_n (pc := 11) C dX3_fullWith_11 rfl ?_
  refine n_iald (pc := 12) (n := 7) C (by exact ora.1) (by exact ora.2.1) (zk (by exact ora.2.2)) isn_v rfl (by omega) dX3_fullWith_12 ?_
  refine gx_ti (y := u (14 + p)) (hA p hpP) ?_
  refine g_iadd (pc := 13) C dX3_fullWith_13 ?_
  refine g_aload_n (pc := 14) C dX3_fullWith_14 rfl ?_
  refine fgr_X3_20 (pc := 15) C (by exact op.1) (zk (by exact op.2)) (by exact rc) dX3_fullWith_15 ?_
  refine g_iload_n (pc := 18) C dX3_fullWith_18 rfl ?_
  refine g_aload_n (pc := 19) C dX3_fullWith_19 rfl ?_
  refine fg_X3_48 (pc := 20) C (by exact op.1) (zk (by exact op.2)) dX3_fullWith_20 ?_
  refine gx_ti (y := nI s) ha ?_
  refine cf_X3_79 (pc := 23) C (by exact occ.1) (zk (by exact occ.2)) (c_X0_extraAmong _ _ _ c ca cg cl ce P u hc p s hpP hs) ⟨rfl, rfl⟩ ⟨rfl, rfl⟩ ⟨Nat.zero_le _, Nat.zero_le _⟩ rfl (Nat.le_of_ble_eq_true rfl) dX3_fullWith_23 ?_
  refine g_iadd (pc := 26) C dX3_fullWith_26 ?_
  exact g_ireturn (pc := 27) C ⟨rfl, rfl⟩ dX3_fullWith_27 ⟨rfl, rfl⟩
theorem gBA {S : St} {k : Nat} {g : Nat → Int64} : s_A (s_setB S k g) = s_A S := rfl
theorem c_X3_tellAll (w : Wd) (l : Launch) (S : St) (pl kw ks c ca cg cl ce r ra P s : Nat) (ro : Option Nat) (fog : Prop) [Decidable fog] (u : Nat → Int32) (hp : plT S pl kw ks c r ro fog u P s) (hc : crS S c ca cg cl ce P u) (h : rvS S r ra P u) (hs : s < 128) (wt wa : Int32) : gx_M w l yX3_tellAll cX3_tellAll 3 none rmX3_tellAll [.ref (ad (w_b w) pl), .int wt, .int wa] S (fun v S' => v = none ∧ ∃ W, S' = s_setB S kw W ∧ W 4 = (u 11).toInt64 ∧ W 5 = (u 10).toInt64 ∧ W 6 = wt.toInt64 ∧ W 7 = (u 1 - wt).toInt64 ∧ W 8 = (nI (popN s)).toInt64 ∧ W 9 = wa.toInt64 ∧ W 11 = if fog then 1 else 0) := by
  obtain ⟨⟨op, rw', ow, rs', os', hne⟩, rc, rr, ru, hf, ha, hfu, hli⟩ := hp
  have occ := hc.1.1
  have hld := hc.2.1.2.1
  obtain ⟨⟨orv, rra, ora⟩, ⟨h10, h11, -⟩, -⟩ := h
  refine gx_start rfl 0 rfl (Nat.le_of_ble_eq_true rfl) ?_
  intro X C _ hl
  subst hl
  refine gx_L (L' := [_, _, _]) rfl ?_
  refine g_aload_n (pc := 0) C dX3_tellAll_0 rfl ?_
  refine fgr_X3_11 (pc := 1) C (by exact op.1) (zk (by exact op.2)) (by exact rw') dX3_tellAll_1 ?_
  refine g_iconst (pc := 4) (v := nI 4) C dX3_tellAll_4 (by decide) ?_
  refine g_aload_n (pc := 5) C dX3_tellAll_5 rfl ?_
  refine fgr_X3_24 (pc := 6) C (by exact op.1) (zk (by exact op.2)) (by exact rr) dX3_tellAll_6 ?_
  refine fg_X3_91 (pc := 9) C (by exact orv.1) (zk (by exact orv.2)) dX3_tellAll_9 ?_
  refine gx_ti (y := u 11) h11 ?_
  refine g_i2l (pc := 12) C dX3_tellAll_12 ?_
  refine n_last (pc := 13) (n := 12) C (by exact ow.1) (by exact ow.2.1) (zk (by exact ow.2.2)) isn_v rfl (by omega) dX3_tellAll_13 ?_
  generalize hW1 : vp_updL (s_B S kw) 4 (u 11).toInt64 = W1
  refine g_aload_n (pc := 14) C dX3_tellAll_14 rfl ?_
  refine fgr_X3_11 (pc := 15) C (by exact op.1) (zk (by exact op.2)) (by exact rw') dX3_tellAll_15 ?_
  refine g_iconst (pc := 18) (v := nI 5) C dX3_tellAll_18 (by decide) ?_
  refine g_aload_n (pc := 19) C dX3_tellAll_19 rfl ?_
  refine fgr_X3_24 (pc := 20) C (by exact op.1) (zk (by exact op.2)) (by exact rr) dX3_tellAll_20 ?_
  refine fg_X3_32 (pc := 23) C (by exact orv.1) (zk (by exact orv.2)) dX3_tellAll_23 ?_
  refine gx_ti (y := u 10) h10 ?_
  refine g_i2l (pc := 26) C dX3_tellAll_26 ?_
  refine n_last (pc := 27) (n := 12) C (by exact ow.1) (by exact ow.2.1) (zk (by exact ow.2.2)) isn_v rfl (by omega) dX3_tellAll_27 ?_
  refine gx_S (S' := s_setB S kw (vp_updL W1 5 (u 10).toInt64)) (by rw [gB_at, s_BB]) ?_
  generalize hW2 : vp_updL W1 5 (u 10).toInt64 = W2
  refine g_aload_n (pc := 28) C dX3_tellAll_28 rfl ?_
  refine fgr_X3_11 (pc := 29) C (by exact op.1) (zk (by exact op.2)) (by exact rw') dX3_tellAll_29 ?_
  refine g_bipush (pc := 32) (v := nI 6) C dX3_tellAll_32 (by decide) ?_
  refine g_iload_n (pc := 34) C dX3_tellAll_34 rfl ?_
  refine g_i2l (pc := 35) C dX3_tellAll_35 ?_
  refine n_last (pc := 36) (n := 12) C (by exact ow.1) (by exact ow.2.1) (zk (by exact ow.2.2)) isn_v rfl (by omega) dX3_tellAll_36 ?_
  refine gx_S (S' := s_setB S kw (vp_updL W2 6 wt.toInt64)) (by rw [gB_at, s_BB]) ?_
  generalize hW3 : vp_updL W2 6 wt.toInt64 = W3
  refine g_aload_n (pc := 37) C dX3_tellAll_37 rfl ?_
  refine fgr_X3_11 (pc := 38) C (by exact op.1) (zk (by exact op.2)) (by exact rw') dX3_tellAll_38 ?_
  refine g_bipush (pc := 41) (v := nI 7) C dX3_tellAll_41 (by decide) ?_
  refine g_aload_n (pc := 43) C dX3_tellAll_43 rfl ?_
  refine fgr_X3_20 (pc := 44) C (by exact op.1) (zk (by exact op.2)) (by exact rc) dX3_tellAll_44 ?_
  refine fg_X3_109 (pc := 47) C (by exact occ.1) (zk (by exact occ.2)) dX3_tellAll_47 ?_
  refine gx_ti (y := u 1) hld ?_
  refine g_iload_n (pc := 50) C dX3_tellAll_50 rfl ?_
  refine g_isub (pc := 51) C dX3_tellAll_51 ?_
  refine g_i2l (pc := 52) C dX3_tellAll_52 ?_
  refine n_last (pc := 53) (n := 12) C (by exact ow.1) (by exact ow.2.1) (zk (by exact ow.2.2)) isn_v rfl (by omega) dX3_tellAll_53 ?_
  refine gx_S (S' := s_setB S kw (vp_updL W3 7 (u 1 - wt).toInt64)) (by rw [gB_at, s_BB]) ?_
  generalize hW4 : vp_updL W3 7 (u 1 - wt).toInt64 = W4
  refine g_aload_n (pc := 54) C dX3_tellAll_54 rfl ?_
  refine fgr_X3_11 (pc := 55) C (by exact op.1) (zk (by exact op.2)) (by exact rw') dX3_tellAll_55 ?_
  refine g_bipush (pc := 58) (v := nI 8) C dX3_tellAll_58 (by decide) ?_
  refine g_aload_n (pc := 60) C dX3_tellAll_60 rfl ?_
  refine fg_X3_48 (pc := 61) C (by exact op.1) (zk (by exact op.2)) dX3_tellAll_61 ?_
  refine gx_ti (y := nI s) ha ?_
  refine cf_X3_83 (pc := 64) C (c_bitCount _ _ _ s hs) ⟨rfl, rfl⟩ ⟨rfl, rfl⟩ ⟨Nat.zero_le _, Nat.zero_le _⟩ rfl (Nat.le_of_ble_eq_true rfl) dX3_tellAll_64 ?_
  refine g_i2l (pc := 67) C dX3_tellAll_67 ?_
  refine n_last (pc := 68) (n := 12) C (by exact ow.1) (by exact ow.2.1) (zk (by exact ow.2.2)) isn_v rfl (by omega) dX3_tellAll_68 ?_
  refine gx_S (S' := s_setB S kw (vp_updL W4 8 (nI (popN s)).toInt64)) (by rw [gB_at, s_BB]) ?_
  generalize hW5 : vp_updL W4 8 (nI (popN s)).toInt64 = W5
  refine g_aload_n (pc := 69) C dX3_tellAll_69 rfl ?_
  refine fgr_X3_11 (pc := 70) C (by exact op.1) (zk (by exact op.2)) (by exact rw') dX3_tellAll_70 ?_
  refine g_bipush (pc := 73) (v := nI 9) C dX3_tellAll_73 (by decide) ?_
  refine g_iload_n (pc := 75) C dX3_tellAll_75 rfl ?_
  refine g_i2l (pc := 76) C dX3_tellAll_76 ?_
  refine n_last (pc := 77) (n := 12) C (by exact ow.1) (by exact ow.2.1) (zk (by exact ow.2.2)) isn_v rfl (by omega) dX3_tellAll_77 ?_
  refine gx_S (S' := s_setB S kw (vp_updL W5 9 wa.toInt64)) (by rw [gB_at, s_BB]) ?_
  generalize hW6 : vp_updL W5 9 wa.toInt64 = W6
  have fin : ∀ x : Int64, x = (if fog then 1 else 0) → gx_G w X (s_setB S kw W6) 0 0 96 [some (.ref (ad (w_b w) pl)), some (.int wt), some (.int wa)] [.long x, .int (nI 11), .ref (ad (w_b w) kw)] (gx_E w X (fun v S' => v = none ∧ ∃ W, S' = s_setB S kw W ∧ W 4 = (u 11).toInt64 ∧ W 5 = (u 10).toInt64 ∧ W 6 = wt.toInt64 ∧ W 7 = (u 1 - wt).toInt64 ∧ W 8 = (nI (popN s)).toInt64 ∧ W 9 = wa.toInt64 ∧ W 11 = if fog then 1 else 0)) := by
    intro x hx
    refine n_last (pc := 96) (n := 12) C (by exact ow.1) (by exact ow.2.1) (zk (by exact ow.2.2)) isn_v rfl (by omega) dX3_tellAll_96 ?_
    refine gx_S (S' := s_setB S kw (vp_updL W6 11 x)) (by rw [gB_at, s_BB]) ?_
    subst hW1 hW2 hW3 hW4 hW5 hW6
    exact g_return (pc := 97) C ⟨rfl, rfl⟩ dX3_tellAll_97 ⟨rfl, _, rfl, by simp [vp_updL], by simp [vp_updL], by simp [vp_updL], by simp [vp_updL], by simp [vp_updL], by simp [vp_updL], by rw [← hx]; simp [vp_updL]⟩
  refine g_aload_n (pc := 78) C dX3_tellAll_78 rfl ?_
  refine fgr_X3_11 (pc := 79) C (by exact op.1) (zk (by exact op.2)) (by exact rw') dX3_tellAll_79 ?_
  refine g_bipush (pc := 82) (v := nI 11) C dX3_tellAll_82 (by decide) ?_
  refine g_aload_n (pc := 84) C dX3_tellAll_84 rfl ?_
  refine fg_X3_44 (pc := 85) C (by exact op.1) (zk (by exact op.2)) dX3_tellAll_85 ?_
  refine gx_ti (y := bI fog) hf ?_
  refine g_if_eq (pc := 88) C 95 dX3_tellAll_88 rfl (fun c1 => ?_) (fun c1 => ?_)
  · refine g_lconst (pc := 95) (v := 0) C dX3_tellAll_95 (by decide) ?_
    exact fin 0 (by rw [if_neg (bI_0.mp c1)])
  · refine g_lconst (pc := 91) (v := 1) C dX3_tellAll_91 (by decide) ?_
    refine g_goto (pc := 92) C 96 dX3_tellAll_92 rfl ?_
    exact fin 1 (by rw [if_pos (Decidable.not_not.mp (fun q => c1 (bI_0.mpr q)))])
theorem c_X3_sumOf0 (w : Wd) (l : Launch) (S : St) (pl kw ks c r P s : Nat) (fog : Prop) [Decidable fog] (u : Nat → Int32) (hp : plT S pl kw ks c r none fog u P s) (p more : Int32) : gx_M w l yX3_sumOf cX3_sumOf 3 (some .long) rmX3_sumOf [.ref (ad (w_b w) pl), .int p, .int more] S (pL 1 S) := by
  obtain ⟨⟨op, rw', ow, rs', os', hne⟩, rc, rr, ru, -⟩ := hp
  refine gx_start rfl 0 rfl (Nat.le_of_ble_eq_true rfl) ?_
  intro X C _ hl
  subst hl
  refine gx_L (L' := [_, _, _]) rfl ?_
  refine g_aload_n (pc := 0) C dX3_sumOf_0 rfl ?_
  refine fg_X3_28 (pc := 1) C (by exact op.1) (zk (by exact op.2)) dX3_sumOf_1 ?_
  refine gx_tv (y := .null) (by rw [ru]; rfl) ?_
  refine g_ifnonnullN (pc := 4) C dX3_sumOf_4 ?_
  refine g_lconst (pc := 7) (v := 1) C dX3_sumOf_7 (by decide) ?_
  exact g_lreturn (pc := 8) C ⟨rfl, rfl⟩ dX3_sumOf_8 ⟨rfl, rfl⟩
theorem c_X3_sumOf (w : Wd) (l : Launch) (S : St) (pl kw ks c ca cg cl ce r ra P s rk kc : Nat) (cs : List CL) (fog : Prop) [Decidable fog] (u : Nat → Int32) (hp : plT S pl kw ks c r (some rk) fog u P s) (hk : rcS S rk kc cs) (hc : crS S c ca cg cl ce P u) (h : rvS S r ra P u) (p : Nat) (hpP : p < P) (more : Int32) : gx_M w l yX3_sumOf cX3_sumOf 3 (some .long) rmX3_sumOf [.ref (ad (w_b w) pl), .int (nI p), .int more] S (fun v S' => ∃ W B, S' = s_setB (s_setB S kw W) ks B ∧ v = some (.long (evC W cs)) ∧ W 0 = (nI p).toInt64 ∧ W 1 = (u (14 + p)).toInt64 ∧ W 2 = (u (28 + p)).toInt64 ∧ W 3 = (u (35 + p)).toInt64 ∧ W 10 = more.toInt64 ∧ ∀ i, (4 ≤ i ∧ i < 10) ∨ i = 11 → W i = s_B S kw i) := by
  obtain ⟨⟨op, rw', ow, rs', os', hne⟩, rc, rr, ru, hf, ha, hfu, hli⟩ := hp
  have hP7 := hc.2.2
  obtain ⟨⟨occ, rca, oca, rcg, ocg, rcl, ocl, rce, oce⟩, ⟨-, -, -, -, hP, hG, -⟩, -⟩ := hc
  obtain ⟨⟨orv, rra, ora⟩, ⟨-, -, -, -, -, hA⟩, -⟩ := h
  have ork := hk.1
  refine gx_start rfl 0 rfl (Nat.le_of_ble_eq_true rfl) ?_
  intro X C _ hl
  subst hl
  refine gx_L (L' := [_, _, _]) rfl ?_
  refine g_aload_n (pc := 0) C dX3_sumOf_0 rfl ?_
  refine fgr_X3_28 (pc := 1) C (by exact op.1) (zk (by exact op.2)) (by exact ru) dX3_sumOf_1 ?_
  refine g_ifnonnull (pc := 4) C 9 dX3_sumOf_4 rfl ?_
  refine g_aload_n (pc := 9) C dX3_sumOf_9 rfl ?_
  refine fgr_X3_11 (pc := 10) C (by exact op.1) (zk (by exact op.2)) (by exact rw') dX3_sumOf_10 ?_
  refine g_iconst (pc := 13) (v := nI 0) C dX3_sumOf_13 (by decide) ?_
  refine g_iload_n (pc := 14) C dX3_sumOf_14 rfl ?_
  refine g_i2l (pc := 15) C dX3_sumOf_15 ?_
  refine n_last (pc := 16) (n := 12) C (by exact ow.1) (by exact ow.2.1) (zk (by exact ow.2.2)) isn_v rfl (by omega) dX3_sumOf_16 ?_
  generalize hW1 : vp_updL (s_B S kw) 0 (nI p).toInt64 = W1
  refine g_aload_n (pc := 17) C dX3_sumOf_17 rfl ?_
  refine fgr_X3_11 (pc := 18) C (by exact op.1) (zk (by exact op.2)) (by exact rw') dX3_sumOf_18 ?_
  refine g_iconst (pc := 21) (v := nI 1) C dX3_sumOf_21 (by decide) ?_
  refine g_aload_n (pc := 22) C dX3_sumOf_22 rfl ?_
  refine fgr_X3_24 (pc := 23) C (by exact op.1) (zk (by exact op.2)) (by exact rr) dX3_sumOf_23 ?_
  refine fgr_X3_76 (pc := 26) C (by exact orv.1) (zk (by exact orv.2)) (by exact rra) dX3_sumOf_26 ?_
  refine g_iload_n (pc := 29) C dX3_sumOf_29 rfl ?_
  refine n_iald (pc := 30) (n := 7) C (by exact ora.1) (by exact ora.2.1) (zk (by exact ora.2.2)) isn_v rfl (by omega) dX3_sumOf_30 ?_
  refine gx_ti (y := u (14 + p)) (hA p hpP) ?_
  refine g_i2l (pc := 31) C dX3_sumOf_31 ?_
  refine n_last (pc := 32) (n := 12) C (by exact ow.1) (by exact ow.2.1) (zk (by exact ow.2.2)) isn_v rfl (by omega) dX3_sumOf_32 ?_
  refine gx_S (S' := s_setB S kw (vp_updL W1 1 (u (14 + p)).toInt64)) (by rw [gB_at, s_BB]) ?_
  generalize hW2 : vp_updL W1 1 (u (14 + p)).toInt64 = W2
  refine g_aload_n (pc := 33) C dX3_sumOf_33 rfl ?_
  refine fgr_X3_11 (pc := 34) C (by exact op.1) (zk (by exact op.2)) (by exact rw') dX3_sumOf_34 ?_
  refine g_iconst (pc := 37) (v := nI 2) C dX3_sumOf_37 (by decide) ?_
  refine g_aload_n (pc := 38) C dX3_sumOf_38 rfl ?_
  refine fgr_X3_20 (pc := 39) C (by exact op.1) (zk (by exact op.2)) (by exact rc) dX3_sumOf_39 ?_
  refine fgr_X3_116 (pc := 42) C (by exact occ.1) (zk (by exact occ.2)) (by exact rcg) dX3_sumOf_42 ?_
  refine g_iload_n (pc := 45) C dX3_sumOf_45 rfl ?_
  refine n_iald (pc := 46) (n := 7) C (by exact ocg.1) (by exact ocg.2.1) (zk (by exact ocg.2.2)) isn_v rfl (by omega) dX3_sumOf_46 ?_
  refine gx_ti (y := u (28 + p)) (hG p hpP).2.1 ?_
  refine g_i2l (pc := 47) C dX3_sumOf_47 ?_
  refine n_last (pc := 48) (n := 12) C (by exact ow.1) (by exact ow.2.1) (zk (by exact ow.2.2)) isn_v rfl (by omega) dX3_sumOf_48 ?_
  refine gx_S (S' := s_setB S kw (vp_updL W2 2 (u (28 + p)).toInt64)) (by rw [gB_at, s_BB]) ?_
  generalize hW3 : vp_updL W2 2 (u (28 + p)).toInt64 = W3
  refine g_aload_n (pc := 49) C dX3_sumOf_49 rfl ?_
  refine fgr_X3_11 (pc := 50) C (by exact op.1) (zk (by exact op.2)) (by exact rw') dX3_sumOf_50 ?_
  refine g_iconst (pc := 53) (v := nI 3) C dX3_sumOf_53 (by decide) ?_
  refine g_aload_n (pc := 54) C dX3_sumOf_54 rfl ?_
  refine fgr_X3_20 (pc := 55) C (by exact op.1) (zk (by exact op.2)) (by exact rc) dX3_sumOf_55 ?_
  refine fgr_X3_65 (pc := 58) C (by exact occ.1) (zk (by exact occ.2)) (by exact rcl) dX3_sumOf_58 ?_
  refine g_iload_n (pc := 61) C dX3_sumOf_61 rfl ?_
  refine n_iald (pc := 62) (n := 7) C (by exact ocl.1) (by exact ocl.2.1) (zk (by exact ocl.2.2)) isn_v rfl (by omega) dX3_sumOf_62 ?_
  refine gx_ti (y := u (35 + p)) (hG p hpP).2.2 ?_
  refine g_i2l (pc := 63) C dX3_sumOf_63 ?_
  refine n_last (pc := 64) (n := 12) C (by exact ow.1) (by exact ow.2.1) (zk (by exact ow.2.2)) isn_v rfl (by omega) dX3_sumOf_64 ?_
  refine gx_S (S' := s_setB S kw (vp_updL W3 3 (u (35 + p)).toInt64)) (by rw [gB_at, s_BB]) ?_
  generalize hW4 : vp_updL W3 3 (u (35 + p)).toInt64 = W4
  refine g_aload_n (pc := 65) C dX3_sumOf_65 rfl ?_
  refine fgr_X3_11 (pc := 66) C (by exact op.1) (zk (by exact op.2)) (by exact rw') dX3_sumOf_66 ?_
  refine g_bipush (pc := 69) (v := nI 10) C dX3_sumOf_69 (by decide) ?_
  refine g_iload_n (pc := 71) C dX3_sumOf_71 rfl ?_
  refine g_i2l (pc := 72) C dX3_sumOf_72 ?_
  refine n_last (pc := 73) (n := 12) C (by exact ow.1) (by exact ow.2.1) (zk (by exact ow.2.2)) isn_v rfl (by omega) dX3_sumOf_73 ?_
  refine gx_S (S' := s_setB S kw (vp_updL W4 10 more.toInt64)) (by rw [gB_at, s_BB]) ?_
  generalize hW5 : vp_updL W4 10 more.toInt64 = W5
  refine g_aload_n (pc := 74) C dX3_sumOf_74 rfl ?_
  refine fgr_X3_28 (pc := 75) C (by exact op.1) (zk (by exact op.2)) (by exact ru) dX3_sumOf_75 ?_
  refine g_aload_n (pc := 78) C dX3_sumOf_78 rfl ?_
  refine fgr_X3_11 (pc := 79) C (by exact op.1) (zk (by exact op.2)) (by exact rw') dX3_sumOf_79 ?_
  refine g_aload_n (pc := 82) C dX3_sumOf_82 rfl ?_
  refine fgr_X3_17 (pc := 83) C (by exact op.1) (zk (by exact op.2)) (by exact rs') dX3_sumOf_83 ?_
  refine cg_X3_119 (pc := 86) C (by exact ork.1) (zk (by exact ork.2)) (c_X7_sumFor _ _ (s_setB S kw W5) rk kc kw ks cs hk ow os' hne) ⟨rfl, rfl⟩ ⟨Nat.zero_le _, Nat.zero_le _⟩ rfl (Nat.le_of_ble_eq_true rfl) dX3_sumOf_86 ?_
  rintro _ _ ⟨B, rfl, rfl⟩
  exact g_lreturn (pc := 89) C ⟨rfl, rfl⟩ dX3_sumOf_89 ⟨W5, B, rfl, by rw [gB_at], by subst hW1 hW2 hW3 hW4 hW5; simp [vp_updL], by subst hW1 hW2 hW3 hW4 hW5; simp [vp_updL], by subst hW1 hW2 hW3 hW4 hW5; simp [vp_updL], by subst hW1 hW2 hW3 hW4 hW5; simp [vp_updL], by subst hW1 hW2 hW3 hW4 hW5; simp [vp_updL], fun i hi => by
    subst hW1 hW2 hW3 hW4 hW5
    unfold vp_updL
    rw [if_neg (by omega), if_neg (by omega), if_neg (by omega), if_neg (by omega), if_neg (by omega)]⟩
