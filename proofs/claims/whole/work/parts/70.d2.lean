/-! ===== THE CLASS: who comes aboard next ===== -/
theorem nxF_none {ok : Nat → Bool} {sm : Nat → Int64} : ∀ n, (∀ p, p < n → ¬ (ok p = true ∧ 0 < sm p)) → nxF ok sm n = (none, 0)
  | 0, _ => rfl
  | n + 1, h => by
    have ih := nxF_none (ok := ok) (sm := sm) n (fun p hp => h p (by omega))
    show (if ok n = true ∧ (nxF ok sm n).2 < sm n then (some n, sm n) else nxF ok sm n) = _
    rw [ih, if_neg (h n (by omega))]
theorem nxF_nn {ok : Nat → Bool} {sm : Nat → Int64} : ∀ n, 0 ≤ (nxF ok sm n).2
  | 0 => Int64.le_refl _
  | n + 1 => by
    have ih := nxF_nn (ok := ok) (sm := sm) n
    show 0 ≤ (if ok n = true ∧ (nxF ok sm n).2 < sm n then (some n, sm n) else nxF ok sm n).2
    by_cases h : ok n = true ∧ (nxF ok sm n).2 < sm n
    · rw [if_pos h]; exact Int64.le_trans ih (Int64.le_of_lt h.2)
    · rw [if_neg h]; exact ih
theorem sub_and : ∀ o, o < 128 → ∀ s, s < 128 → o - (o &&& s) = o &&& (127 ^^^ s) := by decide +kernel
theorem tb_127 : ∀ p, p < 7 → (127 : Nat).testBit p = true := by decide
theorem wait_bit {o s p : Nat} (ho : o < 128) (hs : s < 128) (hp : p < 7) : (o - (o &&& s)).testBit p = true ↔ o.testBit p = true ∧ s.testBit p = false := by
  rw [sub_and o ho s hs, Nat.testBit_and, Nat.testBit_xor, tb_127 p hp]
  cases o.testBit p <;> cases s.testBit p <;> simp
theorem or_sub {s o p : Nat} (h : s ||| o = o) : (s ||| 2 ^ p) ||| o = o ↔ o.testBit p = true := by
  constructor
  · intro h2
    exact sub_bit h2 (by rw [tb_or]; simp)
  · intro h2
    refine Nat.eq_of_testBit_eq (fun i => ?_)
    have h3 := congrArg (fun x => x.testBit i) h
    simp only [Nat.testBit_or] at h3
    rw [Nat.testBit_or, tb_or]
    by_cases e : p = i
    · subst e; rw [h2]; simp
    · simp only [e, decide_false, Bool.or_false]; exact h3
def frC2 (S : St) (ro : Option Nat) (fr : Option ((Nat → Int64) → Int64)) : Prop := match ro with
  | none => fr = none
  | some rk => ∃ kc cs, rcS S rk kc cs ∧ fr = some (fun wd => evC wd cs) ∧ 2000 ≤ rk ∧ 2000 ≤ kc
theorem wd_eq2 {drawn : Int32} {u : Nat → Int32} {P H p s : Nat} {W W0 : Nat → Int64} (h4 : W0 4 = (u 11).toInt64) (h5 : W0 5 = (u 10).toInt64) (h6 : W0 6 = (weightF u P (fogF drawn u H) s False).toInt64) (h7 : W0 7 = (u 1 - weightF u P (fogF drawn u H) s False).toInt64) (h8 : W0 8 = (nI (popN s)).toInt64) (h9 : W0 9 = (nI (popN (onN u (u 11) P - (onN u (u 11) P &&& s)))).toInt64) (h11 : W0 11 = if fogF drawn u H then 1 else 0) (k0 : W 0 = (nI p).toInt64) (k1 : W 1 = (u (14 + p)).toInt64) (k2 : W 2 = (u (28 + p)).toInt64) (k3 : W 3 = (u (35 + p)).toInt64) (k10 : W 10 = (weightF u P (fogF drawn u H) (s ||| 2 ^ p) False - weightF u P (fogF drawn u H) s False).toInt64) (hk : ∀ i, (4 ≤ i ∧ i < 10) ∨ i = 11 → W i = W0 i) : ∀ i, i < 12 → W i = wdF drawn u P H p s i := by
  intro i hi
  have : i = 0 ∨ i = 1 ∨ i = 2 ∨ i = 3 ∨ i = 4 ∨ i = 5 ∨ i = 6 ∨ i = 7 ∨ i = 8 ∨ i = 9 ∨ i = 10 ∨ i = 11 := by omega
  rcases this with rfl | rfl | rfl | rfl | rfl | rfl | rfl | rfl | rfl | rfl | rfl | rfl
  · exact k0
  · exact k1
  · exact k2
  · exact k3
  · exact (hk 4 (by omega)).trans h4
  · exact (hk 5 (by omega)).trans h5
  · exact (hk 6 (by omega)).trans h6
  · exact (hk 7 (by omega)).trans h7
  · exact (hk 8 (by omega)).trans h8
  · exact (hk 9 (by omega)).trans h9
  · exact k10
  · exact (hk 11 (by omega)).trans h11
theorem c_X3_nextAboard (w : Wd) (l : Launch) (S : St) (pl kw ks c ca cg cl ce r ra P H s : Nat) (ro : Option Nat) (fr : Option ((Nat → Int64) → Int64)) (drawn : Int32) (u : Nat → Int32) (hp : plT S pl kw ks c r ro (fogF drawn u H) u P s) (hc : crS S c ca cg cl ce P u) (h : rvS S r ra P u) (hy : symU P u) (hfr : frC2 S ro fr) (hsub : s ||| onN u (u 11) P = onN u (u 11) P) (hst : ∃ q, q ≤ 7 ∧ u 2 = nI q) : gx_M w l yX3_nextAboard cX3_nextAboard 11 (some .int) rmX3_nextAboard [.ref (ad (w_b w) pl)] S (fun v S' => v = some (.int (oI (nextF fr drawn u P H s))) ∧ ∃ W B, S' = s_setB (s_setB S kw W) ks B) := by
  obtain ⟨sq, hq7, hsq⟩ := hst
  have hP7 := hc.2.2
  have ho : onN u (u 11) P < 128 := onN_128 hP7
  have hs : s < 128 := by
    have : s ≤ s ||| onN u (u 11) P := Nat.left_le_or
    omega
  have hpop := popN_le s hs
  have hp' := hp
  have hsd := h.2.2
  obtain ⟨⟨op, rw', ow, rs', os', hne⟩, rc, rr, ru, hf, ha, hfu, hli⟩ := hp
  have occ := hc.1.1
  have rcl := hc.1.2.2.2.2.2.1
  have ocl := hc.1.2.2.2.2.2.2.1
  have hP := hc.2.1.2.2.2.2.1
  have hG := hc.2.1.2.2.2.2.2.1
  have hseat := hc.2.1.2.2.1
  have hload := hc.2.1.2.1
  have orv := h.1.1
  have h11 := h.2.1.2.1
  generalize hpost : (fun (v : Option Value) (S' : St) => v = some (.int (oI (nextF fr drawn u P H s))) ∧ ∃ W B, S' = s_setB (s_setB S kw W) ks B) = post
  have stay : S = s_setB (s_setB S kw (s_B S kw)) ks (s_B (s_setB S kw (s_B S kw)) ks) := by rw [s_B_id, s_B_id]
  refine gx_start rfl 10 rfl (Nat.le_of_ble_eq_true rfl) ?_
  intro X C _ hl
  subst hl
  refine gx_L (L' := [_, _, _, _, _, _, _, _, _, _, _]) rfl ?_
  have none_ : nextF fr drawn u P H s = none → gx_G w X S 0 0 37 [some (.ref (ad (w_b w) pl)), some (.int (-1)), none, none, none, none, none, none, none, none, none] [] (gx_E w X post) := by
    intro hn
    refine g_iload_n (pc := 37) C dX3_nextAboard_37 rfl ?_
    rw [← hpost]
    exact g_ireturn (pc := 38) C ⟨rfl, rfl⟩ dX3_nextAboard_38 ⟨by rw [hn]; rfl, _, _, stay⟩
  refine g_iconst (pc := 0) (v := -1) C dX3_nextAboard_0 (by decide) ?_
  refine g_istore_n (pc := 1) (L' := [some (.ref _), _, _, _, _, _, _, _, _, _, _]) C dX3_nextAboard_1 rfl rfl ?_
  refine g_aload_n (pc := 2) C dX3_nextAboard_2 rfl ?_
  refine fg_X3_48 (pc := 3) C (by exact op.1) (zk (by exact op.2)) dX3_nextAboard_3 ?_
  refine gx_ti (y := nI s) ha ?_
  refine cf_X3_83 (pc := 6) C (c_bitCount _ _ _ s hs) ⟨rfl, rfl⟩ ⟨rfl, rfl⟩ ⟨Nat.zero_le _, Nat.zero_le _⟩ rfl (Nat.le_of_ble_eq_true rfl) dX3_nextAboard_6 ?_
  refine g_aload_n (pc := 9) C dX3_nextAboard_9 rfl ?_
  refine fgr_X3_20 (pc := 10) C (by exact op.1) (zk (by exact op.2)) (by exact rc) dX3_nextAboard_10 ?_
  refine fg_X3_88 (pc := 13) C (by exact occ.1) (zk (by exact occ.2)) dX3_nextAboard_13 ?_
  refine gx_ti (y := nI sq) (hseat.trans hsq) ?_
  refine g_icmp_ge (pc := 16) C 37 dX3_nextAboard_16 rfl (fun c1 => ?_) (fun c1 => ?_)
  · have c1 : sq ≤ popN s := (nI_leI (by omega) (by omega)).mp c1
    refine none_ ?_
    unfold nextF
    rw [nxF_none P (fun p hp q => ?_)]
    have q1 := of_decide_eq_true q.1
    have q2 := q1.2.2.1
    rw [pop_or s hs p (by omega) (by simpa using q1.1), hsq] at q2
    exact absurd ((nI_leI (by omega) (by omega)).mp q2) (by omega)
  · have c1 : popN s < sq := Nat.lt_of_not_le (fun q => c1 (nI_le q (by omega)))
    have main : (ro = none → u 11 = nI 0) → gx_G w X S 0 0 39 [some (.ref (ad (w_b w) pl)), some (.int (-1)), none, none, none, none, none, none, none, none, none] [] (gx_E w X post) := by
      intro hb0
      refine g_aload_n (pc := 39) C dX3_nextAboard_39 rfl ?_
      refine fgr_X3_24 (pc := 40) C (by exact op.1) (zk (by exact op.2)) (by exact rr) dX3_nextAboard_40 ?_
      refine g_aload_n (pc := 43) C dX3_nextAboard_43 rfl ?_
      refine fgr_X3_20 (pc := 44) C (by exact op.1) (zk (by exact op.2)) (by exact rc) dX3_nextAboard_44 ?_
      refine cf_X3_94 (pc := 47) C (by exact orv.1) (zk (by exact orv.2)) (c_X6_here _ _ _ c ca cg cl ce r ra P u hc h) ⟨rfl, rfl⟩ ⟨rfl, rfl⟩ ⟨Nat.zero_le _, Nat.zero_le _⟩ rfl (Nat.le_of_ble_eq_true rfl) dX3_nextAboard_47 ?_
      refine g_aload_n (pc := 50) C dX3_nextAboard_50 rfl ?_
      refine fg_X3_48 (pc := 51) C (by exact op.1) (zk (by exact op.2)) dX3_nextAboard_51 ?_
      refine gx_ti (y := nI s) ha ?_
      refine g_iconst (pc := 54) (v := -1) C dX3_nextAboard_54 (by decide) ?_
      refine g_ixor (pc := 55) C dX3_nextAboard_55 ?_
      refine g_iand (pc := 56) C dX3_nextAboard_56 ?_
      refine gx_ti (y := nI (onN u (u 11) P - (onN u (u 11) P &&& s))) (andn_nI _ ho _ hs) ?_
      refine g_istore_n (pc := 57) (L' := [_, some (.int _), _, _, _, _, _, _, _, _, _]) C dX3_nextAboard_57 rfl rfl ?_
      refine g_aload_n (pc := 58) C dX3_nextAboard_58 rfl ?_
      refine fgr_X3_20 (pc := 59) C (by exact op.1) (zk (by exact op.2)) (by exact rc) dX3_nextAboard_59 ?_
      refine g_aload_n (pc := 62) C dX3_nextAboard_62 rfl ?_
      refine fg_X3_51 (pc := 63) C (by exact op.1) (zk (by exact op.2)) dX3_nextAboard_63 ?_
      refine gx_ti (y := fulF u P s) hfu ?_
      refine g_aload_n (pc := 66) C dX3_nextAboard_66 rfl ?_
      refine fg_X3_54 (pc := 67) C (by exact op.1) (zk (by exact op.2)) dX3_nextAboard_67 ?_
      refine gx_ti (y := lightF u s P) hli ?_
      refine g_aload_n (pc := 70) C dX3_nextAboard_70 rfl ?_
      refine fgr_X3_24 (pc := 71) C (by exact op.1) (zk (by exact op.2)) (by exact rr) dX3_nextAboard_71 ?_
      refine fg_X3_91 (pc := 74) C (by exact orv.1) (zk (by exact orv.2)) dX3_nextAboard_74 ?_
      refine gx_ti (y := u 11) h11 ?_
      refine g_aload_n (pc := 77) C dX3_nextAboard_77 rfl ?_
      refine fg_X3_44 (pc := 78) C (by exact op.1) (zk (by exact op.2)) dX3_nextAboard_78 ?_
      refine gx_ti (y := bI (fogF drawn u H)) hf ?_
      refine cf_X3_98 (pc := 81) C (by exact occ.1) (zk (by exact occ.2)) (c_X0_burden _ _ _ c ca cg cl ce P u hc _ _ _ (fogF drawn u H)) ⟨rfl, rfl⟩ ⟨rfl, rfl⟩ ⟨Nat.zero_le _, Nat.zero_le _⟩ rfl (Nat.le_of_ble_eq_true rfl) dX3_nextAboard_81 ?_
      refine gx_ti (y := weightF u P (fogF drawn u H) s False) rfl ?_
      refine g_istore_n (pc := 84) (L' := [_, _, some (.int _), _, _, _, _, _, _, _, _]) C dX3_nextAboard_84 rfl rfl ?_
      refine g_aload_n (pc := 85) C dX3_nextAboard_85 rfl ?_
      refine g_iload_n (pc := 86) C dX3_nextAboard_86 rfl ?_
      refine g_iload_n (pc := 87) C dX3_nextAboard_87 rfl ?_
      refine cf_X3_83 (pc := 88) C (c_bitCount _ _ _ (onN u (u 11) P - (onN u (u 11) P &&& s)) (by omega)) ⟨rfl, rfl⟩ ⟨rfl, rfl⟩ ⟨Nat.zero_le _, Nat.zero_le _⟩ rfl (Nat.le_of_ble_eq_true rfl) dX3_nextAboard_88 ?_
      refine cg_X3_102 (pc := 91) C (by exact op.1) (zk (by exact op.2)) (c_X3_tellAll _ _ S pl kw ks c ca cg cl ce r ra P s ro (fogF drawn u H) u hp' hc h hs _ _) ⟨rfl, rfl⟩ ⟨Nat.zero_le _, Nat.zero_le _⟩ rfl (Nat.le_of_ble_eq_true rfl) dX3_nextAboard_91 ?_
      rintro _ _ ⟨rfl, W0, rfl, t4, t5, t6, t7, t8, t9, t11⟩
      refine g_lconst (pc := 94) (v := 0) C dX3_nextAboard_94 (by decide) ?_
      refine g_lstore (pc := 95) (L' := [_, _, _, some (.int _), _, _, _, _, _, _, _]) C dX3_nextAboard_95 rfl rfl ?_
      refine g_iconst (pc := 97) (v := nI 0) C dX3_nextAboard_97 (by decide) ?_
      refine g_istore (pc := 98) (L' := [_, _, _, _, _, none, _, _, _, _, _]) C dX3_nextAboard_98 rfl rfl ?_
      have loop : ∀ d n W B z7 z8 z9, n + d = P → (∀ i, (4 ≤ i ∧ i < 10) ∨ i = 11 → W i = W0 i) → gx_G w X (s_setB (s_setB S kw W) ks B) 0 0 100 [some (.ref (ad (w_b w) pl)), some (.int (oI (nxF (okF drawn u P H s) (fun p => sumF fr drawn u P H p s) n).1)), some (.int (nI (onN u (u 11) P - (onN u (u 11) P &&& s)))), some (.int (weightF u P (fogF drawn u H) s False)), some (.long (nxF (okF drawn u P H s) (fun p => sumF fr drawn u P H p s) n).2), none, some (.int (nI n)), z7, z8, z9, none] [] (gx_E w X post) := by
        intro d
        induction d with
        | zero =>
          intro n W B z7 z8 z9 hn hW
          have hn : n = P := hn
          subst hn
          refine g_iload (pc := 100) C dX3_nextAboard_100 rfl ?_
          refine g_aload_n (pc := 102) C dX3_nextAboard_102 rfl ?_
          refine fgr_X3_20 (pc := 103) C (by exact op.1) (zk (by exact op.2)) (by exact rc) dX3_nextAboard_103 ?_
          refine fg_X3_106 (pc := 106) C (by exact occ.1) (zk (by exact occ.2)) dX3_nextAboard_106 ?_
          refine gx_ti (y := nI n) hP ?_
          refine g_icmp_ge (pc := 109) C 216 dX3_nextAboard_109 rfl (fun c2 => ?_) (fun c2 => ?_)
          · refine g_iload_n (pc := 216) C dX3_nextAboard_216 rfl ?_
            rw [← hpost]
            exact g_ireturn (pc := 217) C ⟨rfl, rfl⟩ dX3_nextAboard_217 ⟨rfl, W, B, rfl⟩
          · exact absurd (nI_le (Nat.le_refl n) (by omega)) c2
        | succ d ih =>
          intro n W B z7 z8 z9 hn hW
          have hn7 : n < 7 := by omega
          have hwb := wait_bit (p := n) ho hs hn7
          have hosb := or_sub (p := n) hsub
          have skip : ∀ W B z7 z8 z9, ¬ (okF drawn u P H s n = true ∧ (nxF (okF drawn u P H s) (fun p => sumF fr drawn u P H p s) n).2 < sumF fr drawn u P H n s) → (∀ i, (4 ≤ i ∧ i < 10) ∨ i = 11 → W i = W0 i) → gx_G w X (s_setB (s_setB S kw W) ks B) 0 0 210 [some (.ref (ad (w_b w) pl)), some (.int (oI (nxF (okF drawn u P H s) (fun p => sumF fr drawn u P H p s) n).1)), some (.int (nI (onN u (u 11) P - (onN u (u 11) P &&& s)))), some (.int (weightF u P (fogF drawn u H) s False)), some (.long (nxF (okF drawn u P H s) (fun p => sumF fr drawn u P H p s) n).2), none, some (.int (nI n)), z7, z8, z9, none] [] (gx_E w X post) := by
            intro W B z7 z8 z9 hno hW
            refine g_iinc (pc := 210) (L' := [_, _, _, _, _, none, _, _, _, _, _]) C dX3_nextAboard_210 rfl (nI_1 _) rfl ?_
            refine g_goto (pc := 213) C 100 dX3_nextAboard_213 rfl ?_
            have := ih (n + 1) W B z7 z8 z9 (by omega) hW
            rw [show nxF (okF drawn u P H s) (fun p => sumF fr drawn u P H p s) (n + 1) = nxF (okF drawn u P H s) (fun p => sumF fr drawn u P H p s) n from if_neg hno] at this
            exact this
          refine g_iload (pc := 100) C dX3_nextAboard_100 rfl ?_
          refine g_aload_n (pc := 102) C dX3_nextAboard_102 rfl ?_
          refine fgr_X3_20 (pc := 103) C (by exact op.1) (zk (by exact op.2)) (by exact rc) dX3_nextAboard_103 ?_
          refine fg_X3_106 (pc := 106) C (by exact occ.1) (zk (by exact occ.2)) dX3_nextAboard_106 ?_
          refine gx_ti (y := nI P) hP ?_
          refine g_icmp_ge (pc := 109) C 216 dX3_nextAboard_109 rfl (fun c2 => ?_) (fun c2 => ?_)
          · exact absurd c2 (nI_ge (by omega) (by omega))
          · refine g_iload_n (pc := 112) C dX3_nextAboard_112 rfl ?_
            refine g_iload (pc := 113) C dX3_nextAboard_113 rfl ?_
            refine g_ishr (pc := 115) C dX3_nextAboard_115 ?_
            refine g_iconst (pc := 116) (v := nI 1) C dX3_nextAboard_116 (by decide) ?_
            refine g_iand (pc := 117) C dX3_nextAboard_117 ?_
            refine g_iconst (pc := 118) (v := nI 1) C dX3_nextAboard_118 (by decide) ?_
            refine g_icmp_ne (pc := 119) C 210 dX3_nextAboard_119 rfl (fun c3 => ?_) (fun c3 => ?_)
            · have c3 : ¬ (onN u (u 11) P - (onN u (u 11) P &&& s)).testBit n = true := fun q => c3 ((isOf_nI _ (by omega) n hn7).mpr q)
              refine skip W B z7 z8 z9 (fun q => c3 (hwb.mpr ?_)) hW
              have q1 := of_decide_eq_true q.1
              exact ⟨hosb.mp q1.2.1, by simpa using q1.1⟩
            · have c3 : (onN u (u 11) P - (onN u (u 11) P &&& s)).testBit n = true := (isOf_nI _ (by omega) n hn7).mp (Decidable.not_not.mp c3)
              obtain ⟨bo, bs⟩ := hwb.mp c3
              have hcb : (s ||| 2 ^ n) ||| onN u (u 11) P = onN u (u 11) P := hosb.mpr bo
              have hpo : nI (popN (s ||| 2 ^ n)) ≤ u 2 := by
                rw [pop_or s hs n hn7 bs, hsq]
                exact nI_le (by omega) (by omega)
              refine g_aload_n (pc := 122) C dX3_nextAboard_122 rfl ?_
              refine fg_X3_54 (pc := 123) C (by exact op.1) (zk (by exact op.2)) dX3_nextAboard_123 ?_
              refine gx_ti (y := lightF u s P) hli ?_
              refine g_aload_n (pc := 126) C dX3_nextAboard_126 rfl ?_
              refine fgr_X3_20 (pc := 127) C (by exact op.1) (zk (by exact op.2)) (by exact rc) dX3_nextAboard_127 ?_
              refine fgr_X3_65 (pc := 130) C (by exact occ.1) (zk (by exact occ.2)) (by exact rcl) dX3_nextAboard_130 ?_
              refine g_iload (pc := 133) C dX3_nextAboard_133 rfl ?_
              refine n_iald (pc := 135) (n := 7) C (by exact ocl.1) (by exact ocl.2.1) (zk (by exact ocl.2.2)) isn_v rfl (by omega) dX3_nextAboard_135 ?_
              refine gx_ti (y := u (35 + n)) (hG n (by omega)).2.2 ?_
              refine g_iadd (pc := 136) C dX3_nextAboard_136 ?_
              refine gx_ti (y := lightF u (s ||| 2 ^ n) P) (lig_or bs (by omega)) ?_
              refine g_istore (pc := 137) (L' := [_, _, _, _, _, _, some (.int _), _, _, _, _]) C dX3_nextAboard_137 rfl rfl ?_
              refine g_aload_n (pc := 139) C dX3_nextAboard_139 rfl ?_
              refine fgr_X3_20 (pc := 140) C (by exact op.1) (zk (by exact op.2)) (by exact rc) dX3_nextAboard_140 ?_
              refine g_aload_n (pc := 143) C dX3_nextAboard_143 rfl ?_
              refine g_iload (pc := 144) C dX3_nextAboard_144 rfl ?_
              refine cf_X3_61 (pc := 146) C (by exact op.1) (zk (by exact op.2)) (c_X3_fullWith _ _ (s_setB (s_setB S kw W) ks B) pl kw ks c ca cg cl ce r ra P s ro (fogF drawn u H) u (by exact hp') (by exact hc) (by exact h) hs n (by omega)) ⟨rfl, rfl⟩ ⟨rfl, rfl⟩ ⟨Nat.zero_le _, Nat.zero_le _⟩ rfl (Nat.le_of_ble_eq_true rfl) dX3_nextAboard_146 ?_
              refine gx_ti (y := fulF u P (s ||| 2 ^ n)) (ful_or bs (by omega) hy) ?_
              refine g_iload (pc := 149) C dX3_nextAboard_149 rfl ?_
              refine g_aload_n (pc := 151) C dX3_nextAboard_151 rfl ?_
              refine fgr_X3_24 (pc := 152) C (by exact op.1) (zk (by exact op.2)) (by exact rr) dX3_nextAboard_152 ?_
              refine fg_X3_91 (pc := 155) C (by exact orv.1) (zk (by exact orv.2)) dX3_nextAboard_155 ?_
              refine gx_ti (y := u 11) h11 ?_
              refine g_aload_n (pc := 158) C dX3_nextAboard_158 rfl ?_
              refine fg_X3_44 (pc := 159) C (by exact op.1) (zk (by exact op.2)) dX3_nextAboard_159 ?_
              refine gx_ti (y := bI (fogF drawn u H)) hf ?_
              refine cf_X3_98 (pc := 162) C (by exact occ.1) (zk (by exact occ.2)) (c_X0_burden _ _ (s_setB (s_setB S kw W) ks B) c ca cg cl ce P u (by exact hc) _ _ _ (fogF drawn u H)) ⟨rfl, rfl⟩ ⟨rfl, rfl⟩ ⟨Nat.zero_le _, Nat.zero_le _⟩ rfl (Nat.le_of_ble_eq_true rfl) dX3_nextAboard_162 ?_
              refine gx_ti (y := weightF u P (fogF drawn u H) (s ||| 2 ^ n) False) rfl ?_
              refine g_istore (pc := 165) (L' := [_, _, _, _, _, _, _, some (.int _), _, _, _]) C dX3_nextAboard_165 rfl rfl ?_
              refine g_iload (pc := 167) C dX3_nextAboard_167 rfl ?_
              refine g_aload_n (pc := 169) C dX3_nextAboard_169 rfl ?_
              refine fgr_X3_20 (pc := 170) C (by exact op.1) (zk (by exact op.2)) (by exact rc) dX3_nextAboard_170 ?_
              refine fg_X3_109 (pc := 173) C (by exact occ.1) (zk (by exact occ.2)) dX3_nextAboard_173 ?_
              /- behind the SUM -/
              have fin : ∀ W B (x : Int64), (okF drawn u P H s n = true → x = sumF fr drawn u P H n s) → (¬ okF drawn u P H s n = true → x = 0) → (∀ i, (4 ≤ i ∧ i < 10) ∨ i = 11 → W i = W0 i) → gx_G w X (s_setB (s_setB S kw W) ks B) 0 0 193 [some (.ref (ad (w_b w) pl)), some (.int (oI (nxF (okF drawn u P H s) (fun p => sumF fr drawn u P H p s) n).1)), some (.int (nI (onN u (u 11) P - (onN u (u 11) P &&& s)))), some (.int (weightF u P (fogF drawn u H) s False)), some (.long (nxF (okF drawn u P H s) (fun p => sumF fr drawn u P H p s) n).2), none, some (.int (nI n)), some (.int (lightF u (s ||| 2 ^ n) P)), some (.int (weightF u P (fogF drawn u H) (s ||| 2 ^ n) False)), z9, none] [.long x] (gx_E w X post) := by
                intro W B x hx1 hx2 hW
                refine g_lstore (pc := 193) (L' := [_, _, _, _, _, _, _, _, some (.int _), _, _]) C dX3_nextAboard_193 rfl rfl ?_
                refine g_lload (pc := 195) C dX3_nextAboard_195 rfl ?_
                refine g_lload (pc := 197) C dX3_nextAboard_197 rfl ?_
                refine g_lcmp (pc := 199) C dX3_nextAboard_199 ?_
                refine g_if_le (pc := 200) C 210 dX3_nextAboard_200 rfl (fun c5 => ?_) (fun c5 => ?_)
                · have c5 := lg_le.mp c5
                  refine skip W B _ _ _ (fun q => ?_) hW
                  rw [← hx1 q.1] at q
                  exact absurd q.2 (Int64.not_lt.mpr c5)
                · have c5 : (nxF (okF drawn u P H s) (fun p => sumF fr drawn u P H p s) n).2 < x := Int64.not_le.mp (fun q => c5 (lg_le.mpr q))
                  have hok : okF drawn u P H s n = true := by
                    refine Decidable.byContradiction (fun q => ?_)
                    rw [hx2 q] at c5
                    exact absurd (nxF_nn n) (Int64.not_le.mpr c5)
                  have hx := hx1 hok
                  subst hx
                  refine g_iload (pc := 203) C dX3_nextAboard_203 rfl ?_
                  refine g_istore_n (pc := 205) (L' := [some (.ref _), _, _, _, _, _, _, _, _, _, _]) C dX3_nextAboard_205 rfl rfl ?_
                  refine g_lload (pc := 206) C dX3_nextAboard_206 rfl ?_
                  refine g_lstore (pc := 208) (L' := [_, _, _, some (.int _), _, _, _, _, _, _, _]) C dX3_nextAboard_208 rfl rfl ?_
                  refine g_iinc (pc := 210) (L' := [_, _, _, _, _, none, _, _, _, _, _]) C dX3_nextAboard_210 rfl (nI_1 _) rfl ?_
                  refine g_goto (pc := 213) C 100 dX3_nextAboard_213 rfl ?_
                  have := ih (n + 1) W B (some (.int (lightF u (s ||| 2 ^ n) P))) (some (.int (weightF u P (fogF drawn u H) (s ||| 2 ^ n) False))) (some (.long (sumF fr drawn u P H n s))) (by omega) hW
                  rw [show nxF (okF drawn u P H s) (fun p => sumF fr drawn u P H p s) (n + 1) = (some n, sumF fr drawn u P H n s) from if_pos ⟨hok, c5⟩] at this
                  exact this
              refine gx_ti (y := u 1) hload ?_
              refine g_icmp_gt (pc := 176) C 192 dX3_nextAboard_176 rfl (fun c4 => ?_) (fun c4 => ?_)
              · have hno : ¬ okF drawn u P H s n = true := fun q => absurd (of_decide_eq_true q).2.2.2 (Int32.not_le.mpr c4)
                refine g_lconst (pc := 192) (v := 0) C dX3_nextAboard_192 (by decide) ?_
                exact fin W B 0 (fun q => absurd q hno) (fun _ => rfl) hW
              · have hok : okF drawn u P H s n = true := decide_eq_true ⟨by rw [bs]; decide, hcb, hpo, Int32.not_lt.mp c4⟩
                refine g_aload_n (pc := 179) C dX3_nextAboard_179 rfl ?_
                refine g_iload (pc := 180) C dX3_nextAboard_180 rfl ?_
                refine g_iload (pc := 182) C dX3_nextAboard_182 rfl ?_
                refine g_iload_n (pc := 184) C dX3_nextAboard_184 rfl ?_
                refine g_isub (pc := 185) C dX3_nextAboard_185 ?_
                cases ro with
                | none =>
                  have hfr : fr = none := hfr
                  subst hfr
                  refine cf_X3_112 (pc := 186) C (by exact op.1) (zk (by exact op.2)) (c_X3_sumOf0 _ _ (s_setB (s_setB S kw W) ks B) pl kw ks c r P s (fogF drawn u H) u (by exact hp') _ _) ⟨rfl, rfl⟩ ⟨rfl, rfl⟩ ⟨Nat.zero_le _, Nat.zero_le _⟩ rfl (Nat.le_of_ble_eq_true rfl) dX3_nextAboard_186 ?_
                  refine g_goto (pc := 189) C 193 dX3_nextAboard_189 rfl ?_
                  refine fin W B 1 (fun _ => ?_) (fun q => absurd hok q) hW
                  show 1 = if u 11 = 0 then (1 : Int64) else 0
                  rw [hb0 rfl, if_pos nI_0]
                | some rk =>
                  obtain ⟨kc, cs, hk, hfr, -, -⟩ := hfr
                  subst hfr
                  refine cg_X3_112 (pc := 186) C (by exact op.1) (zk (by exact op.2)) (c_X3_sumOf _ _ (s_setB (s_setB S kw W) ks B) pl kw ks c ca cg cl ce r ra P s rk kc cs (fogF drawn u H) u (by exact hp') (by exact hk) (by exact hc) (by exact h) n (by omega) _) ⟨rfl, rfl⟩ ⟨Nat.zero_le _, Nat.zero_le _⟩ rfl (Nat.le_of_ble_eq_true rfl) dX3_nextAboard_186 ?_
                  rintro _ _ ⟨W1, B1, rfl, rfl, k0, k1, k2, k3, k10, hk1⟩
                  have hW0 : ∀ i, (4 ≤ i ∧ i < 10) ∨ i = 11 → W1 i = W0 i := fun i hi => (hk1 i hi).trans ((congrFun (by rw [gB_ne hne, gB_at]) i).trans (hW i hi))
                  have hwd := wd_eq2 t4 t5 t6 t7 t8 t9 t11 k0 k1 k2 k3 k10 hW0
                  refine gx_S (S' := s_setB (s_setB S kw W1) ks B1) ?_ ?_
                  · have : u1 (u1 (u1 (u1 (s_B S) kw W) ks B) kw W1) ks B1 = u1 (u1 (s_B S) kw W1) ks B1 := by
                      funext j; unfold u1
                      by_cases e : j = ks
                      · rw [if_pos e, if_pos e]
                      · rw [if_neg e, if_neg e, if_neg e]
                        by_cases e2 : j = kw
                        · rw [if_pos e2, if_pos e2]
                        · rw [if_neg e2, if_neg e2, if_neg e2]
                    show (_, _, _, _, _, _, _, u1 (u1 (u1 (u1 (s_B S) kw W) ks B) kw W1) ks B1, _) = _
                    rw [this]; rfl
                  refine g_goto (pc := 189) C 193 dX3_nextAboard_189 rfl ?_
                  exact fin W1 B1 _ (fun _ => evC_ext hwd cs) (fun q => absurd hok q) hW0
      have := loop P 0 W0 (s_B (s_setB S kw W0) ks) none none none (by omega) (fun _ _ => rfl)
      rw [s_B_id] at this
      exact this
    refine g_aload_n (pc := 19) C dX3_nextAboard_19 rfl ?_
    refine fg_X3_28 (pc := 20) C (by exact op.1) (zk (by exact op.2)) dX3_nextAboard_20 ?_
    cases ro with
    | none =>
      have hfr0 : fr = none := hfr
      refine gx_tv (y := .null) (by rw [ru]; rfl) ?_
      refine g_ifnonnullN (pc := 23) C dX3_nextAboard_23 ?_
      refine g_aload_n (pc := 26) C dX3_nextAboard_26 rfl ?_
      refine fgr_X3_24 (pc := 27) C (by exact op.1) (zk (by exact op.2)) (by exact rr) dX3_nextAboard_27 ?_
      refine fg_X3_91 (pc := 30) C (by exact orv.1) (zk (by exact orv.2)) dX3_nextAboard_30 ?_
      refine gx_ti (y := u 11) h11 ?_
      refine g_iconst (pc := 33) (v := nI 1) C dX3_nextAboard_33 (by decide) ?_
      refine g_icmp_ne (pc := 34) C 39 dX3_nextAboard_34 rfl (fun c2 => ?_) (fun c2 => ?_)
      · exact main (fun _ => hsd.1.resolve_right c2)
      · have c2 := Decidable.not_not.mp c2
        refine none_ ?_
        unfold nextF
        rw [nxF_none P (fun p hp q => ?_)]
        have q2 := q.2
        rw [hfr0] at q2
        have q2 : (0 : Int64) < if u 11 = 0 then 1 else 0 := q2
        rw [c2, if_neg (by decide)] at q2
        exact absurd q2 (by decide)
    | some rk =>
      refine gx_tv (y := .ref (ad (w_b w) rk)) (by rw [ru]; rfl) ?_
      refine g_ifnonnull (pc := 23) C 39 dX3_nextAboard_23 rfl ?_
      exact main (fun e => by cases e)
