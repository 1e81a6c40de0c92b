/-! ===== THE CLASS: what a Crossing says ===== -/
def crK (S : St) (c ca cg cl ce : Nat) : Prop := gx_o S c 0 ∧ s_R S 6 c = some ca ∧ gx_a S ca 13 7 ∧ s_R S 7 c = some cg ∧ gx_a S cg 13 7 ∧ s_R S 8 c = some cl ∧ gx_a S cl 13 7 ∧ s_R S 9 c = some ce ∧ gx_a S ce 13 49
def fgB (x : Int64) (h : Nat) : Prop := (x >>> ((nI h).toInt64 &&& 63)) &&& 1 = 1
def crV (S : St) (c ca cg cl ce P : Nat) (u : Nat → Int32) : Prop := s_I S 0 c = u 0 ∧ s_I S 1 c = u 1 ∧ s_I S 2 c = u 2 ∧ s_I S 3 c = u 3 ∧ s_I S 4 c = nI P ∧ (∀ p, p < P → s_A S ca p = u (42 + p) ∧ s_A S cg p = u (28 + p) ∧ s_A S cl p = u (35 + p)) ∧ (∀ p, p < P → ∀ q, q < P → s_A S ce (7 * p + q) = u (49 + 7 * p + q)) ∧ ∀ h, h ≤ 60 → (fgB (s_L S 5 c) h ↔ u (98 + h) = nI 1)
/-- a Crossing that says u of P people -/
def crS (S : St) (c ca cg cl ce P : Nat) (u : Nat → Int32) : Prop := crK S c ca cg cl ce ∧ crV S c ca cg cl ce P u ∧ P ≤ 7
theorem crK.to {D : Nat → Prop} {S T : St} {c ca cg cl ce : Nat} (h : eqO D S T) (hD : ¬ D c) (g : crK S c ca cg cl ce) : crK T c ca cg cl ce := by
  obtain ⟨g1, g2, g3, g4, g5, g6, g7, g8, g9⟩ := g
  exact ⟨h.o g1, (h.R hD).trans g2, h.a g3, (h.R hD).trans g4, h.a g5, (h.R hD).trans g6, h.a g7, (h.R hD).trans g8, h.a g9⟩
theorem crS.to {D : Nat → Prop} {S T : St} {c ca cg cl ce P : Nat} {u : Nat → Int32} (h : eqO D S T) (hD : ¬ D c ∧ ¬ D ca ∧ ¬ D cg ∧ ¬ D cl ∧ ¬ D ce) (g : crS S c ca cg cl ce P u) : crS T c ca cg cl ce P u := by
  obtain ⟨d1, d2, d3, d4, d5⟩ := hD
  obtain ⟨g0, ⟨g1, g2, g3, g4, g5, g6, g7, g8⟩, g9⟩ := g
  refine ⟨g0.to h d1, ⟨(h.I d1).trans g1, (h.I d1).trans g2, (h.I d1).trans g3, (h.I d1).trans g4, (h.I d1).trans g5, ?_, ?_, ?_⟩, g9⟩
  · rw [h.A d2, h.A d3, h.A d4]; exact g6
  · rw [h.A d5]; exact g7
  · rw [h.L d1]; exact g8
theorem c_X0_has (w : Wd) (l : Launch) (S : St) (c ca cg cl ce P : Nat) (u : Nat → Int32) (h : crS S c ca cg cl ce P u) (p : Int32) : gx_M w l yX0_has cX0_has 2 (some .boolean) rmX0_has [.ref (ad (w_b w) c), .int p] S (pI (bI (0 ≤ p ∧ p < nI P)) S) := by
  obtain ⟨⟨oc, -⟩, ⟨-, -, -, -, hP, -⟩, -⟩ := h
  refine gx_start rfl 0 rfl (Nat.le_of_ble_eq_true rfl) ?_
  intro X C _ hl
  subst hl
  refine gx_L (L' := [_, _]) rfl ?_
  refine g_iload_n (pc := 0) C dX0_has_0 rfl ?_
  refine g_if_lt (pc := 1) C 16 dX0_has_1 rfl (fun h1 => ?_) (fun h1 => ?_)
  · refine g_iconst (pc := 16) (v := nI 0) C dX0_has_16 (by decide) ?_
    exact g_zreturn (pc := 17) C ⟨rfl, rfl⟩ (by first | exact Or.inl rfl | exact Or.inr rfl) dX0_has_17 ((by first | exact pI_t ⟨Int32.not_lt.mp h1, Int32.not_le.mp h9⟩ | exact pI_f (fun q => absurd h1 (Int32.not_lt.mpr q.1)) | exact pI_f (fun q => absurd h9 (Int32.not_le.mpr q.2))))
  · refine g_iload_n (pc := 4) C dX0_has_4 rfl ?_
    refine g_aload_n (pc := 5) C dX0_has_5 rfl ?_
    refine fg_X0_38 (pc := 6) C (by exact oc.1) (zk (by exact oc.2)) dX0_has_6 ?_
    refine gx_ti (y := nI P) hP ?_
    refine g_icmp_ge (pc := 9) C 16 dX0_has_9 rfl (fun h9 => ?_) (fun h9 => ?_)
    · refine g_iconst (pc := 16) (v := nI 0) C dX0_has_16 (by decide) ?_
      exact g_zreturn (pc := 17) C ⟨rfl, rfl⟩ (by first | exact Or.inl rfl | exact Or.inr rfl) dX0_has_17 ((by first | exact pI_t ⟨Int32.not_lt.mp h1, Int32.not_le.mp h9⟩ | exact pI_f (fun q => absurd h1 (Int32.not_lt.mpr q.1)) | exact pI_f (fun q => absurd h9 (Int32.not_le.mpr q.2))))
    · refine g_iconst (pc := 12) (v := nI 1) C dX0_has_12 (by decide) ?_
      refine g_goto (pc := 13) C 17 dX0_has_13 rfl ?_
      exact g_zreturn (pc := 17) C ⟨rfl, rfl⟩ (by first | exact Or.inl rfl | exact Or.inr rfl) dX0_has_17 ((by first | exact pI_t ⟨Int32.not_lt.mp h1, Int32.not_le.mp h9⟩ | exact pI_f (fun q => absurd h1 (Int32.not_lt.mpr q.1)) | exact pI_f (fun q => absurd h9 (Int32.not_le.mpr q.2))))
theorem all_nI : ∀ P, P < 8 → (nI 1 <<< (nI P &&& 31)) - nI 1 = nI (2 ^ P - 1) := by decide +kernel
theorem c_X0_everybody (w : Wd) (l : Launch) (S : St) (c ca cg cl ce P : Nat) (u : Nat → Int32) (h : crS S c ca cg cl ce P u) : gx_M w l yX0_everybody cX0_everybody 1 (some .int) rmX0_everybody [.ref (ad (w_b w) c)] S (pI (nI (2 ^ P - 1)) S) := by
  obtain ⟨⟨oc, -⟩, ⟨-, -, -, -, hP, -⟩, hP7⟩ := h
  refine gx_start rfl 0 rfl (Nat.le_of_ble_eq_true rfl) ?_
  intro X C _ hl
  subst hl
  refine gx_L (L' := [_]) rfl ?_
  refine g_iconst (pc := 0) (v := nI 1) C dX0_everybody_0 (by decide) ?_
  refine g_aload_n (pc := 1) C dX0_everybody_1 rfl ?_
  refine fg_X0_38 (pc := 2) C (by exact oc.1) (zk (by exact oc.2)) dX0_everybody_2 ?_
  refine gx_ti (y := nI P) hP ?_
  refine g_ishl (pc := 5) C dX0_everybody_5 ?_
  refine g_iconst (pc := 6) (v := nI 1) C dX0_everybody_6 (by decide) ?_
  refine g_isub (pc := 7) C dX0_everybody_7 ?_
  exact g_ireturn (pc := 8) C ⟨rfl, rfl⟩ dX0_everybody_8 ⟨by rw [all_nI P (by omega)], rfl⟩
/-- a set of people, of whatever int -/
theorem sub_all {x : Int32} {o : Nat} (ho : o < 128) : x &&& (nI o ^^^ (-1)) = 0 ↔ ∃ s, s < 128 ∧ x = nI s ∧ s ||| o = o := by
  constructor
  · intro h
    have e : x = x &&& nI o := by
      have h2 : x.toBitVec &&& ((nI o).toBitVec ^^^ (-1 : Int32).toBitVec) = 0#32 := congrArg Int32.toBitVec h
      refine Int32.toBitVec_inj.mp ?_
      show x.toBitVec = x.toBitVec &&& (nI o).toBitVec
      have h3 : (-1 : Int32).toBitVec = BitVec.allOnes 32 := by decide
      rw [h3] at h2
      refine BitVec.eq_of_getLsbD_eq (fun i hi => ?_)
      have h4 := congrArg (fun b => b.getLsbD i) h2
      simp only [BitVec.getLsbD_and, BitVec.getLsbD_xor, BitVec.getLsbD_allOnes, BitVec.getLsbD_zero, hi, decide_true] at h4 ⊢
      cases h5 : x.toBitVec.getLsbD i <;> cases h6 : (nI o).toBitVec.getLsbD i <;> simp [h5, h6] at h4 ⊢
    have e2 : x.toBitVec.toNat < 128 := by
      have h7 : x.toBitVec = x.toBitVec &&& (nI o).toBitVec := congrArg Int32.toBitVec e
      rw [h7, BitVec.toNat_and, pk_tn (by omega)]
      exact Nat.lt_of_le_of_lt Nat.and_le_right ho
    refine ⟨x.toBitVec.toNat, e2, ?_, ?_⟩
    · refine Int32.toBitVec_inj.mp ?_
      refine BitVec.eq_of_toNat_eq ?_
      rw [pk_tn (by omega)]
    · have e3 : x = nI x.toBitVec.toNat := by
        refine Int32.toBitVec_inj.mp (BitVec.eq_of_toNat_eq ?_)
        rw [pk_tn (by omega)]
      rw [e3] at h
      exact (sub_iff _ e2 o ho).mp h
  · rintro ⟨s, hs, rfl, e⟩
    exact (sub_iff s hs o ho).mpr e
theorem c_X0_hasAll (w : Wd) (l : Launch) (S : St) (c ca cg cl ce P : Nat) (u : Nat → Int32) (h : crS S c ca cg cl ce P u) (x : Int32) : gx_M w l yX0_hasAll cX0_hasAll 2 (some .boolean) rmX0_hasAll [.ref (ad (w_b w) c), .int x] S (pI (bI (x &&& (nI (2 ^ P - 1) ^^^ (-1)) = 0)) S) := by
  have h' := h
  obtain ⟨⟨oc, -⟩, -, hP7⟩ := h
  refine gx_start rfl 0 rfl (Nat.le_of_ble_eq_true rfl) ?_
  intro X C _ hl
  subst hl
  refine gx_L (L' := [_, _]) rfl ?_
  refine g_iload_n (pc := 0) C dX0_hasAll_0 rfl ?_
  refine g_aload_n (pc := 1) C dX0_hasAll_1 rfl ?_
  refine cf_X0_51 (pc := 2) C (by exact oc.1) (zk (by exact oc.2)) (c_X0_everybody _ _ _ c ca cg cl ce P u h') ⟨rfl, rfl⟩ ⟨rfl, rfl⟩ ⟨Nat.zero_le _, Nat.zero_le _⟩ rfl (Nat.le_of_ble_eq_true rfl) dX0_hasAll_2 ?_
  refine g_iconst (pc := 5) (v := -1) C dX0_hasAll_5 (by decide) ?_
  refine g_ixor (pc := 6) C dX0_hasAll_6 ?_
  refine g_iand (pc := 7) C dX0_hasAll_7 ?_
  refine g_if_ne (pc := 8) C 15 dX0_hasAll_8 rfl (fun c1 => ?_) (fun c1 => ?_)
  · refine g_iconst (pc := 15) (v := nI 0) C dX0_hasAll_15 (by decide) ?_
    exact g_zreturn (pc := 16) C ⟨rfl, rfl⟩ (by first | exact Or.inl rfl | exact Or.inr rfl) dX0_hasAll_16 (pI_f c1)
  · refine g_iconst (pc := 11) (v := nI 1) C dX0_hasAll_11 (by decide) ?_
    refine g_goto (pc := 12) C 16 dX0_hasAll_12 rfl ?_
    exact g_zreturn (pc := 16) C ⟨rfl, rfl⟩ (by first | exact Or.inl rfl | exact Or.inr rfl) dX0_hasAll_16 (pI_t (Decidable.not_not.mp c1))
theorem c_X0_extra (w : Wd) (l : Launch) (S : St) (c ca cg cl ce P : Nat) (u : Nat → Int32) (h : crS S c ca cg cl ce P u) (p q : Nat) (hp : p < P) (hq : q < P) : gx_M w l yX0_extra cX0_extra 3 (some .int) rmX0_extra [.ref (ad (w_b w) c), .int (nI p), .int (nI q)] S (pI (u (49 + 7 * p + q)) S) := by
  have h' := h
  obtain ⟨⟨oc, ra, oa, rg, og, rl, ol, re, oe⟩, ⟨-, -, -, -, hP, -, he, -⟩, hP7⟩ := h
  refine gx_start rfl 0 rfl (Nat.le_of_ble_eq_true rfl) ?_
  intro X C _ hl
  subst hl
  refine gx_L (L' := [_, _, _]) rfl ?_
  have b1 : 0 ≤ nI p ∧ nI p < nI P := ⟨nI_pos' (by omega), nI_lt hp (by omega)⟩
  have b2 : 0 ≤ nI q ∧ nI q < nI P := ⟨nI_pos' (by omega), nI_lt hq (by omega)⟩
  refine g_aload_n (pc := 0) C dX0_extra_0 rfl ?_
  refine g_iload_n (pc := 1) C dX0_extra_1 rfl ?_
  refine cf_X0_55 (pc := 2) C (by exact oc.1) (zk (by exact oc.2)) (c_X0_has _ _ _ c ca cg cl ce P u h' _) ⟨rfl, rfl⟩ ⟨rfl, rfl⟩ ⟨Nat.zero_le _, Nat.zero_le _⟩ rfl (Nat.le_of_ble_eq_true rfl) dX0_extra_2 ?_
  refine g_if_eq (pc := 5) C 30 dX0_extra_5 rfl (fun c1 => ?_) (fun c1 => ?_)
  · exact absurd b1 (bI_0.mp c1)
  · refine g_aload_n (pc := 8) C dX0_extra_8 rfl ?_
    refine g_iload_n (pc := 9) C dX0_extra_9 rfl ?_
    refine cf_X0_55 (pc := 10) C (by exact oc.1) (zk (by exact oc.2)) (c_X0_has _ _ _ c ca cg cl ce P u h' _) ⟨rfl, rfl⟩ ⟨rfl, rfl⟩ ⟨Nat.zero_le _, Nat.zero_le _⟩ rfl (Nat.le_of_ble_eq_true rfl) dX0_extra_10 ?_
    refine g_if_eq (pc := 13) C 30 dX0_extra_13 rfl (fun c2 => ?_) (fun c2 => ?_)
    · exact absurd b2 (bI_0.mp c2)
    · refine g_aload_n (pc := 16) C dX0_extra_16 rfl ?_
      refine fgr_X0_21 (pc := 17) C (by exact oc.1) (zk (by exact oc.2)) (by exact re) dX0_extra_17 ?_
      refine g_iload_n (pc := 20) C dX0_extra_20 rfl ?_
      refine g_bipush (pc := 21) (v := nI 7) C dX0_extra_21 (by decide) ?_
      refine g_imul (pc := 23) C dX0_extra_23 ?_
      refine g_iload_n (pc := 24) C dX0_extra_24 rfl ?_
      refine g_iadd (pc := 25) C dX0_extra_25 ?_
      refine n_iald (pc := 26) (n := 49) C (by exact oe.1) (by exact oe.2.1) (zk (by exact oe.2.2)) (isn_add (isn_mul isn_v isn_v) isn_v) rfl (by omega) dX0_extra_26 ?_
      refine g_goto (pc := 27) C 31 dX0_extra_27 rfl ?_
      exact g_ireturn (pc := 31) C ⟨rfl, rfl⟩ dX0_extra_31 ⟨by rw [Nat.mul_comm p 7, he p hp q hq], rfl⟩
def exF (u : Nat → Int32) (p s : Nat) : Nat → Int32
  | 0 => nI 0
  | n + 1 => if s.testBit n = true then exF u p s n + u (49 + 7 * p + n) else exF u p s n
theorem c_X0_extraAmong (w : Wd) (l : Launch) (S : St) (c ca cg cl ce P : Nat) (u : Nat → Int32) (h : crS S c ca cg cl ce P u) (p s : Nat) (hp : p < P) (hs : s < 128) : gx_M w l yX0_extraAmong cX0_extraAmong 5 (some .int) rmX0_extraAmong [.ref (ad (w_b w) c), .int (nI p), .int (nI s)] S (pI (exF u p s P) S) := by
  obtain ⟨⟨oc, ra, oa, rg, og, rl, ol, re, oe⟩, ⟨-, -, -, -, hP, -, he, -⟩, hP7⟩ := h
  refine gx_start rfl 2 rfl (Nat.le_of_ble_eq_true rfl) ?_
  intro X C _ hl
  subst hl
  refine gx_L (L' := [_, _, _, _, _]) rfl ?_
  refine g_iconst (pc := 0) (v := nI 0) C dX0_extraAmong_0 (by decide) ?_
  refine g_istore_n (pc := 1) (L' := [_, _, some (.int _), _, _]) C dX0_extraAmong_1 rfl rfl ?_
  refine g_iconst (pc := 2) (v := nI 0) C dX0_extraAmong_2 (by decide) ?_
  refine g_istore (pc := 3) (L' := [_, _, _, some (.int _), _]) C dX0_extraAmong_3 rfl rfl ?_
  have loop : ∀ d n, n + d = P → gx_G w X S 0 0 5 [some (.ref (ad (w_b w) c)), some (.int (nI p)), some (.int (nI s)), some (.int (exF u p s n)), some (.int (nI n))] [] (gx_E w X (pI (exF u p s P) S)) := by
    intro d
    induction d with
    | zero =>
      intro n hn
      have hn : n = P := hn
      subst hn
      refine g_iload (pc := 5) C dX0_extraAmong_5 rfl ?_
      refine g_aload_n (pc := 7) C dX0_extraAmong_7 rfl ?_
      refine fg_X0_38 (pc := 8) C (by exact oc.1) (zk (by exact oc.2)) dX0_extraAmong_8 ?_
      refine gx_ti (y := nI n) hP ?_
      refine g_icmp_ge (pc := 11) C 57 dX0_extraAmong_11 rfl (fun c1 => ?_) (fun c1 => ?_)
      · refine g_iload_n (pc := 57) C dX0_extraAmong_57 rfl ?_
        exact g_ireturn (pc := 58) C ⟨rfl, rfl⟩ dX0_extraAmong_58 ⟨rfl, rfl⟩
      · exact absurd (nI_le (Nat.le_refl n) (by omega)) c1
    | succ d ih =>
      intro n hn
      refine g_iload (pc := 5) C dX0_extraAmong_5 rfl ?_
      refine g_aload_n (pc := 7) C dX0_extraAmong_7 rfl ?_
      refine fg_X0_38 (pc := 8) C (by exact oc.1) (zk (by exact oc.2)) dX0_extraAmong_8 ?_
      refine gx_ti (y := nI P) hP ?_
      refine g_icmp_ge (pc := 11) C 57 dX0_extraAmong_11 rfl (fun c1 => ?_) (fun c1 => ?_)
      · exact absurd c1 (nI_ge (by omega) (by omega))
      · refine g_iload_n (pc := 14) C dX0_extraAmong_14 rfl ?_
        refine g_iload (pc := 15) C dX0_extraAmong_15 rfl ?_
        refine g_ishr (pc := 17) C dX0_extraAmong_17 ?_
        refine g_iconst (pc := 18) (v := nI 1) C dX0_extraAmong_18 (by decide) ?_
        refine g_iand (pc := 19) C dX0_extraAmong_19 ?_
        refine g_iconst (pc := 20) (v := nI 1) C dX0_extraAmong_20 (by decide) ?_
        refine g_icmp_ne (pc := 21) C 51 dX0_extraAmong_21 rfl (fun c2 => ?_) (fun c2 => ?_)
        · have c2 : ¬ s.testBit n = true := fun q => c2 ((isOf_nI s hs n (by omega)).mpr q)
          refine g_iinc (pc := 51) (L' := [_, _, _, some (.int _), _]) C dX0_extraAmong_51 rfl (nI_1 _) rfl ?_
          refine g_goto (pc := 54) C 5 dX0_extraAmong_54 rfl ?_
          refine gx_L ?_ (ih (n + 1) (by omega))
          simp [exF, c2]
        · have c2 : s.testBit n = true := (isOf_nI s hs n (by omega)).mp (Decidable.not_not.mp c2)
          refine g_iload_n (pc := 24) C dX0_extraAmong_24 rfl ?_
          refine g_if_lt (pc := 25) C 51 dX0_extraAmong_25 rfl (fun c3 => ?_) (fun c3 => ?_)
          · exact absurd c3 (nI_pos (by omega))
          · refine g_iload_n (pc := 28) C dX0_extraAmong_28 rfl ?_
            refine g_aload_n (pc := 29) C dX0_extraAmong_29 rfl ?_
            refine fg_X0_38 (pc := 30) C (by exact oc.1) (zk (by exact oc.2)) dX0_extraAmong_30 ?_
            refine gx_ti (y := nI P) hP ?_
            refine g_icmp_ge (pc := 33) C 51 dX0_extraAmong_33 rfl (fun c4 => ?_) (fun c4 => ?_)
            · exact absurd c4 (nI_ge (by omega) (by omega))
            · refine g_iload_n (pc := 36) C dX0_extraAmong_36 rfl ?_
              refine g_aload_n (pc := 37) C dX0_extraAmong_37 rfl ?_
              refine fgr_X0_21 (pc := 38) C (by exact oc.1) (zk (by exact oc.2)) (by exact re) dX0_extraAmong_38 ?_
              refine g_iload_n (pc := 41) C dX0_extraAmong_41 rfl ?_
              refine g_bipush (pc := 42) (v := nI 7) C dX0_extraAmong_42 (by decide) ?_
              refine g_imul (pc := 44) C dX0_extraAmong_44 ?_
              refine g_iload (pc := 45) C dX0_extraAmong_45 rfl ?_
              refine g_iadd (pc := 47) C dX0_extraAmong_47 ?_
              refine n_iald (pc := 48) (n := 49) C (by exact oe.1) (by exact oe.2.1) (zk (by exact oe.2.2)) (isn_add (isn_mul isn_v isn_v) isn_v) rfl (by omega) dX0_extraAmong_48 ?_
              refine gx_ti (y := u (49 + 7 * p + n)) (by rw [Nat.mul_comm p 7]; exact he p hp n (by omega)) ?_
              refine g_iadd (pc := 49) C dX0_extraAmong_49 ?_
              refine g_istore_n (pc := 50) (L' := [_, _, some (.int _), _, _]) C dX0_extraAmong_50 rfl rfl ?_
              refine g_iinc (pc := 51) (L' := [_, _, _, some (.int _), _]) C dX0_extraAmong_51 rfl (nI_1 _) rfl ?_
              refine g_goto (pc := 54) C 5 dX0_extraAmong_54 rfl ?_
              refine gx_L ?_ (ih (n + 1) (by omega))
              simp [exF, c2]
  exact loop P 0 (by omega)
theorem c_X0_lightOf (w : Wd) (l : Launch) (S : St) (c ca cg cl ce P : Nat) (u : Nat → Int32) (h : crS S c ca cg cl ce P u) (s : Nat) (hs : s < 128) : gx_M w l yX0_lightOf cX0_lightOf 4 (some .int) rmX0_lightOf [.ref (ad (w_b w) c), .int (nI s)] S (pI (lightF u s P) S) := by
  obtain ⟨⟨oc, ra, oa, rg, og, rl, ol, re, oe⟩, ⟨-, -, -, -, hP, hA, -, -⟩, hP7⟩ := h
  refine gx_start rfl 2 rfl (Nat.le_of_ble_eq_true rfl) ?_
  intro X C _ hl
  subst hl
  refine gx_L (L' := [_, _, _, _]) rfl ?_
  refine g_iconst (pc := 0) (v := nI 0) C dX0_lightOf_0 (by decide) ?_
  refine g_istore_n (pc := 1) (L' := [_, some (.int _), _, _]) C dX0_lightOf_1 rfl rfl ?_
  refine g_iconst (pc := 2) (v := nI 0) C dX0_lightOf_2 (by decide) ?_
  refine g_istore_n (pc := 3) (L' := [_, _, some (.int _), _]) C dX0_lightOf_3 rfl rfl ?_
  have loop : ∀ d n, n + d = P → gx_G w X S 0 0 4 [some (.ref (ad (w_b w) c)), some (.int (nI s)), some (.int (lightF u s n)), some (.int (nI n))] [] (gx_E w X (pI (lightF u s P) S)) := by
    intro d
    induction d with
    | zero =>
      intro n hn
      have hn : n = P := hn
      subst hn
      refine g_iload_n (pc := 4) C dX0_lightOf_4 rfl ?_
      refine g_aload_n (pc := 5) C dX0_lightOf_5 rfl ?_
      refine fg_X0_38 (pc := 6) C (by exact oc.1) (zk (by exact oc.2)) dX0_lightOf_6 ?_
      refine gx_ti (y := nI n) hP ?_
      refine g_icmp_ge (pc := 9) C 36 dX0_lightOf_9 rfl (fun c1 => ?_) (fun c1 => ?_)
      · refine g_iload_n (pc := 36) C dX0_lightOf_36 rfl ?_
        exact g_ireturn (pc := 37) C ⟨rfl, rfl⟩ dX0_lightOf_37 ⟨rfl, rfl⟩
      · exact absurd (nI_le (Nat.le_refl n) (by omega)) c1
    | succ d ih =>
      intro n hn
      refine g_iload_n (pc := 4) C dX0_lightOf_4 rfl ?_
      refine g_aload_n (pc := 5) C dX0_lightOf_5 rfl ?_
      refine fg_X0_38 (pc := 6) C (by exact oc.1) (zk (by exact oc.2)) dX0_lightOf_6 ?_
      refine gx_ti (y := nI P) hP ?_
      refine g_icmp_ge (pc := 9) C 36 dX0_lightOf_9 rfl (fun c1 => ?_) (fun c1 => ?_)
      · exact absurd c1 (nI_ge (by omega) (by omega))
      · refine g_iload_n (pc := 12) C dX0_lightOf_12 rfl ?_
        refine g_iload_n (pc := 13) C dX0_lightOf_13 rfl ?_
        refine g_ishr (pc := 14) C dX0_lightOf_14 ?_
        refine g_iconst (pc := 15) (v := nI 1) C dX0_lightOf_15 (by decide) ?_
        refine g_iand (pc := 16) C dX0_lightOf_16 ?_
        refine g_iconst (pc := 17) (v := nI 1) C dX0_lightOf_17 (by decide) ?_
        refine g_icmp_ne (pc := 18) C 30 dX0_lightOf_18 rfl (fun c2 => ?_) (fun c2 => ?_)
        · have c2 : ¬ s.testBit n = true := fun q => c2 ((isOf_nI s hs n (by omega)).mpr q)
          refine g_iinc (pc := 30) (L' := [_, _, some (.int _), _]) C dX0_lightOf_30 rfl (nI_1 _) rfl ?_
          refine g_goto (pc := 33) C 4 dX0_lightOf_33 rfl ?_
          refine gx_L ?_ (ih (n + 1) (by omega))
          simp [lightF, c2, nI_0]
        · have c2 : s.testBit n = true := (isOf_nI s hs n (by omega)).mp (Decidable.not_not.mp c2)
          refine g_iload_n (pc := 21) C dX0_lightOf_21 rfl ?_
          refine g_aload_n (pc := 22) C dX0_lightOf_22 rfl ?_
          refine fgr_X0_18 (pc := 23) C (by exact oc.1) (zk (by exact oc.2)) (by exact rl) dX0_lightOf_23 ?_
          refine g_iload_n (pc := 26) C dX0_lightOf_26 rfl ?_
          refine n_iald (pc := 27) (n := 7) C (by exact ol.1) (by exact ol.2.1) (zk (by exact ol.2.2)) isn_v rfl (by omega) dX0_lightOf_27 ?_
          refine gx_ti (y := u (35 + n)) (hA n (by omega)).2.2 ?_
          refine g_iadd (pc := 28) C dX0_lightOf_28 ?_
          refine g_istore_n (pc := 29) (L' := [_, some (.int _), _, _]) C dX0_lightOf_29 rfl rfl ?_
          refine g_iinc (pc := 30) (L' := [_, _, some (.int _), _]) C dX0_lightOf_30 rfl (nI_1 _) rfl ?_
          refine g_goto (pc := 33) C 4 dX0_lightOf_33 rfl ?_
          refine gx_L ?_ (ih (n + 1) (by omega))
          simp [lightF, c2]
  exact loop P 0 (by omega)
theorem c_X0_isFog (w : Wd) (l : Launch) (S : St) (c ca cg cl ce P : Nat) (u : Nat → Int32) (h : crS S c ca cg cl ce P u) (H : Nat) (hH : H < 2000) (hu : u 10 = nI H) : gx_M w l yX0_isFog cX0_isFog 2 (some .boolean) rmX0_isFog [.ref (ad (w_b w) c), .int (nI H)] S (pI (bI (fogF 0 u H)) S) := by
  obtain ⟨⟨oc, -⟩, ⟨-, -, -, -, -, -, -, hf⟩, -⟩ := h
  refine gx_start rfl 0 rfl (Nat.le_of_ble_eq_true rfl) ?_
  intro X C _ hl
  subst hl
  refine gx_L (L' := [_, _]) rfl ?_
  refine g_iload_n (pc := 0) C dX0_isFog_0 rfl ?_
  refine g_if_lt (pc := 1) C 27 dX0_isFog_1 rfl (fun c1 => ?_) (fun c1 => ?_)
  · exact absurd c1 (nI_pos (by omega))
  · refine g_iload_n (pc := 4) C dX0_isFog_4 rfl ?_
    refine g_bipush (pc := 5) (v := nI 60) C dX0_isFog_5 (by decide) ?_
    refine g_icmp_gt (pc := 7) C 27 dX0_isFog_7 rfl (fun c2 => ?_) (fun c2 => ?_)
    · refine g_iconst (pc := 27) (v := nI 0) C dX0_isFog_27 (by decide) ?_
      exact g_zreturn (pc := 28) C ⟨rfl, rfl⟩ (by first | exact Or.inl rfl | exact Or.inr rfl) dX0_isFog_28 (pI_f (fun q => q.elim (fun z => z rfl) (fun z => absurd (hu ▸ z.1) (Int32.not_le.mpr c2))))
    · have c2 : H ≤ 60 := (nI_leI (by omega) (by omega)).mp (Int32.not_lt.mp c2)
      have hf := hf H c2
      have hle : u 10 ≤ nI 60 := by rw [hu]; exact nI_le c2 (by omega)
      refine g_aload_n (pc := 10) C dX0_isFog_10 rfl ?_
      refine fg_X0_41 (pc := 11) C (by exact oc.1) (zk (by exact oc.2)) dX0_isFog_11 ?_
      refine g_iload_n (pc := 14) C dX0_isFog_14 rfl ?_
      refine g_lshr (pc := 15) C dX0_isFog_15 ?_
      refine g_lconst (pc := 16) (v := 1) C dX0_isFog_16 (by decide) ?_
      refine g_land (pc := 17) C dX0_isFog_17 ?_
      refine g_lconst (pc := 18) (v := 1) C dX0_isFog_18 (by decide) ?_
      refine g_lcmp (pc := 19) C dX0_isFog_19 ?_
      refine g_if_ne (pc := 20) C 27 dX0_isFog_20 rfl (fun c3 => ?_) (fun c3 => ?_)
      · have c3 : ¬ u (98 + H) = nI 1 := fun q => c3 (lg_0.mpr (hf.mpr q))
        refine g_iconst (pc := 27) (v := nI 0) C dX0_isFog_27 (by decide) ?_
        exact g_zreturn (pc := 28) C ⟨rfl, rfl⟩ (by first | exact Or.inl rfl | exact Or.inr rfl) dX0_isFog_28 (pI_f (fun q => q.elim (fun z => z rfl) (fun z => c3 z.2)))
      · have c3 : u (98 + H) = nI 1 := hf.mp (lg_0.mp (Decidable.not_not.mp c3))
        refine g_iconst (pc := 23) (v := nI 1) C dX0_isFog_23 (by decide) ?_
        refine g_goto (pc := 24) C 28 dX0_isFog_24 rfl ?_
        exact g_zreturn (pc := 28) C ⟨rfl, rfl⟩ (by first | exact Or.inl rfl | exact Or.inr rfl) dX0_isFog_28 (pI_t (Or.inr ⟨hle, c3⟩))
/-- WEIGHT out of all and of what lightens -/
def bdnF (f3 : Int32) (fog : Prop) [Decidable fog] (full light boat : Int32) : Int32 :=
  if 0 ≤ (if boat = nI 1 then full / nI 2 else full) + ((if fog then f3 else nI 0) - light) then (if boat = nI 1 then full / nI 2 else full) + ((if fog then f3 else nI 0) - light) else nI 0
theorem weigh_bdn {u : Nat → Int32} {P : Nat} {fog : Prop} [Decidable fog] {much side : Int32} {s : Nat} : weighF u P fog much s side = bdnF (u 3) fog much (lightF u s P) side := rfl
theorem i32_as (x y z : Int32) : x + (y - z) = x + y - z := by
  rw [Int32.sub_eq_add_neg, Int32.sub_eq_add_neg, Int32.add_assoc]
theorem i32_z (x z : Int32) : x + (nI 0 - z) = x - z := by
  rw [i32_as, nI_0, Int32.add_zero]
theorem mx0 (x : Int32) : mxF (nI 0) x = if 0 ≤ x then x else nI 0 := by
  unfold mxF
  by_cases h : (0 : Int32) < x
  · rw [if_pos (by rw [nI_0]; exact h), if_pos (Int32.le_of_lt h)]
  · rw [if_neg (by rw [nI_0]; exact h)]
    by_cases h2 : (0 : Int32) ≤ x
    · rw [if_pos h2]
      rw [nI_0]
      exact Int32.le_antisymm h2 (Int32.not_lt.mp h)
    · rw [if_neg h2]
theorem c_X0_burden (w : Wd) (l : Launch) (S : St) (c ca cg cl ce P : Nat) (u : Nat → Int32) (h : crS S c ca cg cl ce P u) (full light boat : Int32) (fog : Prop) [Decidable fog] : gx_M w l yX0_burden cX0_burden 6 (some .int) rmX0_burden [.ref (ad (w_b w) c), .int full, .int light, .int boat, .int (bI fog)] S (pI (bdnF (u 3) fog full light boat) S) := by
  obtain ⟨⟨oc, -⟩, ⟨-, -, -, h3, -⟩, -⟩ := h
  refine gx_start rfl 1 rfl (Nat.le_of_ble_eq_true rfl) ?_
  intro X C _ hl
  subst hl
  refine gx_L (L' := [_, _, _, _, _, _]) rfl ?_
  have fin : ∀ x, x = (if boat = nI 1 then full / nI 2 else full) → gx_G w X S 0 0 12 [some (.ref (ad (w_b w) c)), some (.int full), some (.int light), some (.int boat), some (.int (bI fog)), none] [.int x] (gx_E w X (pI (bdnF (u 3) fog full light boat) S)) := by
    intro x hx
    refine g_istore (pc := 12) (L' := [_, _, _, _, some (.int _), _]) C dX0_burden_12 rfl rfl ?_
    refine g_iload (pc := 14) C dX0_burden_14 rfl ?_
    refine g_if_eq (pc := 16) C 28 dX0_burden_16 rfl (fun c1 => ?_) (fun c1 => ?_)
    · have c1 := bI_0.mp c1
      refine g_iconst (pc := 28) (v := nI 0) C dX0_burden_28 (by decide) ?_
      refine g_iload (pc := 29) C dX0_burden_29 rfl ?_
      refine g_iload_n (pc := 31) C dX0_burden_31 rfl ?_
      refine g_isub (pc := 32) C dX0_burden_32 ?_
      refine g_mmax (pc := 33) C wl_X0_59 ⟨rfl, rfl⟩ ⟨Nat.zero_le _, Nat.zero_le _⟩ rfl (Nat.le_of_ble_eq_true rfl) dX0_burden_33 ?_
      exact g_ireturn (pc := 36) C ⟨rfl, rfl⟩ dX0_burden_36 ⟨by unfold bdnF; rw [← hx, if_neg c1, i32_z, mx0], rfl⟩
    · have c1 := Decidable.not_not.mp (fun q => c1 (bI_0.mpr q))
      refine g_iload (pc := 19) C dX0_burden_19 rfl ?_
      refine g_aload_n (pc := 21) C dX0_burden_21 rfl ?_
      refine fg_X0_35 (pc := 22) C (by exact oc.1) (zk (by exact oc.2)) dX0_burden_22 ?_
      refine gx_ti (y := u 3) h3 ?_
      refine g_iadd (pc := 25) C dX0_burden_25 ?_
      refine g_istore (pc := 26) (L' := [_, _, _, _, some (.int _), _]) C dX0_burden_26 rfl rfl ?_
      refine g_iconst (pc := 28) (v := nI 0) C dX0_burden_28 (by decide) ?_
      refine g_iload (pc := 29) C dX0_burden_29 rfl ?_
      refine g_iload_n (pc := 31) C dX0_burden_31 rfl ?_
      refine g_isub (pc := 32) C dX0_burden_32 ?_
      refine g_mmax (pc := 33) C wl_X0_59 ⟨rfl, rfl⟩ ⟨Nat.zero_le _, Nat.zero_le _⟩ rfl (Nat.le_of_ble_eq_true rfl) dX0_burden_33 ?_
      exact g_ireturn (pc := 36) C ⟨rfl, rfl⟩ dX0_burden_36 ⟨by unfold bdnF; rw [← hx, if_pos c1, i32_as, mx0], rfl⟩
  refine g_iload_n (pc := 0) C dX0_burden_0 rfl ?_
  refine g_iconst (pc := 1) (v := nI 1) C dX0_burden_1 (by decide) ?_
  refine g_icmp_ne (pc := 2) C 11 dX0_burden_2 rfl (fun c0 => ?_) (fun c0 => ?_)
  · refine g_iload_n (pc := 11) C dX0_burden_11 rfl ?_
    exact fin _ (by rw [if_neg c0])
  · refine g_iload_n (pc := 5) C dX0_burden_5 rfl ?_
    refine g_iconst (pc := 6) (v := nI 2) C dX0_burden_6 (by decide) ?_
    refine g_idiv (pc := 7) C dX0_burden_7 (by decide) ?_
    refine g_goto (pc := 8) C 12 dX0_burden_8 rfl ?_
    exact fin _ (by rw [if_pos (Decidable.not_not.mp c0)])
