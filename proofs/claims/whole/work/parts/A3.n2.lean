/-! ===== THE CLASS: CrossingReader: its CLAUSES ===== -/
def persN (T : Nat → Int32) (L n P : Nat) (D : Nat → Int32) : RC := match cellF T L P (nI 0) (nI 40) (42 + P) n D with
  | .error f => .error f
  | .ok (n1, _, D1) => match cellF T L P (nI 0) (nI 9) (28 + P) n1 D1 with
    | .error f => .error f
    | .ok (n2, _, D2) => .ok (n2, P + 1, upd D2 4 (nI (P + 1)))
def corkN (T : Nat → Int32) (L n P : Nat) (D : Nat → Int32) : RC := match cellF T L P (nI 1) (nI 20) (35 + P) n D with
  | .error f => .error f
  | .ok (n1, _, D1) => .ok (n1, P + 1, upd D1 4 (nI (P + 1)))
def besN (T : Nat → Int32) (L n P : Nat) (D : Nat → Int32) : RC := match numF T L n (nI 0) (nI P - nI 1) with
  | .error f => .error f
  | .ok (n1, x) => match numF T L n1 (nI 0) (nI P - nI 1) with
    | .error f => .error f
    | .ok (n2, y) => if x = y then .error (ftN 1 (skN T L n1)) else match numF T L n2 (nI 0) (nI 9) with
      | .error f => .error f
      | .ok (n3, z) => .ok (n3, P, upd (upd D (49 + 7 * x.toNatClampNeg + y.toNatClampNeg) z) (49 + 7 * y.toNatClampNeg + x.toNatClampNeg) z)
def fogN (T : Nat → Int32) (L n P : Nat) (D : Nat → Int32) : RC := match numF T L n (nI 0) (nI 60) with
  | .error f => .error f
  | .ok (n1, x) => .ok (n1, P, upd D (98 + x.toNatClampNeg) (nI 1))
theorem crZ.add {U : St} {c ca cg cl ce P : Nat} {D D' : Nat → Int32} {x y z : Int32} (h : crZ U c ca cg cl ce P D) (hk : k5D c ca cg cl ce) (hP : P < 7) (h1 : D' (42 + P) = x) (h2 : D' (28 + P) = y) (h3 : D' (35 + P) = z) (h4 : D' 4 = nI (P + 1)) (hD : ∀ j, ¬ j = 42 + P → ¬ j = 28 + P → ¬ j = 35 + P → ¬ j = 4 → D' j = D j) : crZ (crA U c ca cg cl P x y z) c ca cg cl ce (P + 1) D' := by
  obtain ⟨⟨g0, g1, g2, g3, g4⟩, g5, g6, g7, g8, g9, gA⟩ := h
  obtain ⟨-, n1, n2, n3, n4, n5, n6⟩ := hk
  have eca : s_A (crA U c ca cg cl P x y z) ca = upd (s_A U ca) P x := by
    show s_A (s_setA (s_setA (s_setA U ca (upd (s_A U ca) P x)) cg (upd (s_A U cg) P y)) cl (upd (s_A U cl) P z)) ca = _
    rw [gA_ne n2, gA_ne n1, gA_at]
  have ecg : s_A (crA U c ca cg cl P x y z) cg = upd (s_A U cg) P y := by
    show s_A (s_setA (s_setA (s_setA U ca (upd (s_A U ca) P x)) cg (upd (s_A U cg) P y)) cl (upd (s_A U cl) P z)) cg = _
    rw [gA_ne n3, gA_at]
  have ecl : s_A (crA U c ca cg cl P x y z) cl = upd (s_A U cl) P z := by
    show s_A (s_setA (s_setA (s_setA U ca (upd (s_A U ca) P x)) cg (upd (s_A U cg) P y)) cl (upd (s_A U cl) P z)) cl = _
    rw [gA_at]
  have ece : s_A (crA U c ca cg cl P x y z) ce = s_A U ce := by
    show s_A (s_setA (s_setA (s_setA U ca (upd (s_A U ca) P x)) cg (upd (s_A U cg) P y)) cl (upd (s_A U cl) P z)) ce = _
    rw [gA_ne (Ne.symm n6), gA_ne (Ne.symm n5), gA_ne (Ne.symm n4)]
  refine ⟨⟨(gI_ne (Or.inl (by decide))).trans (g0.trans (hD 0 (by omega) (by omega) (by omega) (by omega)).symm), (gI_ne (Or.inl (by decide))).trans (g1.trans (hD 1 (by omega) (by omega) (by omega) (by omega)).symm), (gI_ne (Or.inl (by decide))).trans (g2.trans (hD 2 (by omega) (by omega) (by omega) (by omega)).symm), (gI_ne (Or.inl (by decide))).trans (g3.trans (hD 3 (by omega) (by omega) (by omega) (by omega)).symm), gI_at⟩, h4, by omega, fun p hp => ?_, fun p hp hp7 => ?_, fun p hp q hq => ?_, fun i hi => ?_⟩
  · rw [eca, ecg, ecl]
    by_cases e : p = P
    · subst e; rw [pk_us, pk_us, pk_us]; exact ⟨h1.symm, h2.symm, h3.symm⟩
    · rw [pk_un e, pk_un e, pk_un e, hD (42 + p) (by omega) (by omega) (by omega) (by omega), hD (28 + p) (by omega) (by omega) (by omega) (by omega), hD (35 + p) (by omega) (by omega) (by omega) (by omega)]
      exact g7 p (by omega)
  · rw [hD (42 + p) (by omega) (by omega) (by omega) (by omega), hD (28 + p) (by omega) (by omega) (by omega) (by omega), hD (35 + p) (by omega) (by omega) (by omega) (by omega)]
    exact g8 p (by omega) hp7
  · rw [ece, hD (49 + 7 * p + q) (by omega) (by omega) (by omega) (by omega)]
    exact g9 p hp q hq
  · rw [hD (98 + i) (by omega) (by omega) (by omega) (by omega)]
    exact gA i hi
theorem c_X1_readPerson (w : Wd) (l : Launch) (U : St) (T : Nat → Int32) (c ca cg cl ce L n q P : Nat) (D : Nat → Int32) (h : cwP U T c ca cg cl ce L n) (hz : crZ U c ca cg cl ce P D) (fine : Prop) [Decidable fine] (hfP : fine → P < 7) : gx_M w l yX1_readPerson cX1_readPerson 5 none rmX1_readPerson [.ref (ad (w_b w) 3), .int (bI fine), .int (nI q)] (rk3 U n 0) (pxCr U c ca cg cl ce L (if fine then persN T L n P D else .error (ftN 4 q))) := by
  obtain ⟨hd, hT, hi, hn, hK, hk5⟩ := id h
  have hL := hd.2.1.2.2.2
  have o3 : ∀ S, 121 ≤ s_z S → gx_o S 3 1 := fun S q => o_st q rfl rfl
  have zu : 121 ≤ s_z U := hd.2.1.1
  generalize hR : (if fine then persN T L n P D else .error (ftN 4 q)) = R
  generalize hpost : pxCr U c ca cg cl ce L R = post
  refine gx_start rfl 2 rfl (Nat.le_of_ble_eq_true rfl) ?_
  intro X C _ hl
  subst hl
  refine gx_L (L' := [_, _, _, _, _]) rfl ?_
  by_cases hf : fine
  · rw [if_pos hf] at hR
    rw [bI_t hf]
    have hP := hfP hf
    refine g_aload_n (pc := 0) C dX1_readPerson_0 rfl ?_
    refine g_iload_n (pc := 1) C dX1_readPerson_1 rfl ?_
    refine g_iload_n (pc := 2) C dX1_readPerson_2 rfl ?_
    refine g_iconst (pc := 3) (v := nI 4) C dX1_readPerson_3 (by decide) ?_
    refine cf_X1_73 (pc := 4) C (by exact (o3 _ zu).1) (zk (by exact (o3 _ zu).2)) (c_X5_allow_X1 _ _ U L hd n 0 (nI 1) (nI q) (nI 4) (Or.inr rfl)) ⟨rfl, rfl⟩ ⟨rfl, rfl⟩ ⟨Nat.zero_le _, Nat.zero_le _⟩ rfl (Nat.le_of_ble_eq_true rfl) dX1_readPerson_4 ?_
    rw [al1]
    refine g_if_eq (pc := 7) C 38 dX1_readPerson_7 rfl (fun c1 => ?_) (fun c1 => ?_)
    · exact absurd c1 (by decide)
    · have t1 := tn_le (T := T) hn
      refine g_aload_n (pc := 10) C dX1_readPerson_10 rfl ?_
      refine g_iconst (pc := 11) (v := nI 0) C dX1_readPerson_11 (by decide) ?_
      refine g_bipush (pc := 12) (v := nI 40) C dX1_readPerson_12 (by decide) ?_
      refine cf_X1_81 (pc := 14) C (by exact (o3 _ zu).1) (zk (by exact (o3 _ zu).2)) (t3_num _ _ hT hd hn 0 (nI 0) (nI 40)) ⟨rfl, rfl⟩ ⟨rfl, rfl⟩ ⟨Nat.zero_le _, Nat.zero_le _⟩ rfl (Nat.le_of_ble_eq_true rfl) dX1_readPerson_14 ?_
      refine g_istore_n (pc := 17) (L' := [_, _, some (.int _), _, _]) C dX1_readPerson_17 rfl rfl ?_
      have c1 := tn_c (T := T) hL hn (nI 0) (nI 40)
      generalize tnF T L n (nI 0) (nI 40) 0 = f1 at c1 ⊢
      generalize tnV T L n = v1 at c1 ⊢
      generalize tnN T L n = n1 at c1 t1 ⊢
      have t2 := tn_le (T := T) t1.2
      refine g_aload_n (pc := 18) C dX1_readPerson_18 rfl ?_
      refine g_iconst (pc := 19) (v := nI 0) C dX1_readPerson_19 (by decide) ?_
      refine g_bipush (pc := 20) (v := nI 9) C dX1_readPerson_20 (by decide) ?_
      refine cf_X1_81 (pc := 22) C (by exact (o3 _ zu).1) (zk (by exact (o3 _ zu).2)) (t3_num _ _ hT hd t1.2 f1 (nI 0) (nI 9)) ⟨rfl, rfl⟩ ⟨rfl, rfl⟩ ⟨Nat.zero_le _, Nat.zero_le _⟩ rfl (Nat.le_of_ble_eq_true rfl) dX1_readPerson_22 ?_
      refine g_istore (pc := 25) (L' := [_, _, _, some (.int _), _]) C dX1_readPerson_25 rfl rfl ?_
      refine g_aload_n (pc := 27) C dX1_readPerson_27 rfl ?_
      refine fgr_X1_9 (pc := 28) C (by exact (o3 _ zu).1) (zk (by exact (o3 _ zu).2)) (by exact hi) dX1_readPerson_28 ?_
      refine g_iload_n (pc := 31) C dX1_readPerson_31 rfl ?_
      refine g_iload (pc := 32) C dX1_readPerson_32 rfl ?_
      refine g_iconst (pc := 34) (v := nI 0) C dX1_readPerson_34 (by decide) ?_
      refine cf_X1_93 (pc := 35) C (by exact hK.1.1) (zk (by exact hK.1.2)) (c_X0_add _ _ (rk3 U (tnN T L n1) (tnF T L n1 (nI 0) (nI 9) f1)) c ca cg cl ce P v1 (tnV T L n1) (nI 0) (by exact hK) ⟨hk5.2.1, hk5.2.2.1, hk5.2.2.2.1⟩ ((rk3_g (by decide) (by decide)).trans hz.1.2.2.2.2) hP) ⟨rfl, rfl⟩ ⟨rfl, rfl⟩ ⟨Nat.zero_le _, Nat.zero_le _⟩ rfl (Nat.le_of_ble_eq_true rfl) dX1_readPerson_35 ?_
      rw [rk3_crA]
      have c2 := tn_c (T := T) hL t1.2 (nI 0) (nI 9)
      rw [← hpost]
      unfold persN at hR
      rcases c1 with ⟨a1, a2, -⟩ | ⟨e1, a1, a2, a3⟩
      · rw [cell_o a1] at hR
        rw [a2]
        rcases c2 with ⟨b1, b2, -⟩ | ⟨e2, b1, b2, b3⟩
        · simp only [cell_o b1] at hR
          exact g_return (pc := 38) C ⟨rfl, rfl⟩ dX1_readPerson_38 (pxCr_o hR.symm cch_A (by rw [b2]) (hz.add hk5 hP ((pk_un (by omega)).trans ((pk_un (by omega)).trans pk_us)) ((pk_un (by omega)).trans pk_us) ((pk_un (by omega)).trans ((pk_un (by omega)).trans ((pk_un (by omega)).trans (hz.2.2.2.2.1 P (Nat.le_refl P) hP).2.2))) pk_us (fun j j1 j2 j3 j4 => (pk_un j4).trans ((pk_un j2).trans (pk_un j1)))))
        · simp only [cell_e b1] at hR
          exact g_return (pc := 38) C ⟨rfl, rfl⟩ dX1_readPerson_38 (pxCr_e hR.symm cch_A t2.2 (by rw [b2]))
      · rw [cell_e a1] at hR
        rw [a2, tn_f a3]
        exact g_return (pc := 38) C ⟨rfl, rfl⟩ dX1_readPerson_38 (pxCr_e hR.symm cch_A t2.2 rfl)
  · rw [if_neg hf] at hR
    rw [bI_f hf]
    refine g_aload_n (pc := 0) C dX1_readPerson_0 rfl ?_
    refine g_iload_n (pc := 1) C dX1_readPerson_1 rfl ?_
    refine g_iload_n (pc := 2) C dX1_readPerson_2 rfl ?_
    refine g_iconst (pc := 3) (v := nI 4) C dX1_readPerson_3 (by decide) ?_
    refine cf_X1_73 (pc := 4) C (by exact (o3 _ zu).1) (zk (by exact (o3 _ zu).2)) (c_X5_allow_X1 _ _ U L hd n 0 (nI 0) (nI q) (nI 4) (Or.inl rfl)) ⟨rfl, rfl⟩ ⟨rfl, rfl⟩ ⟨Nat.zero_le _, Nat.zero_le _⟩ rfl (Nat.le_of_ble_eq_true rfl) dX1_readPerson_4 ?_
    refine g_if_eq (pc := 7) C 38 dX1_readPerson_7 rfl (fun c1 => ?_) (fun c1 => ?_)
    · rw [← hpost]
      exact g_return (pc := 38) C ⟨rfl, rfl⟩ dX1_readPerson_38 (pxCr_e hR.symm cch.refl hn (by rw [al4]))
    · exact absurd rfl c1
theorem c_X1_readCork (w : Wd) (l : Launch) (U : St) (T : Nat → Int32) (c ca cg cl ce L n q P : Nat) (D : Nat → Int32) (h : cwP U T c ca cg cl ce L n) (hz : crZ U c ca cg cl ce P D) (fine : Prop) [Decidable fine] (hfP : fine → P < 7) : gx_M w l yX1_readCork cX1_readCork 3 none rmX1_readCork [.ref (ad (w_b w) 3), .int (bI fine), .int (nI q)] (rk3 U n 0) (pxCr U c ca cg cl ce L (if fine then corkN T L n P D else .error (ftN 4 q))) := by
  obtain ⟨hd, hT, hi, hn, hK, hk5⟩ := id h
  have hL := hd.2.1.2.2.2
  have o3 : ∀ S, 121 ≤ s_z S → gx_o S 3 1 := fun S q => o_st q rfl rfl
  have zu : 121 ≤ s_z U := hd.2.1.1
  generalize hR : (if fine then corkN T L n P D else .error (ftN 4 q)) = R
  generalize hpost : pxCr U c ca cg cl ce L R = post
  refine gx_start rfl 0 rfl (Nat.le_of_ble_eq_true rfl) ?_
  intro X C _ hl
  subst hl
  refine gx_L (L' := [_, _, _]) rfl ?_
  by_cases hf : fine
  · rw [if_pos hf] at hR
    rw [bI_t hf]
    have hP := hfP hf
    refine g_aload_n (pc := 0) C dX1_readCork_0 rfl ?_
    refine g_iload_n (pc := 1) C dX1_readCork_1 rfl ?_
    refine g_iload_n (pc := 2) C dX1_readCork_2 rfl ?_
    refine g_iconst (pc := 3) (v := nI 4) C dX1_readCork_3 (by decide) ?_
    refine cf_X1_73 (pc := 4) C (by exact (o3 _ zu).1) (zk (by exact (o3 _ zu).2)) (c_X5_allow_X1 _ _ U L hd n 0 (nI 1) (nI q) (nI 4) (Or.inr rfl)) ⟨rfl, rfl⟩ ⟨rfl, rfl⟩ ⟨Nat.zero_le _, Nat.zero_le _⟩ rfl (Nat.le_of_ble_eq_true rfl) dX1_readCork_4 ?_
    rw [al1]
    refine g_if_eq (pc := 7) C 26 dX1_readCork_7 rfl (fun c1 => ?_) (fun c1 => ?_)
    · exact absurd c1 (by decide)
    · have t1 := tn_le (T := T) hn
      refine g_aload_n (pc := 10) C dX1_readCork_10 rfl ?_
      refine fgr_X1_9 (pc := 11) C (by exact (o3 _ zu).1) (zk (by exact (o3 _ zu).2)) (by exact hi) dX1_readCork_11 ?_
      refine g_iconst (pc := 14) (v := nI 0) C dX1_readCork_14 (by decide) ?_
      refine g_iconst (pc := 15) (v := nI 0) C dX1_readCork_15 (by decide) ?_
      refine g_aload_n (pc := 16) C dX1_readCork_16 rfl ?_
      refine g_iconst (pc := 17) (v := nI 1) C dX1_readCork_17 (by decide) ?_
      refine g_bipush (pc := 18) (v := nI 20) C dX1_readCork_18 (by decide) ?_
      refine cf_X1_81 (pc := 20) C (by exact (o3 _ zu).1) (zk (by exact (o3 _ zu).2)) (t3_num _ _ hT hd hn 0 (nI 1) (nI 20)) ⟨rfl, rfl⟩ ⟨rfl, rfl⟩ ⟨Nat.zero_le _, Nat.zero_le _⟩ rfl (Nat.le_of_ble_eq_true rfl) dX1_readCork_20 ?_
      refine cf_X1_93 (pc := 23) C (by exact hK.1.1) (zk (by exact hK.1.2)) (c_X0_add _ _ (rk3 U (tnN T L n) (tnF T L n (nI 1) (nI 20) 0)) c ca cg cl ce P (nI 0) (nI 0) (tnV T L n) (by exact hK) ⟨hk5.2.1, hk5.2.2.1, hk5.2.2.2.1⟩ ((rk3_g (by decide) (by decide)).trans hz.1.2.2.2.2) hP) ⟨rfl, rfl⟩ ⟨rfl, rfl⟩ ⟨Nat.zero_le _, Nat.zero_le _⟩ rfl (Nat.le_of_ble_eq_true rfl) dX1_readCork_23 ?_
      rw [rk3_crA]
      have c1 := tn_c (T := T) hL hn (nI 1) (nI 20)
      rw [← hpost]
      unfold corkN at hR
      rcases c1 with ⟨a1, a2, -⟩ | ⟨e1, a1, a2, a3⟩
      · rw [cell_o a1] at hR
        have z0 := hz.2.2.2.2.1 P (Nat.le_refl P) hP
        exact g_return (pc := 26) C ⟨rfl, rfl⟩ dX1_readCork_26 (pxCr_o hR.symm cch_A (by rw [a2]) (hz.add hk5 hP ((pk_un (by omega)).trans ((pk_un (by omega)).trans z0.1)) ((pk_un (by omega)).trans ((pk_un (by omega)).trans z0.2.1)) ((pk_un (by omega)).trans pk_us) pk_us (fun j j1 j2 j3 j4 => (pk_un j4).trans (pk_un j3))))
      · rw [cell_e a1] at hR
        exact g_return (pc := 26) C ⟨rfl, rfl⟩ dX1_readCork_26 (pxCr_e hR.symm cch_A t1.2 (by rw [a2]))
  · rw [if_neg hf] at hR
    rw [bI_f hf]
    refine g_aload_n (pc := 0) C dX1_readCork_0 rfl ?_
    refine g_iload_n (pc := 1) C dX1_readCork_1 rfl ?_
    refine g_iload_n (pc := 2) C dX1_readCork_2 rfl ?_
    refine g_iconst (pc := 3) (v := nI 4) C dX1_readCork_3 (by decide) ?_
    refine cf_X1_73 (pc := 4) C (by exact (o3 _ zu).1) (zk (by exact (o3 _ zu).2)) (c_X5_allow_X1 _ _ U L hd n 0 (nI 0) (nI q) (nI 4) (Or.inl rfl)) ⟨rfl, rfl⟩ ⟨rfl, rfl⟩ ⟨Nat.zero_le _, Nat.zero_le _⟩ rfl (Nat.le_of_ble_eq_true rfl) dX1_readCork_4 ?_
    refine g_if_eq (pc := 7) C 26 dX1_readCork_7 rfl (fun c1 => ?_) (fun c1 => ?_)
    · rw [← hpost]
      exact g_return (pc := 26) C ⟨rfl, rfl⟩ dX1_readCork_26 (pxCr_e hR.symm cch.refl hn (by rw [al4]))
    · exact absurd rfl c1
theorem fg_k : ∀ k, k < 61 → (((nI k).toInt64 &&& 63).toBitVec.smod 64).toNat = k := by decide +kernel
theorem bv_1 (z : BitVec 64) : z &&& 1#64 = 1#64 ↔ z.getLsbD 0 = true := by
  constructor
  · intro h
    have := congrArg (fun q => BitVec.getLsbD q 0) h
    simpa using this
  · intro h
    apply BitVec.eq_of_getLsbD_eq
    intro i hi
    rw [BitVec.getLsbD_and]
    by_cases e : i = 0
    · subst e; rw [h]; rfl
    · have : (1#64).getLsbD i = false := by simp [BitVec.getLsbD_one, e]
      rw [this, Bool.and_false]
theorem fgB_bit {x : Int64} {k : Nat} (hk : k < 61) : fgB x k ↔ x.toBitVec.getLsbD k = true := by
  unfold fgB
  have e : (x >>> ((nI k).toInt64 &&& 63)).toBitVec = x.toBitVec.sshiftRight k := by
    show x.toBitVec.sshiftRight (((nI k).toInt64 &&& 63).toBitVec.smod 64).toNat = _
    rw [fg_k k hk]
  rw [← Int64.toBitVec_inj, Int64.toBitVec_and, e]
  show x.toBitVec.sshiftRight k &&& 1#64 = 1#64 ↔ _
  rw [bv_1, BitVec.getLsbD_sshiftRight]
  simp
  have : k < 64 := by omega
  simp [this]
  intro z; omega
theorem fgB_or {x : Int64} {h k : Nat} (hh : h < 61) (hk : k < 61) : fgB (x ||| ((1 : Int64) <<< ((nI h).toInt64 &&& 63))) k ↔ (k = h ∨ fgB x k) := by
  rw [fgB_bit hk, fgB_bit hk, Int64.toBitVec_or, BitVec.getLsbD_or]
  have e : ((1 : Int64) <<< ((nI h).toInt64 &&& 63)).toBitVec = 1#64 <<< h := by
    show (1 : Int64).toBitVec <<< (((nI h).toInt64 &&& 63).toBitVec.smod 64).toNat = _
    rw [fg_k h hh]; rfl
  rw [e, BitVec.getLsbD_shiftLeft, BitVec.getLsbD_one]
  by_cases q : k = h
  · subst q
    have : k < 64 := by omega
    simp [this]
  · have : (decide (k < 64) && !decide (k < h) && (decide (0 < 64) && decide (k - h = 0))) = false := by
      by_cases a : k < h
      · simp [a]
      · have : ¬ k - h = 0 := by omega
        simp [this]
    rw [this, Bool.or_false]
    exact ⟨fun z => Or.inr z, fun z => z.resolve_left q⟩
theorem gL_at {S : St} {f k : Nat} {v : Int64} : s_L (s_setL S f k v) f k = v := u2_at
theorem crZ.fog {U : St} {c ca cg cl ce P h : Nat} {D : Nat → Int32} (hz : crZ U c ca cg cl ce P D) (hh : h < 61) : crZ (s_setL U 5 c (s_L U 5 c ||| ((1 : Int64) <<< ((nI h).toInt64 &&& 63)))) c ca cg cl ce P (upd D (98 + h) (nI 1)) := by
  obtain ⟨⟨g0, g1, g2, g3, g4⟩, g5, g6, g7, g8, g9, gA⟩ := hz
  refine ⟨⟨g0.trans (pk_un (by omega)).symm, g1.trans (pk_un (by omega)).symm, g2.trans (pk_un (by omega)).symm, g3.trans (pk_un (by omega)).symm, g4⟩, (pk_un (by omega)).trans g5, g6, fun p hp => by rw [pk_un (by omega), pk_un (by omega), pk_un (by omega)]; exact g7 p hp, fun p hp hp7 => by rw [pk_un (by omega), pk_un (by omega), pk_un (by omega)]; exact g8 p hp hp7, fun p hp q hq => by rw [pk_un (by omega)]; exact g9 p hp q hq, fun i hi => ?_⟩
  have e : s_L (s_setL U 5 c (s_L U 5 c ||| ((1 : Int64) <<< ((nI h).toInt64 &&& 63)))) 5 c = s_L U 5 c ||| ((1 : Int64) <<< ((nI h).toInt64 &&& 63)) := gL_at
  rw [e, fgB_or hh (by omega)]
  by_cases q : i = h
  · subst q; rw [pk_us]; exact ⟨fun _ => rfl, fun _ => Or.inl rfl⟩
  · rw [pk_un (by omega), ← gA i hi]
    exact ⟨fun z => z.resolve_left q, fun z => Or.inr z⟩
theorem c_X1_readFog (w : Wd) (l : Launch) (U : St) (T : Nat → Int32) (c ca cg cl ce L n q P : Nat) (D : Nat → Int32) (h : cwP U T c ca cg cl ce L n) (hz : crZ U c ca cg cl ce P D) (fine : Prop) [Decidable fine] : gx_M w l yX1_readFog cX1_readFog 4 none rmX1_readFog [.ref (ad (w_b w) 3), .int (bI fine), .int (nI q)] (rk3 U n 0) (pxCr U c ca cg cl ce L (if fine then fogN T L n P D else .error (ftN 4 q))) := by
  obtain ⟨hd, hT, hi, hn, hK, hk5⟩ := id h
  have hL := hd.2.1.2.2.2
  have o3 : ∀ S, 121 ≤ s_z S → gx_o S 3 1 := fun S q => o_st q rfl rfl
  have zu : 121 ≤ s_z U := hd.2.1.1
  generalize hR : (if fine then fogN T L n P D else .error (ftN 4 q)) = R
  generalize hpost : pxCr U c ca cg cl ce L R = post
  refine gx_start rfl 1 rfl (Nat.le_of_ble_eq_true rfl) ?_
  intro X C _ hl
  subst hl
  refine gx_L (L' := [_, _, _, _]) rfl ?_
  by_cases hf : fine
  · rw [if_pos hf] at hR
    rw [bI_t hf]
    refine g_aload_n (pc := 0) C dX1_readFog_0 rfl ?_
    refine g_iload_n (pc := 1) C dX1_readFog_1 rfl ?_
    refine g_iload_n (pc := 2) C dX1_readFog_2 rfl ?_
    refine g_iconst (pc := 3) (v := nI 4) C dX1_readFog_3 (by decide) ?_
    refine cf_X1_73 (pc := 4) C (by exact (o3 _ zu).1) (zk (by exact (o3 _ zu).2)) (c_X5_allow_X1 _ _ U L hd n 0 (nI 1) (nI q) (nI 4) (Or.inr rfl)) ⟨rfl, rfl⟩ ⟨rfl, rfl⟩ ⟨Nat.zero_le _, Nat.zero_le _⟩ rfl (Nat.le_of_ble_eq_true rfl) dX1_readFog_4 ?_
    rw [al1]
    refine g_if_eq (pc := 7) C 40 dX1_readFog_7 rfl (fun c1 => ?_) (fun c1 => ?_)
    · exact absurd c1 (by decide)
    · have t1 := tn_le (T := T) hn
      refine g_aload_n (pc := 10) C dX1_readFog_10 rfl ?_
      refine g_iconst (pc := 11) (v := nI 0) C dX1_readFog_11 (by decide) ?_
      refine g_bipush (pc := 12) (v := nI 60) C dX1_readFog_12 (by decide) ?_
      refine cf_X1_81 (pc := 14) C (by exact (o3 _ zu).1) (zk (by exact (o3 _ zu).2)) (t3_num _ _ hT hd hn 0 (nI 0) (nI 60)) ⟨rfl, rfl⟩ ⟨rfl, rfl⟩ ⟨Nat.zero_le _, Nat.zero_le _⟩ rfl (Nat.le_of_ble_eq_true rfl) dX1_readFog_14 ?_
      refine g_istore_n (pc := 17) (L' := [_, _, some (.int _), _]) C dX1_readFog_17 rfl rfl ?_
      have c1 := tn_c (T := T) hL hn (nI 0) (nI 60)
      unfold fogN at hR
      rcases c1 with ⟨a1, a2, a3⟩ | ⟨e1, a1, a2, a3⟩
      · rw [a1] at hR
        simp only at hR
        rw [a2]
        obtain ⟨x, hx, ex⟩ := nat_of (by omega) a3
        rw [ex] at hR ⊢
        rw [nI_clamp (by omega)] at hR
        generalize tnN T L n = n1 at t1 hR ⊢
        refine g_aload_n (pc := 18) C dX1_readFog_18 rfl ?_
        refine fg_X1_25 (pc := 19) C (by exact (o3 _ zu).1) (zk (by exact (o3 _ zu).2)) dX1_readFog_19 ?_
        refine gx_ti (y := 0) rk3_gF ?_
        refine g_if_ne (pc := 22) C 40 dX1_readFog_22 rfl (fun c2 => ?_) (fun c2 => ?_)
        · exact absurd rfl c2
        · refine g_aload_n (pc := 25) C dX1_readFog_25 rfl ?_
          refine fgr_X1_9 (pc := 26) C (by exact (o3 _ zu).1) (zk (by exact (o3 _ zu).2)) (by exact hi) dX1_readFog_26 ?_
          refine g_dup (pc := 29) C dX1_readFog_29 rfl ?_
          refine fg_X1_100 (pc := 30) C (by exact hK.1.1) (zk (by exact hK.1.2)) dX1_readFog_30 ?_
          refine g_lconst (pc := 33) (v := 1) C dX1_readFog_33 (by decide) ?_
          refine g_iload_n (pc := 34) C dX1_readFog_34 rfl ?_
          refine g_lshl (pc := 35) C dX1_readFog_35 ?_
          refine g_lor (pc := 36) C dX1_readFog_36 ?_
          refine fp_X1_100 (pc := 37) C (by exact hK.1.1) (zk (by exact hK.1.2)) dX1_readFog_37 ?_
          rw [← hpost]
          exact g_return (pc := 40) C ⟨rfl, rfl⟩ dX1_readFog_40 (pxCr_o hR.symm cch_L rfl (hz.fog (by omega)))
      · rw [a1] at hR
        simp only at hR
        rw [a2]
        refine g_aload_n (pc := 18) C dX1_readFog_18 rfl ?_
        refine fg_X1_25 (pc := 19) C (by exact (o3 _ zu).1) (zk (by exact (o3 _ zu).2)) dX1_readFog_19 ?_
        refine gx_ti (y := nI e1) rk3_gF ?_
        refine g_if_ne (pc := 22) C 40 dX1_readFog_22 rfl (fun c2 => ?_) (fun c2 => ?_)
        · rw [← hpost]
          exact g_return (pc := 40) C ⟨rfl, rfl⟩ dX1_readFog_40 (pxCr_e hR.symm cch.refl t1.2 rfl)
        · exact absurd (Decidable.not_not.mp c2) a3
  · rw [if_neg hf] at hR
    rw [bI_f hf]
    refine g_aload_n (pc := 0) C dX1_readFog_0 rfl ?_
    refine g_iload_n (pc := 1) C dX1_readFog_1 rfl ?_
    refine g_iload_n (pc := 2) C dX1_readFog_2 rfl ?_
    refine g_iconst (pc := 3) (v := nI 4) C dX1_readFog_3 (by decide) ?_
    refine cf_X1_73 (pc := 4) C (by exact (o3 _ zu).1) (zk (by exact (o3 _ zu).2)) (c_X5_allow_X1 _ _ U L hd n 0 (nI 0) (nI q) (nI 4) (Or.inl rfl)) ⟨rfl, rfl⟩ ⟨rfl, rfl⟩ ⟨Nat.zero_le _, Nat.zero_le _⟩ rfl (Nat.le_of_ble_eq_true rfl) dX1_readFog_4 ?_
    refine g_if_eq (pc := 7) C 40 dX1_readFog_7 rfl (fun c1 => ?_) (fun c1 => ?_)
    · rw [← hpost]
      exact g_return (pc := 40) C ⟨rfl, rfl⟩ dX1_readFog_40 (pxCr_e hR.symm cch.refl hn (by rw [al4]))
    · exact absurd rfl c1
