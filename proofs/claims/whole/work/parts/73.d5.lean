/-! ===== THE CLASS: hours that are asked ===== -/
theorem g_iincV {w : Wd} {X : FX} {S : St} {n1 n2 pc : Nat} {L : List (Option Value)} {st : List Value} {Q : State → Prop} {cc : ByteArray} {nL : Nat} {own : String} {rm : Room} {ret : Option FieldType} (C : gx_C w X cc nL own rm ret) {i : Nat} {n : Int} {x v : Int32} {o : Option Nat} {L' : List (Option Value)} (hd : decode cc pc = .ok (.iinc (i + 1) n, 3)) (hx : L[i + 1]? = some (some (.int x))) (hv : x + Int32.ofInt n = v) (hp : L[i]? = some (some (va_rf o))) (h : lst0 L (i + 1) (.int v) = L') (k : gx_G w X S n1 n2 (pc + 3) L' st Q) : gx_G w X S n1 n2 pc L st Q := g_iinc C hd hx hv ((lst1_0 L i o _ hp).trans h) k
theorem ft_cp {S S1 : St} (hf : ftK S) (q1 : eqO (dR 86 87) S S1) (h1 : rvK S1 86 87) : ftK S1 := hf.z q1 (by unfold dR; omega) ⟨q1.o hf.2.2.2.2.2.1.1, (q1.R (by unfold dR; omega)).trans hf.2.2.2.2.2.1.2.1, q1.a hf.2.2.2.2.2.1.2.2.1, (q1.R (by unfold dR; omega)).trans hf.2.2.2.2.2.1.2.2.2.1, q1.a hf.2.2.2.2.2.1.2.2.2.2.1, hf.2.2.2.2.2.1.2.2.2.2.2⟩ h1
theorem dF_2000 : ∀ k, dF k → k < 2000 := by
  intro k h
  unfold dF at h
  omega
theorem c_X2_hourAllOver (w : Wd) (l : Launch) (S : St) (c ca cg cl ce P H : Nat) (ro : Option Nat) (fr : Option ((Nat → Int64) → Int64)) (u : Nat → Int32) (hf : ftK S) (hw : nwS S c ca cg cl ce P u) (ha : sdA P u) (hfr : frC2 S ro fr) (hH : u 10 = nI H) (hn : H ≤ 999) : gx_M w l yX2_hourAllOver cX2_hourAllOver 4 (some .int) rmX2_hourAllOver [.ref (ad (w_b w) 82), .ref (ad (w_b w) 7), va_rf (ro.map (ad (w_b w)))] S (fun v S' => v = some (.int (overF fr (nI 0) u P H 100 0)) ∧ eqO dF S S' ∧ ftK S') := by
  obtain ⟨hz, r1, r2, hc, hk, hr⟩ := id hw
  have hP7 := hc.2.2
  have hap := apart_ft hk
  have o7 : gx_o S 7 8 := o_st hz rfl rfl
  have of0 : gx_o S 82 2 := o_st hz rfl rfl
  have rt0 := hf.2.2.1
  have ort := hf.2.2.2.2.2.2.1
  generalize hpost : (fun (v : Option Value) (S' : St) => v = some (.int (overF fr (nI 0) u P H 100 0)) ∧ eqO dF S S' ∧ ftK S') = post
  refine gx_start rfl 1 (by cases ro <;> rfl) (Nat.le_of_ble_eq_true (by cases ro <;> rfl)) ?_
  intro X C _ hl
  subst hl
  refine gx_L (L' := [some (.ref (ad (w_b w) 82)), some (.ref (ad (w_b w) 7)), some (va_rf (ro.map (ad (w_b w)))), none]) (by cases ro <;> rfl) ?_
  refine g_aload_n (pc := 0) C dX2_hourAllOver_0 rfl ?_
  refine fgr_X2_21 (pc := 1) C (by exact of0.1) (zk (by exact of0.2)) (by exact rt0) dX2_hourAllOver_1 ?_
  refine g_aload_n (pc := 4) C dX2_hourAllOver_4 rfl ?_
  refine fgr_X2_32 (pc := 5) C (by exact o7.1) (zk (by exact o7.2)) (by exact r2) dX2_hourAllOver_5 ?_
  refine cg_X2_37 (pc := 8) C (by exact ort.1) (zk (by exact ort.2)) (c_X6_copyFrom _ _ S 86 87 13 14 P u hP7 hf.2.2.2.2.2.2 hr) ⟨rfl, rfl⟩ ⟨Nat.zero_le _, Nat.zero_le _⟩ rfl (Nat.le_of_ble_eq_true rfl) dX2_hourAllOver_8 ?_
  rintro _ S1 ⟨rfl, q1, h1⟩
  have f1 : ftK S1 := ft_cp hf q1 h1.1
  refine g_iconst (pc := 11) (v := nI 0) C dX2_hourAllOver_11 (by decide) ?_
  refine g_istore_nV (pc := 12) (i := 2) (L' := [_, _, _, _]) C dX2_hourAllOver_12 rfl rfl rfl rfl ?_
  have loop : ∀ d i S1, i + d = 100 → overF fr (nI 0) u P H d i = overF fr (nI 0) u P H 100 0 → eqO dF S S1 → ftK S1 → rvS S1 86 87 P (pnF fr (nI 0) u P H i) → gx_G w X S1 0 0 13 [some (.ref (ad (w_b w) 82)), some (.ref (ad (w_b w) 7)), some (va_rf (ro.map (ad (w_b w)))), some (.int (nI i))] [] (gx_E w X post) := by
    intro d
    induction d with
    | zero =>
      intro i S1 hi ho q1 f1 h1
      have hi : i = 100 := hi
      subst hi
      refine g_iload_n (pc := 13) C dX2_hourAllOver_13 rfl ?_
      refine g_bipush (pc := 14) (v := nI 100) C dX2_hourAllOver_14 (by decide) ?_
      refine g_icmp_ge (pc := 16) C 65 dX2_hourAllOver_16 rfl (fun c1 => ?_) (fun c1 => ?_)
      · refine g_bipush (pc := 65) (v := -2) C dX2_hourAllOver_65 (by decide) ?_
        rw [← hpost]
        exact g_ireturn (pc := 67) C ⟨rfl, rfl⟩ dX2_hourAllOver_67 ⟨by rw [← ho]; rfl, q1, f1⟩
      · exact absurd (nI_le (Nat.le_refl 100) (by omega)) c1
    | succ d ih =>
      intro i S1 hi ho q1 f1 h1
      have w1 := hw.to q1 dF_now
      obtain ⟨hz1, r11, r21, hc0, -, -⟩ := id w1
      have o71 : gx_o S1 7 8 := o_st hz1 rfl rfl
      have of1 : gx_o S1 82 2 := o_st hz1 rfl rfl
      have op1 : gx_o S1 83 3 := f1.2.2.2.2.2.1.1
      have rp1 := f1.2.1
      have rt1 := f1.2.2.1
      have ort1 := h1.1.1
      have hc1 : crS S1 c ca cg cl ce P (pnF fr (nI 0) u P H i) := hc0.u (fun j hj => pnF_out hP7 hj i)
      have hhr := pnF_hour (fr := fr) (drawn := nI 0) (P := P) hP7 hH i
      refine g_iload_n (pc := 13) C dX2_hourAllOver_13 rfl ?_
      refine g_bipush (pc := 14) (v := nI 100) C dX2_hourAllOver_14 (by decide) ?_
      refine g_icmp_ge (pc := 16) C 65 dX2_hourAllOver_16 rfl (fun c1 => ?_) (fun c1 => ?_)
      · exact absurd c1 (nI_ge (by omega) (by omega))
      · refine g_aload_n (pc := 19) C dX2_hourAllOver_19 rfl ?_
        refine fgr_X2_21 (pc := 20) C (by exact of1.1) (zk (by exact of1.2)) (by exact rt1) dX2_hourAllOver_20 ?_
        refine g_aload_n (pc := 23) C dX2_hourAllOver_23 rfl ?_
        refine fgr_X2_41 (pc := 24) C (by exact o71.1) (zk (by exact o71.2)) (by exact r11) dX2_hourAllOver_24 ?_
        refine cf_X2_53 (pc := 27) C (by exact ort1.1) (zk (by exact ort1.2)) (c_X6_allOver _ _ S1 c ca cg cl ce 86 87 P _ hc1 h1) ⟨rfl, rfl⟩ ⟨rfl, rfl⟩ ⟨Nat.zero_le _, Nat.zero_le _⟩ rfl (Nat.le_of_ble_eq_true rfl) dX2_hourAllOver_27 ?_
        refine g_if_eq (pc := 30) C 41 dX2_hourAllOver_30 rfl (fun c2 => ?_) (fun c2 => ?_)
        · have c2 := bI_0.mp c2
          refine g_aload_n (pc := 41) C dX2_hourAllOver_41 rfl ?_
          refine fgr_X2_12 (pc := 42) C (by exact of1.1) (zk (by exact of1.2)) (by exact rp1) dX2_hourAllOver_42 ?_
          refine g_aload_n (pc := 45) C dX2_hourAllOver_45 rfl ?_
          refine fgr_X2_41 (pc := 46) C (by exact o71.1) (zk (by exact o71.2)) (by exact r11) dX2_hourAllOver_46 ?_
          refine g_aload_n (pc := 49) C dX2_hourAllOver_49 rfl ?_
          refine fgr_X2_21 (pc := 50) C (by exact of1.1) (zk (by exact of1.2)) (by exact rt1) dX2_hourAllOver_50 ?_
          refine g_aload_nV (pc := 53) C dX2_hourAllOver_53 rfl ?_
          refine g_iconst (pc := 54) (v := nI 0) C dX2_hourAllOver_54 (by decide) ?_
          refine cg_X2_49 (pc := 55) C (by exact op1.1) (zk (by exact op1.2)) (c_X3_sail _ _ S1 83 84 85 c ca cg cl ce 86 87 P (H + i) ro fr False (pnF fr (nI 0) u P H i) f1.2.2.2.2.2.1 hc1 h1 (sdA_pn hP7 ha i) (hfr.to q1 dF_2000) hap hhr (by omega)) ⟨rfl, rfl⟩ ⟨Nat.zero_le _, Nat.zero_le _⟩ rfl (Nat.le_of_ble_eq_true rfl) dX2_hourAllOver_55 ?_
          rintro _ S2 ⟨rfl, q2, p2, h2⟩
          refine g_pop (pc := 58) C dX2_hourAllOver_58 rfl ?_
          refine g_iincV (pc := 59) (i := 2) (L' := [_, _, _, _]) C dX2_hourAllOver_59 rfl (nI_1 _) rfl rfl ?_
          refine g_goto (pc := 62) C 13 dX2_hourAllOver_62 rfl ?_
          exact ih (i + 1) S2 (by omega) (by rw [← ho]; exact (if_neg c2).symm) (q1.trans (q2.mono dT_dF)) (f1.z q2 (by unfold dT dP dR; omega) p2 h2.1) h2
        · have c2 := Decidable.not_not.mp (fun q => c2 (bI_0.mpr q))
          refine g_aload_n (pc := 33) C dX2_hourAllOver_33 rfl ?_
          refine fgr_X2_21 (pc := 34) C (by exact of1.1) (zk (by exact of1.2)) (by exact rt1) dX2_hourAllOver_34 ?_
          refine fg_X2_57 (pc := 37) C (by exact ort1.1) (zk (by exact ort1.2)) dX2_hourAllOver_37 ?_
          rw [← hpost]
          refine gx_ti (y := nI (H + i)) (h1.2.1.1.trans hhr) ?_
          exact g_ireturn (pc := 40) C ⟨rfl, rfl⟩ dX2_hourAllOver_40 ⟨by rw [← ho]; exact congrArg (fun z => some (Value.int z)) (if_pos c2).symm, q1, f1⟩
  exact loop 100 0 S1 rfl rfl (q1.mono dR_dF) f1 h1
theorem c_X2_hourAboard (w : Wd) (l : Launch) (S : St) (c ca cg cl ce P H p : Nat) (ro : Option Nat) (fr : Option ((Nat → Int64) → Int64)) (u : Nat → Int32) (hf : ftK S) (hw : nwS S c ca cg cl ce P u) (ha : sdA P u) (hfr : frC2 S ro fr) (hH : u 10 = nI H) (hn : H ≤ 999) (hp : p < P) : gx_M w l yX2_hourAboard cX2_hourAboard 7 (some .int) rmX2_hourAboard [.ref (ad (w_b w) 82), .ref (ad (w_b w) 7), va_rf (ro.map (ad (w_b w))), .int (nI p)] S (fun v S' => v = some (.int (waitsF fr (nI 0) u P H p 100 0)) ∧ eqO dF S S' ∧ ftK S') := by
  obtain ⟨hz, r1, r2, hc, hk, hr⟩ := id hw
  have hP7 := hc.2.2
  have hap := apart_ft hk
  have o7 : gx_o S 7 8 := o_st hz rfl rfl
  have of0 : gx_o S 82 2 := o_st hz rfl rfl
  have rt0 := hf.2.2.1
  have ort := hf.2.2.2.2.2.2.1
  generalize hpost : (fun (v : Option Value) (S' : St) => v = some (.int (waitsF fr (nI 0) u P H p 100 0)) ∧ eqO dF S S' ∧ ftK S') = post
  refine gx_start rfl 3 (by cases ro <;> rfl) (Nat.le_of_ble_eq_true (by cases ro <;> rfl)) ?_
  intro X C _ hl
  subst hl
  refine gx_L (L' := [some (.ref (ad (w_b w) 82)), some (.ref (ad (w_b w) 7)), some (va_rf (ro.map (ad (w_b w)))), some (.int (nI p)), none, none, none]) (by cases ro <;> rfl) ?_
  refine g_aload_n (pc := 0) C dX2_hourAboard_0 rfl ?_
  refine fgr_X2_21 (pc := 1) C (by exact of0.1) (zk (by exact of0.2)) (by exact rt0) dX2_hourAboard_1 ?_
  refine g_aload_n (pc := 4) C dX2_hourAboard_4 rfl ?_
  refine fgr_X2_32 (pc := 5) C (by exact o7.1) (zk (by exact o7.2)) (by exact r2) dX2_hourAboard_5 ?_
  refine cg_X2_37 (pc := 8) C (by exact ort.1) (zk (by exact ort.2)) (c_X6_copyFrom _ _ S 86 87 13 14 P u hP7 hf.2.2.2.2.2.2 hr) ⟨rfl, rfl⟩ ⟨Nat.zero_le _, Nat.zero_le _⟩ rfl (Nat.le_of_ble_eq_true rfl) dX2_hourAboard_8 ?_
  rintro _ S1 ⟨rfl, q1, h1⟩
  have f1 : ftK S1 := ft_cp hf q1 h1.1
  refine g_iconst (pc := 11) (v := nI 0) C dX2_hourAboard_11 (by decide) ?_
  refine g_istore (pc := 12) (L' := [_, _, _, some (.int _), _, _, _]) C dX2_hourAboard_12 rfl rfl ?_
  have loop : ∀ d i S1 z5 z6, i + d = 100 → waitsF fr (nI 0) u P H p d i = waitsF fr (nI 0) u P H p 100 0 → eqO dF S S1 → ftK S1 → rvS S1 86 87 P (pnF fr (nI 0) u P H i) → gx_G w X S1 0 0 14 [some (.ref (ad (w_b w) 82)), some (.ref (ad (w_b w) 7)), some (va_rf (ro.map (ad (w_b w)))), some (.int (nI p)), some (.int (nI i)), z5, z6] [] (gx_E w X post) := by
    intro d
    induction d with
    | zero =>
      intro i S1 z5 z6 hi ho q1 f1 h1
      have hi : i = 100 := hi
      subst hi
      refine g_iload (pc := 14) C dX2_hourAboard_14 rfl ?_
      refine g_bipush (pc := 16) (v := nI 100) C dX2_hourAboard_16 (by decide) ?_
      refine g_icmp_ge (pc := 18) C 68 dX2_hourAboard_18 rfl (fun c1 => ?_) (fun c1 => ?_)
      · refine g_bipush (pc := 68) (v := -2) C dX2_hourAboard_68 (by decide) ?_
        rw [← hpost]
        exact g_ireturn (pc := 70) C ⟨rfl, rfl⟩ dX2_hourAboard_70 ⟨by rw [← ho]; rfl, q1, f1⟩
      · exact absurd (nI_le (Nat.le_refl 100) (by omega)) c1
    | succ d ih =>
      intro i S1 z5 z6 hi ho q1 f1 h1
      have w1 := hw.to q1 dF_now
      obtain ⟨hz1, r11, r21, hc0, -, -⟩ := id w1
      have o71 : gx_o S1 7 8 := o_st hz1 rfl rfl
      have of1 : gx_o S1 82 2 := o_st hz1 rfl rfl
      have op1 : gx_o S1 83 3 := f1.2.2.2.2.2.1.1
      have rp1 := f1.2.1
      have rt1 := f1.2.2.1
      have ort1 := h1.1.1
      have hc1 : crS S1 c ca cg cl ce P (pnF fr (nI 0) u P H i) := hc0.u (fun j hj => pnF_out hP7 hj i)
      have hhr := pnF_hour (fr := fr) (drawn := nI 0) (P := P) hP7 hH i
      refine g_iload (pc := 14) C dX2_hourAboard_14 rfl ?_
      refine g_bipush (pc := 16) (v := nI 100) C dX2_hourAboard_16 (by decide) ?_
      refine g_icmp_ge (pc := 18) C 68 dX2_hourAboard_18 rfl (fun c1 => ?_) (fun c1 => ?_)
      · exact absurd c1 (nI_ge (by omega) (by omega))
      · refine g_aload_n (pc := 21) C dX2_hourAboard_21 rfl ?_
        refine fgr_X2_21 (pc := 22) C (by exact of1.1) (zk (by exact of1.2)) (by exact rt1) dX2_hourAboard_22 ?_
        refine fg_X2_57 (pc := 25) C (by exact ort1.1) (zk (by exact ort1.2)) dX2_hourAboard_25 ?_
        refine gx_ti (y := nI (H + i)) (h1.2.1.1.trans hhr) ?_
        refine g_istore (pc := 28) (L' := [_, _, _, _, some (.int _), _, _]) C dX2_hourAboard_28 rfl rfl ?_
        refine g_aload_n (pc := 30) C dX2_hourAboard_30 rfl ?_
        refine fgr_X2_12 (pc := 31) C (by exact of1.1) (zk (by exact of1.2)) (by exact rp1) dX2_hourAboard_31 ?_
        refine g_aload_n (pc := 34) C dX2_hourAboard_34 rfl ?_
        refine fgr_X2_41 (pc := 35) C (by exact o71.1) (zk (by exact o71.2)) (by exact r11) dX2_hourAboard_35 ?_
        refine g_aload_n (pc := 38) C dX2_hourAboard_38 rfl ?_
        refine fgr_X2_21 (pc := 39) C (by exact of1.1) (zk (by exact of1.2)) (by exact rt1) dX2_hourAboard_39 ?_
        refine g_aload_nV (pc := 42) C dX2_hourAboard_42 rfl ?_
        refine g_iconst (pc := 43) (v := nI 0) C dX2_hourAboard_43 (by decide) ?_
        refine cg_X2_49 (pc := 44) C (by exact op1.1) (zk (by exact op1.2)) (c_X3_sail _ _ S1 83 84 85 c ca cg cl ce 86 87 P (H + i) ro fr False (pnF fr (nI 0) u P H i) f1.2.2.2.2.2.1 hc1 h1 (sdA_pn hP7 ha i) (hfr.to q1 dF_2000) hap hhr (by omega)) ⟨rfl, rfl⟩ ⟨Nat.zero_le _, Nat.zero_le _⟩ rfl (Nat.le_of_ble_eq_true rfl) dX2_hourAboard_44 ?_
        rintro _ S2 ⟨rfl, q2, p2, h2⟩
        have hs128 : setF fr (nI 0) (pnF fr (nI 0) u P H i) P (H + i) < 128 := setF_128 hP7
        refine gx_tv (y := .int (nI (setF fr (nI 0) (pnF fr (nI 0) u P H i) P (H + i)))) rfl ?_
        refine g_istore (pc := 47) (L' := [_, _, _, _, _, some (.int _), _]) C dX2_hourAboard_47 rfl rfl ?_
        refine g_iload (pc := 49) C dX2_hourAboard_49 rfl ?_
        refine g_iload_n (pc := 51) C dX2_hourAboard_51 rfl ?_
        refine g_ishr (pc := 52) C dX2_hourAboard_52 ?_
        refine g_iconst (pc := 53) (v := nI 1) C dX2_hourAboard_53 (by decide) ?_
        refine g_iand (pc := 54) C dX2_hourAboard_54 ?_
        refine g_iconst (pc := 55) (v := nI 1) C dX2_hourAboard_55 (by decide) ?_
        have q3 := q1.trans (q2.mono dT_dF)
        have f3 := f1.z q2 (by unfold dT dP dR; omega) p2 h2.1
        refine g_icmp_ne (pc := 56) C 62 dX2_hourAboard_56 rfl (fun c2 => ?_) (fun c2 => ?_)
        · have c2 : ¬ (setF fr (nI 0) (pnF fr (nI 0) u P H i) P (H + i)).testBit p = true := fun q => c2 ((isOf_nI _ hs128 p (by omega)).mpr q)
          refine g_iinc (pc := 62) (L' := [_, _, _, some (.int _), _, _, _]) C dX2_hourAboard_62 rfl (nI_1 _) rfl ?_
          refine g_goto (pc := 65) C 14 dX2_hourAboard_65 rfl ?_
          exact ih (i + 1) S2 _ _ (by omega) (by rw [← ho]; exact (if_neg c2).symm) q3 f3 h2
        · have c2 : (setF fr (nI 0) (pnF fr (nI 0) u P H i) P (H + i)).testBit p = true := (isOf_nI _ hs128 p (by omega)).mp (Decidable.not_not.mp c2)
          refine g_iload (pc := 59) C dX2_hourAboard_59 rfl ?_
          rw [← hpost]
          exact g_ireturn (pc := 61) C ⟨rfl, rfl⟩ dX2_hourAboard_61 ⟨by rw [← ho]; exact congrArg (fun z => some (Value.int z)) (if_pos c2).symm, q3, f3⟩
  exact loop 100 0 S1 _ _ rfl rfl (q1.mono dR_dF) f1 h1
/-! whose AIM were best 0 -/
theorem upd_e {u : Nat → Int32} {p : Nat} {x : Int32} (hp : p < 7) : ∀ j, j < 10 ∨ 28 ≤ j → upd u (14 + p) x j = u j := fun j hj => pk_un (by omega)
theorem amU_upd {P p a : Nat} {u : Nat → Int32} (h : amU P u) (ha : a ≤ 99) : amU P (upd u (14 + p) (nI a)) := by
  intro q hq
  by_cases e : q = p
  · subst e; exact ⟨a, ha, pk_us⟩
  · rw [pk_un (by omega)]; exact h q hq
/-- a River's AIM anew -/
theorem rvS_aim {S : St} {r ra P p : Nat} {u : Nat → Int32} {x : Int32} (h : rvS S r ra P u) (hp : p < P) (hP : P ≤ 7) : rvS (s_setA S ra (upd (s_A S ra) p x)) r ra P (upd u (14 + p) x) := by
  obtain ⟨h0, ⟨h1, h2, h3, h4, h5, h6⟩, h7⟩ := h
  refine ⟨h0, ⟨by rw [pk_un (by omega)]; exact h1, by rw [pk_un (by omega)]; exact h2, by rw [onN_ext (v := u) P (fun q hq => pk_un (by omega))]; exact h3, by rw [pk_un (by omega)]; exact h4, by rw [pk_un (by omega)]; exact h5, fun q hq => ?_⟩, by rw [pk_un (by omega)]; exact h7.1, fun q hq => by rw [pk_un (by omega)]; exact h7.2 q hq⟩
  refine (congrFun gA_at q).trans ?_
  by_cases e : q = p
  · subst e; rw [pk_us, pk_us]
  · rw [pk_un e, pk_un (by omega)]; exact h6 q hq
theorem soo_s {c : Nat → Nat} {c0 p : Nat} : sooF c c0 (p + 1) = if (sooF c c0 p).2 < c p then (some p, c p) else sooF c c0 p := rfl
theorem c_X2_findSoothed (w : Wd) (l : Launch) (S : St) (c ca cg cl ce P H n : Nat) (ro : Option Nat) (fr : Option ((Nat → Int64) → Int64)) (u : Nat → Int32) (hf : ftK S) (hw : nwS S c ca cg cl ce P u) (ha : sdA P u) (hfr : frC2 S ro fr) (hH : u 10 = nI H) (hn : H + n < 2000) : gx_M w l yX2_findSoothed cX2_findSoothed 6 none rmX2_findSoothed [.ref (ad (w_b w) 82), .ref (ad (w_b w) 7), va_rf (ro.map (ad (w_b w))), .int (nI n)] S (fun v S' => v = none ∧ eqO dF S S' ∧ ftK S' ∧ s_I S' 201 82 = oI (sooA fr (nI 0) u P H n).1 ∧ s_I S' 202 82 = nI (sooA fr (nI 0) u P H n).2) := by
  obtain ⟨hz, r1, r2, hc, hk, hr⟩ := id hw
  have hP7 := hc.2.2
  have of0 : gx_o S 82 2 := o_st hz rfl rfl
  generalize hpost : (fun (v : Option Value) (S' : St) => v = none ∧ eqO dF S S' ∧ ftK S' ∧ s_I S' 201 82 = oI (sooA fr (nI 0) u P H n).1 ∧ s_I S' 202 82 = nI (sooA fr (nI 0) u P H n).2) = post
  refine gx_start rfl 2 (by cases ro <;> rfl) (Nat.le_of_ble_eq_true (by cases ro <;> rfl)) ?_
  intro X C _ hl
  subst hl
  refine gx_L (L' := [some (.ref (ad (w_b w) 82)), some (.ref (ad (w_b w) 7)), some (va_rf (ro.map (ad (w_b w)))), some (.int (nI n)), none, none]) (by cases ro <;> rfl) ?_
  have h82 : ¬ dT 83 84 85 86 87 82 := by unfold dT dP dR; omega
  /- one of them, or nobody: so many are over -/
  have one : ∀ S1 z4 z5 v, eqO dF S S1 → ftK S1 → sdA P v → (∀ j, j < 10 ∨ 28 ≤ j → v j = u j) → v 10 = nI H → rvS S1 86 87 P v → (∀ S2, eqO dF S S2 → ftK S2 → s_I S2 201 82 = s_I S1 201 82 → s_I S2 202 82 = s_I S1 202 82 → gx_G w X S2 0 0 74 [some (.ref (ad (w_b w) 82)), some (.ref (ad (w_b w) 7)), some (va_rf (ro.map (ad (w_b w)))), some (.int (nI n)), some (.int z4), some (.int (nI (ovN fr (nI 0) v P H n)))] [] (gx_E w X post)) → gx_G w X S1 0 0 52 [some (.ref (ad (w_b w) 82)), some (.ref (ad (w_b w) 7)), some (va_rf (ro.map (ad (w_b w)))), some (.int (nI n)), some (.int z4), z5] [] (gx_E w X post) := by
    intro S1 z4 z5 v q1 f1 hv he h10 h1 kk
    have w1 := hw.to q1 dF_now
    obtain ⟨hz1, r11, r21, hc0, -, -⟩ := id w1
    have o71 : gx_o S1 7 8 := o_st hz1 rfl rfl
    have of1 : gx_o S1 82 2 := o_st hz1 rfl rfl
    refine g_aload_n (pc := 52) C dX2_findSoothed_52 rfl ?_
    refine g_aload_n (pc := 53) C dX2_findSoothed_53 rfl ?_
    refine fgr_X2_41 (pc := 54) C (by exact o71.1) (zk (by exact o71.2)) (by exact r11) dX2_findSoothed_54 ?_
    refine g_aload_nV (pc := 57) C dX2_findSoothed_57 rfl ?_
    refine g_iload_n (pc := 58) C dX2_findSoothed_58 rfl ?_
    refine cg_X2_45 (pc := 59) C (by exact of1.1) (zk (by exact of1.2)) (c_X2_sailOn _ _ S1 c ca cg cl ce P H n ro fr v f1 (hc0.u he) hk h1 hv (hfr.to q1 dF_2000) h10 hn) ⟨rfl, rfl⟩ ⟨Nat.zero_le _, Nat.zero_le _⟩ rfl (Nat.le_of_ble_eq_true rfl) dX2_findSoothed_59 ?_
    rintro _ S2 ⟨rfl, q2, f2, h2⟩
    have of2 : gx_o S2 82 2 := o_st f2.1 rfl rfl
    have rt2 := f2.2.2.1
    have ort2 := h2.1.1
    refine g_aload_n (pc := 62) C dX2_findSoothed_62 rfl ?_
    refine fgr_X2_21 (pc := 63) C (by exact of2.1) (zk (by exact of2.2)) (by exact rt2) dX2_findSoothed_63 ?_
    refine fg_X2_79 (pc := 66) C (by exact ort2.1) (zk (by exact ort2.2)) dX2_findSoothed_66 ?_
    refine gx_ti (y := nI (onN (pnF fr (nI 0) v P H n) (nI 1) P)) h2.2.1.2.2.1 ?_
    refine cf_X2_82 (pc := 69) C (c_bitCount _ _ _ (onN (pnF fr (nI 0) v P H n) (nI 1) P) (onN_128 hP7)) ⟨rfl, rfl⟩ ⟨rfl, rfl⟩ ⟨Nat.zero_le _, Nat.zero_le _⟩ rfl (Nat.le_of_ble_eq_true rfl) dX2_findSoothed_69 ?_
    refine g_istore (pc := 72) (L' := [_, _, _, _, some (.int _), _]) C dX2_findSoothed_72 rfl rfl ?_
    exact kk S2 (q1.trans (q2.mono dT_dF)) f2 (q2.I h82) (q2.I h82)
  /- taken, or not -/
  have take : ∀ S2 z4 b0 m0 v, eqO dF S S2 → ftK S2 → s_I S2 201 82 = b0 → s_I S2 202 82 = m0 → (∀ S3, eqO dF S S3 → ftK S3 → s_I S3 201 82 = (if m0 < nI v then z4 else b0) → s_I S3 202 82 = (if m0 < nI v then nI v else m0) → gx_G w X S3 0 0 95 [some (.ref (ad (w_b w) 82)), some (.ref (ad (w_b w) 7)), some (va_rf (ro.map (ad (w_b w)))), some (.int (nI n)), some (.int z4), some (.int (nI v))] [] (gx_E w X post)) → gx_G w X S2 0 0 74 [some (.ref (ad (w_b w) 82)), some (.ref (ad (w_b w) 7)), some (va_rf (ro.map (ad (w_b w)))), some (.int (nI n)), some (.int z4), some (.int (nI v))] [] (gx_E w X post) := by
    intro S2 z4 b0 m0 v q2 f2 e1 e2 kk
    have of2 : gx_o S2 82 2 := o_st f2.1 rfl rfl
    refine g_iload (pc := 74) C dX2_findSoothed_74 rfl ?_
    refine g_aload_n (pc := 76) C dX2_findSoothed_76 rfl ?_
    refine fg_X2_71 (pc := 77) C (by exact of2.1) (zk (by exact of2.2)) dX2_findSoothed_77 ?_
    refine gx_ti (y := m0) e2 ?_
    refine g_icmp_le (pc := 80) C 95 dX2_findSoothed_80 rfl (fun c1 => ?_) (fun c1 => ?_)
    · have c1 : ¬ m0 < nI v := Int32.not_lt.mpr c1
      exact kk S2 q2 f2 (by rw [if_neg c1]; exact e1) (by rw [if_neg c1]; exact e2)
    · have c1 : m0 < nI v := Int32.not_le.mp c1
      refine g_aload_n (pc := 83) C dX2_findSoothed_83 rfl ?_
      refine g_iload (pc := 84) C dX2_findSoothed_84 rfl ?_
      refine fp_X2_68 (pc := 86) C (by exact of2.1) (zk (by exact of2.2)) dX2_findSoothed_86 ?_
      refine g_aload_n (pc := 89) C dX2_findSoothed_89 rfl ?_
      refine g_iload (pc := 90) C dX2_findSoothed_90 rfl ?_
      refine fp_X2_71 (pc := 92) C (by exact of2.1) (zk (by exact of2.2)) dX2_findSoothed_92 ?_
      exact kk _ (q2.trans ((eqO.sI (by unfold dF; omega)).trans (eqO.sI (by unfold dF; omega)))) f2 (by rw [if_pos c1]; rfl) (by rw [if_pos c1]; rfl)
  /- the next of them -/
  have loop : ∀ d i S1 z5, i + d = P → eqO dF S S1 → ftK S1 → s_I S1 201 82 = oI (sooF (fun p => ovN fr (nI 0) (upd u (14 + p) (nI 0)) P H n) (ovN fr (nI 0) u P H n) i).1 → s_I S1 202 82 = nI (sooF (fun p => ovN fr (nI 0) (upd u (14 + p) (nI 0)) P H n) (ovN fr (nI 0) u P H n) i).2 → gx_G w X S1 0 0 13 [some (.ref (ad (w_b w) 82)), some (.ref (ad (w_b w) 7)), some (va_rf (ro.map (ad (w_b w)))), some (.int (nI n)), some (.int (nI i)), z5] [] (gx_E w X post) := by
    intro d
    induction d with
    | zero =>
      intro i S1 z5 hi q1 f1 e1 e2
      have hi : i = P := hi
      subst hi
      have w1 := hw.to q1 dF_now
      obtain ⟨hz1, r11, r21, hc0, -, -⟩ := id w1
      have o71 : gx_o S1 7 8 := o_st hz1 rfl rfl
      have occ := hc0.1.1
      refine g_iload (pc := 13) C dX2_findSoothed_13 rfl ?_
      refine g_aload_n (pc := 15) C dX2_findSoothed_15 rfl ?_
      refine fgr_X2_41 (pc := 16) C (by exact o71.1) (zk (by exact o71.2)) (by exact r11) dX2_findSoothed_16 ?_
      refine fg_X2_74 (pc := 19) C (by exact occ.1) (zk (by exact occ.2)) dX2_findSoothed_19 ?_
      refine gx_ti (y := nI i) hc0.2.1.2.2.2.2.1 ?_
      refine g_icmp_ge (pc := 22) C 101 dX2_findSoothed_22 rfl (fun c1 => ?_) (fun c1 => ?_)
      · rw [← hpost]
        exact g_return (pc := 101) C ⟨rfl, rfl⟩ dX2_findSoothed_101 ⟨rfl, q1, f1, e1, e2⟩
      · exact absurd (nI_le (Nat.le_refl i) (by omega)) c1
    | succ d ih =>
      intro i S1 z5 hi q1 f1 e1 e2
      have w1 := hw.to q1 dF_now
      obtain ⟨hz1, r11, r21, hc0, -, hr1⟩ := id w1
      have o71 : gx_o S1 7 8 := o_st hz1 rfl rfl
      have of1 : gx_o S1 82 2 := o_st hz1 rfl rfl
      have occ := hc0.1.1
      have rt1 := f1.2.2.1
      have ort1 := f1.2.2.2.2.2.2.1
      refine g_iload (pc := 13) C dX2_findSoothed_13 rfl ?_
      refine g_aload_n (pc := 15) C dX2_findSoothed_15 rfl ?_
      refine fgr_X2_41 (pc := 16) C (by exact o71.1) (zk (by exact o71.2)) (by exact r11) dX2_findSoothed_16 ?_
      refine fg_X2_74 (pc := 19) C (by exact occ.1) (zk (by exact occ.2)) dX2_findSoothed_19 ?_
      refine gx_ti (y := nI P) hc0.2.1.2.2.2.2.1 ?_
      refine g_icmp_ge (pc := 22) C 101 dX2_findSoothed_22 rfl (fun c1 => ?_) (fun c1 => ?_)
      · exact absurd c1 (nI_ge (by omega) (by omega))
      · refine g_aload_n (pc := 25) C dX2_findSoothed_25 rfl ?_
        refine fgr_X2_21 (pc := 26) C (by exact of1.1) (zk (by exact of1.2)) (by exact rt1) dX2_findSoothed_26 ?_
        refine g_aload_n (pc := 29) C dX2_findSoothed_29 rfl ?_
        refine fgr_X2_32 (pc := 30) C (by exact o71.1) (zk (by exact o71.2)) (by exact r21) dX2_findSoothed_30 ?_
        refine cg_X2_37 (pc := 33) C (by exact ort1.1) (zk (by exact ort1.2)) (c_X6_copyFrom _ _ S1 86 87 13 14 P u hP7 f1.2.2.2.2.2.2 hr1) ⟨rfl, rfl⟩ ⟨Nat.zero_le _, Nat.zero_le _⟩ rfl (Nat.le_of_ble_eq_true rfl) dX2_findSoothed_33 ?_
        rintro _ S2 ⟨rfl, q2, h2⟩
        have f2 : ftK S2 := ft_cp f1 q2 h2.1
        have of2 : gx_o S2 82 2 := o_st f2.1 rfl rfl
        have rt2 := f2.2.2.1
        have ort2 := h2.1.1
        have rta2 := h2.1.2.1
        have ota2 := h2.1.2.2
        refine g_iload (pc := 36) C dX2_findSoothed_36 rfl ?_
        refine g_if_lt (pc := 38) C 52 dX2_findSoothed_38 rfl (fun c2 => ?_) (fun c2 => ?_)
        · exact absurd c2 (nI_pos (by omega))
        · refine g_aload_n (pc := 41) C dX2_findSoothed_41 rfl ?_
          refine fgr_X2_21 (pc := 42) C (by exact of2.1) (zk (by exact of2.2)) (by exact rt2) dX2_findSoothed_42 ?_
          refine fgr_X2_61 (pc := 45) C (by exact ort2.1) (zk (by exact ort2.2)) (by exact rta2) dX2_findSoothed_45 ?_
          refine g_iload (pc := 48) C dX2_findSoothed_48 rfl ?_
          refine g_iconst (pc := 50) (v := nI 0) C dX2_findSoothed_50 (by decide) ?_
          refine n_iast (pc := 51) (n := 7) C (by exact ota2.1) (by exact ota2.2.1) (zk (by exact ota2.2.2)) isn_v rfl (by omega) dX2_findSoothed_51 ?_
          have h3 := rvS_aim (x := nI 0) h2 (show i < P by omega) hP7
          have d82 : ¬ dR 86 87 82 := by unfold dR; omega
          refine one _ _ _ (upd u (14 + i) (nI 0)) ((q1.trans (q2.mono dR_dF)).trans (eqO.sA (by unfold dF; omega))) (f2.z (D := dR 86 87) (eqO.sA (Or.inr rfl)) d82 f2.2.2.2.2.2.1 h3.1) (ha.u (amU_upd ha.2.1 (by omega)) (upd_e (by omega))) (upd_e (by omega)) (by rw [pk_un (by omega)]; exact hH) h3 (fun S3 q3 f3 g1 g2 => ?_)
          refine take S3 _ _ _ _ q3 f3 (g1.trans ((q2.I d82).trans e1)) (g2.trans ((q2.I d82).trans e2)) (fun S4 q4 f4 g3 g4 => ?_)
          refine g_iinc (pc := 95) (L' := [_, _, _, some (.int _), _, _]) C dX2_findSoothed_95 rfl (nI_1 i) rfl ?_
          refine g_goto (pc := 98) C 13 dX2_findSoothed_98 rfl ?_
          have hb := sooF_lt (c := fun p => ovN fr (nI 0) (upd u (14 + p) (nI 0)) P H n) (c0 := ovN fr (nI 0) u P H n) (ovN_lt hP7) (fun p => ovN_lt hP7) i
          have hb2 : ovN fr (nI 0) (upd u (14 + i) (nI 0)) P H n < 8 := ovN_lt hP7
          refine ih (i + 1) S4 _ (by omega) q4 f4 ?_ ?_
          · rw [g3, soo_s]
            by_cases hlt : (sooF (fun p => ovN fr (nI 0) (upd u (14 + p) (nI 0)) P H n) (ovN fr (nI 0) u P H n) i).2 < ovN fr (nI 0) (upd u (14 + i) (nI 0)) P H n
            · rw [if_pos hlt, if_pos (nI_lt hlt (by omega))]; rfl
            · rw [if_neg hlt, if_neg (nI_nlt (by omega) (by omega))]
          · rw [g4, soo_s]
            by_cases hlt : (sooF (fun p => ovN fr (nI 0) (upd u (14 + p) (nI 0)) P H n) (ovN fr (nI 0) u P H n) i).2 < ovN fr (nI 0) (upd u (14 + i) (nI 0)) P H n
            · rw [if_pos hlt, if_pos (nI_lt hlt (by omega))]
            · rw [if_neg hlt, if_neg (nI_nlt (by omega) (by omega))]
  /- nobody first -/
  refine g_aload_n (pc := 0) C dX2_findSoothed_0 rfl ?_
  refine g_iconst (pc := 1) (v := -1) C dX2_findSoothed_1 (by decide) ?_
  refine fp_X2_68 (pc := 2) C (by exact of0.1) (zk (by exact of0.2)) dX2_findSoothed_2 ?_
  refine g_aload_n (pc := 5) C dX2_findSoothed_5 rfl ?_
  refine g_iconst (pc := 6) (v := -1) C dX2_findSoothed_6 (by decide) ?_
  refine fp_X2_71 (pc := 7) C (by exact of0.1) (zk (by exact of0.2)) dX2_findSoothed_7 ?_
  refine g_iconst (pc := 10) (v := -1) C dX2_findSoothed_10 (by decide) ?_
  refine g_istore (pc := 11) (L' := [_, _, _, some (.int _), _, _]) C dX2_findSoothed_11 rfl rfl ?_
  generalize hS0 : s_setI (s_setI S 201 82 (-1)) 202 82 (-1) = S0
  have q0 : eqO dF S S0 := by rw [← hS0]; exact (eqO.sI (by unfold dF; omega)).trans (eqO.sI (by unfold dF; omega))
  have f0 : ftK S0 := by rw [← hS0]; exact hf
  have e01 : s_I S0 201 82 = -1 := by rw [← hS0]; rfl
  have e02 : s_I S0 202 82 = -1 := by rw [← hS0]; rfl
  have w1 := hw.to q0 dF_now
  obtain ⟨hz1, r11, r21, hc0, -, hr1⟩ := id w1
  have o71 : gx_o S0 7 8 := o_st hz1 rfl rfl
  have of1 : gx_o S0 82 2 := o_st hz1 rfl rfl
  have occ := hc0.1.1
  have rt1 := f0.2.2.1
  have ort1 := f0.2.2.2.2.2.2.1
  refine g_iload (pc := 13) C dX2_findSoothed_13 rfl ?_
  refine g_aload_n (pc := 15) C dX2_findSoothed_15 rfl ?_
  refine fgr_X2_41 (pc := 16) C (by exact o71.1) (zk (by exact o71.2)) (by exact r11) dX2_findSoothed_16 ?_
  refine fg_X2_74 (pc := 19) C (by exact occ.1) (zk (by exact occ.2)) dX2_findSoothed_19 ?_
  refine gx_ti (y := nI P) hc0.2.1.2.2.2.2.1 ?_
  refine g_icmp_ge (pc := 22) C 101 dX2_findSoothed_22 rfl (fun c1 => ?_) (fun c1 => ?_)
  · exact absurd (Int32.le_trans (nI_pos' (n := P) (by omega)) c1) (by decide)
  · refine g_aload_n (pc := 25) C dX2_findSoothed_25 rfl ?_
    refine fgr_X2_21 (pc := 26) C (by exact of1.1) (zk (by exact of1.2)) (by exact rt1) dX2_findSoothed_26 ?_
    refine g_aload_n (pc := 29) C dX2_findSoothed_29 rfl ?_
    refine fgr_X2_32 (pc := 30) C (by exact o71.1) (zk (by exact o71.2)) (by exact r21) dX2_findSoothed_30 ?_
    refine cg_X2_37 (pc := 33) C (by exact ort1.1) (zk (by exact ort1.2)) (c_X6_copyFrom _ _ S0 86 87 13 14 P u hP7 f0.2.2.2.2.2.2 hr1) ⟨rfl, rfl⟩ ⟨Nat.zero_le _, Nat.zero_le _⟩ rfl (Nat.le_of_ble_eq_true rfl) dX2_findSoothed_33 ?_
    rintro _ S2 ⟨rfl, q2, h2⟩
    have f2 : ftK S2 := ft_cp f0 q2 h2.1
    have d82 : ¬ dR 86 87 82 := by unfold dR; omega
    refine g_iload (pc := 36) C dX2_findSoothed_36 rfl ?_
    refine g_if_lt (pc := 38) C 52 dX2_findSoothed_38 rfl (fun c2 => ?_) (fun c2 => ?_)
    · refine one S2 _ _ u (q0.trans (q2.mono dR_dF)) f2 ha (fun _ _ => rfl) hH h2 (fun S3 q3 f3 g1 g2 => ?_)
      refine take S3 _ _ _ _ q3 f3 (g1.trans ((q2.I d82).trans e01)) (g2.trans ((q2.I d82).trans e02)) (fun S4 q4 f4 g3 g4 => ?_)
      have hm1 : (-1 : Int32) < nI (ovN fr (nI 0) u P H n) := Int32.lt_of_lt_of_le (by decide) (nI_pos' (by have := ovN_lt (fr := fr) (drawn := nI 0) (said := u) (H := H) (n := n) hP7; omega))
      rw [if_pos hm1] at g3 g4
      refine g_iinc (pc := 95) (L' := [_, _, _, some (.int _), _, _]) C dX2_findSoothed_95 rfl (show (-1 : Int32) + Int32.ofInt 1 = nI 0 by decide) rfl ?_
      refine g_goto (pc := 98) C 13 dX2_findSoothed_98 rfl ?_
      exact loop P 0 S4 _ (by omega) q4 f4 g3 g4
    · exact absurd (show (-1 : Int32) < 0 by decide) c2
