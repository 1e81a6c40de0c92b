/-! ===== THE CLASS: AimFerry: fare, lies, ruled, look, fogs ===== -/
theorem ls_wy (ok : Nat → Bool) : lsF ok 4 = (popN (wyN ok 4), if wyN ok 4 = 0 then -2 else nI (lobN (wyN ok 4))) := by
  simp only [lsF, wyN]
  generalize ok 0 = b0, ok 1 = b1, ok 2 = b2, ok 3 = b3
  revert b0 b1 b2 b3
  decide +kernel
theorem rl_wy (ft : Nat → Bool) : ∀ nr, nr ≤ 6 → rlF ft nr (nr + 1) = (popN (wyN ft (nr + 1)), if wyN ft (nr + 1) = 0 then -2 else nI (lobN (wyN ft (nr + 1))) - nI 1) := by
  intro nr hnr
  have : nr = 0 ∨ nr = 1 ∨ nr = 2 ∨ nr = 3 ∨ nr = 4 ∨ nr = 5 ∨ nr = 6 := by omega
  rcases this with rfl | rfl | rfl | rfl | rfl | rfl | rfl <;> simp only [rlF, wyN] <;> generalize ft 0 = b0, ft 1 = b1, ft 2 = b2, ft 3 = b3, ft 4 = b4, ft 5 = b5, ft 6 = b6 <;> cases b4 <;> cases b5 <;> cases b6 <;> revert b0 b1 b2 b3 <;> decide +kernel
theorem lk_none {al : Nat → Nat} (h : ∀ p, al p = 0) : ∀ n, lkF al n = none
  | 0 => rfl
  | n + 1 => by
    simp only [lkF]
    rw [if_pos (h n), lk_none h n]
theorem look_none {Fs : Nat → (Nat → Int64) → Int64} {u : Nat → Int32} {P m nr n : Nat} (hnr : nr ≤ 6) (h : wyN (ftF Fs (nI 0) u P m) (nr + 1) = 0) : lookR Fs (nI 0) u P m nr n = none := by
  unfold lookR
  refine lk_none (fun p => ?_) P
  have e := pop_wy (ok := ftF Fs (nI 0) u P m) (sd := fun r => pnF (frOf Fs r) (nI 0) (begF u) P 0 (n + 1) (21 + p)) (nr + 1) (by omega)
  rw [h] at e
  have e0 : popN 0 = 0 := by decide
  rw [e0] at e
  unfold alM
  split <;> omega
section
variable (w : Wd) (l : Launch) (S : St) (c ca cg cl ce P H m nr : Nat) (u : Nat → Int32) (f x : Int32) (Fs : Nat → (Nat → Int64) → Int64)
theorem c_X11_fare (h : aK S c ca cg cl ce P H m nr u f x Fs) (y much p : Int32) : gx_M w l yX11_fare cX11_fare 4 (some .int) rmX11_fare [.ref (ad (w_b w) 0), .int y, .int much, .int p] S (aP S (if fareOK u P y much p then fareF u P y.toNatClampNeg much p.toNatClampNeg else -1)) := by
  have hP7 := aK.P7 h
  have h2 := (p128 hP7).2
  refine gx_start rfl 0 rfl (Nat.le_of_ble_eq_true rfl) ?_
  intro X C _ hl
  subst hl
  refine gx_L (L' := [_, _, _, _]) rfl ?_
  generalize hA : (if fareOK u P y much p then fareF u P y.toNatClampNeg much p.toNatClampNeg else -1) = A
  have bad : ¬ fareOK u P y much p → gx_G w X S 0 0 47 [some (.ref (ad (w_b w) 0)), some (.int y), some (.int much), some (.int p)] [] (gx_E w X (aP S A)) := by
    intro hb
    rw [if_neg hb] at hA
    subst hA
    refine g_iconst (pc := 47) (v := -1) C dX11_fare_47 (by decide) ?_
    exact g_ireturn (pc := 48) C ⟨rfl, rfl⟩ dX11_fare_48 ⟨rfl, eqO.refl, aK.ft h, aK.pz h⟩
  refine g_aload_n (pc := 0) C dX11_fare_0 rfl ?_
  refine fgr_X11_46 (pc := 1) C (by exact (aK.o0 h).1) (zk (by exact (aK.o0 h).2)) (by exact (aK.rn h)) dX11_fare_1 ?_
  refine fgr_X11_54 (pc := 4) C (by exact (aK.o7 h).1) (zk (by exact (aK.o7 h).2)) (by exact (aK.rc h)) dX11_fare_4 ?_
  refine g_iload_n (pc := 7) C dX11_fare_7 rfl ?_
  refine cf_X11_116 (pc := 8) C (by exact (aK.oc h).1) (zk (by exact (aK.oc h).2)) (c_X0_has _ _ S c ca cg cl ce P u (aK.cr h) p) ⟨rfl, rfl⟩ ⟨rfl, rfl⟩ ⟨Nat.zero_le _, Nat.zero_le _⟩ rfl (Nat.le_of_ble_eq_true rfl) dX11_fare_8 ?_
  refine g_if_eq (pc := 11) C 47 dX11_fare_11 rfl (fun c1 => ?_) (fun c1 => ?_)
  · exact bad (fun q => bI_0.mp c1 q.2.1)
  · have c1 := Decidable.not_not.mp (fun q => c1 (bI_0.mpr q))
    obtain ⟨j, hj, rfl, ec⟩ := person_of hP7 c1
    refine g_aload_n (pc := 14) C dX11_fare_14 rfl ?_
    refine fgr_X11_46 (pc := 15) C (by exact (aK.o0 h).1) (zk (by exact (aK.o0 h).2)) (by exact (aK.rn h)) dX11_fare_15 ?_
    refine fgr_X11_54 (pc := 18) C (by exact (aK.o7 h).1) (zk (by exact (aK.o7 h).2)) (by exact (aK.rc h)) dX11_fare_18 ?_
    refine g_iload_n (pc := 21) C dX11_fare_21 rfl ?_
    refine cf_X11_209 (pc := 22) C (by exact (aK.oc h).1) (zk (by exact (aK.oc h).2)) (c_X0_hasAll _ _ S c ca cg cl ce P u (aK.cr h) y) ⟨rfl, rfl⟩ ⟨rfl, rfl⟩ ⟨Nat.zero_le _, Nat.zero_le _⟩ rfl (Nat.le_of_ble_eq_true rfl) dX11_fare_22 ?_
    refine g_if_eq (pc := 25) C 47 dX11_fare_25 rfl (fun c2 => ?_) (fun c2 => ?_)
    · exact bad (fun q => bI_0.mp c2 ((hasA hP7).mpr q.1.2))
    · have c2 := (hasA hP7).mp (Decidable.not_not.mp (fun q => c2 (bI_0.mpr q)))
      obtain ⟨s, hs, rfl, es⟩ := setP_of hP7 c2
      refine g_iload_n (pc := 28) C dX11_fare_28 rfl ?_
      refine g_iload_n (pc := 29) C dX11_fare_29 rfl ?_
      refine g_ishr (pc := 30) C dX11_fare_30 ?_
      refine g_iconst (pc := 31) (v := nI 1) C dX11_fare_31 (by decide) ?_
      refine g_iand (pc := 32) C dX11_fare_32 ?_
      refine gx_ti (side_nI s (by omega) j (by omega)) ?_
      by_cases hb : s.testBit j = true
      · rw [if_pos hb]
        refine g_if_eq (pc := 33) C 47 dX11_fare_33 rfl (fun c3 => ?_) (fun c3 => ?_)
        · exact absurd c3 (by decide)
        · refine g_iload_n (pc := 36) C dX11_fare_36 rfl ?_
          refine g_iconst (pc := 37) (v := nI 0) C dX11_fare_37 (by decide) ?_
          refine g_sipush (pc := 38) (v := nI 9999) C dX11_fare_38 (by decide) ?_
          refine cf_X11_194 (pc := 41) C (c_X11_within _ _ S much (nI 0) (nI 9999)) ⟨rfl, rfl⟩ ⟨rfl, rfl⟩ ⟨Nat.zero_le _, Nat.zero_le _⟩ rfl (Nat.le_of_ble_eq_true rfl) dX11_fare_41 ?_
          refine g_if_ne (pc := 44) C 49 dX11_fare_44 rfl (fun c4 => ?_) (fun c4 => ?_)
          · have c4 := Decidable.not_not.mp (fun q => c4 (bI_0.mpr q))
            obtain ⟨mu, hmu, rfl⟩ := nat_of (by omega) c4
            refine g_aload_n (pc := 49) C dX11_fare_49 rfl ?_
            refine fgr_X11_68 (pc := 50) C (by exact (aK.o0 h).1) (zk (by exact (aK.o0 h).2)) (by exact (aK.rz h)) dX11_fare_50 ?_
            refine g_aload_n (pc := 53) C dX11_fare_53 rfl ?_
            refine fgr_X11_46 (pc := 54) C (by exact (aK.o0 h).1) (zk (by exact (aK.o0 h).2)) (by exact (aK.rn h)) dX11_fare_54 ?_
            refine cg_X11_216 (pc := 57) C (by exact (aK.oz h).1) (zk (by exact (aK.oz h).2)) (c_X4_begin _ _ S c ca cg cl ce P H u (aK.pz h) (aK.nw h) (aK.sc h) (aK.sd h) (aK.hr h) (aK.hr2 h)) ⟨rfl, rfl⟩ ⟨Nat.zero_le _, Nat.zero_le _⟩ rfl (Nat.le_of_ble_eq_true rfl) dX11_fare_57 ?_
            rintro _ S1 ⟨rfl, q1, z1⟩
            have f1 : ftK S1 := (aK.ft h).o q1 (fun k q => by unfold dZ at q; omega)
            have hD := q1.mono (E := dD) (fun k q => by unfold dZ at q; unfold dD; omega)
            have h1 := aK.to h hD f1 z1.1
            refine g_aload_n (pc := 60) C dX11_fare_60 rfl ?_
            refine fgr_X11_68 (pc := 61) C (by exact (aK.o0 h1).1) (zk (by exact (aK.o0 h1).2)) (by exact (aK.rz h1)) dX11_fare_61 ?_
            refine g_iload_n (pc := 64) C dX11_fare_64 rfl ?_
            refine g_iload_n (pc := 65) C dX11_fare_65 rfl ?_
            refine g_iload_n (pc := 66) C dX11_fare_66 rfl ?_
            refine cf_X11_252 (pc := 67) C (by exact (aK.oz h1).1) (zk (by exact (aK.oz h1).2)) (c_X4_fareOf _ _ S1 c ca cg cl ce P H u z1 (aK.sd h) s mu j (by omega) hmu hj hb) ⟨rfl, rfl⟩ ⟨rfl, rfl⟩ ⟨Nat.zero_le _, Nat.zero_le _⟩ rfl (Nat.le_of_ble_eq_true rfl) dX11_fare_67 ?_
            exact g_ireturn (pc := 70) C ⟨rfl, rfl⟩ dX11_fare_70 ⟨by rw [← hA, if_pos ⟨⟨aK.u0P h (by omega), c2⟩, c1, by rw [es, ec]; exact hb, c4⟩, es, ec], hD, f1, z1.1⟩
          · exact bad (fun q => nn_b c4 (q.2.2.2))
      · rw [if_neg hb]
        refine g_if_eq (pc := 33) C 47 dX11_fare_33 rfl (fun c3 => ?_) (fun c3 => ?_)
        · exact bad (fun q => hb (by have := q.2.2.1; rwa [es, ec] at this))
        · exact absurd rfl c3
theorem c_X11_lies (h : aK S c ca cg cl ce P H m nr u f x Fs) (p q n what : Int32) : gx_M w l yX11_lies cX11_lies 6 (some .int) rmX11_lies [.ref (ad (w_b w) 0), .int p, .int q, .int n, .int what] S (aP S (if liesOK P p q n what then (if what = nI 0 then nI (liesR (frF f Fs) (nI 0) u P H p.toNatClampNeg q.toNatClampNeg n.toNatClampNeg).1 else (liesR (frF f Fs) (nI 0) u P H p.toNatClampNeg q.toNatClampNeg n.toNatClampNeg).2) else -1)) := by
  have hP7 := aK.P7 h
  refine gx_start rfl 1 rfl (Nat.le_of_ble_eq_true rfl) ?_
  intro X C _ hl
  subst hl
  refine gx_L (L' := [_, _, _, _, _, _]) rfl ?_
  generalize hA : (if liesOK P p q n what then (if what = nI 0 then nI (liesR (frF f Fs) (nI 0) u P H p.toNatClampNeg q.toNatClampNeg n.toNatClampNeg).1 else (liesR (frF f Fs) (nI 0) u P H p.toNatClampNeg q.toNatClampNeg n.toNatClampNeg).2) else -1) = A
  have bad : ¬ liesOK P p q n what → gx_G w X S 0 0 53 [some (.ref (ad (w_b w) 0)), some (.int p), some (.int q), some (.int n), some (.int what), none] [] (gx_E w X (aP S A)) := by
    intro hb
    rw [if_neg hb] at hA
    subst hA
    refine g_iconst (pc := 53) (v := -1) C dX11_lies_53 (by decide) ?_
    exact g_ireturn (pc := 54) C ⟨rfl, rfl⟩ dX11_lies_54 ⟨rfl, eqO.refl, aK.ft h, aK.pz h⟩
  refine g_aload_n (pc := 0) C dX11_lies_0 rfl ?_
  refine fgr_X11_46 (pc := 1) C (by exact (aK.o0 h).1) (zk (by exact (aK.o0 h).2)) (by exact (aK.rn h)) dX11_lies_1 ?_
  refine fgr_X11_54 (pc := 4) C (by exact (aK.o7 h).1) (zk (by exact (aK.o7 h).2)) (by exact (aK.rc h)) dX11_lies_4 ?_
  refine g_iload_n (pc := 7) C dX11_lies_7 rfl ?_
  refine cf_X11_116 (pc := 8) C (by exact (aK.oc h).1) (zk (by exact (aK.oc h).2)) (c_X0_has _ _ S c ca cg cl ce P u (aK.cr h) p) ⟨rfl, rfl⟩ ⟨rfl, rfl⟩ ⟨Nat.zero_le _, Nat.zero_le _⟩ rfl (Nat.le_of_ble_eq_true rfl) dX11_lies_8 ?_
  refine g_if_eq (pc := 11) C 53 dX11_lies_11 rfl (fun c1 => ?_) (fun c1 => ?_)
  · exact bad (fun z => bI_0.mp c1 z.1)
  · have c1 := Decidable.not_not.mp (fun z => c1 (bI_0.mpr z))
    refine g_aload_n (pc := 14) C dX11_lies_14 rfl ?_
    refine fgr_X11_46 (pc := 15) C (by exact (aK.o0 h).1) (zk (by exact (aK.o0 h).2)) (by exact (aK.rn h)) dX11_lies_15 ?_
    refine fgr_X11_54 (pc := 18) C (by exact (aK.o7 h).1) (zk (by exact (aK.o7 h).2)) (by exact (aK.rc h)) dX11_lies_18 ?_
    refine g_iload_n (pc := 21) C dX11_lies_21 rfl ?_
    refine cf_X11_116 (pc := 22) C (by exact (aK.oc h).1) (zk (by exact (aK.oc h).2)) (c_X0_has _ _ S c ca cg cl ce P u (aK.cr h) q) ⟨rfl, rfl⟩ ⟨rfl, rfl⟩ ⟨Nat.zero_le _, Nat.zero_le _⟩ rfl (Nat.le_of_ble_eq_true rfl) dX11_lies_22 ?_
    refine g_if_eq (pc := 25) C 53 dX11_lies_25 rfl (fun c2 => ?_) (fun c2 => ?_)
    · exact bad (fun z => bI_0.mp c2 z.2.1)
    · have c2 := Decidable.not_not.mp (fun z => c2 (bI_0.mpr z))
      refine g_iload_n (pc := 28) C dX11_lies_28 rfl ?_
      refine g_iload_n (pc := 29) C dX11_lies_29 rfl ?_
      refine g_icmp_eq (pc := 30) C 53 dX11_lies_30 rfl (fun c3 => ?_) (fun c3 => ?_)
      · exact bad (fun z => z.2.2.1 c3)
      · refine g_iload_n (pc := 33) C dX11_lies_33 rfl ?_
        refine g_iconst (pc := 34) (v := nI 1) C dX11_lies_34 (by decide) ?_
        refine g_bipush (pc := 35) (v := nI 20) C dX11_lies_35 (by decide) ?_
        refine cf_X11_194 (pc := 37) C (c_X11_within _ _ S n (nI 1) (nI 20)) ⟨rfl, rfl⟩ ⟨rfl, rfl⟩ ⟨Nat.zero_le _, Nat.zero_le _⟩ rfl (Nat.le_of_ble_eq_true rfl) dX11_lies_37 ?_
        refine g_if_eq (pc := 40) C 53 dX11_lies_40 rfl (fun c4 => ?_) (fun c4 => ?_)
        · exact bad (fun z => bI_0.mp c4 z.2.2.2.1)
        · have c4 := Decidable.not_not.mp (fun z => c4 (bI_0.mpr z))
          refine g_iload (pc := 43) C dX11_lies_43 rfl ?_
          refine g_iconst (pc := 45) (v := nI 0) C dX11_lies_45 (by decide) ?_
          refine g_iconst (pc := 46) (v := nI 1) C dX11_lies_46 (by decide) ?_
          refine cf_X11_194 (pc := 47) C (c_X11_within _ _ S what (nI 0) (nI 1)) ⟨rfl, rfl⟩ ⟨rfl, rfl⟩ ⟨Nat.zero_le _, Nat.zero_le _⟩ rfl (Nat.le_of_ble_eq_true rfl) dX11_lies_47 ?_
          refine g_if_ne (pc := 50) C 55 dX11_lies_50 rfl (fun c5 => ?_) (fun c5 => ?_)
          · have c5 := Decidable.not_not.mp (fun z => c5 (bI_0.mpr z))
            have hok : liesOK P p q n what := ⟨c1, c2, c3, c4, c5⟩
            obtain ⟨a, ha, rfl, ea⟩ := person_of hP7 c1
            obtain ⟨b, hb, rfl, eb⟩ := person_of hP7 c2
            obtain ⟨k, hk, rfl⟩ := nat_of (by omega) ⟨Int32.le_trans (by decide) c4.1, c4.2⟩
            have ek : (nI k).toNatClampNeg = k := nI_clamp (by omega)
            rw [if_pos hok, ea, eb, ek] at hA
            unfold liesR at hA
            rw [ls_wy] at hA
            refine g_aload_n (pc := 55) C dX11_lies_55 rfl ?_
            refine fgr_X11_75 (pc := 56) C (by exact (aK.o0 h).1) (zk (by exact (aK.o0 h).2)) (by exact (aK.rf h)) dX11_lies_56 ?_
            refine g_aload_n (pc := 59) C dX11_lies_59 rfl ?_
            refine fgr_X11_46 (pc := 60) C (by exact (aK.o0 h).1) (zk (by exact (aK.o0 h).2)) (by exact (aK.rn h)) dX11_lies_60 ?_
            refine g_aload_n (pc := 63) C dX11_lies_63 rfl ?_
            refine cf_X11_156 (pc := 64) C (by exact (aK.o0 h).1) (zk (by exact (aK.o0 h).2)) (c_X11_ruleInForce _ _ S _ _ _ _ _ _ _ _ _ _ _ _ _ h) ⟨rfl, rfl⟩ ⟨rfl, rfl⟩ ⟨Nat.zero_le _, Nat.zero_le _⟩ rfl (Nat.le_of_ble_eq_true rfl) dX11_lies_64 ?_
            refine g_iload_n (pc := 67) C dX11_lies_67 rfl ?_
            refine g_iload_n (pc := 68) C dX11_lies_68 rfl ?_
            refine g_iload_n (pc := 69) C dX11_lies_69 rfl ?_
            refine cg_X11_262 (pc := 70) C (by exact (aK.of h).1) (zk (by exact (aK.of h).2)) (c_X2_steadyWays _ _ S c ca cg cl ce P H a b k (rfo S f) (frF f Fs) u (aK.ft h) (aK.nw h) (aK.sd h) (aK.rif h) (aK.hr h) (Nat.lt_of_le_of_lt (Nat.add_le_add (aK.hr9 h) hk) (by decide)) ha hb) ⟨rfl, rfl⟩ ⟨Nat.zero_le _, Nat.zero_le _⟩ rfl (Nat.le_of_ble_eq_true rfl) dX11_lies_70 ?_
            rintro _ S1 ⟨rfl, q1, f1⟩
            have hD := q1.mono (E := dD) (fun k q => by unfold dF at q; unfold dD; omega)
            have z1 := (aK.pz h).o q1 (by unfold dF; omega)
            have hlt := wyN_lt (liOK (has1 (frF f Fs) (nI 0) u P H a b k) (has2 (frF f Fs) (nI 0) u P H a b k)) 4
            generalize wyN (liOK (has1 (frF f Fs) (nI 0) u P H a b k) (has2 (frF f Fs) (nI 0) u P H a b k)) 4 = W at hA hlt ⊢
            have hlt : W < 16 := hlt
            refine g_istore (pc := 73) (L' := [_, _, _, _, some (.int _), _]) C dX11_lies_73 rfl rfl ?_
            refine g_iload (pc := 75) C dX11_lies_75 rfl ?_
            refine g_if_ne (pc := 77) C 86 dX11_lies_77 rfl (fun c6 => ?_) (fun c6 => ?_)
            · rw [if_neg (n0 c6)] at hA
              refine g_iload (pc := 86) C dX11_lies_86 rfl ?_
              refine g_if_ne (pc := 88) C 96 dX11_lies_88 rfl (fun c7 => ?_) (fun c7 => ?_)
              · have hW : 0 < W := Nat.pos_of_ne_zero (fun e => c7 (by rw [e]; rfl))
                refine g_iload (pc := 96) C dX11_lies_96 rfl ?_
                refine cf_X11_266 (pc := 98) C (c_X11_firstBit _ _ S1 W (by omega) hW) ⟨rfl, rfl⟩ ⟨rfl, rfl⟩ ⟨Nat.zero_le _, Nat.zero_le _⟩ rfl (Nat.le_of_ble_eq_true rfl) dX11_lies_98 ?_
                rw [if_neg (by omega)] at hA
                exact g_ireturn (pc := 101) C ⟨rfl, rfl⟩ dX11_lies_101 ⟨by rw [← hA], hD, f1, z1⟩
              · have hW : W = 0 := (nI_eq (b := 0) (by omega) (by omega)).mp (Decidable.not_not.mp c7)
                rw [if_pos hW] at hA
                refine g_bipush (pc := 91) (v := -2) C dX11_lies_91 (by decide) ?_
                refine g_goto (pc := 93) C 101 dX11_lies_93 rfl ?_
                exact g_ireturn (pc := 101) C ⟨rfl, rfl⟩ dX11_lies_101 ⟨by rw [← hA], hD, f1, z1⟩
            · rw [if_pos (p0 c6)] at hA
              refine g_iload (pc := 80) C dX11_lies_80 rfl ?_
              refine cf_X11_222 (pc := 82) C (c_bitCount _ _ S1 W (by omega)) ⟨rfl, rfl⟩ ⟨rfl, rfl⟩ ⟨Nat.zero_le _, Nat.zero_le _⟩ rfl (Nat.le_of_ble_eq_true rfl) dX11_lies_82 ?_
              exact g_ireturn (pc := 85) C ⟨rfl, rfl⟩ dX11_lies_85 ⟨by rw [← hA], hD, f1, z1⟩
          · exact bad (fun z => nn_b c5 (z.2.2.2.2))
theorem c_X11_ruled (h : aK S c ca cg cl ce P H m nr u f x Fs) (what : Int32) : gx_M w l yX11_ruled cX11_ruled 3 (some .int) rmX11_ruled [.ref (ad (w_b w) 0), .int what] S (aP S (if mostOK u what then (if what = nI 0 then nI (rlF (ftF Fs (nI 0) u P m) nr (nr + 1)).1 else (rlF (ftF Fs (nI 0) u P m) nr (nr + 1)).2) else -3)) := by
  have hnr := (aK.rls h).2.1
  refine gx_start rfl 1 rfl (Nat.le_of_ble_eq_true rfl) ?_
  intro X C _ hl
  subst hl
  refine gx_L (L' := [_, _, _]) rfl ?_
  generalize hA : (if mostOK u what then (if what = nI 0 then nI (rlF (ftF Fs (nI 0) u P m) nr (nr + 1)).1 else (rlF (ftF Fs (nI 0) u P m) nr (nr + 1)).2) else -3) = A
  have bad : ¬ mostOK u what → gx_G w X S 0 0 22 [some (.ref (ad (w_b w) 0)), some (.int what), none] [] (gx_E w X (aP S A)) := by
    intro hb
    rw [if_neg hb] at hA
    subst hA
    refine g_bipush (pc := 22) (v := -3) C dX11_ruled_22 (by decide) ?_
    exact g_ireturn (pc := 24) C ⟨rfl, rfl⟩ dX11_ruled_24 ⟨rfl, eqO.refl, aK.ft h, aK.pz h⟩
  refine g_aload_n (pc := 0) C dX11_ruled_0 rfl ?_
  refine fgr_X11_46 (pc := 1) C (by exact (aK.o0 h).1) (zk (by exact (aK.o0 h).2)) (by exact (aK.rn h)) dX11_ruled_1 ?_
  refine fgr_X11_54 (pc := 4) C (by exact (aK.o7 h).1) (zk (by exact (aK.o7 h).2)) (by exact (aK.rc h)) dX11_ruled_4 ?_
  refine fg_X11_142 (pc := 7) C (by exact (aK.oc h).1) (zk (by exact (aK.oc h).2)) dX11_ruled_7 ?_
  refine gx_ti (y := u 0) (aK.there h) ?_
  refine g_if_eq (pc := 10) C 22 dX11_ruled_10 rfl (fun c1 => ?_) (fun c1 => ?_)
  · exact bad (fun q => ok0 c1 q.1)
  · have c1 := ok1 (aK.u0 h) c1
    refine g_iload_n (pc := 13) C dX11_ruled_13 rfl ?_
    refine g_iconst (pc := 14) (v := nI 0) C dX11_ruled_14 (by decide) ?_
    refine g_iconst (pc := 15) (v := nI 1) C dX11_ruled_15 (by decide) ?_
    refine cf_X11_194 (pc := 16) C (c_X11_within _ _ S what (nI 0) (nI 1)) ⟨rfl, rfl⟩ ⟨rfl, rfl⟩ ⟨Nat.zero_le _, Nat.zero_le _⟩ rfl (Nat.le_of_ble_eq_true rfl) dX11_ruled_16 ?_
    refine g_if_ne (pc := 19) C 25 dX11_ruled_19 rfl (fun c2 => ?_) (fun c2 => ?_)
    · have c2 := Decidable.not_not.mp (fun q => c2 (bI_0.mpr q))
      rw [if_pos (⟨c1, c2⟩ : mostOK u what), rl_wy _ nr hnr] at hA
      refine g_aload_n (pc := 25) C dX11_ruled_25 rfl ?_
      refine fgr_X11_75 (pc := 26) C (by exact (aK.o0 h).1) (zk (by exact (aK.o0 h).2)) (by exact (aK.rf h)) dX11_ruled_26 ?_
      refine g_aload_n (pc := 29) C dX11_ruled_29 rfl ?_
      refine fgr_X11_46 (pc := 30) C (by exact (aK.o0 h).1) (zk (by exact (aK.o0 h).2)) (by exact (aK.rn h)) dX11_ruled_30 ?_
      refine g_aload_n (pc := 33) C dX11_ruled_33 rfl ?_
      refine fgr_X11_34 (pc := 34) C (by exact (aK.o0 h).1) (zk (by exact (aK.o0 h).2)) (by exact (aK.ru h)) dX11_ruled_34 ?_
      refine g_aload_n (pc := 37) C dX11_ruled_37 rfl ?_
      refine fg_X11_103 (pc := 38) C (by exact (aK.o0 h).1) (zk (by exact (aK.o0 h).2)) dX11_ruled_38 ?_
      refine gx_ti (y := nI nr) (aK.nrv h) ?_
      refine cg_X11_293 (pc := 41) C (by exact (aK.of h).1) (zk (by exact (aK.of h).2)) (c_X2_rulesThatAreSo _ _ S c ca cg cl ce P m nr Fs u (aK.ft h) (aK.nw h) (aK.sc h) (aK.no h) (aK.sd h) (aK.rls h)) ⟨rfl, rfl⟩ ⟨Nat.zero_le _, Nat.zero_le _⟩ rfl (Nat.le_of_ble_eq_true rfl) dX11_ruled_41 ?_
      rintro _ S1 ⟨rfl, q1, f1⟩
      have hD := q1.mono (E := dD) (fun k q => by unfold dF at q; unfold dD; omega)
      have z1 := (aK.pz h).o q1 (by unfold dF; omega)
      have hlt := Nat.lt_of_lt_of_le (wyN_lt (ftF Fs (nI 0) u P m) (nr + 1)) (Nat.pow_le_pow_right (by decide) (show nr + 1 ≤ 7 by omega))
      generalize wyN (ftF Fs (nI 0) u P m) (nr + 1) = W at hA hlt ⊢
      have hlt : W < 128 := hlt
      refine g_istore_n (pc := 44) (L' := [_, some (.int _), _]) C dX11_ruled_44 rfl rfl ?_
      refine g_iload_n (pc := 45) C dX11_ruled_45 rfl ?_
      refine g_if_ne (pc := 46) C 54 dX11_ruled_46 rfl (fun c6 => ?_) (fun c6 => ?_)
      · rw [if_neg (n0 c6)] at hA
        refine g_iload_n (pc := 54) C dX11_ruled_54 rfl ?_
        refine g_if_ne (pc := 55) C 63 dX11_ruled_55 rfl (fun c7 => ?_) (fun c7 => ?_)
        · have hW : 0 < W := Nat.pos_of_ne_zero (fun e => c7 (by rw [e]; rfl))
          refine g_iload_n (pc := 63) C dX11_ruled_63 rfl ?_
          refine cf_X11_266 (pc := 64) C (c_X11_firstBit _ _ S1 W (by omega) hW) ⟨rfl, rfl⟩ ⟨rfl, rfl⟩ ⟨Nat.zero_le _, Nat.zero_le _⟩ rfl (Nat.le_of_ble_eq_true rfl) dX11_ruled_64 ?_
          refine g_iconst (pc := 67) (v := nI 1) C dX11_ruled_67 (by decide) ?_
          refine g_isub (pc := 68) C dX11_ruled_68 ?_
          rw [if_neg (by omega)] at hA
          exact g_ireturn (pc := 69) C ⟨rfl, rfl⟩ dX11_ruled_69 ⟨by rw [← hA], hD, f1, z1⟩
        · have hW : W = 0 := (nI_eq (b := 0) (by omega) (by omega)).mp (Decidable.not_not.mp c7)
          rw [if_pos hW] at hA
          refine g_bipush (pc := 58) (v := -2) C dX11_ruled_58 (by decide) ?_
          refine g_goto (pc := 60) C 69 dX11_ruled_60 rfl ?_
          exact g_ireturn (pc := 69) C ⟨rfl, rfl⟩ dX11_ruled_69 ⟨by rw [← hA], hD, f1, z1⟩
      · rw [if_pos (p0 c6)] at hA
        refine g_iload_n (pc := 49) C dX11_ruled_49 rfl ?_
        refine cf_X11_222 (pc := 50) C (c_bitCount _ _ S1 W (by omega)) ⟨rfl, rfl⟩ ⟨rfl, rfl⟩ ⟨Nat.zero_le _, Nat.zero_le _⟩ rfl (Nat.le_of_ble_eq_true rfl) dX11_ruled_50 ?_
        exact g_ireturn (pc := 53) C ⟨rfl, rfl⟩ dX11_ruled_53 ⟨by rw [← hA], hD, f1, z1⟩
    · exact bad (fun q => nn_b c2 (q.2))
theorem c_X11_look (h : aK S c ca cg cl ce P H m nr u f x Fs) (n what : Int32) : gx_M w l yX11_look cX11_look 4 (some .int) rmX11_look [.ref (ad (w_b w) 0), .int n, .int what] S (aP S (if lookOK u n what then (if what = nI 0 then lkB (lookR Fs (nI 0) u P m nr n.toNatClampNeg) else lkM (lookR Fs (nI 0) u P m nr n.toNatClampNeg)) else -1)) := by
  have hnr := (aK.rls h).2.1
  refine gx_start rfl 1 rfl (Nat.le_of_ble_eq_true rfl) ?_
  intro X C _ hl
  subst hl
  refine gx_L (L' := [_, _, _, _]) rfl ?_
  generalize hA : (if lookOK u n what then (if what = nI 0 then lkB (lookR Fs (nI 0) u P m nr n.toNatClampNeg) else lkM (lookR Fs (nI 0) u P m nr n.toNatClampNeg)) else -1) = A
  have bad : ¬ lookOK u n what → gx_G w X S 0 0 32 [some (.ref (ad (w_b w) 0)), some (.int n), some (.int what), none] [] (gx_E w X (aP S A)) := by
    intro hb
    rw [if_neg hb] at hA
    subst hA
    refine g_iconst (pc := 32) (v := -1) C dX11_look_32 (by decide) ?_
    exact g_ireturn (pc := 33) C ⟨rfl, rfl⟩ dX11_look_33 ⟨rfl, eqO.refl, aK.ft h, aK.pz h⟩
  refine g_aload_n (pc := 0) C dX11_look_0 rfl ?_
  refine fgr_X11_46 (pc := 1) C (by exact (aK.o0 h).1) (zk (by exact (aK.o0 h).2)) (by exact (aK.rn h)) dX11_look_1 ?_
  refine fgr_X11_54 (pc := 4) C (by exact (aK.o7 h).1) (zk (by exact (aK.o7 h).2)) (by exact (aK.rc h)) dX11_look_4 ?_
  refine fg_X11_142 (pc := 7) C (by exact (aK.oc h).1) (zk (by exact (aK.oc h).2)) dX11_look_7 ?_
  refine gx_ti (y := u 0) (aK.there h) ?_
  refine g_if_eq (pc := 10) C 32 dX11_look_10 rfl (fun c1 => ?_) (fun c1 => ?_)
  · exact bad (fun q => ok0 c1 q.1)
  · have c1 := ok1 (aK.u0 h) c1
    refine g_iload_n (pc := 13) C dX11_look_13 rfl ?_
    refine g_iconst (pc := 14) (v := nI 0) C dX11_look_14 (by decide) ?_
    refine g_bipush (pc := 15) (v := nI 60) C dX11_look_15 (by decide) ?_
    refine cf_X11_194 (pc := 17) C (c_X11_within _ _ S n (nI 0) (nI 60)) ⟨rfl, rfl⟩ ⟨rfl, rfl⟩ ⟨Nat.zero_le _, Nat.zero_le _⟩ rfl (Nat.le_of_ble_eq_true rfl) dX11_look_17 ?_
    refine g_if_eq (pc := 20) C 32 dX11_look_20 rfl (fun c2 => ?_) (fun c2 => ?_)
    · exact bad (fun q => bI_0.mp c2 q.2.1)
    · have c2 := Decidable.not_not.mp (fun q => c2 (bI_0.mpr q))
      refine g_iload_n (pc := 23) C dX11_look_23 rfl ?_
      refine g_iconst (pc := 24) (v := nI 0) C dX11_look_24 (by decide) ?_
      refine g_iconst (pc := 25) (v := nI 1) C dX11_look_25 (by decide) ?_
      refine cf_X11_194 (pc := 26) C (c_X11_within _ _ S what (nI 0) (nI 1)) ⟨rfl, rfl⟩ ⟨rfl, rfl⟩ ⟨Nat.zero_le _, Nat.zero_le _⟩ rfl (Nat.le_of_ble_eq_true rfl) dX11_look_26 ?_
      refine g_if_ne (pc := 29) C 34 dX11_look_29 rfl (fun c3 => ?_) (fun c3 => ?_)
      · have c3 := Decidable.not_not.mp (fun q => c3 (bI_0.mpr q))
        rw [if_pos (⟨c1, c2, c3⟩ : lookOK u n what)] at hA
        obtain ⟨k, hk, rfl⟩ := nat_of (by omega) c2
        have ek : (nI k).toNatClampNeg = k := nI_clamp (by omega)
        rw [ek] at hA
        refine g_aload_n (pc := 34) C dX11_look_34 rfl ?_
        refine fgr_X11_75 (pc := 35) C (by exact (aK.o0 h).1) (zk (by exact (aK.o0 h).2)) (by exact (aK.rf h)) dX11_look_35 ?_
        refine g_aload_n (pc := 38) C dX11_look_38 rfl ?_
        refine fgr_X11_46 (pc := 39) C (by exact (aK.o0 h).1) (zk (by exact (aK.o0 h).2)) (by exact (aK.rn h)) dX11_look_39 ?_
        refine g_aload_n (pc := 42) C dX11_look_42 rfl ?_
        refine fgr_X11_34 (pc := 43) C (by exact (aK.o0 h).1) (zk (by exact (aK.o0 h).2)) (by exact (aK.ru h)) dX11_look_43 ?_
        refine g_aload_n (pc := 46) C dX11_look_46 rfl ?_
        refine fg_X11_103 (pc := 47) C (by exact (aK.o0 h).1) (zk (by exact (aK.o0 h).2)) dX11_look_47 ?_
        refine gx_ti (y := nI nr) (aK.nrv h) ?_
        refine cg_X11_293 (pc := 50) C (by exact (aK.of h).1) (zk (by exact (aK.of h).2)) (c_X2_rulesThatAreSo _ _ S c ca cg cl ce P m nr Fs u (aK.ft h) (aK.nw h) (aK.sc h) (aK.no h) (aK.sd h) (aK.rls h)) ⟨rfl, rfl⟩ ⟨Nat.zero_le _, Nat.zero_le _⟩ rfl (Nat.le_of_ble_eq_true rfl) dX11_look_50 ?_
        rintro _ S1 ⟨rfl, q1, f1⟩
        have hD := q1.mono (E := dD) (fun k q => by unfold dF at q; unfold dD; omega)
        have z1 := (aK.pz h).o q1 (by unfold dF; omega)
        have h1 := aK.to h hD f1 z1
        have hlt : wyN (ftF Fs (nI 0) u P m) (nr + 1) < 128 := Nat.lt_of_lt_of_le (wyN_lt (ftF Fs (nI 0) u P m) (nr + 1)) (Nat.pow_le_pow_right (by decide) (show nr + 1 ≤ 7 by omega))
        have hL := fun e => look_none (n := k) (P := P) (m := m) (u := u) (Fs := Fs) hnr e
        have none' : lookR Fs (nI 0) u P m nr k = none → gx_G w X S1 0 0 71 [some (.ref (ad (w_b w) 0)), some (.int (nI k)), some (.int what), some (.int (nI (wyN (ftF Fs (nI 0) u P m) (nr + 1))))] [] (gx_E w X (aP S A)) := by
          intro e
          rw [e] at hA
          have hA : (-2 : Int32) = A := by rw [← hA]; split <;> rfl
          refine g_bipush (pc := 71) (v := -2) C dX11_look_71 (by decide) ?_
          exact g_ireturn (pc := 73) C ⟨rfl, rfl⟩ dX11_look_73 ⟨by rw [← hA], hD, f1, z1⟩
        refine g_istore_n (pc := 53) (L' := [_, _, some (.int _), _]) C dX11_look_53 rfl rfl ?_
        refine g_iload_n (pc := 54) C dX11_look_54 rfl ?_
        refine g_if_eq (pc := 55) C 71 dX11_look_55 rfl (fun c4 => ?_) (fun c4 => ?_)
        · exact none' (hL ((nI_eq (b := 0) (by omega) (by omega)).mp c4))
        · have hW : 0 < wyN (ftF Fs (nI 0) u P m) (nr + 1) := Nat.pos_of_ne_zero (fun e => c4 (by rw [e]; rfl))
          refine g_aload_n (pc := 58) C dX11_look_58 rfl ?_
          refine fgr_X11_46 (pc := 59) C (by exact (aK.o0 h1).1) (zk (by exact (aK.o0 h1).2)) (by exact (aK.rn h1)) dX11_look_59 ?_
          refine fgr_X11_54 (pc := 62) C (by exact (aK.o7 h1).1) (zk (by exact (aK.o7 h1).2)) (by exact (aK.rc h1)) dX11_look_62 ?_
          refine fg_X11_100 (pc := 65) C (by exact (aK.oc h1).1) (zk (by exact (aK.oc h1).2)) dX11_look_65 ?_
          refine gx_ti (y := nI P) ((aK.cr h1).2.1.2.2.2.2.1) ?_
          refine g_if_ne (pc := 68) C 74 dX11_look_68 rfl (fun c5 => ?_) (fun c5 => ?_)
          · have hP0 : 0 < P := Nat.pos_of_ne_zero (fun e => c5 (by rw [e]; rfl))
            refine g_aload_n (pc := 74) C dX11_look_74 rfl ?_
            refine fgr_X11_75 (pc := 75) C (by exact (aK.o0 h1).1) (zk (by exact (aK.o0 h1).2)) (by exact (aK.rf h1)) dX11_look_75 ?_
            refine g_aload_n (pc := 78) C dX11_look_78 rfl ?_
            refine fgr_X11_46 (pc := 79) C (by exact (aK.o0 h1).1) (zk (by exact (aK.o0 h1).2)) (by exact (aK.rn h1)) dX11_look_79 ?_
            refine g_aload_n (pc := 82) C dX11_look_82 rfl ?_
            refine fgr_X11_34 (pc := 83) C (by exact (aK.o0 h1).1) (zk (by exact (aK.o0 h1).2)) (by exact (aK.ru h1)) dX11_look_83 ?_
            refine g_iload_n (pc := 86) C dX11_look_86 rfl ?_
            refine g_iload_n (pc := 87) C dX11_look_87 rfl ?_
            refine cg_X11_297 (pc := 88) C (by exact (aK.of h1).1) (zk (by exact (aK.of h1).2)) (c_X2_part _ _ S1 c ca cg cl ce P m nr k _ Fs u f1 (aK.nw h1) (aK.sd h) (aK.rls h1) rfl hk hW) ⟨rfl, rfl⟩ ⟨Nat.zero_le _, Nat.zero_le _⟩ rfl (Nat.le_of_ble_eq_true rfl) dX11_look_88 ?_
            rintro _ S2 ⟨rfl, q2, f2, e2⟩
            have hD2 := hD.trans (q2.mono (E := dD) (fun k q => by unfold dF at q; unfold dD; omega))
            have z2 := z1.o q2 (by unfold dF; omega)
            have h2 := aK.to h hD2 f2 z2
            obtain ⟨b, g, el, e3, e4⟩ := e2 hP0
            rw [el] at hA
            refine g_iload_n (pc := 91) C dX11_look_91 rfl ?_
            refine g_if_ne (pc := 92) C 105 dX11_look_92 rfl (fun c6 => ?_) (fun c6 => ?_)
            · rw [if_neg (n0 c6)] at hA
              refine g_aload_n (pc := 105) C dX11_look_105 rfl ?_
              refine fgr_X11_75 (pc := 106) C (by exact (aK.o0 h2).1) (zk (by exact (aK.o0 h2).2)) (by exact (aK.rf h2)) dX11_look_106 ?_
              refine fg_X11_304 (pc := 109) C (by exact (aK.of h2).1) (zk (by exact (aK.of h2).2)) dX11_look_109 ?_
              exact g_ireturn (pc := 112) C ⟨rfl, rfl⟩ dX11_look_112 ⟨by rw [← hA, e4]; rfl, hD2, f2, z2⟩
            · rw [if_pos (p0 c6)] at hA
              refine g_aload_n (pc := 95) C dX11_look_95 rfl ?_
              refine fgr_X11_75 (pc := 96) C (by exact (aK.o0 h2).1) (zk (by exact (aK.o0 h2).2)) (by exact (aK.rf h2)) dX11_look_96 ?_
              refine fg_X11_301 (pc := 99) C (by exact (aK.of h2).1) (zk (by exact (aK.of h2).2)) dX11_look_99 ?_
              refine g_goto (pc := 102) C 112 dX11_look_102 rfl ?_
              exact g_ireturn (pc := 112) C ⟨rfl, rfl⟩ dX11_look_112 ⟨by rw [← hA, e3]; rfl, hD2, f2, z2⟩
          · have hP0 : P = 0 := (nI_eq (b := 0) (by have := aK.P7 h; omega) (by omega)).mp (Decidable.not_not.mp c5)
            refine none' ?_
            unfold lookR
            rw [hP0]
            rfl
      · exact bad (fun q => nn_b c3 (q.2.2))
theorem c_X11_fogs (h : aK S c ca cg cl ce P H m nr u f x Fs) (mm n p what : Int32) : gx_M w l yX11_fogs cX11_fogs 5 (some .int) rmX11_fogs [.ref (ad (w_b w) 0), .int mm, .int n, .int p, .int what] S (aP S (if fogsOK u mm n p what then (if what = nI 0 then (fgO (frF f Fs) u P H p n.toNatClampNeg x.toInt64 mm.toNatClampNeg).2.1 else (fgO (frF f Fs) u P H p n.toNatClampNeg x.toInt64 mm.toNatClampNeg).2.2) else -1)) := by
  refine gx_start rfl 0 rfl (Nat.le_of_ble_eq_true rfl) ?_
  intro X C _ hl
  subst hl
  refine gx_L (L' := [_, _, _, _, _]) rfl ?_
  generalize hA : (if fogsOK u mm n p what then (if what = nI 0 then (fgO (frF f Fs) u P H p n.toNatClampNeg x.toInt64 mm.toNatClampNeg).2.1 else (fgO (frF f Fs) u P H p n.toNatClampNeg x.toInt64 mm.toNatClampNeg).2.2) else -1) = A
  have bad : ¬ fogsOK u mm n p what → gx_G w X S 0 0 53 [some (.ref (ad (w_b w) 0)), some (.int mm), some (.int n), some (.int p), some (.int what)] [] (gx_E w X (aP S A)) := by
    intro hb
    rw [if_neg hb] at hA
    subst hA
    refine g_iconst (pc := 53) (v := -1) C dX11_fogs_53 (by decide) ?_
    exact g_ireturn (pc := 54) C ⟨rfl, rfl⟩ dX11_fogs_54 ⟨rfl, eqO.refl, aK.ft h, aK.pz h⟩
  refine g_aload_n (pc := 0) C dX11_fogs_0 rfl ?_
  refine fgr_X11_46 (pc := 1) C (by exact (aK.o0 h).1) (zk (by exact (aK.o0 h).2)) (by exact (aK.rn h)) dX11_fogs_1 ?_
  refine fgr_X11_54 (pc := 4) C (by exact (aK.o7 h).1) (zk (by exact (aK.o7 h).2)) (by exact (aK.rc h)) dX11_fogs_4 ?_
  refine fg_X11_142 (pc := 7) C (by exact (aK.oc h).1) (zk (by exact (aK.oc h).2)) dX11_fogs_7 ?_
  refine gx_ti (y := u 0) (aK.there h) ?_
  refine g_if_eq (pc := 10) C 53 dX11_fogs_10 rfl (fun c1 => ?_) (fun c1 => ?_)
  · exact bad (fun q => ok0 c1 q.1)
  · have c1 := ok1 (aK.u0 h) c1
    refine g_iload_n (pc := 13) C dX11_fogs_13 rfl ?_
    refine g_iconst (pc := 14) (v := nI 1) C dX11_fogs_14 (by decide) ?_
    refine g_bipush (pc := 15) (v := nI 10) C dX11_fogs_15 (by decide) ?_
    refine cf_X11_194 (pc := 17) C (c_X11_within _ _ S mm (nI 1) (nI 10)) ⟨rfl, rfl⟩ ⟨rfl, rfl⟩ ⟨Nat.zero_le _, Nat.zero_le _⟩ rfl (Nat.le_of_ble_eq_true rfl) dX11_fogs_17 ?_
    refine g_if_eq (pc := 20) C 53 dX11_fogs_20 rfl (fun c2 => ?_) (fun c2 => ?_)
    · exact bad (fun q => bI_0.mp c2 q.2.1)
    · have c2 := Decidable.not_not.mp (fun q => c2 (bI_0.mpr q))
      refine g_iload_n (pc := 23) C dX11_fogs_23 rfl ?_
      refine g_iconst (pc := 24) (v := nI 1) C dX11_fogs_24 (by decide) ?_
      refine g_bipush (pc := 25) (v := nI 60) C dX11_fogs_25 (by decide) ?_
      refine cf_X11_194 (pc := 27) C (c_X11_within _ _ S n (nI 1) (nI 60)) ⟨rfl, rfl⟩ ⟨rfl, rfl⟩ ⟨Nat.zero_le _, Nat.zero_le _⟩ rfl (Nat.le_of_ble_eq_true rfl) dX11_fogs_27 ?_
      refine g_if_eq (pc := 30) C 53 dX11_fogs_30 rfl (fun c3 => ?_) (fun c3 => ?_)
      · exact bad (fun q => bI_0.mp c3 q.2.2.1)
      · have c3 := Decidable.not_not.mp (fun q => c3 (bI_0.mpr q))
        refine g_iload_n (pc := 33) C dX11_fogs_33 rfl ?_
        refine g_iconst (pc := 34) (v := nI 0) C dX11_fogs_34 (by decide) ?_
        refine g_bipush (pc := 35) (v := nI 100) C dX11_fogs_35 (by decide) ?_
        refine cf_X11_194 (pc := 37) C (c_X11_within _ _ S p (nI 0) (nI 100)) ⟨rfl, rfl⟩ ⟨rfl, rfl⟩ ⟨Nat.zero_le _, Nat.zero_le _⟩ rfl (Nat.le_of_ble_eq_true rfl) dX11_fogs_37 ?_
        refine g_if_eq (pc := 40) C 53 dX11_fogs_40 rfl (fun c4 => ?_) (fun c4 => ?_)
        · exact bad (fun q => bI_0.mp c4 q.2.2.2.1)
        · have c4 := Decidable.not_not.mp (fun q => c4 (bI_0.mpr q))
          refine g_iload (pc := 43) C dX11_fogs_43 rfl ?_
          refine g_iconst (pc := 45) (v := nI 0) C dX11_fogs_45 (by decide) ?_
          refine g_iconst (pc := 46) (v := nI 1) C dX11_fogs_46 (by decide) ?_
          refine cf_X11_194 (pc := 47) C (c_X11_within _ _ S what (nI 0) (nI 1)) ⟨rfl, rfl⟩ ⟨rfl, rfl⟩ ⟨Nat.zero_le _, Nat.zero_le _⟩ rfl (Nat.le_of_ble_eq_true rfl) dX11_fogs_47 ?_
          refine g_if_ne (pc := 50) C 55 dX11_fogs_50 rfl (fun c5 => ?_) (fun c5 => ?_)
          · have c5 := Decidable.not_not.mp (fun q => c5 (bI_0.mpr q))
            rw [if_pos (⟨c1, c2, c3, c4, c5⟩ : fogsOK u mm n p what)] at hA
            obtain ⟨a, ha, rfl⟩ := nat_of (by omega) ⟨Int32.le_trans (by decide) c2.1, c2.2⟩
            obtain ⟨k, hk, rfl⟩ := nat_of (by omega) ⟨Int32.le_trans (by decide) c3.1, c3.2⟩
            obtain ⟨xk, hxk, rfl⟩ := nI_of (Int32.not_lt.mpr (aK.x0 h))
            rw [show (nI k).toNatClampNeg = k from nI_clamp (by omega), show (nI a).toNatClampNeg = a from nI_clamp (by omega)] at hA
            refine g_aload_n (pc := 55) C dX11_fogs_55 rfl ?_
            refine fgr_X11_75 (pc := 56) C (by exact (aK.o0 h).1) (zk (by exact (aK.o0 h).2)) (by exact (aK.rf h)) dX11_fogs_56 ?_
            refine g_aload_n (pc := 59) C dX11_fogs_59 rfl ?_
            refine fgr_X11_46 (pc := 60) C (by exact (aK.o0 h).1) (zk (by exact (aK.o0 h).2)) (by exact (aK.rn h)) dX11_fogs_60 ?_
            refine g_aload_n (pc := 63) C dX11_fogs_63 rfl ?_
            refine cf_X11_156 (pc := 64) C (by exact (aK.o0 h).1) (zk (by exact (aK.o0 h).2)) (c_X11_ruleInForce _ _ S _ _ _ _ _ _ _ _ _ _ _ _ _ h) ⟨rfl, rfl⟩ ⟨rfl, rfl⟩ ⟨Nat.zero_le _, Nat.zero_le _⟩ rfl (Nat.le_of_ble_eq_true rfl) dX11_fogs_64 ?_
            refine g_iload_n (pc := 67) C dX11_fogs_67 rfl ?_
            refine g_iload_n (pc := 68) C dX11_fogs_68 rfl ?_
            refine g_iload_n (pc := 69) C dX11_fogs_69 rfl ?_
            refine cg_X11_310 (pc := 70) C (by exact (aK.of h).1) (zk (by exact (aK.of h).2)) (c_X2_drawFogs _ _ S c ca cg cl ce P H a k xk p (rfo S f) (frF f Fs) u (aK.ft h) (aK.nw h) (aK.sd h) (aK.rif h) (aK.hr h) (Nat.lt_of_le_of_lt (Nat.add_le_add (aK.hr9 h) hk) (by decide)) ha (aK.xv h) hxk) ⟨rfl, rfl⟩ ⟨Nat.zero_le _, Nat.zero_le _⟩ rfl (Nat.le_of_ble_eq_true rfl) dX11_fogs_70 ?_
            rintro _ S1 ⟨rfl, q1, f1, e1, e2⟩
            have hD := q1.mono (E := dD) (fun k q => by unfold dF at q; unfold dD; omega)
            have z1 := (aK.pz h).o q1 (by unfold dF; omega)
            have h1 := aK.to h hD f1 z1
            refine g_iload (pc := 73) C dX11_fogs_73 rfl ?_
            refine g_if_ne (pc := 75) C 88 dX11_fogs_75 rfl (fun c6 => ?_) (fun c6 => ?_)
            · rw [if_neg (n0 c6)] at hA
              refine g_aload_n (pc := 88) C dX11_fogs_88 rfl ?_
              refine fgr_X11_75 (pc := 89) C (by exact (aK.o0 h1).1) (zk (by exact (aK.o0 h1).2)) (by exact (aK.rf h1)) dX11_fogs_89 ?_
              refine fg_X11_317 (pc := 92) C (by exact (aK.of h1).1) (zk (by exact (aK.of h1).2)) dX11_fogs_92 ?_
              exact g_ireturn (pc := 95) C ⟨rfl, rfl⟩ dX11_fogs_95 ⟨by rw [← hA, e2], hD, f1, z1⟩
            · rw [if_pos (p0 c6)] at hA
              refine g_aload_n (pc := 78) C dX11_fogs_78 rfl ?_
              refine fgr_X11_75 (pc := 79) C (by exact (aK.o0 h1).1) (zk (by exact (aK.o0 h1).2)) (by exact (aK.rf h1)) dX11_fogs_79 ?_
              refine fg_X11_314 (pc := 82) C (by exact (aK.of h1).1) (zk (by exact (aK.of h1).2)) dX11_fogs_82 ?_
              refine g_goto (pc := 85) C 95 dX11_fogs_85 rfl ?_
              exact g_ireturn (pc := 95) C ⟨rfl, rfl⟩ dX11_fogs_95 ⟨by rw [← hA, e1], hD, f1, z1⟩
          · exact bad (fun q => nn_b c5 (q.2.2.2.2))
end
