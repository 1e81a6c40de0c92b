/-! ===== THE CLASS: AimFerry: fewest, row, lighten ===== -/
def rmA : Room := { frames := 22, cells := 0, slots := 0, locals := 720 }
theorem dm_place {P b o : Nat} (hP : P ≤ 7) (hb : b < 2) (ho : o < 2 ^ P) : dmP (2 ^ P - 1) (128 * b + o) := by
  have h2 := p128 hP
  unfold dmP
  omega
section
variable (w : Wd) (l : Launch) (S : St) (c ca cg cl ce P H m nr : Nat) (u : Nat → Int32) (f x : Int32) (Fs : Nat → (Nat → Int64) → Int64)
theorem c_X11_fewest (h : aK S c ca cg cl ce P H m nr u f x Fs) (b : Nat) (hb : b < 2) (hB : u 11 = nI b) (what : Int32) : gx_M w l yX11_fewest cX11_fewest 3 (some .int) rmX11_fewest [.ref (ad (w_b w) 0), .int what] S (fun v S' => (∃ a N, v = some (.int a) ∧ (mostOK u what → dsP (plF P (vU u P H)) (2 ^ P - 1) N ∧ fwOK (plF P (vU u P H)) (2 ^ P - 1) N (128 * b + onN u (nI 1) P) what a) ∧ (¬ mostOK u what → a = -1)) ∧ eqO dD S S' ∧ ftK S' ∧ pzK S') := by
  have hP7 := aK.P7 h
  have hpl := dm_place hP7 hb (onN_lt u (nI 1) P)
  generalize hpost : (fun (v : Option Value) (S' : St) => (∃ a N, v = some (.int a) ∧ (mostOK u what → dsP (plF P (vU u P H)) (2 ^ P - 1) N ∧ fwOK (plF P (vU u P H)) (2 ^ P - 1) N (128 * b + onN u (nI 1) P) what a) ∧ (¬ mostOK u what → a = -1)) ∧ eqO dD S S' ∧ ftK S' ∧ pzK S') = post
  refine gx_start rfl 1 rfl (Nat.le_of_ble_eq_true rfl) ?_
  intro X C _ hl
  subst hl
  refine gx_L (L' := [_, _, _]) rfl ?_
  have bad : ¬ mostOK u what → gx_G w X S 0 0 22 [some (.ref (ad (w_b w) 0)), some (.int what), none] [] (gx_E w X post) := by
    intro hb
    refine g_iconst (pc := 22) (v := -1) C dX11_fewest_22 (by decide) ?_
    rw [← hpost]
    exact g_ireturn (pc := 23) C ⟨rfl, rfl⟩ dX11_fewest_23 ⟨⟨-1, fun _ => 0, rfl, fun q => absurd q hb, fun _ => rfl⟩, eqO.refl, aK.ft h, aK.pz h⟩
  refine g_aload_n (pc := 0) C dX11_fewest_0 rfl ?_
  refine fgr_X11_46 (pc := 1) C (by exact (aK.o0 h).1) (zk (by exact (aK.o0 h).2)) (by exact (aK.rn h)) dX11_fewest_1 ?_
  refine fgr_X11_54 (pc := 4) C (by exact (aK.o7 h).1) (zk (by exact (aK.o7 h).2)) (by exact (aK.rc h)) dX11_fewest_4 ?_
  refine fg_X11_142 (pc := 7) C (by exact (aK.oc h).1) (zk (by exact (aK.oc h).2)) dX11_fewest_7 ?_
  refine gx_ti (y := u 0) (aK.there h) ?_
  refine g_if_eq (pc := 10) C 22 dX11_fewest_10 rfl (fun c1 => ?_) (fun c1 => ?_)
  · exact bad (fun q => ok0 c1 q.1)
  · have c1 := ok1 (aK.u0 h) c1
    refine g_iload_n (pc := 13) C dX11_fewest_13 rfl ?_
    refine g_iconst (pc := 14) (v := nI 0) C dX11_fewest_14 (by decide) ?_
    refine g_iconst (pc := 15) (v := nI 1) C dX11_fewest_15 (by decide) ?_
    refine cf_X11_194 (pc := 16) C (c_X11_within _ _ S what (nI 0) (nI 1)) ⟨rfl, rfl⟩ ⟨rfl, rfl⟩ ⟨Nat.zero_le _, Nat.zero_le _⟩ rfl (Nat.le_of_ble_eq_true rfl) dX11_fewest_16 ?_
    refine g_if_ne (pc := 19) C 24 dX11_fewest_19 rfl (fun c2 => ?_) (fun c2 => ?_)
    · have c2 := Decidable.not_not.mp (fun q => c2 (bI_0.mpr q))
      have hok : mostOK u what := ⟨c1, c2⟩
      refine g_aload_n (pc := 24) C dX11_fewest_24 rfl ?_
      refine fgr_X11_68 (pc := 25) C (by exact (aK.o0 h).1) (zk (by exact (aK.o0 h).2)) (by exact (aK.rz h)) dX11_fewest_25 ?_
      refine g_aload_n (pc := 28) C dX11_fewest_28 rfl ?_
      refine fgr_X11_46 (pc := 29) C (by exact (aK.o0 h).1) (zk (by exact (aK.o0 h).2)) (by exact (aK.rn h)) dX11_fewest_29 ?_
      refine cg_X11_216 (pc := 32) C (by exact (aK.oz h).1) (zk (by exact (aK.oz h).2)) (c_X4_begin _ _ S c ca cg cl ce P H u (aK.pz h) (aK.nw h) (aK.sc h) (aK.sd h) (aK.hr h) (aK.hr2 h)) ⟨rfl, rfl⟩ ⟨Nat.zero_le _, Nat.zero_le _⟩ rfl (Nat.le_of_ble_eq_true rfl) dX11_fewest_32 ?_
      rintro _ S1 ⟨rfl, q1, z1⟩
      have f1 : ftK S1 := (aK.ft h).o q1 (fun k q => by unfold dZ at q; omega)
      have hD := q1.mono (E := dD) (fun k q => by unfold dZ at q; unfold dD; omega)
      have h1 := aK.to h hD f1 z1.1
      refine g_aload_n (pc := 35) C dX11_fewest_35 rfl ?_
      refine fgr_X11_68 (pc := 36) C (by exact (aK.o0 h1).1) (zk (by exact (aK.o0 h1).2)) (by exact (aK.rz h1)) dX11_fewest_36 ?_
      refine cg_X11_237 (pc := 39) C (by exact (aK.oz h1).1) (zk (by exact (aK.oz h1).2)) (c_X4_fewestCrossings _ _ S1 c ca cg cl ce P H b u z1 (aK.sd h) hb hB) ⟨rfl, rfl⟩ ⟨Nat.zero_le _, Nat.zero_le _⟩ rfl (Nat.le_of_ble_eq_true rfl) dX11_fewest_39 ?_
      rintro _ S2 ⟨q2, hfit, hds, hv, rfl⟩
      have f2 : ftK S2 := f1.o q2 (fun k q => by unfold dG at q; omega)
      have hD2 := hD.trans (q2.mono (E := dD) (fun k q => by unfold dG at q; unfold dD; omega))
      have z2 := z1.o q2 (fun k q => q)
      have h2 := aK.to h hD2 f2 z2.1
      have fin : ∀ a, fwOK (plF P (vU u P H)) (2 ^ P - 1) (s_A S2 79) (128 * b + onN u (nI 1) P) what a → post (some (.int a)) S2 := by
        intro a ha
        rw [← hpost]
        exact ⟨⟨a, s_A S2 79, rfl, fun _ => ⟨hds, ha⟩, fun q => absurd hok q⟩, hD2, f2, z2.1⟩
      rcases hv _ hpl with e | ⟨v, hv6, e⟩
      · refine gx_ti (y := -1) e ?_
        refine g_istore_n (pc := 42) (L' := [_, some (.int _), _]) C dX11_fewest_42 rfl rfl ?_
        refine g_iload_n (pc := 43) C dX11_fewest_43 rfl ?_
        refine g_iconst (pc := 44) (v := -1) C dX11_fewest_44 (by decide) ?_
        refine g_icmp_ne (pc := 45) C 51 dX11_fewest_45 rfl (fun c3 => ?_) (fun c3 => ?_)
        · exact absurd rfl c3
        · refine g_bipush (pc := 48) (v := -2) C dX11_fewest_48 (by decide) ?_
          exact g_ireturn (pc := 50) C ⟨rfl, rfl⟩ dX11_fewest_50 (fin _ (Or.inl ⟨by rw [e]; decide, rfl⟩))
      · refine gx_ti (y := nI v) e ?_
        refine g_istore_n (pc := 42) (L' := [_, some (.int _), _]) C dX11_fewest_42 rfl rfl ?_
        refine g_iload_n (pc := 43) C dX11_fewest_43 rfl ?_
        refine g_iconst (pc := 44) (v := -1) C dX11_fewest_44 (by decide) ?_
        refine g_icmp_ne (pc := 45) C 51 dX11_fewest_45 rfl (fun c3 => ?_) (fun c3 => ?_)
        · refine g_iload_n (pc := 51) C dX11_fewest_51 rfl ?_
          refine g_if_ne (pc := 52) C 59 dX11_fewest_52 rfl (fun c4 => ?_) (fun c4 => ?_)
          · refine g_aload_n (pc := 59) C dX11_fewest_59 rfl ?_
            refine fgr_X11_68 (pc := 60) C (by exact (aK.o0 h2).1) (zk (by exact (aK.o0 h2).2)) (by exact (aK.rz h2)) dX11_fewest_60 ?_
            refine g_iload_n (pc := 63) C dX11_fewest_63 rfl ?_
            refine cg_X11_240 (pc := 64) C (by exact (aK.oz h2).1) (zk (by exact (aK.oz h2).2)) (c_X4_firstSetOf _ _ S2 c ca cg cl ce P H b v u z2 hb hB hfit hds e hv6) ⟨rfl, rfl⟩ ⟨Nat.zero_le _, Nat.zero_le _⟩ rfl (Nat.le_of_ble_eq_true rfl) dX11_fewest_64 ?_
            rintro _ S3 ⟨rfl, r, rfl, hr⟩
            rcases hr with ⟨rfl, rfl⟩ | ⟨mm, s, rfl, hs, ok, no, rfl⟩
            · exact g_ireturn (pc := 67) C ⟨rfl, rfl⟩ dX11_fewest_67 (fin _ (Or.inr (Or.inl ⟨by rw [e]; decide, Or.inl e, e.symm⟩)))
            · exact g_ireturn (pc := 67) C ⟨rfl, rfl⟩ dX11_fewest_67 (fin _ (Or.inr (Or.inr ⟨mm, s, by omega, e, c4, hs, ok, no, rfl⟩)))
          · refine g_iload_n (pc := 55) C dX11_fewest_55 rfl ?_
            refine g_goto (pc := 56) C 67 dX11_fewest_56 rfl ?_
            exact g_ireturn (pc := 67) C ⟨rfl, rfl⟩ dX11_fewest_67 (fin _ (Or.inr (Or.inl ⟨by rw [e]; exact nI_pos' (by omega), Or.inr (Decidable.not_not.mp c4), e.symm⟩)))
        · exact absurd (Decidable.not_not.mp c3) (nI_m1 (by omega))
    · exact bad (fun q => nn_b c2 (q.2))
theorem c_X11_row (h : aK S c ca cg cl ce P H m nr u f x Fs) (B : Nat → Int32) (what : Int32) : gx_M w l yX11_row cX11_row 3 (some .int) rmA [.ref (ad (w_b w) 0), .int what] S (aP S (if rowOK u what then rowA u P B what else -3)) := by
  have hP7 := aK.P7 h
  have ho : onN u (u 11) P < 128 := onN_128 hP7
  have h8 := popN_le _ ho
  refine gx_start rfl 1 rfl (Nat.le_of_ble_eq_true rfl) ?_
  intro X C _ hl
  subst hl
  refine gx_L (L' := [_, _, _]) rfl ?_
  generalize hA : (if rowOK u what then rowA u P B what else -3) = A
  have bad : ¬ rowOK u what → gx_G w X S 0 0 23 [some (.ref (ad (w_b w) 0)), some (.int what), none] [] (gx_E w X (aP S A)) := by
    intro hb
    rw [if_neg hb] at hA
    subst hA
    refine g_bipush (pc := 23) (v := -3) C dX11_row_23 (by decide) ?_
    exact g_ireturn (pc := 25) C ⟨rfl, rfl⟩ dX11_row_25 ⟨rfl, eqO.refl, aK.ft h, aK.pz h⟩
  refine g_aload_n (pc := 0) C dX11_row_0 rfl ?_
  refine fgr_X11_46 (pc := 1) C (by exact (aK.o0 h).1) (zk (by exact (aK.o0 h).2)) (by exact (aK.rn h)) dX11_row_1 ?_
  refine fgr_X11_54 (pc := 4) C (by exact (aK.o7 h).1) (zk (by exact (aK.o7 h).2)) (by exact (aK.rc h)) dX11_row_4 ?_
  refine fg_X11_142 (pc := 7) C (by exact (aK.oc h).1) (zk (by exact (aK.oc h).2)) dX11_row_7 ?_
  refine gx_ti (y := u 0) (aK.there h) ?_
  refine g_if_eq (pc := 10) C 23 dX11_row_10 rfl (fun c1 => ?_) (fun c1 => ?_)
  · exact bad (fun q => ok0 c1 q.1)
  · have c1 := ok1 (aK.u0 h) c1
    refine g_iload_n (pc := 13) C dX11_row_13 rfl ?_
    refine g_iconst (pc := 14) (v := -1) C dX11_row_14 (by decide) ?_
    refine g_bipush (pc := 15) (v := nI 6) C dX11_row_15 (by decide) ?_
    refine cf_X11_194 (pc := 17) C (c_X11_within _ _ S what (-1) (nI 6)) ⟨rfl, rfl⟩ ⟨rfl, rfl⟩ ⟨Nat.zero_le _, Nat.zero_le _⟩ rfl (Nat.le_of_ble_eq_true rfl) dX11_row_17 ?_
    refine g_if_ne (pc := 20) C 26 dX11_row_20 rfl (fun c2 => ?_) (fun c2 => ?_)
    · have c2 := Decidable.not_not.mp (fun q => c2 (bI_0.mpr q))
      rw [if_pos (⟨c1, c2⟩ : rowOK u what)] at hA
      refine g_aload_n (pc := 26) C dX11_row_26 rfl ?_
      refine fgr_X11_68 (pc := 27) C (by exact (aK.o0 h).1) (zk (by exact (aK.o0 h).2)) (by exact (aK.rz h)) dX11_row_27 ?_
      refine g_aload_n (pc := 30) C dX11_row_30 rfl ?_
      refine fgr_X11_46 (pc := 31) C (by exact (aK.o0 h).1) (zk (by exact (aK.o0 h).2)) (by exact (aK.rn h)) dX11_row_31 ?_
      refine cg_X11_216 (pc := 34) C (by exact (aK.oz h).1) (zk (by exact (aK.oz h).2)) (c_X4_begin _ _ S c ca cg cl ce P H u (aK.pz h) (aK.nw h) (aK.sc h) (aK.sd h) (aK.hr h) (aK.hr2 h)) ⟨rfl, rfl⟩ ⟨Nat.zero_le _, Nat.zero_le _⟩ rfl (Nat.le_of_ble_eq_true rfl) dX11_row_34 ?_
      rintro _ S1 ⟨rfl, q1, z1⟩
      have f1 : ftK S1 := (aK.ft h).o q1 (fun k q => by unfold dZ at q; omega)
      have hD := q1.mono (E := dD) (fun k q => by unfold dZ at q; unfold dD; omega)
      have h1 := aK.to h hD f1 z1.1
      refine g_aload_n (pc := 37) C dX11_row_37 rfl ?_
      refine fgr_X11_68 (pc := 38) C (by exact (aK.o0 h1).1) (zk (by exact (aK.o0 h1).2)) (by exact (aK.rz h1)) dX11_row_38 ?_
      refine cg_X11_243 (pc := 41) C (by exact (aK.oz h1).1) (zk (by exact (aK.oz h1).2)) (c_X4_findRow _ _ S1 c ca cg cl ce P H u z1 (aK.bd h) B) ⟨rfl, rfl⟩ ⟨Nat.zero_le _, Nat.zero_le _⟩ rfl (Nat.le_of_ble_eq_true rfl) dX11_row_41 ?_
      rintro _ S2 ⟨rfl, q2, e1, e2⟩
      have f2 : ftK S2 := f1.o q2.1 (fun k q => by unfold dW at q; omega)
      have hD2 := hD.trans (q2.1.mono (E := dD) (fun k q => by unfold dW at q; unfold dD; omega))
      have z2 := z1.w q2
      have h2 := aK.to h hD2 f2 z2.1
      unfold rowA at hA
      refine g_istore_n (pc := 44) (L' := [_, some (.int _), _]) C dX11_row_44 rfl rfl ?_
      refine g_iload_n (pc := 45) C dX11_row_45 rfl ?_
      refine g_iconst (pc := 46) (v := -1) C dX11_row_46 (by decide) ?_
      refine g_icmp_ne (pc := 47) C 58 dX11_row_47 rfl (fun c3 => ?_) (fun c3 => ?_)
      · rw [if_neg c3] at hA
        have hw0 : 0 ≤ what := by
          have q1 := c2.1
          have : ¬ what.toInt = -1 := fun e => c3 (Int32.toInt_inj.mp e)
          have := Int32.le_iff_toInt_le.mp q1
          refine Int32.le_iff_toInt_le.mpr ?_
          have e0 : (0 : Int32).toInt = 0 := by decide
          have e1 : (-1 : Int32).toInt = -1 := by decide
          omega
        obtain ⟨k, hk, rfl⟩ := nat_of (by omega) ⟨hw0, c2.2⟩
        refine g_iload_n (pc := 58) C dX11_row_58 rfl ?_
        refine g_iload_n (pc := 59) C dX11_row_59 rfl ?_
        refine g_icmp_ge (pc := 60) C 75 dX11_row_60 rfl (fun c4 => ?_) (fun c4 => ?_)
        · rw [if_neg (fun q => absurd c4 (Int32.not_le.mpr q))] at hA
          refine g_bipush (pc := 75) (v := -2) C dX11_row_75 (by decide) ?_
          exact g_ireturn (pc := 77) C ⟨rfl, rfl⟩ dX11_row_77 ⟨by rw [← hA], hD2, f2, z2.1⟩
        · have c4 := Int32.not_le.mp c4
          have hk2 := (nI_ltI (by omega) (by omega)).mp c4
          rw [if_pos c4, nI_clamp (by omega)] at hA
          refine g_aload_n (pc := 63) C dX11_row_63 rfl ?_
          refine fgr_X11_68 (pc := 64) C (by exact (aK.o0 h2).1) (zk (by exact (aK.o0 h2).2)) (by exact (aK.rz h2)) dX11_row_64 ?_
          refine fgr_X11_249 (pc := 67) C (by exact (aK.oz h2).1) (zk (by exact (aK.oz h2).2)) (by exact (aK.rw h2)) dX11_row_67 ?_
          refine g_iload_n (pc := 70) C dX11_row_70 rfl ?_
          refine n_iald (pc := 71) (n := 7) C (by exact (aK.aw h2).1) (by exact (aK.aw h2).2.1) (zk (by exact (aK.aw h2).2.2)) isn_v rfl (by omega) dX11_row_71 ?_
          refine g_goto (pc := 72) C 77 dX11_row_72 rfl ?_
          exact g_ireturn (pc := 77) C ⟨rfl, rfl⟩ dX11_row_77 ⟨by rw [← hA, e2 k hk2], hD2, f2, z2.1⟩
      · rw [if_pos (Decidable.not_not.mp c3)] at hA
        refine g_aload_n (pc := 50) C dX11_row_50 rfl ?_
        refine fgr_X11_68 (pc := 51) C (by exact (aK.o0 h2).1) (zk (by exact (aK.o0 h2).2)) (by exact (aK.rz h2)) dX11_row_51 ?_
        refine fg_X11_246 (pc := 54) C (by exact (aK.oz h2).1) (zk (by exact (aK.oz h2).2)) dX11_row_54 ?_
        exact g_ireturn (pc := 57) C ⟨rfl, rfl⟩ dX11_row_57 ⟨by rw [← hA, e1], hD2, f2, z2.1⟩
    · exact bad (fun q => nn_b c2 (q.2))
theorem c_X11_lighten (h : aK S c ca cg cl ce P H m nr u f x Fs) (M W : Nat → Int32) (y : Int32) : gx_M w l yX11_lighten cX11_lighten 2 (some .int) rmA [.ref (ad (w_b w) 0), .int y] S (aP S (if lgOK u P y then ffF (lgK 0 u P H y.toNatClampNeg (lgQ u P y.toNatClampNeg M W).1) 700 0 else -1)) := by
  have hP7 := aK.P7 h
  have h2P := (p128 hP7).2
  have ho : onN u (u 11) P < 128 := onN_128 hP7
  refine gx_start rfl 0 rfl (Nat.le_of_ble_eq_true rfl) ?_
  intro X C _ hl
  subst hl
  refine gx_L (L' := [_, _]) rfl ?_
  generalize hA : (if lgOK u P y then ffF (lgK 0 u P H y.toNatClampNeg (lgQ u P y.toNatClampNeg M W).1) 700 0 else -1) = A
  have bad : ¬ lgOK u P y → gx_G w X S 0 0 51 [some (.ref (ad (w_b w) 0)), some (.int y)] [] (gx_E w X (aP S A)) := by
    intro hb
    rw [if_neg hb] at hA
    subst hA
    refine g_iconst (pc := 51) (v := -1) C dX11_lighten_51 (by decide) ?_
    exact g_ireturn (pc := 52) C ⟨rfl, rfl⟩ dX11_lighten_52 ⟨rfl, eqO.refl, aK.ft h, aK.pz h⟩
  refine g_aload_n (pc := 0) C dX11_lighten_0 rfl ?_
  refine fgr_X11_46 (pc := 1) C (by exact (aK.o0 h).1) (zk (by exact (aK.o0 h).2)) (by exact (aK.rn h)) dX11_lighten_1 ?_
  refine fgr_X11_54 (pc := 4) C (by exact (aK.o7 h).1) (zk (by exact (aK.o7 h).2)) (by exact (aK.rc h)) dX11_lighten_4 ?_
  refine fg_X11_142 (pc := 7) C (by exact (aK.oc h).1) (zk (by exact (aK.oc h).2)) dX11_lighten_7 ?_
  refine gx_ti (y := u 0) (aK.there h) ?_
  refine g_if_eq (pc := 10) C 51 dX11_lighten_10 rfl (fun c1 => ?_) (fun c1 => ?_)
  · exact bad (fun q => ok0 c1 q.1.1)
  · have c1 := ok1 (aK.u0 h) c1
    refine g_aload_n (pc := 13) C dX11_lighten_13 rfl ?_
    refine fgr_X11_46 (pc := 14) C (by exact (aK.o0 h).1) (zk (by exact (aK.o0 h).2)) (by exact (aK.rn h)) dX11_lighten_14 ?_
    refine fgr_X11_120 (pc := 17) C (by exact (aK.o7 h).1) (zk (by exact (aK.o7 h).2)) (by exact (aK.rr h)) dX11_lighten_17 ?_
    refine g_aload_n (pc := 20) C dX11_lighten_20 rfl ?_
    refine fgr_X11_46 (pc := 21) C (by exact (aK.o0 h).1) (zk (by exact (aK.o0 h).2)) (by exact (aK.rn h)) dX11_lighten_21 ?_
    refine fgr_X11_54 (pc := 24) C (by exact (aK.o7 h).1) (zk (by exact (aK.o7 h).2)) (by exact (aK.rc h)) dX11_lighten_24 ?_
    refine g_iload_n (pc := 27) C dX11_lighten_27 rfl ?_
    refine cf_X11_227 (pc := 28) C (by exact (aK.ov h).1) (zk (by exact (aK.ov h).2)) (c_X6_areHere _ _ S c ca cg cl ce 13 14 P u (aK.cr h) (aK.rv h) y) ⟨rfl, rfl⟩ ⟨rfl, rfl⟩ ⟨Nat.zero_le _, Nat.zero_le _⟩ rfl (Nat.le_of_ble_eq_true rfl) dX11_lighten_28 ?_
    refine g_if_eq (pc := 31) C 51 dX11_lighten_31 rfl (fun c2 => ?_) (fun c2 => ?_)
    · refine bad (fun q => bI_0.mp c2 ?_)
      obtain ⟨s, hs, rfl, es⟩ := setP_of hP7 q.1.2
      have q2 := q.2.1
      rw [es] at q2
      exact (sub_all ho).mpr ⟨s, by omega, rfl, q2⟩
    · have c2 := Decidable.not_not.mp (fun q => c2 (bI_0.mpr q))
      obtain ⟨s, hs, rfl, hsub⟩ := (sub_all ho).mp c2
      have es : (nI s).toNatClampNeg = s := nI_clamp (by omega)
      have hsP : s < 2 ^ P := Nat.lt_of_le_of_lt (by have := Nat.left_le_or (n := s) (m := onN u (u 11) P); rw [hsub] at this; exact this) (onN_lt u (u 11) P)
      refine g_iload_n (pc := 34) C dX11_lighten_34 rfl ?_
      refine cf_X11_222 (pc := 35) C (c_bitCount _ _ S s hs) ⟨rfl, rfl⟩ ⟨rfl, rfl⟩ ⟨Nat.zero_le _, Nat.zero_le _⟩ rfl (Nat.le_of_ble_eq_true rfl) dX11_lighten_35 ?_
      refine g_aload_n (pc := 38) C dX11_lighten_38 rfl ?_
      refine fgr_X11_46 (pc := 39) C (by exact (aK.o0 h).1) (zk (by exact (aK.o0 h).2)) (by exact (aK.rn h)) dX11_lighten_39 ?_
      refine fgr_X11_54 (pc := 42) C (by exact (aK.o7 h).1) (zk (by exact (aK.o7 h).2)) (by exact (aK.rc h)) dX11_lighten_42 ?_
      refine fg_X11_231 (pc := 45) C (by exact (aK.oc h).1) (zk (by exact (aK.oc h).2)) dX11_lighten_45 ?_
      refine gx_ti (y := u 2) ((aK.cr h).2.1.2.2.1) ?_
      refine g_icmp_le (pc := 48) C 53 dX11_lighten_48 rfl (fun c3 => ?_) (fun c3 => ?_)
      · rw [if_pos (⟨⟨c1, nI_pos' (by omega), nI_lt hsP (by omega)⟩, by rw [es]; exact hsub, by rw [es]; exact c3⟩ : lgOK u P (nI s)), es] at hA
        refine g_aload_n (pc := 53) C dX11_lighten_53 rfl ?_
        refine fgr_X11_68 (pc := 54) C (by exact (aK.o0 h).1) (zk (by exact (aK.o0 h).2)) (by exact (aK.rz h)) dX11_lighten_54 ?_
        refine g_aload_n (pc := 57) C dX11_lighten_57 rfl ?_
        refine fgr_X11_46 (pc := 58) C (by exact (aK.o0 h).1) (zk (by exact (aK.o0 h).2)) (by exact (aK.rn h)) dX11_lighten_58 ?_
        refine cg_X11_216 (pc := 61) C (by exact (aK.oz h).1) (zk (by exact (aK.oz h).2)) (c_X4_begin _ _ S c ca cg cl ce P H u (aK.pz h) (aK.nw h) (aK.sc h) (aK.sd h) (aK.hr h) (aK.hr2 h)) ⟨rfl, rfl⟩ ⟨Nat.zero_le _, Nat.zero_le _⟩ rfl (Nat.le_of_ble_eq_true rfl) dX11_lighten_61 ?_
        rintro _ S1 ⟨rfl, q1, z1⟩
        have f1 : ftK S1 := (aK.ft h).o q1 (fun k q => by unfold dZ at q; omega)
        have hD := q1.mono (E := dD) (fun k q => by unfold dZ at q; unfold dD; omega)
        have h1 := aK.to h hD f1 z1.1
        refine g_aload_n (pc := 64) C dX11_lighten_64 rfl ?_
        refine fgr_X11_68 (pc := 65) C (by exact (aK.o0 h1).1) (zk (by exact (aK.o0 h1).2)) (by exact (aK.rz h1)) dX11_lighten_65 ?_
        refine g_iload_n (pc := 68) C dX11_lighten_68 rfl ?_
        refine cf_X11_234 (pc := 69) C (by exact (aK.oz h1).1) (zk (by exact (aK.oz h1).2)) (c_X4_leastThrown _ _ S1 c ca cg cl ce P H s u M W z1 (aK.bd h) (aK.sd h) hs) ⟨rfl, rfl⟩ ⟨rfl, rfl⟩ ⟨Nat.zero_le _, Nat.zero_le _⟩ rfl (Nat.le_of_ble_eq_true rfl) dX11_lighten_69 ?_
        exact g_ireturn (pc := 72) C ⟨rfl, rfl⟩ dX11_lighten_72 ⟨by rw [← hA], hD, f1, z1.1⟩
      · exact bad (fun q => c3 (by have := q.2.2; rwa [es] at this))
end
