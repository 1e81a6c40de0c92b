/-! ===== THE CLASS: AimFerry: toss ===== -/
theorem o64 : (1 : Int32).toInt64 = 1 := by decide +kernel
theorem o64b : (nI 20).toInt64 = 20 := by decide +kernel
section
variable (w : Wd) (l : Launch) (S : St) (c ca cg cl ce P H m nr : Nat) (u : Nat → Int32) (f x : Int32) (Fs : Nat → (Nat → Int64) → Int64)
theorem c_X11_toss (h : aK S c ca cg cl ce P H m nr u f x Fs) (z j : Nat) (W : Nat → Nat → Int32) (hp : pastS S z j P W) (p much : Int32) : gx_M w l yX11_toss cX11_toss 3 (some .int) rmX11_toss [.ref (ad (w_b w) 0), .int p, .int much] S (fun v S' => if tossOK u P p much then (v = some (.int (u (14 + p.toNatClampNeg) - much)) ∧ actP S S' z j P W u (tossF u p.toNatClampNeg much)) else (v = some (.int (-1)) ∧ S' = S)) := by
  have h9 := aK.hr9 h
  have hP7 := aK.P7 h
  generalize hpost : (fun (v : Option Value) (S' : St) => if tossOK u P p much then (v = some (.int (u (14 + p.toNatClampNeg) - much)) ∧ actP S S' z j P W u (tossF u p.toNatClampNeg much)) else (v = some (.int (-1)) ∧ S' = S)) = post
  refine gx_start rfl 0 rfl (Nat.le_of_ble_eq_true rfl) ?_
  intro X C _ hl
  subst hl
  refine gx_L (L' := [_, _, _]) rfl ?_
  have bad : ¬ tossOK u P p much → gx_G w X S 0 0 35 [some (.ref (ad (w_b w) 0)), some (.int p), some (.int much)] [] (gx_E w X post) := by
    intro hb
    refine g_iconst (pc := 35) (v := -1) C dX11_toss_35 (by decide) ?_
    rw [← hpost]
    exact g_ireturn (pc := 36) C ⟨rfl, rfl⟩ dX11_toss_36 (by rw [if_neg hb]; exact ⟨rfl, rfl⟩)
  refine g_aload_n (pc := 0) C dX11_toss_0 rfl ?_
  refine fgr_X11_46 (pc := 1) C (by exact (aK.o0 h).1) (zk (by exact (aK.o0 h).2)) (by exact (aK.rn h)) dX11_toss_1 ?_
  refine fgr_X11_54 (pc := 4) C (by exact (aK.o7 h).1) (zk (by exact (aK.o7 h).2)) (by exact (aK.rc h)) dX11_toss_4 ?_
  refine g_iload_n (pc := 7) C dX11_toss_7 rfl ?_
  refine cf_X11_116 (pc := 8) C (by exact (aK.oc h).1) (zk (by exact (aK.oc h).2)) (c_X0_has _ _ S c ca cg cl ce P u (aK.cr h) p) ⟨rfl, rfl⟩ ⟨rfl, rfl⟩ ⟨Nat.zero_le _, Nat.zero_le _⟩ rfl (Nat.le_of_ble_eq_true rfl) dX11_toss_8 ?_
  refine g_if_eq (pc := 11) C 35 dX11_toss_11 rfl (fun c1 => ?_) (fun c1 => ?_)
  · exact bad (fun q => bI_0.mp c1 q.1)
  · have c1 := Decidable.not_not.mp (fun q => c1 (bI_0.mpr q))
    obtain ⟨k, hk, rfl, ec⟩ := person_of hP7 c1
    obtain ⟨a, ha, ea⟩ := (aK.sd h).2.1 k hk
    have e1 : tossOK u P (nI k) much ↔ (1 ≤ much ∧ much ≤ u (14 + k)) := by
      unfold tossOK
      rw [ec, ← o64, in64]
      exact ⟨fun q => q.2, fun q => ⟨c1, q⟩⟩
    refine g_iload_n (pc := 14) C dX11_toss_14 rfl ?_
    refine g_iconst (pc := 15) (v := nI 1) C dX11_toss_15 (by decide) ?_
    refine g_icmp_lt (pc := 16) C 35 dX11_toss_16 rfl (fun c2 => ?_) (fun c2 => ?_)
    · exact bad (fun q => absurd c2 (Int32.not_lt.mpr (e1.mp q).1))
    · have c2 := Int32.not_lt.mp c2
      refine g_iload_n (pc := 19) C dX11_toss_19 rfl ?_
      refine g_aload_n (pc := 20) C dX11_toss_20 rfl ?_
      refine fgr_X11_46 (pc := 21) C (by exact (aK.o0 h).1) (zk (by exact (aK.o0 h).2)) (by exact (aK.rn h)) dX11_toss_21 ?_
      refine fgr_X11_120 (pc := 24) C (by exact (aK.o7 h).1) (zk (by exact (aK.o7 h).2)) (by exact (aK.rr h)) dX11_toss_24 ?_
      refine fgr_X11_124 (pc := 27) C (by exact (aK.ov h).1) (zk (by exact (aK.ov h).2)) (by exact (aK.ra h)) dX11_toss_27 ?_
      refine g_iload_n (pc := 30) C dX11_toss_30 rfl ?_
      refine n_iald (pc := 31) (n := 7) C (by exact (aK.aa h).1) (by exact (aK.aa h).2.1) (zk (by exact (aK.aa h).2.2)) isn_v rfl (by omega) dX11_toss_31 ?_
      refine gx_ti (y := u (14 + k)) (aK.vaim h hk) ?_
      refine g_icmp_le (pc := 32) C 37 dX11_toss_32 rfl (fun c3 => ?_) (fun c3 => ?_)
      · have hok := e1.mpr ⟨c2, c3⟩
        rw [ea] at c3
        obtain ⟨b, hb, rfl⟩ := nat_of (by omega) ⟨Int32.le_trans (by decide) c2, c3⟩
        refine g_aload_n (pc := 37) C dX11_toss_37 rfl ?_
        refine cg_X11_149 (pc := 38) C (by exact (aK.o0 h).1) (zk (by exact (aK.o0 h).2)) (c_X11_remA _ _ S c ca cg cl ce P H m nr u f x Fs h z j W hp) ⟨rfl, rfl⟩ ⟨Nat.zero_le _, Nat.zero_le _⟩ rfl (Nat.le_of_ble_eq_true rfl) dX11_toss_38 ?_
        rintro _ S1 ⟨rfl, a1⟩
        have h1 := aK.act h a1 (fun _ _ => rfl) (aK.sd h).2.1 (aK.hr h) h9
        refine g_aload_n (pc := 41) C dX11_toss_41 rfl ?_
        refine fgr_X11_46 (pc := 42) C (by exact (aK.o0 h1).1) (zk (by exact (aK.o0 h1).2)) (by exact (aK.rn h1)) dX11_toss_42 ?_
        refine fgr_X11_120 (pc := 45) C (by exact (aK.o7 h1).1) (zk (by exact (aK.o7 h1).2)) (by exact (aK.rr h1)) dX11_toss_45 ?_
        refine fgr_X11_124 (pc := 48) C (by exact (aK.ov h1).1) (zk (by exact (aK.ov h1).2)) (by exact (aK.ra h1)) dX11_toss_48 ?_
        refine g_iload_n (pc := 51) C dX11_toss_51 rfl ?_
        refine g_dup2 (pc := 52) C dX11_toss_52 rfl rfl ?_
        refine n_iald (pc := 53) (n := 7) C (by exact (aK.aa h1).1) (by exact (aK.aa h1).2.1) (zk (by exact (aK.aa h1).2.2)) isn_v rfl (by omega) dX11_toss_53 ?_
        refine gx_ti (y := u (14 + k)) (aK.vaim h1 hk) ?_
        refine g_iload_n (pc := 54) C dX11_toss_54 rfl ?_
        refine g_isub (pc := 55) C dX11_toss_55 ?_
        refine n_iast (pc := 56) (n := 7) C (by exact (aK.aa h1).1) (by exact (aK.aa h1).2.1) (zk (by exact (aK.aa h1).2.2)) isn_v rfl (by omega) dX11_toss_56 ?_
        have a2 := a1.thn (D := fun k => k = 14) (eqO.sA rfl) (fun k q => Or.inr (Or.inl q)) ((aK.ft h1).o (D := fun k => k = 14) (eqO.sA rfl) (fun k q => by omega)) (rv_set (j := k) (v := u (14 + k) - nI b) (aK.rv h1) hP7 (by omega))
        have am : amU P (upd u (14 + k) (u (14 + k) - nI b)) := by rw [ea, pk_sub hb]; exact amU_upd (aK.sd h).2.1 (by omega)
        have h2 := aK.act h a2 (fun i hi => pk_un (by omega)) am ((pk_un (by omega)).trans (aK.hr h)) h9
        generalize s_setA S1 14 (upd (s_A S1 14) k (u (14 + k) - nI b)) = S2 at a2 h2 ⊢
        refine g_aload_n (pc := 57) C dX11_toss_57 rfl ?_
        refine fgr_X11_46 (pc := 58) C (by exact (aK.o0 h2).1) (zk (by exact (aK.o0 h2).2)) (by exact (aK.rn h2)) dX11_toss_58 ?_
        refine fgr_X11_120 (pc := 61) C (by exact (aK.o7 h2).1) (zk (by exact (aK.o7 h2).2)) (by exact (aK.rr h2)) dX11_toss_61 ?_
        refine g_dup (pc := 64) C dX11_toss_64 rfl ?_
        refine fg_X11_176 (pc := 65) C (by exact (aK.ov h2).1) (zk (by exact (aK.ov h2).2)) dX11_toss_65 ?_
        refine gx_ti (y := u 13) ((aK.rv h2).2.1.2.2.2.2.1.trans (pk_un (by omega))) ?_
        refine g_iload_n (pc := 68) C dX11_toss_68 rfl ?_
        refine g_iadd (pc := 69) C dX11_toss_69 ?_
        refine fp_X11_176 (pc := 70) C (by exact (aK.ov h2).1) (zk (by exact (aK.ov h2).2)) dX11_toss_70 ?_
        have a3 := a2.thn (D := fun k => k = 13) (eqO.sI (f := 504) (v := u 13 + nI b) rfl) (fun k q => Or.inl q) ((aK.ft h2).o (D := fun k => k = 13) (eqO.sI rfl) (fun k q => by omega)) (rv_bot (v := u 13 + nI b) (aK.rv h2) hP7)
        have am3 : amU P (upd (upd u (14 + k) (u (14 + k) - nI b)) 13 (u 13 + nI b)) := fun p hp => by rw [pk_un (by omega)]; exact am p hp
        have h3 := aK.act h a3 (fun i hi => (pk_un (by omega)).trans (pk_un (by omega))) am3 ((pk_un (by omega)).trans ((pk_un (by omega)).trans (aK.hr h))) h9
        generalize s_setI S2 504 13 (u 13 + nI b) = S3 at a3 h3 ⊢
        refine g_aload_n (pc := 73) C dX11_toss_73 rfl ?_
        refine fgr_X11_46 (pc := 74) C (by exact (aK.o0 h3).1) (zk (by exact (aK.o0 h3).2)) (by exact (aK.rn h3)) dX11_toss_74 ?_
        refine fgr_X11_120 (pc := 77) C (by exact (aK.o7 h3).1) (zk (by exact (aK.o7 h3).2)) (by exact (aK.rr h3)) dX11_toss_77 ?_
        refine fgr_X11_124 (pc := 80) C (by exact (aK.ov h3).1) (zk (by exact (aK.ov h3).2)) (by exact (aK.ra h3)) dX11_toss_80 ?_
        refine g_iload_n (pc := 83) C dX11_toss_83 rfl ?_
        refine n_iald (pc := 84) (n := 7) C (by exact (aK.aa h3).1) (by exact (aK.aa h3).2.1) (zk (by exact (aK.aa h3).2.2)) isn_v rfl (by omega) dX11_toss_84 ?_
        rw [← hpost]
        exact g_ireturn (pc := 85) C ⟨rfl, rfl⟩ dX11_toss_85 (by rw [if_pos hok, ec]; exact ⟨congrArg (fun z => some (Value.int z)) ((aK.vaim h3 hk).trans ((pk_un (by omega)).trans pk_us)), a3⟩)
      · exact bad (fun q => c3 (e1.mp q).2)
end
