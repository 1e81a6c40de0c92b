/-! ===== THE CLASS: AimFerry: talk ===== -/
section
variable (w : Wd) (l : Launch) (S : St) (c ca cg cl ce P H m nr : Nat) (u : Nat → Int32) (f x : Int32) (Fs : Nat → (Nat → Int64) → Int64)
theorem c_X11_talk (h : aK S c ca cg cl ce P H m nr u f x Fs) (z j : Nat) (W : Nat → Nat → Int32) (hp : pastS S z j P W) (p much : Int32) : gx_M w l yX11_talk cX11_talk 3 (some .int) rmX11_talk [.ref (ad (w_b w) 0), .int p, .int much] S (fun v S' => if talkOK u P p much then (v = some (.int (atMostF (u (14 + p.toNatClampNeg) + much) (nI 99))) ∧ actP S S' z j P W u (talkF u p.toNatClampNeg much)) else (v = some (.int (-1)) ∧ S' = S)) := by
  have h9 := aK.hr9 h
  have hP7 := aK.P7 h
  generalize hpost : (fun (v : Option Value) (S' : St) => if talkOK u P p much then (v = some (.int (atMostF (u (14 + p.toNatClampNeg) + much) (nI 99))) ∧ actP S S' z j P W u (talkF u p.toNatClampNeg much)) else (v = some (.int (-1)) ∧ S' = S)) = post
  refine gx_start rfl 0 rfl (Nat.le_of_ble_eq_true rfl) ?_
  intro X C _ hl
  subst hl
  refine gx_L (L' := [_, _, _]) rfl ?_
  have bad : ¬ talkOK u P p much → gx_G w X S 0 0 40 [some (.ref (ad (w_b w) 0)), some (.int p), some (.int much)] [] (gx_E w X post) := by
    intro hb
    refine g_iconst (pc := 40) (v := -1) C dX11_talk_40 (by decide) ?_
    rw [← hpost]
    exact g_ireturn (pc := 41) C ⟨rfl, rfl⟩ dX11_talk_41 (by rw [if_neg hb]; exact ⟨rfl, rfl⟩)
  refine g_aload_n (pc := 0) C dX11_talk_0 rfl ?_
  refine fgr_X11_46 (pc := 1) C (by exact (aK.o0 h).1) (zk (by exact (aK.o0 h).2)) (by exact (aK.rn h)) dX11_talk_1 ?_
  refine fgr_X11_54 (pc := 4) C (by exact (aK.o7 h).1) (zk (by exact (aK.o7 h).2)) (by exact (aK.rc h)) dX11_talk_4 ?_
  refine g_iload_n (pc := 7) C dX11_talk_7 rfl ?_
  refine cf_X11_116 (pc := 8) C (by exact (aK.oc h).1) (zk (by exact (aK.oc h).2)) (c_X0_has _ _ S c ca cg cl ce P u (aK.cr h) p) ⟨rfl, rfl⟩ ⟨rfl, rfl⟩ ⟨Nat.zero_le _, Nat.zero_le _⟩ rfl (Nat.le_of_ble_eq_true rfl) dX11_talk_8 ?_
  refine g_if_eq (pc := 11) C 40 dX11_talk_11 rfl (fun c1 => ?_) (fun c1 => ?_)
  · exact bad (fun q => bI_0.mp c1 q.1)
  · have c1 := Decidable.not_not.mp (fun q => c1 (bI_0.mpr q))
    obtain ⟨k, hk, rfl, ec⟩ := person_of hP7 c1
    obtain ⟨a, ha, ea⟩ := (aK.sd h).2.1 k hk
    have e1 : talkOK u P (nI k) much ↔ ((1 ≤ much ∧ much ≤ nI 20) ∧ u (35 + k) ≤ 0) := by
      unfold talkOK
      rw [ec, ← o64, ← o64b, in64]
      exact ⟨fun q => q.2, fun q => ⟨c1, q⟩⟩
    refine g_aload_n (pc := 14) C dX11_talk_14 rfl ?_
    refine fgr_X11_46 (pc := 15) C (by exact (aK.o0 h).1) (zk (by exact (aK.o0 h).2)) (by exact (aK.rn h)) dX11_talk_15 ?_
    refine fgr_X11_54 (pc := 18) C (by exact (aK.o7 h).1) (zk (by exact (aK.o7 h).2)) (by exact (aK.rc h)) dX11_talk_18 ?_
    refine fgr_X11_131 (pc := 21) C (by exact (aK.oc h).1) (zk (by exact (aK.oc h).2)) (by exact (aK.rl h)) dX11_talk_21 ?_
    refine g_iload_n (pc := 24) C dX11_talk_24 rfl ?_
    refine n_iald (pc := 25) (n := 7) C (by exact (aK.al h).1) (by exact (aK.al h).2.1) (zk (by exact (aK.al h).2.2)) isn_v rfl (by omega) dX11_talk_25 ?_
    refine gx_ti (y := u (35 + k)) (aK.vlig h hk) ?_
    refine g_if_gt (pc := 26) C 40 dX11_talk_26 rfl (fun c2 => ?_) (fun c2 => ?_)
    · exact bad (fun q => absurd c2 (Int32.not_lt.mpr (e1.mp q).2))
    · have c2 := Int32.not_lt.mp c2
      refine g_iload_n (pc := 29) C dX11_talk_29 rfl ?_
      refine g_iconst (pc := 30) (v := nI 1) C dX11_talk_30 (by decide) ?_
      refine g_icmp_lt (pc := 31) C 40 dX11_talk_31 rfl (fun c3 => ?_) (fun c3 => ?_)
      · exact bad (fun q => absurd c3 (Int32.not_lt.mpr (e1.mp q).1.1))
      · have c3 := Int32.not_lt.mp c3
        refine g_iload_n (pc := 34) C dX11_talk_34 rfl ?_
        refine g_bipush (pc := 35) (v := nI 20) C dX11_talk_35 (by decide) ?_
        refine g_icmp_le (pc := 37) C 42 dX11_talk_37 rfl (fun c4 => ?_) (fun c4 => ?_)
        · have hok := e1.mpr ⟨⟨c3, c4⟩, c2⟩
          obtain ⟨b, hb, rfl⟩ := nat_of (by omega) ⟨Int32.le_trans (by decide) c3, c4⟩
          refine g_aload_n (pc := 42) C dX11_talk_42 rfl ?_
          refine cg_X11_149 (pc := 43) C (by exact (aK.o0 h).1) (zk (by exact (aK.o0 h).2)) (c_X11_remA _ _ S c ca cg cl ce P H m nr u f x Fs h z j W hp) ⟨rfl, rfl⟩ ⟨Nat.zero_le _, Nat.zero_le _⟩ rfl (Nat.le_of_ble_eq_true rfl) dX11_talk_43 ?_
          rintro _ S1 ⟨rfl, a1⟩
          have h1 := aK.act h a1 (fun _ _ => rfl) (aK.sd h).2.1 (aK.hr h) h9
          refine g_aload_n (pc := 46) C dX11_talk_46 rfl ?_
          refine fgr_X11_46 (pc := 47) C (by exact (aK.o0 h1).1) (zk (by exact (aK.o0 h1).2)) (by exact (aK.rn h1)) dX11_talk_47 ?_
          refine fgr_X11_120 (pc := 50) C (by exact (aK.o7 h1).1) (zk (by exact (aK.o7 h1).2)) (by exact (aK.rr h1)) dX11_talk_50 ?_
          refine fgr_X11_124 (pc := 53) C (by exact (aK.ov h1).1) (zk (by exact (aK.ov h1).2)) (by exact (aK.ra h1)) dX11_talk_53 ?_
          refine g_iload_n (pc := 56) C dX11_talk_56 rfl ?_
          refine g_bipush (pc := 57) (v := nI 99) C dX11_talk_57 (by decide) ?_
          refine g_aload_n (pc := 59) C dX11_talk_59 rfl ?_
          refine fgr_X11_46 (pc := 60) C (by exact (aK.o0 h1).1) (zk (by exact (aK.o0 h1).2)) (by exact (aK.rn h1)) dX11_talk_60 ?_
          refine fgr_X11_120 (pc := 63) C (by exact (aK.o7 h1).1) (zk (by exact (aK.o7 h1).2)) (by exact (aK.rr h1)) dX11_talk_63 ?_
          refine fgr_X11_124 (pc := 66) C (by exact (aK.ov h1).1) (zk (by exact (aK.ov h1).2)) (by exact (aK.ra h1)) dX11_talk_66 ?_
          refine g_iload_n (pc := 69) C dX11_talk_69 rfl ?_
          refine n_iald (pc := 70) (n := 7) C (by exact (aK.aa h1).1) (by exact (aK.aa h1).2.1) (zk (by exact (aK.aa h1).2.2)) isn_v rfl (by omega) dX11_talk_70 ?_
          refine gx_ti (y := u (14 + k)) (aK.vaim h1 hk) ?_
          refine g_iload_n (pc := 71) C dX11_talk_71 rfl ?_
          refine g_iadd (pc := 72) C dX11_talk_72 ?_
          refine g_mmin (pc := 73) C wl_X11_179 ⟨rfl, rfl⟩ ⟨Nat.zero_le _, Nat.zero_le _⟩ rfl (Nat.le_of_ble_eq_true rfl) dX11_talk_73 ?_
          refine gx_ti (y := atMostF (u (14 + k) + nI b) (nI 99)) (mn_at _) ?_
          refine n_iast (pc := 76) (n := 7) C (by exact (aK.aa h1).1) (by exact (aK.aa h1).2.1) (zk (by exact (aK.aa h1).2.2)) isn_v rfl (by omega) dX11_talk_76 ?_
          have am : amU P (upd u (14 + k) (atMostF (u (14 + k) + nI b) (nI 99))) := by
            rw [ea, nI_add]
            unfold atMostF
            split
            · next q => exact amU_upd (aK.sd h).2.1 ((nI_leI (by omega) (by omega)).mp q)
            · exact amU_upd (aK.sd h).2.1 (by omega)
          have a2 := a1.thn (D := fun k => k = 14) (eqO.sA rfl) (fun k q => Or.inr (Or.inl q)) ((aK.ft h1).o (D := fun k => k = 14) (eqO.sA rfl) (fun k q => by omega)) (rv_set (j := k) (v := atMostF (u (14 + k) + nI b) (nI 99)) (aK.rv h1) hP7 (by omega))
          have h2 := aK.act h a2 (fun i hi => pk_un (by omega)) am ((pk_un (by omega)).trans (aK.hr h)) h9
          generalize s_setA S1 14 (upd (s_A S1 14) k (atMostF (u (14 + k) + nI b) (nI 99))) = S2 at a2 h2 ⊢
          refine g_aload_n (pc := 77) C dX11_talk_77 rfl ?_
          refine fgr_X11_46 (pc := 78) C (by exact (aK.o0 h2).1) (zk (by exact (aK.o0 h2).2)) (by exact (aK.rn h2)) dX11_talk_78 ?_
          refine fgr_X11_120 (pc := 81) C (by exact (aK.o7 h2).1) (zk (by exact (aK.o7 h2).2)) (by exact (aK.rr h2)) dX11_talk_81 ?_
          refine fgr_X11_124 (pc := 84) C (by exact (aK.ov h2).1) (zk (by exact (aK.ov h2).2)) (by exact (aK.ra h2)) dX11_talk_84 ?_
          refine g_iload_n (pc := 87) C dX11_talk_87 rfl ?_
          refine n_iald (pc := 88) (n := 7) C (by exact (aK.aa h2).1) (by exact (aK.aa h2).2.1) (zk (by exact (aK.aa h2).2.2)) isn_v rfl (by omega) dX11_talk_88 ?_
          rw [← hpost]
          exact g_ireturn (pc := 89) C ⟨rfl, rfl⟩ dX11_talk_89 (by rw [if_pos hok, ec]; exact ⟨congrArg (fun z => some (Value.int z)) ((aK.vaim h2 hk).trans pk_us), a2⟩)
        · exact bad (fun q => c4 (e1.mp q).1.2)
end
