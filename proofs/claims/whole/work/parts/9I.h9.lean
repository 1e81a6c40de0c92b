/-! ===== THE CLASS: AimFerry: seed, force, note ===== -/
section
variable (w : Wd) (l : Launch) (S : St) (c ca cg cl ce P H m nr : Nat) (u : Nat → Int32) (f x : Int32) (Fs : Nat → (Nat → Int64) → Int64)
theorem c_X11_seed (h : aK S c ca cg cl ce P H m nr u f x Fs) (n : Int32) : gx_M w l yX11_seed cX11_seed 3 (some .int) rmX11_seed [.ref (ad (w_b w) 0), .int n] S (pI (if 0 ≤ n then x else -1) (if 0 ≤ n then s_setI S 803 7 n else S)) := by
  refine gx_start rfl 1 rfl (Nat.le_of_ble_eq_true rfl) ?_
  intro X C _ hl
  subst hl
  refine gx_L (L' := [_, _, _]) rfl ?_
  refine g_iload_n (pc := 0) C dX11_seed_0 rfl ?_
  refine g_if_ge (pc := 1) C 6 dX11_seed_1 rfl (fun c1 => ?_) (fun c1 => ?_)
  · rw [if_pos c1, if_pos c1]
    refine g_aload_n (pc := 6) C dX11_seed_6 rfl ?_
    refine fgr_X11_46 (pc := 7) C (by exact (aK.o0 h).1) (zk (by exact (aK.o0 h).2)) (by exact (aK.rn h)) dX11_seed_7 ?_
    refine fg_X11_307 (pc := 10) C (by exact (aK.o7 h).1) (zk (by exact (aK.o7 h).2)) dX11_seed_10 ?_
    refine gx_ti (y := x) (aK.xv h) ?_
    refine g_istore_n (pc := 13) (L' := [_, some (.int _), _]) C dX11_seed_13 rfl rfl ?_
    refine g_aload_n (pc := 14) C dX11_seed_14 rfl ?_
    refine fgr_X11_46 (pc := 15) C (by exact (aK.o0 h).1) (zk (by exact (aK.o0 h).2)) (by exact (aK.rn h)) dX11_seed_15 ?_
    refine g_iload_n (pc := 18) C dX11_seed_18 rfl ?_
    refine fp_X11_307 (pc := 19) C (by exact (aK.o7 h).1) (zk (by exact (aK.o7 h).2)) dX11_seed_19 ?_
    refine g_iload_n (pc := 22) C dX11_seed_22 rfl ?_
    exact g_ireturn (pc := 23) C ⟨rfl, rfl⟩ dX11_seed_23 ⟨rfl, rfl⟩
  · rw [if_neg c1, if_neg c1]
    refine g_iconst (pc := 4) (v := -1) C dX11_seed_4 (by decide) ?_
    exact g_ireturn (pc := 5) C ⟨rfl, rfl⟩ dX11_seed_5 ⟨rfl, rfl⟩
theorem c_X11_force (h : aK S c ca cg cl ce P H m nr u f x Fs) (k : Int32) : gx_M w l yX11_force cX11_force 3 (some .int) rmX11_force [.ref (ad (w_b w) 0), .int k] S (pI (if k = -1 ∨ (0 ≤ k ∧ k < nI nr) then f else -2) (if k = -1 ∨ (0 ≤ k ∧ k < nI nr) then s_setI S 802 7 k else S)) := by
  have hnr := (aK.rls h).2.1
  have e : (-1 ≤ k ∧ k < nI nr) ↔ (k = -1 ∨ (0 ≤ k ∧ k < nI nr)) := by
    simp only [Int32.le_iff_toInt_le, Int32.lt_iff_toInt_lt, nI_toInt (show nr < 2 ^ 31 by omega), ← Int32.toInt_inj]
    have e0 : (0 : Int32).toInt = 0 := by decide
    have e1 : (-1 : Int32).toInt = -1 := by decide
    rw [e0, e1]
    omega
  refine gx_start rfl 1 rfl (Nat.le_of_ble_eq_true rfl) ?_
  intro X C _ hl
  subst hl
  refine gx_L (L' := [_, _, _]) rfl ?_
  refine g_iload_n (pc := 0) C dX11_force_0 rfl ?_
  refine g_iconst (pc := 1) (v := -1) C dX11_force_1 (by decide) ?_
  refine g_icmp_lt (pc := 2) C 13 dX11_force_2 rfl (fun c1 => ?_) (fun c1 => ?_)
  · have hn : ¬ (k = -1 ∨ (0 ≤ k ∧ k < nI nr)) := fun q => absurd c1 (Int32.not_lt.mpr (e.mpr q).1)
    rw [if_neg hn, if_neg hn]
    refine g_bipush (pc := 13) (v := -2) C dX11_force_13 (by decide) ?_
    exact g_ireturn (pc := 15) C ⟨rfl, rfl⟩ dX11_force_15 ⟨rfl, rfl⟩
  · have c1 := Int32.not_lt.mp c1
    refine g_iload_n (pc := 5) C dX11_force_5 rfl ?_
    refine g_aload_n (pc := 6) C dX11_force_6 rfl ?_
    refine fg_X11_103 (pc := 7) C (by exact (aK.o0 h).1) (zk (by exact (aK.o0 h).2)) dX11_force_7 ?_
    refine gx_ti (y := nI nr) (aK.nrv h) ?_
    refine g_icmp_lt (pc := 10) C 16 dX11_force_10 rfl (fun c2 => ?_) (fun c2 => ?_)
    · have hy := e.mp ⟨c1, c2⟩
      rw [if_pos hy, if_pos hy]
      refine g_aload_n (pc := 16) C dX11_force_16 rfl ?_
      refine fgr_X11_46 (pc := 17) C (by exact (aK.o0 h).1) (zk (by exact (aK.o0 h).2)) (by exact (aK.rn h)) dX11_force_17 ?_
      refine fg_X11_113 (pc := 20) C (by exact (aK.o7 h).1) (zk (by exact (aK.o7 h).2)) dX11_force_20 ?_
      refine gx_ti (y := f) (aK.fv h) ?_
      refine g_istore_n (pc := 23) (L' := [_, some (.int _), _]) C dX11_force_23 rfl rfl ?_
      refine g_aload_n (pc := 24) C dX11_force_24 rfl ?_
      refine fgr_X11_46 (pc := 25) C (by exact (aK.o0 h).1) (zk (by exact (aK.o0 h).2)) (by exact (aK.rn h)) dX11_force_25 ?_
      refine g_iload_n (pc := 28) C dX11_force_28 rfl ?_
      refine fp_X11_113 (pc := 29) C (by exact (aK.o7 h).1) (zk (by exact (aK.o7 h).2)) dX11_force_29 ?_
      refine g_iload_n (pc := 32) C dX11_force_32 rfl ?_
      exact g_ireturn (pc := 33) C ⟨rfl, rfl⟩ dX11_force_33 ⟨rfl, rfl⟩
    · have hn : ¬ (k = -1 ∨ (0 ≤ k ∧ k < nI nr)) := fun q => c2 (e.mpr q).2
      rw [if_neg hn, if_neg hn]
      refine g_bipush (pc := 13) (v := -2) C dX11_force_13 (by decide) ?_
      exact g_ireturn (pc := 15) C ⟨rfl, rfl⟩ dX11_force_15 ⟨rfl, rfl⟩
theorem c_X11_note (h : aK S c ca cg cl ce P H m nr u f x Fs) (n p side : Int32) : gx_M w l yX11_note cX11_note 4 (some .int) rmX11_note [.ref (ad (w_b w) 0), .int n, .int p, .int side] S (fun v S' => v = some (.int (if n = -1 then nI 0 else if noteOK u P n p side then nI (m + 1) else -2)) ∧ eqO (fun k => k = 7 ∨ k = 15) S S' ∧ (∀ g, g ≠ 804 → s_I S' g 7 = s_I S g 7) ∧ (∀ g k, s_R S' g k = s_R S g k) ∧ noS S' 7 15 P (if n = -1 then 0 else if noteOK u P n p side then m + 1 else m) (if n = -1 then upd u 189 (nI 0) else if noteOK u P n p side then noteF u m n p side else u)) := by
  have hP7 := aK.P7 h
  have hm10 := (aK.no h).2.1
  generalize hpost : (fun (v : Option Value) (S' : St) => v = some (.int (if n = -1 then nI 0 else if noteOK u P n p side then nI (m + 1) else -2)) ∧ eqO (fun k => k = 7 ∨ k = 15) S S' ∧ (∀ g, g ≠ 804 → s_I S' g 7 = s_I S g 7) ∧ (∀ g k, s_R S' g k = s_R S g k) ∧ noS S' 7 15 P (if n = -1 then 0 else if noteOK u P n p side then m + 1 else m) (if n = -1 then upd u 189 (nI 0) else if noteOK u P n p side then noteF u m n p side else u)) = post
  refine gx_start rfl 0 rfl (Nat.le_of_ble_eq_true rfl) ?_
  intro X C _ hl
  subst hl
  refine gx_L (L' := [_, _, _, _]) rfl ?_
  refine g_iload_n (pc := 0) C dX11_note_0 rfl ?_
  refine g_iconst (pc := 1) (v := -1) C dX11_note_1 (by decide) ?_
  refine g_icmp_ne (pc := 2) C 15 dX11_note_2 rfl (fun c1 => ?_) (fun c1 => ?_)
  · rw [if_neg c1, if_neg c1, if_neg c1] at hpost
    have bad : ¬ noteOK u P n p side → gx_G w X S 0 0 60 [some (.ref (ad (w_b w) 0)), some (.int n), some (.int p), some (.int side)] [] (gx_E w X post) := by
      intro hb
      rw [if_neg hb, if_neg hb, if_neg hb] at hpost
      refine g_bipush (pc := 60) (v := -2) C dX11_note_60 (by decide) ?_
      rw [← hpost]
      exact g_ireturn (pc := 62) C ⟨rfl, rfl⟩ dX11_note_62 ⟨rfl, eqO.refl, fun _ _ => rfl, fun _ _ => rfl, aK.no h⟩
    refine g_iload_n (pc := 15) C dX11_note_15 rfl ?_
    refine g_iconst (pc := 16) (v := nI 0) C dX11_note_16 (by decide) ?_
    refine g_bipush (pc := 17) (v := nI 60) C dX11_note_17 (by decide) ?_
    refine cf_X11_194 (pc := 19) C (c_X11_within _ _ S n (nI 0) (nI 60)) ⟨rfl, rfl⟩ ⟨rfl, rfl⟩ ⟨Nat.zero_le _, Nat.zero_le _⟩ rfl (Nat.le_of_ble_eq_true rfl) dX11_note_19 ?_
    refine g_if_eq (pc := 22) C 60 dX11_note_22 rfl (fun c2 => ?_) (fun c2 => ?_)
    · exact bad (fun q => bI_0.mp c2 q.1)
    · have c2 := Decidable.not_not.mp (fun q => c2 (bI_0.mpr q))
      refine g_aload_n (pc := 25) C dX11_note_25 rfl ?_
      refine fgr_X11_46 (pc := 26) C (by exact (aK.o0 h).1) (zk (by exact (aK.o0 h).2)) (by exact (aK.rn h)) dX11_note_26 ?_
      refine fgr_X11_54 (pc := 29) C (by exact (aK.o7 h).1) (zk (by exact (aK.o7 h).2)) (by exact (aK.rc h)) dX11_note_29 ?_
      refine g_iload_n (pc := 32) C dX11_note_32 rfl ?_
      refine cf_X11_116 (pc := 33) C (by exact (aK.oc h).1) (zk (by exact (aK.oc h).2)) (c_X0_has _ _ S c ca cg cl ce P u (aK.cr h) p) ⟨rfl, rfl⟩ ⟨rfl, rfl⟩ ⟨Nat.zero_le _, Nat.zero_le _⟩ rfl (Nat.le_of_ble_eq_true rfl) dX11_note_33 ?_
      refine g_if_eq (pc := 36) C 60 dX11_note_36 rfl (fun c3 => ?_) (fun c3 => ?_)
      · exact bad (fun q => bI_0.mp c3 q.2.1)
      · have c3 := Decidable.not_not.mp (fun q => c3 (bI_0.mpr q))
        refine g_iload_n (pc := 39) C dX11_note_39 rfl ?_
        refine g_iconst (pc := 40) (v := nI 0) C dX11_note_40 (by decide) ?_
        refine g_iconst (pc := 41) (v := nI 1) C dX11_note_41 (by decide) ?_
        refine cf_X11_194 (pc := 42) C (c_X11_within _ _ S side (nI 0) (nI 1)) ⟨rfl, rfl⟩ ⟨rfl, rfl⟩ ⟨Nat.zero_le _, Nat.zero_le _⟩ rfl (Nat.le_of_ble_eq_true rfl) dX11_note_42 ?_
        refine g_if_eq (pc := 45) C 60 dX11_note_45 rfl (fun c4 => ?_) (fun c4 => ?_)
        · exact bad (fun q => bI_0.mp c4 q.2.2.1)
        · have c4 := Decidable.not_not.mp (fun q => c4 (bI_0.mpr q))
          refine g_aload_n (pc := 48) C dX11_note_48 rfl ?_
          refine fgr_X11_46 (pc := 49) C (by exact (aK.o0 h).1) (zk (by exact (aK.o0 h).2)) (by exact (aK.rn h)) dX11_note_49 ?_
          refine fg_X11_286 (pc := 52) C (by exact (aK.o7 h).1) (zk (by exact (aK.o7 h).2)) dX11_note_52 ?_
          refine gx_ti (y := nI m) (aK.no h).1 ?_
          refine g_bipush (pc := 55) (v := nI 10) C dX11_note_55 (by decide) ?_
          refine g_icmp_lt (pc := 57) C 63 dX11_note_57 rfl (fun c5 => ?_) (fun c5 => ?_)
          · have c5 := (nI_ltI (by omega) (by omega)).mp c5
            have hok : noteOK u P n p side := ⟨c2, c3, c4, fun q => by rw [(aK.no h).2.2.1, nI_eq (by omega) (by omega)] at q; omega⟩
            rw [if_pos hok, if_pos hok, if_pos hok] at hpost
            obtain ⟨a, ha, rfl⟩ := nat_of (by omega) c2
            obtain ⟨k, hk, rfl, ec⟩ := person_of hP7 c3
            obtain ⟨d, hd, rfl⟩ := nat_of (by omega) c4
            refine g_aload_n (pc := 63) C dX11_note_63 rfl ?_
            refine fgr_X11_46 (pc := 64) C (by exact (aK.o0 h).1) (zk (by exact (aK.o0 h).2)) (by exact (aK.rn h)) dX11_note_64 ?_
            refine g_iload_n (pc := 67) C dX11_note_67 rfl ?_
            refine g_iload_n (pc := 68) C dX11_note_68 rfl ?_
            refine g_iload_n (pc := 69) C dX11_note_69 rfl ?_
            refine cg_X11_289 (pc := 70) C (by exact (aK.o7 h).1) (zk (by exact (aK.o7 h).2)) (c_X9_addNote _ _ S 7 13 14 15 P m a k d u (aK.sc h) (by decide) (aK.no h) ha hk hP7 (by omega)) ⟨rfl, rfl⟩ ⟨Nat.zero_le _, Nat.zero_le _⟩ rfl (Nat.le_of_ble_eq_true rfl) dX11_note_70 ?_
            rintro _ S1 ⟨rfl, q1, i1, r1, n1⟩
            rw [if_pos c5] at n1
            have o0 : gx_o S1 0 10 := q1.o (aK.o0 h)
            have rn : s_R S1 1004 0 = some 7 := (r1 _ _).trans (aK.rn h)
            have o7 : gx_o S1 7 8 := q1.o (aK.o7 h)
            refine g_aload_n (pc := 73) C dX11_note_73 rfl ?_
            refine fgr_X11_46 (pc := 74) C (by exact o0.1) (zk (by exact o0.2)) (by exact rn) dX11_note_74 ?_
            refine fg_X11_286 (pc := 77) C (by exact o7.1) (zk (by exact o7.2)) dX11_note_77 ?_
            refine gx_ti (y := nI (m + 1)) n1.1 ?_
            rw [← hpost]
            exact g_ireturn (pc := 80) C ⟨rfl, rfl⟩ dX11_note_80 ⟨rfl, q1, i1, r1, n1⟩
          · exact bad (fun q => c5 (by
              have := q.2.2.2
              rw [(aK.no h).2.2.1, nI_eq (by omega) (by omega)] at this
              exact nI_lt (by omega) (by omega)))
  · have c1 := Decidable.not_not.mp c1
    rw [if_pos c1, if_pos c1, if_pos c1] at hpost
    refine g_aload_n (pc := 5) C dX11_note_5 rfl ?_
    refine fgr_X11_46 (pc := 6) C (by exact (aK.o0 h).1) (zk (by exact (aK.o0 h).2)) (by exact (aK.rn h)) dX11_note_6 ?_
    refine g_iconst (pc := 9) (v := nI 0) C dX11_note_9 (by decide) ?_
    refine fp_X11_286 (pc := 10) C (by exact (aK.o7 h).1) (zk (by exact (aK.o7 h).2)) dX11_note_10 ?_
    refine g_iconst (pc := 13) (v := nI 0) C dX11_note_13 (by decide) ?_
    rw [← hpost]
    exact g_ireturn (pc := 14) C ⟨rfl, rfl⟩ dX11_note_14 ⟨rfl, eqO.sI (Or.inl rfl), fun g hg => gI_ne (Or.inl hg), fun _ _ => rfl, gI_at, by omega, pk_us, fun q hq => absurd hq (by omega)⟩
end
