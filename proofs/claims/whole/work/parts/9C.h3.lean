/-! ===== THE CLASS: AimFerry: asks of now, and asks of Puzzles ===== -/
theorem all_sub {s P : Nat} : s ||| (2 ^ P - 1) = 2 ^ P - 1 ↔ s < 2 ^ P := by
  have h0 := Nat.two_pow_pos P
  constructor
  · intro e
    have := Nat.left_le_or (n := s) (m := 2 ^ P - 1)
    rw [e] at this
    omega
  · intro h
    have h1 := Nat.or_lt_two_pow h (show 2 ^ P - 1 < 2 ^ P by omega)
    have h2 := Nat.right_le_or (n := s) (m := 2 ^ P - 1)
    omega
theorem setP_of {P : Nat} {x : Int32} (hP : P ≤ 7) (h : 0 ≤ x ∧ x < nI (2 ^ P)) : ∃ s, s < 2 ^ P ∧ x = nI s ∧ x.toNatClampNeg = s := by
  have h2 := (p128 hP).2
  rcases pk_ix x (n := 2 ^ P) (by omega) with h1 | h1 | ⟨j, hj, rfl⟩
  · exact absurd h1 (Int32.not_lt.mpr h.1)
  · exact absurd h.2 (Int32.not_lt.mpr h1)
  · exact ⟨j, hj, rfl, nI_clamp (by omega)⟩
theorem hasA {P : Nat} {x : Int32} (hP : P ≤ 7) : x &&& (nI (2 ^ P - 1) ^^^ (-1)) = 0 ↔ (0 ≤ x ∧ x < nI (2 ^ P)) := by
  have h2 := p128 hP
  rw [sub_all (by omega)]
  constructor
  · rintro ⟨s, hs, rfl, e⟩
    exact ⟨nI_pos' (by omega), nI_lt (all_sub.mp e) (by omega)⟩
  · intro q
    obtain ⟨s, hs, e, -⟩ := setP_of hP q
    exact ⟨s, by omega, e, all_sub.mpr hs⟩
theorem sty_wt {o : Nat} {wt : Nat → Int32} : ∀ {n b : Nat} {m : Int32}, styF o wt n = some (b, m) → m = wt b
  | 0, _, _, h => by cases h
  | n + 1, b, m, h => by
    simp only [styF] at h
    split at h
    · cases e : styF o wt n with
      | none => rw [e] at h; cases h; rfl
      | some q =>
        obtain ⟨b', m'⟩ := q
        rw [e] at h
        simp only at h
        split at h
        · cases h; rfl
        · cases h; exact sty_wt e
    · exact sty_wt h
section
variable {S : St} {c ca cg cl ce P H m nr : Nat} {u : Nat → Int32} {f x : Int32} {Fs : Nat → (Nat → Int64) → Int64}
theorem aK.vaim (h : aK S c ca cg cl ce P H m nr u f x Fs) {p : Nat} (hp : p < P) : s_A S 14 p = u (14 + p) := (aK.rv h).2.1.2.2.2.2.2 p hp
theorem aK.vgro (h : aK S c ca cg cl ce P H m nr u f x Fs) {p : Nat} (hp : p < P) : s_A S cg p = u (28 + p) := ((aK.cr h).2.1.2.2.2.2.2.1 p hp).2.1
theorem aK.vlig (h : aK S c ca cg cl ce P H m nr u f x Fs) {p : Nat} (hp : p < P) : s_A S cl p = u (35 + p) := ((aK.cr h).2.1.2.2.2.2.2.1 p hp).2.2
end
section
variable (w : Wd) (l : Launch) (S : St) (c ca cg cl ce P H m nr : Nat) (u : Nat → Int32) (f x : Int32) (Fs : Nat → (Nat → Int64) → Int64)
theorem c_X11_beside (h : aK S c ca cg cl ce P H m nr u f x Fs) (p q : Int32) : gx_M w l yX11_beside cX11_beside 3 (some .int) rmX11_beside [.ref (ad (w_b w) 0), .int p, .int q] S (pI (besideF u P p q) S) := by
  refine gx_start rfl 0 rfl (Nat.le_of_ble_eq_true rfl) ?_
  intro X C _ hl
  subst hl
  refine gx_L (L' := [_, _, _]) rfl ?_
  refine g_aload_n (pc := 0) C dX11_beside_0 rfl ?_
  refine fgr_X11_46 (pc := 1) C (by exact (aK.o0 h).1) (zk (by exact (aK.o0 h).2)) (by exact (aK.rn h)) dX11_beside_1 ?_
  refine fgr_X11_54 (pc := 4) C (by exact (aK.o7 h).1) (zk (by exact (aK.o7 h).2)) (by exact (aK.rc h)) dX11_beside_4 ?_
  refine g_iload_n (pc := 7) C dX11_beside_7 rfl ?_
  refine cf_X11_116 (pc := 8) C (by exact (aK.oc h).1) (zk (by exact (aK.oc h).2)) (c_X0_has _ _ S c ca cg cl ce P u (aK.cr h) p) ⟨rfl, rfl⟩ ⟨rfl, rfl⟩ ⟨Nat.zero_le _, Nat.zero_le _⟩ rfl (Nat.le_of_ble_eq_true rfl) dX11_beside_8 ?_
  refine g_if_eq (pc := 11) C 28 dX11_beside_11 rfl (fun c1 => ?_) (fun c1 => ?_)
  · refine g_iconst (pc := 28) (v := -1) C dX11_beside_28 (by decide) ?_
    exact g_ireturn (pc := 29) C ⟨rfl, rfl⟩ dX11_beside_29 ⟨by unfold besideF; rw [if_neg (fun e => bI_0.mp c1 e.1)], rfl⟩
  · have c1 := Decidable.not_not.mp (fun q => c1 (bI_0.mpr q))
    obtain ⟨j, hj, rfl, ec⟩ := person_of (aK.P7 h) c1
    refine g_aload_n (pc := 14) C dX11_beside_14 rfl ?_
    refine fgr_X11_46 (pc := 15) C (by exact (aK.o0 h).1) (zk (by exact (aK.o0 h).2)) (by exact (aK.rn h)) dX11_beside_15 ?_
    refine fgr_X11_54 (pc := 18) C (by exact (aK.o7 h).1) (zk (by exact (aK.o7 h).2)) (by exact (aK.rc h)) dX11_beside_18 ?_
    refine g_iload_n (pc := 21) C dX11_beside_21 rfl ?_
    refine cf_X11_116 (pc := 22) C (by exact (aK.oc h).1) (zk (by exact (aK.oc h).2)) (c_X0_has _ _ S c ca cg cl ce P u (aK.cr h) q) ⟨rfl, rfl⟩ ⟨rfl, rfl⟩ ⟨Nat.zero_le _, Nat.zero_le _⟩ rfl (Nat.le_of_ble_eq_true rfl) dX11_beside_22 ?_
    refine g_if_ne (pc := 25) C 30 dX11_beside_25 rfl (fun c2 => ?_) (fun c2 => ?_)
    · have c2 := Decidable.not_not.mp (fun q => c2 (bI_0.mpr q))
      obtain ⟨k, hk, rfl, ek⟩ := person_of (aK.P7 h) c2
      refine g_aload_n (pc := 30) C dX11_beside_30 rfl ?_
      refine fgr_X11_46 (pc := 31) C (by exact (aK.o0 h).1) (zk (by exact (aK.o0 h).2)) (by exact (aK.rn h)) dX11_beside_31 ?_
      refine fgr_X11_54 (pc := 34) C (by exact (aK.o7 h).1) (zk (by exact (aK.o7 h).2)) (by exact (aK.rc h)) dX11_beside_34 ?_
      refine g_iload_n (pc := 37) C dX11_beside_37 rfl ?_
      refine g_iload_n (pc := 38) C dX11_beside_38 rfl ?_
      refine cf_X11_138 (pc := 39) C (by exact (aK.oc h).1) (zk (by exact (aK.oc h).2)) (c_X0_extra _ _ S c ca cg cl ce P u (aK.cr h) j k hj hk) ⟨rfl, rfl⟩ ⟨rfl, rfl⟩ ⟨Nat.zero_le _, Nat.zero_le _⟩ rfl (Nat.le_of_ble_eq_true rfl) dX11_beside_39 ?_
      exact g_ireturn (pc := 42) C ⟨rfl, rfl⟩ dX11_beside_42 ⟨by unfold besideF; rw [if_pos ⟨c1, c2⟩, ec, ek], rfl⟩
    · refine g_iconst (pc := 28) (v := -1) C dX11_beside_28 (by decide) ?_
      exact g_ireturn (pc := 29) C ⟨rfl, rfl⟩ dX11_beside_29 ⟨by unfold besideF; rw [if_neg (fun e => nn_b c2 (e.2))], rfl⟩
theorem c_X11_weight (h : aK S c ca cg cl ce P H m nr u f x Fs) (y : Int32) : gx_M w l yX11_weight cX11_weight 2 (some .int) rmX11_weight [.ref (ad (w_b w) 0), .int y] S (pI (weightA 0 u P H y) S) := by
  refine gx_start rfl 0 rfl (Nat.le_of_ble_eq_true rfl) ?_
  intro X C _ hl
  subst hl
  refine gx_L (L' := [_, _]) rfl ?_
  refine g_aload_n (pc := 0) C dX11_weight_0 rfl ?_
  refine fgr_X11_46 (pc := 1) C (by exact (aK.o0 h).1) (zk (by exact (aK.o0 h).2)) (by exact (aK.rn h)) dX11_weight_1 ?_
  refine fgr_X11_54 (pc := 4) C (by exact (aK.o7 h).1) (zk (by exact (aK.o7 h).2)) (by exact (aK.rc h)) dX11_weight_4 ?_
  refine fg_X11_142 (pc := 7) C (by exact (aK.oc h).1) (zk (by exact (aK.oc h).2)) dX11_weight_7 ?_
  refine gx_ti (y := u 0) (aK.there h) ?_
  refine g_if_eq (pc := 10) C 27 dX11_weight_10 rfl (fun c1 => ?_) (fun c1 => ?_)
  · refine g_iconst (pc := 27) (v := -1) C dX11_weight_27 (by decide) ?_
    exact g_ireturn (pc := 28) C ⟨rfl, rfl⟩ dX11_weight_28 ⟨by unfold weightA; rw [if_neg (fun q => ok0 c1 q.1)], rfl⟩
  · have c1 := ok1 (aK.u0 h) c1
    refine g_aload_n (pc := 13) C dX11_weight_13 rfl ?_
    refine fgr_X11_46 (pc := 14) C (by exact (aK.o0 h).1) (zk (by exact (aK.o0 h).2)) (by exact (aK.rn h)) dX11_weight_14 ?_
    refine fgr_X11_54 (pc := 17) C (by exact (aK.o7 h).1) (zk (by exact (aK.o7 h).2)) (by exact (aK.rc h)) dX11_weight_17 ?_
    refine g_iload_n (pc := 20) C dX11_weight_20 rfl ?_
    refine cf_X11_209 (pc := 21) C (by exact (aK.oc h).1) (zk (by exact (aK.oc h).2)) (c_X0_hasAll _ _ S c ca cg cl ce P u (aK.cr h) y) ⟨rfl, rfl⟩ ⟨rfl, rfl⟩ ⟨Nat.zero_le _, Nat.zero_le _⟩ rfl (Nat.le_of_ble_eq_true rfl) dX11_weight_21 ?_
    refine g_if_ne (pc := 24) C 29 dX11_weight_24 rfl (fun c2 => ?_) (fun c2 => ?_)
    · have c2 := (hasA (aK.P7 h)).mp (Decidable.not_not.mp (fun q => c2 (bI_0.mpr q)))
      obtain ⟨s, hs, rfl, ec⟩ := setP_of (aK.P7 h) c2
      have h2 := (p128 (aK.P7 h)).2
      refine g_aload_n (pc := 29) C dX11_weight_29 rfl ?_
      refine fgr_X11_46 (pc := 30) C (by exact (aK.o0 h).1) (zk (by exact (aK.o0 h).2)) (by exact (aK.rn h)) dX11_weight_30 ?_
      refine fgr_X11_120 (pc := 33) C (by exact (aK.o7 h).1) (zk (by exact (aK.o7 h).2)) (by exact (aK.rr h)) dX11_weight_33 ?_
      refine g_aload_n (pc := 36) C dX11_weight_36 rfl ?_
      refine fgr_X11_46 (pc := 37) C (by exact (aK.o0 h).1) (zk (by exact (aK.o0 h).2)) (by exact (aK.rn h)) dX11_weight_37 ?_
      refine fgr_X11_54 (pc := 40) C (by exact (aK.o7 h).1) (zk (by exact (aK.o7 h).2)) (by exact (aK.rc h)) dX11_weight_40 ?_
      refine g_iload_n (pc := 43) C dX11_weight_43 rfl ?_
      refine g_aload_n (pc := 44) C dX11_weight_44 rfl ?_
      refine fgr_X11_46 (pc := 45) C (by exact (aK.o0 h).1) (zk (by exact (aK.o0 h).2)) (by exact (aK.rn h)) dX11_weight_45 ?_
      refine cf_X11_165 (pc := 48) C (by exact (aK.o7 h).1) (zk (by exact (aK.o7 h).2)) (c_X9_isFog _ _ S 7 13 14 15 c ca cg cl ce P H u (aK.sc h) (aK.rc h) (aK.cr h) (aK.rv h) (aK.hr h) (aK.hr2 h)) ⟨rfl, rfl⟩ ⟨rfl, rfl⟩ ⟨Nat.zero_le _, Nat.zero_le _⟩ rfl (Nat.le_of_ble_eq_true rfl) dX11_weight_48 ?_
      refine cf_X11_212 (pc := 51) C (by exact (aK.ov h).1) (zk (by exact (aK.ov h).2)) (c_X6_weigh _ _ S c ca cg cl ce 13 14 P u (aK.cr h) (aK.rv h) (aK.sd h).1 s (by omega) (fogF 0 u H)) ⟨rfl, rfl⟩ ⟨rfl, rfl⟩ ⟨Nat.zero_le _, Nat.zero_le _⟩ rfl (Nat.le_of_ble_eq_true rfl) dX11_weight_51 ?_
      exact g_ireturn (pc := 54) C ⟨rfl, rfl⟩ dX11_weight_54 ⟨by unfold weightA; rw [if_pos ⟨c1, c2⟩, ec], rfl⟩
    · refine g_iconst (pc := 27) (v := -1) C dX11_weight_27 (by decide) ?_
      exact g_ireturn (pc := 28) C ⟨rfl, rfl⟩ dX11_weight_28 ⟨by unfold weightA; rw [if_neg (fun q => nn_b c2 ((hasA (aK.P7 h)).mpr q.2))], rfl⟩
theorem c_X11_person (h : aK S c ca cg cl ce P H m nr u f x Fs) (p what : Int32) : gx_M w l yX11_person cX11_person 3 (some .int) rmX11_person [.ref (ad (w_b w) 0), .int p, .int what] S (pI (personF u P p what) S) := by
  have hP7 := aK.P7 h
  refine gx_start rfl 0 rfl (Nat.le_of_ble_eq_true rfl) ?_
  intro X C _ hl
  subst hl
  refine gx_L (L' := [_, _, _]) rfl ?_
  refine g_aload_n (pc := 0) C dX11_person_0 rfl ?_
  refine fgr_X11_46 (pc := 1) C (by exact (aK.o0 h).1) (zk (by exact (aK.o0 h).2)) (by exact (aK.rn h)) dX11_person_1 ?_
  refine fgr_X11_54 (pc := 4) C (by exact (aK.o7 h).1) (zk (by exact (aK.o7 h).2)) (by exact (aK.rc h)) dX11_person_4 ?_
  refine g_iload_n (pc := 7) C dX11_person_7 rfl ?_
  refine cf_X11_116 (pc := 8) C (by exact (aK.oc h).1) (zk (by exact (aK.oc h).2)) (c_X0_has _ _ S c ca cg cl ce P u (aK.cr h) p) ⟨rfl, rfl⟩ ⟨rfl, rfl⟩ ⟨Nat.zero_le _, Nat.zero_le _⟩ rfl (Nat.le_of_ble_eq_true rfl) dX11_person_8 ?_
  refine g_if_ne (pc := 11) C 16 dX11_person_11 rfl (fun c1 => ?_) (fun c1 => ?_)
  · have c1 := Decidable.not_not.mp (fun q => c1 (bI_0.mpr q))
    obtain ⟨j, hj, e, ec⟩ := person_of hP7 c1
    subst e
    refine g_iload_n (pc := 16) C dX11_person_16 rfl ?_
    rcases pk_ix what (n := 4) (by omega) with h1 | h1 | ⟨k, hk, rfl⟩
    · refine g_tableOut (pc := 17) C 99 dX11_person_17 (Or.inl (ti_neg h1)) rfl ?_
      refine g_iconst (pc := 99) (v := -1) C dX11_person_99 (by decide) ?_
      exact g_ireturn (pc := 100) C ⟨rfl, rfl⟩ dX11_person_100 (⟨by unfold personF; rw [if_pos c1, if_neg (fun q => absurd h1 (by rw [q]; decide)), if_neg (fun q => absurd h1 (by rw [q]; decide)), if_neg (fun q => absurd h1 (by rw [q]; decide)), if_neg (fun q => absurd h1 (by rw [q]; decide))], rfl⟩)
    · refine g_tableOut (pc := 17) C 99 dX11_person_17 (Or.inr (Int.lt_of_lt_of_le (by decide) (ti_ge (by omega) h1))) rfl ?_
      refine g_iconst (pc := 99) (v := -1) C dX11_person_99 (by decide) ?_
      exact g_ireturn (pc := 100) C ⟨rfl, rfl⟩ dX11_person_100 (⟨by unfold personF; rw [if_pos c1, if_neg (fun q => absurd h1 (by rw [q]; decide)), if_neg (fun q => absurd h1 (by rw [q]; decide)), if_neg (fun q => absurd h1 (by rw [q]; decide)), if_neg (fun q => absurd h1 (by rw [q]; decide))], rfl⟩)
    · have : k = 0 ∨ k = 1 ∨ k = 2 ∨ k = 3 := by omega
      rcases this with rfl | rfl | rfl | rfl
      · refine g_tableIn (pc := 17) C 48 dX11_person_17 (by decide) (by decide) rfl rfl ?_
        refine g_aload_n (pc := 48) C dX11_person_48 rfl ?_
        refine fgr_X11_46 (pc := 49) C (by exact (aK.o0 h).1) (zk (by exact (aK.o0 h).2)) (by exact (aK.rn h)) dX11_person_49 ?_
        refine fgr_X11_120 (pc := 52) C (by exact (aK.o7 h).1) (zk (by exact (aK.o7 h).2)) (by exact (aK.rr h)) dX11_person_52 ?_
        refine fgr_X11_124 (pc := 55) C (by exact (aK.ov h).1) (zk (by exact (aK.ov h).2)) (by exact (aK.ra h)) dX11_person_55 ?_
        refine g_iload_n (pc := 58) C dX11_person_58 rfl ?_
        refine n_iald (pc := 59) (n := 7) C (by exact (aK.aa h).1) (by exact (aK.aa h).2.1) (zk (by exact (aK.aa h).2.2)) isn_v rfl (by omega) dX11_person_59 ?_
        exact g_ireturn (pc := 60) C ⟨rfl, rfl⟩ dX11_person_60 (⟨by unfold personF; rw [if_pos c1, ec, aK.vaim h hj]; rfl, rfl⟩)
      · refine g_tableIn (pc := 17) C 61 dX11_person_17 (by decide) (by decide) rfl rfl ?_
        refine g_aload_n (pc := 61) C dX11_person_61 rfl ?_
        refine fgr_X11_46 (pc := 62) C (by exact (aK.o0 h).1) (zk (by exact (aK.o0 h).2)) (by exact (aK.rn h)) dX11_person_62 ?_
        refine fgr_X11_54 (pc := 65) C (by exact (aK.o7 h).1) (zk (by exact (aK.o7 h).2)) (by exact (aK.rc h)) dX11_person_65 ?_
        refine fgr_X11_128 (pc := 68) C (by exact (aK.oc h).1) (zk (by exact (aK.oc h).2)) (by exact (aK.rg h)) dX11_person_68 ?_
        refine g_iload_n (pc := 71) C dX11_person_71 rfl ?_
        refine n_iald (pc := 72) (n := 7) C (by exact (aK.ag h).1) (by exact (aK.ag h).2.1) (zk (by exact (aK.ag h).2.2)) isn_v rfl (by omega) dX11_person_72 ?_
        exact g_ireturn (pc := 73) C ⟨rfl, rfl⟩ dX11_person_73 (⟨by unfold personF; rw [if_pos c1, ec, aK.vgro h hj]; rfl, rfl⟩)
      · refine g_tableIn (pc := 17) C 74 dX11_person_17 (by decide) (by decide) rfl rfl ?_
        refine g_aload_n (pc := 74) C dX11_person_74 rfl ?_
        refine fgr_X11_46 (pc := 75) C (by exact (aK.o0 h).1) (zk (by exact (aK.o0 h).2)) (by exact (aK.rn h)) dX11_person_75 ?_
        refine fgr_X11_54 (pc := 78) C (by exact (aK.o7 h).1) (zk (by exact (aK.o7 h).2)) (by exact (aK.rc h)) dX11_person_78 ?_
        refine fgr_X11_131 (pc := 81) C (by exact (aK.oc h).1) (zk (by exact (aK.oc h).2)) (by exact (aK.rl h)) dX11_person_81 ?_
        refine g_iload_n (pc := 84) C dX11_person_84 rfl ?_
        refine n_iald (pc := 85) (n := 7) C (by exact (aK.al h).1) (by exact (aK.al h).2.1) (zk (by exact (aK.al h).2.2)) isn_v rfl (by omega) dX11_person_85 ?_
        exact g_ireturn (pc := 86) C ⟨rfl, rfl⟩ dX11_person_86 (⟨by unfold personF; rw [if_pos c1, ec, aK.vlig h hj]; rfl, rfl⟩)
      · refine g_tableIn (pc := 17) C 87 dX11_person_17 (by decide) (by decide) rfl rfl ?_
        refine g_aload_n (pc := 87) C dX11_person_87 rfl ?_
        refine fgr_X11_46 (pc := 88) C (by exact (aK.o0 h).1) (zk (by exact (aK.o0 h).2)) (by exact (aK.rn h)) dX11_person_88 ?_
        refine fgr_X11_120 (pc := 91) C (by exact (aK.o7 h).1) (zk (by exact (aK.o7 h).2)) (by exact (aK.rr h)) dX11_person_91 ?_
        refine g_iload_n (pc := 94) C dX11_person_94 rfl ?_
        refine cf_X11_134 (pc := 95) C (by exact (aK.ov h).1) (zk (by exact (aK.ov h).2)) (c_X6_sideOf _ _ S 13 14 P u (aK.rv h) hP7 j hj) ⟨rfl, rfl⟩ ⟨rfl, rfl⟩ ⟨Nat.zero_le _, Nat.zero_le _⟩ rfl (Nat.le_of_ble_eq_true rfl) dX11_person_95 ?_
        exact g_ireturn (pc := 98) C ⟨rfl, rfl⟩ dX11_person_98 (⟨by unfold personF; rw [if_pos c1, ec]; rfl, rfl⟩)
  · have c1 := bI_0.mp (Decidable.not_not.mp c1)
    refine g_iconst (pc := 14) (v := -1) C dX11_person_14 (by decide) ?_
    exact g_ireturn (pc := 15) C ⟨rfl, rfl⟩ dX11_person_15 (⟨by unfold personF; rw [if_neg c1], rfl⟩)
theorem c_X11_ahead (h : aK S c ca cg cl ce P H m nr u f x Fs) (p n what : Int32) : gx_M w l yX11_ahead cX11_ahead 5 (some .int) rmX11_ahead [.ref (ad (w_b w) 0), .int p, .int n, .int what] S (aP S (if aheadOK u P p n what then aheadF (frF f Fs) (nI 0) u P H p n what else -1)) := by
  have hP7 := aK.P7 h
  generalize hpost : aP S (if aheadOK u P p n what then aheadF (frF f Fs) (nI 0) u P H p n what else -1) = post
  refine gx_start rfl 1 rfl (Nat.le_of_ble_eq_true rfl) ?_
  intro X C _ hl
  subst hl
  refine gx_L (L' := [_, _, _, _, _]) rfl ?_
  have bad : ¬ aheadOK u P p n what → gx_G w X S 0 0 51 [some (.ref (ad (w_b w) 0)), some (.int p), some (.int n), some (.int what), none] [] (gx_E w X post) := by
    intro hb
    refine g_iconst (pc := 51) (v := -1) C dX11_ahead_51 (by decide) ?_
    rw [← hpost]
    exact g_ireturn (pc := 52) C ⟨rfl, rfl⟩ dX11_ahead_52 ⟨by rw [if_neg hb], eqO.refl, aK.ft h, aK.pz h⟩
  have good : aheadOK u P p n what → gx_G w X S 0 0 53 [some (.ref (ad (w_b w) 0)), some (.int p), some (.int n), some (.int what), none] [] (gx_E w X post) := by
    intro hok
    obtain ⟨h0, hn, hw, hp⟩ := id hok
    obtain ⟨k, hk, rfl⟩ := nat_of (by omega) hn
    have ek : (nI k).toNatClampNeg = k := nI_clamp (by omega)
    obtain ⟨a, ha, rfl⟩ := nat_of (by omega) hw
    have fin : ∀ (v : Int32) S1, eqO dF S S1 → ftK S1 → v = aheadF (frF f Fs) (nI 0) u P H p (nI k) (nI a) → post (some (.int v)) S1 := by
      intro v S1 q1 f1 hv
      rw [← hpost, hv]
      exact ⟨by rw [if_pos hok], q1.mono (fun k q => by unfold dF at q; unfold dD; omega), f1, (aK.pz h).o q1 (by unfold dF; omega)⟩
    refine g_aload_n (pc := 53) C dX11_ahead_53 rfl ?_
    refine fgr_X11_75 (pc := 54) C (by exact (aK.o0 h).1) (zk (by exact (aK.o0 h).2)) (by exact (aK.rf h)) dX11_ahead_54 ?_
    refine g_aload_n (pc := 57) C dX11_ahead_57 rfl ?_
    refine fgr_X11_46 (pc := 58) C (by exact (aK.o0 h).1) (zk (by exact (aK.o0 h).2)) (by exact (aK.rn h)) dX11_ahead_58 ?_
    refine g_aload_n (pc := 61) C dX11_ahead_61 rfl ?_
    refine cf_X11_156 (pc := 62) C (by exact (aK.o0 h).1) (zk (by exact (aK.o0 h).2)) (c_X11_ruleInForce _ _ S _ _ _ _ _ _ _ _ _ _ _ _ _ h) ⟨rfl, rfl⟩ ⟨rfl, rfl⟩ ⟨Nat.zero_le _, Nat.zero_le _⟩ rfl (Nat.le_of_ble_eq_true rfl) dX11_ahead_62 ?_
    refine g_iload_n (pc := 65) C dX11_ahead_65 rfl ?_
    refine cg_X11_198 (pc := 66) C (by exact (aK.of h).1) (zk (by exact (aK.of h).2)) (c_X2_after _ _ S c ca cg cl ce P H k (rfo S f) (frF f Fs) u (aK.ft h) (aK.nw h) (aK.sd h) (aK.rif h) (aK.hr h) (Nat.lt_of_le_of_lt (Nat.add_le_add (aK.hr9 h) hk) (by decide))) ⟨rfl, rfl⟩ ⟨Nat.zero_le _, Nat.zero_le _⟩ rfl (Nat.le_of_ble_eq_true rfl) dX11_ahead_66 ?_
    rintro _ S1 ⟨rfl, q1, f1, h1⟩
    have o86 : gx_o S1 86 5 := h1.1.1
    have r86 := h1.1.2.1
    have a87 := h1.1.2.2
    have : a = 0 ∨ a = 1 ∨ a = 2 := by omega
    rcases this with rfl | rfl | rfl
    · obtain ⟨j, hj, rfl, ec⟩ := person_of hP7 (hp.resolve_left (by decide))
      refine g_astore (pc := 69) (L' := [_, _, _, some (.int _), _]) C dX11_ahead_69 rfl rfl ?_
      refine g_iload_n (pc := 71) C dX11_ahead_71 rfl ?_
      refine g_iconst (pc := 72) (v := nI 2) C dX11_ahead_72 (by decide) ?_
      refine g_icmp_ne (pc := 73) C 82 dX11_ahead_73 rfl (fun c1 => ?_) (fun c1 => ?_)
      · refine g_iload_n (pc := 82) C dX11_ahead_82 rfl ?_
        refine g_if_ne (pc := 83) C 95 dX11_ahead_83 rfl (fun c2 => ?_) (fun c2 => ?_)
        · exact absurd rfl c2
        · refine g_aload (pc := 86) C dX11_ahead_86 rfl ?_
          refine g_iload_n (pc := 88) C dX11_ahead_88 rfl ?_
          refine cf_X11_134 (pc := 89) C (by exact o86.1) (zk (by exact o86.2)) (c_X6_sideOf _ _ S1 86 87 P _ h1 hP7 j hj) ⟨rfl, rfl⟩ ⟨rfl, rfl⟩ ⟨Nat.zero_le _, Nat.zero_le _⟩ rfl (Nat.le_of_ble_eq_true rfl) dX11_ahead_89 ?_
          refine g_goto (pc := 92) C 102 dX11_ahead_92 rfl ?_
          exact g_ireturn (pc := 102) C ⟨rfl, rfl⟩ dX11_ahead_102 (fin _ _ q1 f1 (by unfold aheadF; rw [if_pos rfl, ek, ec]))
      · exact absurd (by decide) c1
    · obtain ⟨j, hj, rfl, ec⟩ := person_of hP7 (hp.resolve_left (by decide))
      refine g_astore (pc := 69) (L' := [_, _, _, some (.int _), _]) C dX11_ahead_69 rfl rfl ?_
      refine g_iload_n (pc := 71) C dX11_ahead_71 rfl ?_
      refine g_iconst (pc := 72) (v := nI 2) C dX11_ahead_72 (by decide) ?_
      refine g_icmp_ne (pc := 73) C 82 dX11_ahead_73 rfl (fun c1 => ?_) (fun c1 => ?_)
      · refine g_iload_n (pc := 82) C dX11_ahead_82 rfl ?_
        refine g_if_ne (pc := 83) C 95 dX11_ahead_83 rfl (fun c2 => ?_) (fun c2 => ?_)
        · refine g_aload (pc := 95) C dX11_ahead_95 rfl ?_
          refine fgr_X11_124 (pc := 97) C (by exact o86.1) (zk (by exact o86.2)) (by exact r86) dX11_ahead_97 ?_
          refine g_iload_n (pc := 100) C dX11_ahead_100 rfl ?_
          refine n_iald (pc := 101) (n := 7) C (by exact a87.1) (by exact a87.2.1) (zk (by exact a87.2.2)) isn_v rfl (by omega) dX11_ahead_101 ?_
          exact g_ireturn (pc := 102) C ⟨rfl, rfl⟩ dX11_ahead_102 (fin _ _ q1 f1 (by unfold aheadF; rw [if_neg (by decide), if_pos rfl, ek, ec]; exact h1.2.1.2.2.2.2.2 j hj))
        · exact absurd (by decide) c2
      · exact absurd (by decide) c1
    · refine g_astore (pc := 69) (L' := [_, _, _, some (.int _), _]) C dX11_ahead_69 rfl rfl ?_
      refine g_iload_n (pc := 71) C dX11_ahead_71 rfl ?_
      refine g_iconst (pc := 72) (v := nI 2) C dX11_ahead_72 (by decide) ?_
      refine g_icmp_ne (pc := 73) C 82 dX11_ahead_73 rfl (fun c1 => ?_) (fun c1 => ?_)
      · exact absurd rfl c1
      · refine g_aload (pc := 76) C dX11_ahead_76 rfl ?_
        refine fg_X11_202 (pc := 78) C (by exact o86.1) (zk (by exact o86.2)) dX11_ahead_78 ?_
        exact g_ireturn (pc := 81) C ⟨rfl, rfl⟩ dX11_ahead_81 (fin _ _ q1 f1 (by unfold aheadF; rw [if_neg (by decide), if_neg (by decide), ek]; exact h1.2.1.2.2.2.1))
  refine g_aload_n (pc := 0) C dX11_ahead_0 rfl ?_
  refine fgr_X11_46 (pc := 1) C (by exact (aK.o0 h).1) (zk (by exact (aK.o0 h).2)) (by exact (aK.rn h)) dX11_ahead_1 ?_
  refine fgr_X11_54 (pc := 4) C (by exact (aK.o7 h).1) (zk (by exact (aK.o7 h).2)) (by exact (aK.rc h)) dX11_ahead_4 ?_
  refine fg_X11_142 (pc := 7) C (by exact (aK.oc h).1) (zk (by exact (aK.oc h).2)) dX11_ahead_7 ?_
  refine gx_ti (y := u 0) (aK.there h) ?_
  refine g_if_eq (pc := 10) C 51 dX11_ahead_10 rfl (fun c1 => ?_) (fun c1 => ?_)
  · exact bad (fun q => ok0 c1 q.1)
  · have c1 := ok1 (aK.u0 h) c1
    refine g_iload_n (pc := 13) C dX11_ahead_13 rfl ?_
    refine g_iconst (pc := 14) (v := nI 0) C dX11_ahead_14 (by decide) ?_
    refine g_bipush (pc := 15) (v := nI 100) C dX11_ahead_15 (by decide) ?_
    refine cf_X11_194 (pc := 17) C (c_X11_within _ _ S n (nI 0) (nI 100)) ⟨rfl, rfl⟩ ⟨rfl, rfl⟩ ⟨Nat.zero_le _, Nat.zero_le _⟩ rfl (Nat.le_of_ble_eq_true rfl) dX11_ahead_17 ?_
    refine g_if_eq (pc := 20) C 51 dX11_ahead_20 rfl (fun c2 => ?_) (fun c2 => ?_)
    · exact bad (fun q => bI_0.mp c2 q.2.1)
    · have c2 := Decidable.not_not.mp (fun q => c2 (bI_0.mpr q))
      refine g_iload_n (pc := 23) C dX11_ahead_23 rfl ?_
      refine g_iconst (pc := 24) (v := nI 0) C dX11_ahead_24 (by decide) ?_
      refine g_iconst (pc := 25) (v := nI 2) C dX11_ahead_25 (by decide) ?_
      refine cf_X11_194 (pc := 26) C (c_X11_within _ _ S what (nI 0) (nI 2)) ⟨rfl, rfl⟩ ⟨rfl, rfl⟩ ⟨Nat.zero_le _, Nat.zero_le _⟩ rfl (Nat.le_of_ble_eq_true rfl) dX11_ahead_26 ?_
      refine g_if_eq (pc := 29) C 51 dX11_ahead_29 rfl (fun c3 => ?_) (fun c3 => ?_)
      · exact bad (fun q => bI_0.mp c3 q.2.2.1)
      · have c3 := Decidable.not_not.mp (fun q => c3 (bI_0.mpr q))
        refine g_iload_n (pc := 32) C dX11_ahead_32 rfl ?_
        refine g_iconst (pc := 33) (v := nI 2) C dX11_ahead_33 (by decide) ?_
        refine g_icmp_eq (pc := 34) C 53 dX11_ahead_34 rfl (fun c4 => ?_) (fun c4 => ?_)
        · exact good ⟨c1, c2, c3, Or.inl (by rw [c4]; exact Int32.le_refl _)⟩
        · refine g_aload_n (pc := 37) C dX11_ahead_37 rfl ?_
          refine fgr_X11_46 (pc := 38) C (by exact (aK.o0 h).1) (zk (by exact (aK.o0 h).2)) (by exact (aK.rn h)) dX11_ahead_38 ?_
          refine fgr_X11_54 (pc := 41) C (by exact (aK.o7 h).1) (zk (by exact (aK.o7 h).2)) (by exact (aK.rc h)) dX11_ahead_41 ?_
          refine g_iload_n (pc := 44) C dX11_ahead_44 rfl ?_
          refine cf_X11_116 (pc := 45) C (by exact (aK.oc h).1) (zk (by exact (aK.oc h).2)) (c_X0_has _ _ S c ca cg cl ce P u (aK.cr h) p) ⟨rfl, rfl⟩ ⟨rfl, rfl⟩ ⟨Nat.zero_le _, Nat.zero_le _⟩ rfl (Nat.le_of_ble_eq_true rfl) dX11_ahead_45 ?_
          refine g_if_ne (pc := 48) C 53 dX11_ahead_48 rfl (fun c5 => ?_) (fun c5 => ?_)
          · exact good ⟨c1, c2, c3, Or.inr (Decidable.not_not.mp (fun q => c5 (bI_0.mpr q)))⟩
          · refine bad (fun q => q.2.2.2.elim (fun e => c4 (Int32.le_antisymm c3.2 e)) (fun e => nn_b c5 (e)))
theorem c_X11_never (h : aK S c ca cg cl ce P H m nr u f x Fs) : gx_M w l yX11_never cX11_never 1 (some .int) rmX11_never [.ref (ad (w_b w) 0)] S (aP S (if u 0 = nI 1 then nI (onN u (u 11) P - (onN u (u 11) P &&& nvF (ccF 0 u P H) (2 ^ P))) else -1)) := by
  refine gx_start rfl 0 rfl (Nat.le_of_ble_eq_true rfl) ?_
  intro X C _ hl
  subst hl
  refine gx_L (L' := [_]) rfl ?_
  refine g_aload_n (pc := 0) C dX11_never_0 rfl ?_
  refine fgr_X11_46 (pc := 1) C (by exact (aK.o0 h).1) (zk (by exact (aK.o0 h).2)) (by exact (aK.rn h)) dX11_never_1 ?_
  refine fgr_X11_54 (pc := 4) C (by exact (aK.o7 h).1) (zk (by exact (aK.o7 h).2)) (by exact (aK.rc h)) dX11_never_4 ?_
  refine fg_X11_142 (pc := 7) C (by exact (aK.oc h).1) (zk (by exact (aK.oc h).2)) dX11_never_7 ?_
  refine gx_ti (y := u 0) (aK.there h) ?_
  refine g_if_ne (pc := 10) C 15 dX11_never_10 rfl (fun c1 => ?_) (fun c1 => ?_)
  · have c1 := ok1 (aK.u0 h) c1
    refine g_aload_n (pc := 15) C dX11_never_15 rfl ?_
    refine fgr_X11_68 (pc := 16) C (by exact (aK.o0 h).1) (zk (by exact (aK.o0 h).2)) (by exact (aK.rz h)) dX11_never_16 ?_
    refine g_aload_n (pc := 19) C dX11_never_19 rfl ?_
    refine fgr_X11_46 (pc := 20) C (by exact (aK.o0 h).1) (zk (by exact (aK.o0 h).2)) (by exact (aK.rn h)) dX11_never_20 ?_
    refine cg_X11_216 (pc := 23) C (by exact (aK.oz h).1) (zk (by exact (aK.oz h).2)) (c_X4_begin _ _ S c ca cg cl ce P H u (aK.pz h) (aK.nw h) (aK.sc h) (aK.sd h) (aK.hr h) (aK.hr2 h)) ⟨rfl, rfl⟩ ⟨Nat.zero_le _, Nat.zero_le _⟩ rfl (Nat.le_of_ble_eq_true rfl) dX11_never_23 ?_
    rintro _ S1 ⟨rfl, q1, z1⟩
    have f1 : ftK S1 := (aK.ft h).o q1 (fun k q => by unfold dZ at q; omega)
    have hD := q1.mono (E := dD) (fun k q => by unfold dZ at q; unfold dD; omega)
    have h1 := aK.to h hD f1 z1.1
    refine g_aload_n (pc := 26) C dX11_never_26 rfl ?_
    refine fgr_X11_68 (pc := 27) C (by exact (aK.o0 h1).1) (zk (by exact (aK.o0 h1).2)) (by exact (aK.rz h1)) dX11_never_27 ?_
    refine cf_X11_283 (pc := 30) C (by exact (aK.oz h1).1) (zk (by exact (aK.oz h1).2)) (c_X4_neverSafe _ _ S1 c ca cg cl ce P H u z1 (aK.bd h) (aK.sd h)) ⟨rfl, rfl⟩ ⟨rfl, rfl⟩ ⟨Nat.zero_le _, Nat.zero_le _⟩ rfl (Nat.le_of_ble_eq_true rfl) dX11_never_30 ?_
    exact g_ireturn (pc := 33) C ⟨rfl, rfl⟩ dX11_never_33 ⟨by rw [if_pos c1], hD, f1, z1.1⟩
  · refine g_iconst (pc := 13) (v := -1) C dX11_never_13 (by decide) ?_
    exact g_ireturn (pc := 14) C ⟨rfl, rfl⟩ dX11_never_14 ⟨by rw [if_neg (ok0 (Decidable.not_not.mp c1))], eqO.refl, aK.ft h, aK.pz h⟩
theorem c_X11_most (h : aK S c ca cg cl ce P H m nr u f x Fs) (what : Int32) : gx_M w l yX11_most cX11_most 3 (some .int) rmX11_most [.ref (ad (w_b w) 0), .int what] S (aP S (if mostOK u what then mostA (mstF (ccF 0 u P H) (2 ^ P)) what else -1)) := by
  have h2P := (p128 (aK.P7 h)).2
  refine gx_start rfl 1 rfl (Nat.le_of_ble_eq_true rfl) ?_
  intro X C _ hl
  subst hl
  refine gx_L (L' := [_, _, _]) rfl ?_
  have bad : ¬ mostOK u what → gx_G w X S 0 0 22 [some (.ref (ad (w_b w) 0)), some (.int what), none] [] (gx_E w X (aP S (if mostOK u what then mostA (mstF (ccF 0 u P H) (2 ^ P)) what else -1))) := by
    intro hb
    refine g_iconst (pc := 22) (v := -1) C dX11_most_22 (by decide) ?_
    exact g_ireturn (pc := 23) C ⟨rfl, rfl⟩ dX11_most_23 ⟨by rw [if_neg hb], eqO.refl, aK.ft h, aK.pz h⟩
  refine g_aload_n (pc := 0) C dX11_most_0 rfl ?_
  refine fgr_X11_46 (pc := 1) C (by exact (aK.o0 h).1) (zk (by exact (aK.o0 h).2)) (by exact (aK.rn h)) dX11_most_1 ?_
  refine fgr_X11_54 (pc := 4) C (by exact (aK.o7 h).1) (zk (by exact (aK.o7 h).2)) (by exact (aK.rc h)) dX11_most_4 ?_
  refine fg_X11_142 (pc := 7) C (by exact (aK.oc h).1) (zk (by exact (aK.oc h).2)) dX11_most_7 ?_
  refine gx_ti (y := u 0) (aK.there h) ?_
  refine g_if_eq (pc := 10) C 22 dX11_most_10 rfl (fun c1 => ?_) (fun c1 => ?_)
  · exact bad (fun q => ok0 c1 q.1)
  · have c1 := ok1 (aK.u0 h) c1
    refine g_iload_n (pc := 13) C dX11_most_13 rfl ?_
    refine g_iconst (pc := 14) (v := nI 0) C dX11_most_14 (by decide) ?_
    refine g_iconst (pc := 15) (v := nI 1) C dX11_most_15 (by decide) ?_
    refine cf_X11_194 (pc := 16) C (c_X11_within _ _ S what (nI 0) (nI 1)) ⟨rfl, rfl⟩ ⟨rfl, rfl⟩ ⟨Nat.zero_le _, Nat.zero_le _⟩ rfl (Nat.le_of_ble_eq_true rfl) dX11_most_16 ?_
    refine g_if_ne (pc := 19) C 24 dX11_most_19 rfl (fun c2 => ?_) (fun c2 => ?_)
    · have c2 := Decidable.not_not.mp (fun q => c2 (bI_0.mpr q))
      refine g_aload_n (pc := 24) C dX11_most_24 rfl ?_
      refine fgr_X11_68 (pc := 25) C (by exact (aK.o0 h).1) (zk (by exact (aK.o0 h).2)) (by exact (aK.rz h)) dX11_most_25 ?_
      refine g_aload_n (pc := 28) C dX11_most_28 rfl ?_
      refine fgr_X11_46 (pc := 29) C (by exact (aK.o0 h).1) (zk (by exact (aK.o0 h).2)) (by exact (aK.rn h)) dX11_most_29 ?_
      refine cg_X11_216 (pc := 32) C (by exact (aK.oz h).1) (zk (by exact (aK.oz h).2)) (c_X4_begin _ _ S c ca cg cl ce P H u (aK.pz h) (aK.nw h) (aK.sc h) (aK.sd h) (aK.hr h) (aK.hr2 h)) ⟨rfl, rfl⟩ ⟨Nat.zero_le _, Nat.zero_le _⟩ rfl (Nat.le_of_ble_eq_true rfl) dX11_most_32 ?_
      rintro _ S1 ⟨rfl, q1, z1⟩
      have f1 : ftK S1 := (aK.ft h).o q1 (fun k q => by unfold dZ at q; omega)
      have hD := q1.mono (E := dD) (fun k q => by unfold dZ at q; unfold dD; omega)
      have h1 := aK.to h hD f1 z1.1
      rw [if_pos (⟨c1, c2⟩ : mostOK u what)]
      refine g_aload_n (pc := 35) C dX11_most_35 rfl ?_
      refine fgr_X11_68 (pc := 36) C (by exact (aK.o0 h1).1) (zk (by exact (aK.o0 h1).2)) (by exact (aK.rz h1)) dX11_most_36 ?_
      refine cf_X11_219 (pc := 39) C (by exact (aK.oz h1).1) (zk (by exact (aK.oz h1).2)) (c_X4_largestSafeSet _ _ S1 c ca cg cl ce P H u z1 (aK.bd h) (aK.sd h)) ⟨rfl, rfl⟩ ⟨rfl, rfl⟩ ⟨Nat.zero_le _, Nat.zero_le _⟩ rfl (Nat.le_of_ble_eq_true rfl) dX11_most_39 ?_
      cases e : mstF (ccF 0 u P H) (2 ^ P) with
      | none =>
        refine g_istore_n (pc := 42) (L' := [_, some (.int _), _]) C dX11_most_42 rfl rfl ?_
        refine g_iload_n (pc := 43) C dX11_most_43 rfl ?_
        refine g_iconst (pc := 44) (v := -1) C dX11_most_44 (by decide) ?_
        refine g_icmp_ne (pc := 45) C 51 dX11_most_45 rfl (fun c3 => ?_) (fun c3 => ?_)
        · exact absurd rfl c3
        · refine g_bipush (pc := 48) (v := -2) C dX11_most_48 (by decide) ?_
          exact g_ireturn (pc := 50) C ⟨rfl, rfl⟩ dX11_most_50 ⟨rfl, hD, f1, z1.1⟩
      | some b =>
        have hb := mstF_lt e
        refine gx_ti (y := nI b) rfl ?_
        refine g_istore_n (pc := 42) (L' := [_, some (.int _), _]) C dX11_most_42 rfl rfl ?_
        refine g_iload_n (pc := 43) C dX11_most_43 rfl ?_
        refine g_iconst (pc := 44) (v := -1) C dX11_most_44 (by decide) ?_
        refine g_icmp_ne (pc := 45) C 51 dX11_most_45 rfl (fun c3 => ?_) (fun c3 => ?_)
        · refine g_iload_n (pc := 51) C dX11_most_51 rfl ?_
          refine g_if_ne (pc := 52) C 62 dX11_most_52 rfl (fun c4 => ?_) (fun c4 => ?_)
          · refine g_iload_n (pc := 62) C dX11_most_62 rfl ?_
            exact g_ireturn (pc := 63) C ⟨rfl, rfl⟩ dX11_most_63 ⟨congrArg (fun z => some (Value.int z)) (show nI b = mostA (some b) what from (if_neg (n0 c4)).symm), hD, f1, z1.1⟩
          · refine g_iload_n (pc := 55) C dX11_most_55 rfl ?_
            refine cf_X11_222 (pc := 56) C (c_bitCount _ _ S1 b (by omega)) ⟨rfl, rfl⟩ ⟨rfl, rfl⟩ ⟨Nat.zero_le _, Nat.zero_le _⟩ rfl (Nat.le_of_ble_eq_true rfl) dX11_most_56 ?_
            refine g_goto (pc := 59) C 63 dX11_most_59 rfl ?_
            exact g_ireturn (pc := 63) C ⟨rfl, rfl⟩ dX11_most_63 ⟨congrArg (fun z => some (Value.int z)) (show nI (popN b) = mostA (some b) what from (if_pos (p0 c4)).symm), hD, f1, z1.1⟩
        · exact absurd (Decidable.not_not.mp c3) (nI_m1 (by omega))
    · exact bad (fun q => nn_b c2 (q.2))
theorem c_X11_stay (h : aK S c ca cg cl ce P H m nr u f x Fs) (what : Int32) : gx_M w l yX11_stay cX11_stay 3 (some .int) rmX11_stay [.ref (ad (w_b w) 0), .int what] S (aP S (if mostOK u what then (if what = nI 0 then stB (styF (onN u (u 11) P) (fun p => weightF u P (fogF 0 u H) (onN u (u 11) P - (onN u (u 11) P &&& 2 ^ p)) False) P) else stM (styF (onN u (u 11) P) (fun p => weightF u P (fogF 0 u H) (onN u (u 11) P - (onN u (u 11) P &&& 2 ^ p)) False) P)) else -1)) := by
  have hP7 := aK.P7 h
  refine gx_start rfl 1 rfl (Nat.le_of_ble_eq_true rfl) ?_
  intro X C _ hl
  subst hl
  refine gx_L (L' := [_, _, _]) rfl ?_
  generalize hO : styF (onN u (u 11) P) (fun p => weightF u P (fogF 0 u H) (onN u (u 11) P - (onN u (u 11) P &&& 2 ^ p)) False) P = o
  have bad : ¬ mostOK u what → gx_G w X S 0 0 22 [some (.ref (ad (w_b w) 0)), some (.int what), none] [] (gx_E w X (aP S (if mostOK u what then (if what = nI 0 then stB o else stM o) else -1))) := by
    intro hb
    refine g_iconst (pc := 22) (v := -1) C dX11_stay_22 (by decide) ?_
    exact g_ireturn (pc := 23) C ⟨rfl, rfl⟩ dX11_stay_23 ⟨by rw [if_neg hb], eqO.refl, aK.ft h, aK.pz h⟩
  refine g_aload_n (pc := 0) C dX11_stay_0 rfl ?_
  refine fgr_X11_46 (pc := 1) C (by exact (aK.o0 h).1) (zk (by exact (aK.o0 h).2)) (by exact (aK.rn h)) dX11_stay_1 ?_
  refine fgr_X11_54 (pc := 4) C (by exact (aK.o7 h).1) (zk (by exact (aK.o7 h).2)) (by exact (aK.rc h)) dX11_stay_4 ?_
  refine fg_X11_142 (pc := 7) C (by exact (aK.oc h).1) (zk (by exact (aK.oc h).2)) dX11_stay_7 ?_
  refine gx_ti (y := u 0) (aK.there h) ?_
  refine g_if_eq (pc := 10) C 22 dX11_stay_10 rfl (fun c1 => ?_) (fun c1 => ?_)
  · exact bad (fun q => ok0 c1 q.1)
  · have c1 := ok1 (aK.u0 h) c1
    refine g_iload_n (pc := 13) C dX11_stay_13 rfl ?_
    refine g_iconst (pc := 14) (v := nI 0) C dX11_stay_14 (by decide) ?_
    refine g_iconst (pc := 15) (v := nI 1) C dX11_stay_15 (by decide) ?_
    refine cf_X11_194 (pc := 16) C (c_X11_within _ _ S what (nI 0) (nI 1)) ⟨rfl, rfl⟩ ⟨rfl, rfl⟩ ⟨Nat.zero_le _, Nat.zero_le _⟩ rfl (Nat.le_of_ble_eq_true rfl) dX11_stay_16 ?_
    refine g_if_ne (pc := 19) C 24 dX11_stay_19 rfl (fun c2 => ?_) (fun c2 => ?_)
    · have c2 := Decidable.not_not.mp (fun q => c2 (bI_0.mpr q))
      refine g_aload_n (pc := 24) C dX11_stay_24 rfl ?_
      refine fgr_X11_68 (pc := 25) C (by exact (aK.o0 h).1) (zk (by exact (aK.o0 h).2)) (by exact (aK.rz h)) dX11_stay_25 ?_
      refine g_aload_n (pc := 28) C dX11_stay_28 rfl ?_
      refine fgr_X11_46 (pc := 29) C (by exact (aK.o0 h).1) (zk (by exact (aK.o0 h).2)) (by exact (aK.rn h)) dX11_stay_29 ?_
      refine cg_X11_216 (pc := 32) C (by exact (aK.oz h).1) (zk (by exact (aK.oz h).2)) (c_X4_begin _ _ S c ca cg cl ce P H u (aK.pz h) (aK.nw h) (aK.sc h) (aK.sd h) (aK.hr h) (aK.hr2 h)) ⟨rfl, rfl⟩ ⟨Nat.zero_le _, Nat.zero_le _⟩ rfl (Nat.le_of_ble_eq_true rfl) dX11_stay_32 ?_
      rintro _ S1 ⟨rfl, q1, z1⟩
      have f1 : ftK S1 := (aK.ft h).o q1 (fun k q => by unfold dZ at q; omega)
      have hD := q1.mono (E := dD) (fun k q => by unfold dZ at q; unfold dD; omega)
      have h1 := aK.to h hD f1 z1.1
      rw [if_pos (⟨c1, c2⟩ : mostOK u what)]
      refine g_aload_n (pc := 35) C dX11_stay_35 rfl ?_
      refine fgr_X11_68 (pc := 36) C (by exact (aK.o0 h1).1) (zk (by exact (aK.o0 h1).2)) (by exact (aK.rz h1)) dX11_stay_36 ?_
      refine cf_X11_256 (pc := 39) C (by exact (aK.oz h1).1) (zk (by exact (aK.oz h1).2)) (c_X4_bestToStay _ _ S1 c ca cg cl ce P H u z1 (aK.bd h) (aK.sd h)) ⟨rfl, rfl⟩ ⟨rfl, rfl⟩ ⟨Nat.zero_le _, Nat.zero_le _⟩ rfl (Nat.le_of_ble_eq_true rfl) dX11_stay_39 ?_
      rw [hO]
      cases o with
      | none =>
        refine g_istore_n (pc := 42) (L' := [_, some (.int _), _]) C dX11_stay_42 rfl rfl ?_
        refine g_iload_n (pc := 43) C dX11_stay_43 rfl ?_
        refine g_iconst (pc := 44) (v := -1) C dX11_stay_44 (by decide) ?_
        refine g_icmp_ne (pc := 45) C 51 dX11_stay_45 rfl (fun c3 => ?_) (fun c3 => ?_)
        · exact absurd rfl c3
        · refine g_bipush (pc := 48) (v := -2) C dX11_stay_48 (by decide) ?_
          exact g_ireturn (pc := 50) C ⟨rfl, rfl⟩ dX11_stay_50 ⟨by split <;> rfl, hD, f1, z1.1⟩
      | some bm =>
        obtain ⟨b, mm⟩ := bm
        have hb := styF_lt hO
        have hw := sty_wt hO
        refine gx_ti (y := nI b) rfl ?_
        refine g_istore_n (pc := 42) (L' := [_, some (.int _), _]) C dX11_stay_42 rfl rfl ?_
        refine g_iload_n (pc := 43) C dX11_stay_43 rfl ?_
        refine g_iconst (pc := 44) (v := -1) C dX11_stay_44 (by decide) ?_
        refine g_icmp_ne (pc := 45) C 51 dX11_stay_45 rfl (fun c3 => ?_) (fun c3 => ?_)
        · refine g_iload_n (pc := 51) C dX11_stay_51 rfl ?_
          refine g_if_ne (pc := 52) C 59 dX11_stay_52 rfl (fun c4 => ?_) (fun c4 => ?_)
          · refine g_aload_n (pc := 59) C dX11_stay_59 rfl ?_
            refine fgr_X11_68 (pc := 60) C (by exact (aK.o0 h1).1) (zk (by exact (aK.o0 h1).2)) (by exact (aK.rz h1)) dX11_stay_60 ?_
            refine g_iload_n (pc := 63) C dX11_stay_63 rfl ?_
            refine cf_X11_259 (pc := 64) C (by exact (aK.oz h1).1) (zk (by exact (aK.oz h1).2)) (c_X4_weightWithout _ _ S1 c ca cg cl ce P H u z1 (aK.sd h) b hb) ⟨rfl, rfl⟩ ⟨rfl, rfl⟩ ⟨Nat.zero_le _, Nat.zero_le _⟩ rfl (Nat.le_of_ble_eq_true rfl) dX11_stay_64 ?_
            exact g_ireturn (pc := 67) C ⟨rfl, rfl⟩ dX11_stay_67 ⟨by rw [if_neg (n0 c4)]; exact congrArg (fun z => some (Value.int z)) hw.symm, hD, f1, z1.1⟩
          · refine g_iload_n (pc := 55) C dX11_stay_55 rfl ?_
            refine g_goto (pc := 56) C 67 dX11_stay_56 rfl ?_
            exact g_ireturn (pc := 67) C ⟨rfl, rfl⟩ dX11_stay_67 ⟨by rw [if_pos (p0 c4)]; rfl, hD, f1, z1.1⟩
        · exact absurd (Decidable.not_not.mp c3) (nI_m1 (by omega))
    · exact bad (fun q => nn_b c2 (q.2))
end
