/-! ===== THE CLASS: Puzzles: the first set of the fewest crossings ===== -/
theorem pl_here {P b : Nat} {u : Nat → Int32} (hP : P ≤ 7) (hs : sdU P u) (hb : b < 2) (hB : u 11 = nI b) : plTh P (128 * b + onN u (nI 1) P) = onN u (u 11) P := by
  have h2 := p128 hP
  have hon := onN_lt u (nI 1) P
  have ho := onN_128 (said := u) (side := u 11) hP
  have e := here_eq hP hs
  have e1 : (128 * b + onN u (nI 1) P) / 128 = b := by omega
  have e2 : (128 * b + onN u (nI 1) P) % 128 = onN u (nI 1) P := by omega
  unfold plTh
  rw [e1, e2]
  by_cases c : b = 1
  · rw [if_pos c]
    rw [hB, c]
  · rw [if_neg c]
    rw [if_neg (fun q => c ((nI_eq (by omega) (by omega)).mp (hB.symm.trans q))), andn_nI _ (by omega) _ (by omega)] at e
    exact (nI_eq (by omega) (by omega)).mp e
theorem c_X4_firstSetOf (w : Wd) (l : Launch) (S : St) (c ca cg cl ce P H b x : Nat) (u : Nat → Int32) (h : pzS S c ca cg cl ce P H u) (hb : b < 2) (hB : u 11 = nI b) (hfit : ∀ s, s < 2 ^ P → s_A S 81 s = boF 0 u P H s 0 ∧ s_A S 81 (128 + s) = boF 0 u P H s 1) (hds : dsP (plF P (vU u P H)) (2 ^ P - 1) (s_A S 79)) (hx : s_A S 79 (128 * b + onN u (nI 1) P) = nI x) (hx2 : x < 256) : gx_M w l yX4_firstSetOf cX4_firstSetOf 3 (some .int) rmX4_firstSetOf [.ref (ad (w_b w) 74), .int (nI x)] S (fun v S' => S' = S ∧ ∃ r, v = some (.int r) ∧ ((x = 0 ∧ r = nI 0) ∨ ∃ m s, x = m + 1 ∧ s < 2 ^ P - 1 + 1 ∧ okT (plF P (vU u P H)) (s_A S 79) m (128 * b + onN u (nI 1) P) s = true ∧ (∀ q, q < s → okT (plF P (vU u P H)) (s_A S 79) m (128 * b + onN u (nI 1) P) q = false) ∧ r = nI s)) := by
  obtain ⟨hk, hv, hc, hk5, hr, hm⟩ := id h
  have hP7 := hc.2.2
  have h2P := p128 hP7
  have hon := onN_lt u (nI 1) P
  have hth := pl_here hP7 hr.2.2 hb hB
  have ho := onN_128 (said := u) (side := u 11) hP7
  have hpl : dmP (2 ^ P - 1) (128 * b + onN u (nI 1) P) := ⟨by omega, by omega⟩
  have o74 : gx_o S 74 4 := o_st hk.1 rfl rfl
  have rs := hk.2.2.2.2.1
  have rf := hk.2.2.2.2.2.2.1
  have rr := hv.2.1
  have a79 : gx_a S 79 13 256 := a_st hk.1 rfl rfl rfl
  have a81 : gx_a S 81 15 256 := a_st hk.1 rfl rfl rfl
  have eb : (128 * b + onN u (nI 1) P) / 128 = b := by omega
  have ef : (128 * b + onN u (nI 1) P) % 128 = onN u (nI 1) P := by omega
  have hev := hv.2.2.2.1
  have hhe := hv.2.2.2.2
  have hbo := hr.2.1.2.1.trans hB
  have hfa := hr.2.1.2.2.1
  generalize hpost : (fun (v : Option Value) (S' : St) => S' = S ∧ ∃ r, v = some (.int r) ∧ ((x = 0 ∧ r = nI 0) ∨ ∃ m s, x = m + 1 ∧ s < 2 ^ P - 1 + 1 ∧ okT (plF P (vU u P H)) (s_A S 79) m (128 * b + onN u (nI 1) P) s = true ∧ (∀ q, q < s → okT (plF P (vU u P H)) (s_A S 79) m (128 * b + onN u (nI 1) P) q = false) ∧ r = nI s)) = post
  refine gx_start rfl 1 rfl (Nat.le_of_ble_eq_true rfl) ?_
  intro X C _ hl
  subst hl
  refine gx_L (L' := [_, _, _]) rfl ?_
  refine g_iconst (pc := 0) (v := nI 0) C dX4_firstSetOf_0 (by decide) ?_
  refine g_istore_n (pc := 1) (L' := [_, some (.int _), _]) C dX4_firstSetOf_1 rfl rfl ?_
  cases x with
  | zero =>
    refine g_iload_n (pc := 2) C dX4_firstSetOf_2 rfl ?_
    refine g_if_le (pc := 3) C 88 dX4_firstSetOf_3 rfl (fun c1 => ?_) (fun c1 => ?_)
    · refine g_iconst (pc := 88) (v := nI 0) C dX4_firstSetOf_88 (by decide) ?_
      rw [← hpost]
      exact g_ireturn (pc := 89) C ⟨rfl, rfl⟩ dX4_firstSetOf_89 ⟨rfl, _, rfl, Or.inl ⟨rfl, rfl⟩⟩
    · exact absurd (Int32.le_refl _) c1
  | succ m =>
    have loop : ∀ d s, s + d = 2 ^ P → (∀ q, q < s → okT (plF P (vU u P H)) (s_A S 79) m (128 * b + onN u (nI 1) P) q = false) → gx_G w X S 0 0 2 [some (.ref (ad (w_b w) 74)), some (.int (nI (m + 1))), some (.int (nI s))] [] (gx_E w X post) := by
      intro d
      induction d with
      | zero =>
        intro s hs hno
        have hs : s = 2 ^ P := hs
        subst hs
        obtain ⟨s, t, a1, a2, a3, a4⟩ := hds.2.2.1 _ m hpl (by omega) hx
        have := hno s (by omega)
        unfold okT at this
        rw [a2] at this
        exact absurd a4 (of_decide_eq_false this)
      | succ d ih =>
        intro s hs hno
        have hs128 : s < 128 := by omega
        obtain ⟨x1, x2⟩ := xor_set (onN u (nI 1) P) (by omega) s hs128
        have hV : s_A S 81 (128 * b + s) = vU u P H (128 * b + s) := by
          unfold vU
          have hd : b = 0 ∨ b = 1 := by omega
          obtain ⟨f1, f2⟩ := hfit s (by omega)
          rcases hd with q | q
          · subst q; rw [show 128 * 0 + s = s by omega, f1, show s % 128 = s by omega, show s / 128 = 0 by omega]
          · subst q; rw [show 128 * 1 + s = 128 + s by omega, f2, show (128 + s) % 128 = s by omega, show (128 + s) / 128 = 1 by omega]
        have skip : ¬ okT (plF P (vU u P H)) (s_A S 79) m (128 * b + onN u (nI 1) P) s = true → gx_G w X S 0 0 82 [some (.ref (ad (w_b w) 74)), some (.int (nI (m + 1))), some (.int (nI s))] [] (gx_E w X post) := by
          intro hn
          refine g_iinc (pc := 82) (L' := [_, some (.int _), _]) C dX4_firstSetOf_82 rfl (nI_1 _) rfl ?_
          refine g_goto (pc := 85) C 2 dX4_firstSetOf_85 rfl ?_
          refine ih (s + 1) (by omega) (fun q hq => ?_)
          by_cases e : q = s
          · subst e; exact Bool.eq_false_iff.mpr hn
          · exact hno q (by omega)
        have hok : okT (plF P (vU u P H)) (s_A S 79) m (128 * b + onN u (nI 1) P) s = true ↔ (s ||| onN u (u 11) P = onN u (u 11) P ∧ ¬ vU u P H (128 * b + s) = 0) ∧ s_A S 79 (128 * (1 - b) + (onN u (nI 1) P ^^^ s)) = nI m := by
          unfold okT plF
          rw [eb, ef, hth]
          by_cases q : s ||| onN u (u 11) P = onN u (u 11) P ∧ ¬ vU u P H (128 * b + s) = 0
          · rw [if_pos q]
            exact ⟨fun z => ⟨q, of_decide_eq_true z⟩, fun z => decide_eq_true z.2⟩
          · rw [if_neg q]
            exact Iff.intro (fun (z : false = true) => absurd z (by decide)) (fun z => absurd z.1 q)
        refine g_iload_n (pc := 2) C dX4_firstSetOf_2 rfl ?_
        refine g_if_le (pc := 3) C 88 dX4_firstSetOf_3 rfl (fun c1 => ?_) (fun c1 => ?_)
        · exact absurd c1 (Int32.not_le.mpr (nI_lt (a := 0) (by omega) (by omega)))
        · refine g_iload_n (pc := 6) C dX4_firstSetOf_6 rfl ?_
          refine g_aload_n (pc := 7) C dX4_firstSetOf_7 rfl ?_
          refine fg_X4_60 (pc := 8) C (by exact o74.1) (zk (by exact o74.2)) dX4_firstSetOf_8 ?_
          refine gx_ti (y := nI (2 ^ P - 1)) hev ?_
          refine g_icmp_gt (pc := 11) C 88 dX4_firstSetOf_11 rfl (fun c2 => ?_) (fun c2 => ?_)
          · exact absurd c2 (nI_nlt (by omega) (by omega))
          · refine g_iload_n (pc := 14) C dX4_firstSetOf_14 rfl ?_
            refine g_aload_n (pc := 15) C dX4_firstSetOf_15 rfl ?_
            refine fg_X4_67 (pc := 16) C (by exact o74.1) (zk (by exact o74.2)) dX4_firstSetOf_16 ?_
            refine gx_ti (y := nI (onN u (u 11) P)) hhe ?_
            refine g_iconst (pc := 19) (v := -1) C dX4_firstSetOf_19 (by decide) ?_
            refine g_ixor (pc := 20) C dX4_firstSetOf_20 ?_
            refine g_iand (pc := 21) C dX4_firstSetOf_21 ?_
            refine g_if_ne (pc := 22) C 82 dX4_firstSetOf_22 rfl (fun c3 => ?_) (fun c3 => ?_)
            · exact skip (fun z => c3 ((sub_iff s hs128 _ ho).mpr (hok.mp z).1.1))
            · have c3 := (sub_iff s hs128 _ ho).mp (Decidable.not_not.mp c3)
              refine g_aload_n (pc := 25) C dX4_firstSetOf_25 rfl ?_
              refine fgr_X4_31 (pc := 26) C (by exact o74.1) (zk (by exact o74.2)) (by exact rf) dX4_firstSetOf_26 ?_
              refine g_aload_n (pc := 29) C dX4_firstSetOf_29 rfl ?_
              refine fgr_X4_45 (pc := 30) C (by exact o74.1) (zk (by exact o74.2)) (by exact rr) dX4_firstSetOf_30 ?_
              refine fg_X4_99 (pc := 33) C (by exact hr.1.1.1) (zk (by exact hr.1.1.2)) dX4_firstSetOf_33 ?_
              refine gx_ti (y := nI b) hbo ?_
              refine g_sipush (pc := 36) (v := nI 128) C dX4_firstSetOf_36 (by decide) ?_
              refine g_imul (pc := 39) C dX4_firstSetOf_39 ?_
              refine gx_ti (y := nI (128 * b)) ((pk_mul _ _).trans (by rw [Nat.mul_comm])) ?_
              refine g_iload_n (pc := 40) C dX4_firstSetOf_40 rfl ?_
              refine g_iadd (pc := 41) C dX4_firstSetOf_41 ?_
              refine gx_ti (y := nI (128 * b + s)) (nI_add _ _) ?_
              refine n_zald (pc := 42) (n := 256) C (by exact a81.1) (by exact a81.2.1) (zk (by exact a81.2.2)) rfl rfl (by omega) dX4_firstSetOf_42 ?_
              refine gx_ti (y := vU u P H (128 * b + s)) hV ?_
              refine g_if_eq (pc := 43) C 82 dX4_firstSetOf_43 rfl (fun c4 => ?_) (fun c4 => ?_)
              · exact skip (fun z => (hok.mp z).1.2 c4)
              · refine g_aload_n (pc := 46) C dX4_firstSetOf_46 rfl ?_
                refine fgr_X4_25 (pc := 47) C (by exact o74.1) (zk (by exact o74.2)) (by exact rs) dX4_firstSetOf_47 ?_
                refine g_iconst (pc := 50) (v := nI 1) C dX4_firstSetOf_50 (by decide) ?_
                refine g_aload_n (pc := 51) C dX4_firstSetOf_51 rfl ?_
                refine fgr_X4_45 (pc := 52) C (by exact o74.1) (zk (by exact o74.2)) (by exact rr) dX4_firstSetOf_52 ?_
                refine fg_X4_99 (pc := 55) C (by exact hr.1.1.1) (zk (by exact hr.1.1.2)) dX4_firstSetOf_55 ?_
                refine gx_ti (y := nI b) hbo ?_
                refine g_isub (pc := 58) C dX4_firstSetOf_58 ?_
                refine gx_ti (y := nI (1 - b)) (pk_sub (by omega)) ?_
                refine g_sipush (pc := 59) (v := nI 128) C dX4_firstSetOf_59 (by decide) ?_
                refine g_imul (pc := 62) C dX4_firstSetOf_62 ?_
                refine gx_ti (y := nI (128 * (1 - b))) ((pk_mul _ _).trans (by rw [Nat.mul_comm])) ?_
                refine g_aload_n (pc := 63) C dX4_firstSetOf_63 rfl ?_
                refine fgr_X4_45 (pc := 64) C (by exact o74.1) (zk (by exact o74.2)) (by exact rr) dX4_firstSetOf_64 ?_
                refine fg_X4_138 (pc := 67) C (by exact hr.1.1.1) (zk (by exact hr.1.1.2)) dX4_firstSetOf_67 ?_
                refine gx_ti (y := nI (onN u (nI 1) P)) hfa ?_
                refine g_iload_n (pc := 70) C dX4_firstSetOf_70 rfl ?_
                refine g_ixor (pc := 71) C dX4_firstSetOf_71 ?_
                refine gx_ti (y := nI (onN u (nI 1) P ^^^ s)) x1 ?_
                refine g_iadd (pc := 72) C dX4_firstSetOf_72 ?_
                refine gx_ti (y := nI (128 * (1 - b) + (onN u (nI 1) P ^^^ s))) (nI_add _ _) ?_
                refine n_iald (pc := 73) (n := 256) C (by exact a79.1) (by exact a79.2.1) (zk (by exact a79.2.2)) rfl rfl (by omega) dX4_firstSetOf_73 ?_
                refine g_iload_n (pc := 74) C dX4_firstSetOf_74 rfl ?_
                refine g_iconst (pc := 75) (v := nI 1) C dX4_firstSetOf_75 (by decide) ?_
                refine g_isub (pc := 76) C dX4_firstSetOf_76 ?_
                refine gx_ti (y := nI m) (nI_pred m) ?_
                refine g_icmp_ne (pc := 77) C 82 dX4_firstSetOf_77 rfl (fun c5 => ?_) (fun c5 => ?_)
                · exact skip (fun z => c5 (hok.mp z).2)
                · have c5 := Decidable.not_not.mp c5
                  refine g_iload_n (pc := 80) C dX4_firstSetOf_80 rfl ?_
                  rw [← hpost]
                  exact g_ireturn (pc := 81) C ⟨rfl, rfl⟩ dX4_firstSetOf_81 ⟨rfl, _, rfl, Or.inr ⟨m, s, rfl, by omega, hok.mpr ⟨⟨c3, c4⟩, c5⟩, hno, rfl⟩⟩
    exact loop (2 ^ P) 0 (by omega) (fun q hq => absurd hq (by omega))
/-- both ways answer the same -/
theorem fw_one {pl pl2 : Nat → Nat → Option Nat} {all place : Nat} {N N2 : Nat → Int32} {what v v2 : Int32} (h1 : dsP pl all N) (h2 : dsP pl all N2) (hpl : dmP all place) (e : ∀ j s, dmP all j → s < all + 1 → pl2 j s = pl j s) (hD : ∀ j s t, dmP all j → s < all + 1 → pl j s = some t → dmP all t) (f1 : fwOK pl all N place what v) (f2 : fwOK pl2 all N2 place what v2) : v = v2 := by
  have ok : ∀ m s, m < 1000 → s < all + 1 → (okT pl2 N2 m place s = true ↔ okT pl N m place s = true) := fun m s hm hs => by
    unfold okT
    rw [e place s hpl hs]
    cases c : pl place s with
    | none => exact Iff.rfl
    | some t =>
      have ht := hD place s t hpl hs c
      exact ⟨fun z => decide_eq_true (ds_eq h2 h1 hm ht (of_decide_eq_true z)), fun z => decide_eq_true (ds_eq h1 h2 hm ht (of_decide_eq_true z))⟩
  rcases h1.1 place hpl with hn | ⟨x, hx, ex⟩
  · have hn2 := ds_neg h1 h2 hpl hn
    have a1 : v = -2 := by
      rcases f1 with ⟨-, q⟩ | ⟨q, -, -⟩ | ⟨m, s, hm, q, -⟩
      · exact q
      · exact absurd hn (Int32.not_lt.mpr q)
      · rw [q] at hn; exact absurd hn (nI_pos (by omega))
    have a2 : v2 = -2 := by
      rcases f2 with ⟨-, q⟩ | ⟨q, -, -⟩ | ⟨m, s, hm, q, -⟩
      · exact q
      · exact absurd hn2 (Int32.not_lt.mpr q)
      · rw [q] at hn2; exact absurd hn2 (nI_pos (by omega))
    rw [a1, a2]
  · have ex2 := ds_eq h1 h2 hx hpl ex
    have p1 : ¬ N place < 0 := by rw [ex]; exact nI_pos (by omega)
    have p2 : ¬ N2 place < 0 := by rw [ex2]; exact nI_pos (by omega)
    have zz : ∀ m, m < 1000 → nI x = nI (m + 1) → x = m + 1 ∧ ¬ nI x = 0 := fun m hm q => by
      have := (nI_eq (by omega) (by omega)).mp q
      exact ⟨this, fun z => absurd ((nI_eq (b := 0) (by omega) (by omega)).mp z) (by omega)⟩
    rcases f1 with ⟨q, -⟩ | ⟨-, o1, v1⟩ | ⟨m, s, hm, q1, w1, s1, k1, n1, v1⟩
    · exact absurd q p1
    · rcases f2 with ⟨q, -⟩ | ⟨-, o2, v2⟩ | ⟨m, s, hm, q1, w1, s1, k1, n1, v1⟩
      · exact absurd q p2
      · rw [v1, v2, ex, ex2]
      · rw [ex2] at q1
        rcases o1 with o1 | o1
        · rw [ex] at o1; exact absurd o1 (zz m hm q1).2
        · exact absurd o1 w1
    · rcases f2 with ⟨q, -⟩ | ⟨-, o2, v2⟩ | ⟨m2, s2, hm2, q2, w2, t2, k2, n2, v2⟩
      · exact absurd q p2
      · rw [ex] at q1
        rcases o2 with o2 | o2
        · rw [ex2] at o2; exact absurd o2 (zz m hm q1).2
        · exact absurd o2 w1
      · rw [ex] at q1
        rw [ex2] at q2
        have e1 := (zz m hm q1).1
        have e2 := (zz m2 hm2 q2).1
        have em : m2 = m := by omega
        subst em
        rw [v1, v2]
        congr 1
        rcases Nat.lt_trichotomy s s2 with c | c | c
        · have a := n2 s c
          rw [(ok m2 s hm s1).mpr k1] at a
          cases a
        · exact c
        · have a := n1 s2 c
          rw [(ok m2 s2 hm t2).mp k2] at a
          cases a
