/-! ===== THE CLASS: Puzzles: leastThrown is lighten ===== -/
theorem gr_mono {R : Nat → Nat} {p a b : Nat} (h : a ≤ b) : grN R p a ≤ grN R p b := by
  unfold grN
  split
  · omega
  · rw [if_neg (by omega)]; omega
theorem re_va {A R : Nat → Nat} {s : Nat} {x : Nat → Nat} : ∀ n, hS (reN A R s x) n + hS (vaN A R s x) n = hS (vaN A R s (fun _ => 0)) n
  | 0 => rfl
  | n + 1 => by
    have ih := re_va (A := A) (R := R) (s := s) (x := x) n
    have : reN A R s x n + vaN A R s x n = vaN A R s (fun _ => 0) n := by
      unfold reN vaN
      by_cases c : s.testBit n = true
      · rw [if_pos c, if_pos c, if_pos c, Nat.sub_zero]
        have := gr_mono (R := R) (p := n) (show A n - x n ≤ A n by omega)
        omega
      · rw [if_neg c, if_neg c, if_neg c]
    show hS _ n + reN A R s x n + (hS _ n + vaN A R s x n) = hS _ n + vaN A R s (fun _ => 0) n
    omega
theorem aims_va {u : Nat → Int32} {A R : Nat → Nat} {s P : Nat} (h : ∀ p, p < P → u (14 + p) = nI (A p) ∧ A p ≤ 99 ∧ u (28 + p) = nI (R p) ∧ R p ≤ 9) : ∀ n, n ≤ P → aimsF u s True n = nI (hS (vaN A R s (fun _ => 0)) n)
  | 0, _ => rfl
  | n + 1, hn => by
    obtain ⟨h1, h2, h3, h4⟩ := h n (by omega)
    have ih := aims_va (s := s) h n (by omega)
    simp only [aimsF]
    show _ = nI (hS _ n + vaN A R s (fun _ => 0) n)
    unfold vaN
    by_cases c : s.testBit n = true
    · rw [if_pos c, if_pos trivial, ih, h1, grown_gr h3 h4 h2, if_pos c, Nat.sub_zero, nI_add]
      rfl
    · rw [if_neg c, ih, if_neg c, Nat.add_zero]
      rfl
/-- how much may be, and how much is wanting -/
def mayZ (L l f : Nat) : Int := (L : Int) + l - f
def needZ (half : Bool) (L l f full : Nat) : Int := (full : Int) - (if half = true then 2 * mayZ L l f + 1 else mayZ L l f)
theorem wg_may {half : Bool} {m f l L : Nat} : wgZ half m f l ≤ L ↔ ((if half = true then m / 2 else m : Nat) : Int) ≤ mayZ L l f := by
  unfold wgZ mayZ
  cases half <;> simp <;> omega
theorem lgK_iff {u : Nat → Int32} {A R : Nat → Nat} {s P H t L l f : Nat} {M W : Nat → Int32} (hP : P ≤ 7) (h : ∀ p, p < P → u (14 + p) = nI (A p) ∧ A p ≤ 99 ∧ u (28 + p) = nI (R p) ∧ R p ≤ 9) (hL : u 1 = nI L) (hL9 : L ≤ 99) (ht : twosF u s P P = nI t) (ht5 : t ≤ 500) (hw : ∀ m, m ≤ 1000000 → P ≤ 7 → iv (weighF u P (fogF 0 u H) (nI m) s (u 11)) (wgZ (decide (u 11 = nI 1)) m f l)) {k : Nat} (hk : k < 700) : lgK 0 u P H s (lgQ u P s M W).1 k = true ↔ 0 ≤ mayZ L l f ∧ ∃ x : Nat → Nat, (∀ p, x p ≤ A p) ∧ hS (coN s x) P = k ∧ needZ (decide (u 11 = nI 1)) L l f (hS (vaN A R s (fun _ => 0)) P + t) ≤ (hS (reN A R s x) P : Nat) := by
  obtain ⟨v, v1, v2, v3, v4⟩ := lgF_tb (s := s) (M := M) (W := W) hP h P (Nat.le_refl P) k hk
  have e : lgK 0 u P H s (lgQ u P s M W).1 k = true ↔ v < 9999 ∧ wgZ (decide (u 11 = nI 1)) (v + t) f l ≤ L := by
    unfold lgK lgQ
    rw [decide_eq_true_iff, v2, ht, nI_add, hL, iv_le (hw (v + t) (by omega) hP) (iv_n (by omega)), nI_ltI (by omega) (by omega)]
  have wx : ∀ x : Nat → Nat, wgZ (decide (u 11 = nI 1)) (hS (vaN A R s x) P + t) f l ≤ L ↔ 0 ≤ mayZ L l f ∧ needZ (decide (u 11 = nI 1)) L l f (hS (vaN A R s (fun _ => 0)) P + t) ≤ (hS (reN A R s x) P : Nat) := fun x => by
    have := re_va (A := A) (R := R) (s := s) (x := x) P
    rw [wg_may]
    unfold needZ
    by_cases c : decide (u 11 = nI 1) = true
    · rw [if_pos c, if_pos c]; omega
    · rw [if_neg c, if_neg c]; omega
  rw [e]
  constructor
  · rintro ⟨q1, q2⟩
    obtain ⟨x, hx, hc, hv⟩ := v4 q1
    rw [← hv, wx x] at q2
    exact ⟨q2.1, x, hx, hc, q2.2⟩
  · rintro ⟨m0, x, hx, hc, hn⟩
    have a := v3 _ ⟨x, hx, hc, rfl⟩
    have b := va_le (A := A) (R := R) (s := s) (x := x) P
    refine ⟨by omega, Int.le_trans (wgZ_mono (show v + t ≤ hS (vaN A R s x) P + t by omega)) ((wx x).mpr ⟨m0, hn⟩)⟩
def rmLT : Room := { frames := 20, cells := 0, slots := 0, locals := 600 }
theorem ag_of {u : Nat → Int32} {P : Nat} (hP : P ≤ 7) (ha : sdA P u) : ∃ A R : Nat → Nat, (∀ p, p < P → u (14 + p) = nI (A p) ∧ A p ≤ 99 ∧ u (28 + p) = nI (R p) ∧ R p ≤ 9) ∧ agR u P A (fun p => grN R p (A p)) R := by
  refine ⟨fun p => (u (14 + p)).toNatClampNeg, fun p => (u (28 + p)).toNatClampNeg, ?_, ?_⟩
  · intro p hp
    obtain ⟨a, h1, e1⟩ := ha.2.1 p hp
    obtain ⟨⟨g, h2, e2⟩, -⟩ := ha.2.2.2 p hp
    simp only []
    rw [e1, e2, nI_clamp (by omega), nI_clamp (by omega)]
    exact ⟨rfl, h1, rfl, h2⟩
  · intro p hp
    obtain ⟨a, h1, e1⟩ := ha.2.1 p hp
    obtain ⟨⟨g, h2, e2⟩, -⟩ := ha.2.2.2 p hp
    have em : midU u P (14 + p) = grownF u p (u (14 + p)) := by
      unfold midU
      rw [grw_in, if_pos ⟨hp, all_bit hp⟩]
    have eg := grown_gr (R := fun p => (u (28 + p)).toNatClampNeg) (u := u) (p := p) (a := a) (by rw [e2, nI_clamp (by omega)]) (by rw [e2, nI_clamp (by omega)]; exact h2) h1
    have ea : (u (14 + p)).toNatClampNeg = a := by rw [e1]; exact nI_clamp (by omega)
    have er : (u (28 + p)).toNatClampNeg = g := by rw [e2]; exact nI_clamp (by omega)
    simp only []
    rw [em, ea, er, e1, e2, eg]
    refine ⟨rfl, rfl, rfl, h1, gr_le, h2, fun h0 => ?_⟩
    unfold grN
    rw [if_neg h0]
    show min (a + (u (28 + p)).toNatClampNeg) 99 ≤ a + g
    rw [er]
    omega
theorem c_X4_leastThrown (w : Wd) (l : Launch) (S : St) (c ca cg cl ce P H s : Nat) (u M W : Nat → Int32) (h : pzS S c ca cg cl ce P H u) (hb : bdU P u) (ha : sdA P u) (hs : s < 128) : gx_M w l yX4_leastThrown cX4_leastThrown 6 (some .int) rmLT [.ref (ad (w_b w) 74), .int (nI s)] S (pI (ffF (lgK 0 u P H s (lgQ u P s M W).1) 700 0) S) := by
  obtain ⟨hk, hv, hc, hk5, hr, hm⟩ := id h
  have hP7 := hc.2.2
  have o74 : gx_o S 74 4 := o_st hk.1 rfl rfl
  have rc := hv.1
  have rr := hv.2.1
  have rm := hk.2.2.2.1
  have emid : ∀ j, j < 10 ∨ 28 ≤ j → midU u P j = u j := grw_e hP7
  obtain ⟨L, hL9, eL⟩ := id hb.1
  obtain ⟨f, lt, hf, hl, el, ef, hw⟩ := weigh_iv (s := s) hb (fogF 0 u H) (u 11)
  obtain ⟨t, ht, et⟩ := twos_n (s := s) hb hP7 P (Nat.le_refl P)
  obtain ⟨A, R, hAR, hg⟩ := ag_of hP7 ha
  have hA99 : ∀ p, p < P → A p ≤ 99 := fun p hp => (hAR p hp).2.1
  have hV := va_le (A := A) (R := R) (s := s) (x := fun _ => 0) P
  have efull : fwF (midU u P) s P P = nI (hS (vaN A R s (fun _ => 0)) P + t) := by
    rw [fw_eq (ha.1.u emid) P (Nat.le_refl P), aims_mid P (Nat.le_refl P), twos_ext emid, aims_va hAR P (Nat.le_refl P), et, nI_add]
  have hiff := fun k (hk : k < 700) => lgK_iff (A := A) (R := R) (s := s) (H := H) (M := M) (W := W) hP7 hAR eL hL9 et (by omega) hw hk
  have hfull : hS (vaN A R s (fun _ => 0)) P + t ≤ 2000 := by omega
  generalize hS (vaN A R s (fun _ => 0)) P + t = full at efull hiff hfull
  generalize hok : lgK 0 u P H s (lgQ u P s M W).1 = ok at hiff ⊢
  generalize hhalf : decide (u 11 = nI 1) = half at hiff
  refine gx_start rfl 4 rfl (Nat.le_of_ble_eq_true rfl) ?_
  intro X C _ hl
  subst hl
  refine gx_L (L' := [_, _, _, _, _, _]) rfl ?_
  have im : iv (nI (L + lt) - nI f) (mayZ L lt f) := iv_u (iv_sub (iv_n (by omega)) (iv_n (by omega)) (by omega) (by omega)) (by unfold mayZ; omega)
  have hmay : mayZ L lt f ≤ 99 + 20 * P ∧ -20 ≤ mayZ L lt f := by unfold mayZ; omega
  have i0 : iv 0 0 := iv_n (n := 0) (by omega)
  have hc0 := hc.u emid
  /- from the need on -/
  have fin : ∀ mf zf, iv mf zf → zf = (if half = true then 2 * mayZ L lt f + 1 else mayZ L lt f) → 0 ≤ mayZ L lt f → gx_G w X S 0 0 63 [some (.ref (ad (w_b w) 74)), some (.int (nI s)), some (.int (nI (L + lt) - nI f)), none, none, none] [.int mf] (gx_E w X (pI (ffF ok 700 0) S)) := by
    intro mf zf hmf ezf hm0
    have hzf : zf ≤ 1000 ∧ 0 ≤ zf := by
      rw [ezf]
      split <;> omega
    have eneed : needZ half L lt f full = (full : Int) - zf := by unfold needZ; rw [ezf]
    have ind : iv (nI full - mf) (needZ half L lt f full) := by rw [eneed]; exact iv_sub (iv_n (by omega)) hmf (by omega) (by omega)
    have hans := lg_least (A := A) (R := R) (s := s) hP7 hA99 (need := needZ half L lt f full) (ok := ok) (fun k hk => (hiff k hk).trans ⟨fun z => z.2, fun z => ⟨hm0, z⟩⟩)
    refine g_istore_n (pc := 63) (L' := [_, _, some (.int _), _, _, _]) C dX4_leastThrown_63 rfl rfl ?_
    refine g_aload_n (pc := 64) C dX4_leastThrown_64 rfl ?_
    refine fgr_X4_21 (pc := 65) C (by exact o74.1) (zk (by exact o74.2)) (by exact rm) dX4_leastThrown_65 ?_
    refine g_aload_n (pc := 68) C dX4_leastThrown_68 rfl ?_
    refine fgr_X4_41 (pc := 69) C (by exact o74.1) (zk (by exact o74.2)) (by exact rc) dX4_leastThrown_69 ?_
    refine g_iload_n (pc := 72) C dX4_leastThrown_72 rfl ?_
    refine cf_X4_102 (pc := 73) C (by exact hm.1.1.1) (zk (by exact hm.1.1.2)) (c_X6_fullWeight _ _ S c ca cg cl ce 77 78 P (midU u P) hc0 hm s hs) ⟨rfl, rfl⟩ ⟨rfl, rfl⟩ ⟨Nat.zero_le _, Nat.zero_le _⟩ rfl (Nat.le_of_ble_eq_true rfl) dX4_leastThrown_73 ?_
    refine gx_ti (y := nI full) efull ?_
    refine g_iload_n (pc := 76) C dX4_leastThrown_76 rfl ?_
    refine g_isub (pc := 77) C dX4_leastThrown_77 ?_
    refine g_istore (pc := 78) (L' := [_, _, _, some (.int _), _, _]) C dX4_leastThrown_78 rfl rfl ?_
    refine g_iload (pc := 80) C dX4_leastThrown_80 rfl ?_
    have last : ∀ q, q ≤ 1000000 → ffF ok 700 0 = (if q < 1000000 then nI q else -2) → gx_G w X S 0 0 99 [some (.ref (ad (w_b w) 74)), some (.int (nI s)), some (.int (nI (L + lt) - nI f)), some (.int mf), some (.int (nI full - mf)), none] [.int (nI q)] (gx_E w X (pI (ffF ok 700 0) S)) := by
      intro q hq e
      refine g_istore (pc := 99) (L' := [_, _, _, _, some (.int _), _]) C dX4_leastThrown_99 rfl rfl ?_
      refine g_iload (pc := 101) C dX4_leastThrown_101 rfl ?_
      refine g_ldc (pc := 103) (v := 1000000) C dX4_leastThrown_103 kc_X4_110 ?_
      refine g_icmp_ge (pc := 105) C 113 dX4_leastThrown_105 rfl (fun c3 => ?_) (fun c3 => ?_)
      · have c3 : nI 1000000 ≤ nI q := c3
        have c3 : ¬ q < 1000000 := fun z => absurd c3 (nI_ge z (by omega))
        rw [if_neg c3] at e
        refine g_bipush (pc := 113) (v := -2) C dX4_leastThrown_113 (by decide) ?_
        exact g_ireturn (pc := 115) C ⟨rfl, rfl⟩ dX4_leastThrown_115 ⟨by rw [e], rfl⟩
      · have c3 : ¬ nI 1000000 ≤ nI q := c3
        have c3 : q < 1000000 := Nat.lt_of_not_le (fun z => c3 (nI_le z (by omega)))
        rw [if_pos c3] at e
        refine g_iload (pc := 108) C dX4_leastThrown_108 rfl ?_
        refine g_goto (pc := 110) C 115 dX4_leastThrown_110 rfl ?_
        exact g_ireturn (pc := 115) C ⟨rfl, rfl⟩ dX4_leastThrown_115 ⟨by rw [e], rfl⟩
    refine g_if_gt (pc := 82) C 89 dX4_leastThrown_82 rfl (fun c2 => ?_) (fun c2 => ?_)
    · have c2 := (iv_lt i0 ind).mp c2
      rw [if_neg (by omega)] at hans
      have hle := lf_le (A := A) (G := fun p => grN R p (A p)) (R := R) (s := s) hA99 P (needZ half L lt f full) 0 0 (Nat.le_refl P) (by omega) (by omega)
      refine g_aload_n (pc := 89) C dX4_leastThrown_89 rfl ?_
      refine g_iconst (pc := 90) (v := nI 0) C dX4_leastThrown_90 (by decide) ?_
      refine g_iload_n (pc := 91) C dX4_leastThrown_91 rfl ?_
      refine g_iload (pc := 92) C dX4_leastThrown_92 rfl ?_
      refine g_iconst (pc := 94) (v := nI 0) C dX4_leastThrown_94 (by decide) ?_
      refine g_iconst (pc := 95) (v := nI 0) C dX4_leastThrown_95 (by decide) ?_
      refine cf_X4_106 (pc := 96) C (by exact o74.1) (zk (by exact o74.2)) (c_X4_leastFrom _ _ S c ca cg cl ce P H s u A (fun p => grN R p (A p)) R h hg hs P 0 _ (needZ half L lt f full) 0 0 (by omega) ind (by omega) (by omega) (by omega) (by omega)) ⟨Nat.ble_eq_true_of_le (by simp only [rmL, rmLT]; omega), Nat.ble_eq_true_of_le (by simp only [rmL, rmLT]; omega)⟩ ⟨rfl, rfl⟩ ⟨Nat.zero_le _, Nat.zero_le _⟩ rfl (Nat.le_of_ble_eq_true rfl) dX4_leastThrown_96 ?_
      exact last _ hle hans
    · have c2 : ¬ (0 : Int) < needZ half L lt f full := fun z => c2 ((iv_lt i0 ind).mpr z)
      rw [if_pos (by omega)] at hans
      refine g_iconst (pc := 85) (v := nI 0) C dX4_leastThrown_85 (by decide) ?_
      refine g_goto (pc := 86) C 99 dX4_leastThrown_86 rfl ?_
      exact last 0 (by omega) (by rw [hans, if_pos (by omega)])
  have cont : gx_G w X S 0 0 34 [some (.ref (ad (w_b w) 74)), some (.int (nI s)), none, none, none, none] [.int (nI f), .int (nI (L + lt))] (gx_E w X (pI (ffF ok 700 0) S)) := by
    refine g_isub (pc := 34) C dX4_leastThrown_34 ?_
    refine g_istore_n (pc := 35) (L' := [_, some (.int _), _, _, _, _]) C dX4_leastThrown_35 rfl rfl ?_
    refine g_iload_n (pc := 36) C dX4_leastThrown_36 rfl ?_
    refine g_if_ge (pc := 37) C 43 dX4_leastThrown_37 rfl (fun c1 => ?_) (fun c1 => ?_)
    · have c1 := (iv_le i0 im).mp c1
      refine g_aload_n (pc := 43) C dX4_leastThrown_43 rfl ?_
      refine fgr_X4_45 (pc := 44) C (by exact o74.1) (zk (by exact o74.2)) (by exact rr) dX4_leastThrown_44 ?_
      refine fg_X4_99 (pc := 47) C (by exact hr.1.1.1) (zk (by exact hr.1.1.2)) dX4_leastThrown_47 ?_
      refine gx_ti (y := u 11) hr.2.1.2.1 ?_
      refine g_iconst (pc := 50) (v := nI 1) C dX4_leastThrown_50 (by decide) ?_
      by_cases hB : u 11 = nI 1
      · have hh : half = true := by rw [← hhalf]; exact decide_eq_true hB
        refine g_icmp_ne (pc := 51) C 62 dX4_leastThrown_51 rfl (fun c2 => ?_) (fun c2 => ?_)
        · exact absurd hB c2
        · refine g_iconst (pc := 54) (v := nI 2) C dX4_leastThrown_54 (by decide) ?_
          refine g_iload_n (pc := 55) C dX4_leastThrown_55 rfl ?_
          refine g_imul (pc := 56) C dX4_leastThrown_56 ?_
          refine g_iconst (pc := 57) (v := nI 1) C dX4_leastThrown_57 (by decide) ?_
          refine g_iadd (pc := 58) C dX4_leastThrown_58 ?_
          refine g_goto (pc := 59) C 63 dX4_leastThrown_59 rfl ?_
          refine fin _ (2 * mayZ L lt f + 1) (iv_add (iv_mul (iv_n (n := 2) (by omega)) im (by omega) (by omega)) (iv_n (n := 1) (by omega)) (by omega) (by omega)) (by rw [if_pos hh]) c1
      · have hh : ¬ half = true := by rw [← hhalf]; exact fun z => hB (of_decide_eq_true z)
        refine g_icmp_ne (pc := 51) C 62 dX4_leastThrown_51 rfl (fun c2 => ?_) (fun c2 => ?_)
        · refine g_iload_n (pc := 62) C dX4_leastThrown_62 rfl ?_
          exact fin _ (mayZ L lt f) im (by rw [if_neg hh]) c1
        · exact absurd (Decidable.not_not.mp c2) hB
    · have c1 : ¬ (0 : Int) ≤ mayZ L lt f := fun z => c1 ((iv_le i0 im).mpr z)
      have e : ffF ok 700 0 = -2 := by
        rcases ff_spec (ok := ok) 700 0 with ⟨k, -, k2, k3, -, -⟩ | ⟨-, k2⟩
        · exact absurd ((hiff k (by omega)).mp k3).1 c1
        · exact k2
      refine g_bipush (pc := 40) (v := -2) C dX4_leastThrown_40 (by decide) ?_
      exact g_ireturn (pc := 42) C ⟨rfl, rfl⟩ dX4_leastThrown_42 ⟨by rw [e], rfl⟩
  refine g_aload_n (pc := 0) C dX4_leastThrown_0 rfl ?_
  refine fgr_X4_41 (pc := 1) C (by exact o74.1) (zk (by exact o74.2)) (by exact rc) dX4_leastThrown_1 ?_
  refine fg_X4_91 (pc := 4) C (by exact hc.1.1.1) (zk (by exact hc.1.1.2)) dX4_leastThrown_4 ?_
  refine gx_ti (y := nI L) (hc.2.1.2.1.trans eL) ?_
  refine g_aload_n (pc := 7) C dX4_leastThrown_7 rfl ?_
  refine fgr_X4_41 (pc := 8) C (by exact o74.1) (zk (by exact o74.2)) (by exact rc) dX4_leastThrown_8 ?_
  refine g_iload_n (pc := 11) C dX4_leastThrown_11 rfl ?_
  refine cf_X4_94 (pc := 12) C (by exact hc.1.1.1) (zk (by exact hc.1.1.2)) (c_X0_lightOf _ _ S c ca cg cl ce P u hc s hs) ⟨rfl, rfl⟩ ⟨rfl, rfl⟩ ⟨Nat.zero_le _, Nat.zero_le _⟩ rfl (Nat.le_of_ble_eq_true rfl) dX4_leastThrown_12 ?_
  refine gx_ti (y := nI lt) el ?_
  refine g_iadd (pc := 15) C dX4_leastThrown_15 ?_
  refine gx_ti (y := nI (L + lt)) (nI_add _ _) ?_
  refine g_aload_n (pc := 16) C dX4_leastThrown_16 rfl ?_
  refine fg_X4_50 (pc := 17) C (by exact o74.1) (zk (by exact o74.2)) dX4_leastThrown_17 ?_
  refine gx_ti hv.2.2.1 ?_
  by_cases hfg : fogF 0 u H
  · rw [bI_t hfg]
    rw [if_pos hfg] at ef
    refine g_if_eq (pc := 20) C 33 dX4_leastThrown_20 rfl (fun c1 => ?_) (fun c1 => ?_)
    · exact absurd c1 (by decide)
    · refine g_aload_n (pc := 23) C dX4_leastThrown_23 rfl ?_
      refine fgr_X4_41 (pc := 24) C (by exact o74.1) (zk (by exact o74.2)) (by exact rc) dX4_leastThrown_24 ?_
      refine fg_X4_97 (pc := 27) C (by exact hc.1.1.1) (zk (by exact hc.1.1.2)) dX4_leastThrown_27 ?_
      refine gx_ti (hc.2.1.2.2.2.1.trans ef) ?_
      refine g_goto (pc := 30) C 34 dX4_leastThrown_30 rfl ?_
      exact cont
  · rw [bI_f hfg]
    rw [if_neg hfg] at ef
    refine g_if_eq (pc := 20) C 33 dX4_leastThrown_20 rfl (fun c1 => ?_) (fun c1 => ?_)
    · refine g_iconst (pc := 33) (v := nI 0) C dX4_leastThrown_33 (by decide) ?_
      refine gx_ti ef ?_
      exact cont
    · exact absurd rfl c1
