/-! ===== the reference: takesOne ===== -/
def mnI (a b : Int32) : Int32 := if a < b then a else b
abbrev tkC (aim Mk : Int32) (k t : Nat) : Prop := nI t ≤ aim ∧ k + t < 700 ∧ Mk < nI 9999
def tkI (g : Int32 → Int32) (aim Mk : Int32) (k : Nat) (W : Nat → Int32) : Nat → Nat → Int32
  | 0 => W
  | t + 1 => if tkC aim Mk k t then upd (tkI g aim Mk k W t) (k + t) (mnI (Mk + g (aim - nI t)) (tkI g aim Mk k W t (k + t))) else tkI g aim Mk k W t
theorem tkI_stop {g : Int32 → Int32} {aim Mk : Int32} {k : Nat} {W : Nat → Int32} {t : Nat} (h : ¬ tkC aim Mk k t) : ∀ d, t + d ≤ 1000 → tkI g aim Mk k W (t + d) = tkI g aim Mk k W t
  | 0, _ => rfl
  | d + 1, hd => by
    have ih := tkI_stop (g := g) (W := W) h d (by omega)
    show (if tkC aim Mk k (t + d) then _ else tkI g aim Mk k W (t + d)) = _
    rw [if_neg (fun q => h ⟨Int32.le_trans (nI_le (by omega) (by omega)) q.1, by omega, q.2.2⟩), ih]
def fil9 (W : Nat → Int32) (i : Nat) : Nat → Int32 := fun j => if j < i then nI 9999 else W j
theorem fil9_0 {W : Nat → Int32} : fil9 W 0 = W := by
  funext j; unfold fil9; rw [if_neg (by omega)]
theorem fil9_s {W : Nat → Int32} {i : Nat} : upd (fil9 W i) i (nI 9999) = fil9 W (i + 1) := by
  funext j
  show (if j = i then nI 9999 else if j < i then nI 9999 else W j) = (if j < i + 1 then nI 9999 else W j)
  by_cases e : j = i
  · rw [if_pos e, if_pos (by omega)]
  · rw [if_neg e]
    by_cases e2 : j < i
    · rw [if_pos e2, if_pos (by omega)]
    · rw [if_neg e2, if_neg (by omega)]
def tkK (g : Int32 → Int32) (aim : Int32) (M W : Nat → Int32) : Nat → Nat → Int32
  | 0 => fil9 W 700
  | k + 1 => tkI g aim (M k) k (tkK g aim M W k) 700
def tk1 (g : Int32 → Int32) (aim : Int32) (q : (Nat → Int32) × (Nat → Int32)) : (Nat → Int32) × (Nat → Int32) := (va_cpy (tkK g aim q.1 q.2 700) q.1 0 0 700, tkK g aim q.1 q.2 700)
def lwS (S : St) (M W : Nat → Int32) : St := s_setA (s_setA S 1013 M) 1014 W
theorem lw_M (S : St) (M M2 W : Nat → Int32) : s_setA (lwS S M W) 1013 M2 = lwS S M2 W := by
  unfold lwS; rw [s_AA2 _ 1014 1013 _ _ (by decide), s_AA]
theorem lw_W (S : St) (M W W2 : Nat → Int32) : s_setA (lwS S M W) 1014 W2 = lwS S M W2 := by
  unfold lwS; rw [s_AA]
theorem lw_rM (S : St) (M W : Nat → Int32) : s_A (lwS S M W) 1013 = M := rfl
theorem lw_rW (S : St) (M W : Nat → Int32) : s_A (lwS S M W) 1014 = W := rfl
theorem c_X12_takesOne (w : Wd) (l : Launch) (S : St) (hm : gx_m S) (M W : Nat → Int32) (p : Nat) (hp : p < 7) : gx_M w l yX12_takesOne cX12_takesOne 6 none rmX12_takesOne [.ref (ad (w_b w) 1000), .int (nI p)] (lwS S M W) (pV (lwS S (tk1 (grownF (s_A S 1010) p) (s_A S 1010 (14 + p)) (M, W)).1 (tk1 (grownF (s_A S 1010) p) (s_A S 1010 (14 + p)) (M, W)).2)) := by
  have hmA : ∀ M W, gx_m (lwS S M W) := fun M W => hm
  generalize hq : pV (lwS S (tk1 (grownF (s_A S 1010) p) (s_A S 1010 (14 + p)) (M, W)).1 (tk1 (grownF (s_A S 1010) p) (s_A S 1010 (14 + p)) (M, W)).2) = post
  refine gx_start rfl 4 rfl (Nat.le_of_ble_eq_true rfl) ?_
  intro X C _ hl
  subst hl
  refine gx_L (L' := [_, _, _, _, _, _]) rfl ?_
  refine g_iconst (pc := 0) (v := nI 0) C dX12_takesOne_0 (by decide) ?_
  refine g_istore_n (pc := 1) (L' := [_, some (.int _), _, _, _, _]) C dX12_takesOne_1 rfl rfl ?_
  have hg : ∀ x, grownF (s_A S 1010) p x = grownF (s_A S 1010) p x := fun x => rfl
  generalize hgr : grownF (s_A S 1010) p = g at hq
  generalize haim : s_A S 1010 (14 + p) = aim at hq
  have last : ∀ d i z4 z5, i + d = 700 → gx_G w X (lwS S (va_cpy (tkK g aim M W 700) M 0 0 i) (tkK g aim M W 700)) 0 0 143 [some (.ref (ad (w_b w) 1000)), some (.int (nI p)), some (.int aim), some (.int (nI i)), z4, z5] [] (gx_E w X post) := by
    intro d
    induction d with
    | zero =>
      intro i z4 z5 hi
      have hi : i = 700 := hi
      subst hi
      refine g_iload_n (pc := 143) C dX12_takesOne_143 rfl ?_
      refine g_sipush (pc := 144) (v := nI 700) C dX12_takesOne_144 (by decide) ?_
      refine g_icmp_ge (pc := 147) C 168 dX12_takesOne_147 rfl (fun h => ?_) (fun h => ?_)
      · rw [← hq]
        exact g_return (pc := 168) C ⟨rfl, rfl⟩ dX12_takesOne_168 ⟨rfl, rfl⟩
      · exact absurd (nI_le (Nat.le_refl 700) (by omega)) h
    | succ d ih =>
      intro i z4 z5 hi
      refine g_iload_n (pc := 143) C dX12_takesOne_143 rfl ?_
      refine g_sipush (pc := 144) (v := nI 700) C dX12_takesOne_144 (by decide) ?_
      refine g_icmp_ge (pc := 147) C 168 dX12_takesOne_147 rfl (fun h => ?_) (fun h => ?_)
      · exact absurd h (nI_ge (by omega) (by omega))
      · refine g_aload_n (pc := 150) C dX12_takesOne_150 rfl ?_
        refine mg_52 (pc := 151) C (hmA _ _) dX12_takesOne_151 ?_
        refine g_iload_n (pc := 154) C dX12_takesOne_154 rfl ?_
        refine g_aload_n (pc := 155) C dX12_takesOne_155 rfl ?_
        refine mg_55 (pc := 156) C (hmA _ _) dX12_takesOne_156 ?_
        refine g_iload_n (pc := 159) C dX12_takesOne_159 rfl ?_
        refine n_iald (pc := 160) (k := 1014) (n := 700) C rfl rfl (m_z (hmA _ _) rfl) isn_v rfl (by omega) dX12_takesOne_160 ?_
        refine n_iast (pc := 161) (k := 1013) (n := 700) C rfl rfl (m_z (hmA _ _) rfl) isn_v rfl (by omega) dX12_takesOne_161 ?_
        refine gx_S (S' := lwS S (va_cpy (tkK g aim M W 700) M 0 0 (i + 1)) (tkK g aim M W 700)) ?_ ?_
        · rw [lw_rM, lw_rW, lw_M]
          have := cpy_step (f := tkK g aim M W 700) (g := M) (sp := 0) (dp := 0) (n := i)
          rw [Nat.zero_add] at this
          rw [this]
        refine g_iinc (pc := 162) (L' := [_, _, some (.int _), _, _, _]) C dX12_takesOne_162 rfl (nI_1 _) rfl ?_
        refine g_goto (pc := 165) C 143 dX12_takesOne_165 rfl ?_
        exact ih (i + 1) _ _ (by omega)
  have main : ∀ d k z4 z5, k + d = 700 → gx_G w X (lwS S M (tkK g aim M W k)) 0 0 36 [some (.ref (ad (w_b w) 1000)), some (.int (nI p)), some (.int aim), some (.int (nI k)), z4, z5] [] (gx_E w X post) := by
    intro d
    induction d with
    | zero =>
      intro k z4 z5 hk
      have hk : k = 700 := hk
      subst hk
      refine g_iload_n (pc := 36) C dX12_takesOne_36 rfl ?_
      refine g_sipush (pc := 37) (v := nI 700) C dX12_takesOne_37 (by decide) ?_
      refine g_icmp_ge (pc := 40) C 141 dX12_takesOne_40 rfl (fun h => ?_) (fun h => ?_)
      · refine g_iconst (pc := 141) (v := nI 0) C dX12_takesOne_141 (by decide) ?_
        refine g_istore_n (pc := 142) (L' := [_, _, some (.int _), _, _, _]) C dX12_takesOne_142 rfl rfl ?_
        refine gx_S ?_ (last 700 0 _ _ rfl)
        rw [cpy_0]
      · exact absurd (nI_le (Nat.le_refl 700) (by omega)) h
    | succ d ih =>
      intro k z4 z5 hk
      refine g_iload_n (pc := 36) C dX12_takesOne_36 rfl ?_
      refine g_sipush (pc := 37) (v := nI 700) C dX12_takesOne_37 (by decide) ?_
      refine g_icmp_ge (pc := 40) C 141 dX12_takesOne_40 rfl (fun h => ?_) (fun h => ?_)
      · exact absurd h (nI_ge (by omega) (by omega))
      · refine g_iconst (pc := 43) (v := nI 0) C dX12_takesOne_43 (by decide) ?_
        refine g_istore (pc := 44) (L' := [_, _, _, some (.int _), _, _]) C dX12_takesOne_44 rfl rfl ?_
        have stop : ∀ t z5, t ≤ 700 → ¬ tkC aim (M k) k t → gx_G w X (lwS S M (tkI g aim (M k) k (tkK g aim M W k) t)) 0 0 135 [some (.ref (ad (w_b w) 1000)), some (.int (nI p)), some (.int aim), some (.int (nI k)), some (.int (nI t)), z5] [] (gx_E w X post) := by
          intro t z5 ht hno
          refine g_iinc (pc := 135) (L' := [_, _, some (.int _), _, _, _]) C dX12_takesOne_135 rfl (nI_1 _) rfl ?_
          refine g_goto (pc := 138) C 36 dX12_takesOne_138 rfl ?_
          have := ih (k + 1) (some (.int (nI t))) z5 (by omega)
          rw [show tkK g aim M W (k + 1) = tkI g aim (M k) k (tkK g aim M W k) (t + (700 - t)) from by rw [show t + (700 - t) = 700 by omega]; rfl, tkI_stop hno (700 - t) (by omega)] at this
          exact this
        have inner : ∀ e t z5, t + e = 701 → k + t ≤ 700 → gx_G w X (lwS S M (tkI g aim (M k) k (tkK g aim M W k) t)) 0 0 46 [some (.ref (ad (w_b w) 1000)), some (.int (nI p)), some (.int aim), some (.int (nI k)), some (.int (nI t)), z5] [] (gx_E w X post) := by
          intro e
          induction e with
          | zero => intro t z5 ht hkt; exact absurd hkt (by omega)
          | succ e eh =>
            intro t z5 ht hkt
            refine g_iload (pc := 46) C dX12_takesOne_46 rfl ?_
            refine g_iload_n (pc := 48) C dX12_takesOne_48 rfl ?_
            refine g_icmp_gt (pc := 49) C 135 dX12_takesOne_49 rfl (fun h1 => ?_) (fun h1 => ?_)
            · exact stop t _ (by omega) (fun q => absurd h1 (Int32.not_lt.mpr q.1))
            · have h1 := Int32.not_lt.mp h1
              refine g_iload_n (pc := 52) C dX12_takesOne_52 rfl ?_
              refine g_iload (pc := 53) C dX12_takesOne_53 rfl ?_
              refine g_iadd (pc := 55) C dX12_takesOne_55 ?_
              refine gx_ti (nI_add k t) ?_
              refine g_sipush (pc := 56) (v := nI 700) C dX12_takesOne_56 (by decide) ?_
              refine g_icmp_ge (pc := 59) C 135 dX12_takesOne_59 rfl (fun h2 => ?_) (fun h2 => ?_)
              · exact stop t _ (by omega) (fun q => absurd ((nI_leI (a := 700) (b := k + t) (by omega) (by omega)).mp h2) (by omega))
              · have h2 : k + t < 700 := Nat.lt_of_not_le (fun q => h2 (nI_le q (by omega)))
                refine g_aload_n (pc := 62) C dX12_takesOne_62 rfl ?_
                refine mg_52 (pc := 63) C (hmA _ _) dX12_takesOne_63 ?_
                refine g_iload_n (pc := 66) C dX12_takesOne_66 rfl ?_
                refine n_iald (pc := 67) (k := 1013) (n := 700) C rfl rfl (m_z (hmA _ _) rfl) isn_v rfl (by omega) dX12_takesOne_67 ?_
                refine gx_ti (y := M k) rfl ?_
                refine g_sipush (pc := 68) (v := nI 9999) C dX12_takesOne_68 (by decide) ?_
                refine g_icmp_ge (pc := 71) C 135 dX12_takesOne_71 rfl (fun h3 => ?_) (fun h3 => ?_)
                · exact stop t _ (by omega) (fun q => absurd q.2.2 (Int32.not_lt.mpr h3))
                · have h3 := Int32.not_le.mp h3
                  have hc : tkC aim (M k) k t := ⟨h1, h2, h3⟩
                  have st : ∀ v z5, v = mnI (M k + g (aim - nI t)) (tkI g aim (M k) k (tkK g aim M W k) t (k + t)) → gx_G w X (lwS S M (tkI g aim (M k) k (tkK g aim M W k) t)) 0 0 128 [some (.ref (ad (w_b w) 1000)), some (.int (nI p)), some (.int aim), some (.int (nI k)), some (.int (nI t)), z5] [.int v, .int (nI k + nI t), .ref (ad (w_b w) 1014)] (gx_E w X post) := by
                    intro v z5 hv
                    refine n_iast (pc := 128) (k := 1014) (n := 700) C rfl rfl (m_z (hmA _ _) rfl) (isn_add isn_v isn_v) rfl (by omega) dX12_takesOne_128 ?_
                    refine gx_S (S' := lwS S M (tkI g aim (M k) k (tkK g aim M W k) (t + 1))) ?_ ?_
                    · rw [lw_rW, lw_W, hv, show tkI g aim (M k) k (tkK g aim M W k) (t + 1) = _ from if_pos hc]
                    refine g_iinc (pc := 129) (L' := [_, _, _, some (.int _), _, _]) C dX12_takesOne_129 rfl (nI_1 _) rfl ?_
                    refine g_goto (pc := 132) C 46 dX12_takesOne_132 rfl ?_
                    exact eh (t + 1) _ (by omega) (by omega)
                  refine g_aload_n (pc := 74) C dX12_takesOne_74 rfl ?_
                  refine mg_52 (pc := 75) C (hmA _ _) dX12_takesOne_75 ?_
                  refine g_iload_n (pc := 78) C dX12_takesOne_78 rfl ?_
                  refine n_iald (pc := 79) (k := 1013) (n := 700) C rfl rfl (m_z (hmA _ _) rfl) isn_v rfl (by omega) dX12_takesOne_79 ?_
                  refine gx_ti (y := M k) rfl ?_
                  refine g_aload_n (pc := 80) C dX12_takesOne_80 rfl ?_
                  refine g_iload_n (pc := 81) C dX12_takesOne_81 rfl ?_
                  refine g_iload_n (pc := 82) C dX12_takesOne_82 rfl ?_
                  refine g_iload (pc := 83) C dX12_takesOne_83 rfl ?_
                  refine g_isub (pc := 85) C dX12_takesOne_85 ?_
                  refine cf_X12_311 (pc := 86) C rfl (m_z (hmA _ _) rfl) (c_X12_grown _ _ _ (hmA _ _) p hp _) ⟨rfl, rfl⟩ ⟨rfl, rfl⟩ ⟨Nat.zero_le _, Nat.zero_le _⟩ rfl (Nat.le_of_ble_eq_true rfl) dX12_takesOne_86 ?_
                  refine gx_ti (y := g (aim - nI t)) (by rw [← hgr]; rfl) ?_
                  refine g_iadd (pc := 89) C dX12_takesOne_89 ?_
                  refine g_istore (pc := 90) (L' := [_, _, _, _, some (.int _), _]) C dX12_takesOne_90 rfl rfl ?_
                  refine g_aload_n (pc := 92) C dX12_takesOne_92 rfl ?_
                  refine mg_55 (pc := 93) C (hmA _ _) dX12_takesOne_93 ?_
                  refine g_iload_n (pc := 96) C dX12_takesOne_96 rfl ?_
                  refine g_iload (pc := 97) C dX12_takesOne_97 rfl ?_
                  refine g_iadd (pc := 99) C dX12_takesOne_99 ?_
                  refine g_iload (pc := 100) C dX12_takesOne_100 rfl ?_
                  refine g_aload_n (pc := 102) C dX12_takesOne_102 rfl ?_
                  refine mg_55 (pc := 103) C (hmA _ _) dX12_takesOne_103 ?_
                  refine g_iload_n (pc := 106) C dX12_takesOne_106 rfl ?_
                  refine g_iload (pc := 107) C dX12_takesOne_107 rfl ?_
                  refine g_iadd (pc := 109) C dX12_takesOne_109 ?_
                  refine n_iald (pc := 110) (k := 1014) (n := 700) C rfl rfl (m_z (hmA _ _) rfl) (isn_add isn_v isn_v) rfl (by omega) dX12_takesOne_110 ?_
                  refine gx_ti (y := tkI g aim (M k) k (tkK g aim M W k) t (k + t)) rfl ?_
                  refine g_icmp_ge (pc := 111) C 119 dX12_takesOne_111 rfl (fun h4 => ?_) (fun h4 => ?_)
                  · refine g_aload_n (pc := 119) C dX12_takesOne_119 rfl ?_
                    refine mg_55 (pc := 120) C (hmA _ _) dX12_takesOne_120 ?_
                    refine g_iload_n (pc := 123) C dX12_takesOne_123 rfl ?_
                    refine g_iload (pc := 124) C dX12_takesOne_124 rfl ?_
                    refine g_iadd (pc := 126) C dX12_takesOne_126 ?_
                    refine n_iald (pc := 127) (k := 1014) (n := 700) C rfl rfl (m_z (hmA _ _) rfl) (isn_add isn_v isn_v) rfl (by omega) dX12_takesOne_127 ?_
                    refine gx_ti (y := tkI g aim (M k) k (tkK g aim M W k) t (k + t)) rfl ?_
                    exact st _ _ (by unfold mnI; rw [if_neg (Int32.not_lt.mpr h4)])
                  · refine g_iload (pc := 114) C dX12_takesOne_114 rfl ?_
                    refine g_goto (pc := 116) C 128 dX12_takesOne_116 rfl ?_
                    exact st _ _ (by unfold mnI; rw [if_pos (Int32.not_le.mp h4)])
        exact inner 701 0 _ (by omega) (by omega)
  have fill : ∀ d i, i + d = 700 → gx_G w X (lwS S M (fil9 W i)) 0 0 2 [some (.ref (ad (w_b w) 1000)), some (.int (nI p)), some (.int (nI i)), none, none, none] [] (gx_E w X post) := by
    intro d
    induction d with
    | zero =>
      intro i hi
      have hi : i = 700 := hi
      subst hi
      refine g_iload_n (pc := 2) C dX12_takesOne_2 rfl ?_
      refine g_sipush (pc := 3) (v := nI 700) C dX12_takesOne_3 (by decide) ?_
      refine g_icmp_ge (pc := 6) C 24 dX12_takesOne_6 rfl (fun h => ?_) (fun h => ?_)
      · refine g_aload_n (pc := 24) C dX12_takesOne_24 rfl ?_
        refine mg_39 (pc := 25) C (hmA _ _) dX12_takesOne_25 ?_
        refine g_bipush (pc := 28) (v := nI 14) C dX12_takesOne_28 (by decide) ?_
        refine g_iload_n (pc := 30) C dX12_takesOne_30 rfl ?_
        refine g_iadd (pc := 31) C dX12_takesOne_31 ?_
        refine n_iald (pc := 32) (k := 1010) (n := 190) C rfl rfl (m_z (hmA _ _) rfl) (isn_add isn_v isn_v) rfl (by omega) dX12_takesOne_32 ?_
        refine gx_ti (y := aim) haim ?_
        refine g_istore_n (pc := 33) (L' := [_, some (.int _), _, _, _, _]) C dX12_takesOne_33 rfl rfl ?_
        refine g_iconst (pc := 34) (v := nI 0) C dX12_takesOne_34 (by decide) ?_
        refine g_istore_n (pc := 35) (L' := [_, _, some (.int _), _, _, _]) C dX12_takesOne_35 rfl rfl ?_
        exact main 700 0 _ _ rfl
      · exact absurd (nI_le (Nat.le_refl 700) (by omega)) h
    | succ d ih =>
      intro i hi
      refine g_iload_n (pc := 2) C dX12_takesOne_2 rfl ?_
      refine g_sipush (pc := 3) (v := nI 700) C dX12_takesOne_3 (by decide) ?_
      refine g_icmp_ge (pc := 6) C 24 dX12_takesOne_6 rfl (fun h => ?_) (fun h => ?_)
      · exact absurd h (nI_ge (by omega) (by omega))
      · refine g_aload_n (pc := 9) C dX12_takesOne_9 rfl ?_
        refine mg_55 (pc := 10) C (hmA _ _) dX12_takesOne_10 ?_
        refine g_iload_n (pc := 13) C dX12_takesOne_13 rfl ?_
        refine g_sipush (pc := 14) (v := nI 9999) C dX12_takesOne_14 (by decide) ?_
        refine n_iast (pc := 17) (k := 1014) (n := 700) C rfl rfl (m_z (hmA _ _) rfl) isn_v rfl (by omega) dX12_takesOne_17 ?_
        refine gx_S (S' := lwS S M (fil9 W (i + 1))) (by rw [lw_rW, lw_W, fil9_s]) ?_
        refine g_iinc (pc := 18) (L' := [_, some (.int _), _, _, _, _]) C dX12_takesOne_18 rfl (nI_1 _) rfl ?_
        refine g_goto (pc := 21) C 2 dX12_takesOne_21 rfl ?_
        exact ih (i + 1) (by omega)
  refine gx_S ?_ (fill 700 0 rfl)
  rw [fil9_0]
