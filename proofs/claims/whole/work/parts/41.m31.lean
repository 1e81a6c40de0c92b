/-! ===== the reference: lighten ===== -/
def lg0 (M : Nat → Int32) (i : Nat) : Nat → Int32 := fun j => if j < i then (if j = 0 then nI 0 else nI 9999) else M j
theorem lg0_0 {M : Nat → Int32} : lg0 M 0 = M := by
  funext j; unfold lg0; rw [if_neg (by omega)]
theorem lg0_s {M : Nat → Int32} {i : Nat} {v : Int32} (hv : v = if i = 0 then nI 0 else nI 9999) : upd (lg0 M i) i v = lg0 M (i + 1) := by
  funext j
  show (if j = i then v else if j < i then (if j = 0 then nI 0 else nI 9999) else M j) = (if j < i + 1 then (if j = 0 then nI 0 else nI 9999) else M j)
  by_cases e : j = i
  · rw [if_pos e, if_pos (show j < i + 1 by omega), hv, e]
  · rw [if_neg e]
    by_cases e2 : j < i
    · rw [if_pos e2, if_pos (show j < i + 1 by omega)]
    · rw [if_neg e2, if_neg (show ¬ j < i + 1 by omega)]
def lgF (said : Nat → Int32) (s : Nat) (q : (Nat → Int32) × (Nat → Int32)) : Nat → (Nat → Int32) × (Nat → Int32)
  | 0 => q
  | p + 1 => if s.testBit p = true then tk1 (grownF said p) (said (14 + p)) (lgF said s q p) else lgF said s q p
def ffF (ok : Nat → Bool) : Nat → Nat → Int32
  | 0, _ => -2
  | d + 1, i => if ok i = true then nI i else ffF ok d (i + 1)
def lgK (drawn : Int32) (said : Nat → Int32) (P H s : Nat) (M : Nat → Int32) (k : Nat) : Bool := decide (M k < nI 9999 ∧ weighF said P (fogF drawn said H) (M k + twosF said s P P) s (said 11) ≤ said 1)
abbrev lgOK (said : Nat → Int32) (P : Nat) (x : Int32) : Prop := (said 0 = nI 1 ∧ 0 ≤ x ∧ x < nI (2 ^ P)) ∧ (x.toNatClampNeg ||| onN said (said 11) P = onN said (said 11) P) ∧ nI (popN x.toNatClampNeg) ≤ said 2
def lgQ (said : Nat → Int32) (P s : Nat) (M W : Nat → Int32) : (Nat → Int32) × (Nat → Int32) := lgF said s (lg0 M 700, W) P
theorem c_X12_lighten (w : Wd) (l : Launch) (S : St) (hm : gx_m S) (P H : Nat) (hp : gx_p S P H) (x : Int32) : gx_M w l yX12_lighten cX12_lighten 3 (some .int) rmX12_lighten [.ref (ad (w_b w) 1000), .int x] S (fun a S' => if lgOK (s_A S 1010) P x then (a = some (.int (ffF (lgK (s_I S 1123 1000) (s_A S 1010) P H x.toNatClampNeg (lgQ (s_A S 1010) P x.toNatClampNeg (s_A S 1013) (s_A S 1014)).1) 700 0)) ∧ S' = lwS S (lgQ (s_A S 1010) P x.toNatClampNeg (s_A S 1013) (s_A S 1014)).1 (lgQ (s_A S 1010) P x.toNatClampNeg (s_A S 1013) (s_A S 1014)).2) else (a = some (.int (-1)) ∧ S' = S)) := by
  obtain ⟨hP, hP7, hH, hH2⟩ := id hp
  have ho : onN (s_A S 1010) (s_A S 1010 11) P < 128 := onN_128 hP7
  have hmA : ∀ M W, gx_m (lwS S M W) := fun M W => hm
  have hpA : ∀ M W, gx_p (lwS S M W) P H := fun M W => hp
  refine gx_start rfl 1 rfl (Nat.le_of_ble_eq_true rfl) ?_
  intro X C _ hl
  subst hl
  refine gx_L (L' := [_, _, _]) rfl ?_
  generalize hq : (fun (a : Option Value) (S' : St) => if lgOK (s_A S 1010) P x then (a = some (.int (ffF (lgK (s_I S 1123 1000) (s_A S 1010) P H x.toNatClampNeg (lgQ (s_A S 1010) P x.toNatClampNeg (s_A S 1013) (s_A S 1014)).1) 700 0)) ∧ S' = lwS S (lgQ (s_A S 1010) P x.toNatClampNeg (s_A S 1013) (s_A S 1014)).1 (lgQ (s_A S 1010) P x.toNatClampNeg (s_A S 1013) (s_A S 1014)).2) else (a = some (.int (-1)) ∧ S' = S)) = post
  have bad : ∀ z2, ¬ lgOK (s_A S 1010) P x → gx_G w X S 0 0 39 [some (.ref (ad (w_b w) 1000)), some (.int x), z2] [] (gx_E w X post) := by
    intro z2 hb
    subst hq
    refine g_iconst (pc := 39) (v := -1) C dX12_lighten_39 (by decide) ?_
    exact g_ireturn (pc := 40) C ⟨rfl, rfl⟩ dX12_lighten_40 ((by rw [if_neg hb]; exact ⟨rfl, rfl⟩))
  refine g_aload_n (pc := 0) C dX12_lighten_0 rfl ?_
  refine g_iload_n (pc := 1) C dX12_lighten_1 rfl ?_
  refine cf_X12_376 (pc := 2) C rfl (by exact m_z hm rfl) (c_X12_isSet _ _ _ hm P H hp x) ⟨rfl, rfl⟩ ⟨rfl, rfl⟩ ⟨Nat.zero_le _, Nat.zero_le _⟩ rfl (Nat.le_of_ble_eq_true rfl) dX12_lighten_2 ?_
  refine g_if_eq (pc := 5) C 39 dX12_lighten_5 rfl (fun h => ?_) (fun h => ?_)
  · exact bad _ (fun q => bI_0.mp h q.1)
  · have h := Decidable.not_not.mp (fun q => h (bI_0.mpr q))
    obtain ⟨s, hs1, hs, rfl, ecs⟩ := set_of hP7 ⟨h.2.1, h.2.2⟩
    refine g_iload_n (pc := 8) C dX12_lighten_8 rfl ?_
    refine g_aload_n (pc := 9) C dX12_lighten_9 rfl ?_
    refine g_aload_n (pc := 10) C dX12_lighten_10 rfl ?_
    refine mg_39 (pc := 11) C (by exact hm) dX12_lighten_11 ?_
    refine g_bipush (pc := 14) (v := nI 11) C dX12_lighten_14 (by decide) ?_
    refine n_iald (pc := 16) (k := 1010) (n := 190) C rfl rfl (by exact m_z hm rfl) isn_v rfl (by omega) dX12_lighten_16 ?_
    refine cf_X12_334 (pc := 17) C rfl (by exact m_z hm rfl) (c_X12_onSide _ _ _ hm P hP hP7 _) ⟨rfl, rfl⟩ ⟨rfl, rfl⟩ ⟨Nat.zero_le _, Nat.zero_le _⟩ rfl (Nat.le_of_ble_eq_true rfl) dX12_lighten_17 ?_
    refine g_iconst (pc := 20) (v := -1) C dX12_lighten_20 (by decide) ?_
    refine g_ixor (pc := 21) C dX12_lighten_21 ?_
    refine g_iand (pc := 22) C dX12_lighten_22 ?_
    refine g_if_ne (pc := 23) C 39 dX12_lighten_23 rfl (fun h2 => ?_) (fun h2 => ?_)
    · exact bad _ (fun q => h2 ((sub_iff s hs _ ho).mpr (by have := q.2.1; rw [ecs] at this; exact this)))
    · have h2 := (sub_iff s hs _ ho).mp (Decidable.not_not.mp h2)
      refine g_iload_n (pc := 26) C dX12_lighten_26 rfl ?_
      refine cf_X12_337 (pc := 27) C (c_X12_bits _ _ _ s hs) ⟨rfl, rfl⟩ ⟨rfl, rfl⟩ ⟨Nat.zero_le _, Nat.zero_le _⟩ rfl (Nat.le_of_ble_eq_true rfl) dX12_lighten_27 ?_
      refine g_aload_n (pc := 30) C dX12_lighten_30 rfl ?_
      refine mg_39 (pc := 31) C (by exact hm) dX12_lighten_31 ?_
      refine g_iconst (pc := 34) (v := nI 2) C dX12_lighten_34 (by decide) ?_
      refine n_iald (pc := 35) (k := 1010) (n := 190) C rfl rfl (by exact m_z hm rfl) isn_v rfl (by omega) dX12_lighten_35 ?_
      refine g_icmp_le (pc := 36) C 41 dX12_lighten_36 rfl (fun h3 => ?_) (fun h3 => ?_)
      · have hok : lgOK (s_A S 1010) P (nI s) := ⟨h, by rw [ecs]; exact h2, by rw [ecs]; exact h3⟩
        refine gx_S (S' := lwS S (s_A S 1013) (s_A S 1014)) (by unfold lwS; rw [s_A_id, s_A_id]) ?_
        generalize hM0 : s_A S 1013 = M0 at hq
        generalize hW0 : s_A S 1014 = W0 at hq
        -- the last search
        have search : ∀ M W z2, (M, W) = lgQ (s_A S 1010) P s M0 W0 → gx_G w X (lwS S M W) 0 0 104 [some (.ref (ad (w_b w) 1000)), some (.int (nI s)), z2] [] (gx_E w X post) := by
          intro M W z2 hMW
          have hend : ∀ v, v = ffF (lgK (s_I S 1123 1000) (s_A S 1010) P H s M) 700 0 → post (some (.int v)) (lwS S M W) := by
            intro v hv
            rw [← hq]
            show (if lgOK (s_A S 1010) P (nI s) then _ else _)
            rw [if_pos hok, ecs, ← hMW, hv]
            exact ⟨rfl, rfl⟩
          refine g_iconst (pc := 104) (v := nI 0) C dX12_lighten_104 (by decide) ?_
          refine g_istore_n (pc := 105) (L' := [_, some (.int _), _]) C dX12_lighten_105 rfl rfl ?_
          generalize hok2 : lgK (s_I S 1123 1000) (s_A S 1010) P H s M = ok at hend
          have loop : ∀ d i, i + d = 700 → ffF ok 700 0 = ffF ok d i → gx_G w X (lwS S M W) 0 0 106 [some (.ref (ad (w_b w) 1000)), some (.int (nI s)), some (.int (nI i))] [] (gx_E w X post) := by
            intro d
            induction d with
            | zero =>
              intro i hi e
              have hi : i = 700 := hi
              subst hi
              refine g_iload_n (pc := 106) C dX12_lighten_106 rfl ?_
              refine g_sipush (pc := 107) (v := nI 700) C dX12_lighten_107 (by decide) ?_
              refine g_icmp_ge (pc := 110) C 166 dX12_lighten_110 rfl (fun h4 => ?_) (fun h4 => ?_)
              · refine g_bipush (pc := 166) (v := -2) C dX12_lighten_166 (by decide) ?_
                exact g_ireturn (pc := 168) C ⟨rfl, rfl⟩ dX12_lighten_168 (hend _ e.symm)
              · exact absurd (nI_le (Nat.le_refl 700) (by omega)) h4
            | succ d ih =>
              intro i hi e
              have eok : ok i = decide (M i < nI 9999 ∧ weighF (s_A S 1010) P (fogF (s_I S 1123 1000) (s_A S 1010) H) (M i + twosF (s_A S 1010) s P P) s (s_A S 1010 11) ≤ s_A S 1010 1) := by rw [← hok2]; rfl
              have skip : ¬ ok i = true → gx_G w X (lwS S M W) 0 0 160 [some (.ref (ad (w_b w) 1000)), some (.int (nI s)), some (.int (nI i))] [] (gx_E w X post) := by
                intro hno
                refine g_iinc (pc := 160) (L' := [_, some (.int _), _]) C dX12_lighten_160 rfl (nI_1 _) rfl ?_
                refine g_goto (pc := 163) C 106 dX12_lighten_163 rfl ?_
                exact ih (i + 1) (by omega) (e.trans (if_neg hno))
              refine g_iload_n (pc := 106) C dX12_lighten_106 rfl ?_
              refine g_sipush (pc := 107) (v := nI 700) C dX12_lighten_107 (by decide) ?_
              refine g_icmp_ge (pc := 110) C 166 dX12_lighten_110 rfl (fun h4 => ?_) (fun h4 => ?_)
              · exact absurd h4 (nI_ge (by omega) (by omega))
              · refine g_aload_n (pc := 113) C dX12_lighten_113 rfl ?_
                refine mg_52 (pc := 114) C (hmA _ _) dX12_lighten_114 ?_
                refine g_iload_n (pc := 117) C dX12_lighten_117 rfl ?_
                refine n_iald (pc := 118) (k := 1013) (n := 700) C rfl rfl (m_z (hmA _ _) rfl) isn_v rfl (by omega) dX12_lighten_118 ?_
                refine gx_ti (y := M i) rfl ?_
                refine g_sipush (pc := 119) (v := nI 9999) C dX12_lighten_119 (by decide) ?_
                refine g_icmp_ge (pc := 122) C 160 dX12_lighten_122 rfl (fun h5 => ?_) (fun h5 => ?_)
                · exact skip (fun q => absurd (of_decide_eq_true (eok ▸ q)).1 (Int32.not_lt.mpr h5))
                · have h5 := Int32.not_le.mp h5
                  refine g_aload_n (pc := 125) C dX12_lighten_125 rfl ?_
                  refine g_aload_n (pc := 126) C dX12_lighten_126 rfl ?_
                  refine mg_52 (pc := 127) C (hmA _ _) dX12_lighten_127 ?_
                  refine g_iload_n (pc := 130) C dX12_lighten_130 rfl ?_
                  refine n_iald (pc := 131) (k := 1013) (n := 700) C rfl rfl (m_z (hmA _ _) rfl) isn_v rfl (by omega) dX12_lighten_131 ?_
                  refine gx_ti (y := M i) rfl ?_
                  refine g_aload_n (pc := 132) C dX12_lighten_132 rfl ?_
                  refine g_iload_n (pc := 133) C dX12_lighten_133 rfl ?_
                  refine cf_X12_327 (pc := 134) C rfl (m_z (hmA _ _) rfl) (c_X12_twosOf _ _ _ (hmA _ _) P (by exact hP) hP7 s hs) ⟨rfl, rfl⟩ ⟨rfl, rfl⟩ ⟨Nat.zero_le _, Nat.zero_le _⟩ rfl (Nat.le_of_ble_eq_true rfl) dX12_lighten_134 ?_
                  refine gx_ti (y := twosF (s_A S 1010) s P P) rfl ?_
                  refine g_iadd (pc := 137) C dX12_lighten_137 ?_
                  refine g_iload_n (pc := 138) C dX12_lighten_138 rfl ?_
                  refine g_aload_n (pc := 139) C dX12_lighten_139 rfl ?_
                  refine mg_39 (pc := 140) C (hmA _ _) dX12_lighten_140 ?_
                  refine g_bipush (pc := 143) (v := nI 11) C dX12_lighten_143 (by decide) ?_
                  refine n_iald (pc := 145) (k := 1010) (n := 190) C rfl rfl (m_z (hmA _ _) rfl) isn_v rfl (by omega) dX12_lighten_145 ?_
                  refine gx_ti (y := s_A S 1010 11) rfl ?_
                  refine cf_X12_330 (pc := 146) C rfl (m_z (hmA _ _) rfl) (c_X12_weighs _ _ _ (hmA _ _) P H (hpA _ _) s hs _ _) ⟨rfl, rfl⟩ ⟨rfl, rfl⟩ ⟨Nat.zero_le _, Nat.zero_le _⟩ rfl (Nat.le_of_ble_eq_true rfl) dX12_lighten_146 ?_
                  refine gx_ti (y := weighF (s_A S 1010) P (fogF (s_I S 1123 1000) (s_A S 1010) H) (M i + twosF (s_A S 1010) s P P) s (s_A S 1010 11)) rfl ?_
                  refine g_aload_n (pc := 149) C dX12_lighten_149 rfl ?_
                  refine mg_39 (pc := 150) C (hmA _ _) dX12_lighten_150 ?_
                  refine g_iconst (pc := 153) (v := nI 1) C dX12_lighten_153 (by decide) ?_
                  refine n_iald (pc := 154) (k := 1010) (n := 190) C rfl rfl (m_z (hmA _ _) rfl) isn_v rfl (by omega) dX12_lighten_154 ?_
                  refine gx_ti (y := s_A S 1010 1) rfl ?_
                  refine g_icmp_gt (pc := 155) C 160 dX12_lighten_155 rfl (fun h6 => ?_) (fun h6 => ?_)
                  · exact skip (fun q => absurd (of_decide_eq_true (eok ▸ q)).2 (Int32.not_le.mpr h6))
                  · refine g_iload_n (pc := 158) C dX12_lighten_158 rfl ?_
                    exact g_ireturn (pc := 159) C ⟨rfl, rfl⟩ dX12_lighten_159 (hend _ (e.trans (if_pos (eok.trans (decide_eq_true ⟨h5, Int32.not_lt.mp h6⟩)))).symm)
          exact loop 700 0 rfl rfl
        -- one by one
        have each : ∀ d p q, p + d = P → q = lgF (s_A S 1010) s (lg0 M0 700, W0) p → gx_G w X (lwS S q.1 q.2) 0 0 75 [some (.ref (ad (w_b w) 1000)), some (.int (nI s)), some (.int (nI p))] [] (gx_E w X post) := by
          intro d
          induction d with
          | zero =>
            intro p q hp2 e
            have hp2 : p = P := hp2
            refine g_iload_n (pc := 75) C dX12_lighten_75 rfl ?_
            refine g_aload_n (pc := 76) C dX12_lighten_76 rfl ?_
            refine mg_39 (pc := 77) C (hmA _ _) dX12_lighten_77 ?_
            refine g_iconst (pc := 80) (v := nI 4) C dX12_lighten_80 (by decide) ?_
            refine n_iald (pc := 81) (k := 1010) (n := 190) C rfl rfl (m_z (hmA _ _) rfl) isn_v rfl (by omega) dX12_lighten_81 ?_
            refine gx_ti (y := nI P) hP ?_
            refine g_icmp_ge (pc := 82) C 104 dX12_lighten_82 rfl (fun h4 => ?_) (fun h4 => ?_)
            · exact search q.1 q.2 _ (by rw [hp2] at e; exact e)
            · exact absurd (nI_le (by omega) (by omega)) h4
          | succ d ih =>
            intro p q hp2 e
            refine g_iload_n (pc := 75) C dX12_lighten_75 rfl ?_
            refine g_aload_n (pc := 76) C dX12_lighten_76 rfl ?_
            refine mg_39 (pc := 77) C (hmA _ _) dX12_lighten_77 ?_
            refine g_iconst (pc := 80) (v := nI 4) C dX12_lighten_80 (by decide) ?_
            refine n_iald (pc := 81) (k := 1010) (n := 190) C rfl rfl (m_z (hmA _ _) rfl) isn_v rfl (by omega) dX12_lighten_81 ?_
            refine gx_ti (y := nI P) hP ?_
            refine g_icmp_ge (pc := 82) C 104 dX12_lighten_82 rfl (fun h4 => ?_) (fun h4 => ?_)
            · exact absurd h4 (nI_ge (by omega) (by omega))
            · refine g_iload_n (pc := 85) C dX12_lighten_85 rfl ?_
              refine g_iload_n (pc := 86) C dX12_lighten_86 rfl ?_
              refine cf_X12_308 (pc := 87) C (c_X12_isOfN _ _ _ s p hs (by omega)) ⟨rfl, rfl⟩ ⟨rfl, rfl⟩ ⟨Nat.zero_le _, Nat.zero_le _⟩ rfl (Nat.le_of_ble_eq_true rfl) dX12_lighten_87 ?_
              refine g_if_eq (pc := 90) C 98 dX12_lighten_90 rfl (fun h5 => ?_) (fun h5 => ?_)
              · refine g_iinc (pc := 98) (L' := [_, some (.int _), _]) C dX12_lighten_98 rfl (nI_1 _) rfl ?_
                refine g_goto (pc := 101) C 75 dX12_lighten_101 rfl ?_
                exact ih (p + 1) q (by omega) (e.trans (if_neg (bI_0.mp h5)).symm)
              · have h5 := Decidable.not_not.mp (fun q => h5 (bI_0.mpr q))
                refine g_aload_n (pc := 93) C dX12_lighten_93 rfl ?_
                refine g_iload_n (pc := 94) C dX12_lighten_94 rfl ?_
                refine cf_X12_394 (pc := 95) C rfl (m_z (hmA _ _) rfl) (c_X12_takesOne _ _ S hm q.1 q.2 p (by omega)) ⟨rfl, rfl⟩ ⟨rfl, rfl⟩ ⟨Nat.zero_le _, Nat.zero_le _⟩ rfl (Nat.le_of_ble_eq_true rfl) dX12_lighten_95 ?_
                refine g_iinc (pc := 98) (L' := [_, some (.int _), _]) C dX12_lighten_98 rfl (nI_1 _) rfl ?_
                refine g_goto (pc := 101) C 75 dX12_lighten_101 rfl ?_
                exact ih (p + 1) (tk1 (grownF (s_A S 1010) p) (s_A S 1010 (14 + p)) q) (by omega) (by rw [e]; exact (if_pos h5).symm)
        refine g_iconst (pc := 41) (v := nI 0) C dX12_lighten_41 (by decide) ?_
        refine g_istore_n (pc := 42) (L' := [_, some (.int _), _]) C dX12_lighten_42 rfl rfl ?_
        have fill : ∀ d i, i + d = 700 → gx_G w X (lwS S (lg0 M0 i) W0) 0 0 43 [some (.ref (ad (w_b w) 1000)), some (.int (nI s)), some (.int (nI i))] [] (gx_E w X post) := by
          intro d
          induction d with
          | zero =>
            intro i hi
            have hi : i = 700 := hi
            subst hi
            refine g_iload_n (pc := 43) C dX12_lighten_43 rfl ?_
            refine g_sipush (pc := 44) (v := nI 700) C dX12_lighten_44 (by decide) ?_
            refine g_icmp_ge (pc := 47) C 73 dX12_lighten_47 rfl (fun h4 => ?_) (fun h4 => ?_)
            · refine g_iconst (pc := 73) (v := nI 0) C dX12_lighten_73 (by decide) ?_
              refine g_istore_n (pc := 74) (L' := [_, some (.int _), _]) C dX12_lighten_74 rfl rfl ?_
              exact each P 0 (lg0 M0 700, W0) (by omega) rfl
            · exact absurd (nI_le (Nat.le_refl 700) (by omega)) h4
          | succ d ih =>
            intro i hi
            have st : ∀ v, v = (if i = 0 then nI 0 else nI 9999) → gx_G w X (lwS S (lg0 M0 i) W0) 0 0 66 [some (.ref (ad (w_b w) 1000)), some (.int (nI s)), some (.int (nI i))] [.int v, .int (nI i), .ref (ad (w_b w) 1013)] (gx_E w X post) := by
              intro v hv
              refine n_iast (pc := 66) (k := 1013) (n := 700) C rfl rfl (m_z (hmA _ _) rfl) isn_v rfl (by omega) dX12_lighten_66 ?_
              refine gx_S (S' := lwS S (lg0 M0 (i + 1)) W0) (by rw [lw_rM, lw_M, lg0_s hv]) ?_
              refine g_iinc (pc := 67) (L' := [_, some (.int _), _]) C dX12_lighten_67 rfl (nI_1 _) rfl ?_
              refine g_goto (pc := 70) C 43 dX12_lighten_70 rfl ?_
              exact ih (i + 1) (by omega)
            refine g_iload_n (pc := 43) C dX12_lighten_43 rfl ?_
            refine g_sipush (pc := 44) (v := nI 700) C dX12_lighten_44 (by decide) ?_
            refine g_icmp_ge (pc := 47) C 73 dX12_lighten_47 rfl (fun h4 => ?_) (fun h4 => ?_)
            · exact absurd h4 (nI_ge (by omega) (by omega))
            · refine g_aload_n (pc := 50) C dX12_lighten_50 rfl ?_
              refine mg_52 (pc := 51) C (hmA _ _) dX12_lighten_51 ?_
              refine g_iload_n (pc := 54) C dX12_lighten_54 rfl ?_
              refine g_iload_n (pc := 55) C dX12_lighten_55 rfl ?_
              refine g_if_ne (pc := 56) C 63 dX12_lighten_56 rfl (fun h5 => ?_) (fun h5 => ?_)
              · have h5 : ¬ i = 0 := fun q => h5 (by rw [q]; rfl)
                refine g_sipush (pc := 63) (v := nI 9999) C dX12_lighten_63 (by decide) ?_
                exact st _ (by rw [if_neg h5])
              · have h5 : i = 0 := (nI_eq (a := i) (b := 0) (by omega) (by omega)).mp (Decidable.not_not.mp h5)
                refine g_iconst (pc := 59) (v := nI 0) C dX12_lighten_59 (by decide) ?_
                refine g_goto (pc := 60) C 66 dX12_lighten_60 rfl ?_
                exact st _ (by rw [if_pos h5])
        refine gx_S ?_ (fill 700 0 rfl)
        rw [lg0_0]
      · exact bad _ (fun q => h3 (by have := q.2.2; rw [ecs] at this; exact this))
