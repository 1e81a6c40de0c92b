/-! ===== texts: a SIGN between two SUMS ===== -/
abbrev eqP (T : Nat → Int32) (L n : Nat) : Prop := n < L ∧ T n = nI 61
def sgF (T : Nat → Int32) (L q : Nat) : Option (Nat × Nat) :=
  if seeV T L q = nI 60 then (if eqP T L (q + 1) then some (1, q + 2) else some (0, q + 1))
  else if seeV T L q = nI 61 then some (2, q + 1)
  else if seeV T L q = nI 62 then (if eqP T L (q + 1) then some (3, q + 2) else some (4, q + 1)) else none
def cmpF (T : Nat → Int32) (L n m : Nat) : RT := match smF T L n m with
  | .error f => .error f
  | .ok (n1, m1, k1) => match sgF T L (skN T L n1) with
    | none => .error (ftN 0 (skN T L n1))
    | some (s, q) => if m1 = 60 then .error (ftN 3 (skN T L n1)) else match smF T L q (m1 + 1) with
      | .error f => .error f
      | .ok (n2, m2, k2) => .ok (n2, m2, k1 ++ k2 ++ [6 + s])
theorem sg_some {T : Nat → Int32} {L q s q' : Nat} (h : sgF T L q = some (s, q')) : q < q' ∧ q' ≤ L ∧ s < 5 := by
  have hq : q < L := by
    refine Nat.lt_of_not_le (fun z => ?_)
    unfold sgF at h
    rw [see_end z, if_neg (by decide), if_neg (by decide), if_neg (by decide)] at h
    cases h
  unfold sgF at h
  split at h
  · split at h
    · next e => cases h; exact ⟨by omega, by have := e.1; omega, by omega⟩
    · cases h; exact ⟨by omega, by omega, by omega⟩
  · split at h
    · cases h; exact ⟨by omega, by omega, by omega⟩
    · split at h
      · split at h
        · next e => cases h; exact ⟨by omega, by have := e.1; omega, by omega⟩
        · cases h; exact ⟨by omega, by omega, by omega⟩
      · cases h
theorem okI_cmp {T : Nat → Int32} {L : Nat} (hL : L ≤ 400) : okI L (cmpF T L) := by
  intro n m hn hm
  have h1 := okI_sm (T := T) hL n m hn hm
  unfold cmpF
  generalize smF T L n m = u at h1
  cases u with
  | error f => exact h1
  | ok p =>
    obtain ⟨n1, m1, k1⟩ := p
    obtain ⟨b1, b2, b3, b4⟩ := h1
    have hq1 := sk_ge (T := T) (L := L) (n := n1)
    have hq2 := sk_L (T := T) b2
    show okR L n (match sgF T L (skN T L n1) with
      | none => .error (ftN 0 (skN T L n1))
      | some (s, q) => if m1 = 60 then .error (ftN 3 (skN T L n1)) else match smF T L q (m1 + 1) with
        | .error f => .error f
        | .ok (n2, m2, k2) => .ok (n2, m2, k1 ++ k2 ++ [6 + s]))
    generalize hs : sgF T L (skN T L n1) = s
    cases s with
    | none => exact ⟨by unfold ftN; omega, by unfold ftN; omega⟩
    | some p =>
      obtain ⟨s, q⟩ := p
      obtain ⟨c1, c2, c3⟩ := sg_some hs
      show okR L n (if m1 = 60 then .error (ftN 3 (skN T L n1)) else match smF T L q (m1 + 1) with
        | .error f => .error f
        | .ok (n2, m2, k2) => .ok (n2, m2, k1 ++ k2 ++ [6 + s]))
      by_cases e : m1 = 60
      · rw [if_pos e]; exact ⟨by unfold ftN; omega, by unfold ftN; omega⟩
      · rw [if_neg e]
        have h2 := okI_sm (T := T) hL q (m1 + 1) c2 (by omega)
        generalize smF T L q (m1 + 1) = u at h2
        cases u with
        | error f => exact h2
        | ok p =>
          obtain ⟨n2, m2, k2⟩ := p
          obtain ⟨d1, d2, d3, d4⟩ := h2
          have hl : (k1 ++ k2 ++ [6 + s]).length = k1.length + k2.length + 1 := by rw [List.length_append, List.length_append]; rfl
          exact ⟨by omega, d2, d3, by omega⟩
theorem c_X12_compare (w : Wd) (l : Launch) (S : St) (L : Nat) (hx : gx_x S L) (t : Nat) (ht6 : t < 6) (i : Nat → Int32) (a : Nat → Nat → Int32) (n m : Nat) (o : List Nat) (h : tx t i a n m o) (hn : n ≤ L) (ho : o.length ≤ n) (h60 : m ≤ 60) : gx_M w l yX12_compare cX12_compare 5 (some .boolean) rmX12_compare [.ref (ad (w_b w) 1000)] (rdS S i a) (px S t i a o (cmpF (s_A S 1001) L n m)) := by
  have hL : L ≤ 400 := hx.2.1.2
  have hmA : ∀ i a, gx_m (rdS S i a) := fun i a => hx.1
  generalize hr : cmpF (s_A S 1001) L n m = r
  refine gx_start rfl 4 rfl (Nat.le_of_ble_eq_true rfl) ?_
  intro X C _ hl
  subst hl
  refine gx_L (L' := [_, _, _, _, _]) rfl ?_
  refine g_aload_n (pc := 0) C dX12_compare_0 rfl ?_
  refine cg_X12_195 (pc := 1) C rfl (m_z (hmA _ _) rfl) (c_X12_sum _ _ S L hx t ht6 i a n m o h hn ho h60) ⟨rfl, rfl⟩ ⟨Nat.zero_le _, Nat.zero_le _⟩ rfl (Nat.le_of_ble_eq_true rfl) dX12_compare_1 ?_
  rintro _ _ ⟨i1, a1, rfl, f1, g1, r1⟩
  have hok := okI_sm (T := s_A S 1001) hL n m hn h60
  unfold cmpF at hr
  generalize smF (s_A S 1001) L n m = u at hr r1 hok
  cases u with
  | error f =>
    obtain ⟨rfl, r1⟩ := r1
    have hr : Except.error f = r := hr
    subst hr
    refine g_if_ne (pc := 4) C 9 dX12_compare_4 rfl (fun hb => ?_) (fun hb => ?_)
    · exact absurd rfl hb
    · refine g_iconst (pc := 7) (v := nI 0) C dX12_compare_7 (by decide) ?_
      exact g_zreturn (pc := 8) C ⟨rfl, rfl⟩ (by first | exact Or.inl rfl | exact Or.inr rfl) dX12_compare_8 ⟨i1, a1, rfl, f1, g1, rfl, r1⟩
  | ok p =>
    obtain ⟨n1, m1, k1⟩ := p
    obtain ⟨rfl, h1⟩ := r1
    obtain ⟨b1, b2, b3, b4⟩ := hok
    have hlen : (o ++ k1).length = o.length + k1.length := List.length_append
    have hr : (match sgF (s_A S 1001) L (skN (s_A S 1001) L n1) with
      | none => .error (ftN 0 (skN (s_A S 1001) L n1))
      | some (s, q) => if m1 = 60 then .error (ftN 3 (skN (s_A S 1001) L n1)) else match smF (s_A S 1001) L q (m1 + 1) with
        | .error f => .error f
        | .ok (n2, m2, k2) => .ok (n2, m2, k1 ++ k2 ++ [6 + s])) = r := hr
    have hq1 := sk_ge (T := s_A S 1001) (L := L) (n := n1)
    have hq2 := sk_L (T := s_A S 1001) b2
    refine g_if_ne (pc := 4) C 9 dX12_compare_4 rfl (fun hb => ?_) (fun hb => ?_)
    · refine g_aload_n (pc := 9) C dX12_compare_9 rfl ?_
      refine cf_X12_105 (pc := 10) C rfl (m_z (hmA _ _) rfl) (r_see _ _ S L hx i1 a1 n1 h1.1 (by omega)) ⟨rfl, rfl⟩ ⟨rfl, rfl⟩ ⟨Nat.zero_le _, Nat.zero_le _⟩ rfl (Nat.le_of_ble_eq_true rfl) dX12_compare_10 ?_
      generalize hq : skN (s_A S 1001) L n1 = q at *
      generalize hi2 : u1 i1 1108 (nI q) = i2
      have h2 : tx t i2 a1 q m1 (o ++ k1) := by rw [← hi2]; exact tx_u h1 rfl rfl rfl h1.2.2.2.1
      have f2 : fxI [1108, 1109, 1110, 1112] i i2 := f1.trans (by rw [← hi2]; exact fxI.u (by decide))
      generalize hc : seeV (s_A S 1001) L q = c
      refine g_istore_n (pc := 13) (L' := [some (.ref _), _, _, _, _]) C dX12_compare_13 rfl rfl ?_
      refine g_aload_n (pc := 14) C dX12_compare_14 rfl ?_
      refine mg_102 (pc := 15) C (hmA _ _) dX12_compare_15 ?_
      refine gx_ti (y := nI q) h2.1 ?_
      refine g_istore_n (pc := 18) (L' := [_, some (.int _), _, _, _]) C dX12_compare_18 rfl rfl ?_
      refine g_iload_n (pc := 19) C dX12_compare_19 rfl ?_
      refine g_bipush (pc := 20) (v := nI 60) C dX12_compare_20 (by decide) ?_
      /- behind the SIGN: its number s, the place q' -/
      have fin : ∀ s q' i3 z3, sgF (s_A S 1001) L q = some (s, q') → tx t i3 a1 q' (m1 + 1) (o ++ k1) → fxI [1108, 1109, 1110, 1112] i i3 → ¬ m1 = 60 → gx_G w X (rdS S i3 a1) 0 0 152 [some (.ref (ad (w_b w) 1000)), some (.int c), some (.int (nI q)), some (.int z3), none] [.int (nI s)] (gx_E w X (px S t i a o r)) := by
        intro s q' i3 z3 hs h3 f3 hm1
        obtain ⟨c1, c2, c3⟩ := sg_some hs
        rw [hs] at hr
        have hr : (if m1 = 60 then .error (ftN 3 q) else match smF (s_A S 1001) L q' (m1 + 1) with
          | .error f => .error f
          | .ok (n2, m2, k2) => .ok (n2, m2, k1 ++ k2 ++ [6 + s])) = r := hr
        rw [if_neg hm1] at hr
        refine g_istore (pc := 152) (L' := [_, _, _, some (.int _), _]) C dX12_compare_152 rfl rfl ?_
        refine g_aload_n (pc := 154) C dX12_compare_154 rfl ?_
        refine cg_X12_195 (pc := 155) C rfl (m_z (hmA _ _) rfl) (c_X12_sum _ _ S L hx t ht6 i3 a1 q' (m1 + 1) (o ++ k1) h3 c2 (by omega) (by omega)) ⟨rfl, rfl⟩ ⟨Nat.zero_le _, Nat.zero_le _⟩ rfl (Nat.le_of_ble_eq_true rfl) dX12_compare_155 ?_
        rintro _ _ ⟨i4, a4, rfl, f4, g4, r4⟩
        have hok := okI_sm (T := s_A S 1001) hL q' (m1 + 1) c2 (by omega)
        generalize smF (s_A S 1001) L q' (m1 + 1) = u at hr r4 hok
        cases u with
        | error f =>
          obtain ⟨rfl, r4⟩ := r4
          have hr : Except.error f = r := hr
          subst hr
          refine g_if_ne (pc := 158) C 163 dX12_compare_158 rfl (fun hb => ?_) (fun hb => ?_)
          · exact absurd rfl hb
          · refine g_iconst (pc := 161) (v := nI 0) C dX12_compare_161 (by decide) ?_
            exact g_zreturn (pc := 162) C ⟨rfl, rfl⟩ (by first | exact Or.inl rfl | exact Or.inr rfl) dX12_compare_162 ⟨i4, a4, rfl, f3.trans f4, g1.trans g4, rfl, r4⟩
        | ok p =>
          obtain ⟨n2, m2, k2⟩ := p
          obtain ⟨rfl, h4⟩ := r4
          obtain ⟨d1, d2, d3, d4⟩ := hok
          have hlen2 : (o ++ k1 ++ k2).length = (o ++ k1).length + k2.length := List.length_append
          have hr : Except.ok (n2, m2, k1 ++ k2 ++ [6 + s]) = r := hr
          subst hr
          refine g_if_ne (pc := 158) C 163 dX12_compare_158 rfl (fun hb => ?_) (fun hb => ?_)
          · refine g_aload_n (pc := 163) C dX12_compare_163 rfl ?_
            refine g_bipush (pc := 164) (v := nI 6) C dX12_compare_164 (by decide) ?_
            refine g_iload (pc := 166) C dX12_compare_166 rfl ?_
            refine g_iadd (pc := 168) C dX12_compare_168 ?_
            refine gx_ti (y := nI (6 + s)) (nI_add 6 s) ?_
            refine g_iconst (pc := 169) (v := nI 0) C dX12_compare_169 (by decide) ?_
            refine cg_X12_174 (pc := 170) C rfl (m_z (hmA _ _) rfl) (r_puts _ _ S L hx t ht6 i4 a4 n2 m2 (o ++ k1 ++ k2) h4 (by omega) (6 + s) 0 (6 + s) (by omega)) ⟨rfl, rfl⟩ ⟨Nat.zero_le _, Nat.zero_le _⟩ rfl (Nat.le_of_ble_eq_true rfl) dX12_compare_170 ?_
            rintro _ _ ⟨rfl, a5, rfl, g5, h5⟩
            refine g_iconst (pc := 173) (v := nI 1) C dX12_compare_173 (by decide) ?_
            exact g_zreturn (pc := 174) C ⟨rfl, rfl⟩ (by first | exact Or.inl rfl | exact Or.inr rfl) dX12_compare_174 ⟨i4, a5, rfl, f3.trans f4, (g1.trans g4).trans g5, rfl, by rw [show o ++ (k1 ++ k2 ++ [6 + s]) = o ++ k1 ++ k2 ++ [6 + s] from by simp only [List.append_assoc]]; exact h5⟩
          · exact absurd (fun q => absurd q (by decide)) hb
      /- the place is behind the SIGN: one more is made -/
      have mk : ∀ s q' i3 (z : Prop) [Decidable z], sgF (s_A S 1001) L q = some (s, q') → tx t i3 a1 q' m1 (o ++ k1) → fxI [1108, 1109, 1110, 1112] i i3 → ((c = nI 60 ∧ s = if z then 1 else 0) ∨ (c = nI 61 ∧ s = 2) ∨ (c = nI 62 ∧ s = if z then 3 else 4)) → gx_G w X (rdS S i3 a1) 0 0 105 [some (.ref (ad (w_b w) 1000)), some (.int c), some (.int (nI q)), some (.int (bI z)), none] [] (gx_E w X (px S t i a o r)) := by
        intro s q' i3 z _ hs h3 f3 hz
        obtain ⟨c1, c2, c3⟩ := sg_some hs
        refine g_aload_n (pc := 105) C dX12_compare_105 rfl ?_
        refine g_iload_n (pc := 106) C dX12_compare_106 rfl ?_
        refine cf_X12_182 (pc := 107) C rfl (m_z (hmA _ _) rfl) (r_makes _ _ S L hx i3 a1 h3.2.1 m1 h3.2.2.2.1 b3 q) ⟨rfl, rfl⟩ ⟨rfl, rfl⟩ ⟨Nat.zero_le _, Nat.zero_le _⟩ rfl (Nat.le_of_ble_eq_true rfl) dX12_compare_107 ?_
        refine g_if_ne (pc := 110) C 115 dX12_compare_110 rfl (fun hk => ?_) (fun hk => ?_)
        · have hk : ¬ m1 = 60 := Decidable.not_not.mp (fun q => hk (bI_0.mpr q))
          refine gx_S (S' := rdS S (u1 i3 1112 (nI (m1 + 1))) a1) (by rw [if_neg hk]) ?_
          have h4 : tx t (u1 i3 1112 (nI (m1 + 1))) a1 q' (m1 + 1) (o ++ k1) := tx_u h3 h3.1 rfl rfl rfl
          have f4 : fxI [1108, 1109, 1110, 1112] i (u1 i3 1112 (nI (m1 + 1))) := f3.trans (fxI.u (by decide))
          generalize u1 i3 1112 (nI (m1 + 1)) = i4 at h4 f4
          refine g_iload_n (pc := 115) C dX12_compare_115 rfl ?_
          refine g_bipush (pc := 116) (v := nI 60) C dX12_compare_116 (by decide) ?_
          refine g_icmp_ne (pc := 118) C 133 dX12_compare_118 rfl (fun c4 => ?_) (fun c4 => ?_)
          · refine g_iload_n (pc := 133) C dX12_compare_133 rfl ?_
            refine g_bipush (pc := 134) (v := nI 61) C dX12_compare_134 (by decide) ?_
            refine g_icmp_ne (pc := 136) C 143 dX12_compare_136 rfl (fun c5 => ?_) (fun c5 => ?_)
            · have hz : c = nI 62 ∧ s = if z then 3 else 4 := (hz.resolve_left (fun q => c4 q.1)).resolve_left (fun q => c5 q.1)
              refine g_iload_n (pc := 143) C dX12_compare_143 rfl ?_
              refine g_if_eq (pc := 144) C 151 dX12_compare_144 rfl (fun c6 => ?_) (fun c6 => ?_)
              · refine g_iconst (pc := 151) (v := nI 4) C dX12_compare_151 (by decide) ?_
                exact fin 4 q' i4 _ (by rw [hs, hz.2, if_neg (bI_0.mp c6)]) h4 f4 hk
              · refine g_iconst (pc := 147) (v := nI 3) C dX12_compare_147 (by decide) ?_
                refine g_goto (pc := 148) C 152 dX12_compare_148 rfl ?_
                exact fin 3 q' i4 _ (by rw [hs, hz.2, if_pos (Decidable.not_not.mp (fun q => c6 (bI_0.mpr q)))]) h4 f4 hk
            · have c5 := Decidable.not_not.mp c5
              have hz : c = nI 61 ∧ s = 2 := (hz.resolve_left (fun q => c4 q.1)).resolve_right (fun q => absurd (c5.symm.trans q.1) (by decide))
              refine g_iconst (pc := 139) (v := nI 2) C dX12_compare_139 (by decide) ?_
              refine g_goto (pc := 140) C 152 dX12_compare_140 rfl ?_
              exact fin 2 q' i4 _ (by rw [hs, hz.2]) h4 f4 hk
          · have c4 := Decidable.not_not.mp c4
            have hz : c = nI 60 ∧ s = if z then 1 else 0 := hz.resolve_right (fun q => q.elim (fun q => absurd (c4.symm.trans q.1) (by decide)) (fun q => absurd (c4.symm.trans q.1) (by decide)))
            refine g_iload_n (pc := 121) C dX12_compare_121 rfl ?_
            refine g_if_eq (pc := 122) C 129 dX12_compare_122 rfl (fun c6 => ?_) (fun c6 => ?_)
            · refine g_iconst (pc := 129) (v := nI 0) C dX12_compare_129 (by decide) ?_
              refine g_goto (pc := 130) C 152 dX12_compare_130 rfl ?_
              exact fin 0 q' i4 _ (by rw [hs, hz.2, if_neg (bI_0.mp c6)]) h4 f4 hk
            · refine g_iconst (pc := 125) (v := nI 1) C dX12_compare_125 (by decide) ?_
              refine g_goto (pc := 126) C 152 dX12_compare_126 rfl ?_
              exact fin 1 q' i4 _ (by rw [hs, hz.2, if_pos (Decidable.not_not.mp (fun q => c6 (bI_0.mpr q)))]) h4 f4 hk
        · have hk : m1 = 60 := Decidable.not_not.mp (bI_0.mp (Decidable.not_not.mp hk))
          rw [hs] at hr
          have hr : (if m1 = 60 then .error (ftN 3 q) else match smF (s_A S 1001) L q' (m1 + 1) with
            | .error f => .error f
            | .ok (n2, m2, k2) => .ok (n2, m2, k1 ++ k2 ++ [6 + s])) = r := hr
          rw [if_pos hk] at hr
          subst hr
          refine gx_S (S' := rdS S (u1 i3 1109 (nI (ftN 3 q))) a1) (by rw [if_pos hk]) ?_
          refine g_iconst (pc := 113) (v := nI 0) C dX12_compare_113 (by decide) ?_
          exact g_zreturn (pc := 114) C ⟨rfl, rfl⟩ (by first | exact Or.inl rfl | exact Or.inr rfl) dX12_compare_114 ⟨_, a1, rfl, f3.trans (fxI.u (by decide)), g1, rfl, rfl⟩
      have go : (c = nI 60 ∨ c = nI 61 ∨ c = nI 62) → gx_G w X (rdS S i2 a1) 0 0 44 [some (.ref (ad (w_b w) 1000)), some (.int c), some (.int (nI q)), none, none] [] (gx_E w X (px S t i a o r)) := by
        intro hcc
        refine g_aload_n (pc := 44) C dX12_compare_44 rfl ?_
        refine g_dup (pc := 45) C dX12_compare_45 rfl ?_
        refine mg_102 (pc := 46) C (hmA _ _) dX12_compare_46 ?_
        refine gx_ti (y := nI q) h2.1 ?_
        refine g_iconst (pc := 49) (v := nI 1) C dX12_compare_49 (by decide) ?_
        refine g_iadd (pc := 50) C dX12_compare_50 ?_
        refine gx_ti (y := nI (q + 1)) (nI_add q 1) ?_
        refine mp_102 (pc := 51) C (hmA _ _) dX12_compare_51 ?_
        refine gx_S (S' := rdS S (u1 i2 1108 (nI (q + 1))) a1) (rd_I S i2 a1 1108 _ (by omega)) ?_
        have h3 : tx t (u1 i2 1108 (nI (q + 1))) a1 (q + 1) m1 (o ++ k1) := tx_u h2 rfl rfl rfl h2.2.2.2.1
        have f3 : fxI [1108, 1109, 1110, 1112] i (u1 i2 1108 (nI (q + 1))) := f2.trans (fxI.u (by decide))
        generalize u1 i2 1108 (nI (q + 1)) = i3 at h3 f3
        /- no = behind it -/
        have no : (c = nI 61 ∨ ¬ eqP (s_A S 1001) L (q + 1)) → gx_G w X (rdS S i3 a1) 0 0 89 [some (.ref (ad (w_b w) 1000)), some (.int c), some (.int (nI q)), none, none] [] (gx_E w X (px S t i a o r)) := by
          intro hno
          refine g_iconst (pc := 89) (v := nI 0) C dX12_compare_89 (by decide) ?_
          refine g_istore_n (pc := 90) (L' := [_, _, some (.int _), _, _]) C dX12_compare_90 rfl rfl ?_
          refine g_iload_n (pc := 91) C dX12_compare_91 rfl ?_
          refine g_if_eq (pc := 92) C 105 dX12_compare_92 rfl (fun hb => ?_) (fun hb => ?_)
          · refine gx_L (L' := [some (.ref (ad (w_b w) 1000)), some (.int c), some (.int (nI q)), some (.int (bI False)), none]) (by rw [bI_f (fun q => q)]) ?_
            rcases hcc with e | e | e
            · have hne : ¬ eqP (s_A S 1001) L (q + 1) := hno.resolve_left (fun z => absurd (e.symm.trans z) (by decide))
              exact mk 0 (q + 1) i3 False (by unfold sgF; rw [hc, if_pos e, if_neg hne]) h3 f3 (Or.inl ⟨e, by rw [if_neg (fun q => q)]⟩)
            · exact mk 2 (q + 1) i3 False (by unfold sgF; rw [hc, if_neg (by rw [e]; decide), if_pos e]) h3 f3 (Or.inr (Or.inl ⟨e, rfl⟩))
            · have hne : ¬ eqP (s_A S 1001) L (q + 1) := hno.resolve_left (fun z => absurd (e.symm.trans z) (by decide))
              exact mk 4 (q + 1) i3 False (by unfold sgF; rw [hc, if_neg (by rw [e]; decide), if_neg (by rw [e]; decide), if_pos e, if_neg hne]) h3 f3 (Or.inr (Or.inr ⟨e, by rw [if_neg (fun q => q)]⟩))
          · exact absurd rfl hb
        refine g_iload_n (pc := 54) C dX12_compare_54 rfl ?_
        refine g_bipush (pc := 55) (v := nI 61) C dX12_compare_55 (by decide) ?_
        refine g_icmp_eq (pc := 57) C 89 dX12_compare_57 rfl (fun c7 => ?_) (fun c7 => ?_)
        · exact no (Or.inl c7)
        · refine g_aload_n (pc := 60) C dX12_compare_60 rfl ?_
          refine mg_102 (pc := 61) C (hmA _ _) dX12_compare_61 ?_
          refine gx_ti (y := nI (q + 1)) h3.1 ?_
          refine g_aload_n (pc := 64) C dX12_compare_64 rfl ?_
          refine mg_92 (pc := 65) C (hmA _ _) dX12_compare_65 ?_
          refine gx_ti (y := nI L) hx.2.1.1 ?_
          refine g_icmp_ge (pc := 68) C 89 dX12_compare_68 rfl (fun c8 => ?_) (fun c8 => ?_)
          · exact no (Or.inr (fun z => absurd ((nI_leI (by omega) (by omega)).mp c8) (by have := z.1; omega)))
          · have c8 : q + 1 < L := Nat.lt_of_not_le (fun z => c8 (nI_le z (by omega)))
            refine g_aload_n (pc := 71) C dX12_compare_71 rfl ?_
            refine mg_7 (pc := 72) C (hmA _ _) dX12_compare_72 ?_
            refine g_aload_n (pc := 75) C dX12_compare_75 rfl ?_
            refine mg_102 (pc := 76) C (hmA _ _) dX12_compare_76 ?_
            refine n_bald (pc := 79) (k := 1001) (n := 400) C rfl rfl (m_z (hmA _ _) rfl) h3.1 rfl (by omega) dX12_compare_79 ?_
            refine gx_ti (y := s_A S 1001 (q + 1)) rfl ?_
            refine g_bipush (pc := 80) (v := nI 61) C dX12_compare_80 (by decide) ?_
            refine g_icmp_ne (pc := 82) C 89 dX12_compare_82 rfl (fun c9 => ?_) (fun c9 => ?_)
            · exact no (Or.inr (fun z => c9 z.2))
            · have c9 : eqP (s_A S 1001) L (q + 1) := ⟨c8, Decidable.not_not.mp c9⟩
              refine g_iconst (pc := 85) (v := nI 1) C dX12_compare_85 (by decide) ?_
              refine g_goto (pc := 86) C 90 dX12_compare_86 rfl ?_
              refine g_istore_n (pc := 90) (L' := [_, _, some (.int _), _, _]) C dX12_compare_90 rfl rfl ?_
              refine g_iload_n (pc := 91) C dX12_compare_91 rfl ?_
              refine g_if_eq (pc := 92) C 105 dX12_compare_92 rfl (fun hb => ?_) (fun hb => ?_)
              · exact absurd hb (by decide)
              · refine g_aload_n (pc := 95) C dX12_compare_95 rfl ?_
                refine g_dup (pc := 96) C dX12_compare_96 rfl ?_
                refine mg_102 (pc := 97) C (hmA _ _) dX12_compare_97 ?_
                refine gx_ti (y := nI (q + 1)) h3.1 ?_
                refine g_iconst (pc := 100) (v := nI 1) C dX12_compare_100 (by decide) ?_
                refine g_iadd (pc := 101) C dX12_compare_101 ?_
                refine gx_ti (y := nI (q + 2)) (nI_add (q + 1) 1) ?_
                refine mp_102 (pc := 102) C (hmA _ _) dX12_compare_102 ?_
                refine gx_S (S' := rdS S (u1 i3 1108 (nI (q + 2))) a1) (rd_I S i3 a1 1108 _ (by omega)) ?_
                have h4 : tx t (u1 i3 1108 (nI (q + 2))) a1 (q + 2) m1 (o ++ k1) := tx_u h3 rfl rfl rfl h3.2.2.2.1
                have f4 : fxI [1108, 1109, 1110, 1112] i (u1 i3 1108 (nI (q + 2))) := f3.trans (fxI.u (by decide))
                generalize u1 i3 1108 (nI (q + 2)) = i4 at h4 f4
                refine gx_L (L' := [some (.ref (ad (w_b w) 1000)), some (.int c), some (.int (nI q)), some (.int (bI True)), none]) (by rw [bI_t trivial]) ?_
                rcases hcc with e | e | e
                · exact mk 1 (q + 2) i4 True (by unfold sgF; rw [hc, if_pos e, if_pos c9]) h4 f4 (Or.inl ⟨e, by rw [if_pos trivial]⟩)
                · exact absurd e c7
                · exact mk 3 (q + 2) i4 True (by unfold sgF; rw [hc, if_neg (by rw [e]; decide), if_neg (by rw [e]; decide), if_pos e, if_pos c9]) h4 f4 (Or.inr (Or.inr ⟨e, by rw [if_pos trivial]⟩))
      refine g_icmp_eq (pc := 22) C 44 dX12_compare_22 rfl (fun c1 => ?_) (fun c1 => ?_)
      · exact go (Or.inl c1)
      · refine g_iload_n (pc := 25) C dX12_compare_25 rfl ?_
        refine g_bipush (pc := 26) (v := nI 61) C dX12_compare_26 (by decide) ?_
        refine g_icmp_eq (pc := 28) C 44 dX12_compare_28 rfl (fun c2 => ?_) (fun c2 => ?_)
        · exact go (Or.inr (Or.inl c2))
        · refine g_iload_n (pc := 31) C dX12_compare_31 rfl ?_
          refine g_bipush (pc := 32) (v := nI 62) C dX12_compare_32 (by decide) ?_
          refine g_icmp_eq (pc := 34) C 44 dX12_compare_34 rfl (fun c3 => ?_) (fun c3 => ?_)
          · exact go (Or.inr (Or.inr c3))
          · have hs : sgF (s_A S 1001) L q = none := by unfold sgF; rw [hc, if_neg c1, if_neg c2, if_neg c3]
            rw [hs] at hr
            have hr : Except.error (ftN 0 q) = r := hr
            subst hr
            refine g_aload_n (pc := 37) C dX12_compare_37 rfl ?_
            refine g_iconst (pc := 38) (v := nI 0) C dX12_compare_38 (by decide) ?_
            refine g_iload_n (pc := 39) C dX12_compare_39 rfl ?_
            refine cf_X12_123 (pc := 40) C rfl (m_z (hmA _ _) rfl) (r_fails _ _ S L hx i2 a1 h2.2.1 0 q) ⟨rfl, rfl⟩ ⟨rfl, rfl⟩ ⟨Nat.zero_le _, Nat.zero_le _⟩ rfl (Nat.le_of_ble_eq_true rfl) dX12_compare_40 ?_
            exact g_zreturn (pc := 43) C ⟨rfl, rfl⟩ (by first | exact Or.inl rfl | exact Or.inr rfl) dX12_compare_43 ⟨_, a1, rfl, f2.trans (fxI.u (by decide)), g1, rfl, rfl⟩
    · exact absurd (fun q => absurd q (by decide)) hb
