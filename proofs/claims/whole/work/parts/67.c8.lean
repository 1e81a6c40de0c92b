/-! ===== THE CLASS: a Rule reckons its code ===== -/
def opC (s : Nat) : Nat := if s = 0 then 0 else if s = 1 then 1 else if s = 11 then 2 else if s = 14 then 9 else if s < 6 then s + 3 else if s < 11 then s + 4 else s + 3
def clK (x : Nat) : Nat := 32 * (x / 16) + opC (x % 16)
def cdC : List CL → List Nat
  | [] => []
  | (k1, none) :: cs => k1.map clK ++ [3] ++ cdC cs
  | (k1, some k2) :: cs => k1.map clK ++ k2.map clK ++ [4] ++ cdC cs
theorem opC_lt {s : Nat} (h : s < 15) : opC s < 17 := by unfold opC; (repeat' split) <;> omega
theorem clK_m {x : Nat} (h : x % 16 < 15) : clK x % 32 = opC (x % 16) ∧ clK x / 32 = x / 16 := by
  have := opC_lt h
  unfold clK
  omega
def ndF (o : Nat) : Nat := if o ≤ 1 then 0 else if o ≤ 3 then 1 else 2
theorem c_X7_needs (w : Wd) (l : Launch) (S : St) (o : Nat) (ho : o < 100) : gx_M w l yX7_needs cX7_needs 1 (some .int) rmX7_needs [.int (nI o)] S (pI (nI (ndF o)) S) := by
  refine gx_start rfl 0 rfl (Nat.le_of_ble_eq_true rfl) ?_
  intro X C _ hl
  subst hl
  refine gx_L (L' := [_]) rfl ?_
  unfold ndF
  refine g_iload_n (pc := 0) C dX7_needs_0 rfl ?_
  refine g_iconst (pc := 1) (v := nI 1) C dX7_needs_1 (by decide) ?_
  refine g_icmp_gt (pc := 2) C 7 dX7_needs_2 rfl (fun c1 => ?_) (fun c1 => ?_)
  · have c1 : 1 < o := (nI_ltI (by omega) (by omega)).mp c1
    rw [if_neg (by omega)]
    refine g_iload_n (pc := 7) C dX7_needs_7 rfl ?_
    refine g_iconst (pc := 8) (v := nI 3) C dX7_needs_8 (by decide) ?_
    refine g_icmp_gt (pc := 9) C 16 dX7_needs_9 rfl (fun c2 => ?_) (fun c2 => ?_)
    · have c2 : 3 < o := (nI_ltI (by omega) (by omega)).mp c2
      rw [if_neg (by omega)]
      refine g_iconst (pc := 16) (v := nI 2) C dX7_needs_16 (by decide) ?_
      exact g_ireturn (pc := 17) C ⟨rfl, rfl⟩ dX7_needs_17 ⟨rfl, rfl⟩
    · have c2 : o ≤ 3 := Nat.le_of_not_lt (fun q => c2 (nI_lt q (by omega)))
      rw [if_pos c2]
      refine g_iconst (pc := 12) (v := nI 1) C dX7_needs_12 (by decide) ?_
      refine g_goto (pc := 13) C 17 dX7_needs_13 rfl ?_
      exact g_ireturn (pc := 17) C ⟨rfl, rfl⟩ dX7_needs_17 ⟨rfl, rfl⟩
  · have c1 : o ≤ 1 := Nat.le_of_not_lt (fun q => c1 (nI_lt q (by omega)))
    rw [if_pos c1]
    refine g_iconst (pc := 5) (v := nI 0) C dX7_needs_5 (by decide) ?_
    exact g_ireturn (pc := 6) C ⟨rfl, rfl⟩ dX7_needs_6 ⟨rfl, rfl⟩
theorem one14 (x y : Int64) : oneF 14 x y = if y = 0 then 0 else x - x / y * y := rfl
theorem opC3' : ∀ s, s < 15 → (opC s = 0 ∨ opC s = 1 ∨ opC s = 2 ∨ (2 ≤ s ∧ s ≠ 11 ∧ 5 ≤ opC s)) := by decide
theorem opC3 (s : Nat) (h : s < 15) (h0 : opC s ≠ 0) (h1 : opC s ≠ 1) (h2 : opC s ≠ 2) : 2 ≤ s ∧ s ≠ 11 ∧ 5 ≤ opC s := (((opC3' s h).resolve_left h0).resolve_left h1).resolve_left h2
theorem c_X7_joined (w : Wd) (l : Launch) (S : St) (s : Nat) (hs : 2 ≤ s ∧ s < 15 ∧ s ≠ 11) (x y : Int64) : gx_M w l yX7_joined cX7_joined 5 (some .long) rmX7_joined [.int (nI (opC s)), .long x, .long y] S (pL (oneF s x y) S) := by
  refine gx_start rfl 0 rfl (Nat.le_of_ble_eq_true rfl) ?_
  intro X C _ hl
  subst hl
  refine gx_L (L' := [_, _, _, _, _]) rfl ?_
  refine g_iload_n (pc := 0) C dX7_joined_0 rfl ?_
  have hk : s = 2 ∨ s = 3 ∨ s = 4 ∨ s = 5 ∨ s = 14 ∨ s = 6 ∨ s = 7 ∨ s = 8 ∨ s = 9 ∨ s = 10 ∨ s = 12 ∨ s = 13 := by omega
  rcases hk with rfl | rfl | rfl | rfl | rfl | rfl | rfl | rfl | rfl | rfl | rfl | rfl
  · refine g_tableIn (pc := 1) C 60 dX7_joined_1 (by decide) (by decide) rfl rfl ?_
    refine g_lload_n (pc := 60) C dX7_joined_60 rfl ?_
    refine g_lload_n (pc := 61) C dX7_joined_61 rfl ?_
    refine g_ladd (pc := 62) C dX7_joined_62 ?_
    exact g_lreturn (pc := 63) C ⟨rfl, rfl⟩ dX7_joined_63 (⟨rfl, rfl⟩)
  · refine g_tableIn (pc := 1) C 64 dX7_joined_1 (by decide) (by decide) rfl rfl ?_
    refine g_lload_n (pc := 64) C dX7_joined_64 rfl ?_
    refine g_lload_n (pc := 65) C dX7_joined_65 rfl ?_
    refine g_lsub (pc := 66) C dX7_joined_66 ?_
    exact g_lreturn (pc := 67) C ⟨rfl, rfl⟩ dX7_joined_67 (⟨rfl, rfl⟩)
  · refine g_tableIn (pc := 1) C 68 dX7_joined_1 (by decide) (by decide) rfl rfl ?_
    refine g_lload_n (pc := 68) C dX7_joined_68 rfl ?_
    refine g_lload_n (pc := 69) C dX7_joined_69 rfl ?_
    refine g_lmul (pc := 70) C dX7_joined_70 ?_
    exact g_lreturn (pc := 71) C ⟨rfl, rfl⟩ dX7_joined_71 (⟨rfl, rfl⟩)
  · refine g_tableIn (pc := 1) C 72 dX7_joined_1 (by decide) (by decide) rfl rfl ?_
    refine g_lload_n (pc := 72) C dX7_joined_72 rfl ?_
    refine g_lconst (pc := 73) (v := 0) C dX7_joined_73 (by decide) ?_
    refine g_lcmp (pc := 74) C dX7_joined_74 ?_
    refine g_if_ne (pc := 75) C 82 dX7_joined_75 rfl (fun h => ?_) (fun h => ?_)
    · have h := fun q => h (lg_0.mpr q)
      refine g_lload_n (pc := 82) C dX7_joined_82 rfl ?_
      refine g_lload_n (pc := 83) C dX7_joined_83 rfl ?_
      refine g_ldiv (pc := 84) C dX7_joined_84 h ?_
      exact g_lreturn (pc := 85) C ⟨rfl, rfl⟩ dX7_joined_85 (⟨by simp only [oneF]; rw [if_neg h]; rfl, rfl⟩)
    · have h := lg_0.mp (Decidable.not_not.mp h)
      refine g_lconst (pc := 78) (v := 0) C dX7_joined_78 (by decide) ?_
      refine g_goto (pc := 79) C 85 dX7_joined_79 rfl ?_
      exact g_lreturn (pc := 85) C ⟨rfl, rfl⟩ dX7_joined_85 (⟨by simp [oneF, h], rfl⟩)
  · refine g_tableIn (pc := 1) C 86 dX7_joined_1 (by decide) (by decide) rfl rfl ?_
    refine g_lload_n (pc := 86) C dX7_joined_86 rfl ?_
    refine g_lconst (pc := 87) (v := 0) C dX7_joined_87 (by decide) ?_
    refine g_lcmp (pc := 88) C dX7_joined_88 ?_
    refine g_if_ne (pc := 89) C 96 dX7_joined_89 rfl (fun h => ?_) (fun h => ?_)
    · have h := fun q => h (lg_0.mpr q)
      refine g_lload_n (pc := 96) C dX7_joined_96 rfl ?_
      refine g_lload_n (pc := 97) C dX7_joined_97 rfl ?_
      refine g_lrem (pc := 98) C dX7_joined_98 h ?_
      exact g_lreturn (pc := 99) C ⟨rfl, rfl⟩ dX7_joined_99 (⟨by rw [one14, if_neg h], rfl⟩)
    · have h := lg_0.mp (Decidable.not_not.mp h)
      refine g_lconst (pc := 92) (v := 0) C dX7_joined_92 (by decide) ?_
      refine g_goto (pc := 93) C 99 dX7_joined_93 rfl ?_
      exact g_lreturn (pc := 99) C ⟨rfl, rfl⟩ dX7_joined_99 (⟨by rw [one14, if_pos h], rfl⟩)
  · refine g_tableIn (pc := 1) C 100 dX7_joined_1 (by decide) (by decide) rfl rfl ?_
    refine g_lload_n (pc := 100) C dX7_joined_100 rfl ?_
    refine g_lload_n (pc := 101) C dX7_joined_101 rfl ?_
    refine g_lcmp (pc := 102) C dX7_joined_102 ?_
    refine g_if_ge (pc := 103) C 110 dX7_joined_103 rfl (fun h => ?_) (fun h => ?_)
    · have h : ¬ x < y := Int64.not_lt.mpr (lg_ge.mp h)
      refine g_lconst (pc := 110) (v := 0) C dX7_joined_110 (by decide) ?_
      exact g_lreturn (pc := 111) C ⟨rfl, rfl⟩ dX7_joined_111 (⟨by unfold oneF; simp only [Nat.reduceEqDiff, if_false, if_true, ite_true, ite_false]; rw [if_neg h], rfl⟩)
    · have h : x < y := Int64.not_le.mp (fun q => h (lg_ge.mpr q))
      refine g_lconst (pc := 106) (v := 1) C dX7_joined_106 (by decide) ?_
      refine g_goto (pc := 107) C 111 dX7_joined_107 rfl ?_
      exact g_lreturn (pc := 111) C ⟨rfl, rfl⟩ dX7_joined_111 (⟨by unfold oneF; simp only [Nat.reduceEqDiff, if_false, if_true, ite_true, ite_false]; rw [if_pos h], rfl⟩)
  · refine g_tableIn (pc := 1) C 112 dX7_joined_1 (by decide) (by decide) rfl rfl ?_
    refine g_lload_n (pc := 112) C dX7_joined_112 rfl ?_
    refine g_lload_n (pc := 113) C dX7_joined_113 rfl ?_
    refine g_lcmp (pc := 114) C dX7_joined_114 ?_
    refine g_if_gt (pc := 115) C 122 dX7_joined_115 rfl (fun h => ?_) (fun h => ?_)
    · have h : ¬ x ≤ y := Int64.not_le.mpr (lg_gt.mp h)
      refine g_lconst (pc := 122) (v := 0) C dX7_joined_122 (by decide) ?_
      exact g_lreturn (pc := 123) C ⟨rfl, rfl⟩ dX7_joined_123 (⟨by unfold oneF; simp only [Nat.reduceEqDiff, if_false, if_true, ite_true, ite_false]; rw [if_neg h], rfl⟩)
    · have h : x ≤ y := Int64.not_lt.mp (fun q => h (lg_gt.mpr q))
      refine g_lconst (pc := 118) (v := 1) C dX7_joined_118 (by decide) ?_
      refine g_goto (pc := 119) C 123 dX7_joined_119 rfl ?_
      exact g_lreturn (pc := 123) C ⟨rfl, rfl⟩ dX7_joined_123 (⟨by unfold oneF; simp only [Nat.reduceEqDiff, if_false, if_true, ite_true, ite_false]; rw [if_pos h], rfl⟩)
  · refine g_tableIn (pc := 1) C 124 dX7_joined_1 (by decide) (by decide) rfl rfl ?_
    refine g_lload_n (pc := 124) C dX7_joined_124 rfl ?_
    refine g_lload_n (pc := 125) C dX7_joined_125 rfl ?_
    refine g_lcmp (pc := 126) C dX7_joined_126 ?_
    refine g_if_ne (pc := 127) C 134 dX7_joined_127 rfl (fun h => ?_) (fun h => ?_)
    · have h : ¬ x = y := fun q => h (lg_0.mpr q)
      refine g_lconst (pc := 134) (v := 0) C dX7_joined_134 (by decide) ?_
      exact g_lreturn (pc := 135) C ⟨rfl, rfl⟩ dX7_joined_135 (⟨by unfold oneF; simp only [Nat.reduceEqDiff, if_false, if_true, ite_true, ite_false]; rw [if_neg h], rfl⟩)
    · have h : x = y := lg_0.mp (Decidable.not_not.mp h)
      refine g_lconst (pc := 130) (v := 1) C dX7_joined_130 (by decide) ?_
      refine g_goto (pc := 131) C 135 dX7_joined_131 rfl ?_
      exact g_lreturn (pc := 135) C ⟨rfl, rfl⟩ dX7_joined_135 (⟨by unfold oneF; simp only [Nat.reduceEqDiff, if_false, if_true, ite_true, ite_false]; rw [if_pos h], rfl⟩)
  · refine g_tableIn (pc := 1) C 136 dX7_joined_1 (by decide) (by decide) rfl rfl ?_
    refine g_lload_n (pc := 136) C dX7_joined_136 rfl ?_
    refine g_lload_n (pc := 137) C dX7_joined_137 rfl ?_
    refine g_lcmp (pc := 138) C dX7_joined_138 ?_
    refine g_if_lt (pc := 139) C 146 dX7_joined_139 rfl (fun h => ?_) (fun h => ?_)
    · have h : ¬ y ≤ x := Int64.not_le.mpr (lg_lt.mp h)
      refine g_lconst (pc := 146) (v := 0) C dX7_joined_146 (by decide) ?_
      exact g_lreturn (pc := 147) C ⟨rfl, rfl⟩ dX7_joined_147 (⟨by unfold oneF; simp only [Nat.reduceEqDiff, if_false, if_true, ite_true, ite_false]; rw [if_neg h], rfl⟩)
    · have h : y ≤ x := Int64.not_lt.mp (fun q => h (lg_lt.mpr q))
      refine g_lconst (pc := 142) (v := 1) C dX7_joined_142 (by decide) ?_
      refine g_goto (pc := 143) C 147 dX7_joined_143 rfl ?_
      exact g_lreturn (pc := 147) C ⟨rfl, rfl⟩ dX7_joined_147 (⟨by unfold oneF; simp only [Nat.reduceEqDiff, if_false, if_true, ite_true, ite_false]; rw [if_pos h], rfl⟩)
  · refine g_tableIn (pc := 1) C 148 dX7_joined_1 (by decide) (by decide) rfl rfl ?_
    refine g_lload_n (pc := 148) C dX7_joined_148 rfl ?_
    refine g_lload_n (pc := 149) C dX7_joined_149 rfl ?_
    refine g_lcmp (pc := 150) C dX7_joined_150 ?_
    refine g_if_le (pc := 151) C 158 dX7_joined_151 rfl (fun h => ?_) (fun h => ?_)
    · have h : ¬ y < x := Int64.not_lt.mpr (lg_le.mp h)
      refine g_lconst (pc := 158) (v := 0) C dX7_joined_158 (by decide) ?_
      exact g_lreturn (pc := 159) C ⟨rfl, rfl⟩ dX7_joined_159 (⟨by unfold oneF; simp only [Nat.reduceEqDiff, if_false, if_true, ite_true, ite_false]; rw [if_neg h], rfl⟩)
    · have h : y < x := Int64.not_le.mp (fun q => h (lg_le.mpr q))
      refine g_lconst (pc := 154) (v := 1) C dX7_joined_154 (by decide) ?_
      refine g_goto (pc := 155) C 159 dX7_joined_155 rfl ?_
      exact g_lreturn (pc := 159) C ⟨rfl, rfl⟩ dX7_joined_159 (⟨by unfold oneF; simp only [Nat.reduceEqDiff, if_false, if_true, ite_true, ite_false]; rw [if_pos h], rfl⟩)
  · refine g_tableIn (pc := 1) C 160 dX7_joined_1 (by decide) (by decide) rfl rfl ?_
    refine g_lload_n (pc := 160) C dX7_joined_160 rfl ?_
    refine g_lload_n (pc := 161) C dX7_joined_161 rfl ?_
    refine g_land (pc := 162) C dX7_joined_162 ?_
    exact g_lreturn (pc := 163) C ⟨rfl, rfl⟩ dX7_joined_163 (⟨rfl, rfl⟩)
  · refine g_tableOut (pc := 1) C 164 dX7_joined_1 (Or.inr (by decide)) rfl ?_
    refine g_lload_n (pc := 164) C dX7_joined_164 rfl ?_
    refine g_lload_n (pc := 165) C dX7_joined_165 rfl ?_
    refine g_lor (pc := 166) C dX7_joined_166 ?_
    exact g_lreturn (pc := 167) C ⟨rfl, rfl⟩ dX7_joined_167 (⟨rfl, rfl⟩)
/-- a Rule of the class with the CLAUSES cs -/
def rcS (S : St) (k kc : Nat) (cs : List CL) : Prop := gx_o S k 6 ∧ s_R S 600 k = some kc ∧ gx_a S kc 13 (cdC cs).length ∧ (cdC cs).length ≤ 512 ∧ (∀ j, j < (cdC cs).length → s_A S kc j = nI ((cdC cs).getD j 0)) ∧ ∀ q, q ∈ cs → wfC q
theorem s_B2 (S : St) (k : Nat) (f g : Nat → Int64) : s_setB (s_setB S k f) k g = s_setB S k g := s_BB S k f g
theorem gB_at {S : St} {k : Nat} {g : Nat → Int64} : s_B (s_setB S k g) k = g := if_pos rfl
theorem gB_ne {S : St} {k j : Nat} {g : Nat → Int64} (h : j ≠ k) : s_B (s_setB S k g) j = s_B S j := if_neg h
theorem s_B_id (S : St) (k : Nat) : s_setB S k (s_B S k) = S := by
  have : u1 (s_B S) k (s_B S k) = s_B S := by
    funext j; unfold u1; split
    · rename_i h; rw [h]
    · rfl
  show (_, _, _, _, _, _, _, u1 (s_B S) k (s_B S k), _) = _
  rw [this]; rfl
theorem gd_map {k : List Nat} {f : Nat → Nat} {j : Nat} (h : j < k.length) : (k.map f).getD j 0 = f (k.getD j 0) := by
  rw [List.getD_eq_getElem?_getD, List.getD_eq_getElem?_getD, List.getElem?_map, List.getElem?_eq_getElem h]; rfl
theorem c_X7_sumFor (w : Wd) (l : Launch) (S : St) (k kc kw ks : Nat) (cs : List CL) (h : rcS S k kc cs) (hw : gx_a S kw 14 12) (hst : gx_a S ks 14 40) (hne : kw ≠ ks) : gx_M w l yX7_sumFor cX7_sumFor 7 (some .long) rmX7_sumFor [.ref (ad (w_b w) k), .ref (ad (w_b w) kw), .ref (ad (w_b w) ks)] S (fun v S' => ∃ B', v = some (.long (evC (s_B S kw) cs)) ∧ S' = s_setB S ks B') := by
  obtain ⟨ok, rk, oc, hlen, hcode, hwf⟩ := h
  generalize hpost : (fun (v : Option Value) (S' : St) => ∃ B', v = some (.long (evC (s_B S kw) cs)) ∧ S' = s_setB S ks B') = post
  refine gx_start rfl 4 rfl (Nat.le_of_ble_eq_true rfl) ?_
  intro X C _ hl
  subst hl
  refine gx_L (L' := [_, _, _, _, _, _, _]) rfl ?_
  refine g_iconst (pc := 0) (v := nI 0) C dX7_sumFor_0 (by decide) ?_
  refine g_istore_n (pc := 1) (L' := [_, _, some (.ref _), _, _, _, _]) C dX7_sumFor_1 rfl rfl ?_
  refine g_iconst (pc := 2) (v := nI 0) C dX7_sumFor_2 (by decide) ?_
  refine g_istore (pc := 3) (L' := [_, _, _, some (.int _), _, _, _]) C dX7_sumFor_3 rfl rfl ?_
  /- signs of a text, one behind the other -/
  have tok : ∀ (t : List Nat) (i : Nat) (st r : List Int64) (B : Nat → Int64) z5 z6, (∀ j, j < t.length → (cdC cs).getD (i + j) 0 = clK (t.getD j 0)) → i + t.length ≤ (cdC cs).length → (∀ c, c ∈ t → c < 16000000 ∧ c % 16 < 15 ∧ (c % 16 = 1 → c / 16 < 12)) → evT (s_B S kw) 40 t st = some r → stkB B st → (∀ B' z5 z6, stkB B' r → gx_G w X (s_setB S ks B') 0 0 5 [some (.ref (ad (w_b w) k)), some (.ref (ad (w_b w) kw)), some (.ref (ad (w_b w) ks)), some (.int (nI r.length)), some (.int (nI (i + t.length))), z5, z6] [] (gx_E w X post)) → gx_G w X (s_setB S ks B) 0 0 5 [some (.ref (ad (w_b w) k)), some (.ref (ad (w_b w) kw)), some (.ref (ad (w_b w) ks)), some (.int (nI st.length)), some (.int (nI i)), z5, z6] [] (gx_E w X post) := by
    intro t
    induction t with
    | nil =>
      intro i st r B z5 z6 _ _ _ hev hB hk
      cases hev
      exact hk B z5 z6 hB
    | cons c t ih =>
      intro i st r B z5 z6 hg hi hc hev hB hk
      have hl1 : (c :: t).length = t.length + 1 := rfl
      have hx : (cdC cs).getD i 0 = clK c := hg 0 (by omega)
      have hcc := hc c List.mem_cons_self
      obtain ⟨m1, m2⟩ := clK_m hcc.2.1
      have hop := opC_lt hcc.2.1
      have hbig : clK c < 2 ^ 31 := by unfold clK; omega
      have hval : s_A S kc i = nI (clK c) := (hcode i (by omega)).trans (by rw [hx])
      unfold evT at hev
      have hlt : st.length < 40 := by
        refine Decidable.byContradiction (fun q => ?_)
        rw [if_neg q] at hev; cases hev
      rw [if_pos hlt] at hev
      have next : ∀ (st' : List Int64) B' z5 z6, stepM (s_B S kw) c st = some st' → stkB B' st' → gx_G w X (s_setB S ks B') 0 0 180 [some (.ref (ad (w_b w) k)), some (.ref (ad (w_b w) kw)), some (.ref (ad (w_b w) ks)), some (.int (nI st'.length)), some (.int (nI i)), z5, z6] [] (gx_E w X post) := by
        intro st' B' z5 z6 hs hB'
        rw [hs] at hev
        refine g_iinc (pc := 180) (L' := [_, _, _, some (.int _), _, _, _]) C dX7_sumFor_180 rfl (nI_1 _) rfl ?_
        refine g_goto (pc := 183) C 5 dX7_sumFor_183 rfl ?_
        refine ih (i + 1) st' r B' z5 z6 (fun j hj => ?_) (by omega) (fun c hc' => hc c (List.mem_cons_of_mem _ hc')) hev hB' (fun B2 z5 z6 h2 => ?_)
        · rw [show i + 1 + j = i + (j + 1) by omega, hg (j + 1) (by omega)]; rfl
        · rw [show i + 1 + t.length = i + (c :: t).length by omega]
          exact hk B2 z5 z6 h2
      refine g_iload (pc := 5) C dX7_sumFor_5 rfl ?_
      refine g_aload_n (pc := 7) C dX7_sumFor_7 rfl ?_
      refine fgr_X7_7 (pc := 8) C (by exact ok.1) (zk (by exact ok.2)) (by exact rk) dX7_sumFor_8 ?_
      refine g_alen13 (pc := 11) (n := (cdC cs).length) (v := nI ((cdC cs).length)) C (by exact oc.1) (by exact oc.2.1) (zk (by exact oc.2.2)) rfl dX7_sumFor_11 ?_
      refine g_icmp_ge (pc := 12) C 186 dX7_sumFor_12 rfl (fun c1 => ?_) (fun c1 => ?_)
      · exact absurd c1 (nI_ge (by omega) (by omega))
      · refine g_aload_n (pc := 15) C dX7_sumFor_15 rfl ?_
        refine fgr_X7_7 (pc := 16) C (by exact ok.1) (zk (by exact ok.2)) (by exact rk) dX7_sumFor_16 ?_
        refine g_iload (pc := 19) C dX7_sumFor_19 rfl ?_
        refine n_iald (pc := 21) (n := (cdC cs).length) C (by exact oc.1) (by exact oc.2.1) (zk (by exact oc.2.2)) isn_v (blt_of (by omega)) (by omega) dX7_sumFor_21 ?_
        refine gx_ti (y := nI (clK c)) hval ?_
        refine g_bipush (pc := 22) (v := nI 32) C dX7_sumFor_22 (by decide) ?_
        refine g_irem (pc := 24) C dX7_sumFor_24 (by decide) ?_
        refine gx_ti (y := nI (opC (c % 16))) ((pk_rem hbig (by omega) (by omega)).trans (by rw [m1])) ?_
        refine g_istore (pc := 25) (L' := [_, _, _, _, some (.int _), _, _]) C dX7_sumFor_25 rfl rfl ?_
        refine g_aload_n (pc := 27) C dX7_sumFor_27 rfl ?_
        refine fgr_X7_7 (pc := 28) C (by exact ok.1) (zk (by exact ok.2)) (by exact rk) dX7_sumFor_28 ?_
        refine g_iload (pc := 31) C dX7_sumFor_31 rfl ?_
        refine n_iald (pc := 33) (n := (cdC cs).length) C (by exact oc.1) (by exact oc.2.1) (zk (by exact oc.2.2)) isn_v (blt_of (by omega)) (by omega) dX7_sumFor_33 ?_
        refine gx_ti (y := nI (clK c)) hval ?_
        refine g_bipush (pc := 34) (v := nI 32) C dX7_sumFor_34 (by decide) ?_
        refine g_idiv (pc := 36) C dX7_sumFor_36 (by decide) ?_
        refine gx_ti (y := nI (c / 16)) ((pk_div hbig (by omega) (by omega)).trans (by rw [m2])) ?_
        refine g_istore (pc := 37) (L' := [_, _, _, _, _, some (.int _), _]) C dX7_sumFor_37 rfl rfl ?_
        refine g_iload_n (pc := 39) C dX7_sumFor_39 rfl ?_
        refine g_iload (pc := 40) C dX7_sumFor_40 rfl ?_
        refine cf_X7_13 (pc := 42) C (c_X7_needs _ _ _ (opC (c % 16)) (by omega)) ⟨rfl, rfl⟩ ⟨rfl, rfl⟩ ⟨Nat.zero_le _, Nat.zero_le _⟩ rfl (Nat.le_of_ble_eq_true rfl) dX7_sumFor_42 ?_
        /- how many it needs -/
        have hneed : ndF (opC (c % 16)) ≤ st.length := by
          cases hs : stepM (s_B S kw) c st with
          | none => rw [hs] at hev; cases hev
          | some st' =>
            unfold stepM at hs
            by_cases e0 : c % 16 = 0
            · rw [e0]; exact Nat.zero_le _
            · rw [if_neg e0] at hs
              by_cases e1 : c % 16 = 1
              · rw [e1]; exact Nat.zero_le _
              · rw [if_neg e1] at hs
                by_cases e11 : c % 16 = 11
                · rw [e11]
                  rw [if_pos e11] at hs
                  match st, hs with
                  | x :: st, _ => show 1 ≤ st.length + 1; omega
                · rw [if_neg e11] at hs
                  have : ndF (opC (c % 16)) ≤ 2 := by unfold ndF; (repeat' split) <;> omega
                  match st, hs with
                  | y :: x :: st, _ => simp only [List.length_cons]; omega
        refine g_icmp_lt (pc := 45) C 54 dX7_sumFor_45 rfl (fun c2 => ?_) (fun c2 => ?_)
        · exact absurd c2 (nI_nlt hneed (by omega))
        · refine g_iload_n (pc := 48) C dX7_sumFor_48 rfl ?_
          refine g_aload_n (pc := 49) C dX7_sumFor_49 rfl ?_
          refine g_alen14 (pc := 50) (n := 40) (v := nI (40)) C (by exact hst.1) (by exact hst.2.1) (zk (by exact hst.2.2)) rfl dX7_sumFor_50 ?_
          refine g_icmp_lt (pc := 51) C 56 dX7_sumFor_51 rfl (fun c3 => ?_) (fun c3 => ?_)
          · refine g_iload (pc := 56) C dX7_sumFor_56 rfl ?_
            refine g_if_ne (pc := 58) C 73 dX7_sumFor_58 rfl (fun c4 => ?_) (fun c4 => ?_)
            · have c4 : ¬ opC (c % 16) = 0 := fun q => c4 (by rw [q]; rfl)
              refine g_iload (pc := 73) C dX7_sumFor_73 rfl ?_
              refine g_iconst (pc := 75) (v := nI 1) C dX7_sumFor_75 (by decide) ?_
              refine g_icmp_ne (pc := 76) C 103 dX7_sumFor_76 rfl (fun c5 => ?_) (fun c5 => ?_)
              · have c5 : ¬ opC (c % 16) = 1 := fun q => c5 (by rw [q])
                refine g_iload (pc := 103) C dX7_sumFor_103 rfl ?_
                refine g_iconst (pc := 105) (v := nI 2) C dX7_sumFor_105 (by decide) ?_
                refine g_icmp_ne (pc := 106) C 124 dX7_sumFor_106 rfl (fun c6 => ?_) (fun c6 => ?_)
                · have c6 : ¬ opC (c % 16) = 2 := fun q => c6 (by rw [q])
                  have hs3 : 2 ≤ c % 16 ∧ c % 16 < 15 ∧ c % 16 ≠ 11 ∧ 5 ≤ opC (c % 16) := by
                    obtain ⟨q1, q2, q3⟩ := opC3 _ hcc.2.1 c4 c5 c6
                    exact ⟨q1, hcc.2.1, q2, q3⟩
                  refine g_iload (pc := 124) C dX7_sumFor_124 rfl ?_
                  refine g_iconst (pc := 126) (v := nI 3) C dX7_sumFor_126 (by decide) ?_
                  refine g_icmp_ne (pc := 127) C 136 dX7_sumFor_127 rfl (fun c7 => ?_) (fun c7 => ?_)
                  · refine g_iload (pc := 136) C dX7_sumFor_136 rfl ?_
                    refine g_iconst (pc := 138) (v := nI 4) C dX7_sumFor_138 (by decide) ?_
                    refine g_icmp_ne (pc := 139) C 159 dX7_sumFor_139 rfl (fun c8 => ?_) (fun c8 => ?_)
                    · match st, hB, hlt, hneed, hev, next with
                      | y :: x :: st, hB, hlt, hneed, hev, next =>
                        simp only [List.length_cons] at hlt
                        have ex : B st.length = x := hB.2.1
                        have ey : B (st.length + 1) = y := hB.1
                        refine g_iinc (pc := 159) (L' := [_, _, some (.ref _), _, _, _, _]) C dX7_sumFor_159 rfl (pk_m1 (st.length + 1)) rfl ?_
                        refine g_aload_n (pc := 162) C dX7_sumFor_162 rfl ?_
                        refine g_iload_n (pc := 163) C dX7_sumFor_163 rfl ?_
                        refine g_iconst (pc := 164) (v := nI 1) C dX7_sumFor_164 (by decide) ?_
                        refine g_isub (pc := 165) C dX7_sumFor_165 ?_
                        refine gx_ti (y := nI st.length) (nI_pred st.length) ?_
                        refine g_iload (pc := 166) C dX7_sumFor_166 rfl ?_
                        refine g_aload_n (pc := 168) C dX7_sumFor_168 rfl ?_
                        refine g_iload_n (pc := 169) C dX7_sumFor_169 rfl ?_
                        refine g_iconst (pc := 170) (v := nI 1) C dX7_sumFor_170 (by decide) ?_
                        refine g_isub (pc := 171) C dX7_sumFor_171 ?_
                        refine gx_ti (y := nI st.length) (nI_pred st.length) ?_
                        refine n_lald (pc := 172) (n := 40) C (by exact hst.1) (by exact hst.2.1) (zk (by exact hst.2.2)) rfl rfl (by omega) dX7_sumFor_172 ?_
                        refine gx_tl (y := x) ((congrFun gB_at _).trans ex) ?_
                        refine g_aload_n (pc := 173) C dX7_sumFor_173 rfl ?_
                        refine g_iload_n (pc := 174) C dX7_sumFor_174 rfl ?_
                        refine n_lald (pc := 175) (n := 40) C (by exact hst.1) (by exact hst.2.1) (zk (by exact hst.2.2)) rfl rfl (by omega) dX7_sumFor_175 ?_
                        refine gx_tl (y := y) ((congrFun gB_at _).trans ey) ?_
                        refine cf_X7_17 (pc := 176) C (c_X7_joined _ _ _ (c % 16) ⟨hs3.1, hs3.2.1, hs3.2.2.1⟩ x y) ⟨rfl, rfl⟩ ⟨rfl, rfl⟩ ⟨Nat.zero_le _, Nat.zero_le _⟩ rfl (Nat.le_of_ble_eq_true rfl) dX7_sumFor_176 ?_
                        refine n_last (pc := 179) (n := 40) C (by exact hst.1) (by exact hst.2.1) (zk (by exact hst.2.2)) rfl rfl (by omega) dX7_sumFor_179 ?_
                        refine gx_S (S' := s_setB S ks (vp_updL B st.length (oneF (c % 16) x y))) (by rw [gB_at, s_BB]) ?_
                        refine next (oneF (c % 16) x y :: st) _ _ _ ?_ (stkB_push hB.2.2)
                        unfold stepM
                        rw [if_neg (by omega), if_neg (by omega), if_neg hs3.2.2.1]
                      | [], _, _, hneed, _, _ => exact absurd hneed (by show ¬ ndF _ ≤ 0; unfold ndF; rw [if_neg (by omega), if_neg (by omega)]; omega)
                      | [_], _, _, hneed, _, _ => exact absurd hneed (by show ¬ ndF _ ≤ 1; unfold ndF; rw [if_neg (by omega), if_neg (by omega)]; omega)
                    · exact absurd ((nI_eq (by omega) (by omega)).mp (Decidable.not_not.mp c8)) (by omega)
                  · exact absurd ((nI_eq (by omega) (by omega)).mp (Decidable.not_not.mp c7)) (by omega)
                · have c6 : opC (c % 16) = 2 := (nI_eq (by omega) (by omega)).mp (Decidable.not_not.mp c6)
                  have hs11 : c % 16 = 11 := by
                    have := hcc.2.1
                    unfold opC at c6
                    (repeat' split at c6) <;> omega
                  match st, hB, hlt, hneed, hev, next with
                  | x :: st, hB, hlt, hneed, hev, next =>
                    simp only [List.length_cons] at hlt
                    have ex : B st.length = x := hB.1
                    refine g_aload_n (pc := 109) C dX7_sumFor_109 rfl ?_
                    refine g_iload_n (pc := 110) C dX7_sumFor_110 rfl ?_
                    refine g_iconst (pc := 111) (v := nI 1) C dX7_sumFor_111 (by decide) ?_
                    refine g_isub (pc := 112) C dX7_sumFor_112 ?_
                    refine gx_ti (y := nI st.length) (nI_pred st.length) ?_
                    refine g_lconst (pc := 113) (v := 1) C dX7_sumFor_113 (by decide) ?_
                    refine g_aload_n (pc := 114) C dX7_sumFor_114 rfl ?_
                    refine g_iload_n (pc := 115) C dX7_sumFor_115 rfl ?_
                    refine g_iconst (pc := 116) (v := nI 1) C dX7_sumFor_116 (by decide) ?_
                    refine g_isub (pc := 117) C dX7_sumFor_117 ?_
                    refine gx_ti (y := nI st.length) (nI_pred st.length) ?_
                    refine n_lald (pc := 118) (n := 40) C (by exact hst.1) (by exact hst.2.1) (zk (by exact hst.2.2)) rfl rfl (by omega) dX7_sumFor_118 ?_
                    refine gx_tl (y := x) ((congrFun gB_at _).trans ex) ?_
                    refine g_lsub (pc := 119) C dX7_sumFor_119 ?_
                    refine n_last (pc := 120) (n := 40) C (by exact hst.1) (by exact hst.2.1) (zk (by exact hst.2.2)) rfl rfl (by omega) dX7_sumFor_120 ?_
                    refine gx_S (S' := s_setB S ks (vp_updL B st.length (1 - x))) (by rw [gB_at, s_BB]) ?_
                    refine g_goto (pc := 121) C 180 dX7_sumFor_121 rfl ?_
                    refine next ((1 - x) :: st) _ _ _ ?_ (stkB_push hB.2)
                    unfold stepM
                    rw [if_neg (by omega), if_neg (by omega), if_pos hs11]
                  | [], _, _, hneed, _, _ => exact absurd hneed (by show ¬ ndF _ ≤ 0; rw [c6]; decide)
              · have c5 : opC (c % 16) = 1 := (nI_eq (by omega) (by omega)).mp (Decidable.not_not.mp c5)
                have hs1 : c % 16 = 1 := by
                  have := hcc.2.1
                  unfold opC at c5
                  (repeat' split at c5) <;> omega
                have h12 := hcc.2.2 hs1
                refine g_aload_n (pc := 79) C dX7_sumFor_79 rfl ?_
                refine g_iload_n (pc := 80) C dX7_sumFor_80 rfl ?_
                refine g_iinc (pc := 81) (L' := [_, _, some (.ref _), _, _, _, _]) C dX7_sumFor_81 rfl (nI_1 _) rfl ?_
                refine g_iload (pc := 84) C dX7_sumFor_84 rfl ?_
                refine g_aload_n (pc := 86) C dX7_sumFor_86 rfl ?_
                refine g_alen14 (pc := 87) (n := 12) (v := nI (12)) C (by exact hw.1) (by exact hw.2.1) (zk (by exact hw.2.2)) rfl dX7_sumFor_87 ?_
                refine g_icmp_ge (pc := 88) C 98 dX7_sumFor_88 rfl (fun c6 => ?_) (fun c6 => ?_)
                · exact absurd c6 (nI_ge h12 (by omega))
                · refine g_aload_n (pc := 91) C dX7_sumFor_91 rfl ?_
                  refine g_iload (pc := 92) C dX7_sumFor_92 rfl ?_
                  refine n_lald (pc := 94) (n := 12) C (by exact hw.1) (by exact hw.2.1) (zk (by exact hw.2.2)) isn_v rfl h12 dX7_sumFor_94 ?_
                  refine gx_tl (y := s_B S kw (c / 16)) (congrFun (gB_ne hne) _) ?_
                  refine g_goto (pc := 95) C 99 dX7_sumFor_95 rfl ?_
                  refine n_last (pc := 99) (n := 40) C (by exact hst.1) (by exact hst.2.1) (zk (by exact hst.2.2)) rfl rfl (by omega) dX7_sumFor_99 ?_
                  refine gx_S (S' := s_setB S ks (vp_updL B st.length (s_B S kw (c / 16)))) (by rw [gB_at, s_BB]) ?_
                  refine g_goto (pc := 100) C 180 dX7_sumFor_100 rfl ?_
                  refine next (s_B S kw (c / 16) :: st) _ _ _ ?_ (stkB_push hB)
                  unfold stepM
                  rw [if_neg (by omega), if_pos hs1, if_pos ⟨by omega, h12⟩]
            · have c4 : opC (c % 16) = 0 := (nI_eq (b := 0) (by omega) (by omega)).mp (Decidable.not_not.mp c4)
              have hs0 : c % 16 = 0 := by
                have := hcc.2.1
                unfold opC at c4
                (repeat' split at c4) <;> omega
              refine g_aload_n (pc := 61) C dX7_sumFor_61 rfl ?_
              refine g_iload_n (pc := 62) C dX7_sumFor_62 rfl ?_
              refine g_iinc (pc := 63) (L' := [_, _, some (.ref _), _, _, _, _]) C dX7_sumFor_63 rfl (nI_1 _) rfl ?_
              refine g_iload (pc := 66) C dX7_sumFor_66 rfl ?_
              refine g_i2l (pc := 68) C dX7_sumFor_68 ?_
              refine gx_tl (y := lN (c / 16)) (nI_l (by omega)) ?_
              refine n_last (pc := 69) (n := 40) C (by exact hst.1) (by exact hst.2.1) (zk (by exact hst.2.2)) rfl rfl (by omega) dX7_sumFor_69 ?_
              refine gx_S (S' := s_setB S ks (vp_updL B st.length (lN (c / 16)))) (by rw [gB_at, s_BB]) ?_
              refine g_goto (pc := 70) C 180 dX7_sumFor_70 rfl ?_
              refine next (lN (c / 16) :: st) _ _ _ ?_ (stkB_push hB)
              unfold stepM
              rw [if_pos hs0, if_pos (by omega)]
          · exact absurd (nI_lt hlt (by omega)) c3
  have main : ∀ (r : List CL) (pre : List Nat) (B : Nat → Int64) z5 z6, cdC cs = pre ++ cdC r → (∀ q, q ∈ r → wfC q) → evC (s_B S kw) cs = evC (s_B S kw) r → gx_G w X (s_setB S ks B) 0 0 5 [some (.ref (ad (w_b w) k)), some (.ref (ad (w_b w) kw)), some (.ref (ad (w_b w) ks)), some (.int (nI 0)), some (.int (nI pre.length)), z5, z6] [] (gx_E w X post) := by
    intro r
    induction r with
    | nil =>
      intro pre B z5 z6 hcd hq hev
      have hl : (cdC cs).length = pre.length := by rw [hcd]; simp [cdC]
      refine g_iload (pc := 5) C dX7_sumFor_5 rfl ?_
      refine g_aload_n (pc := 7) C dX7_sumFor_7 rfl ?_
      refine fgr_X7_7 (pc := 8) C (by exact ok.1) (zk (by exact ok.2)) (by exact rk) dX7_sumFor_8 ?_
      refine g_alen13 (pc := 11) (n := (cdC cs).length) (v := nI ((cdC cs).length)) C (by exact oc.1) (by exact oc.2.1) (zk (by exact oc.2.2)) rfl dX7_sumFor_11 ?_
      refine g_icmp_ge (pc := 12) C 186 dX7_sumFor_12 rfl (fun c1 => ?_) (fun c1 => ?_)
      · refine g_lconst (pc := 186) (v := 0) C dX7_sumFor_186 (by decide) ?_
        rw [← hpost]
        exact g_lreturn (pc := 187) C ⟨rfl, rfl⟩ dX7_sumFor_187 ⟨B, by rw [hev]; rfl, rfl⟩
      · exact absurd (nI_le (by omega) (by omega)) c1
    | cons q r ih =>
      intro pre B z5 z6 hcd hq hev
      obtain ⟨k1, k2⟩ := q
      have w := hq _ List.mem_cons_self
      have e1 := evV_eq w.1 (by omega) (s_B S kw)
      cases k2 with
      | none =>
        have hcd : cdC cs = pre ++ (k1.map clK ++ [3] ++ cdC r) := hcd
        have hl : (cdC cs).length = pre.length + (k1.length + 1 + (cdC r).length) := by rw [hcd]; simp; omega
        have hev : evC (s_B S kw) cs = evV (s_B S kw) k1 := hev
        refine tok k1 pre.length [] [evV (s_B S kw) k1] B z5 z6 (fun j hj => ?_) (by omega) (w.1.1) (e1.2 [] 40 (by simp) (by omega)) trivial (fun B' z5 z6 hB' => ?_)
        · rw [hcd, gd_r (by omega), show pre.length + j - pre.length = j by omega, List.append_assoc, gd_l (by simpa using hj), gd_map hj]
        · have hval : s_A S kc (pre.length + k1.length) = nI 3 := by
            rw [hcode _ (by omega), hcd, gd_r (by omega), show pre.length + k1.length - pre.length = k1.length by omega, List.append_assoc, gd_r (by simp), show k1.length - (k1.map clK).length = 0 by simp]
            rfl
          refine g_iload (pc := 5) C dX7_sumFor_5 rfl ?_
          refine g_aload_n (pc := 7) C dX7_sumFor_7 rfl ?_
          refine fgr_X7_7 (pc := 8) C (by exact ok.1) (zk (by exact ok.2)) (by exact rk) dX7_sumFor_8 ?_
          refine g_alen13 (pc := 11) (n := (cdC cs).length) (v := nI ((cdC cs).length)) C (by exact oc.1) (by exact oc.2.1) (zk (by exact oc.2.2)) rfl dX7_sumFor_11 ?_
          refine g_icmp_ge (pc := 12) C 186 dX7_sumFor_12 rfl (fun c1 => ?_) (fun c1 => ?_)
          · exact absurd c1 (nI_ge (by omega) (by omega))
          · refine g_aload_n (pc := 15) C dX7_sumFor_15 rfl ?_
            refine fgr_X7_7 (pc := 16) C (by exact ok.1) (zk (by exact ok.2)) (by exact rk) dX7_sumFor_16 ?_
            refine g_iload (pc := 19) C dX7_sumFor_19 rfl ?_
            refine n_iald (pc := 21) (n := (cdC cs).length) C (by exact oc.1) (by exact oc.2.1) (zk (by exact oc.2.2)) isn_v (blt_of (by omega)) (by omega) dX7_sumFor_21 ?_
            refine gx_ti (y := nI 3) hval ?_
            refine g_bipush (pc := 22) (v := nI 32) C dX7_sumFor_22 (by decide) ?_
            refine g_irem (pc := 24) C dX7_sumFor_24 (by decide) ?_
            refine gx_ti (y := nI 3) (by decide) ?_
            refine g_istore (pc := 25) (L' := [_, _, _, _, some (.int _), _, _]) C dX7_sumFor_25 rfl rfl ?_
            refine g_aload_n (pc := 27) C dX7_sumFor_27 rfl ?_
            refine fgr_X7_7 (pc := 28) C (by exact ok.1) (zk (by exact ok.2)) (by exact rk) dX7_sumFor_28 ?_
            refine g_iload (pc := 31) C dX7_sumFor_31 rfl ?_
            refine n_iald (pc := 33) (n := (cdC cs).length) C (by exact oc.1) (by exact oc.2.1) (zk (by exact oc.2.2)) isn_v (blt_of (by omega)) (by omega) dX7_sumFor_33 ?_
            refine gx_ti (y := nI 3) hval ?_
            refine g_bipush (pc := 34) (v := nI 32) C dX7_sumFor_34 (by decide) ?_
            refine g_idiv (pc := 36) C dX7_sumFor_36 (by decide) ?_
            refine gx_ti (y := nI 0) (by decide) ?_
            refine g_istore (pc := 37) (L' := [_, _, _, _, _, some (.int _), _]) C dX7_sumFor_37 rfl rfl ?_
            refine g_iload_n (pc := 39) C dX7_sumFor_39 rfl ?_
            refine g_iload (pc := 40) C dX7_sumFor_40 rfl ?_
            refine cf_X7_13 (pc := 42) C (c_X7_needs _ _ _ 3 (by omega)) ⟨rfl, rfl⟩ ⟨rfl, rfl⟩ ⟨Nat.zero_le _, Nat.zero_le _⟩ rfl (Nat.le_of_ble_eq_true rfl) dX7_sumFor_42 ?_
            refine g_icmp_lt (pc := 45) C 54 dX7_sumFor_45 rfl (fun c2 => ?_) (fun c2 => ?_)
            · exact absurd c2 (show ¬ nI 1 < nI 1 by decide)
            · refine g_iload_n (pc := 48) C dX7_sumFor_48 rfl ?_
              refine g_aload_n (pc := 49) C dX7_sumFor_49 rfl ?_
              refine g_alen14 (pc := 50) (n := 40) (v := nI (40)) C (by exact hst.1) (by exact hst.2.1) (zk (by exact hst.2.2)) rfl dX7_sumFor_50 ?_
              refine g_icmp_lt (pc := 51) C 56 dX7_sumFor_51 rfl (fun c3 => ?_) (fun c3 => ?_)
              · refine g_iload (pc := 56) C dX7_sumFor_56 rfl ?_
                refine g_if_ne (pc := 58) C 73 dX7_sumFor_58 rfl (fun c4 => ?_) (fun c4 => ?_)
                · refine g_iload (pc := 73) C dX7_sumFor_73 rfl ?_
                  refine g_iconst (pc := 75) (v := nI 1) C dX7_sumFor_75 (by decide) ?_
                  refine g_icmp_ne (pc := 76) C 103 dX7_sumFor_76 rfl (fun c5 => ?_) (fun c5 => ?_)
                  · refine g_iload (pc := 103) C dX7_sumFor_103 rfl ?_
                    refine g_iconst (pc := 105) (v := nI 2) C dX7_sumFor_105 (by decide) ?_
                    refine g_icmp_ne (pc := 106) C 124 dX7_sumFor_106 rfl (fun c6 => ?_) (fun c6 => ?_)
                    · refine g_iload (pc := 124) C dX7_sumFor_124 rfl ?_
                      refine g_iconst (pc := 126) (v := nI 3) C dX7_sumFor_126 (by decide) ?_
                      refine g_icmp_ne (pc := 127) C 136 dX7_sumFor_127 rfl (fun c7 => ?_) (fun c7 => ?_)
                      · exact absurd rfl c7
                      · refine g_aload_n (pc := 130) C dX7_sumFor_130 rfl ?_
                        refine g_iload_n (pc := 131) C dX7_sumFor_131 rfl ?_
                        refine g_iconst (pc := 132) (v := nI 1) C dX7_sumFor_132 (by decide) ?_
                        refine g_isub (pc := 133) C dX7_sumFor_133 ?_
                        refine n_lald (pc := 134) (n := 40) C (by exact hst.1) (by exact hst.2.1) (zk (by exact hst.2.2)) (nI_pred 0) rfl (by omega) dX7_sumFor_134 ?_
                        rw [← hpost]
                        refine gx_tl (y := evV (s_B S kw) k1) ((congrFun gB_at _).trans hB'.1) ?_
                        exact g_lreturn (pc := 135) C ⟨rfl, rfl⟩ dX7_sumFor_135 ⟨B', by rw [hev], rfl⟩
                    · exact absurd (Decidable.not_not.mp c6) (by decide)
                  · exact absurd (Decidable.not_not.mp c5) (by decide)
                · exact absurd (Decidable.not_not.mp c4) (by decide)
              · exact absurd (show nI 1 < nI 40 by decide) c3
      | some k2 =>
        have hcd : cdC cs = pre ++ (k1.map clK ++ k2.map clK ++ [4] ++ cdC r) := hcd
        have hl : (cdC cs).length = pre.length + (k1.length + k2.length + 1 + (cdC r).length) := by rw [hcd]; simp; omega
        have hev : evC (s_B S kw) cs = if evV (s_B S kw) k2 = 1 then evV (s_B S kw) k1 else evC (s_B S kw) r := hev
        have w2 := w.2 k2 rfl
        have e2 := evV_eq w2 (by omega) (s_B S kw)
        refine tok k1 pre.length [] [evV (s_B S kw) k1] B z5 z6 (fun j hj => ?_) (by omega) (w.1.1) (e1.2 [] 40 (by simp) (by omega)) trivial (fun B1 z5 z6 hB1 => ?_)
        · rw [hcd, gd_r (by omega), show pre.length + j - pre.length = j by omega, List.append_assoc, List.append_assoc, gd_l (by simpa using hj), gd_map hj]
        · refine tok k2 (pre.length + k1.length) [evV (s_B S kw) k1] [evV (s_B S kw) k2, evV (s_B S kw) k1] B1 z5 z6 (fun j hj => ?_) (by omega) (w2.1) (e2.2 _ 40 (by simp) (by omega)) hB1 (fun B' z5 z6 hB' => ?_)
          · rw [hcd, gd_r (by omega), show pre.length + k1.length + j - pre.length = k1.length + j by omega, List.append_assoc, List.append_assoc, gd_r (by simp), show k1.length + j - (k1.map clK).length = j by simp, gd_l (by simpa using hj), gd_map hj]
          · have hval : s_A S kc (pre.length + k1.length + k2.length) = nI 4 := by
              rw [hcode _ (by omega), hcd, gd_r (by omega), show pre.length + k1.length + k2.length - pre.length = k1.length + k2.length by omega, List.append_assoc, List.append_assoc, gd_r (by simp), show k1.length + k2.length - (k1.map clK).length = k2.length by simp, gd_r (by simp), show k2.length - (k2.map clK).length = 0 by simp]
              rfl
            refine g_iload (pc := 5) C dX7_sumFor_5 rfl ?_
            refine g_aload_n (pc := 7) C dX7_sumFor_7 rfl ?_
            refine fgr_X7_7 (pc := 8) C (by exact ok.1) (zk (by exact ok.2)) (by exact rk) dX7_sumFor_8 ?_
            refine g_alen13 (pc := 11) (n := (cdC cs).length) (v := nI ((cdC cs).length)) C (by exact oc.1) (by exact oc.2.1) (zk (by exact oc.2.2)) rfl dX7_sumFor_11 ?_
            refine g_icmp_ge (pc := 12) C 186 dX7_sumFor_12 rfl (fun c1 => ?_) (fun c1 => ?_)
            · exact absurd c1 (nI_ge (by omega) (by omega))
            · refine g_aload_n (pc := 15) C dX7_sumFor_15 rfl ?_
              refine fgr_X7_7 (pc := 16) C (by exact ok.1) (zk (by exact ok.2)) (by exact rk) dX7_sumFor_16 ?_
              refine g_iload (pc := 19) C dX7_sumFor_19 rfl ?_
              refine n_iald (pc := 21) (n := (cdC cs).length) C (by exact oc.1) (by exact oc.2.1) (zk (by exact oc.2.2)) isn_v (blt_of (by omega)) (by omega) dX7_sumFor_21 ?_
              refine gx_ti (y := nI 4) hval ?_
              refine g_bipush (pc := 22) (v := nI 32) C dX7_sumFor_22 (by decide) ?_
              refine g_irem (pc := 24) C dX7_sumFor_24 (by decide) ?_
              refine gx_ti (y := nI 4) (by decide) ?_
              refine g_istore (pc := 25) (L' := [_, _, _, _, some (.int _), _, _]) C dX7_sumFor_25 rfl rfl ?_
              refine g_aload_n (pc := 27) C dX7_sumFor_27 rfl ?_
              refine fgr_X7_7 (pc := 28) C (by exact ok.1) (zk (by exact ok.2)) (by exact rk) dX7_sumFor_28 ?_
              refine g_iload (pc := 31) C dX7_sumFor_31 rfl ?_
              refine n_iald (pc := 33) (n := (cdC cs).length) C (by exact oc.1) (by exact oc.2.1) (zk (by exact oc.2.2)) isn_v (blt_of (by omega)) (by omega) dX7_sumFor_33 ?_
              refine gx_ti (y := nI 4) hval ?_
              refine g_bipush (pc := 34) (v := nI 32) C dX7_sumFor_34 (by decide) ?_
              refine g_idiv (pc := 36) C dX7_sumFor_36 (by decide) ?_
              refine gx_ti (y := nI 0) (by decide) ?_
              refine g_istore (pc := 37) (L' := [_, _, _, _, _, some (.int _), _]) C dX7_sumFor_37 rfl rfl ?_
              refine g_iload_n (pc := 39) C dX7_sumFor_39 rfl ?_
              refine g_iload (pc := 40) C dX7_sumFor_40 rfl ?_
              refine cf_X7_13 (pc := 42) C (c_X7_needs _ _ _ 4 (by omega)) ⟨rfl, rfl⟩ ⟨rfl, rfl⟩ ⟨Nat.zero_le _, Nat.zero_le _⟩ rfl (Nat.le_of_ble_eq_true rfl) dX7_sumFor_42 ?_
              refine g_icmp_lt (pc := 45) C 54 dX7_sumFor_45 rfl (fun c2 => ?_) (fun c2 => ?_)
              · exact absurd c2 (show ¬ nI 2 < nI 2 by decide)
              · refine g_iload_n (pc := 48) C dX7_sumFor_48 rfl ?_
                refine g_aload_n (pc := 49) C dX7_sumFor_49 rfl ?_
                refine g_alen14 (pc := 50) (n := 40) (v := nI (40)) C (by exact hst.1) (by exact hst.2.1) (zk (by exact hst.2.2)) rfl dX7_sumFor_50 ?_
                refine g_icmp_lt (pc := 51) C 56 dX7_sumFor_51 rfl (fun c3 => ?_) (fun c3 => ?_)
                · refine g_iload (pc := 56) C dX7_sumFor_56 rfl ?_
                  refine g_if_ne (pc := 58) C 73 dX7_sumFor_58 rfl (fun c4 => ?_) (fun c4 => ?_)
                  · refine g_iload (pc := 73) C dX7_sumFor_73 rfl ?_
                    refine g_iconst (pc := 75) (v := nI 1) C dX7_sumFor_75 (by decide) ?_
                    refine g_icmp_ne (pc := 76) C 103 dX7_sumFor_76 rfl (fun c5 => ?_) (fun c5 => ?_)
                    · refine g_iload (pc := 103) C dX7_sumFor_103 rfl ?_
                      refine g_iconst (pc := 105) (v := nI 2) C dX7_sumFor_105 (by decide) ?_
                      refine g_icmp_ne (pc := 106) C 124 dX7_sumFor_106 rfl (fun c6 => ?_) (fun c6 => ?_)
                      · refine g_iload (pc := 124) C dX7_sumFor_124 rfl ?_
                        refine g_iconst (pc := 126) (v := nI 3) C dX7_sumFor_126 (by decide) ?_
                        refine g_icmp_ne (pc := 127) C 136 dX7_sumFor_127 rfl (fun c7 => ?_) (fun c7 => ?_)
                        · refine g_iload (pc := 136) C dX7_sumFor_136 rfl ?_
                          refine g_iconst (pc := 138) (v := nI 4) C dX7_sumFor_138 (by decide) ?_
                          refine g_icmp_ne (pc := 139) C 159 dX7_sumFor_139 rfl (fun c8 => ?_) (fun c8 => ?_)
                          · exact absurd rfl c8
                          · refine g_iinc (pc := 142) (L' := [_, _, some (.ref _), _, _, _, _]) C dX7_sumFor_142 rfl (show nI 2 + Int32.ofInt (-2) = nI 0 by decide) rfl ?_
                            refine g_aload_n (pc := 145) C dX7_sumFor_145 rfl ?_
                            refine g_iload_n (pc := 146) C dX7_sumFor_146 rfl ?_
                            refine g_iconst (pc := 147) (v := nI 1) C dX7_sumFor_147 (by decide) ?_
                            refine g_iadd (pc := 148) C dX7_sumFor_148 ?_
                            refine n_lald (pc := 149) (n := 40) C (by exact hst.1) (by exact hst.2.1) (zk (by exact hst.2.2)) (show nI 0 + nI 1 = nI 1 by decide) rfl (by omega) dX7_sumFor_149 ?_
                            refine gx_tl (y := evV (s_B S kw) k2) ((congrFun gB_at _).trans hB'.1) ?_
                            refine g_lconst (pc := 150) (v := 0) C dX7_sumFor_150 (by decide) ?_
                            refine g_lcmp (pc := 151) C dX7_sumFor_151 ?_
                            refine g_if_eq (pc := 152) C 180 dX7_sumFor_152 rfl (fun c9 => ?_) (fun c9 => ?_)
                            · have c9 : evV (s_B S kw) k2 = 0 := lg_0.mp c9
                              rw [c9, if_neg (by decide)] at hev
                              refine g_iinc (pc := 180) (L' := [_, _, _, some (.int _), _, _, _]) C dX7_sumFor_180 rfl (nI_1 _) rfl ?_
                              refine g_goto (pc := 183) C 5 dX7_sumFor_183 rfl ?_
                              have := ih (pre ++ (k1.map clK ++ k2.map clK ++ [4])) B' (some (.int (nI 4))) (some (.int (nI 0))) (by rw [hcd]; simp only [List.append_assoc]) (fun q hq' => hq q (List.mem_cons_of_mem _ hq')) hev
                              have hpl : (pre ++ (k1.map clK ++ k2.map clK ++ [4])).length = pre.length + k1.length + k2.length + 1 := by simp; omega
                              rw [hpl] at this
                              exact this
                            · have c9 : ¬ evV (s_B S kw) k2 = 0 := fun q => c9 (lg_0.mpr q)
                              have c10 : evV (s_B S kw) k2 = 1 := (e2.1 rfl).resolve_left c9
                              rw [if_pos c10] at hev
                              refine g_aload_n (pc := 155) C dX7_sumFor_155 rfl ?_
                              refine g_iload_n (pc := 156) C dX7_sumFor_156 rfl ?_
                              refine n_lald (pc := 157) (n := 40) C (by exact hst.1) (by exact hst.2.1) (zk (by exact hst.2.2)) rfl rfl (by omega) dX7_sumFor_157 ?_
                              rw [← hpost]
                              refine gx_tl (y := evV (s_B S kw) k1) ((congrFun gB_at _).trans hB'.2.1) ?_
                              exact g_lreturn (pc := 158) C ⟨rfl, rfl⟩ dX7_sumFor_158 ⟨B', by rw [hev], rfl⟩
                        · exact absurd (Decidable.not_not.mp c7) (by decide)
                      · exact absurd (Decidable.not_not.mp c6) (by decide)
                    · exact absurd (Decidable.not_not.mp c5) (by decide)
                  · exact absurd (Decidable.not_not.mp c4) (by decide)
                · exact absurd (show nI 2 < nI 40 by decide) c3
  refine gx_S (S' := s_setB S ks (s_B S ks)) (s_B_id S ks).symm ?_
  exact main cs [] (s_B S ks) _ _ rfl hwf rfl
