/-! ===== the reference: rules reckoned on a stack ===== -/
def oneF (k : Nat) (x y : Int64) : Int64 := if k = 2 then (x + y) else if k = 3 then (x - y) else if k = 4 then (x * y) else if k = 5 then (if y = 0 then 0 else x / y) else if k = 6 then (if x < y then 1 else 0) else if k = 7 then (if x ≤ y then 1 else 0) else if k = 8 then (if x = y then 1 else 0) else if k = 9 then (if y ≤ x then 1 else 0) else if k = 10 then (if y < x then 1 else 0) else if k = 12 then (x &&& y) else if k = 14 then (if y = 0 then 0 else x - x / y * y) else x ||| y
theorem lg_0 {x y : Int64} : lg_cmp x y = 0 ↔ x = y := lg_cmp_eq x y
theorem lg_ge {x y : Int64} : 0 ≤ lg_cmp x y ↔ y ≤ x := lg_cmp_ge x y
theorem lg_le {x y : Int64} : lg_cmp x y ≤ 0 ↔ x ≤ y := lg_cmp_le x y
theorem c_X12_one (w : Wd) (l : Launch) (S : St) (k : Nat) (hk : 2 ≤ k ∧ k ≤ 14) (x y : Int64) : gx_M w l yX12_one cX12_one 5 (some .long) rmX12_one [.int (nI k), .long x, .long y] S (pL (oneF k x y) S) := by
  refine gx_start rfl 0 rfl (Nat.le_of_ble_eq_true rfl) ?_
  intro X C _ hl
  subst hl
  refine gx_L (L' := [_, _, _, _, _]) rfl ?_
  refine g_iload_n (pc := 0) C dX12_one_0 rfl ?_
  obtain ⟨h1, h2⟩ := hk
  have hk : k = 2 ∨ k = 3 ∨ k = 4 ∨ k = 5 ∨ k = 6 ∨ k = 7 ∨ k = 8 ∨ k = 9 ∨ k = 10 ∨ k = 11 ∨ k = 12 ∨ k = 13 ∨ k = 14 := by omega
  rcases hk with rfl | rfl | rfl | rfl | rfl | rfl | rfl | rfl | rfl | rfl | rfl | rfl | rfl
  · refine g_tableIn (pc := 1) C 68 dX12_one_1 (by decide) (by decide) rfl rfl ?_
    refine g_lload_n (pc := 68) C dX12_one_68 rfl ?_
    refine g_lload_n (pc := 69) C dX12_one_69 rfl ?_
    refine g_ladd (pc := 70) C dX12_one_70 ?_
    exact g_lreturn (pc := 71) C ⟨rfl, rfl⟩ dX12_one_71 (⟨rfl, rfl⟩)
  · refine g_tableIn (pc := 1) C 72 dX12_one_1 (by decide) (by decide) rfl rfl ?_
    refine g_lload_n (pc := 72) C dX12_one_72 rfl ?_
    refine g_lload_n (pc := 73) C dX12_one_73 rfl ?_
    refine g_lsub (pc := 74) C dX12_one_74 ?_
    exact g_lreturn (pc := 75) C ⟨rfl, rfl⟩ dX12_one_75 (⟨rfl, rfl⟩)
  · refine g_tableIn (pc := 1) C 76 dX12_one_1 (by decide) (by decide) rfl rfl ?_
    refine g_lload_n (pc := 76) C dX12_one_76 rfl ?_
    refine g_lload_n (pc := 77) C dX12_one_77 rfl ?_
    refine g_lmul (pc := 78) C dX12_one_78 ?_
    exact g_lreturn (pc := 79) C ⟨rfl, rfl⟩ dX12_one_79 (⟨rfl, rfl⟩)
  · refine g_tableIn (pc := 1) C 80 dX12_one_1 (by decide) (by decide) rfl rfl ?_
    refine g_lload_n (pc := 80) C dX12_one_80 rfl ?_
    refine g_lconst (pc := 81) (v := 0) C dX12_one_81 (by decide) ?_
    refine g_lcmp (pc := 82) C dX12_one_82 ?_
    refine g_if_ne (pc := 83) C 90 dX12_one_83 rfl (fun h => ?_) (fun h => ?_)
    · have h := fun q => h (lg_0.mpr q)
      refine g_lload_n (pc := 90) C dX12_one_90 rfl ?_
      refine g_lload_n (pc := 91) C dX12_one_91 rfl ?_
      refine g_ldiv (pc := 92) C dX12_one_92 h ?_
      exact g_lreturn (pc := 93) C ⟨rfl, rfl⟩ dX12_one_93 (⟨by simp only [oneF]; rw [if_neg h]; rfl, rfl⟩)
    · have h := lg_0.mp (Decidable.not_not.mp h)
      refine g_lconst (pc := 86) (v := 0) C dX12_one_86 (by decide) ?_
      refine g_goto (pc := 87) C 93 dX12_one_87 rfl ?_
      exact g_lreturn (pc := 93) C ⟨rfl, rfl⟩ dX12_one_93 (⟨by simp [oneF, h], rfl⟩)
  · refine g_tableIn (pc := 1) C 108 dX12_one_1 (by decide) (by decide) rfl rfl ?_
    refine g_lload_n (pc := 108) C dX12_one_108 rfl ?_
    refine g_lload_n (pc := 109) C dX12_one_109 rfl ?_
    refine g_lcmp (pc := 110) C dX12_one_110 ?_
    refine g_if_ge (pc := 111) C 118 dX12_one_111 rfl (fun h => ?_) (fun h => ?_)
    · have h : ¬ x < y := Int64.not_lt.mpr (lg_ge.mp h)
      refine g_lconst (pc := 118) (v := 0) C dX12_one_118 (by decide) ?_
      exact g_lreturn (pc := 119) C ⟨rfl, rfl⟩ dX12_one_119 (⟨by unfold oneF; simp only [Nat.reduceEqDiff, if_false, if_true, ite_true, ite_false]; rw [if_neg h], rfl⟩)
    · have h : x < y := Int64.not_le.mp (fun q => h (lg_ge.mpr q))
      refine g_lconst (pc := 114) (v := 1) C dX12_one_114 (by decide) ?_
      refine g_goto (pc := 115) C 119 dX12_one_115 rfl ?_
      exact g_lreturn (pc := 119) C ⟨rfl, rfl⟩ dX12_one_119 (⟨by unfold oneF; simp only [Nat.reduceEqDiff, if_false, if_true, ite_true, ite_false]; rw [if_pos h], rfl⟩)
  · refine g_tableIn (pc := 1) C 120 dX12_one_1 (by decide) (by decide) rfl rfl ?_
    refine g_lload_n (pc := 120) C dX12_one_120 rfl ?_
    refine g_lload_n (pc := 121) C dX12_one_121 rfl ?_
    refine g_lcmp (pc := 122) C dX12_one_122 ?_
    refine g_if_gt (pc := 123) C 130 dX12_one_123 rfl (fun h => ?_) (fun h => ?_)
    · have h : ¬ x ≤ y := Int64.not_le.mpr (lg_gt.mp h)
      refine g_lconst (pc := 130) (v := 0) C dX12_one_130 (by decide) ?_
      exact g_lreturn (pc := 131) C ⟨rfl, rfl⟩ dX12_one_131 (⟨by unfold oneF; simp only [Nat.reduceEqDiff, if_false, if_true, ite_true, ite_false]; rw [if_neg h], rfl⟩)
    · have h : x ≤ y := Int64.not_lt.mp (fun q => h (lg_gt.mpr q))
      refine g_lconst (pc := 126) (v := 1) C dX12_one_126 (by decide) ?_
      refine g_goto (pc := 127) C 131 dX12_one_127 rfl ?_
      exact g_lreturn (pc := 131) C ⟨rfl, rfl⟩ dX12_one_131 (⟨by unfold oneF; simp only [Nat.reduceEqDiff, if_false, if_true, ite_true, ite_false]; rw [if_pos h], rfl⟩)
  · refine g_tableIn (pc := 1) C 132 dX12_one_1 (by decide) (by decide) rfl rfl ?_
    refine g_lload_n (pc := 132) C dX12_one_132 rfl ?_
    refine g_lload_n (pc := 133) C dX12_one_133 rfl ?_
    refine g_lcmp (pc := 134) C dX12_one_134 ?_
    refine g_if_ne (pc := 135) C 142 dX12_one_135 rfl (fun h => ?_) (fun h => ?_)
    · have h : ¬ x = y := fun q => h (lg_0.mpr q)
      refine g_lconst (pc := 142) (v := 0) C dX12_one_142 (by decide) ?_
      exact g_lreturn (pc := 143) C ⟨rfl, rfl⟩ dX12_one_143 (⟨by unfold oneF; simp only [Nat.reduceEqDiff, if_false, if_true, ite_true, ite_false]; rw [if_neg h], rfl⟩)
    · have h : x = y := lg_0.mp (Decidable.not_not.mp h)
      refine g_lconst (pc := 138) (v := 1) C dX12_one_138 (by decide) ?_
      refine g_goto (pc := 139) C 143 dX12_one_139 rfl ?_
      exact g_lreturn (pc := 143) C ⟨rfl, rfl⟩ dX12_one_143 (⟨by unfold oneF; simp only [Nat.reduceEqDiff, if_false, if_true, ite_true, ite_false]; rw [if_pos h], rfl⟩)
  · refine g_tableIn (pc := 1) C 144 dX12_one_1 (by decide) (by decide) rfl rfl ?_
    refine g_lload_n (pc := 144) C dX12_one_144 rfl ?_
    refine g_lload_n (pc := 145) C dX12_one_145 rfl ?_
    refine g_lcmp (pc := 146) C dX12_one_146 ?_
    refine g_if_lt (pc := 147) C 154 dX12_one_147 rfl (fun h => ?_) (fun h => ?_)
    · have h : ¬ y ≤ x := Int64.not_le.mpr (lg_lt.mp h)
      refine g_lconst (pc := 154) (v := 0) C dX12_one_154 (by decide) ?_
      exact g_lreturn (pc := 155) C ⟨rfl, rfl⟩ dX12_one_155 (⟨by unfold oneF; simp only [Nat.reduceEqDiff, if_false, if_true, ite_true, ite_false]; rw [if_neg h], rfl⟩)
    · have h : y ≤ x := Int64.not_lt.mp (fun q => h (lg_lt.mpr q))
      refine g_lconst (pc := 150) (v := 1) C dX12_one_150 (by decide) ?_
      refine g_goto (pc := 151) C 155 dX12_one_151 rfl ?_
      exact g_lreturn (pc := 155) C ⟨rfl, rfl⟩ dX12_one_155 (⟨by unfold oneF; simp only [Nat.reduceEqDiff, if_false, if_true, ite_true, ite_false]; rw [if_pos h], rfl⟩)
  · refine g_tableIn (pc := 1) C 156 dX12_one_1 (by decide) (by decide) rfl rfl ?_
    refine g_lload_n (pc := 156) C dX12_one_156 rfl ?_
    refine g_lload_n (pc := 157) C dX12_one_157 rfl ?_
    refine g_lcmp (pc := 158) C dX12_one_158 ?_
    refine g_if_le (pc := 159) C 166 dX12_one_159 rfl (fun h => ?_) (fun h => ?_)
    · have h : ¬ y < x := Int64.not_lt.mpr (lg_le.mp h)
      refine g_lconst (pc := 166) (v := 0) C dX12_one_166 (by decide) ?_
      exact g_lreturn (pc := 167) C ⟨rfl, rfl⟩ dX12_one_167 (⟨by unfold oneF; simp only [Nat.reduceEqDiff, if_false, if_true, ite_true, ite_false]; rw [if_neg h], rfl⟩)
    · have h : y < x := Int64.not_le.mp (fun q => h (lg_le.mpr q))
      refine g_lconst (pc := 162) (v := 1) C dX12_one_162 (by decide) ?_
      refine g_goto (pc := 163) C 167 dX12_one_163 rfl ?_
      exact g_lreturn (pc := 167) C ⟨rfl, rfl⟩ dX12_one_167 (⟨by unfold oneF; simp only [Nat.reduceEqDiff, if_false, if_true, ite_true, ite_false]; rw [if_pos h], rfl⟩)
  · refine g_tableIn (pc := 1) C 172 dX12_one_1 (by decide) (by decide) rfl rfl ?_
    refine g_lload_n (pc := 172) C dX12_one_172 rfl ?_
    refine g_lload_n (pc := 173) C dX12_one_173 rfl ?_
    refine g_lor (pc := 174) C dX12_one_174 ?_
    exact g_lreturn (pc := 175) C ⟨rfl, rfl⟩ dX12_one_175 (⟨rfl, rfl⟩)
  · refine g_tableIn (pc := 1) C 168 dX12_one_1 (by decide) (by decide) rfl rfl ?_
    refine g_lload_n (pc := 168) C dX12_one_168 rfl ?_
    refine g_lload_n (pc := 169) C dX12_one_169 rfl ?_
    refine g_land (pc := 170) C dX12_one_170 ?_
    exact g_lreturn (pc := 171) C ⟨rfl, rfl⟩ dX12_one_171 (⟨rfl, rfl⟩)
  · refine g_tableIn (pc := 1) C 172 dX12_one_1 (by decide) (by decide) rfl rfl ?_
    refine g_lload_n (pc := 172) C dX12_one_172 rfl ?_
    refine g_lload_n (pc := 173) C dX12_one_173 rfl ?_
    refine g_lor (pc := 174) C dX12_one_174 ?_
    exact g_lreturn (pc := 175) C ⟨rfl, rfl⟩ dX12_one_175 (⟨rfl, rfl⟩)
  · refine g_tableIn (pc := 1) C 94 dX12_one_1 (by decide) (by decide) rfl rfl ?_
    refine g_lload_n (pc := 94) C dX12_one_94 rfl ?_
    refine g_lconst (pc := 95) (v := 0) C dX12_one_95 (by decide) ?_
    refine g_lcmp (pc := 96) C dX12_one_96 ?_
    refine g_if_ne (pc := 97) C 104 dX12_one_97 rfl (fun h => ?_) (fun h => ?_)
    · have h := fun q => h (lg_0.mpr q)
      refine g_lload_n (pc := 104) C dX12_one_104 rfl ?_
      refine g_lload_n (pc := 105) C dX12_one_105 rfl ?_
      refine g_lrem (pc := 106) C dX12_one_106 h ?_
      exact g_lreturn (pc := 107) C ⟨rfl, rfl⟩ dX12_one_107 (⟨by show some (Value.long _) = some (Value.long (if y = 0 then 0 else _)); rw [if_neg h], rfl⟩)
    · have h := lg_0.mp (Decidable.not_not.mp h)
      refine g_lconst (pc := 100) (v := 0) C dX12_one_100 (by decide) ?_
      refine g_goto (pc := 101) C 107 dX12_one_101 rfl ?_
      exact g_lreturn (pc := 107) C ⟨rfl, rfl⟩ dX12_one_107 (⟨by simp [oneF, h], rfl⟩)
/-- what a reckoning leaves behind: stack and its height -/
def scr (S : St) (B : Nat → Int64) (t : Int32) : St := s_setI (s_setB S 1008 B) 1118 1000 t
theorem scr_scr (S : St) (B B2 : Nat → Int64) (t t2 : Int32) : scr (scr S B t) B2 t2 = scr S B2 t2 := by
  have h1 : u1 (u1 (s_B S) 1008 B) 1008 B2 = u1 (s_B S) 1008 B2 := by funext j; unfold u1; split <;> rfl
  have h2 : u2 (u2 (s_I S) 1118 1000 t) 1118 1000 t2 = u2 (s_I S) 1118 1000 t2 := by
    funext g j; unfold u2; split
    · split <;> rfl
    · rfl
  show (_, _, _, _, u2 (u2 (s_I S) 1118 1000 t) 1118 1000 t2, _, _, u1 (u1 (s_B S) 1008 B) 1008 B2, _) = _
  rw [h1, h2]; rfl
theorem scr_I (S : St) (B : Nat → Int64) (t t2 : Int32) : s_setI (scr S B t) 1118 1000 t2 = scr S B t2 := by
  have h2 : u2 (u2 (s_I S) 1118 1000 t) 1118 1000 t2 = u2 (s_I S) 1118 1000 t2 := by
    funext g j; unfold u2; split
    · split <;> rfl
    · rfl
  show (_, _, _, _, u2 (u2 (s_I S) 1118 1000 t) 1118 1000 t2, _, _, _, _) = _
  rw [h2]; rfl
theorem c_X12_push (w : Wd) (l : Launch) (S : St) (hm : gx_m S) (n : Nat) (hn : n < 64) (B : Nat → Int64) (v : Int64) : gx_M w l yX12_push cX12_push 3 none rmX12_push [.ref (ad (w_b w) 1000), .long v] (scr S B (nI n)) (pV (scr S (vp_updL B n v) (nI (n + 1)))) := by
  refine gx_start rfl 0 rfl (Nat.le_of_ble_eq_true rfl) ?_
  intro X C _ hl
  subst hl
  refine gx_L (L' := [_, _, _]) rfl ?_
  refine g_aload_n (pc := 0) C dX12_push_0 rfl ?_
  refine mg_32 (pc := 1) C (by exact hm) dX12_push_1 ?_
  refine g_aload_n (pc := 4) C dX12_push_4 rfl ?_
  refine mg_282 (pc := 5) C (by exact hm) dX12_push_5 ?_
  refine g_lload_n (pc := 8) C dX12_push_8 rfl ?_
  refine n_last (pc := 9) (k := 1008) (n := 64) C rfl rfl (by exact m_z hm rfl) isn_v rfl hn dX12_push_9 ?_
  refine g_aload_n (pc := 10) C dX12_push_10 rfl ?_
  refine g_dup (pc := 11) C dX12_push_11 rfl ?_
  refine mg_282 (pc := 12) C (by exact hm) dX12_push_12 ?_
  refine g_iconst (pc := 15) (v := nI 1) C dX12_push_15 (by decide) ?_
  refine g_iadd (pc := 16) C dX12_push_16 ?_
  refine gx_ti (nI_add n 1) ?_
  refine mp_282 (pc := 17) C (by exact hm) dX12_push_17 ?_
  exact g_return (pc := 20) C ⟨rfl, rfl⟩ dX12_push_20 ⟨rfl, scr_scr S B (vp_updL B n v) (nI n) (nI (n + 1))⟩
theorem c_X12_pop (w : Wd) (l : Launch) (S : St) (hm : gx_m S) (n : Nat) (hn : n < 64) (B : Nat → Int64) : gx_M w l yX12_pop cX12_pop 1 (some .long) rmX12_pop [.ref (ad (w_b w) 1000)] (scr S B (nI (n + 1))) (pL (B n) (scr S B (nI n))) := by
  refine gx_start rfl 0 rfl (Nat.le_of_ble_eq_true rfl) ?_
  intro X C _ hl
  subst hl
  refine gx_L (L' := [_]) rfl ?_
  refine g_aload_n (pc := 0) C dX12_pop_0 rfl ?_
  refine g_dup (pc := 1) C dX12_pop_1 rfl ?_
  refine mg_282 (pc := 2) C (by exact hm) dX12_pop_2 ?_
  refine g_iconst (pc := 5) (v := nI 1) C dX12_pop_5 (by decide) ?_
  refine g_isub (pc := 6) C dX12_pop_6 ?_
  refine gx_ti (nI_pred n) ?_
  refine mp_282 (pc := 7) C (by exact hm) dX12_pop_7 ?_
  refine gx_S (S' := scr S B (nI n)) ?_ ?_
  · exact scr_I S B _ _
  refine g_aload_n (pc := 10) C dX12_pop_10 rfl ?_
  refine mg_32 (pc := 11) C (by exact hm) dX12_pop_11 ?_
  refine g_aload_n (pc := 14) C dX12_pop_14 rfl ?_
  refine mg_282 (pc := 15) C (by exact hm) dX12_pop_15 ?_
  refine n_lald (pc := 18) (k := 1008) (n := 64) C rfl rfl (by exact m_z hm rfl) isn_v rfl hn dX12_pop_18 ?_
  exact g_lreturn (pc := 19) C ⟨rfl, rfl⟩ dX12_pop_19 ⟨rfl, rfl⟩
/-- the stack, its top first -/
def stkB (B : Nat → Int64) : List Int64 → Prop
  | [] => True
  | x :: t => B t.length = x ∧ stkB B t
theorem stkB_up {B : Nat → Int64} {v : Int64} : ∀ {t : List Int64} {n : Nat}, t.length ≤ n → stkB B t → stkB (vp_updL B n v) t
  | [], _, _, _ => trivial
  | x :: t, n, hn, h => by
    simp only [List.length_cons] at hn
    refine ⟨?_, stkB_up (by omega) h.2⟩
    unfold vp_updL
    rw [if_neg (by omega)]
    exact h.1
theorem stkB_push {B : Nat → Int64} {v : Int64} {t : List Int64} (h : stkB B t) : stkB (vp_updL B t.length v) (v :: t) := ⟨by unfold vp_updL; rw [if_pos rfl], stkB_up (Nat.le_refl _) h⟩
/-- one sign of a rule: its number mod 16 and what stands above -/
def stepM (wd : Nat → Int64) (c : Nat) (t : List Int64) : Option (List Int64) :=
  if c % 16 = 0 then (if t.length < 64 then some (lN (c / 16) :: t) else none)
  else if c % 16 = 1 then (if t.length < 64 ∧ c / 16 < 12 then some (wd (c / 16) :: t) else none)
  else if c % 16 = 11 then (match t with | x :: t => some ((1 - x) :: t) | _ => none)
  else (match t with | y :: x :: t => some (oneF (c % 16) x y :: t) | _ => none)
def runM (wd : Nat → Int64) (sg : Nat → Nat) (b : Nat) : Nat → List Int64 → Option (List Int64)
  | 0, t => some t
  | k + 1, t => (stepM wd (sg b) t).bind (runM wd sg (b + 1) k)
theorem c_X12_reckons (w : Wd) (l : Launch) (S : St) (hm : gx_m S) (r b n : Nat) (hr : r < 6) (hb : b + n ≤ 400) (sg : Nat → Nat) (hsg : ∀ i, i < b + n → s_A S 1002 (400 * r + i) = nI (sg i) ∧ sg i < 16000000) (hop : ∀ i, i < b + n → sg i % 16 ≠ 15) (v : Int64) (hrun : runM (s_B S 1009) sg b n [] = some [v]) (B : Nat → Int64) (t : Int32) :
    gx_M w l yX12_reckons cX12_reckons 11 (some .long) rmX12_reckons [.ref (ad (w_b w) 1000), .int (nI r), .int (nI b), .int (nI (b + n))] (scr S B t) (fun a S' => ∃ B', a = some (.long v) ∧ S' = scr S B' (nI 0)) := by
  refine gx_start rfl 7 rfl (Nat.le_of_ble_eq_true rfl) ?_
  intro X C _ hl
  subst hl
  refine gx_L (L' := [_, _, _, _, _, _, _, _, _, _, _]) rfl ?_
  refine g_aload_n (pc := 0) C dX12_reckons_0 rfl ?_
  refine g_iconst (pc := 1) (v := nI 0) C dX12_reckons_1 (by decide) ?_
  refine mp_282 (pc := 2) C (by exact hm) dX12_reckons_2 ?_
  refine gx_S (scr_I S B _ _) ?_
  refine g_iload_n (pc := 5) C dX12_reckons_5 rfl ?_
  refine g_istore (pc := 6) (L' := [_, _, _, some (.int _), _, _, _, _, _, _, _]) C dX12_reckons_6 rfl rfl ?_
  have loop : ∀ k i st B z1 z2 z3 z4 z5 z6, i + k = b + n → stkB B st → st.length ≤ 64 → runM (s_B S 1009) sg i k st = some [v] → gx_G w X (scr S B (nI st.length)) 0 0 8 [some (.ref (ad (w_b w) 1000)), some (.int (nI r)), some (.int (nI b)), some (.int (nI (b + n))), some (.int (nI i)), z1, z2, z3, z4, z5, z6] [] (gx_E w X (fun a S' => ∃ B', a = some (.long v) ∧ S' = scr S B' (nI 0))) := by
    intro k
    induction k with
    | zero =>
      intro i st B z1 z2 z3 z4 z5 z6 hi hB hl hrun
      have hi : i = b + n := hi
      subst hi
      cases hrun
      refine g_iload (pc := 8) C dX12_reckons_8 rfl ?_
      refine g_iload_n (pc := 10) C dX12_reckons_10 rfl ?_
      refine g_icmp_ge (pc := 11) C 135 dX12_reckons_11 rfl (fun h => ?_) (fun h => ?_)
      · refine g_aload_n (pc := 135) C dX12_reckons_135 rfl ?_
        refine cf_X12_289 (pc := 136) C rfl (by exact m_z hm rfl) (c_X12_pop _ _ S hm 0 (by omega) B) ⟨rfl, rfl⟩ ⟨rfl, rfl⟩ ⟨Nat.zero_le _, Nat.zero_le _⟩ rfl (Nat.le_of_ble_eq_true rfl) dX12_reckons_136 ?_
        exact g_lreturn (pc := 139) C ⟨rfl, rfl⟩ dX12_reckons_139 ⟨B, by rw [show B 0 = v from hB.1], rfl⟩
      · exact absurd (nI_le (Nat.le_refl _) (by omega)) h
    | succ k ih =>
      intro i st B z1 z2 z3 z4 z5 z6 hi hB hl hrun
      obtain ⟨e1, e2⟩ := hsg i (by omega)
      have e3 := hop i (by omega)
      refine g_iload (pc := 8) C dX12_reckons_8 rfl ?_
      refine g_iload_n (pc := 10) C dX12_reckons_10 rfl ?_
      refine g_icmp_ge (pc := 11) C 135 dX12_reckons_11 rfl (fun h => ?_) (fun h => ?_)
      · exact absurd h (nI_ge (by omega) (by omega))
      · refine g_aload_n (pc := 14) C dX12_reckons_14 rfl ?_
        refine mg_13 (pc := 15) C (by exact hm) dX12_reckons_15 ?_
        refine g_sipush (pc := 18) (v := nI 400) C dX12_reckons_18 (by decide) ?_
        refine g_iload_n (pc := 21) C dX12_reckons_21 rfl ?_
        refine g_imul (pc := 22) C dX12_reckons_22 ?_
        refine g_iload (pc := 23) C dX12_reckons_23 rfl ?_
        refine g_iadd (pc := 25) C dX12_reckons_25 ?_
        refine n_iald (pc := 26) (k := 1002) (n := 2400) C rfl rfl (by exact m_z hm rfl) (isn_add (isn_mul isn_v isn_v) isn_v) rfl (by omega) dX12_reckons_26 ?_
        refine gx_ti e1 ?_
        refine g_bipush (pc := 27) (v := nI 15) C dX12_reckons_27 (by decide) ?_
        refine g_iand (pc := 29) C dX12_reckons_29 ?_
        refine gx_ti (y := nI (sg i % 16)) (pk_andN (by omega) 4 (by decide)) ?_
        refine g_istore (pc := 30) (L' := [_, _, _, _, some (.int _), _, _, _, _, _, _]) C dX12_reckons_30 rfl rfl ?_
        refine g_aload_n (pc := 32) C dX12_reckons_32 rfl ?_
        refine mg_13 (pc := 33) C (by exact hm) dX12_reckons_33 ?_
        refine g_sipush (pc := 36) (v := nI 400) C dX12_reckons_36 (by decide) ?_
        refine g_iload_n (pc := 39) C dX12_reckons_39 rfl ?_
        refine g_imul (pc := 40) C dX12_reckons_40 ?_
        refine g_iload (pc := 41) C dX12_reckons_41 rfl ?_
        refine g_iadd (pc := 43) C dX12_reckons_43 ?_
        refine n_iald (pc := 44) (k := 1002) (n := 2400) C rfl rfl (by exact m_z hm rfl) (isn_add (isn_mul isn_v isn_v) isn_v) rfl (by omega) dX12_reckons_44 ?_
        refine gx_ti e1 ?_
        refine g_iconst (pc := 45) (v := nI 4) C dX12_reckons_45 (by decide) ?_
        refine g_ishr (pc := 46) C dX12_reckons_46 ?_
        refine gx_ti (y := nI (sg i / 16)) (pk_shrN (by omega) _ 4 (by decide)) ?_
        refine g_istore (pc := 47) (L' := [_, _, _, _, _, some (.int _), _, _, _, _, _]) C dX12_reckons_47 rfl rfl ?_
        refine g_iload (pc := 49) C dX12_reckons_49 rfl ?_
        simp only [runM, stepM] at hrun
        refine g_if_ne (pc := 51) C 64 dX12_reckons_51 rfl (fun h0 => ?_) (fun h0 => ?_)
        · have h0 : ¬ sg i % 16 = 0 := fun q => h0 (by rw [q]; rfl)
          rw [if_neg h0] at hrun
          refine g_iload (pc := 64) C dX12_reckons_64 rfl ?_
          refine g_iconst (pc := 66) (v := nI 1) C dX12_reckons_66 (by decide) ?_
          refine g_icmp_ne (pc := 67) C 84 dX12_reckons_67 rfl (fun h1 => ?_) (fun h1 => ?_)
          · have h1 : ¬ sg i % 16 = 1 := fun q => h1 (by rw [q])
            rw [if_neg h1] at hrun
            refine g_iload (pc := 84) C dX12_reckons_84 rfl ?_
            refine g_bipush (pc := 86) (v := nI 11) C dX12_reckons_86 (by decide) ?_
            refine g_icmp_ne (pc := 88) C 104 dX12_reckons_88 rfl (fun h11 => ?_) (fun h11 => ?_)
            · have h11 : ¬ sg i % 16 = 11 := fun q => h11 (by rw [q])
              rw [if_neg h11] at hrun
              match st, hB, hl, hrun with
              | y :: x :: st, hB, hl, hrun =>
                simp only [List.length_cons] at hl
                refine g_aload_n (pc := 104) C dX12_reckons_104 rfl ?_
                refine cf_X12_289 (pc := 105) C rfl (by exact m_z hm rfl) (c_X12_pop _ _ S hm (st.length + 1) (by omega) B) ⟨rfl, rfl⟩ ⟨rfl, rfl⟩ ⟨Nat.zero_le _, Nat.zero_le _⟩ rfl (Nat.le_of_ble_eq_true rfl) dX12_reckons_105 ?_
                refine g_lstore (pc := 108) (L' := [_, _, _, _, _, _, some (.int _), _, _, _, _]) C dX12_reckons_108 rfl rfl ?_
                refine g_aload_n (pc := 110) C dX12_reckons_110 rfl ?_
                refine cf_X12_289 (pc := 111) C rfl (by exact m_z hm rfl) (c_X12_pop _ _ S hm st.length (by omega) B) ⟨rfl, rfl⟩ ⟨rfl, rfl⟩ ⟨Nat.zero_le _, Nat.zero_le _⟩ rfl (Nat.le_of_ble_eq_true rfl) dX12_reckons_111 ?_
                refine g_lstore (pc := 114) (L' := [_, _, _, _, _, _, _, _, none, _, _]) C dX12_reckons_114 rfl rfl ?_
                refine g_aload_n (pc := 116) C dX12_reckons_116 rfl ?_
                refine g_iload (pc := 117) C dX12_reckons_117 rfl ?_
                refine g_lload (pc := 119) C dX12_reckons_119 rfl ?_
                refine g_lload (pc := 121) C dX12_reckons_121 rfl ?_
                refine cf_X12_293 (pc := 123) C (c_X12_one _ _ _ (sg i % 16) (by omega) _ _) ⟨rfl, rfl⟩ ⟨rfl, rfl⟩ ⟨Nat.zero_le _, Nat.zero_le _⟩ rfl (Nat.le_of_ble_eq_true rfl) dX12_reckons_123 ?_
                refine cf_X12_285 (pc := 126) C rfl (by exact m_z hm rfl) (c_X12_push _ _ S hm st.length (by omega) B _) ⟨rfl, rfl⟩ ⟨rfl, rfl⟩ ⟨Nat.zero_le _, Nat.zero_le _⟩ rfl (Nat.le_of_ble_eq_true rfl) dX12_reckons_126 ?_
                refine g_iinc (pc := 129) (L' := [_, _, _, some (.int _), _, _, _, _, _, _, _]) C dX12_reckons_129 rfl (nI_1 _) rfl ?_
                refine g_goto (pc := 132) C 8 dX12_reckons_132 rfl ?_
                have ex : B st.length = x := hB.2.1
                have ey : B (st.length + 1) = y := hB.1
                rw [ex, ey]
                exact ih (i + 1) (oneF (sg i % 16) x y :: st) _ _ _ _ _ _ _ (by omega) (stkB_push hB.2.2) (by simp; omega) hrun
            · have h11 : sg i % 16 = 11 := (nI_eq (by omega) (by omega)).mp (Decidable.not_not.mp h11)
              rw [if_pos h11] at hrun
              match st, hB, hl, hrun with
              | x :: st, hB, hl, hrun =>
                simp only [List.length_cons] at hl
                refine g_aload_n (pc := 91) C dX12_reckons_91 rfl ?_
                refine g_lconst (pc := 92) (v := 1) C dX12_reckons_92 (by decide) ?_
                refine g_aload_n (pc := 93) C dX12_reckons_93 rfl ?_
                refine cf_X12_289 (pc := 94) C rfl (by exact m_z hm rfl) (c_X12_pop _ _ S hm st.length (by omega) B) ⟨rfl, rfl⟩ ⟨rfl, rfl⟩ ⟨Nat.zero_le _, Nat.zero_le _⟩ rfl (Nat.le_of_ble_eq_true rfl) dX12_reckons_94 ?_
                refine g_lsub (pc := 97) C dX12_reckons_97 ?_
                refine cf_X12_285 (pc := 98) C rfl (by exact m_z hm rfl) (c_X12_push _ _ S hm st.length (by omega) B _) ⟨rfl, rfl⟩ ⟨rfl, rfl⟩ ⟨Nat.zero_le _, Nat.zero_le _⟩ rfl (Nat.le_of_ble_eq_true rfl) dX12_reckons_98 ?_
                refine g_goto (pc := 101) C 129 dX12_reckons_101 rfl ?_
                refine g_iinc (pc := 129) (L' := [_, _, _, some (.int _), _, _, _, _, _, _, _]) C dX12_reckons_129 rfl (nI_1 _) rfl ?_
                refine g_goto (pc := 132) C 8 dX12_reckons_132 rfl ?_
                have ex : B st.length = x := hB.1
                rw [ex]
                exact ih (i + 1) ((1 - x) :: st) _ _ _ _ _ _ _ (by omega) (stkB_push hB.2) (by simp; omega) hrun
          · have h1 : sg i % 16 = 1 := (nI_eq (by omega) (by omega)).mp (Decidable.not_not.mp h1)
            rw [if_pos h1] at hrun
            by_cases h64 : st.length < 64 ∧ sg i / 16 < 12
            · rw [if_pos h64] at hrun
              refine g_aload_n (pc := 70) C dX12_reckons_70 rfl ?_
              refine g_aload_n (pc := 71) C dX12_reckons_71 rfl ?_
              refine mg_36 (pc := 72) C (by exact hm) dX12_reckons_72 ?_
              refine g_iload (pc := 75) C dX12_reckons_75 rfl ?_
              refine n_lald (pc := 77) (k := 1009) (n := 12) C rfl rfl (by exact m_z hm rfl) isn_v rfl h64.2 dX12_reckons_77 ?_
              refine cf_X12_285 (pc := 78) C rfl (by exact m_z hm rfl) (c_X12_push _ _ S hm st.length h64.1 B _) ⟨rfl, rfl⟩ ⟨rfl, rfl⟩ ⟨Nat.zero_le _, Nat.zero_le _⟩ rfl (Nat.le_of_ble_eq_true rfl) dX12_reckons_78 ?_
              refine g_goto (pc := 81) C 129 dX12_reckons_81 rfl ?_
              refine g_iinc (pc := 129) (L' := [_, _, _, some (.int _), _, _, _, _, _, _, _]) C dX12_reckons_129 rfl (nI_1 _) rfl ?_
              refine g_goto (pc := 132) C 8 dX12_reckons_132 rfl ?_
              exact ih (i + 1) (s_B S 1009 (sg i / 16) :: st) _ _ _ _ _ _ _ (by omega) (stkB_push hB) (by simp; omega) hrun
            · rw [if_neg h64] at hrun; cases hrun
        · have h0 : sg i % 16 = 0 := (nI_eq (b := 0) (by omega) (by omega)).mp (Decidable.not_not.mp h0)
          rw [if_pos h0] at hrun
          by_cases h64 : st.length < 64
          · rw [if_pos h64] at hrun
            refine g_aload_n (pc := 54) C dX12_reckons_54 rfl ?_
            refine g_iload (pc := 55) C dX12_reckons_55 rfl ?_
            refine g_i2l (pc := 57) C dX12_reckons_57 ?_
            rw [nI_l (by omega)]
            refine cf_X12_285 (pc := 58) C rfl (by exact m_z hm rfl) (c_X12_push _ _ S hm st.length h64 B _) ⟨rfl, rfl⟩ ⟨rfl, rfl⟩ ⟨Nat.zero_le _, Nat.zero_le _⟩ rfl (Nat.le_of_ble_eq_true rfl) dX12_reckons_58 ?_
            refine g_goto (pc := 61) C 129 dX12_reckons_61 rfl ?_
            refine g_iinc (pc := 129) (L' := [_, _, _, some (.int _), _, _, _, _, _, _, _]) C dX12_reckons_129 rfl (nI_1 _) rfl ?_
            refine g_goto (pc := 132) C 8 dX12_reckons_132 rfl ?_
            exact ih (i + 1) (lN (sg i / 16) :: st) _ _ _ _ _ _ _ (by omega) (stkB_push hB) (by simp; omega) hrun
          · rw [if_neg h64] at hrun; cases hrun
  exact loop n b [] B _ _ _ _ _ _ rfl trivial (by simp) hrun
