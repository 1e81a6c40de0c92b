/-! ===== the reference: fillsNeeds ===== -/
abbrev boP (said : Nat → Int32) (P : Nat) (fog : Prop) [Decidable fog] (s side : Nat) : Prop := nI (popN s) ≤ said 2 ∧ weighF said P fog (aimsF said s False P + twosF said s P P) s (nI side) ≤ said 1
def boF (drawn : Int32) (said : Nat → Int32) (P H s side : Nat) : Int32 := bI (boP said P (fogF drawn said H) s side)
def btF (bo : Nat → Nat → Int32) (V : Nat → Int32) (n : Nat) : Nat → Int32 := fun j => if j < 256 ∧ j % 128 < n then bo (j % 128) (j / 128) else V j
theorem btF_0 {bo : Nat → Nat → Int32} {V : Nat → Int32} : btF bo V 0 = V := by
  funext j; unfold btF; rw [if_neg (by omega)]
theorem btF_s {bo : Nat → Nat → Int32} {V : Nat → Int32} {n : Nat} (hn : n < 128) : upd (upd (btF bo V n) (128 * 0 + n) (bo n 0)) (128 * 1 + n) (bo n 1) = btF bo V (n + 1) := by
  funext j
  show (if j = 128 * 1 + n then bo n 1 else if j = 128 * 0 + n then bo n 0 else if j < 256 ∧ j % 128 < n then bo (j % 128) (j / 128) else V j) = (if j < 256 ∧ j % 128 < n + 1 then bo (j % 128) (j / 128) else V j)
  by_cases e1 : j = 128 * 1 + n
  · rw [if_pos e1, if_pos (by omega), show j % 128 = n by omega, show j / 128 = 1 by omega]
  · rw [if_neg e1]
    by_cases e2 : j = 128 * 0 + n
    · rw [if_pos e2, if_pos (by omega), show j % 128 = n by omega, show j / 128 = 0 by omega]
    · rw [if_neg e2]
      by_cases e3 : j < 256 ∧ j % 128 < n
      · rw [if_pos e3, if_pos (by omega)]
      · rw [if_neg e3, if_neg (by omega)]
def n0F (all : Nat) (N : Nat → Int32) (i : Nat) : Nat → Int32 := fun j => if j < i then (if j % 128 = all then nI 0 else -1) else N j
theorem n0F_0 {all : Nat} {N : Nat → Int32} : n0F all N 0 = N := by
  funext j; unfold n0F; rw [if_neg (by omega)]
theorem n0F_s {all : Nat} {N : Nat → Int32} {i : Nat} {v : Int32} (hv : v = if i % 128 = all then nI 0 else -1) : upd (n0F all N i) i v = n0F all N (i + 1) := by
  funext j
  show (if j = i then v else if j < i then (if j % 128 = all then nI 0 else -1) else N j) = (if j < i + 1 then (if j % 128 = all then nI 0 else -1) else N j)
  by_cases e : j = i
  · rw [if_pos e, if_pos (by omega), hv, e]
  · rw [if_neg e]
    by_cases e2 : j < i
    · rw [if_pos e2, if_pos (show j < i + 1 by omega)]
    · rw [if_neg e2, if_neg (show ¬ j < i + 1 by omega)]
def okT (pl : Nat → Nat → Option Nat) (N : Nat → Int32) (n j s : Nat) : Bool := match pl j s with
  | none => false
  | some t => decide (N t = nI n)
def chgF (pl : Nat → Nat → Option Nat) (all : Nat) (N : Nat → Int32) (n j : Nat) : Bool := decide (N j < 0 ∧ j % 128 ≤ all ∧ ¬ ∀ s, s < all + 1 → okT pl N n j s = false)
def ndP (pl : Nat → Nat → Option Nat) (all : Nat) (N : Nat → Int32) (n i : Nat) : Nat → Int32 := fun j => if j < i ∧ chgF pl all N n j = true then nI (n + 1) else N j
def mrF (pl : Nat → Nat → Option Nat) (all : Nat) (N : Nat → Int32) (n : Nat) : Nat → Bool
  | 0 => false
  | i + 1 => mrF pl all N n i || chgF pl all N n i
def mI (b : Bool) : Int32 := if b = true then nI 1 else nI 0
def ndR (pl : Nat → Nat → Option Nat) (all : Nat) (N : Nat → Int32) : Nat → Nat → Int32
  | 0 => N
  | n + 1 => ndP pl all (ndR pl all N n) n 256
def cntN (N : Nat → Int32) : Nat → Nat
  | 0 => 0
  | i + 1 => cntN N i + (if N i < 0 then 1 else 0)
theorem cntN_le {N : Nat → Int32} : ∀ i, cntN N i ≤ i
  | 0 => Nat.le_refl 0
  | i + 1 => by
    have := cntN_le (N := N) i
    simp only [cntN]
    split <;> omega
theorem ndP_0 {pl : Nat → Nat → Option Nat} {all : Nat} {N : Nat → Int32} {n : Nat} : ndP pl all N n 0 = N := by
  funext j; unfold ndP; rw [if_neg (fun q => absurd q.1 (by omega))]
theorem ndP_n {pl : Nat → Nat → Option Nat} {all : Nat} {N : Nat → Int32} {n i : Nat} (h : ¬ chgF pl all N n i = true) : ndP pl all N n (i + 1) = ndP pl all N n i := by
  funext j
  show (if j < i + 1 ∧ chgF pl all N n j = true then nI (n + 1) else N j) = (if j < i ∧ chgF pl all N n j = true then nI (n + 1) else N j)
  by_cases e : j < i ∧ chgF pl all N n j = true
  · rw [if_pos e, if_pos ⟨by omega, e.2⟩]
  · rw [if_neg e, if_neg (fun q => ?_)]
    by_cases e2 : j = i
    · exact h (e2 ▸ q.2)
    · exact e ⟨by omega, q.2⟩
theorem ndP_y {pl : Nat → Nat → Option Nat} {all : Nat} {N : Nat → Int32} {n i : Nat} (h : chgF pl all N n i = true) : upd (ndP pl all N n i) i (nI (n + 1)) = ndP pl all N n (i + 1) := by
  funext j
  show (if j = i then nI (n + 1) else if j < i ∧ chgF pl all N n j = true then nI (n + 1) else N j) = (if j < i + 1 ∧ chgF pl all N n j = true then nI (n + 1) else N j)
  by_cases e2 : j = i
  · rw [if_pos e2, if_pos ⟨by omega, e2 ▸ h⟩]
  · rw [if_neg e2]
    by_cases e : j < i ∧ chgF pl all N n j = true
    · rw [if_pos e, if_pos ⟨by omega, e.2⟩]
    · rw [if_neg e, if_neg (fun q => e ⟨by omega, q.2⟩)]
theorem ndP_at {pl : Nat → Nat → Option Nat} {all : Nat} {N : Nat → Int32} {n i : Nat} : ndP pl all N n i i = N i := if_neg (fun q => absurd q.1 (by omega))
theorem ndP_eq {pl : Nat → Nat → Option Nat} {all : Nat} {N : Nat → Int32} {n i t : Nat} (hn : n < 1000) : ndP pl all N n i t = nI n ↔ N t = nI n := by
  unfold ndP
  split
  · next h =>
    have h2 := (of_decide_eq_true h.2).1
    constructor
    · intro e; exact absurd ((nI_eq (by omega) (by omega)).mp e) (by omega)
    · intro e; rw [e] at h2; exact absurd h2 (nI_pos (by omega))
  · exact Iff.rfl
theorem mr_y {pl : Nat → Nat → Option Nat} {all : Nat} {N : Nat → Int32} {n i : Nat} (h : chgF pl all N n i = true) : mrF pl all N n (i + 1) = true := by
  simp only [mrF]; rw [h, Bool.or_true]
theorem mr_n {pl : Nat → Nat → Option Nat} {all : Nat} {N : Nat → Int32} {n i : Nat} (h : ¬ chgF pl all N n i = true) : mrF pl all N n (i + 1) = mrF pl all N n i := by
  have hc2 : chgF pl all N n i = false := by simpa using h
  simp only [mrF]; rw [hc2, Bool.or_false]
theorem cnt_ndP {pl : Nat → Nat → Option Nat} {all : Nat} {N : Nat → Int32} {n : Nat} (hn : n < 1000) : ∀ i, i ≤ 256 → cntN (ndP pl all N n 256) i + (if mrF pl all N n i = true then 1 else 0) ≤ cntN N i
  | 0, _ => by simp [cntN, mrF]
  | i + 1, hi => by
    have ih := cnt_ndP (pl := pl) (all := all) (N := N) hn i (by omega)
    show cntN (ndP pl all N n 256) i + (if ndP pl all N n 256 i < 0 then 1 else 0) + (if mrF pl all N n (i + 1) = true then 1 else 0) ≤ cntN N i + (if N i < 0 then 1 else 0)
    by_cases hc : chgF pl all N n i = true
    · have h2 := (of_decide_eq_true hc).1
      have e : ndP pl all N n 256 i = nI (n + 1) := if_pos ⟨by omega, hc⟩
      rw [e, if_neg (nI_pos (by omega)), if_pos h2, if_pos (mr_y hc)]
      split at ih <;> omega
    · have e : ndP pl all N n 256 i = N i := if_neg (fun q => hc q.2)
      rw [e, mr_n hc]
      omega
def ndS (S : St) (V N : Nat → Int32) : St := s_setA (s_setA S 1016 V) 1015 N
theorem nd_V (S : St) (V V2 N : Nat → Int32) : s_setA (ndS S V N) 1016 V2 = ndS S V2 N := by
  unfold ndS; rw [s_AA2 _ 1015 1016 _ _ (by decide), s_AA]
theorem nd_N (S : St) (V N N2 : Nat → Int32) : s_setA (ndS S V N) 1015 N2 = ndS S V N2 := by
  unfold ndS; rw [s_AA]
theorem nd_rV (S : St) (V N : Nat → Int32) : s_A (ndS S V N) 1016 = V := rfl
theorem nd_rN (S : St) (V N : Nat → Int32) : s_A (ndS S V N) 1015 = N := rfl
theorem c_X12_fillsNeeds (w : Wd) (l : Launch) (S : St) (hm : gx_m S) (P H : Nat) (hp : gx_p S P H) (V0 : Nat → Int32) (hV0 : V0 = btF (boF (s_I S 1123 1000) (s_A S 1010) P H) (s_A S 1016) (2 ^ P)) (N0 : Nat → Int32) (hN0 : N0 = n0F (2 ^ P - 1) (s_A S 1015) 256) : gx_M w l yX12_fillsNeeds cX12_fillsNeeds 7 none rmX12_fillsNeeds [.ref (ad (w_b w) 1000)] S (fun a S' => a = none ∧ ∃ n, n ≤ 256 ∧ (∀ i, i < n → mrF (plF P V0) (2 ^ P - 1) (ndR (plF P V0) (2 ^ P - 1) N0 i) i 256 = true) ∧ mrF (plF P V0) (2 ^ P - 1) (ndR (plF P V0) (2 ^ P - 1) N0 n) n 256 = false ∧ S' = ndS S V0 (ndR (plF P V0) (2 ^ P - 1) N0 (n + 1))) := by
  obtain ⟨hP, hP7, hH, hH2⟩ := id hp
  have h2P : 2 ^ P ≤ 2 ^ 7 := Nat.pow_le_pow_right (by decide) hP7
  have h1P : 1 ≤ 2 ^ P := Nat.one_le_two_pow
  have hmA : ∀ V N, gx_m (ndS S V N) := fun V N => hm
  have hpA : ∀ V N, gx_p (ndS S V N) P H := fun V N => hp
  generalize hq : (fun (a : Option Value) (S' : St) => a = none ∧ ∃ n, n ≤ 256 ∧ (∀ i, i < n → mrF (plF P V0) (2 ^ P - 1) (ndR (plF P V0) (2 ^ P - 1) N0 i) i 256 = true) ∧ mrF (plF P V0) (2 ^ P - 1) (ndR (plF P V0) (2 ^ P - 1) N0 n) n 256 = false ∧ S' = ndS S V0 (ndR (plF P V0) (2 ^ P - 1) N0 (n + 1))) = post
  refine gx_start rfl 6 rfl (Nat.le_of_ble_eq_true rfl) ?_
  intro X C _ hl
  subst hl
  refine gx_L (L' := [_, _, _, _, _, _, _]) rfl ?_
  refine gx_S (S' := ndS S (s_A S 1016) (s_A S 1015)) (by unfold ndS; rw [s_A_id, s_A_id]) ?_
  refine g_iconst (pc := 0) (v := nI 1) C dX12_fillsNeeds_0 (by decide) ?_
  refine g_aload_n (pc := 1) C dX12_fillsNeeds_1 rfl ?_
  refine mg_39 (pc := 2) C (hmA _ _) dX12_fillsNeeds_2 ?_
  refine g_iconst (pc := 5) (v := nI 4) C dX12_fillsNeeds_5 (by decide) ?_
  refine n_iald (pc := 6) (k := 1010) (n := 190) C rfl rfl (m_z (hmA _ _) rfl) isn_v rfl (by omega) dX12_fillsNeeds_6 ?_
  refine gx_ti (y := nI P) hP ?_
  refine g_ishl (pc := 7) C dX12_fillsNeeds_7 ?_
  refine gx_ti (shl_bit P (by omega)) ?_
  refine g_iconst (pc := 8) (v := nI 1) C dX12_fillsNeeds_8 (by decide) ?_
  refine g_isub (pc := 9) C dX12_fillsNeeds_9 ?_
  refine gx_ti (y := nI (2 ^ P - 1)) (isn_sub isn_v isn_v h1P) ?_
  refine g_istore_n (pc := 10) (L' := [some (.ref _), _, _, _, _, _, _]) C dX12_fillsNeeds_10 rfl rfl ?_
  refine g_iconst (pc := 11) (v := nI 0) C dX12_fillsNeeds_11 (by decide) ?_
  refine g_istore_n (pc := 12) (L' := [_, some (.int _), _, _, _, _, _]) C dX12_fillsNeeds_12 rfl rfl ?_
  generalize hal : 2 ^ P - 1 = all at hN0 hq ⊢
  have hall : all < 128 := by omega
  -- a round
  have pass : ∀ n N, n < 1000 → (∀ z5 z6, gx_G w X (ndS S V0 (ndP (plF P V0) all N n 256)) 0 0 245 [some (.ref (ad (w_b w) 1000)), some (.int (nI all)), some (.int (mI (mrF (plF P V0) all N n 256))), some (.int (nI n)), some (.int (nI 256)), z5, z6] [] (gx_E w X post)) → ∀ e i z5 z6, i + e = 256 → gx_G w X (ndS S V0 (ndP (plF P V0) all N n i)) 0 0 142 [some (.ref (ad (w_b w) 1000)), some (.int (nI all)), some (.int (mI (mrF (plF P V0) all N n i))), some (.int (nI n)), some (.int (nI i)), z5, z6] [] (gx_E w X post) := by
    intro n N hn cont e
    generalize hpl : plF P V0 = pl at cont ⊢
    induction e with
    | zero =>
      intro i z5 z6 hi
      have hi : i = 256 := hi
      subst hi
      refine g_iload (pc := 142) C dX12_fillsNeeds_142 rfl ?_
      refine g_sipush (pc := 144) (v := nI 256) C dX12_fillsNeeds_144 (by decide) ?_
      refine g_icmp_ge (pc := 147) C 245 dX12_fillsNeeds_147 rfl (fun h => ?_) (fun h => ?_)
      · exact cont _ _
      · exact absurd (nI_le (Nat.le_refl 256) (by omega)) h
    | succ e eh =>
      intro i z5 z6 hi
      have adv : ∀ z5 z6, gx_G w X (ndS S V0 (ndP pl all N n (i + 1))) 0 0 239 [some (.ref (ad (w_b w) 1000)), some (.int (nI all)), some (.int (mI (mrF pl all N n (i + 1)))), some (.int (nI n)), some (.int (nI i)), z5, z6] [] (gx_E w X post) := by
        intro z5 z6
        refine g_iinc (pc := 239) (L' := [_, _, _, some (.int _), _, _, _]) C dX12_fillsNeeds_239 rfl (nI_1 _) rfl ?_
        refine g_goto (pc := 242) C 142 dX12_fillsNeeds_242 rfl ?_
        exact eh (i + 1) _ _ (by omega)
      have skip : ¬ chgF pl all N n i = true → ∀ z5 z6, gx_G w X (ndS S V0 (ndP pl all N n i)) 0 0 239 [some (.ref (ad (w_b w) 1000)), some (.int (nI all)), some (.int (mI (mrF pl all N n i))), some (.int (nI n)), some (.int (nI i)), z5, z6] [] (gx_E w X post) := by
        intro hno z5 z6
        have := adv z5 z6
        rw [ndP_n hno, mr_n hno] at this
        exact this
      refine g_iload (pc := 142) C dX12_fillsNeeds_142 rfl ?_
      refine g_sipush (pc := 144) (v := nI 256) C dX12_fillsNeeds_144 (by decide) ?_
      refine g_icmp_ge (pc := 147) C 245 dX12_fillsNeeds_147 rfl (fun h => ?_) (fun h => ?_)
      · exact absurd h (nI_ge (by omega) (by omega))
      · refine g_aload_n (pc := 150) C dX12_fillsNeeds_150 rfl ?_
        refine mg_58 (pc := 151) C (hmA _ _) dX12_fillsNeeds_151 ?_
        refine g_iload (pc := 154) C dX12_fillsNeeds_154 rfl ?_
        refine n_iald (pc := 156) (k := 1015) (n := 256) C rfl rfl (m_z (hmA _ _) rfl) isn_v rfl (by omega) dX12_fillsNeeds_156 ?_
        refine gx_ti (y := N i) ndP_at ?_
        refine g_if_ge (pc := 157) C 239 dX12_fillsNeeds_157 rfl (fun h2 => ?_) (fun h2 => ?_)
        · exact skip (fun q => absurd (of_decide_eq_true q).1 (Int32.not_lt.mpr h2)) _ _
        · have h2 := Int32.not_le.mp h2
          refine g_iload (pc := 160) C dX12_fillsNeeds_160 rfl ?_
          refine g_sipush (pc := 162) (v := nI 128) C dX12_fillsNeeds_162 (by decide) ?_
          refine g_irem (pc := 165) C dX12_fillsNeeds_165 (by decide) ?_
          refine gx_ti (y := nI (i % 128)) (pk_rem (by omega) (by omega) (by omega)) ?_
          refine g_iload_n (pc := 166) C dX12_fillsNeeds_166 rfl ?_
          refine g_icmp_le (pc := 167) C 173 dX12_fillsNeeds_167 rfl (fun h3 => ?_) (fun h3 => ?_)
          · have h3 : i % 128 ≤ all := (nI_leI (by omega) (by omega)).mp h3
            refine g_iconst (pc := 173) (v := nI 0) C dX12_fillsNeeds_173 (by decide) ?_
            refine g_istore (pc := 174) (L' := [_, _, _, _, some (.int _), _, _]) C dX12_fillsNeeds_174 rfl rfl ?_
            have inner : ∀ f s z6, s + f = all + 1 → (∀ q, q < s → okT pl N n i q = false) → gx_G w X (ndS S V0 (ndP pl all N n i)) 0 0 176 [some (.ref (ad (w_b w) 1000)), some (.int (nI all)), some (.int (mI (mrF pl all N n i))), some (.int (nI n)), some (.int (nI i)), some (.int (nI s)), z6] [] (gx_E w X post) := by
              intro f
              induction f with
              | zero =>
                intro s z6 hs hno
                have hs : s = all + 1 := hs
                subst hs
                refine g_iload (pc := 176) C dX12_fillsNeeds_176 rfl ?_
                refine g_iload_n (pc := 178) C dX12_fillsNeeds_178 rfl ?_
                refine g_icmp_gt (pc := 179) C 239 dX12_fillsNeeds_179 rfl (fun h4 => ?_) (fun h4 => ?_)
                · exact skip (fun q => (of_decide_eq_true q).2.2 hno) _ _
                · exact absurd (nI_lt (by omega) (by omega)) h4
              | succ f fh =>
                intro s z6 hs hno
                have more : okT pl N n i s = false → ∀ z6, gx_G w X (ndS S V0 (ndP pl all N n i)) 0 0 233 [some (.ref (ad (w_b w) 1000)), some (.int (nI all)), some (.int (mI (mrF pl all N n i))), some (.int (nI n)), some (.int (nI i)), some (.int (nI s)), z6] [] (gx_E w X post) := by
                  intro hk z6
                  refine g_iinc (pc := 233) (L' := [_, _, _, _, some (.int _), _, _]) C dX12_fillsNeeds_233 rfl (nI_1 _) rfl ?_
                  refine g_goto (pc := 236) C 176 dX12_fillsNeeds_236 rfl ?_
                  exact fh (s + 1) _ (by omega) (fun q hq => if e : q = s then e ▸ hk else hno q (by omega))
                refine g_iload (pc := 176) C dX12_fillsNeeds_176 rfl ?_
                refine g_iload_n (pc := 178) C dX12_fillsNeeds_178 rfl ?_
                refine g_icmp_gt (pc := 179) C 239 dX12_fillsNeeds_179 rfl (fun h4 => ?_) (fun h4 => ?_)
                · exact absurd h4 (Int32.not_lt.mpr (nI_le (by omega) (by omega)))
                · refine g_aload_n (pc := 182) C dX12_fillsNeeds_182 rfl ?_
                  refine mg_58 (pc := 183) C (hmA _ _) dX12_fillsNeeds_183 ?_
                  refine g_iload (pc := 186) C dX12_fillsNeeds_186 rfl ?_
                  refine n_iald (pc := 188) (k := 1015) (n := 256) C rfl rfl (m_z (hmA _ _) rfl) isn_v rfl (by omega) dX12_fillsNeeds_188 ?_
                  refine gx_ti (y := N i) ndP_at ?_
                  refine g_if_ge (pc := 189) C 239 dX12_fillsNeeds_189 rfl (fun h5 => ?_) (fun h5 => ?_)
                  · exact absurd h2 (Int32.not_lt.mpr h5)
                  · refine g_aload_n (pc := 192) C dX12_fillsNeeds_192 rfl ?_
                    refine g_iload (pc := 193) C dX12_fillsNeeds_193 rfl ?_
                    refine g_iload (pc := 195) C dX12_fillsNeeds_195 rfl ?_
                    refine cf_X12_397 (pc := 197) C rfl (m_z (hmA _ _) rfl) (c_X12_placeBy _ _ _ (hmA _ _) P (by exact hP) hP7 i s (by omega) (by omega)) ⟨rfl, rfl⟩ ⟨rfl, rfl⟩ ⟨Nat.zero_le _, Nat.zero_le _⟩ rfl (Nat.le_of_ble_eq_true rfl) dX12_fillsNeeds_197 ?_
                    refine gx_ti (y := oI (pl i s)) (by rw [nd_rV, hpl]) ?_
                    cases e1 : pl i s with
                    | none =>
                      have hk : okT pl N n i s = false := by unfold okT; rw [e1]
                      refine g_istore (pc := 200) (L' := [_, _, _, _, _, some (.int _), _]) C dX12_fillsNeeds_200 rfl rfl ?_
                      refine g_iload (pc := 202) C dX12_fillsNeeds_202 rfl ?_
                      refine g_if_lt (pc := 204) C 233 dX12_fillsNeeds_204 rfl (fun h6 => ?_) (fun h6 => ?_)
                      · exact more hk _
                      · exact absurd (by decide) h6
                    | some t =>
                      have ht : t < 256 := plF_lt (P := P) (V := V0) (pl := i) (s := s) (by omega) (by rw [hpl]; exact e1)
                      have hk : okT pl N n i s = decide (N t = nI n) := by unfold okT; rw [e1]
                      refine gx_ti (y := nI t) rfl ?_
                      refine g_istore (pc := 200) (L' := [_, _, _, _, _, some (.int _), _]) C dX12_fillsNeeds_200 rfl rfl ?_
                      refine g_iload (pc := 202) C dX12_fillsNeeds_202 rfl ?_
                      refine g_if_lt (pc := 204) C 233 dX12_fillsNeeds_204 rfl (fun h6 => ?_) (fun h6 => ?_)
                      · exact absurd h6 (nI_pos (by omega))
                      · refine g_aload_n (pc := 207) C dX12_fillsNeeds_207 rfl ?_
                        refine mg_58 (pc := 208) C (hmA _ _) dX12_fillsNeeds_208 ?_
                        refine g_iload (pc := 211) C dX12_fillsNeeds_211 rfl ?_
                        refine n_iald (pc := 213) (k := 1015) (n := 256) C rfl rfl (m_z (hmA _ _) rfl) isn_v rfl (by omega) dX12_fillsNeeds_213 ?_
                        refine gx_ti (y := ndP pl all N n i t) rfl ?_
                        refine g_iload_n (pc := 214) C dX12_fillsNeeds_214 rfl ?_
                        refine g_icmp_eq (pc := 215) C 221 dX12_fillsNeeds_215 rfl (fun h7 => ?_) (fun h7 => ?_)
                        · have h7 := (ndP_eq hn).mp h7
                          have hc : chgF pl all N n i = true := decide_eq_true ⟨h2, h3, fun q => by
                            have := q s (by omega)
                            rw [hk, decide_eq_true h7] at this
                            cases this⟩
                          refine g_aload_n (pc := 221) C dX12_fillsNeeds_221 rfl ?_
                          refine mg_58 (pc := 222) C (hmA _ _) dX12_fillsNeeds_222 ?_
                          refine g_iload (pc := 225) C dX12_fillsNeeds_225 rfl ?_
                          refine g_iload_n (pc := 227) C dX12_fillsNeeds_227 rfl ?_
                          refine g_iconst (pc := 228) (v := nI 1) C dX12_fillsNeeds_228 (by decide) ?_
                          refine g_iadd (pc := 229) C dX12_fillsNeeds_229 ?_
                          refine gx_ti (nI_add n 1) ?_
                          refine n_iast (pc := 230) (k := 1015) (n := 256) C rfl rfl (m_z (hmA _ _) rfl) isn_v rfl (by omega) dX12_fillsNeeds_230 ?_
                          refine gx_S (S' := ndS S V0 (ndP pl all N n (i + 1))) (by rw [nd_rN, nd_N, ndP_y hc]) ?_
                          have adv2 := adv
                          rw [mr_y hc] at adv2
                          refine g_iconst (pc := 231) (v := nI 1) C dX12_fillsNeeds_231 (by decide) ?_
                          refine g_istore_n (pc := 232) (L' := [_, some (.int _), _, _, _, _, _]) C dX12_fillsNeeds_232 rfl rfl ?_
                          refine g_iinc (pc := 233) (L' := [_, _, _, _, some (.int _), _, _]) C dX12_fillsNeeds_233 rfl (nI_1 _) rfl ?_
                          refine g_goto (pc := 236) C 176 dX12_fillsNeeds_236 rfl ?_
                          refine g_iload (pc := 176) C dX12_fillsNeeds_176 rfl ?_
                          refine g_iload_n (pc := 178) C dX12_fillsNeeds_178 rfl ?_
                          refine g_icmp_gt (pc := 179) C 239 dX12_fillsNeeds_179 rfl (fun h8 => ?_) (fun h8 => ?_)
                          · exact adv2 _ _
                          · refine g_aload_n (pc := 182) C dX12_fillsNeeds_182 rfl ?_
                            refine mg_58 (pc := 183) C (hmA _ _) dX12_fillsNeeds_183 ?_
                            refine g_iload (pc := 186) C dX12_fillsNeeds_186 rfl ?_
                            refine n_iald (pc := 188) (k := 1015) (n := 256) C rfl rfl (m_z (hmA _ _) rfl) isn_v rfl (by omega) dX12_fillsNeeds_188 ?_
                            refine gx_ti (y := nI (n + 1)) (if_pos ⟨by omega, hc⟩) ?_
                            refine g_if_ge (pc := 189) C 239 dX12_fillsNeeds_189 rfl (fun h9 => ?_) (fun h9 => ?_)
                            · exact adv2 _ _
                            · exact absurd (nI_pos' (by omega)) h9
                        · refine g_goto (pc := 218) C 233 dX12_fillsNeeds_218 rfl ?_
                          exact more (by rw [hk]; exact decide_eq_false (fun q => h7 ((ndP_eq hn).mpr q))) _
            exact inner (all + 1) 0 _ (by omega) (fun q hq => absurd hq (by omega))
          · refine g_goto (pc := 170) C 239 dX12_fillsNeeds_170 rfl ?_
            exact skip (fun q => h3 (nI_le (of_decide_eq_true q).2.1 (by omega))) _ _
  -- the rounds
  have body : ∀ n z4 z5 z6, n ≤ 256 → (∀ i, i < n → mrF (plF P V0) all (ndR (plF P V0) all N0 i) i 256 = true) → (mrF (plF P V0) all (ndR (plF P V0) all N0 n) n 256 = true → ∀ z4 z5 z6, gx_G w X (ndS S V0 (ndR (plF P V0) all N0 (n + 1))) 0 0 133 [some (.ref (ad (w_b w) 1000)), some (.int (nI all)), some (.int (nI 1)), some (.int (nI (n + 1))), z4, z5, z6] [] (gx_E w X post)) → gx_G w X (ndS S V0 (ndR (plF P V0) all N0 n)) 0 0 133 [some (.ref (ad (w_b w) 1000)), some (.int (nI all)), some (.int (nI 1)), some (.int (nI n)), z4, z5, z6] [] (gx_E w X post) := by
    intro n z4 z5 z6 hn hall2 hnext
    have hdone : mrF (plF P V0) all (ndR (plF P V0) all N0 n) n 256 = false → post none (ndS S V0 (ndR (plF P V0) all N0 (n + 1))) := by
      intro hf
      rw [← hq]
      exact ⟨rfl, n, hn, hall2, hf, rfl⟩
    have e : ndR (plF P V0) all N0 (n + 1) = ndP (plF P V0) all (ndR (plF P V0) all N0 n) n 256 := rfl
    rw [e] at hdone hnext
    have hpass := pass n (ndR (plF P V0) all N0 n) (by omega)
    generalize ndR (plF P V0) all N0 n = N at hdone hnext hpass ⊢
    refine g_iload_n (pc := 133) C dX12_fillsNeeds_133 rfl ?_
    refine g_if_eq (pc := 134) C 251 dX12_fillsNeeds_134 rfl (fun h => ?_) (fun h => ?_)
    · exact absurd h (by decide)
    · refine g_iconst (pc := 137) (v := nI 0) C dX12_fillsNeeds_137 (by decide) ?_
      refine g_istore_n (pc := 138) (L' := [_, some (.int _), _, _, _, _, _]) C dX12_fillsNeeds_138 rfl rfl ?_
      refine g_iconst (pc := 139) (v := nI 0) C dX12_fillsNeeds_139 (by decide) ?_
      refine g_istore (pc := 140) (L' := [_, _, _, some (.int _), _, _, _]) C dX12_fillsNeeds_140 rfl rfl ?_
      refine gx_S (S' := ndS S V0 (ndP (plF P V0) all N n 0)) (by rw [ndP_0]) ?_
      refine hpass (fun z5 z6 => ?_) 256 0 _ _ rfl
      cases hmr : mrF (plF P V0) all N n 256 with
      | true =>
        refine g_iinc (pc := 245) (L' := [_, _, some (.int _), _, _, _, _]) C dX12_fillsNeeds_245 rfl (nI_1 _) rfl ?_
        refine g_goto (pc := 248) C 133 dX12_fillsNeeds_248 rfl ?_
        exact hnext hmr _ _ _
      | false =>
        refine g_iinc (pc := 245) (L' := [_, _, some (.int _), _, _, _, _]) C dX12_fillsNeeds_245 rfl (nI_1 _) rfl ?_
        refine g_goto (pc := 248) C 133 dX12_fillsNeeds_248 rfl ?_
        refine g_iload_n (pc := 133) C dX12_fillsNeeds_133 rfl ?_
        refine g_if_eq (pc := 134) C 251 dX12_fillsNeeds_134 rfl (fun h2 => ?_) (fun h2 => ?_)
        · exact g_return (pc := 251) C ⟨rfl, rfl⟩ dX12_fillsNeeds_251 (hdone hmr)
        · exact absurd (by decide) h2
  have rounds : ∀ d n z4 z5 z6, cntN (ndR (plF P V0) all N0 n) 256 ≤ d → n + cntN (ndR (plF P V0) all N0 n) 256 ≤ 256 → (∀ i, i < n → mrF (plF P V0) all (ndR (plF P V0) all N0 i) i 256 = true) → gx_G w X (ndS S V0 (ndR (plF P V0) all N0 n)) 0 0 133 [some (.ref (ad (w_b w) 1000)), some (.int (nI all)), some (.int (nI 1)), some (.int (nI n)), z4, z5, z6] [] (gx_E w X post) := by
    intro d
    induction d with
    | zero =>
      intro n z4 z5 z6 hc hs hal2
      refine body n _ _ _ (by omega) hal2 (fun hmr => ?_)
      have := cnt_ndP (pl := plF P V0) (all := all) (N := ndR (plF P V0) all N0 n) (n := n) (by omega) 256 (by omega)
      rw [if_pos hmr] at this
      omega
    | succ d ih =>
      intro n z4 z5 z6 hc hs hal2
      refine body n _ _ _ (by omega) hal2 (fun hmr z4 z5 z6 => ?_)
      have := cnt_ndP (pl := plF P V0) (all := all) (N := ndR (plF P V0) all N0 n) (n := n) (by omega) 256 (by omega)
      rw [if_pos hmr] at this
      have e : ndR (plF P V0) all N0 (n + 1) = ndP (plF P V0) all (ndR (plF P V0) all N0 n) n 256 := rfl
      exact ih (n + 1) _ _ _ (by rw [e]; omega) (by rw [e]; omega) (fun i hi => if q : i = n then q ▸ hmr else hal2 i (by omega))
  -- how much is needed, at first
  have first : ∀ d i z3, i + d = 256 → gx_G w X (ndS S V0 (n0F all (s_A S 1015) i)) 0 0 96 [some (.ref (ad (w_b w) 1000)), some (.int (nI all)), some (.int (nI i)), z3, none, none, none] [] (gx_E w X post) := by
    intro d
    induction d with
    | zero =>
      intro i z3 hi
      have hi : i = 256 := hi
      subst hi
      rw [← hN0]
      refine g_iload_n (pc := 96) C dX12_fillsNeeds_96 rfl ?_
      refine g_sipush (pc := 97) (v := nI 256) C dX12_fillsNeeds_97 (by decide) ?_
      refine g_icmp_ge (pc := 100) C 129 dX12_fillsNeeds_100 rfl (fun h => ?_) (fun h => ?_)
      · refine g_iconst (pc := 129) (v := nI 1) C dX12_fillsNeeds_129 (by decide) ?_
        refine g_istore_n (pc := 130) (L' := [_, some (.int _), _, _, _, _, _]) C dX12_fillsNeeds_130 rfl rfl ?_
        refine g_iconst (pc := 131) (v := nI 0) C dX12_fillsNeeds_131 (by decide) ?_
        refine g_istore_n (pc := 132) (L' := [_, _, some (.int _), _, _, _, _]) C dX12_fillsNeeds_132 rfl rfl ?_
        exact rounds 256 0 _ _ _ (cntN_le 256) (by have := cntN_le (N := ndR (plF P V0) all N0 0) 256; omega) (fun i hi => absurd hi (by omega))
      · exact absurd (nI_le (Nat.le_refl 256) (by omega)) h
    | succ d ih =>
      intro i z3 hi
      have st : ∀ v, v = (if i % 128 = all then nI 0 else -1) → gx_G w X (ndS S V0 (n0F all (s_A S 1015) i)) 0 0 122 [some (.ref (ad (w_b w) 1000)), some (.int (nI all)), some (.int (nI i)), z3, none, none, none] [.int v, .int (nI i), .ref (ad (w_b w) 1015)] (gx_E w X post) := by
        intro v hv
        refine n_iast (pc := 122) (k := 1015) (n := 256) C rfl rfl (m_z (hmA _ _) rfl) isn_v rfl (by omega) dX12_fillsNeeds_122 ?_
        refine gx_S (S' := ndS S V0 (n0F all (s_A S 1015) (i + 1))) (by rw [nd_rN, nd_N, n0F_s hv]) ?_
        refine g_iinc (pc := 123) (L' := [_, some (.int _), _, _, _, _, _]) C dX12_fillsNeeds_123 rfl (nI_1 _) rfl ?_
        refine g_goto (pc := 126) C 96 dX12_fillsNeeds_126 rfl ?_
        exact ih (i + 1) _ (by omega)
      refine g_iload_n (pc := 96) C dX12_fillsNeeds_96 rfl ?_
      refine g_sipush (pc := 97) (v := nI 256) C dX12_fillsNeeds_97 (by decide) ?_
      refine g_icmp_ge (pc := 100) C 129 dX12_fillsNeeds_100 rfl (fun h => ?_) (fun h => ?_)
      · exact absurd h (nI_ge (by omega) (by omega))
      · refine g_aload_n (pc := 103) C dX12_fillsNeeds_103 rfl ?_
        refine mg_58 (pc := 104) C (hmA _ _) dX12_fillsNeeds_104 ?_
        refine g_iload_n (pc := 107) C dX12_fillsNeeds_107 rfl ?_
        refine g_iload_n (pc := 108) C dX12_fillsNeeds_108 rfl ?_
        refine g_sipush (pc := 109) (v := nI 128) C dX12_fillsNeeds_109 (by decide) ?_
        refine g_irem (pc := 112) C dX12_fillsNeeds_112 (by decide) ?_
        refine gx_ti (y := nI (i % 128)) (pk_rem (by omega) (by omega) (by omega)) ?_
        refine g_iload_n (pc := 113) C dX12_fillsNeeds_113 rfl ?_
        refine g_icmp_ne (pc := 114) C 121 dX12_fillsNeeds_114 rfl (fun h2 => ?_) (fun h2 => ?_)
        · have h2 : ¬ i % 128 = all := fun q => h2 (by rw [q])
          refine g_iconst (pc := 121) (v := -1) C dX12_fillsNeeds_121 (by decide) ?_
          exact st _ (by rw [if_neg h2])
        · have h2 : i % 128 = all := (nI_eq (by omega) (by omega)).mp (Decidable.not_not.mp h2)
          refine g_iconst (pc := 117) (v := nI 0) C dX12_fillsNeeds_117 (by decide) ?_
          refine g_goto (pc := 118) C 122 dX12_fillsNeeds_118 rfl ?_
          exact st _ (by rw [if_pos h2])
  -- the boats
  generalize hbo : boF (s_I S 1123 1000) (s_A S 1010) P H = bo at hV0
  have boats : ∀ d s z3, s + d = 2 ^ P → gx_G w X (ndS S (btF bo (s_A S 1016) s) (s_A S 1015)) 0 0 13 [some (.ref (ad (w_b w) 1000)), some (.int (nI all)), some (.int (nI s)), z3, none, none, none] [] (gx_E w X post) := by
    intro d
    induction d with
    | zero =>
      intro s z3 hs
      have hs : s = 2 ^ P := hs
      rw [hs, ← hV0]
      refine g_iload_n (pc := 13) C dX12_fillsNeeds_13 rfl ?_
      refine g_iload_n (pc := 14) C dX12_fillsNeeds_14 rfl ?_
      refine g_icmp_gt (pc := 15) C 94 dX12_fillsNeeds_15 rfl (fun h => ?_) (fun h => ?_)
      · refine g_iconst (pc := 94) (v := nI 0) C dX12_fillsNeeds_94 (by decide) ?_
        refine g_istore_n (pc := 95) (L' := [_, some (.int _), _, _, _, _, _]) C dX12_fillsNeeds_95 rfl rfl ?_
        refine gx_S ?_ (first 256 0 _ rfl)
        rw [n0F_0]
      · exact absurd (nI_lt (by omega) (by omega)) h
    | succ d ih =>
      intro s z3 hs
      have one : ∀ side V, side < 2 → gx_G w X (ndS S (upd V (128 * side + s) (bo s side)) (s_A S 1015)) 0 0 82 [some (.ref (ad (w_b w) 1000)), some (.int (nI all)), some (.int (nI s)), some (.int (nI side)), none, none, none] [] (gx_E w X post) → gx_G w X (ndS S V (s_A S 1015)) 0 0 20 [some (.ref (ad (w_b w) 1000)), some (.int (nI all)), some (.int (nI s)), some (.int (nI side)), none, none, none] [] (gx_E w X post) := by
        intro side V hside next
        have ebo : bo s side = bI (boP (s_A S 1010) P (fogF (s_I S 1123 1000) (s_A S 1010) H) s side) := by rw [← hbo]; rfl
        have st : ∀ v, v = bo s side → gx_G w X (ndS S V (s_A S 1015)) 0 0 81 [some (.ref (ad (w_b w) 1000)), some (.int (nI all)), some (.int (nI s)), some (.int (nI side)), none, none, none] [.int v, .int (nI 128 * nI side + nI s), .ref (ad (w_b w) 1016)] (gx_E w X post) := by
          intro v hv
          refine n_zast (pc := 81) (k := 1016) (n := 256) C rfl rfl (m_z (hmA _ _) rfl) (isn_add (isn_mul isn_v isn_v) isn_v) rfl (by omega) dX12_fillsNeeds_81 ?_
          refine gx_S (S' := ndS S (upd V (128 * side + s) (bo s side)) (s_A S 1015)) ?_ next
          rw [nd_rV, nd_V, hv, ebo, nar_bI]
        refine g_iload_n (pc := 20) C dX12_fillsNeeds_20 rfl ?_
        refine g_iconst (pc := 21) (v := nI 2) C dX12_fillsNeeds_21 (by decide) ?_
        refine g_icmp_ge (pc := 22) C 88 dX12_fillsNeeds_22 rfl (fun h => ?_) (fun h => ?_)
        · exact absurd h (nI_ge (by omega) (by omega))
        · refine g_aload_n (pc := 25) C dX12_fillsNeeds_25 rfl ?_
          refine mg_61 (pc := 26) C (hmA _ _) dX12_fillsNeeds_26 ?_
          refine g_sipush (pc := 29) (v := nI 128) C dX12_fillsNeeds_29 (by decide) ?_
          refine g_iload_n (pc := 32) C dX12_fillsNeeds_32 rfl ?_
          refine g_imul (pc := 33) C dX12_fillsNeeds_33 ?_
          refine g_iload_n (pc := 34) C dX12_fillsNeeds_34 rfl ?_
          refine g_iadd (pc := 35) C dX12_fillsNeeds_35 ?_
          refine g_iload_n (pc := 36) C dX12_fillsNeeds_36 rfl ?_
          refine cf_X12_337 (pc := 37) C (c_X12_bits _ _ _ s (by omega)) ⟨rfl, rfl⟩ ⟨rfl, rfl⟩ ⟨Nat.zero_le _, Nat.zero_le _⟩ rfl (Nat.le_of_ble_eq_true rfl) dX12_fillsNeeds_37 ?_
          refine g_aload_n (pc := 40) C dX12_fillsNeeds_40 rfl ?_
          refine mg_39 (pc := 41) C (hmA _ _) dX12_fillsNeeds_41 ?_
          refine g_iconst (pc := 44) (v := nI 2) C dX12_fillsNeeds_44 (by decide) ?_
          refine n_iald (pc := 45) (k := 1010) (n := 190) C rfl rfl (m_z (hmA _ _) rfl) isn_v rfl (by omega) dX12_fillsNeeds_45 ?_
          refine gx_ti (y := s_A S 1010 2) rfl ?_
          refine g_icmp_gt (pc := 46) C 80 dX12_fillsNeeds_46 rfl (fun h2 => ?_) (fun h2 => ?_)
          · refine g_iconst (pc := 80) (v := nI 0) C dX12_fillsNeeds_80 (by decide) ?_
            exact st _ (by rw [ebo]; exact (bI_f (fun q => absurd h2 (Int32.not_lt.mpr q.1))).symm)
          · refine g_aload_n (pc := 49) C dX12_fillsNeeds_49 rfl ?_
            refine g_aload_n (pc := 50) C dX12_fillsNeeds_50 rfl ?_
            refine g_iload_n (pc := 51) C dX12_fillsNeeds_51 rfl ?_
            refine g_iconst (pc := 52) (v := nI 0) C dX12_fillsNeeds_52 (by decide) ?_
            refine gx_ti (y := bI False) rfl ?_
            refine cf_X12_323 (pc := 53) C rfl (m_z (hmA _ _) rfl) (c_X12_aimsOf _ _ _ (hmA _ _) P (by exact hP) hP7 s (by omega) False) ⟨rfl, rfl⟩ ⟨rfl, rfl⟩ ⟨Nat.zero_le _, Nat.zero_le _⟩ rfl (Nat.le_of_ble_eq_true rfl) dX12_fillsNeeds_53 ?_
            refine gx_ti (y := aimsF (s_A S 1010) s False P) rfl ?_
            refine g_aload_n (pc := 56) C dX12_fillsNeeds_56 rfl ?_
            refine g_iload_n (pc := 57) C dX12_fillsNeeds_57 rfl ?_
            refine cf_X12_327 (pc := 58) C rfl (m_z (hmA _ _) rfl) (c_X12_twosOf _ _ _ (hmA _ _) P (by exact hP) hP7 s (by omega)) ⟨rfl, rfl⟩ ⟨rfl, rfl⟩ ⟨Nat.zero_le _, Nat.zero_le _⟩ rfl (Nat.le_of_ble_eq_true rfl) dX12_fillsNeeds_58 ?_
            refine gx_ti (y := twosF (s_A S 1010) s P P) rfl ?_
            refine g_iadd (pc := 61) C dX12_fillsNeeds_61 ?_
            refine g_iload_n (pc := 62) C dX12_fillsNeeds_62 rfl ?_
            refine g_iload_n (pc := 63) C dX12_fillsNeeds_63 rfl ?_
            refine cf_X12_330 (pc := 64) C rfl (m_z (hmA _ _) rfl) (c_X12_weighs _ _ _ (hmA _ _) P H (hpA _ _) s (by omega) _ _) ⟨rfl, rfl⟩ ⟨rfl, rfl⟩ ⟨Nat.zero_le _, Nat.zero_le _⟩ rfl (Nat.le_of_ble_eq_true rfl) dX12_fillsNeeds_64 ?_
            refine gx_ti (y := weighF (s_A S 1010) P (fogF (s_I S 1123 1000) (s_A S 1010) H) (aimsF (s_A S 1010) s False P + twosF (s_A S 1010) s P P) s (nI side)) rfl ?_
            refine g_aload_n (pc := 67) C dX12_fillsNeeds_67 rfl ?_
            refine mg_39 (pc := 68) C (hmA _ _) dX12_fillsNeeds_68 ?_
            refine g_iconst (pc := 71) (v := nI 1) C dX12_fillsNeeds_71 (by decide) ?_
            refine n_iald (pc := 72) (k := 1010) (n := 190) C rfl rfl (m_z (hmA _ _) rfl) isn_v rfl (by omega) dX12_fillsNeeds_72 ?_
            refine gx_ti (y := s_A S 1010 1) rfl ?_
            refine g_icmp_gt (pc := 73) C 80 dX12_fillsNeeds_73 rfl (fun h3 => ?_) (fun h3 => ?_)
            · refine g_iconst (pc := 80) (v := nI 0) C dX12_fillsNeeds_80 (by decide) ?_
              exact st _ (by rw [ebo]; exact (bI_f (fun q => absurd h3 (Int32.not_lt.mpr q.2))).symm)
            · refine g_iconst (pc := 76) (v := nI 1) C dX12_fillsNeeds_76 (by decide) ?_
              refine g_goto (pc := 77) C 81 dX12_fillsNeeds_77 rfl ?_
              exact st _ (by rw [ebo]; exact (bI_t ⟨Int32.not_lt.mp h2, Int32.not_lt.mp h3⟩).symm)
      refine g_iload_n (pc := 13) C dX12_fillsNeeds_13 rfl ?_
      refine g_iload_n (pc := 14) C dX12_fillsNeeds_14 rfl ?_
      refine g_icmp_gt (pc := 15) C 94 dX12_fillsNeeds_15 rfl (fun h => ?_) (fun h => ?_)
      · exact absurd h (Int32.not_lt.mpr (nI_le (by omega) (by omega)))
      · refine g_iconst (pc := 18) (v := nI 0) C dX12_fillsNeeds_18 (by decide) ?_
        refine g_istore_n (pc := 19) (L' := [_, _, some (.int _), _, _, _, _]) C dX12_fillsNeeds_19 rfl rfl ?_
        refine one 0 _ (by omega) ?_
        refine g_iinc (pc := 82) (L' := [_, _, some (.int _), _, _, _, _]) C dX12_fillsNeeds_82 rfl (nI_1 _) rfl ?_
        refine g_goto (pc := 85) C 20 dX12_fillsNeeds_85 rfl ?_
        refine one 1 _ (by omega) ?_
        refine g_iinc (pc := 82) (L' := [_, _, some (.int _), _, _, _, _]) C dX12_fillsNeeds_82 rfl (nI_1 _) rfl ?_
        refine g_goto (pc := 85) C 20 dX12_fillsNeeds_85 rfl ?_
        refine g_iload_n (pc := 20) C dX12_fillsNeeds_20 rfl ?_
        refine g_iconst (pc := 21) (v := nI 2) C dX12_fillsNeeds_21 (by decide) ?_
        refine g_icmp_ge (pc := 22) C 88 dX12_fillsNeeds_22 rfl (fun h2 => ?_) (fun h2 => ?_)
        · refine gx_S (S' := ndS S (btF bo (s_A S 1016) (s + 1)) (s_A S 1015)) (congrArg (fun f => ndS S f (s_A S 1015)) (btF_s (by omega))) ?_
          refine g_iinc (pc := 88) (L' := [_, some (.int _), _, _, _, _, _]) C dX12_fillsNeeds_88 rfl (nI_1 _) rfl ?_
          refine g_goto (pc := 91) C 13 dX12_fillsNeeds_91 rfl ?_
          exact ih (s + 1) _ (by omega)
        · exact absurd (by decide) h2
  refine gx_S ?_ (boats (2 ^ P) 0 _ (by omega))
  rw [btF_0]
