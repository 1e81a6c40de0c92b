/-! ===== THE CLASS: who parts the rules ===== -/
theorem wyN_bit {ok : Nat → Bool} : ∀ n k, (wyN ok n).testBit k = (decide (k < n) && ok k)
  | 0, k => by simp [wyN]
  | n + 1, k => by
    have ih := wyN_bit (ok := ok) n
    have hlt := wyN_lt ok n
    simp only [wyN]
    by_cases h : ok n = true
    · rw [if_pos h, Nat.add_comm]
      by_cases e : k < n
      · rw [Nat.testBit_two_pow_add_gt e, ih]
        simp [e, Nat.lt_succ_of_lt e]
      · by_cases e2 : k = n
        · subst e2
          rw [Nat.testBit_two_pow_add_eq, ih]
          simp [h]
        · rw [Nat.testBit_lt_two_pow (Nat.lt_of_lt_of_le (show 2 ^ n + wyN ok n < 2 ^ (n + 1) by rw [Nat.pow_succ]; omega) (Nat.pow_le_pow_right (by decide) (show n + 1 ≤ k by omega)))]
          simp [show ¬ k < n + 1 by omega]
    · rw [if_neg h, Nat.add_zero, ih]
      by_cases e : k = n
      · subst e; simp [Bool.eq_false_iff.mpr h]
      · rw [show decide (k < n + 1) = decide (k < n) from decide_eq_decide.mpr (by omega)]
theorem pop_way : ∀ n, n < 7 → ∀ a, a < 64 → a < 2 ^ n → popN (a + 2 ^ n) = popN a + 1 := by decide +kernel
theorem pop_wy {ok : Nat → Bool} {sd : Nat → Int32} : ∀ n, n ≤ 7 → popN (wyN ok n) = (alF ok sd n).1 + (alF ok sd n).2
  | 0, _ => by simp [wyN, alF, popN]
  | n + 1, hn => by
    have ih := pop_wy (ok := ok) (sd := sd) n (by omega)
    have hlt := wyN_lt ok n
    have h64 : wyN ok n < 64 := Nat.lt_of_lt_of_le hlt (Nat.pow_le_pow_right (by decide) (show n ≤ 6 by omega))
    simp only [wyN, alF]
    by_cases h : ok n = true
    · rw [if_pos h, if_pos h, pop_way n (by omega) _ h64 hlt, ih]
      split <;> simp <;> omega
    · rw [if_neg h, if_neg h, Nat.add_zero, ih]
theorem shr_bit : ∀ s, s < 128 → ∀ k, k < 7 → (nI s >>> (nI k &&& 31)) &&& nI 1 = if s.testBit k = true then nI 1 else nI 0 := by decide +kernel
theorem alF_ext {f g : Nat → Bool} {sd : Nat → Int32} : ∀ n, (∀ r, r < n → f r = g r) → alF f sd n = alF g sd n
  | 0, _ => rfl
  | n + 1, h => by
    simp only [alF]
    rw [h n (by omega), alF_ext n (fun r hr => h r (by omega))]
theorem alF_cut {f : Nat → Bool} {sd : Nat → Int32} {n : Nat} (h : ∀ r, n ≤ r → f r = false) : ∀ d, alF f sd (n + d) = alF f sd n
  | 0 => rfl
  | d + 1 => by
    show (if f (n + d) = true then _ else alF f sd (n + d)) = _
    rw [h (n + d) (by omega), if_neg (by decide), alF_cut h d]
theorem mx_al {a b all : Nat} (h : a + b = all) (hl : all ≤ 7) : mxF (nI a) (nI (all - a)) = nI (alM (a, b)) := by
  subst h
  unfold mxF alM
  rw [show a + b - a = b by omega]
  by_cases c : a < b
  · rw [if_pos (nI_lt c (by omega)), if_neg (show ¬ b < a by omega)]
  · rw [if_neg (nI_nlt (by omega) (by omega))]
    by_cases c2 : b < a
    · rw [if_pos c2]
    · rw [if_neg c2]; congr 1; show a = b; omega
theorem lk_next {al : Nat → Nat} {i : Nat} (h : ∀ p, 0 < al p) : lkF al (i + 1) = match lkF al i with
    | none => some (i, al i)
    | some (b, f) => if al i < f then some (i, al i) else some (b, f) := by
  simp only [lkF]
  rw [if_neg (by have := h i; omega)]
  cases lkF al i <;> rfl
theorem al_add {f : Nat → Bool} {sd : Nat → Int32} {k : Nat} {x : Int32} (hf : f k = true) (hx : sd k = x) (h : x = nI 0 ∨ x = nI 1) : nI (alF f sd k).1 + x = nI (alF f sd (k + 1)).1 := by
  have e : alF f sd (k + 1) = if x = nI 1 then ((alF f sd k).1 + 1, (alF f sd k).2) else ((alF f sd k).1, (alF f sd k).2 + 1) := by
    show (if f k = true then (if sd k = nI 1 then _ else _) else _) = _
    rw [if_pos hf]
    subst hx
    rfl
  rw [e]
  rcases h with h | h
  · subst h; rw [if_neg (by decide), nI_add]; rfl
  · subst h; rw [if_pos rfl, nI_add]
theorem c_X2_part (w : Wd) (l : Launch) (S : St) (c ca cg cl ce P m nr n so : Nat) (Fs : Nat → (Nat → Int64) → Int64) (u : Nat → Int32) (hf : ftK S) (hw : nwS S c ca cg cl ce P u) (ha : sdA P u) (hrl : rlS S nr Fs) (hso : so = wyN (ftF Fs (nI 0) u P m) (nr + 1)) (hn : n ≤ 60) (hso0 : 0 < so) : gx_M w l yX2_part cX2_part 8 none rmX2_part [.ref (ad (w_b w) 82), .ref (ad (w_b w) 7), .ref (ad (w_b w) 6), .int (nI so), .int (nI n)] S (fun v S' => v = none ∧ eqO dF S S' ∧ ftK S' ∧ (0 < P → ∃ b f, lookR Fs (nI 0) u P m nr n = some (b, f) ∧ s_I S' 203 82 = nI b ∧ s_I S' 204 82 = nI f)) := by
  obtain ⟨hz, r1, r2, hc, hk, hr⟩ := id hw
  have hP7 := hc.2.2
  have hnr6 := hrl.2.1
  have of0 : gx_o S 82 2 := o_st hz rfl rfl
  have rv0 := hf.2.2.2.2.1
  have ov0 : gx_a S 89 13 7 := a_st hz rfl rfl rfl
  have d89 : ¬ dT 83 84 85 86 87 89 := by unfold dT dP dR; omega
  have r89 : ¬ dR 86 87 89 := by unfold dR; omega
  generalize hpost : (fun (v : Option Value) (S' : St) => v = none ∧ eqO dF S S' ∧ ftK S' ∧ (0 < P → ∃ b f, lookR Fs (nI 0) u P m nr n = some (b, f) ∧ s_I S' 203 82 = nI b ∧ s_I S' 204 82 = nI f)) = post
  have hbit : ∀ k, so.testBit k = (decide (k < nr + 1) && ftF Fs (nI 0) u P m k) := fun k => by rw [hso]; exact wyN_bit _ _
  have hs128 : so < 128 := by rw [hso]; exact Nat.lt_of_lt_of_le (wyN_lt _ _) (Nat.pow_le_pow_right (by decide) (show nr + 1 ≤ 7 by omega))
  have hall : ∀ sd : Nat → Int32, popN so = (alF (fun k => so.testBit k) sd 7).1 + (alF (fun k => so.testBit k) sd 7).2 ∧ alF (fun k => so.testBit k) sd 7 = alF (ftF Fs (nI 0) u P m) sd (nr + 1) := fun sd => by
    have e1 : alF (fun k => so.testBit k) sd 7 = alF (fun k => so.testBit k) sd (nr + 1) := by
      have := alF_cut (f := fun k => so.testBit k) (sd := sd) (n := nr + 1) (fun r hr => by show so.testBit r = false; rw [hbit, decide_eq_false (by omega), Bool.false_and]) (7 - (nr + 1))
      rw [show nr + 1 + (7 - (nr + 1)) = 7 by omega] at this
      exact this
    have e2 : alF (fun k => so.testBit k) sd (nr + 1) = alF (ftF Fs (nI 0) u P m) sd (nr + 1) := alF_ext _ (fun r hr => by show so.testBit r = _; rw [hbit, decide_eq_true hr, Bool.true_and])
    rw [e1, e2]
    exact ⟨by rw [hso]; exact pop_wy _ (by omega), rfl⟩
  have hpos : 0 < popN so := by
    have : ∀ s, s < 128 → 0 < s → 0 < popN s := by decide +kernel
    exact this so hs128 hso0
  have hle7 := popN_le so hs128
  generalize hal : (fun p => alM (alF (ftF Fs (nI 0) u P m) (fun r => pnF (frOf Fs r) (nI 0) (begF u) P 0 (n + 1) (21 + p)) (nr + 1))) = al
  have hlook : lookR Fs (nI 0) u P m nr n = lkF al P := by rw [← hal]; rfl
  have hal0 : ∀ p, 0 < al p ∧ al p ≤ popN so := fun p => by
    obtain ⟨e1, e2⟩ := hall (fun r => pnF (frOf Fs r) (nI 0) (begF u) P 0 (n + 1) (21 + p))
    rw [e2] at e1
    rw [← hal]
    show 0 < alM _ ∧ alM _ ≤ _
    unfold alM
    split <;> omega
  refine gx_start rfl 3 rfl (Nat.le_of_ble_eq_true rfl) ?_
  intro X C _ hl
  subst hl
  refine gx_L (L' := [_, _, _, _, _, _, _, _]) rfl ?_
  refine g_aload_n (pc := 0) C dX2_part_0 rfl ?_
  refine fgr_X2_29 (pc := 1) C (by exact of0.1) (zk (by exact of0.2)) (by exact rv0) dX2_part_1 ?_
  refine g_iconst (pc := 4) (v := nI 0) C dX2_part_4 (by decide) ?_
  refine cf_X2_103 (pc := 5) C (c_fill _ _ S 89 7 (nI 0) ov0 (by omega)) ⟨rfl, rfl⟩ ⟨rfl, rfl⟩ ⟨Nat.zero_le _, Nat.zero_le _⟩ rfl (Nat.le_of_ble_eq_true rfl) dX2_part_5 ?_
  refine g_iconst (pc := 8) (v := nI 0) C dX2_part_8 (by decide) ?_
  refine g_istore (pc := 9) (L' := [_, _, _, _, some (.int _), _, _, _]) C dX2_part_9 rfl rfl ?_
  /- the best of them -/
  have loop3 : ∀ d i S1 z7, i + d = P → eqO dF S S1 → ftK S1 → (∀ p, p < P → s_A S1 89 p = nI (alF (fun k => so.testBit k) (fun r => pnF (frOf Fs r) (nI 0) (begF u) P 0 (n + 1) (21 + p)) 7).1) → (match lkF al i with
      | none => i = 0 ∧ s_I S1 204 82 = nI (popN so + 1)
      | some (b, f) => f ≤ 7 ∧ s_I S1 203 82 = nI b ∧ s_I S1 204 82 = nI f) → gx_G w X S1 0 0 134 [some (.ref (ad (w_b w) 82)), some (.ref (ad (w_b w) 7)), some (.ref (ad (w_b w) 6)), some (.int (nI so)), some (.int (nI n)), some (.int (nI (popN so))), some (.int (nI i)), z7] [] (gx_E w X post) := by
    intro d
    induction d with
    | zero =>
      intro i S1 z7 hi q1 f1 hR hm
      have hi : i = P := hi
      subst hi
      obtain ⟨hz1, r11, -, hc1, -, -⟩ := hw.to q1 dF_now
      have o71 : gx_o S1 7 8 := o_st hz1 rfl rfl
      refine g_iload (pc := 134) C dX2_part_134 rfl ?_
      refine g_aload_n (pc := 136) C dX2_part_136 rfl ?_
      refine fgr_X2_41 (pc := 137) C (by exact o71.1) (zk (by exact o71.2)) (by exact r11) dX2_part_137 ?_
      refine fg_X2_74 (pc := 140) C (by exact hc1.1.1.1) (zk (by exact hc1.1.1.2)) dX2_part_140 ?_
      refine gx_ti (y := nI i) hc1.2.1.2.2.2.2.1 ?_
      refine g_icmp_ge (pc := 143) C 195 dX2_part_143 rfl (fun c1 => ?_) (fun c1 => ?_)
      · rw [← hpost]
        exact g_return (pc := 195) C ⟨rfl, rfl⟩ dX2_part_195 ⟨rfl, q1, f1, fun hP => by
          rw [hlook]
          cases e : lkF al i with
          | none => rw [e] at hm; exact absurd hm.1 (by omega)
          | some q => rw [e] at hm; exact ⟨q.1, q.2, rfl, hm.2.1, hm.2.2⟩⟩
      · exact absurd (nI_le (Nat.le_refl _) (by omega)) c1
    | succ d ih =>
      intro i S1 z7 hi q1 f1 hR hm
      obtain ⟨hz1, r11, -, hc1, -, -⟩ := hw.to q1 dF_now
      have o71 : gx_o S1 7 8 := o_st hz1 rfl rfl
      have of1 : gx_o S1 82 2 := o_st hz1 rfl rfl
      have rv1 := f1.2.2.2.2.1
      have ov1 : gx_a S1 89 13 7 := a_st hz1 rfl rfl rfl
      obtain ⟨e1, e2⟩ := hall (fun r => pnF (frOf Fs r) (nI 0) (begF u) P 0 (n + 1) (21 + i))
      have e3 : al i = alM (alF (fun k => so.testBit k) (fun r => pnF (frOf Fs r) (nI 0) (begF u) P 0 (n + 1) (21 + i)) 7) := by rw [e2, ← hal]
      have e4 := hR i (by omega)
      generalize alF (fun k => so.testBit k) (fun r => pnF (frOf Fs r) (nI 0) (begF u) P 0 (n + 1) (21 + i)) 7 = qq at e1 e3 e4
      obtain ⟨qa, qb⟩ := qq
      have e1 : popN so = qa + qb := e1
      have e4 : s_A S1 89 i = nI qa := e4
      have hai := hal0 i
      have hnx := lk_next (al := al) (i := i) (fun p => (hal0 p).1)
      refine g_iload (pc := 134) C dX2_part_134 rfl ?_
      refine g_aload_n (pc := 136) C dX2_part_136 rfl ?_
      refine fgr_X2_41 (pc := 137) C (by exact o71.1) (zk (by exact o71.2)) (by exact r11) dX2_part_137 ?_
      refine fg_X2_74 (pc := 140) C (by exact hc1.1.1.1) (zk (by exact hc1.1.1.2)) dX2_part_140 ?_
      refine gx_ti (y := nI P) hc1.2.1.2.2.2.2.1 ?_
      refine g_icmp_ge (pc := 143) C 195 dX2_part_143 rfl (fun c1 => ?_) (fun c1 => ?_)
      · exact absurd c1 (nI_ge (by omega) (by omega))
      · refine g_aload_n (pc := 146) C dX2_part_146 rfl ?_
        refine fgr_X2_29 (pc := 147) C (by exact of1.1) (zk (by exact of1.2)) (by exact rv1) dX2_part_147 ?_
        refine g_iload (pc := 150) C dX2_part_150 rfl ?_
        refine n_iald (pc := 152) (n := 7) C (by exact ov1.1) (by exact ov1.2.1) (zk (by exact ov1.2.2)) isn_v rfl (by omega) dX2_part_152 ?_
        refine gx_ti (y := nI qa) e4 ?_
        refine g_iload (pc := 153) C dX2_part_153 rfl ?_
        refine g_aload_n (pc := 155) C dX2_part_155 rfl ?_
        refine fgr_X2_29 (pc := 156) C (by exact of1.1) (zk (by exact of1.2)) (by exact rv1) dX2_part_156 ?_
        refine g_iload (pc := 159) C dX2_part_159 rfl ?_
        refine n_iald (pc := 161) (n := 7) C (by exact ov1.1) (by exact ov1.2.1) (zk (by exact ov1.2.2)) isn_v rfl (by omega) dX2_part_161 ?_
        refine gx_ti (y := nI qa) e4 ?_
        refine g_isub (pc := 162) C dX2_part_162 ?_
        refine gx_ti (y := nI (popN so - qa)) (pk_sub (by omega)) ?_
        refine g_mmax (pc := 163) C wl_X2_115 ⟨rfl, rfl⟩ ⟨Nat.zero_le _, Nat.zero_le _⟩ rfl (Nat.le_of_ble_eq_true rfl) dX2_part_163 ?_
        refine gx_ti (y := nI (al i)) ((mx_al e1.symm hle7).trans (by rw [e3])) ?_
        refine g_istore (pc := 166) (L' := [_, _, _, _, _, _, some (.int _), _]) C dX2_part_166 rfl rfl ?_
        refine g_iload (pc := 168) C dX2_part_168 rfl ?_
        refine g_aload_n (pc := 170) C dX2_part_170 rfl ?_
        refine fg_X2_112 (pc := 171) C (by exact of1.1) (zk (by exact of1.2)) dX2_part_171 ?_
        have take : lkF al (i + 1) = some (i, al i) → gx_G w X S1 0 0 177 [some (.ref (ad (w_b w) 82)), some (.ref (ad (w_b w) 7)), some (.ref (ad (w_b w) 6)), some (.int (nI so)), some (.int (nI n)), some (.int (nI (popN so))), some (.int (nI i)), some (.int (nI (al i)))] [] (gx_E w X post) := by
          intro e
          refine g_aload_n (pc := 177) C dX2_part_177 rfl ?_
          refine g_iload (pc := 178) C dX2_part_178 rfl ?_
          refine fp_X2_109 (pc := 180) C (by exact of1.1) (zk (by exact of1.2)) dX2_part_180 ?_
          refine g_aload_n (pc := 183) C dX2_part_183 rfl ?_
          refine g_iload (pc := 184) C dX2_part_184 rfl ?_
          refine fp_X2_112 (pc := 186) C (by exact of1.1) (zk (by exact of1.2)) dX2_part_186 ?_
          refine g_iinc (pc := 189) (L' := [_, _, _, _, _, some (.int _), _, _]) C dX2_part_189 rfl (nI_1 _) rfl ?_
          refine g_goto (pc := 192) C 134 dX2_part_192 rfl ?_
          refine ih (i + 1) _ _ (by omega) (q1.trans ((eqO.sI (D := dF) (by unfold dF; omega)).trans (eqO.sI (by unfold dF; omega)))) f1 hR ?_
          rw [e]
          exact ⟨by omega, (gI_ne (Or.inl (by decide))).trans gI_at, gI_at⟩
        have skip : lkF al (i + 1) = lkF al i → i ≠ 0 → gx_G w X S1 0 0 189 [some (.ref (ad (w_b w) 82)), some (.ref (ad (w_b w) 7)), some (.ref (ad (w_b w) 6)), some (.int (nI so)), some (.int (nI n)), some (.int (nI (popN so))), some (.int (nI i)), some (.int (nI (al i)))] [] (gx_E w X post) := by
          intro e hi0
          refine g_iinc (pc := 189) (L' := [_, _, _, _, _, some (.int _), _, _]) C dX2_part_189 rfl (nI_1 _) rfl ?_
          refine g_goto (pc := 192) C 134 dX2_part_192 rfl ?_
          refine ih (i + 1) _ _ (by omega) q1 f1 hR ?_
          rw [e]
          cases e5 : lkF al i with
          | none => rw [e5] at hm; exact absurd hm.1 hi0
          | some q => rw [e5] at hm; exact hm
        cases e5 : lkF al i with
        | none =>
          rw [e5] at hm hnx
          refine gx_ti hm.2 ?_
          refine g_icmp_ge (pc := 174) C 189 dX2_part_174 rfl (fun c2 => ?_) (fun c2 => ?_)
          · exact absurd c2 (nI_ge (by omega) (by omega))
          · exact take hnx
        | some q =>
          obtain ⟨b, f⟩ := q
          rw [e5] at hm hnx
          refine gx_ti hm.2.2 ?_
          have hnx : lkF al (i + 1) = if al i < f then some (i, al i) else some (b, f) := hnx
          have hf7 : f ≤ 7 := hm.1
          have hi0 : i ≠ 0 := fun e => by rw [e] at e5; cases e5
          refine g_icmp_ge (pc := 174) C 189 dX2_part_174 rfl (fun c2 => ?_) (fun c2 => ?_)
          · have c2 : ¬ al i < f := fun q => absurd c2 (nI_ge q (by omega))
            rw [if_neg c2] at hnx
            exact skip (hnx.trans e5.symm) hi0
          · have c2 : al i < f := Nat.lt_of_not_le (fun q => c2 (nI_le q (by omega)))
            rw [if_pos c2] at hnx
            exact take hnx
  /- each rule -/
  have outer : ∀ d k S1 z6, k + d = 7 → eqO dF S S1 → ftK S1 → (∀ p, p < P → s_A S1 89 p = nI (alF (fun k => so.testBit k) (fun r => pnF (frOf Fs r) (nI 0) (begF u) P 0 (n + 1) (21 + p)) k).1) → gx_G w X S1 0 0 11 [some (.ref (ad (w_b w) 82)), some (.ref (ad (w_b w) 7)), some (.ref (ad (w_b w) 6)), some (.int (nI so)), some (.int (nI n)), some (.int (nI k)), z6, none] [] (gx_E w X post) := by
    intro d
    induction d with
    | zero =>
      intro k S1 z6 hi q1 f1 hR
      have hi : k = 7 := hi
      subst hi
      obtain ⟨hz1, r11, -, hc1, -, -⟩ := hw.to q1 dF_now
      have rl1 := hrl.to q1 (by unfold dF; omega) dF_2000
      have a61 := rl1.1
      have of1 : gx_o S1 82 2 := o_st hz1 rfl rfl
      refine g_iload (pc := 11) C dX2_part_11 rfl ?_
      refine g_aload_n (pc := 13) C dX2_part_13 rfl ?_
      refine g_alen17 (pc := 14) (n := 6) (v := nI (6)) C (by exact a61.1) (by exact a61.2.1) (zk (by exact a61.2.2)) rfl dX2_part_14 ?_
      refine g_icmp_gt (pc := 15) C 112 dX2_part_15 rfl (fun c1 => ?_) (fun c1 => ?_)
      · refine g_iload_n (pc := 112) C dX2_part_112 rfl ?_
        refine cf_X2_82 (pc := 113) C (c_bitCount _ _ S1 so hs128) ⟨rfl, rfl⟩ ⟨rfl, rfl⟩ ⟨Nat.zero_le _, Nat.zero_le _⟩ rfl (Nat.le_of_ble_eq_true rfl) dX2_part_113 ?_
        refine g_istore (pc := 116) (L' := [_, _, _, _, some (.int _), _, _, _]) C dX2_part_116 rfl rfl ?_
        refine g_aload_n (pc := 118) C dX2_part_118 rfl ?_
        refine g_iconst (pc := 119) (v := -1) C dX2_part_119 (by decide) ?_
        refine fp_X2_109 (pc := 120) C (by exact of1.1) (zk (by exact of1.2)) dX2_part_120 ?_
        refine g_aload_n (pc := 123) C dX2_part_123 rfl ?_
        refine g_iload (pc := 124) C dX2_part_124 rfl ?_
        refine g_iconst (pc := 126) (v := nI 1) C dX2_part_126 (by decide) ?_
        refine g_iadd (pc := 127) C dX2_part_127 ?_
        refine gx_ti (y := nI (popN so + 1)) (nI_add _ _) ?_
        refine fp_X2_112 (pc := 128) C (by exact of1.1) (zk (by exact of1.2)) dX2_part_128 ?_
        refine g_iconst (pc := 131) (v := nI 0) C dX2_part_131 (by decide) ?_
        refine g_istore (pc := 132) (L' := [_, _, _, _, _, some (.int _), _, _]) C dX2_part_132 rfl rfl ?_
        refine loop3 P 0 _ _ (by omega) (q1.trans ((eqO.sI (D := dF) (by unfold dF; omega)).trans (eqO.sI (by unfold dF; omega)))) f1 hR ?_
        exact ⟨rfl, gI_at⟩
      · exact absurd (nI_lt (by omega) (by omega)) c1
    | succ d ih =>
      intro k S1 z6 hi q1 f1 hR
      obtain ⟨hz1, r11, -, hc1, -, -⟩ := id (hw.to q1 dF_now)
      have rl1 := hrl.to q1 (by unfold dF; omega) dF_2000
      have a61 := rl1.1
      have o71 : gx_o S1 7 8 := o_st hz1 rfl rfl
      have of1 : gx_o S1 82 2 := o_st hz1 rfl rfl
      have rt1 := f1.2.2.1
      have ort1 := f1.2.2.2.2.2.2.1
      refine g_iload (pc := 11) C dX2_part_11 rfl ?_
      refine g_aload_n (pc := 13) C dX2_part_13 rfl ?_
      refine g_alen17 (pc := 14) (n := 6) (v := nI (6)) C (by exact a61.1) (by exact a61.2.1) (zk (by exact a61.2.2)) rfl dX2_part_14 ?_
      refine g_icmp_gt (pc := 15) C 112 dX2_part_15 rfl (fun c1 => ?_) (fun c1 => ?_)
      · exact absurd c1 (nI_nlt (by omega) (by omega))
      · refine g_iload_n (pc := 18) C dX2_part_18 rfl ?_
        refine g_iload (pc := 19) C dX2_part_19 rfl ?_
        refine g_ishr (pc := 21) C dX2_part_21 ?_
        refine g_iconst (pc := 22) (v := nI 1) C dX2_part_22 (by decide) ?_
        refine g_iand (pc := 23) C dX2_part_23 ?_
        refine gx_ti (y := (if so.testBit k = true then nI 1 else nI 0)) (shr_bit so hs128 k (by omega)) ?_
        refine g_iconst (pc := 24) (v := nI 1) C dX2_part_24 (by decide) ?_
        by_cases hb : so.testBit k = true
        · rw [if_pos hb]
          have hkn : k < nr + 1 := by
            rw [hbit] at hb
            exact of_decide_eq_true ((Bool.and_eq_true _ _).mp hb).1
          refine g_icmp_ne (pc := 25) C 106 dX2_part_25 rfl (fun c2 => ?_) (fun c2 => ?_)
          · exact absurd rfl c2
          · refine g_aload_n (pc := 28) C dX2_part_28 rfl ?_
            refine fgr_X2_21 (pc := 29) C (by exact of1.1) (zk (by exact of1.2)) (by exact rt1) dX2_part_29 ?_
            refine g_aload_n (pc := 32) C dX2_part_32 rfl ?_
            refine fgr_X2_41 (pc := 33) C (by exact o71.1) (zk (by exact o71.2)) (by exact r11) dX2_part_33 ?_
            refine cg_X2_95 (pc := 36) C (by exact ort1.1) (zk (by exact ort1.2)) (c_X6_begin _ _ S1 c ca cg cl ce 86 87 P u hc1 f1.2.2.2.2.2.2) ⟨rfl, rfl⟩ ⟨Nat.zero_le _, Nat.zero_le _⟩ rfl (Nat.le_of_ble_eq_true rfl) dX2_part_36 ?_
            rintro _ S2 ⟨rfl, q2, h2⟩
            have f2 : ftK S2 := ft_cp f1 q2 h2.1
            have q12 := q1.trans (q2.mono dR_dF)
            obtain ⟨hz2, r12, -, hc2, -, -⟩ := id (hw.to q12 dF_now)
            have rl2 := hrl.to q12 (by unfold dF; omega) dF_2000
            have a62 := rl2.1
            have o72 : gx_o S2 7 8 := o_st hz2 rfl rfl
            have of2 : gx_o S2 82 2 := o_st hz2 rfl rfl
            have hout : ∀ j, (j < 10 ∨ 28 ≤ j) → begF u j = u j := fun j hj => begF_lo hj
            have cont : ∀ ro, frC2 S2 ro (frOf Fs k) → gx_G w X S2 0 0 59 [some (.ref (ad (w_b w) 82)), some (.ref (ad (w_b w) 7)), some (.ref (ad (w_b w) 6)), some (.int (nI so)), some (.int (nI n)), some (.int (nI k)), z6, none] [va_rf (ro.map (ad (w_b w))), .ref (ad (w_b w) c), .ref (ad (w_b w) 82)] (gx_E w X post) := by
              intro ro hro
              refine g_iload (pc := 59) C dX2_part_59 rfl ?_
              refine g_iconst (pc := 61) (v := nI 1) C dX2_part_61 (by decide) ?_
              refine g_iadd (pc := 62) C dX2_part_62 ?_
              refine gx_ti (y := nI (n + 1)) (nI_add _ _) ?_
              refine cg_X2_45 (pc := 63) C (by exact of2.1) (zk (by exact of2.2)) (c_X2_sailOn _ _ S2 c ca cg cl ce P 0 (n + 1) ro (frOf Fs k) (begF u) f2 (hc2.u hout) hk h2 (sdA_beg hP7 ha) hro begF_hour (by omega)) ⟨rfl, rfl⟩ ⟨Nat.zero_le _, Nat.zero_le _⟩ rfl (Nat.le_of_ble_eq_true rfl) dX2_part_63 ?_
              rintro _ S3 ⟨rfl, q3, f3, h3⟩
              have q13 := q12.trans (q3.mono dT_dF)
              have hold : ∀ j, s_A S3 89 j = s_A S1 89 j := fun j => by rw [q3.A d89, q2.A r89]
              have inner : ∀ d i S4, i + d = P → eqO dF S S4 → ftK S4 → rvS S4 86 87 P (pnF (frOf Fs k) (nI 0) (begF u) P 0 (n + 1)) → (∀ p, p < P → s_A S4 89 p = nI (alF (fun k => so.testBit k) (fun r => pnF (frOf Fs r) (nI 0) (begF u) P 0 (n + 1) (21 + p)) (if p < i then k + 1 else k)).1) → gx_G w X S4 0 0 69 [some (.ref (ad (w_b w) 82)), some (.ref (ad (w_b w) 7)), some (.ref (ad (w_b w) 6)), some (.int (nI so)), some (.int (nI n)), some (.int (nI k)), some (.int (nI i)), none] [] (gx_E w X post) := by
                intro d
                induction d with
                | zero =>
                  intro i S4 hi q4 f4 h4 hR4
                  have hi : i = P := hi
                  subst hi
                  obtain ⟨hz4, r14, -, hc4, -, -⟩ := id (hw.to q4 dF_now)
                  have o74 : gx_o S4 7 8 := o_st hz4 rfl rfl
                  refine g_iload (pc := 69) C dX2_part_69 rfl ?_
                  refine g_aload_n (pc := 71) C dX2_part_71 rfl ?_
                  refine fgr_X2_41 (pc := 72) C (by exact o74.1) (zk (by exact o74.2)) (by exact r14) dX2_part_72 ?_
                  refine fg_X2_74 (pc := 75) C (by exact hc4.1.1.1) (zk (by exact hc4.1.1.2)) dX2_part_75 ?_
                  refine gx_ti (y := nI i) hc4.2.1.2.2.2.2.1 ?_
                  refine g_icmp_ge (pc := 78) C 106 dX2_part_78 rfl (fun c3 => ?_) (fun c3 => ?_)
                  · refine g_iinc (pc := 106) (L' := [_, _, _, _, some (.int _), _, _, _]) C dX2_part_106 rfl (nI_1 _) rfl ?_
                    refine g_goto (pc := 109) C 11 dX2_part_109 rfl ?_
                    refine ih (k + 1) S4 _ (by omega) q4 f4 (fun p hp => ?_)
                    have := hR4 p hp
                    rw [if_pos hp] at this
                    exact this
                  · exact absurd (nI_le (Nat.le_refl _) (by omega)) c3
                | succ d jh =>
                  intro i S4 hi q4 f4 h4 hR4
                  obtain ⟨hz4, r14, -, hc4, -, -⟩ := id (hw.to q4 dF_now)
                  have o74 : gx_o S4 7 8 := o_st hz4 rfl rfl
                  have of4 : gx_o S4 82 2 := o_st hz4 rfl rfl
                  have rt4 := f4.2.2.1
                  have rv4 := f4.2.2.2.2.1
                  have ov4 : gx_a S4 89 13 7 := a_st hz4 rfl rfl rfl
                  have hiP : i < P := by omega
                  have e4 := hR4 i hiP
                  rw [if_neg (Nat.lt_irrefl i)] at e4
                  refine g_iload (pc := 69) C dX2_part_69 rfl ?_
                  refine g_aload_n (pc := 71) C dX2_part_71 rfl ?_
                  refine fgr_X2_41 (pc := 72) C (by exact o74.1) (zk (by exact o74.2)) (by exact r14) dX2_part_72 ?_
                  refine fg_X2_74 (pc := 75) C (by exact hc4.1.1.1) (zk (by exact hc4.1.1.2)) dX2_part_75 ?_
                  refine gx_ti (y := nI P) hc4.2.1.2.2.2.2.1 ?_
                  refine g_icmp_ge (pc := 78) C 106 dX2_part_78 rfl (fun c3 => ?_) (fun c3 => ?_)
                  · exact absurd c3 (nI_ge (by omega) (by omega))
                  · refine g_aload_n (pc := 81) C dX2_part_81 rfl ?_
                    refine fgr_X2_29 (pc := 82) C (by exact of4.1) (zk (by exact of4.2)) (by exact rv4) dX2_part_82 ?_
                    refine g_iload (pc := 85) C dX2_part_85 rfl ?_
                    refine g_dup2 (pc := 87) C dX2_part_87 rfl rfl ?_
                    refine n_iald (pc := 88) (n := 7) C (by exact ov4.1) (by exact ov4.2.1) (zk (by exact ov4.2.2)) isn_v rfl (by omega) dX2_part_88 ?_
                    refine gx_ti (y := nI (alF (fun k => so.testBit k) (fun r => pnF (frOf Fs r) (nI 0) (begF u) P 0 (n + 1) (21 + i)) k).1) e4 ?_
                    refine g_aload_n (pc := 89) C dX2_part_89 rfl ?_
                    refine fgr_X2_21 (pc := 90) C (by exact of4.1) (zk (by exact of4.2)) (by exact rt4) dX2_part_90 ?_
                    refine g_iload (pc := 93) C dX2_part_93 rfl ?_
                    refine cf_X2_64 (pc := 95) C (by exact h4.1.1.1) (zk (by exact h4.1.1.2)) (c_X6_sideOf _ _ S4 86 87 P _ h4 hP7 i hiP) ⟨rfl, rfl⟩ ⟨rfl, rfl⟩ ⟨Nat.zero_le _, Nat.zero_le _⟩ rfl (Nat.le_of_ble_eq_true rfl) dX2_part_95 ?_
                    refine g_iadd (pc := 98) C dX2_part_98 ?_
                    refine gx_ti (y := nI (alF (fun k => so.testBit k) (fun r => pnF (frOf Fs r) (nI 0) (begF u) P 0 (n + 1) (21 + i)) (k + 1)).1) (al_add (f := fun k => so.testBit k) (sd := fun r => pnF (frOf Fs r) (nI 0) (begF u) P 0 (n + 1) (21 + i)) hb rfl (h4.2.2.2 i hiP)) ?_
                    refine n_iast (pc := 99) (n := 7) C (by exact ov4.1) (by exact ov4.2.1) (zk (by exact ov4.2.2)) isn_v rfl (by omega) dX2_part_99 ?_
                    refine g_iinc (pc := 100) (L' := [_, _, _, _, _, some (.int _), _, _]) C dX2_part_100 rfl (nI_1 _) rfl ?_
                    refine g_goto (pc := 103) C 69 dX2_part_103 rfl ?_
                    refine jh (i + 1) _ (by omega) (q4.trans (eqO.sA (by unfold dF; omega))) f4 (h4.to (D := fun k => k = 89) (eqO.sA rfl) (by omega)) (fun p hp => ?_)
                    rw [gA_at]
                    by_cases e : p = i
                    · subst e; rw [pk_us, if_pos (by omega)]
                    · rw [pk_un e, hR4 p hp]
                      by_cases e2 : p < i
                      · rw [if_pos e2, if_pos (by omega)]
                      · rw [if_neg e2, if_neg (by omega)]
              refine g_iconst (pc := 66) (v := nI 0) C dX2_part_66 (by decide) ?_
              refine g_istore (pc := 67) (L' := [_, _, _, _, _, some (.int _), _, _]) C dX2_part_67 rfl rfl ?_
              exact inner P 0 S3 (by omega) q13 f3 h3 (fun p hp => by rw [if_neg (Nat.not_lt_zero p), hold]; exact hR p hp)
            refine g_aload_n (pc := 39) C dX2_part_39 rfl ?_
            refine g_aload_n (pc := 40) C dX2_part_40 rfl ?_
            refine fgr_X2_41 (pc := 41) C (by exact o72.1) (zk (by exact o72.2)) (by exact r12) dX2_part_41 ?_
            refine g_iload (pc := 44) C dX2_part_44 rfl ?_
            refine g_if_ne (pc := 46) C 53 dX2_part_46 rfl (fun c3 => ?_) (fun c3 => ?_)
            · obtain ⟨k', rfl⟩ : ∃ k', k = k' + 1 := ⟨k - 1, by have : k ≠ 0 := fun e => c3 (by rw [e]; rfl); omega⟩
              refine g_aload_n (pc := 53) C dX2_part_53 rfl ?_
              refine g_iload (pc := 54) C dX2_part_54 rfl ?_
              refine g_iconst (pc := 56) (v := nI 1) C dX2_part_56 (by decide) ?_
              refine g_isub (pc := 57) C dX2_part_57 ?_
              refine g_aald17 (pc := 58) (n := 6) C (by exact a62.1) (by exact a62.2.1) (zk (by exact a62.2.2)) (pk_sub (by omega)) rfl (by omega) dX2_part_58 ?_
              exact cont _ (rl2.2.2 k' (by omega))
            · have c3 : k = 0 := (nI_eq (b := 0) (by omega) (by omega)).mp (Decidable.not_not.mp c3)
              subst c3
              refine g_null (pc := 49) C dX2_part_49 ?_
              refine g_goto (pc := 50) C 59 dX2_part_50 rfl ?_
              exact cont none rfl
        · rw [if_neg hb]
          refine g_icmp_ne (pc := 25) C 106 dX2_part_25 rfl (fun c2 => ?_) (fun c2 => ?_)
          · refine g_iinc (pc := 106) (L' := [_, _, _, _, some (.int _), _, _, _]) C dX2_part_106 rfl (nI_1 _) rfl ?_
            refine g_goto (pc := 109) C 11 dX2_part_109 rfl ?_
            refine ih (k + 1) S1 _ (by omega) q1 f1 (fun p hp => ?_)
            simp only [alF]
            rw [if_neg hb]
            exact hR p hp
          · exact absurd (Decidable.not_not.mp c2) (by decide)
  exact outer 7 0 _ _ (by omega) (eqO.sA (by unfold dF; omega)) hf (fun p hp => by rw [gA_at]; unfold filF; rw [if_pos (by omega)]; rfl)
