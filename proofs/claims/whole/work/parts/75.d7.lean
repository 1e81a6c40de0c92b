/-! ===== THE CLASS: twos who lie ===== -/
theorem half_nI : ∀ a, a < 100 → ∀ k, k < 2 → nI a >>> (nI k &&& 31) = if k = 1 then nI a / nI 2 else nI a := by decide +kernel
theorem upd_same {u : Nat → Int32} {k : Nat} {x : Int32} (h : x = u k) : upd u k x = u := by
  funext j
  by_cases e : j = k
  · subst e; rw [pk_us, h]
  · rw [pk_un e]
theorem hv_eq {u : Nat → Int32} {a b c : Nat} : upd (upd u (14 + a) (if c / 2 = 1 then u (14 + a) / nI 2 else u (14 + a))) (14 + b) (if c % 2 = 1 then upd u (14 + a) (if c / 2 = 1 then u (14 + a) / nI 2 else u (14 + a)) (14 + b) / nI 2 else upd u (14 + a) (if c / 2 = 1 then u (14 + a) / nI 2 else u (14 + a)) (14 + b)) = hvF u a b c := by
  have e1 : upd u (14 + a) (if c / 2 = 1 then u (14 + a) / nI 2 else u (14 + a)) = hv1 u a c := by
    unfold hv1
    by_cases h : c / 2 = 1
    · rw [if_pos h, if_pos h]
    · rw [if_neg h, if_neg h, upd_same rfl]
  rw [e1]
  unfold hvF
  by_cases h : c % 2 = 1
  · rw [if_pos h, if_pos h]
  · rw [if_neg h, if_neg h, upd_same rfl]
theorem amU_half {P p : Nat} {u : Nat → Int32} {q : Prop} [Decidable q] (h : amU P u) (hp : p < P) : amU P (upd u (14 + p) (if q then u (14 + p) / nI 2 else u (14 + p))) ∧ ∃ a, a ≤ 99 ∧ u (14 + p) = nI a := by
  obtain ⟨a, ha, ea⟩ := h p hp
  refine ⟨?_, a, ha, ea⟩
  rw [ea]
  by_cases hq : q
  · rw [if_pos hq, pk_div (by omega) (by omega) (by omega)]; exact amU_upd h (by omega)
  · rw [if_neg hq]; exact amU_upd h ha
/-- those ways, as bits -/
def wyN (ok : Nat → Bool) : Nat → Nat
  | 0 => 0
  | n + 1 => wyN ok n + (if ok n = true then 2 ^ n else 0)
theorem wyN_lt (ok : Nat → Bool) : ∀ n, wyN ok n < 2 ^ n
  | 0 => by simp [wyN]
  | n + 1 => by
    have := wyN_lt ok n
    simp only [wyN, Nat.pow_succ]
    split <;> omega
theorem or_way : ∀ p, p < 4 → ∀ a, a < 16 → a < 2 ^ p → nI a ||| (nI 1 <<< (nI p &&& 31)) = nI (a + 2 ^ p) := by decide +kernel
theorem x2_way : ∀ c, c < 4 → nI c ^^^ nI 2 = nI (c ^^^ 2) ∧ nI c ^^^ nI 1 = nI (c ^^^ 1) ∧ c ^^^ 2 < 4 ∧ c ^^^ 1 < 4 := by decide
theorem c_X2_steadyWays (w : Wd) (l : Launch) (S : St) (c ca cg cl ce P H a b n : Nat) (ro : Option Nat) (fr : Option ((Nat → Int64) → Int64)) (u : Nat → Int32) (hf : ftK S) (hw : nwS S c ca cg cl ce P u) (ha : sdA P u) (hfr : frC2 S ro fr) (hH : u 10 = nI H) (hn : H + n < 2000) (haP : a < P) (hbP : b < P) : gx_M w l yX2_steadyWays cX2_steadyWays 8 (some .int) rmX2_steadyWays [.ref (ad (w_b w) 82), .ref (ad (w_b w) 7), va_rf (ro.map (ad (w_b w))), .int (nI a), .int (nI b), .int (nI n)] S (fun v S' => v = some (.int (nI (wyN (liOK (has1 fr (nI 0) u P H a b n) (has2 fr (nI 0) u P H a b n)) 4))) ∧ eqO dF S S' ∧ ftK S') := by
  obtain ⟨hz, r1, r2, hc, hk, hr⟩ := id hw
  have hP7 := hc.2.2
  have d88 : ¬ dT 83 84 85 86 87 88 := by unfold dT dP dR; omega
  have r88 : ¬ dR 86 87 88 := by unfold dR; omega
  generalize hpost : (fun (v : Option Value) (S' : St) => v = some (.int (nI (wyN (liOK (has1 fr (nI 0) u P H a b n) (has2 fr (nI 0) u P H a b n)) 4))) ∧ eqO dF S S' ∧ ftK S') = post
  refine gx_start rfl 2 (by cases ro <;> rfl) (Nat.le_of_ble_eq_true (by cases ro <;> rfl)) ?_
  intro X C _ hl
  subst hl
  refine gx_L (L' := [some (.ref (ad (w_b w) 82)), some (.ref (ad (w_b w) 7)), some (va_rf (ro.map (ad (w_b w)))), some (.int (nI a)), some (.int (nI b)), some (.int (nI n)), none, none]) (by cases ro <;> rfl) ?_
  /- which of the ways -/
  have loop2 : ∀ S1, eqO dF S S1 → ftK S1 → (∀ c, c < 4 → s_A S1 88 c = has1 fr (nI 0) u P H a b n c ∧ s_A S1 88 (4 + c) = has2 fr (nI 0) u P H a b n c) → ∀ d i, i + d = 4 → gx_G w X S1 0 0 123 [some (.ref (ad (w_b w) 82)), some (.ref (ad (w_b w) 7)), some (va_rf (ro.map (ad (w_b w)))), some (.int (nI a)), some (.int (nI b)), some (.int (nI n)), some (.int (nI (wyN (liOK (has1 fr (nI 0) u P H a b n) (has2 fr (nI 0) u P H a b n)) i))), some (.int (nI i))] [] (gx_E w X post) := by
    intro S1 q1 f1 hR d
    have of1 : gx_o S1 82 2 := o_st f1.1 rfl rfl
    have rh1 := f1.2.2.2.1
    have oh1 : gx_a S1 88 13 8 := a_st f1.1 rfl rfl rfl
    induction d with
    | zero =>
      intro i hi
      have hi : i = 4 := hi
      subst hi
      refine g_iload (pc := 123) C dX2_steadyWays_123 rfl ?_
      refine g_iconst (pc := 125) (v := nI 4) C dX2_steadyWays_125 (by decide) ?_
      refine g_icmp_ge (pc := 126) C 186 dX2_steadyWays_126 rfl (fun c1 => ?_) (fun c1 => ?_)
      · refine g_iload (pc := 186) C dX2_steadyWays_186 rfl ?_
        rw [← hpost]
        exact g_ireturn (pc := 188) C ⟨rfl, rfl⟩ dX2_steadyWays_188 ⟨rfl, q1, f1⟩
      · exact absurd (nI_le (Nat.le_refl 4) (by omega)) c1
    | succ d ih =>
      intro i hi
      obtain ⟨x1, x2, x3, x4⟩ := x2_way i (by omega)
      have hlt := wyN_lt (liOK (has1 fr (nI 0) u P H a b n) (has2 fr (nI 0) u P H a b n)) i
      have h16 : wyN (liOK (has1 fr (nI 0) u P H a b n) (has2 fr (nI 0) u P H a b n)) i < 16 := Nat.lt_of_lt_of_le hlt (Nat.pow_le_pow_right (by decide) (show i ≤ 4 by omega))
      have skip : ¬ liOK (has1 fr (nI 0) u P H a b n) (has2 fr (nI 0) u P H a b n) i = true → gx_G w X S1 0 0 180 [some (.ref (ad (w_b w) 82)), some (.ref (ad (w_b w) 7)), some (va_rf (ro.map (ad (w_b w)))), some (.int (nI a)), some (.int (nI b)), some (.int (nI n)), some (.int (nI (wyN (liOK (has1 fr (nI 0) u P H a b n) (has2 fr (nI 0) u P H a b n)) i))), some (.int (nI i))] [] (gx_E w X post) := by
        intro hno
        refine g_iinc (pc := 180) (L' := [_, _, _, _, _, _, some (.int _), _]) C dX2_steadyWays_180 rfl (nI_1 _) rfl ?_
        refine g_goto (pc := 183) C 123 dX2_steadyWays_183 rfl ?_
        have := ih (i + 1) (by omega)
        rw [show wyN (liOK (has1 fr (nI 0) u P H a b n) (has2 fr (nI 0) u P H a b n)) (i + 1) = wyN (liOK (has1 fr (nI 0) u P H a b n) (has2 fr (nI 0) u P H a b n)) i by show _ + (if _ then _ else 0) = _; rw [if_neg hno, Nat.add_zero]] at this
        exact this
      refine g_iload (pc := 123) C dX2_steadyWays_123 rfl ?_
      refine g_iconst (pc := 125) (v := nI 4) C dX2_steadyWays_125 (by decide) ?_
      refine g_icmp_ge (pc := 126) C 186 dX2_steadyWays_126 rfl (fun c1 => ?_) (fun c1 => ?_)
      · exact absurd c1 (nI_ge (by omega) (by omega))
      · refine g_aload_n (pc := 129) C dX2_steadyWays_129 rfl ?_
        refine fgr_X2_25 (pc := 130) C (by exact of1.1) (zk (by exact of1.2)) (by exact rh1) dX2_steadyWays_130 ?_
        refine g_iload (pc := 133) C dX2_steadyWays_133 rfl ?_
        refine n_iald (pc := 135) (n := 8) C (by exact oh1.1) (by exact oh1.2.1) (zk (by exact oh1.2.2)) isn_v rfl (by omega) dX2_steadyWays_135 ?_
        refine gx_ti (y := has1 fr (nI 0) u P H a b n i) (hR i (by omega)).1 ?_
        refine g_aload_n (pc := 136) C dX2_steadyWays_136 rfl ?_
        refine fgr_X2_25 (pc := 137) C (by exact of1.1) (zk (by exact of1.2)) (by exact rh1) dX2_steadyWays_137 ?_
        refine g_iload (pc := 140) C dX2_steadyWays_140 rfl ?_
        refine g_iconst (pc := 142) (v := nI 2) C dX2_steadyWays_142 (by decide) ?_
        refine g_ixor (pc := 143) C dX2_steadyWays_143 ?_
        refine gx_ti (y := nI (i ^^^ 2)) x1 ?_
        refine n_iald (pc := 144) (n := 8) C (by exact oh1.1) (by exact oh1.2.1) (zk (by exact oh1.2.2)) rfl rfl (by omega) dX2_steadyWays_144 ?_
        refine gx_ti (y := has1 fr (nI 0) u P H a b n (i ^^^ 2)) (hR _ x3).1 ?_
        refine g_icmp_lt (pc := 145) C 180 dX2_steadyWays_145 rfl (fun c2 => ?_) (fun c2 => ?_)
        · exact skip (fun q => (of_decide_eq_true q).1 c2)
        · refine g_aload_n (pc := 148) C dX2_steadyWays_148 rfl ?_
          refine fgr_X2_25 (pc := 149) C (by exact of1.1) (zk (by exact of1.2)) (by exact rh1) dX2_steadyWays_149 ?_
          refine g_iconst (pc := 152) (v := nI 4) C dX2_steadyWays_152 (by decide) ?_
          refine g_iload (pc := 153) C dX2_steadyWays_153 rfl ?_
          refine g_iadd (pc := 155) C dX2_steadyWays_155 ?_
          refine n_iald (pc := 156) (n := 8) C (by exact oh1.1) (by exact oh1.2.1) (zk (by exact oh1.2.2)) (isn_add isn_v isn_v) rfl (by omega) dX2_steadyWays_156 ?_
          refine gx_ti (y := has2 fr (nI 0) u P H a b n i) (hR i (by omega)).2 ?_
          refine g_aload_n (pc := 157) C dX2_steadyWays_157 rfl ?_
          refine fgr_X2_25 (pc := 158) C (by exact of1.1) (zk (by exact of1.2)) (by exact rh1) dX2_steadyWays_158 ?_
          refine g_iconst (pc := 161) (v := nI 4) C dX2_steadyWays_161 (by decide) ?_
          refine g_iload (pc := 162) C dX2_steadyWays_162 rfl ?_
          refine g_iconst (pc := 164) (v := nI 1) C dX2_steadyWays_164 (by decide) ?_
          refine g_ixor (pc := 165) C dX2_steadyWays_165 ?_
          refine gx_ti (y := nI (i ^^^ 1)) x2 ?_
          refine g_iadd (pc := 166) C dX2_steadyWays_166 ?_
          refine n_iald (pc := 167) (n := 8) C (by exact oh1.1) (by exact oh1.2.1) (zk (by exact oh1.2.2)) (isn_add isn_v rfl) rfl (by omega) dX2_steadyWays_167 ?_
          refine gx_ti (y := has2 fr (nI 0) u P H a b n (i ^^^ 1)) (hR _ x4).2 ?_
          refine g_icmp_lt (pc := 168) C 180 dX2_steadyWays_168 rfl (fun c3 => ?_) (fun c3 => ?_)
          · exact skip (fun q => (of_decide_eq_true q).2 c3)
          · have hok : liOK (has1 fr (nI 0) u P H a b n) (has2 fr (nI 0) u P H a b n) i = true := decide_eq_true ⟨c2, c3⟩
            refine g_iload (pc := 171) C dX2_steadyWays_171 rfl ?_
            refine g_iconst (pc := 173) (v := nI 1) C dX2_steadyWays_173 (by decide) ?_
            refine g_iload (pc := 174) C dX2_steadyWays_174 rfl ?_
            refine g_ishl (pc := 176) C dX2_steadyWays_176 ?_
            refine g_ior (pc := 177) C dX2_steadyWays_177 ?_
            refine gx_ti (y := nI (wyN (liOK (has1 fr (nI 0) u P H a b n) (has2 fr (nI 0) u P H a b n)) i + 2 ^ i)) (or_way i (by omega) _ h16 hlt) ?_
            refine g_istore (pc := 178) (L' := [_, _, _, _, _, some (.int _), _, _]) C dX2_steadyWays_178 rfl rfl ?_
            refine g_iinc (pc := 180) (L' := [_, _, _, _, _, _, some (.int _), _]) C dX2_steadyWays_180 rfl (nI_1 _) rfl ?_
            refine g_goto (pc := 183) C 123 dX2_steadyWays_183 rfl ?_
            have := ih (i + 1) (by omega)
            rw [show wyN (liOK (has1 fr (nI 0) u P H a b n) (has2 fr (nI 0) u P H a b n)) (i + 1) = wyN (liOK (has1 fr (nI 0) u P H a b n) (has2 fr (nI 0) u P H a b n)) i + 2 ^ i by show _ + (if _ then _ else 0) = _; rw [if_pos hok]] at this
            exact this
  /- each way tried -/
  have loop1 : ∀ d i S1, i + d = 4 → eqO dF S S1 → ftK S1 → (∀ c, c < i → s_A S1 88 c = has1 fr (nI 0) u P H a b n c ∧ s_A S1 88 (4 + c) = has2 fr (nI 0) u P H a b n c) → gx_G w X S1 0 0 3 [some (.ref (ad (w_b w) 82)), some (.ref (ad (w_b w) 7)), some (va_rf (ro.map (ad (w_b w)))), some (.int (nI a)), some (.int (nI b)), some (.int (nI n)), some (.int (nI i)), none] [] (gx_E w X post) := by
    intro d
    induction d with
    | zero =>
      intro i S1 hi q1 f1 hR
      have hi : i = 4 := hi
      subst hi
      refine g_iload (pc := 3) C dX2_steadyWays_3 rfl ?_
      refine g_iconst (pc := 5) (v := nI 4) C dX2_steadyWays_5 (by decide) ?_
      refine g_icmp_ge (pc := 6) C 117 dX2_steadyWays_6 rfl (fun c1 => ?_) (fun c1 => ?_)
      · refine g_iconst (pc := 117) (v := nI 0) C dX2_steadyWays_117 (by decide) ?_
        refine g_istore (pc := 118) (L' := [_, _, _, _, _, some (.int _), _, _]) C dX2_steadyWays_118 rfl rfl ?_
        refine g_iconst (pc := 120) (v := nI 0) C dX2_steadyWays_120 (by decide) ?_
        refine g_istore (pc := 121) (L' := [_, _, _, _, _, _, some (.int _), _]) C dX2_steadyWays_121 rfl rfl ?_
        exact loop2 S1 q1 f1 hR 4 0 rfl
      · exact absurd (nI_le (Nat.le_refl 4) (by omega)) c1
    | succ d ih =>
      intro i S1 hi q1 f1 hR
      have w1 := hw.to q1 dF_now
      obtain ⟨hz1, r11, r21, hc1, -, hr1⟩ := id w1
      have o71 : gx_o S1 7 8 := o_st hz1 rfl rfl
      have of1 : gx_o S1 82 2 := o_st hz1 rfl rfl
      have rt1 := f1.2.2.1
      have ort1 := f1.2.2.2.2.2.2.1
      refine g_iload (pc := 3) C dX2_steadyWays_3 rfl ?_
      refine g_iconst (pc := 5) (v := nI 4) C dX2_steadyWays_5 (by decide) ?_
      refine g_icmp_ge (pc := 6) C 117 dX2_steadyWays_6 rfl (fun c1 => ?_) (fun c1 => ?_)
      · exact absurd c1 (nI_ge (by omega) (by omega))
      · refine g_aload_n (pc := 9) C dX2_steadyWays_9 rfl ?_
        refine fgr_X2_21 (pc := 10) C (by exact of1.1) (zk (by exact of1.2)) (by exact rt1) dX2_steadyWays_10 ?_
        refine g_aload_n (pc := 13) C dX2_steadyWays_13 rfl ?_
        refine fgr_X2_32 (pc := 14) C (by exact o71.1) (zk (by exact o71.2)) (by exact r21) dX2_steadyWays_14 ?_
        refine cg_X2_37 (pc := 17) C (by exact ort1.1) (zk (by exact ort1.2)) (c_X6_copyFrom _ _ S1 86 87 13 14 P u hP7 f1.2.2.2.2.2.2 hr1) ⟨rfl, rfl⟩ ⟨Nat.zero_le _, Nat.zero_le _⟩ rfl (Nat.le_of_ble_eq_true rfl) dX2_steadyWays_17 ?_
        rintro _ S2 ⟨rfl, q2, h2⟩
        have f2 : ftK S2 := ft_cp f1 q2 h2.1
        have of2 : gx_o S2 82 2 := o_st f2.1 rfl rfl
        have rt2 := f2.2.2.1
        have ort2 := h2.1.1
        have rta2 := h2.1.2.1
        have ota2 := h2.1.2.2
        obtain ⟨am1, a1, ha1, ea1⟩ := amU_half (q := i / 2 = 1) ha.2.1 haP
        generalize hu1 : upd u (14 + a) (if i / 2 = 1 then u (14 + a) / nI 2 else u (14 + a)) = u1' at *
        obtain ⟨am2, a2, ha2, ea2⟩ := amU_half (q := i % 2 = 1) am1 hbP
        refine g_aload_n (pc := 20) C dX2_steadyWays_20 rfl ?_
        refine fgr_X2_21 (pc := 21) C (by exact of2.1) (zk (by exact of2.2)) (by exact rt2) dX2_steadyWays_21 ?_
        refine fgr_X2_61 (pc := 24) C (by exact ort2.1) (zk (by exact ort2.2)) (by exact rta2) dX2_steadyWays_24 ?_
        refine g_iload_n (pc := 27) C dX2_steadyWays_27 rfl ?_
        refine g_dup2 (pc := 28) C dX2_steadyWays_28 rfl rfl ?_
        refine n_iald (pc := 29) (n := 7) C (by exact ota2.1) (by exact ota2.2.1) (zk (by exact ota2.2.2)) isn_v rfl (by omega) dX2_steadyWays_29 ?_
        refine gx_ti (y := nI a1) ((h2.2.1.2.2.2.2.2 a haP).trans ea1) ?_
        refine g_iload (pc := 30) C dX2_steadyWays_30 rfl ?_
        refine g_iconst (pc := 32) (v := nI 2) C dX2_steadyWays_32 (by decide) ?_
        refine g_idiv (pc := 33) C dX2_steadyWays_33 (by decide) ?_
        refine gx_ti (y := nI (i / 2)) (pk_div (by omega) (by omega) (by omega)) ?_
        refine g_ishr (pc := 34) C dX2_steadyWays_34 ?_
        refine gx_ti (y := (if i / 2 = 1 then u (14 + a) / nI 2 else u (14 + a))) ((half_nI a1 (by omega) (i / 2) (by omega)).trans (by rw [ea1])) ?_
        refine n_iast (pc := 35) (n := 7) C (by exact ota2.1) (by exact ota2.2.1) (zk (by exact ota2.2.2)) isn_v rfl (by omega) dX2_steadyWays_35 ?_
        have h3 := rvS_aim (x := if i / 2 = 1 then u (14 + a) / nI 2 else u (14 + a)) h2 haP hP7
        rw [hu1] at h3
        generalize hS3 : s_setA S2 87 (upd (s_A S2 87) a (if i / 2 = 1 then u (14 + a) / nI 2 else u (14 + a))) = S3 at h3 ⊢
        have q3 : eqO (dR 86 87) S2 S3 := by rw [← hS3]; exact eqO.sA (Or.inr rfl)
        have f3 : ftK S3 := ft_cp f2 q3 h3.1
        have of3 : gx_o S3 82 2 := o_st f3.1 rfl rfl
        have rt3 := f3.2.2.1
        have ort3 := h3.1.1
        have rta3 := h3.1.2.1
        have ota3 := h3.1.2.2
        refine g_aload_n (pc := 36) C dX2_steadyWays_36 rfl ?_
        refine fgr_X2_21 (pc := 37) C (by exact of3.1) (zk (by exact of3.2)) (by exact rt3) dX2_steadyWays_37 ?_
        refine fgr_X2_61 (pc := 40) C (by exact ort3.1) (zk (by exact ort3.2)) (by exact rta3) dX2_steadyWays_40 ?_
        refine g_iload (pc := 43) C dX2_steadyWays_43 rfl ?_
        refine g_dup2 (pc := 45) C dX2_steadyWays_45 rfl rfl ?_
        refine n_iald (pc := 46) (n := 7) C (by exact ota3.1) (by exact ota3.2.1) (zk (by exact ota3.2.2)) isn_v rfl (by omega) dX2_steadyWays_46 ?_
        refine gx_ti (y := nI a2) ((h3.2.1.2.2.2.2.2 b hbP).trans ea2) ?_
        refine g_iload (pc := 47) C dX2_steadyWays_47 rfl ?_
        refine g_iconst (pc := 49) (v := nI 2) C dX2_steadyWays_49 (by decide) ?_
        refine g_irem (pc := 50) C dX2_steadyWays_50 (by decide) ?_
        refine gx_ti (y := nI (i % 2)) (pk_rem (by omega) (by omega) (by omega)) ?_
        refine g_ishr (pc := 51) C dX2_steadyWays_51 ?_
        refine gx_ti (y := (if i % 2 = 1 then u1' (14 + b) / nI 2 else u1' (14 + b))) ((half_nI a2 (by omega) (i % 2) (by omega)).trans (by rw [ea2])) ?_
        refine n_iast (pc := 52) (n := 7) C (by exact ota3.1) (by exact ota3.2.1) (zk (by exact ota3.2.2)) isn_v rfl (by omega) dX2_steadyWays_52 ?_
        have h4 := rvS_aim (x := if i % 2 = 1 then u1' (14 + b) / nI 2 else u1' (14 + b)) h3 hbP hP7
        have hhv : upd u1' (14 + b) (if i % 2 = 1 then u1' (14 + b) / nI 2 else u1' (14 + b)) = hvF u a b i := by rw [← hu1]; exact hv_eq
        rw [hhv] at h4 am2
        generalize hS4 : s_setA S3 87 (upd (s_A S3 87) b (if i % 2 = 1 then u1' (14 + b) / nI 2 else u1' (14 + b))) = S4 at h4 ⊢
        have q4 : eqO (dR 86 87) S3 S4 := by rw [← hS4]; exact eqO.sA (Or.inr rfl)
        have f4 : ftK S4 := ft_cp f3 q4 h4.1
        have q14 : eqO dF S S4 := q1.trans (((q2.trans q3).trans q4).mono dR_dF)
        have ehv : ∀ j, j < 10 ∨ 28 ≤ j → hvF u a b i j = u j := fun j hj => by rw [← hhv, pk_un (by omega), ← hu1, pk_un (by omega)]
        have w4 := hw.to q14 dF_now
        obtain ⟨hz4, r14, r24, hc4, -, hr4⟩ := id w4
        have o74 : gx_o S4 7 8 := o_st hz4 rfl rfl
        have of4 : gx_o S4 82 2 := o_st hz4 rfl rfl
        refine g_aload_n (pc := 53) C dX2_steadyWays_53 rfl ?_
        refine g_aload_n (pc := 54) C dX2_steadyWays_54 rfl ?_
        refine fgr_X2_41 (pc := 55) C (by exact o74.1) (zk (by exact o74.2)) (by exact r14) dX2_steadyWays_55 ?_
        refine g_aload_nV (pc := 58) C dX2_steadyWays_58 rfl ?_
        refine g_iload (pc := 59) C dX2_steadyWays_59 rfl ?_
        refine cg_X2_45 (pc := 61) C (by exact of4.1) (zk (by exact of4.2)) (c_X2_sailOn _ _ S4 c ca cg cl ce P H n ro fr (hvF u a b i) f4 (hc4.u ehv) hk h4 (ha.u am2 ehv) (hfr.to q14 dF_2000) (by rw [← hhv, pk_un (by omega), ← hu1, pk_un (by omega)]; exact hH) hn) ⟨rfl, rfl⟩ ⟨Nat.zero_le _, Nat.zero_le _⟩ rfl (Nat.le_of_ble_eq_true rfl) dX2_steadyWays_61 ?_
        rintro _ S5 ⟨rfl, q5, f5, h5⟩
        have of5 : gx_o S5 82 2 := o_st f5.1 rfl rfl
        have rt5 := f5.2.2.1
        have ort5 := h5.1.1
        have rh5 := f5.2.2.2.1
        have oh5 : gx_a S5 88 13 8 := a_st f5.1 rfl rfl rfl
        refine g_aload_n (pc := 64) C dX2_steadyWays_64 rfl ?_
        refine fgr_X2_25 (pc := 65) C (by exact of5.1) (zk (by exact of5.2)) (by exact rh5) dX2_steadyWays_65 ?_
        refine g_iload (pc := 68) C dX2_steadyWays_68 rfl ?_
        refine g_iconst (pc := 70) (v := nI 3) C dX2_steadyWays_70 (by decide) ?_
        refine g_aload_n (pc := 71) C dX2_steadyWays_71 rfl ?_
        refine fgr_X2_21 (pc := 72) C (by exact of5.1) (zk (by exact of5.2)) (by exact rt5) dX2_steadyWays_72 ?_
        refine g_iload_n (pc := 75) C dX2_steadyWays_75 rfl ?_
        refine cf_X2_64 (pc := 76) C (by exact ort5.1) (zk (by exact ort5.2)) (c_X6_sideOf _ _ S5 86 87 P _ h5 hP7 a haP) ⟨rfl, rfl⟩ ⟨rfl, rfl⟩ ⟨Nat.zero_le _, Nat.zero_le _⟩ rfl (Nat.le_of_ble_eq_true rfl) dX2_steadyWays_76 ?_
        refine g_imul (pc := 79) C dX2_steadyWays_79 ?_
        refine g_iload (pc := 80) C dX2_steadyWays_80 rfl ?_
        refine g_iconst (pc := 82) (v := nI 2) C dX2_steadyWays_82 (by decide) ?_
        refine g_idiv (pc := 83) C dX2_steadyWays_83 (by decide) ?_
        refine gx_ti (y := nI (i / 2)) (pk_div (by omega) (by omega) (by omega)) ?_
        refine g_isub (pc := 84) C dX2_steadyWays_84 ?_
        refine gx_ti (y := has1 fr (nI 0) u P H a b n i) rfl ?_
        refine n_iast (pc := 85) (n := 8) C (by exact oh5.1) (by exact oh5.2.1) (zk (by exact oh5.2.2)) isn_v rfl (by omega) dX2_steadyWays_85 ?_
        have h6 : rvS (s_setA S5 88 (upd (s_A S5 88) i (has1 fr (nI 0) u P H a b n i))) 86 87 P (pnF fr (nI 0) (hvF u a b i) P H n) := h5.to (D := fun k => k = 88) (eqO.sA rfl) (by omega)
        refine g_aload_n (pc := 86) C dX2_steadyWays_86 rfl ?_
        refine fgr_X2_25 (pc := 87) C (by exact of5.1) (zk (by exact of5.2)) (by exact rh5) dX2_steadyWays_87 ?_
        refine g_iconst (pc := 90) (v := nI 4) C dX2_steadyWays_90 (by decide) ?_
        refine g_iload (pc := 91) C dX2_steadyWays_91 rfl ?_
        refine g_iadd (pc := 93) C dX2_steadyWays_93 ?_
        refine g_iconst (pc := 94) (v := nI 3) C dX2_steadyWays_94 (by decide) ?_
        refine g_aload_n (pc := 95) C dX2_steadyWays_95 rfl ?_
        refine fgr_X2_21 (pc := 96) C (by exact of5.1) (zk (by exact of5.2)) (by exact rt5) dX2_steadyWays_96 ?_
        refine g_iload (pc := 99) C dX2_steadyWays_99 rfl ?_
        refine cf_X2_64 (pc := 101) C (by exact ort5.1) (zk (by exact ort5.2)) (c_X6_sideOf _ _ _ 86 87 P _ h6 hP7 b hbP) ⟨rfl, rfl⟩ ⟨rfl, rfl⟩ ⟨Nat.zero_le _, Nat.zero_le _⟩ rfl (Nat.le_of_ble_eq_true rfl) dX2_steadyWays_101 ?_
        refine g_imul (pc := 104) C dX2_steadyWays_104 ?_
        refine g_iload (pc := 105) C dX2_steadyWays_105 rfl ?_
        refine g_iconst (pc := 107) (v := nI 2) C dX2_steadyWays_107 (by decide) ?_
        refine g_irem (pc := 108) C dX2_steadyWays_108 (by decide) ?_
        refine gx_ti (y := nI (i % 2)) (pk_rem (by omega) (by omega) (by omega)) ?_
        refine g_isub (pc := 109) C dX2_steadyWays_109 ?_
        refine gx_ti (y := has2 fr (nI 0) u P H a b n i) rfl ?_
        refine n_iast (pc := 110) (n := 8) C (by exact oh5.1) (by exact oh5.2.1) (zk (by exact oh5.2.2)) (isn_add isn_v isn_v) rfl (by omega) dX2_steadyWays_110 ?_
        refine gx_S (S' := s_setA S5 88 (upd (upd (s_A S5 88) i (has1 fr (nI 0) u P H a b n i)) (4 + i) (has2 fr (nI 0) u P H a b n i))) (by rw [gA_at, s_AA]) ?_
        refine g_iinc (pc := 111) (L' := [_, _, _, _, _, some (.int _), _, _]) C dX2_steadyWays_111 rfl (nI_1 _) rfl ?_
        refine g_goto (pc := 114) C 3 dX2_steadyWays_114 rfl ?_
        refine ih (i + 1) _ (by omega) ((q14.trans (q5.mono dT_dF)).trans (eqO.sA (by unfold dF; omega))) f5 (fun k hk => ?_)
        have hold : ∀ j, s_A S5 88 j = s_A S1 88 j := fun j => by rw [q5.A d88, q4.A r88, q3.A r88, q2.A r88]
        rw [gA_at]
        by_cases e : k = i
        · subst e
          exact ⟨by rw [pk_un (by omega), pk_us], pk_us⟩
        · exact ⟨by rw [pk_un (by omega), pk_un e, hold]; exact (hR k (by omega)).1, by rw [pk_un (by omega), pk_un (by omega), hold]; exact (hR k (by omega)).2⟩
  refine g_iconst (pc := 0) (v := nI 0) C dX2_steadyWays_0 (by decide) ?_
  refine g_istore (pc := 1) (L' := [_, _, _, _, _, some (.int _), _, _]) C dX2_steadyWays_1 rfl rfl ?_
  exact loop1 4 0 S rfl eqO.refl hf (fun c hc => absurd hc (by omega))
