/-! ===== THE CLASS: by which rules it was so ===== -/
theorem g_aald16 {w : Wd} {X : FX} {S : St} {n1 n2 pc : Nat} {L : List (Option Value)} {st : List Value} {Q : State → Prop} {cc : ByteArray} {nL : Nat} {own : String} {rm : Room} {ret : Option FieldType} (C : gx_C w X cc nL own rm ret) {k n j : Nat} {i : Int32} (hk : s_k S k = 16) (hn : s_n S k = n) (hz : ad (w_b w) k < w_b w + s_z S) (he : i = nI j) (hb : Nat.blt n 2147483648 = true) (hj : j < n) (hd : decode cc pc = .ok (.aaload, 1)) (kk : gx_G w X S n1 n2 (pc + 1) L (va_rf ((s_Q S k j).map (ad (w_b w))) :: st) Q) : gx_G w X S n1 n2 pc L (.int i :: .ref (ad (w_b w) k) :: st) Q := by
  intro H locs ls hR hl hL
  subst hn he
  have e := nI_clamp (n := j) (Nat.lt_trans hj (Nat.le_of_ble_eq_true hb))
  refine va_aldq C.1 C.2.1 C.2.2.2.2.2.1 (gx_cell hR hk rfl hz) 0 4 rfl rfl (vp_in_nI hj (Nat.le_of_ble_eq_true hb)) hd ?_
  rw [e]
  exact kk H locs ls hR hl hL
theorem g_aalds16 {w : Wd} {X : FX} {S : St} {n1 n2 pc : Nat} {L : List (Option Value)} {st : List Value} {Q : State → Prop} {cc : ByteArray} {nL : Nat} {own : String} {rm : Room} {ret : Option FieldType} (C : gx_C w X cc nL own rm ret) {k n j q : Nat} {i : Int32} (hk : s_k S k = 16) (hn : s_n S k = n) (hz : ad (w_b w) k < w_b w + s_z S) (he : i = nI j) (hb : Nat.blt n 2147483648 = true) (hj : j < n) (hq : s_Q S k j = some q) (hd : decode cc pc = .ok (.aaload, 1)) (kk : gx_G w X S n1 n2 (pc + 1) L (.ref (ad (w_b w) q) :: st) Q) : gx_G w X S n1 n2 pc L (.int i :: .ref (ad (w_b w) k) :: st) Q := by
  refine g_aald16 C hk hn hz he hb hj hd ?_
  rw [hq]
  exact kk
theorem g_aald17 {w : Wd} {X : FX} {S : St} {n1 n2 pc : Nat} {L : List (Option Value)} {st : List Value} {Q : State → Prop} {cc : ByteArray} {nL : Nat} {own : String} {rm : Room} {ret : Option FieldType} (C : gx_C w X cc nL own rm ret) {k n j : Nat} {i : Int32} (hk : s_k S k = 17) (hn : s_n S k = n) (hz : ad (w_b w) k < w_b w + s_z S) (he : i = nI j) (hb : Nat.blt n 2147483648 = true) (hj : j < n) (hd : decode cc pc = .ok (.aaload, 1)) (kk : gx_G w X S n1 n2 (pc + 1) L (va_rf ((s_Q S k j).map (ad (w_b w))) :: st) Q) : gx_G w X S n1 n2 pc L (.int i :: .ref (ad (w_b w) k) :: st) Q := by
  intro H locs ls hR hl hL
  subst hn he
  have e := nI_clamp (n := j) (Nat.lt_trans hj (Nat.le_of_ble_eq_true hb))
  refine va_aldq C.1 C.2.1 C.2.2.2.2.2.1 (gx_cell hR hk rfl hz) 0 5 rfl rfl (vp_in_nI hj (Nat.le_of_ble_eq_true hb)) hd ?_
  rw [e]
  exact kk H locs ls hR hl hL
theorem g_aalds17 {w : Wd} {X : FX} {S : St} {n1 n2 pc : Nat} {L : List (Option Value)} {st : List Value} {Q : State → Prop} {cc : ByteArray} {nL : Nat} {own : String} {rm : Room} {ret : Option FieldType} (C : gx_C w X cc nL own rm ret) {k n j q : Nat} {i : Int32} (hk : s_k S k = 17) (hn : s_n S k = n) (hz : ad (w_b w) k < w_b w + s_z S) (he : i = nI j) (hb : Nat.blt n 2147483648 = true) (hj : j < n) (hq : s_Q S k j = some q) (hd : decode cc pc = .ok (.aaload, 1)) (kk : gx_G w X S n1 n2 (pc + 1) L (.ref (ad (w_b w) q) :: st) Q) : gx_G w X S n1 n2 pc L (.int i :: .ref (ad (w_b w) k) :: st) Q := by
  refine g_aald17 C hk hn hz he hb hj hd ?_
  rw [hq]
  exact kk
theorem g_aald18 {w : Wd} {X : FX} {S : St} {n1 n2 pc : Nat} {L : List (Option Value)} {st : List Value} {Q : State → Prop} {cc : ByteArray} {nL : Nat} {own : String} {rm : Room} {ret : Option FieldType} (C : gx_C w X cc nL own rm ret) {k n j : Nat} {i : Int32} (hk : s_k S k = 18) (hn : s_n S k = n) (hz : ad (w_b w) k < w_b w + s_z S) (he : i = nI j) (hb : Nat.blt n 2147483648 = true) (hj : j < n) (hd : decode cc pc = .ok (.aaload, 1)) (kk : gx_G w X S n1 n2 (pc + 1) L (va_rf ((s_Q S k j).map (ad (w_b w))) :: st) Q) : gx_G w X S n1 n2 pc L (.int i :: .ref (ad (w_b w) k) :: st) Q := by
  intro H locs ls hR hl hL
  subst hn he
  have e := nI_clamp (n := j) (Nat.lt_trans hj (Nat.le_of_ble_eq_true hb))
  refine va_aldq C.1 C.2.1 C.2.2.2.2.2.1 (gx_cell hR hk rfl hz) 0 6 rfl rfl (vp_in_nI hj (Nat.le_of_ble_eq_true hb)) hd ?_
  rw [e]
  exact kk H locs ls hR hl hL
theorem g_aalds18 {w : Wd} {X : FX} {S : St} {n1 n2 pc : Nat} {L : List (Option Value)} {st : List Value} {Q : State → Prop} {cc : ByteArray} {nL : Nat} {own : String} {rm : Room} {ret : Option FieldType} (C : gx_C w X cc nL own rm ret) {k n j q : Nat} {i : Int32} (hk : s_k S k = 18) (hn : s_n S k = n) (hz : ad (w_b w) k < w_b w + s_z S) (he : i = nI j) (hb : Nat.blt n 2147483648 = true) (hj : j < n) (hq : s_Q S k j = some q) (hd : decode cc pc = .ok (.aaload, 1)) (kk : gx_G w X S n1 n2 (pc + 1) L (.ref (ad (w_b w) q) :: st) Q) : gx_G w X S n1 n2 pc L (.int i :: .ref (ad (w_b w) k) :: st) Q := by
  refine g_aald18 C hk hn hz he hb hj hd ?_
  rw [hq]
  exact kk
theorem sdA_beg {P : Nat} {u : Nat → Int32} (hP : P ≤ 7) (h : sdA P u) : sdA P (begF u) := h.u (fun p hp => by
  obtain ⟨-, a, ha, e⟩ := h.2.2.2 p hp
  refine ⟨a, by omega, ?_⟩
  simp only [begF, begB, begA]
  rw [if_pos (by omega), if_neg (by omega), show 42 + (14 + p - 14) = 42 + p by omega, e]) (fun j hj => begF_lo hj)
theorem ln_k {S : St} {s no P m : Nat} {u : Nat → Int32} (h : noS S s no P m u) : ∀ q, q ≤ m → ∃ k, k ≤ 61 ∧ lnF u q = nI k + (-1) ∧ ∀ j, j < q → ∃ n, n < k ∧ u (159 + 3 * j) = nI n
  | 0, _ => ⟨0, by omega, rfl, fun j hj => absurd hj (by omega)⟩
  | q + 1, hq => by
    obtain ⟨k, hk, e, hj⟩ := ln_k h q (by omega)
    obtain ⟨n, -, -, hn, -, -, en, -⟩ := h.2.2.2 q (by omega)
    have hm : mxF (nI k + (-1)) (nI n) = nI (if k ≤ n then n + 1 else k) + (-1) := by
      unfold mxF
      cases k with
      | zero => rw [if_pos (show nI 0 + (-1) < nI n from Int32.lt_of_lt_of_le (show nI 0 + (-1) < nI 0 by decide) (nI_le (Nat.zero_le n) (by omega))), if_pos (Nat.zero_le n), pk_m1]
      | succ k =>
        rw [pk_m1]
        by_cases c : k < n
        · rw [if_pos (nI_lt c (by omega)), if_pos (by omega), pk_m1]
        · rw [if_neg (nI_nlt (by omega) (by omega))]
          by_cases c2 : k + 1 ≤ n
          · omega
          · rw [if_neg c2, pk_m1]
    refine ⟨if k ≤ n then n + 1 else k, by split <;> omega, ?_, fun j hjq => ?_⟩
    · show mxF (lnF u q) (u (159 + 3 * q)) = _
      rw [e, en, hm]
    · by_cases c : j = q
      · subst c; exact ⟨n, by split <;> omega, en⟩
      · obtain ⟨n', h1, h2⟩ := hj j (by omega)
        exact ⟨n', by split <;> omega, h2⟩
theorem nt_none {v : Nat → Int32} {i : Nat} (hi : i < 1000) : ∀ k q, (∀ j, q ≤ j → j < q + k → ∃ n, n < i ∧ v (159 + 3 * j) = nI n) → ntF v (nI i) k q = true
  | 0, _, _ => rfl
  | k + 1, q, h => by
    obtain ⟨n, hn, e⟩ := h q (by omega) (by omega)
    simp only [ntF]
    rw [if_neg (fun z => absurd ((nI_eq (by omega) (by omega)).mp (e.symm.trans z.1)) (by omega))]
    exact nt_none hi k (q + 1) (fun j h1 h2 => h j (by omega) (by omega))
theorem fit_mono {fr : Option ((Nat → Int64) → Int64)} {dr : Int32} {u : Nat → Int32} {P m i : Nat} (h : fitF fr dr u P m i = false) : ∀ d, fitF fr dr u P m (i + d) = false
  | 0 => h
  | d + 1 => by
    show (fitF fr dr u P m (i + d) && _) = false
    rw [fit_mono h d]; rfl
theorem c_X2_isSo (w : Wd) (l : Launch) (S : St) (c ca cg cl ce P m : Nat) (ro : Option Nat) (fr : Option ((Nat → Int64) → Int64)) (u : Nat → Int32) (hf : ftK S) (hw : nwS S c ca cg cl ce P u) (hs : scK S 7 13 14 15) (hno : noS S 7 15 P m u) (ha : sdA P u) (hfr : frC2 S ro fr) : gx_M w l yX2_isSo cX2_isSo 5 (some .boolean) rmX2_isSo [.ref (ad (w_b w) 82), .ref (ad (w_b w) 7), va_rf (ro.map (ad (w_b w)))] S (fun v S' => v = some (.int (bI (fitF fr (nI 0) u P m 61 = true))) ∧ eqO dF S S' ∧ ftK S') := by
  obtain ⟨hz, r1, r2, hc, hk, hr⟩ := id hw
  have hP7 := hc.2.2
  have hap := apart_ft hk
  have o7 : gx_o S 7 8 := o_st hz rfl rfl
  have of0 : gx_o S 82 2 := o_st hz rfl rfl
  have rt0 := hf.2.2.1
  have ort := hf.2.2.2.2.2.2.1
  obtain ⟨k, hk61, ek, hall⟩ := ln_k hno m (Nat.le_refl m)
  generalize hpost : (fun (v : Option Value) (S' : St) => v = some (.int (bI (fitF fr (nI 0) u P m 61 = true))) ∧ eqO dF S S' ∧ ftK S') = post
  refine gx_start rfl 2 (by cases ro <;> rfl) (Nat.le_of_ble_eq_true (by cases ro <;> rfl)) ?_
  intro X C _ hl
  subst hl
  refine gx_L (L' := [some (.ref (ad (w_b w) 82)), some (.ref (ad (w_b w) 7)), some (va_rf (ro.map (ad (w_b w)))), none, none]) (by cases ro <;> rfl) ?_
  refine g_aload_n (pc := 0) C dX2_isSo_0 rfl ?_
  refine cf_X2_91 (pc := 1) C (by exact o7.1) (zk (by exact o7.2)) (c_X9_lastNoted _ _ S 7 13 14 15 P m u hs hno hP7) ⟨rfl, rfl⟩ ⟨rfl, rfl⟩ ⟨Nat.zero_le _, Nat.zero_le _⟩ rfl (Nat.le_of_ble_eq_true rfl) dX2_isSo_1 ?_
  refine gx_ti (y := nI k + (-1)) ek ?_
  refine g_istore_nV (pc := 4) (i := 2) (L' := [_, _, _, _, _]) C dX2_isSo_4 rfl rfl rfl rfl ?_
  refine g_aload_n (pc := 5) C dX2_isSo_5 rfl ?_
  refine fgr_X2_21 (pc := 6) C (by exact of0.1) (zk (by exact of0.2)) (by exact rt0) dX2_isSo_6 ?_
  refine g_aload_n (pc := 9) C dX2_isSo_9 rfl ?_
  refine fgr_X2_41 (pc := 10) C (by exact o7.1) (zk (by exact o7.2)) (by exact r1) dX2_isSo_10 ?_
  refine cg_X2_95 (pc := 13) C (by exact ort.1) (zk (by exact ort.2)) (c_X6_begin _ _ S c ca cg cl ce 86 87 P u hc hf.2.2.2.2.2.2) ⟨rfl, rfl⟩ ⟨Nat.zero_le _, Nat.zero_le _⟩ rfl (Nat.le_of_ble_eq_true rfl) dX2_isSo_13 ?_
  rintro _ S1 ⟨rfl, q1, h1⟩
  have f1 : ftK S1 := ft_cp hf q1 h1.1
  refine g_iconst (pc := 16) (v := nI 0) C dX2_isSo_16 (by decide) ?_
  refine g_istore (pc := 17) (L' := [_, _, _, some (.int _), _]) C dX2_isSo_17 rfl rfl ?_
  have loop : ∀ d i S1, i + d = k → fitF fr (nI 0) u P m i = true → eqO dF S S1 → ftK S1 → rvS S1 86 87 P (pnF fr (nI 0) (begF u) P 0 i) → gx_G w X S1 0 0 19 [some (.ref (ad (w_b w) 82)), some (.ref (ad (w_b w) 7)), some (va_rf (ro.map (ad (w_b w)))), some (.int (nI k + (-1))), some (.int (nI i))] [] (gx_E w X post) := by
    intro d
    induction d with
    | zero =>
      intro i S1 hi ho q1 f1 h1
      have hi : i = k := hi
      subst hi
      have hfin : ∀ d, i + d ≤ 61 → fitF fr (nI 0) u P m (i + d) = true := by
        intro d
        induction d with
        | zero => intro _; exact ho
        | succ d ih =>
          intro hd
          show (fitF fr (nI 0) u P m (i + d) && _) = true
          rw [ih (by omega), Bool.true_and]
          refine nt_none (i := i + d) (by omega) m 0 (fun j _ hj => ?_)
          obtain ⟨n, h1, h2⟩ := hall j (by omega)
          exact ⟨n, by omega, ((pnF_out hP7 (by omega) _).trans (begF_lo (by omega))).trans h2⟩
      have h61 : fitF fr (nI 0) u P m 61 = true := by
        have := hfin (61 - i) (by omega)
        rw [show i + (61 - i) = 61 by omega] at this
        exact this
      refine g_iload (pc := 19) C dX2_isSo_19 rfl ?_
      refine g_iload_n (pc := 21) C dX2_isSo_21 rfl ?_
      refine g_icmp_gt (pc := 22) C 64 dX2_isSo_22 rfl (fun c1 => ?_) (fun c1 => ?_)
      · refine g_iconst (pc := 64) (v := nI 1) C dX2_isSo_64 (by decide) ?_
        rw [← hpost]
        exact g_zreturn (pc := 65) C ⟨rfl, rfl⟩ (by first | exact Or.inl rfl | exact Or.inr rfl) dX2_isSo_65 ⟨by rw [bI_t h61], q1, f1⟩
      · refine absurd ?_ c1
        cases i with
        | zero => show nI 0 + (-1) < nI 0; decide
        | succ i => rw [pk_m1]; exact nI_lt (by omega) (by omega)
    | succ d ih =>
      intro i S1 hi ho q1 f1 h1
      have w1 := hw.to q1 dF_now
      obtain ⟨hz1, r11, r21, hc0, -, -⟩ := id w1
      have s1 : scK S1 7 13 14 15 := hs.to q1 (by unfold dF; omega) (by unfold dF; omega)
      have n1 : noS S1 7 15 P m u := hno.to q1 (by unfold dF; omega) (by unfold dF; omega)
      have o71 : gx_o S1 7 8 := o_st hz1 rfl rfl
      have of1 : gx_o S1 82 2 := o_st hz1 rfl rfl
      have op1 : gx_o S1 83 3 := f1.2.2.2.2.2.1.1
      have rp1 := f1.2.1
      have rt1 := f1.2.2.1
      have ort1 := h1.1.1
      have hout : ∀ n j, (j < 10 ∨ 28 ≤ j) → pnF fr (nI 0) (begF u) P 0 n j = u j := fun n j hj => (pnF_out hP7 hj n).trans (begF_lo hj)
      have hc1 : crS S1 c ca cg cl ce P (pnF fr (nI 0) (begF u) P 0 i) := hc0.u (hout i)
      have hhr := pnF_hour (fr := fr) (drawn := nI 0) (P := P) hP7 (begF_hour (said := u)) i
      rw [Nat.zero_add] at hhr
      refine g_iload (pc := 19) C dX2_isSo_19 rfl ?_
      refine g_iload_n (pc := 21) C dX2_isSo_21 rfl ?_
      refine g_icmp_gt (pc := 22) C 64 dX2_isSo_22 rfl (fun c1 => ?_) (fun c1 => ?_)
      · refine absurd c1 ?_
        obtain ⟨k', rfl⟩ : ∃ k', k = k' + 1 := ⟨k - 1, by omega⟩
        rw [pk_m1]
        exact nI_nlt (by omega) (by omega)
      · refine g_aload_n (pc := 25) C dX2_isSo_25 rfl ?_
        refine fgr_X2_12 (pc := 26) C (by exact of1.1) (zk (by exact of1.2)) (by exact rp1) dX2_isSo_26 ?_
        refine g_aload_n (pc := 29) C dX2_isSo_29 rfl ?_
        refine fgr_X2_41 (pc := 30) C (by exact o71.1) (zk (by exact o71.2)) (by exact r11) dX2_isSo_30 ?_
        refine g_aload_n (pc := 33) C dX2_isSo_33 rfl ?_
        refine fgr_X2_21 (pc := 34) C (by exact of1.1) (zk (by exact of1.2)) (by exact rt1) dX2_isSo_34 ?_
        refine g_aload_nV (pc := 37) C dX2_isSo_37 rfl ?_
        refine g_iconst (pc := 38) (v := nI 0) C dX2_isSo_38 (by decide) ?_
        refine cg_X2_49 (pc := 39) C (by exact op1.1) (zk (by exact op1.2)) (c_X3_sail _ _ S1 83 84 85 c ca cg cl ce 86 87 P i ro fr False (pnF fr (nI 0) (begF u) P 0 i) f1.2.2.2.2.2.1 hc1 h1 (sdA_pn hP7 (sdA_beg hP7 ha) i) (hfr.to q1 dF_2000) hap hhr (by omega)) ⟨rfl, rfl⟩ ⟨Nat.zero_le _, Nat.zero_le _⟩ rfl (Nat.le_of_ble_eq_true rfl) dX2_isSo_39 ?_
        rintro _ S2 ⟨rfl, q2, p2, h2⟩
        have e2 : passF fr (bI False) (pnF fr (nI 0) (begF u) P 0 i) P i = pnF fr (nI 0) (begF u) P 0 (i + 1) := (pnF_s0 _ _ _ _ _).symm
        rw [e2] at h2
        have f2 : ftK S2 := f1.z q2 (by unfold dT dP dR; omega) p2 h2.1
        have q12 := q1.trans (q2.mono dT_dF)
        have s2 : scK S2 7 13 14 15 := hs.to q12 (by unfold dF; omega) (by unfold dF; omega)
        have n2 : noS S2 7 15 P m u := hno.to q12 (by unfold dF; omega) (by unfold dF; omega)
        have of2 : gx_o S2 82 2 := o_st f2.1 rfl rfl
        have o72 : gx_o S2 7 8 := s2.1
        have rt2 := f2.2.2.1
        have hstep : fitF fr (nI 0) u P m (i + 1) = ntF (pnF fr (nI 0) (begF u) P 0 (i + 1)) (nI i) m 0 := by
          show (fitF fr (nI 0) u P m i && _) = _
          rw [ho, Bool.true_and]
        refine g_pop (pc := 42) C dX2_isSo_42 rfl ?_
        refine g_aload_n (pc := 43) C dX2_isSo_43 rfl ?_
        refine g_iload (pc := 44) C dX2_isSo_44 rfl ?_
        refine g_aload_n (pc := 46) C dX2_isSo_46 rfl ?_
        refine fgr_X2_21 (pc := 47) C (by exact of2.1) (zk (by exact of2.2)) (by exact rt2) dX2_isSo_47 ?_
        refine cf_X2_99 (pc := 50) C (by exact o72.1) (zk (by exact o72.2)) (c_X9_agrees _ _ S2 7 13 14 15 P m 86 87 u (pnF fr (nI 0) (begF u) P 0 (i + 1)) (nI i) s2 n2 hP7 h2 (fun j hj => hout _ j (by omega))) ⟨rfl, rfl⟩ ⟨rfl, rfl⟩ ⟨Nat.zero_le _, Nat.zero_le _⟩ rfl (Nat.le_of_ble_eq_true rfl) dX2_isSo_50 ?_
        rw [← hstep]
        refine g_if_ne (pc := 53) C 58 dX2_isSo_53 rfl (fun c2 => ?_) (fun c2 => ?_)
        · have c2 := Decidable.not_not.mp (fun q => c2 (bI_0.mpr q))
          refine g_iinc (pc := 58) (L' := [_, _, _, some (.int _), _]) C dX2_isSo_58 rfl (nI_1 _) rfl ?_
          refine g_goto (pc := 61) C 19 dX2_isSo_61 rfl ?_
          exact ih (i + 1) S2 (by omega) c2 q12 f2 h2
        · have c2 := bI_0.mp (Decidable.not_not.mp c2)
          have c3 := fit_mono (Bool.eq_false_iff.mpr c2) (61 - (i + 1))
          rw [show i + 1 + (61 - (i + 1)) = 61 by omega] at c3
          refine g_iconst (pc := 56) (v := nI 0) C dX2_isSo_56 (by decide) ?_
          rw [← hpost]
          exact g_zreturn (pc := 57) C ⟨rfl, rfl⟩ (by first | exact Or.inl rfl | exact Or.inr rfl) dX2_isSo_57 ⟨by rw [c3]; rfl, q12, f2⟩
  exact loop k 0 S1 (by omega) rfl (q1.mono dR_dF) f1 h1
/-- the class's RULES: nr of them -/
def rlS (S : St) (nr : Nat) (Fs : Nat → (Nat → Int64) → Int64) : Prop := gx_a S 6 17 6 ∧ nr ≤ 6 ∧ ∀ r, r < nr → frC2 S (s_Q S 6 r) (some (Fs r))
theorem rlS.to {S T : St} {nr : Nat} {Fs : Nat → (Nat → Int64) → Int64} {D : Nat → Prop} (h : rlS S nr Fs) (e : eqO D S T) (h6 : ¬ D 6) (hD : ∀ k, D k → k < 2000) : rlS T nr Fs := ⟨e.a h.1, h.2.1, fun r hr => by
  rw [e.Q h6]
  exact (h.2.2 r hr).to e hD⟩
theorem or_so : ∀ k, k < 6 → ∀ a, a < 64 → a < 2 ^ (k + 1) → nI a ||| (nI 2 <<< (nI k &&& 31)) = nI (a + 2 ^ (k + 1)) := by decide +kernel
theorem c_X2_rulesThatAreSo (w : Wd) (l : Launch) (S : St) (c ca cg cl ce P m nr : Nat) (Fs : Nat → (Nat → Int64) → Int64) (u : Nat → Int32) (hf : ftK S) (hw : nwS S c ca cg cl ce P u) (hs : scK S 7 13 14 15) (hno : noS S 7 15 P m u) (ha : sdA P u) (hrl : rlS S nr Fs) : gx_M w l yX2_rulesThatAreSo cX2_rulesThatAreSo 6 (some .int) rmX2_rulesThatAreSo [.ref (ad (w_b w) 82), .ref (ad (w_b w) 7), .ref (ad (w_b w) 6), .int (nI nr)] S (fun v S' => v = some (.int (nI (wyN (ftF Fs (nI 0) u P m) (nr + 1)))) ∧ eqO dF S S' ∧ ftK S') := by
  obtain ⟨hz, r1, r2, hc, hk, hr⟩ := id hw
  have hP7 := hc.2.2
  have o7 : gx_o S 7 8 := o_st hz rfl rfl
  have of0 : gx_o S 82 2 := o_st hz rfl rfl
  have hnr6 := hrl.2.1
  generalize hpost : (fun (v : Option Value) (S' : St) => v = some (.int (nI (wyN (ftF Fs (nI 0) u P m) (nr + 1)))) ∧ eqO dF S S' ∧ ftK S') = post
  refine gx_start rfl 2 rfl (Nat.le_of_ble_eq_true rfl) ?_
  intro X C _ hl
  subst hl
  refine gx_L (L' := [_, _, _, _, _, _]) rfl ?_
  refine g_aload_n (pc := 0) C dX2_rulesThatAreSo_0 rfl ?_
  refine g_aload_n (pc := 1) C dX2_rulesThatAreSo_1 rfl ?_
  refine g_null (pc := 2) C dX2_rulesThatAreSo_2 ?_
  refine cg_X2_87 (pc := 3) C (by exact of0.1) (zk (by exact of0.2)) (c_X2_isSo _ _ S c ca cg cl ce P m none none u hf hw hs hno ha rfl) ⟨rfl, rfl⟩ ⟨Nat.zero_le _, Nat.zero_le _⟩ rfl (Nat.le_of_ble_eq_true rfl) dX2_rulesThatAreSo_3 ?_
  rintro _ S1 ⟨rfl, q1, f1⟩
  have loop : ∀ d i S1, i + d = nr → eqO dF S S1 → ftK S1 → gx_G w X S1 0 0 19 [some (.ref (ad (w_b w) 82)), some (.ref (ad (w_b w) 7)), some (.ref (ad (w_b w) 6)), some (.int (nI nr)), some (.int (nI (wyN (ftF Fs (nI 0) u P m) (i + 1)))), some (.int (nI i))] [] (gx_E w X post) := by
    intro d
    induction d with
    | zero =>
      intro i S1 hi q1 f1
      have hi : i = nr := hi
      subst hi
      refine g_iload (pc := 19) C dX2_rulesThatAreSo_19 rfl ?_
      refine g_iload_n (pc := 21) C dX2_rulesThatAreSo_21 rfl ?_
      refine g_icmp_ge (pc := 22) C 59 dX2_rulesThatAreSo_22 rfl (fun c1 => ?_) (fun c1 => ?_)
      · refine g_iload (pc := 59) C dX2_rulesThatAreSo_59 rfl ?_
        rw [← hpost]
        exact g_ireturn (pc := 61) C ⟨rfl, rfl⟩ dX2_rulesThatAreSo_61 ⟨rfl, q1, f1⟩
      · exact absurd (nI_le (Nat.le_refl _) (by omega)) c1
    | succ d ih =>
      intro i S1 hi q1 f1
      have w1 := hw.to q1 dF_now
      have s1 : scK S1 7 13 14 15 := hs.to q1 (by unfold dF; omega) (by unfold dF; omega)
      have n1 : noS S1 7 15 P m u := hno.to q1 (by unfold dF; omega) (by unfold dF; omega)
      have rl1 := hrl.to q1 (by unfold dF; omega) dF_2000
      have a61 := rl1.1
      have o71 : gx_o S1 7 8 := s1.1
      have of1 : gx_o S1 82 2 := o_st f1.1 rfl rfl
      have hlt := wyN_lt (ftF Fs (nI 0) u P m) (i + 1)
      have h64 : wyN (ftF Fs (nI 0) u P m) (i + 1) < 64 := Nat.lt_of_lt_of_le hlt (Nat.pow_le_pow_right (by decide) (show i + 1 ≤ 6 by omega))
      refine g_iload (pc := 19) C dX2_rulesThatAreSo_19 rfl ?_
      refine g_iload_n (pc := 21) C dX2_rulesThatAreSo_21 rfl ?_
      refine g_icmp_ge (pc := 22) C 59 dX2_rulesThatAreSo_22 rfl (fun c1 => ?_) (fun c1 => ?_)
      · exact absurd c1 (nI_ge (by omega) (by omega))
      · refine g_iload (pc := 25) C dX2_rulesThatAreSo_25 rfl ?_
        refine g_aload_n (pc := 27) C dX2_rulesThatAreSo_27 rfl ?_
        refine g_alen17 (pc := 28) (n := 6) (v := nI (6)) C (by exact a61.1) (by exact a61.2.1) (zk (by exact a61.2.2)) rfl dX2_rulesThatAreSo_28 ?_
        refine g_icmp_ge (pc := 29) C 59 dX2_rulesThatAreSo_29 rfl (fun c2 => ?_) (fun c2 => ?_)
        · exact absurd c2 (nI_ge (by omega) (by omega))
        · refine g_aload_n (pc := 32) C dX2_rulesThatAreSo_32 rfl ?_
          refine g_aload_n (pc := 33) C dX2_rulesThatAreSo_33 rfl ?_
          refine g_aload_n (pc := 34) C dX2_rulesThatAreSo_34 rfl ?_
          refine g_iload (pc := 35) C dX2_rulesThatAreSo_35 rfl ?_
          refine g_aald17 (pc := 37) (n := 6) C (by exact a61.1) (by exact a61.2.1) (zk (by exact a61.2.2)) isn_v rfl (by omega) dX2_rulesThatAreSo_37 ?_
          refine cg_X2_87 (pc := 38) C (by exact of1.1) (zk (by exact of1.2)) (c_X2_isSo _ _ S1 c ca cg cl ce P m (s_Q S1 6 i) (some (Fs i)) u f1 w1 s1 n1 ha (rl1.2.2 i (by omega))) ⟨rfl, rfl⟩ ⟨Nat.zero_le _, Nat.zero_le _⟩ rfl (Nat.le_of_ble_eq_true rfl) dX2_rulesThatAreSo_38 ?_
          rintro _ S2 ⟨rfl, q2, f2⟩
          have q12 := q1.trans q2
          have next := ih (i + 1) S2 (by omega) q12 f2
          refine g_if_eq (pc := 41) C 53 dX2_rulesThatAreSo_41 rfl (fun c3 => ?_) (fun c3 => ?_)
          · have c3 : ¬ ftF Fs (nI 0) u P m (i + 1) = true := bI_0.mp c3
            refine g_iinc (pc := 53) (L' := [_, _, _, _, some (.int _), _]) C dX2_rulesThatAreSo_53 rfl (nI_1 _) rfl ?_
            refine g_goto (pc := 56) C 19 dX2_rulesThatAreSo_56 rfl ?_
            rw [show wyN (ftF Fs (nI 0) u P m) (i + 1 + 1) = wyN (ftF Fs (nI 0) u P m) (i + 1) by show _ + (if _ then _ else 0) = _; rw [if_neg c3, Nat.add_zero]] at next
            exact next
          · have c3 : ftF Fs (nI 0) u P m (i + 1) = true := Decidable.not_not.mp (fun q => c3 (bI_0.mpr q))
            refine g_iload (pc := 44) C dX2_rulesThatAreSo_44 rfl ?_
            refine g_iconst (pc := 46) (v := nI 2) C dX2_rulesThatAreSo_46 (by decide) ?_
            refine g_iload (pc := 47) C dX2_rulesThatAreSo_47 rfl ?_
            refine g_ishl (pc := 49) C dX2_rulesThatAreSo_49 ?_
            refine g_ior (pc := 50) C dX2_rulesThatAreSo_50 ?_
            refine gx_ti (y := nI (wyN (ftF Fs (nI 0) u P m) (i + 1) + 2 ^ (i + 1))) (or_so i (by omega) _ h64 hlt) ?_
            refine g_istore (pc := 51) (L' := [_, _, _, some (.int _), _, _]) C dX2_rulesThatAreSo_51 rfl rfl ?_
            refine g_iinc (pc := 53) (L' := [_, _, _, _, some (.int _), _]) C dX2_rulesThatAreSo_53 rfl (nI_1 _) rfl ?_
            refine g_goto (pc := 56) C 19 dX2_rulesThatAreSo_56 rfl ?_
            rw [show wyN (ftF Fs (nI 0) u P m) (i + 1 + 1) = wyN (ftF Fs (nI 0) u P m) (i + 1) + 2 ^ (i + 1) by show _ + (if _ then _ else 0) = _; rw [if_pos c3]] at next
            exact next
  have go := loop nr 0 S1 (by omega) q1 f1
  refine g_if_eq (pc := 6) C 13 dX2_rulesThatAreSo_6 rfl (fun c1 => ?_) (fun c1 => ?_)
  · have c1 : ¬ ftF Fs (nI 0) u P m 0 = true := bI_0.mp c1
    refine g_iconst (pc := 13) (v := nI 0) C dX2_rulesThatAreSo_13 (by decide) ?_
    refine g_istore (pc := 14) (L' := [_, _, _, some (.int _), _, _]) C dX2_rulesThatAreSo_14 rfl rfl ?_
    refine g_iconst (pc := 16) (v := nI 0) C dX2_rulesThatAreSo_16 (by decide) ?_
    refine g_istore (pc := 17) (L' := [_, _, _, _, some (.int _), _]) C dX2_rulesThatAreSo_17 rfl rfl ?_
    rw [show wyN (ftF Fs (nI 0) u P m) (0 + 1) = 0 by show 0 + (if _ then _ else 0) = _; rw [if_neg c1]] at go
    exact go
  · have c1 : ftF Fs (nI 0) u P m 0 = true := Decidable.not_not.mp (fun q => c1 (bI_0.mpr q))
    refine g_iconst (pc := 9) (v := nI 1) C dX2_rulesThatAreSo_9 (by decide) ?_
    refine g_goto (pc := 10) C 14 dX2_rulesThatAreSo_10 rfl ?_
    refine g_istore (pc := 14) (L' := [_, _, _, some (.int _), _, _]) C dX2_rulesThatAreSo_14 rfl rfl ?_
    refine g_iconst (pc := 16) (v := nI 0) C dX2_rulesThatAreSo_16 (by decide) ?_
    refine g_istore (pc := 17) (L' := [_, _, _, _, some (.int _), _]) C dX2_rulesThatAreSo_17 rfl rfl ?_
    rw [show wyN (ftF Fs (nI 0) u P m) (0 + 1) = 1 by show 0 + (if _ then _ else 0) = _; rw [if_pos c1]] at go
    exact go
