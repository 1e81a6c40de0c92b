/-! ===== the reference: trips that are asked ===== -/
theorem goF_out {drawn : Int32} {said : Nat → Int32} {P H s j : Nat} (hP : P ≤ 7) (h : j < 10 ∨ 28 ≤ j) : goF drawn said P H s j = said j := by
  unfold goF goG
  simp only [upd]
  rw [if_neg (by omega)]
  split
  · show (if j = 11 then _ else crsF (grwF said s P) s P j) = said j
    rw [if_neg (by omega), crsF_lo (by omega) hP, grwF_lo (by omega) hP]
  · show (if j = 12 then _ else grwF said s P j) = said j
    rw [if_neg (by omega), grwF_lo (by omega) hP]
theorem goF_hour {drawn : Int32} {said : Nat → Int32} {P H s : Nat} (hP : P ≤ 7) : goF drawn said P H s 10 = said 10 + nI 1 := by
  unfold goF goG
  simp only [upd]
  rw [if_pos trivial]
  split
  · show (if 10 = 11 then _ else crsF (grwF said s P) s P 10) + nI 1 = _
    rw [if_neg (by omega), crsF_lo (by omega) hP, grwF_lo (by omega) hP]
  · show (if 10 = 12 then _ else grwF said s P 10) + nI 1 = _
    rw [if_neg (by omega), grwF_lo (by omega) hP]
theorem passF_out {fr : Option ((Nat → Int64) → Int64)} {drawn : Int32} {said : Nat → Int32} {P H j : Nat} (hP : P ≤ 7) (h : j < 10 ∨ 28 ≤ j) : passF fr drawn said P H j = said j := by
  unfold passF
  split
  · exact goF_out hP h
  · simp only [upd]; rw [if_neg (by omega)]
theorem passF_hour {fr : Option ((Nat → Int64) → Int64)} {drawn : Int32} {said : Nat → Int32} {P H : Nat} (hP : P ≤ 7) : passF fr drawn said P H 10 = said 10 + nI 1 := by
  unfold passF
  split
  · exact goF_hour hP
  · simp only [upd]; rw [if_pos trivial]
/-- behind so many trips -/
def pnF (fr : Option ((Nat → Int64) → Int64)) (drawn : Int32) (said : Nat → Int32) (P H : Nat) : Nat → Nat → Int32
  | 0 => said
  | n + 1 => passF fr drawn (pnF fr drawn said P H n) P (H + n)
theorem pnF_out {fr : Option ((Nat → Int64) → Int64)} {drawn : Int32} {said : Nat → Int32} {P H j : Nat} (hP : P ≤ 7) (h : j < 10 ∨ 28 ≤ j) : ∀ n, pnF fr drawn said P H n j = said j
  | 0 => rfl
  | n + 1 => (passF_out hP h).trans (pnF_out hP h n)
theorem pnF_hour {fr : Option ((Nat → Int64) → Int64)} {drawn : Int32} {said : Nat → Int32} {P H : Nat} (hP : P ≤ 7) (hh : said 10 = nI H) : ∀ n, pnF fr drawn said P H n 10 = nI (H + n)
  | 0 => hh
  | n + 1 => by
    show passF fr drawn (pnF fr drawn said P H n) P (H + n) 10 = _
    rw [passF_hour hP, pnF_hour hP hh n, nI_add]; rfl
theorem gx_pn {S : St} {P H n : Nat} {fr : Option ((Nat → Int64) → Int64)} {drawn : Int32} (hp : gx_p S P H) (hn : H + n < 2000) : gx_p (s_setA S 1010 (pnF fr drawn (s_A S 1010) P H n)) P (H + n) :=
  ⟨(pnF_out hp.2.1 (by omega) n).trans hp.1, hp.2.1, pnF_hour hp.2.1 hp.2.2.1 n, hn⟩
theorem scw_A (S : St) (f g : Nat → Int32) (B W : Nat → Int64) (t : Int32) : scw (s_setA (s_setA S 1010 f) 1010 g) B W t = scw (s_setA S 1010 g) B W t := by rw [s_AA]
theorem lay_scw (S : St) (f : Nat → Int32) (B W : Nat → Int64) (t : Int32) : layS (scw (s_setA S 1010 f) B W t) = scw (s_setA S 1010 (va_cpy (s_A S 1012) f 0 10 18)) B W t := scw_A S f (va_cpy (s_A S 1012) f 0 10 18) B W t
theorem c_X12_overIn (w : Wd) (l : Launch) (S : St) (hm : gx_m S) (P H : Nat) (hp : gx_p S P H) (n : Nat) (hn : H + n < 2000) (fr : Option ((Nat → Int64) → Int64)) (hfr : frW S fr) (B W : Nat → Int64) (t : Int32) : gx_M w l yX12_overIn cX12_overIn 3 (some .int) rmX12_overIn [.ref (ad (w_b w) 1000), .int (nI n)] (scw S B W t) (fun a S' => ∃ B' W' t', a = some (.int (nI (popN (onN (pnF fr (s_I S 1123 1000) (s_A S 1010) P H n) (nI 1) P)))) ∧ S' = scw (s_setA S 1010 (va_cpy (s_A S 1012) (pnF fr (s_I S 1123 1000) (s_A S 1010) P H n) 0 10 18)) B' W' t') := by
  obtain ⟨hP, hP7, hH, hH2⟩ := id hp
  refine gx_start rfl 1 rfl (Nat.le_of_ble_eq_true rfl) ?_
  intro X C _ hl
  subst hl
  refine gx_L (L' := [_, _, _]) rfl ?_
  refine g_iconst (pc := 0) (v := nI 0) C dX12_overIn_0 (by decide) ?_
  refine g_istore_n (pc := 1) (L' := [_, some (.int _), _]) C dX12_overIn_1 rfl rfl ?_
  have loop : ∀ k i B W t, i + k = n → gx_G w X (scw (s_setA S 1010 (pnF fr (s_I S 1123 1000) (s_A S 1010) P H i)) B W t) 0 0 2 [some (.ref (ad (w_b w) 1000)), some (.int (nI n)), some (.int (nI i))] [] (gx_E w X (fun a S' => ∃ B' W' t', a = some (.int (nI (popN (onN (pnF fr (s_I S 1123 1000) (s_A S 1010) P H n) (nI 1) P)))) ∧ S' = scw (s_setA S 1010 (va_cpy (s_A S 1012) (pnF fr (s_I S 1123 1000) (s_A S 1010) P H n) 0 10 18)) B' W' t')) := by
    intro k
    induction k with
    | zero =>
      intro i B W t hi
      have hi : i = n := hi
      subst hi
      have hp2 := gx_pn (fr := fr) (drawn := s_I S 1123 1000) hp hn
      refine g_iload_n (pc := 2) C dX12_overIn_2 rfl ?_
      refine g_iload_n (pc := 3) C dX12_overIn_3 rfl ?_
      refine g_icmp_ge (pc := 4) C 18 dX12_overIn_4 rfl (fun h => ?_) (fun h => ?_)
      · refine g_aload_n (pc := 18) C dX12_overIn_18 rfl ?_
        refine g_iconst (pc := 19) (v := nI 1) C dX12_overIn_19 (by decide) ?_
        refine cf_X12_334 (pc := 20) C rfl (by exact m_z hm rfl) (c_X12_onSide _ _ _ (by exact hm) P (by exact hp2.1) hP7 _) ⟨rfl, rfl⟩ ⟨rfl, rfl⟩ ⟨Nat.zero_le _, Nat.zero_le _⟩ rfl (Nat.le_of_ble_eq_true rfl) dX12_overIn_20 ?_
        refine gx_ti (y := nI (onN (pnF fr (s_I S 1123 1000) (s_A S 1010) P H i) (nI 1) P)) rfl ?_
        refine cf_X12_337 (pc := 23) C (c_X12_bits _ _ _ _ (onN_128 hP7)) ⟨rfl, rfl⟩ ⟨rfl, rfl⟩ ⟨Nat.zero_le _, Nat.zero_le _⟩ rfl (Nat.le_of_ble_eq_true rfl) dX12_overIn_23 ?_
        refine g_istore_n (pc := 26) (L' := [_, some (.int _), _]) C dX12_overIn_26 rfl rfl ?_
        refine g_aload_n (pc := 27) C dX12_overIn_27 rfl ?_
        refine cf_X12_388 (pc := 28) C rfl (by exact m_z hm rfl) (c_X12_laysBack _ _ _ (by exact hm)) ⟨rfl, rfl⟩ ⟨rfl, rfl⟩ ⟨Nat.zero_le _, Nat.zero_le _⟩ rfl (Nat.le_of_ble_eq_true rfl) dX12_overIn_28 ?_
        refine g_iload_n (pc := 31) C dX12_overIn_31 rfl ?_
        exact g_ireturn (pc := 32) C ⟨rfl, rfl⟩ dX12_overIn_32 ⟨B, W, t, rfl, lay_scw S _ B W t⟩
      · exact absurd (nI_le (Nat.le_refl i) (by omega)) h
    | succ k ih =>
      intro i B W t hi
      refine g_iload_n (pc := 2) C dX12_overIn_2 rfl ?_
      refine g_iload_n (pc := 3) C dX12_overIn_3 rfl ?_
      refine g_icmp_ge (pc := 4) C 18 dX12_overIn_4 rfl (fun h => ?_) (fun h => ?_)
      · exact absurd h (nI_ge (by omega) (by omega))
      · refine g_aload_n (pc := 7) C dX12_overIn_7 rfl ?_
        refine cg_X12_373 (pc := 8) C rfl (by exact m_z hm rfl) (c_X12_passes _ _ (s_setA S 1010 (pnF fr (s_I S 1123 1000) (s_A S 1010) P H i)) hm P (H + i) (gx_pn hp (by omega)) fr hfr B W t) ⟨rfl, rfl⟩ ⟨Nat.zero_le _, Nat.zero_le _⟩ rfl (Nat.le_of_ble_eq_true rfl) dX12_overIn_8 ?_
        rintro _ _ ⟨B', W', t', rfl, rfl⟩
        refine gx_S (scw_A S _ _ B' W' t') ?_
        refine g_pop (pc := 11) C dX12_overIn_11 rfl ?_
        refine g_iinc (pc := 12) (L' := [_, some (.int _), _]) C dX12_overIn_12 rfl (nI_1 _) rfl ?_
        refine g_goto (pc := 15) C 2 dX12_overIn_15 rfl ?_
        exact ih (i + 1) B' W' t' (by omega)
  refine gx_S ?_ (loop n 0 B W t (by omega))
  rw [show pnF fr (s_I S 1123 1000) (s_A S 1010) P H 0 = s_A S 1010 from rfl, s_A_id]
