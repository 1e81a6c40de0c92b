/-! ===== RULES: what the reference's rows reckon ===== -/
theorem run_ev {wd : Nat → Int64} {sg : Nat → Nat} {M : Nat} : ∀ (k : List Nat) (b : Nat) (st r : List Int64), (∀ j, j < k.length → sg (b + j) = k.getD j 0) → evT wd M k st = some r → runM wd sg b k.length st = some r
  | [], _, _, _, _, h => h
  | c :: k, b, st, r, hs, h => by
    have h0 : sg b = c := hs 0 (by simp)
    have hs' : ∀ j, j < k.length → sg (b + 1 + j) = k.getD j 0 := by
      intro j hj
      have := hs (j + 1) (by simp only [List.length_cons]; omega)
      rw [show b + 1 + j = b + (j + 1) by omega, this]; rfl
    unfold evT at h
    show (stepM wd (sg b) st).bind (runM wd sg (b + 1) k.length) = some r
    rw [h0]
    by_cases hl : st.length < M
    · rw [if_pos hl] at h
      cases hst : stepM wd c st with
      | none => rw [hst] at h; cases h
      | some st2 => rw [hst] at h; exact run_ev k (b + 1) st2 r hs' h
    · rw [if_neg hl] at h; cases h
def cE : CL := ([], none)
theorem rlC_get {r : Nat → Int32} {t : Nat} : ∀ (cs : List CL) (c0 b c : Nat), rlC r t c0 b cs → c < cs.length → clO (b + (flC (cs.take c)).length) (cs.getD c cE) r (48 * t + 4 * (c0 + c))
  | [], _, _, _, _, h => absurd h (by simp)
  | q :: cs, c0, b, 0, h, _ => by
    have e : (flC ((q :: cs).take 0)).length = 0 := rfl
    rw [e]
    exact h.1
  | q :: cs, c0, b, c + 1, h, hc => by
    have ih := rlC_get cs (c0 + 1) _ c h.2 (by simpa using hc)
    have e : (flC ((q :: cs).take (c + 1))).length = (clT q).length + (flC (cs.take c)).length := List.length_append
    rw [e, show b + ((clT q).length + (flC (cs.take c)).length) = b + (clT q).length + (flC (cs.take c)).length by omega, show c0 + (c + 1) = c0 + 1 + c by omega]
    exact ih
theorem fl_split {cs : List CL} {c : Nat} (hc : c < cs.length) : flC cs = flC (cs.take c) ++ (clT (cs.getD c cE) ++ flC (cs.drop (c + 1))) := by
  induction cs generalizing c with
  | nil => exact absurd hc (by simp)
  | cons q cs ih =>
    cases c with
    | zero => simp [flC]
    | succ c =>
      have := ih (c := c) (by simpa using hc)
      show clT q ++ flC cs = clT q ++ flC (cs.take c) ++ (clT (cs.getD c cE) ++ flC (cs.drop (c + 1)))
      rw [this]; simp [List.append_assoc]
theorem ev_clF {wd : Nat → Int64} {cs : List CL} : ∀ (k c : Nat), c + k = cs.length → clF (fun c => evV wd (cs.getD c cE).1) (fun c => (cs.getD c cE).2.map (evV wd)) k c = evC wd (cs.drop c) := by
  intro k
  induction k with
  | zero =>
    intro c hc
    have : c = cs.length := hc
    subst this
    rw [List.drop_length]; rfl
  | succ k ih =>
    intro c hc
    have hlt : c < cs.length := by omega
    have ih := ih (c + 1) (by omega)
    have e : cs.drop c = cs.getD c cE :: cs.drop (c + 1) := by
      rw [List.drop_eq_getElem_cons hlt, List.getD_eq_getElem?_getD, List.getElem?_eq_getElem hlt]; rfl
    rw [e]
    unfold clF
    generalize cs.getD c cE = q at *
    obtain ⟨k1, k2⟩ := q
    cases k2 with
    | none => rfl
    | some k2 =>
      show (if evV wd k2 = 1 then evV wd k1 else clF _ _ k (c + 1)) = (if evV wd k2 = 1 then evV wd k1 else evC wd (cs.drop (c + 1)))
      rw [ih]
theorem gd_mem {cs : List CL} {c : Nat} (h : c < cs.length) : cs.getD c cE ∈ cs := by
  rw [List.getD_eq_getElem?_getD, List.getElem?_eq_getElem h]
  exact List.getElem_mem h
theorem evC_ext {wd wd' : Nat → Int64} (h : ∀ i, i < 12 → wd i = wd' i) : ∀ cs, evC wd cs = evC wd' cs
  | [] => rfl
  | (k1, none) :: _ => by unfold evC evV; rw [evT_ext h]
  | (k1, some k2) :: cs => by
    have ih := evC_ext h cs
    unfold evC
    rw [ih]
    unfold evV
    rw [evT_ext h, evT_ext h]
theorem fl_mem : ∀ (cs : List CL) (x : Nat), x ∈ flC cs → ∃ q, q ∈ cs ∧ x ∈ clT q
  | [], _, h => by cases h
  | q :: cs, x, h => by
    rcases List.mem_append.mp h with h | h
    · exact ⟨q, List.mem_cons_self, h⟩
    · obtain ⟨p, hp, hx⟩ := fl_mem cs x h
      exact ⟨p, List.mem_cons_of_mem _ hp, hx⟩
/-- a text that became CLAUSES cs reckons them -/
theorem ruleW_of {S : St} {t : Nat} {cs : List CL} (hl : (flC cs).length ≤ 400) (hc : cs.length ≤ 12) (h5 : s_A S 1005 t = nI cs.length) (h4 : rlC (s_A S 1004) t 0 0 cs) (h2 : ∀ j, j < (flC cs).length → s_A S 1002 (400 * t + j) = nI ((flC cs).getD j 0)) (hw : ∀ q, q ∈ cs → wfC q) : ruleW S t (fun wd => evC wd cs) := by
  have split1 : ∀ c, c < cs.length → (flC (cs.take c)).length + (clT (cs.getD c cE)).length ≤ (flC cs).length := by
    intro c hc
    have := congrArg List.length (fl_split hc)
    rw [List.length_append, List.length_append] at this
    omega
  have tok : ∀ x, x ∈ flC cs → ∃ q, q ∈ cs ∧ x ∈ clT q := fun x hx => fl_mem cs x hx
  have tokw : ∀ x, x ∈ flC cs → x < 16000000 ∧ x % 16 ≠ 15 := by
    intro x hx
    obtain ⟨q, hq, hxq⟩ := tok x hx
    have w := hw q hq
    rcases List.mem_append.mp hxq with h | h
    · have := w.1.1 x h; exact ⟨this.1, by omega⟩
    · cases hk : q.2 with
      | none => rw [hk] at h; cases h
      | some k => rw [hk] at h; have := (w.2 k hk).1 x h; exact ⟨this.1, by omega⟩
  refine ⟨cs.length, (flC cs).length, fun i => (flC cs).getD i 0, fun c => (flC (cs.take c)).length, fun c => (cs.getD c cE).1.length, fun c => (flC (cs.take c)).length + (cs.getD c cE).1.length, fun c => ((cs.getD c cE).2.getD []).length, fun c => (cs.getD c cE).2.isSome, hc, hl, h5, fun i hi => ?_, fun c hc => ?_, fun wd => ?_, fun wd wd' h => evC_ext h cs⟩
  · refine ⟨h2 i hi, tokw _ ?_⟩
    show (flC cs).getD i 0 ∈ flC cs
    rw [List.getD_eq_getElem?_getD, List.getElem?_eq_getElem hi]
    exact List.getElem_mem hi
  · have hcl := rlC_get cs 0 0 c h4 hc
    have hsp := split1 c hc
    rw [Nat.zero_add, Nat.zero_add] at hcl
    dsimp only
    generalize cs.getD c cE = q at *
    obtain ⟨k1, k2⟩ := q
    obtain ⟨a1, a2, a3⟩ := hcl
    have hlen : (clT (k1, k2)).length = k1.length + (k2.getD []).length := List.length_append
    refine ⟨by show _ + k1.length ≤ _; omega, a1, a2, fun e => ?_, fun e => ?_⟩
    · cases k2 with
      | none => exact a3
      | some k => cases e
    · cases k2 with
      | none => cases e
      | some k =>
        exact ⟨by show (flC (cs.take c)).length + k1.length + k.length ≤ _; have : (k1.length + ((some k).getD []).length) = k1.length + k.length := rfl; omega, a3.1, a3.2⟩
  · refine ⟨fun c => evV wd (cs.getD c cE).1, fun c => (cs.getD c cE).2.map (evV wd), fun c hc => ?_, ?_⟩
    · have hsp := fl_split hc
      have w := hw _ (gd_mem hc)
      dsimp only
      generalize cs.getD c cE = q at *
      obtain ⟨k1, k2⟩ := q
      have get1 : ∀ j, j < k1.length → (flC cs).getD ((flC (cs.take c)).length + j) 0 = k1.getD j 0 := by
        intro j hj
        rw [hsp, gd_r (by omega), show (flC (cs.take c)).length + j - (flC (cs.take c)).length = j by omega]
        rw [gd_l (by show j < (k1 ++ _).length; rw [List.length_append]; omega)]
        exact gd_l hj
      refine ⟨run_ev (M := 64) k1 _ [] _ get1 ((evV_eq w.1 (by omega) wd).2 [] 64 (by simp) (Nat.le_refl _)), fun e => ?_, fun e => ?_⟩
      · cases k2 with
        | none => rfl
        | some k => cases e
      · cases k2 with
        | none => cases e
        | some k =>
          have get2 : ∀ j, j < k.length → (flC cs).getD ((flC (cs.take c)).length + k1.length + j) 0 = k.getD j 0 := by
            intro j hj
            rw [hsp, gd_r (by omega), show (flC (cs.take c)).length + k1.length + j - (flC (cs.take c)).length = k1.length + j by omega]
            rw [gd_l (by show k1.length + j < (k1 ++ k).length; rw [List.length_append]; omega)]
            show (k1 ++ k).getD (k1.length + j) 0 = _
            rw [gd_r (by omega), show k1.length + j - k1.length = j by omega]
          exact ⟨evV wd k, rfl, run_ev (M := 64) k _ [] _ get2 ((evV_eq (w.2 k rfl) (by omega) wd).2 [] 64 (by simp) (Nat.le_refl _))⟩
    · have := ev_clF (wd := wd) (cs := cs) cs.length 0 (by omega)
      rw [List.drop_zero] at this
      exact this.symm
