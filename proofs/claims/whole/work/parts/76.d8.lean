/-! ===== THE CLASS: Scene ===== -/
def scK (S : St) (s r ra no : Nat) : Prop := gx_o S s 8 ∧ s_R S 801 s = some r ∧ s_R S 806 s = some no ∧ gx_a S no 13 10 ∧ rvK S r ra
/-- the notes of a Scene: m of them, as u tells them -/
def noS (S : St) (s no P m : Nat) (u : Nat → Int32) : Prop := s_I S 804 s = nI m ∧ m ≤ 10 ∧ u 189 = nI m ∧ ∀ q, q < m → ∃ n j d, n ≤ 60 ∧ j < P ∧ d < 2 ∧ u (159 + 3 * q) = nI n ∧ u (159 + 3 * q + 1) = nI j ∧ u (159 + 3 * q + 2) = nI d ∧ s_A S no q = nI ((j * 2 + d) * 64 + n)
theorem noS.nt {S : St} {s no P m : Nat} {u : Nat → Int32} (h : noS S s no P m u) (hP : P ≤ 7) : gx_nt u m := ⟨h.2.2.1, h.2.1, fun q hq => by
  obtain ⟨n, j, d, -, hj, -, -, e, -⟩ := h.2.2.2 q hq
  exact ⟨j, by omega, e⟩⟩
theorem noS.to {S T : St} {s no P m : Nat} {u : Nat → Int32} {D : Nat → Prop} (h : noS S s no P m u) (e : eqO D S T) (h1 : ¬ D s) (h2 : ¬ D no) : noS T s no P m u := ⟨(e.I h1).trans h.1, h.2.1, h.2.2.1, fun q hq => by
  obtain ⟨n, j, d, a, b, c, e1, e2, e3, e4⟩ := h.2.2.2 q hq
  exact ⟨n, j, d, a, b, c, e1, e2, e3, by rw [e.A h2]; exact e4⟩⟩
theorem scK.to {S T : St} {s r ra no : Nat} {D : Nat → Prop} (h : scK S s r ra no) (e : eqO D S T) (h1 : ¬ D s) (h2 : ¬ D r) : scK T s r ra no := ⟨e.o h.1, (e.R h1).trans h.2.1, (e.R h1).trans h.2.2.1, e.a h.2.2.2.1, e.o h.2.2.2.2.1, (e.R h2).trans h.2.2.2.2.2.1, e.a h.2.2.2.2.2.2⟩
theorem c_X9_isFog (w : Wd) (l : Launch) (S : St) (s r ra no c ca cg cl ce P H : Nat) (u : Nat → Int32) (hs : scK S s r ra no) (hr : s_R S 800 s = some c) (hc : crS S c ca cg cl ce P u) (h : rvS S r ra P u) (hH : u 10 = nI H) (hH2 : H < 2000) : gx_M w l yX9_isFog cX9_isFog 1 (some .boolean) rmX9_isFog [.ref (ad (w_b w) s)] S (pI (bI (fogF 0 u H)) S) := by
  obtain ⟨o1, r1, r2, a1, ⟨o2, r3, a2⟩⟩ := id hs
  refine gx_start rfl 0 rfl (Nat.le_of_ble_eq_true rfl) ?_
  intro X C _ hl
  subst hl
  refine gx_L (L' := [_]) rfl ?_
  refine g_aload_n (pc := 0) C dX9_isFog_0 rfl ?_
  refine fgr_X9_26 (pc := 1) C (by exact o1.1) (zk (by exact o1.2)) (by exact hr) dX9_isFog_1 ?_
  refine g_aload_n (pc := 4) C dX9_isFog_4 rfl ?_
  refine fgr_X9_12 (pc := 5) C (by exact o1.1) (zk (by exact o1.2)) (by exact r1) dX9_isFog_5 ?_
  refine fg_X9_50 (pc := 8) C (by exact o2.1) (zk (by exact o2.2)) dX9_isFog_8 ?_
  refine gx_ti (y := nI H) (h.2.1.1.trans hH) ?_
  refine cf_X9_53 (pc := 11) C (by exact hc.1.1.1) (zk (by exact hc.1.1.2)) (c_X0_isFog _ _ S c ca cg cl ce P u hc H hH2 hH) ⟨rfl, rfl⟩ ⟨rfl, rfl⟩ ⟨Nat.zero_le _, Nat.zero_le _⟩ rfl (Nat.le_of_ble_eq_true rfl) dX9_isFog_11 ?_
  exact g_zreturn (pc := 14) C ⟨rfl, rfl⟩ bI_z dX9_isFog_14 ⟨rfl, rfl⟩
theorem c_X9_addNote (w : Wd) (l : Launch) (S : St) (s r ra no P m n j d : Nat) (u : Nat → Int32) (hs : scK S s r ra no) (hne : s ≠ no) (hn : noS S s no P m u) (hn6 : n ≤ 60) (hj : j < P) (hP : P ≤ 7) (hd : d < 2) : gx_M w l yX9_addNote cX9_addNote 4 none rmX9_addNote [.ref (ad (w_b w) s), .int (nI n), .int (nI j), .int (nI d)] S (fun v S' => v = none ∧ eqO (fun k => k = s ∨ k = no) S S' ∧ (∀ f, f ≠ 804 → s_I S' f s = s_I S f s) ∧ (∀ f k, s_R S' f k = s_R S f k) ∧ if m < 10 then noS S' s no P (m + 1) (upd (upd (upd (upd u (159 + 3 * m) (nI n)) (159 + 3 * m + 1) (nI j)) (159 + 3 * m + 2) (nI d)) 189 (nI (m + 1))) else S' = S) := by
  obtain ⟨o1, r1, r2, a1, -⟩ := id hs
  obtain ⟨e1, hm, e2, hq⟩ := id hn
  generalize hpost : (fun (v : Option Value) (S' : St) => v = none ∧ eqO (fun k => k = s ∨ k = no) S S' ∧ (∀ f, f ≠ 804 → s_I S' f s = s_I S f s) ∧ (∀ f k, s_R S' f k = s_R S f k) ∧ if m < 10 then noS S' s no P (m + 1) (upd (upd (upd (upd u (159 + 3 * m) (nI n)) (159 + 3 * m + 1) (nI j)) (159 + 3 * m + 2) (nI d)) 189 (nI (m + 1))) else S' = S) = post
  refine gx_start rfl 0 rfl (Nat.le_of_ble_eq_true rfl) ?_
  intro X C _ hl
  subst hl
  refine gx_L (L' := [_, _, _, _]) rfl ?_
  refine g_aload_n (pc := 0) C dX9_addNote_0 rfl ?_
  refine fg_X9_34 (pc := 1) C (by exact o1.1) (zk (by exact o1.2)) dX9_addNote_1 ?_
  refine gx_ti (y := nI m) e1 ?_
  refine g_bipush (pc := 4) (v := nI 10) C dX9_addNote_4 (by decide) ?_
  refine g_icmp_ge (pc := 6) C 38 dX9_addNote_6 rfl (fun h1 => ?_) (fun h1 => ?_)
  · have hlt : ¬ m < 10 := fun q => absurd h1 (nI_ge q (by omega))
    rw [← hpost]
    exact g_return (pc := 38) C ⟨rfl, rfl⟩ dX9_addNote_38 ⟨rfl, eqO.refl, fun _ _ => rfl, fun _ _ => rfl, by rw [if_neg hlt]⟩
  · have hlt : m < 10 := Nat.lt_of_not_le (fun q => h1 (nI_le q (by omega)))
    refine g_aload_n (pc := 9) C dX9_addNote_9 rfl ?_
    refine fgr_X9_22 (pc := 10) C (by exact o1.1) (zk (by exact o1.2)) (by exact r2) dX9_addNote_10 ?_
    refine g_aload_n (pc := 13) C dX9_addNote_13 rfl ?_
    refine fg_X9_34 (pc := 14) C (by exact o1.1) (zk (by exact o1.2)) dX9_addNote_14 ?_
    refine gx_ti (y := nI m) e1 ?_
    refine g_iload_n (pc := 17) C dX9_addNote_17 rfl ?_
    refine g_iconst (pc := 18) (v := nI 2) C dX9_addNote_18 (by decide) ?_
    refine g_imul (pc := 19) C dX9_addNote_19 ?_
    refine gx_ti (y := nI (j * 2)) (pk_mul j 2) ?_
    refine g_iload_n (pc := 20) C dX9_addNote_20 rfl ?_
    refine g_iadd (pc := 21) C dX9_addNote_21 ?_
    refine gx_ti (y := nI (j * 2 + d)) (nI_add _ _) ?_
    refine g_bipush (pc := 22) (v := nI 64) C dX9_addNote_22 (by decide) ?_
    refine g_imul (pc := 24) C dX9_addNote_24 ?_
    refine gx_ti (y := nI ((j * 2 + d) * 64)) (pk_mul _ 64) ?_
    refine g_iload_n (pc := 25) C dX9_addNote_25 rfl ?_
    refine g_iadd (pc := 26) C dX9_addNote_26 ?_
    refine gx_ti (y := nI ((j * 2 + d) * 64 + n)) (nI_add _ _) ?_
    refine n_iast (pc := 27) (n := 10) C (by exact a1.1) (by exact a1.2.1) (zk (by exact a1.2.2)) rfl rfl (by omega) dX9_addNote_27 ?_
    generalize hS1 : s_setA S no (upd (s_A S no) m (nI ((j * 2 + d) * 64 + n))) = S1
    have q1 : eqO (fun k => k = s ∨ k = no) S S1 := by rw [← hS1]; exact eqO.sA (Or.inr rfl)
    have o2 := q1.o o1
    have i1 : ∀ f k, s_I S1 f k = s_I S f k := fun f k => by rw [← hS1]; rfl
    have i2 : ∀ f k, s_R S1 f k = s_R S f k := fun f k => by rw [← hS1]; rfl
    refine g_aload_n (pc := 28) C dX9_addNote_28 rfl ?_
    refine g_dup (pc := 29) C dX9_addNote_29 rfl ?_
    refine fg_X9_34 (pc := 30) C (by exact o2.1) (zk (by exact o2.2)) dX9_addNote_30 ?_
    refine gx_ti (y := nI m) ((i1 _ _).trans e1) ?_
    refine g_iconst (pc := 33) (v := nI 1) C dX9_addNote_33 (by decide) ?_
    refine g_iadd (pc := 34) C dX9_addNote_34 ?_
    refine gx_ti (y := nI (m + 1)) (nI_add _ _) ?_
    refine fp_X9_34 (pc := 35) C (by exact o2.1) (zk (by exact o2.2)) dX9_addNote_35 ?_
    rw [← hpost]
    exact g_return (pc := 38) C ⟨rfl, rfl⟩ dX9_addNote_38 ⟨rfl, q1.trans (eqO.sI (Or.inl rfl)), fun f hf => (u2_fo (f := s_I S1) hf).trans (i1 _ _), fun f k => i2 f k, by
      rw [if_pos hlt]
      refine ⟨gI_at, by omega, pk_us, fun q hq2 => ?_⟩
      have hA : s_A (s_setI S1 804 s (nI (m + 1))) no = upd (s_A S no) m (nI ((j * 2 + d) * 64 + n)) := by rw [← hS1]; exact gA_at ..
      rw [hA]
      by_cases e : q = m
      · subst e
        exact ⟨n, j, d, hn6, hj, hd, by rw [pk_un (by omega), pk_un (by omega), pk_un (by omega), pk_us], by rw [pk_un (by omega), pk_un (by omega), pk_us], by rw [pk_un (by omega), pk_us], pk_us⟩
      · obtain ⟨n', j', d', b1, b2, b3, b4, b5, b6, b7⟩ := hq q (by omega)
        exact ⟨n', j', d', b1, b2, b3, by rw [pk_un (by omega), pk_un (by omega), pk_un (by omega), pk_un (by omega)]; exact b4, by rw [pk_un (by omega), pk_un (by omega), pk_un (by omega), pk_un (by omega)]; exact b5, by rw [pk_un (by omega), pk_un (by omega), pk_un (by omega), pk_un (by omega)]; exact b6, by rw [pk_un (by omega)]; exact b7⟩⟩
/-- the last TRIP that is noted -/
def lnF (u : Nat → Int32) : Nat → Int32
  | 0 => -1
  | k + 1 => mxF (lnF u k) (u (159 + 3 * k))
theorem c_X9_lastNoted (w : Wd) (l : Launch) (S : St) (s r ra no P m : Nat) (u : Nat → Int32) (hs : scK S s r ra no) (hn : noS S s no P m u) (hP : P ≤ 7) : gx_M w l yX9_lastNoted cX9_lastNoted 3 (some .int) rmX9_lastNoted [.ref (ad (w_b w) s)] S (pI (lnF u m) S) := by
  obtain ⟨o1, r1, r2, a1, -⟩ := id hs
  obtain ⟨e1, hm, e2, hq⟩ := id hn
  refine gx_start rfl 2 rfl (Nat.le_of_ble_eq_true rfl) ?_
  intro X C _ hl
  subst hl
  refine gx_L (L' := [_, _, _]) rfl ?_
  refine g_iconst (pc := 0) (v := -1) C dX9_lastNoted_0 (by decide) ?_
  refine g_istore_n (pc := 1) (L' := [some (.ref _), _, _]) C dX9_lastNoted_1 rfl rfl ?_
  refine g_iconst (pc := 2) (v := nI 0) C dX9_lastNoted_2 (by decide) ?_
  refine g_istore_n (pc := 3) (L' := [_, some (.int _), _]) C dX9_lastNoted_3 rfl rfl ?_
  have loop : ∀ d i, i + d = m → gx_G w X S 0 0 4 [some (.ref (ad (w_b w) s)), some (.int (lnF u i)), some (.int (nI i))] [] (gx_E w X (pI (lnF u m) S)) := by
    intro d
    induction d with
    | zero =>
      intro i hi
      have hi : i = m := hi
      subst hi
      refine g_iload_n (pc := 4) C dX9_lastNoted_4 rfl ?_
      refine g_aload_n (pc := 5) C dX9_lastNoted_5 rfl ?_
      refine fg_X9_34 (pc := 6) C (by exact o1.1) (zk (by exact o1.2)) dX9_lastNoted_6 ?_
      refine gx_ti (y := nI i) e1 ?_
      refine g_icmp_ge (pc := 9) C 32 dX9_lastNoted_9 rfl (fun h => ?_) (fun h => ?_)
      · refine g_iload_n (pc := 32) C dX9_lastNoted_32 rfl ?_
        exact g_ireturn (pc := 33) C ⟨rfl, rfl⟩ dX9_lastNoted_33 ⟨rfl, rfl⟩
      · exact absurd (nI_le (Nat.le_refl i) (by omega)) h
    | succ d ih =>
      intro i hi
      obtain ⟨n, j, dd, b1, b2, b3, b4, b5, b6, b7⟩ := hq i (by omega)
      refine g_iload_n (pc := 4) C dX9_lastNoted_4 rfl ?_
      refine g_aload_n (pc := 5) C dX9_lastNoted_5 rfl ?_
      refine fg_X9_34 (pc := 6) C (by exact o1.1) (zk (by exact o1.2)) dX9_lastNoted_6 ?_
      refine gx_ti (y := nI m) e1 ?_
      refine g_icmp_ge (pc := 9) C 32 dX9_lastNoted_9 rfl (fun h => ?_) (fun h => ?_)
      · exact absurd h (nI_ge (by omega) (by omega))
      · refine g_iload_n (pc := 12) C dX9_lastNoted_12 rfl ?_
        refine g_aload_n (pc := 13) C dX9_lastNoted_13 rfl ?_
        refine fgr_X9_22 (pc := 14) C (by exact o1.1) (zk (by exact o1.2)) (by exact r2) dX9_lastNoted_14 ?_
        refine g_iload_n (pc := 17) C dX9_lastNoted_17 rfl ?_
        refine n_iald (pc := 18) (n := 10) C (by exact a1.1) (by exact a1.2.1) (zk (by exact a1.2.2)) isn_v rfl (by omega) dX9_lastNoted_18 ?_
        refine gx_ti (y := nI ((j * 2 + dd) * 64 + n)) b7 ?_
        refine g_bipush (pc := 19) (v := nI 64) C dX9_lastNoted_19 (by decide) ?_
        refine g_irem (pc := 21) C dX9_lastNoted_21 (by decide) ?_
        refine gx_ti (y := u (159 + 3 * i)) ((pk_rem (by omega) (by omega) (by omega)).trans (by rw [b4, Nat.mul_add_mod_of_lt (by omega)])) ?_
        refine g_mmax (pc := 22) C wl_X9_59 ⟨rfl, rfl⟩ ⟨Nat.zero_le _, Nat.zero_le _⟩ rfl (Nat.le_of_ble_eq_true rfl) dX9_lastNoted_22 ?_
        refine g_istore_n (pc := 25) (L' := [some (.ref _), _, _]) C dX9_lastNoted_25 rfl rfl ?_
        refine g_iinc (pc := 26) (L' := [_, some (.int _), _]) C dX9_lastNoted_26 rfl (nI_1 _) rfl ?_
        refine g_goto (pc := 29) C 4 dX9_lastNoted_29 rfl ?_
        exact ih (i + 1) (by omega)
  exact loop m 0 (by omega)
theorem c_X9_agrees (w : Wd) (l : Launch) (S : St) (s r ra no P m r2 ra2 : Nat) (u v : Nat → Int32) (n : Int32) (hs : scK S s r ra no) (hn : noS S s no P m u) (hP : P ≤ 7) (h : rvS S r2 ra2 P v) (hv : ∀ j, 159 ≤ j → v j = u j) : gx_M w l yX9_agrees cX9_agrees 5 (some .boolean) rmX9_agrees [.ref (ad (w_b w) s), .int n, .ref (ad (w_b w) r2)] S (pI (bI (ntF v n m 0 = true)) S) := by
  obtain ⟨o1, r1, rr2, a1, -⟩ := id hs
  obtain ⟨e1, hm, e2, hq⟩ := id hn
  refine gx_start rfl 2 rfl (Nat.le_of_ble_eq_true rfl) ?_
  intro X C _ hl
  subst hl
  refine gx_L (L' := [_, _, _, _, _]) rfl ?_
  refine g_iconst (pc := 0) (v := nI 0) C dX9_agrees_0 (by decide) ?_
  refine g_istore_n (pc := 1) (L' := [_, _, some (.ref _), _, _]) C dX9_agrees_1 rfl rfl ?_
  have loop : ∀ d i z, i + d = m → ntF v n m 0 = ntF v n d i → gx_G w X S 0 0 2 [some (.ref (ad (w_b w) s)), some (.int n), some (.ref (ad (w_b w) r2)), some (.int (nI i)), z] [] (gx_E w X (pI (bI (ntF v n m 0 = true)) S)) := by
    intro d
    induction d with
    | zero =>
      intro i z hi hr
      have hi : i = m := hi
      subst hi
      refine g_iload_n (pc := 2) C dX9_agrees_2 rfl ?_
      refine g_aload_n (pc := 3) C dX9_agrees_3 rfl ?_
      refine fg_X9_34 (pc := 4) C (by exact o1.1) (zk (by exact o1.2)) dX9_agrees_4 ?_
      refine gx_ti (y := nI i) e1 ?_
      refine g_icmp_ge (pc := 7) C 57 dX9_agrees_7 rfl (fun h => ?_) (fun h => ?_)
      · refine g_iconst (pc := 57) (v := nI 1) C dX9_agrees_57 (by decide) ?_
        exact g_zreturn (pc := 58) C ⟨rfl, rfl⟩ (by first | exact Or.inl rfl | exact Or.inr rfl) dX9_agrees_58 ⟨by rw [hr]; rfl, rfl⟩
      · exact absurd (nI_le (Nat.le_refl i) (by omega)) h
    | succ d ih =>
      intro i z hi hr
      obtain ⟨n', j, dd, b1, b2, b3, b4, b5, b6, b7⟩ := hq i (by omega)
      rw [← hv _ (by omega)] at b4 b5 b6
      simp only [ntF] at hr
      rw [b4, b5, b6, nI_clamp (by omega)] at hr
      refine g_iload_n (pc := 2) C dX9_agrees_2 rfl ?_
      refine g_aload_n (pc := 3) C dX9_agrees_3 rfl ?_
      refine fg_X9_34 (pc := 4) C (by exact o1.1) (zk (by exact o1.2)) dX9_agrees_4 ?_
      refine gx_ti (y := nI m) e1 ?_
      refine g_icmp_ge (pc := 7) C 57 dX9_agrees_7 rfl (fun h1 => ?_) (fun h1 => ?_)
      · exact absurd h1 (nI_ge (by omega) (by omega))
      · have next : ∀ z, ¬ (nI n' = n ∧ ¬ v (21 + j) = nI dd) → gx_G w X S 0 0 51 [some (.ref (ad (w_b w) s)), some (.int n), some (.ref (ad (w_b w) r2)), some (.int (nI i)), z] [] (gx_E w X (pI (bI (ntF v n m 0 = true)) S)) := by
          intro z hno
          rw [if_neg hno] at hr
          refine g_iinc (pc := 51) (L' := [_, _, some (.ref _), _, _]) C dX9_agrees_51 rfl (nI_1 _) rfl ?_
          refine g_goto (pc := 54) C 2 dX9_agrees_54 rfl ?_
          exact ih (i + 1) _ (by omega) hr
        refine g_aload_n (pc := 10) C dX9_agrees_10 rfl ?_
        refine fgr_X9_22 (pc := 11) C (by exact o1.1) (zk (by exact o1.2)) (by exact rr2) dX9_agrees_11 ?_
        refine g_iload_n (pc := 14) C dX9_agrees_14 rfl ?_
        refine n_iald (pc := 15) (n := 10) C (by exact a1.1) (by exact a1.2.1) (zk (by exact a1.2.2)) isn_v rfl (by omega) dX9_agrees_15 ?_
        refine gx_ti (y := nI ((j * 2 + dd) * 64 + n')) b7 ?_
        refine g_bipush (pc := 16) (v := nI 64) C dX9_agrees_16 (by decide) ?_
        refine g_idiv (pc := 18) C dX9_agrees_18 (by decide) ?_
        refine gx_ti (y := nI (j * 2 + dd)) ((pk_div (by omega) (by omega) (by omega)).trans (by congr 1; omega)) ?_
        refine g_istore (pc := 19) (L' := [_, _, _, some (.int _), _]) C dX9_agrees_19 rfl rfl ?_
        refine g_aload_n (pc := 21) C dX9_agrees_21 rfl ?_
        refine fgr_X9_22 (pc := 22) C (by exact o1.1) (zk (by exact o1.2)) (by exact rr2) dX9_agrees_22 ?_
        refine g_iload_n (pc := 25) C dX9_agrees_25 rfl ?_
        refine n_iald (pc := 26) (n := 10) C (by exact a1.1) (by exact a1.2.1) (zk (by exact a1.2.2)) isn_v rfl (by omega) dX9_agrees_26 ?_
        refine gx_ti (y := nI ((j * 2 + dd) * 64 + n')) b7 ?_
        refine g_bipush (pc := 27) (v := nI 64) C dX9_agrees_27 (by decide) ?_
        refine g_irem (pc := 29) C dX9_agrees_29 (by decide) ?_
        refine gx_ti (y := nI n') ((pk_rem (by omega) (by omega) (by omega)).trans (by rw [Nat.mul_add_mod_of_lt (by omega)])) ?_
        refine g_iload_n (pc := 30) C dX9_agrees_30 rfl ?_
        refine g_icmp_ne (pc := 31) C 51 dX9_agrees_31 rfl (fun h2 => ?_) (fun h2 => ?_)
        · exact next _ (fun q => h2 q.1)
        · have h2 := Decidable.not_not.mp h2
          refine g_aload_n (pc := 34) C dX9_agrees_34 rfl ?_
          refine g_iload (pc := 35) C dX9_agrees_35 rfl ?_
          refine g_iconst (pc := 37) (v := nI 2) C dX9_agrees_37 (by decide) ?_
          refine g_idiv (pc := 38) C dX9_agrees_38 (by decide) ?_
          refine gx_ti (y := nI j) ((pk_div (by omega) (by omega) (by omega)).trans (by congr 1; omega)) ?_
          refine cf_X9_65 (pc := 39) C (by exact h.1.1.1) (zk (by exact h.1.1.2)) (c_X6_sideOf _ _ S r2 ra2 P v h hP j b2) ⟨rfl, rfl⟩ ⟨rfl, rfl⟩ ⟨Nat.zero_le _, Nat.zero_le _⟩ rfl (Nat.le_of_ble_eq_true rfl) dX9_agrees_39 ?_
          refine g_iload (pc := 42) C dX9_agrees_42 rfl ?_
          refine g_iconst (pc := 44) (v := nI 2) C dX9_agrees_44 (by decide) ?_
          refine g_irem (pc := 45) C dX9_agrees_45 (by decide) ?_
          refine gx_ti (y := nI dd) ((pk_rem (by omega) (by omega) (by omega)).trans (by congr 1; omega)) ?_
          refine g_icmp_eq (pc := 46) C 51 dX9_agrees_46 rfl (fun h3 => ?_) (fun h3 => ?_)
          · exact next _ (fun q => q.2 h3)
          · rw [if_pos ⟨h2, h3⟩] at hr
            refine g_iconst (pc := 49) (v := nI 0) C dX9_agrees_49 (by decide) ?_
            exact g_zreturn (pc := 50) C ⟨rfl, rfl⟩ (by first | exact Or.inl rfl | exact Or.inr rfl) dX9_agrees_50 ⟨by rw [hr]; rfl, rfl⟩
  exact loop m 0 _ (by omega) rfl
theorem gR_at {S : St} {f k : Nat} {v : Option Nat} : s_R (s_setR S f k v) f k = v := u2_at
theorem gR_ne {S : St} {f k g j : Nat} {v : Option Nat} (h : g ≠ f ∨ j ≠ k) : s_R (s_setR S f k v) g j = s_R S g j := h.elim (fun q => u2_fo (f := s_R S) q) (fun q => u2_off (f := s_R S) q)
theorem c_X9_begin (w : Wd) (l : Launch) (S : St) (s r ra no c ca cg cl ce P : Nat) (u : Nat → Int32) (hs : scK S s r ra no) (hc : crS S c ca cg cl ce P u) (hd : c ≠ s ∧ ca ≠ s ∧ cg ≠ s ∧ cl ≠ s ∧ ce ≠ s) (hne : s ≠ r ∧ s ≠ ra) : gx_M w l yX9_begin cX9_begin 2 none rmX9_begin [.ref (ad (w_b w) s), .ref (ad (w_b w) c)] S (fun v S' => v = none ∧ eqO (fun k => k = s ∨ k = r ∨ k = ra) S S' ∧ s_R S' 800 s = some c ∧ s_I S' 804 s = nI 0 ∧ (∀ f, f ≠ 804 → s_I S' f s = s_I S f s) ∧ scK S' s r ra no ∧ rvS S' r ra P (begF u)) := by
  obtain ⟨o1, r1, r2, a1, hr⟩ := id hs
  generalize hpost : (fun (v : Option Value) (S' : St) => v = none ∧ eqO (fun k => k = s ∨ k = r ∨ k = ra) S S' ∧ s_R S' 800 s = some c ∧ s_I S' 804 s = nI 0 ∧ (∀ f, f ≠ 804 → s_I S' f s = s_I S f s) ∧ scK S' s r ra no ∧ rvS S' r ra P (begF u)) = post
  refine gx_start rfl 0 rfl (Nat.le_of_ble_eq_true rfl) ?_
  intro X C _ hl
  subst hl
  refine gx_L (L' := [_, _]) rfl ?_
  refine g_aload_n (pc := 0) C dX9_begin_0 rfl ?_
  refine g_aload_n (pc := 1) C dX9_begin_1 rfl ?_
  refine fps_X9_26 (pc := 2) C (by exact o1.1) (zk (by exact o1.2)) dX9_begin_2 ?_
  generalize hS1 : s_setR S 800 s (some c) = S1
  have q1 : eqO (fun k => k = s) S S1 := by rw [← hS1]; exact eqO.sR rfl
  have R1 : ∀ g, g ≠ 800 → s_R S1 g s = s_R S g s := fun g hg => by rw [← hS1]; exact gR_ne (Or.inl hg)
  have I1 : ∀ f k, s_I S1 f k = s_I S f k := fun f k => by rw [← hS1]; rfl
  have s1 : scK S1 s r ra no := ⟨q1.o o1, (R1 801 (by decide)).trans r1, (R1 806 (by decide)).trans r2, q1.a a1, hr.to q1 (fun e => hne.1 e.symm)⟩
  have c1 : crS S1 c ca cg cl ce P u := hc.to q1 hd
  refine g_aload_n (pc := 5) C dX9_begin_5 rfl ?_
  refine fgr_X9_12 (pc := 6) C (by exact s1.1.1) (zk (by exact s1.1.2)) (by exact s1.2.1) dX9_begin_6 ?_
  refine g_aload_n (pc := 9) C dX9_begin_9 rfl ?_
  refine cg_X9_30 (pc := 10) C (by exact s1.2.2.2.2.1.1) (zk (by exact s1.2.2.2.2.1.2)) (c_X6_begin _ _ S1 c ca cg cl ce r ra P u c1 s1.2.2.2.2) ⟨rfl, rfl⟩ ⟨Nat.zero_le _, Nat.zero_le _⟩ rfl (Nat.le_of_ble_eq_true rfl) dX9_begin_10 ?_
  rintro _ S2 ⟨rfl, q2, h2⟩
  have d2 : ¬ dR r ra s := by unfold dR; omega
  have o12 := q2.o s1.1
  refine g_aload_n (pc := 13) C dX9_begin_13 rfl ?_
  refine g_iconst (pc := 14) (v := nI 0) C dX9_begin_14 (by decide) ?_
  refine fp_X9_34 (pc := 15) C (by exact o12.1) (zk (by exact o12.2)) dX9_begin_15 ?_
  rw [← hpost]
  exact g_return (pc := 18) C ⟨rfl, rfl⟩ dX9_begin_18 ⟨rfl, ((q1.mono (fun k hk => Or.inl hk)).trans (q2.mono (fun k hk => Or.inr hk))).trans (eqO.sI (Or.inl rfl)), (q2.R d2).trans (by rw [← hS1]; exact gR_at), gI_at, fun f hf => (gI_ne (Or.inl hf)).trans ((q2.I d2).trans (I1 _ _)), ⟨q2.o s1.1, (q2.R d2).trans s1.2.1, (q2.R d2).trans s1.2.2.1, q2.a s1.2.2.2.1, h2.1⟩, h2.to (D := fun k => k = s) (eqO.sI rfl) ⟨fun e => hne.1 e.symm, fun e => hne.2 e.symm⟩⟩
theorem c_X9_copyFrom (w : Wd) (l : Launch) (S : St) (s r ra no s2 r2 ra2 no2 c P m : Nat) (u : Nat → Int32) (hs : scK S s r ra no) (hs2 : scK S s2 r2 ra2 no2) (hc : s_R S 800 s2 = some c) (h : rvS S r2 ra2 P u) (hn : noS S s2 no2 P m u) (hP : P ≤ 7) (hne : s ≠ r ∧ s ≠ ra ∧ s ≠ no ∧ r ≠ no ∧ ra ≠ no ∧ s2 ≠ s ∧ s2 ≠ r ∧ s2 ≠ ra ∧ s2 ≠ no ∧ r2 ≠ s ∧ ra2 ≠ s ∧ no2 ≠ s ∧ no2 ≠ r ∧ no2 ≠ ra) : gx_M w l yX9_copyFrom cX9_copyFrom 2 none rmX9_copyFrom [.ref (ad (w_b w) s), .ref (ad (w_b w) s2)] S (fun v S' => v = none ∧ eqO (fun k => k = s ∨ k = r ∨ k = ra ∨ k = no) S S' ∧ s_R S' 800 s = some c ∧ s_I S' 802 s = s_I S 802 s2 ∧ s_I S' 803 s = s_I S 803 s2 ∧ s_I S' 805 s = s_I S 805 s ∧ scK S' s r ra no ∧ rvS S' r ra P u ∧ noS S' s no P m u) := by
  obtain ⟨o1, r1, rn1, a1, hr⟩ := id hs
  obtain ⟨o2, rr2, rn2, a2, hr2⟩ := id hs2
  generalize hpost : (fun (v : Option Value) (S' : St) => v = none ∧ eqO (fun k => k = s ∨ k = r ∨ k = ra ∨ k = no) S S' ∧ s_R S' 800 s = some c ∧ s_I S' 802 s = s_I S 802 s2 ∧ s_I S' 803 s = s_I S 803 s2 ∧ s_I S' 805 s = s_I S 805 s ∧ scK S' s r ra no ∧ rvS S' r ra P u ∧ noS S' s no P m u) = post
  refine gx_start rfl 0 rfl (Nat.le_of_ble_eq_true rfl) ?_
  intro X C _ hl
  subst hl
  refine gx_L (L' := [_, _]) rfl ?_
  refine g_aload_n (pc := 0) C dX9_copyFrom_0 rfl ?_
  refine g_aload_n (pc := 1) C dX9_copyFrom_1 rfl ?_
  refine fgr_X9_26 (pc := 2) C (by exact o2.1) (zk (by exact o2.2)) (by exact hc) dX9_copyFrom_2 ?_
  refine fps_X9_26 (pc := 5) C (by exact o1.1) (zk (by exact o1.2)) dX9_copyFrom_5 ?_
  generalize hS1 : s_setR S 800 s (some c) = S1
  have q1 : eqO (fun k => k = s) S S1 := by rw [← hS1]; exact eqO.sR rfl
  have R1 : ∀ g, g ≠ 800 → s_R S1 g s = s_R S g s := fun g hg => by rw [← hS1]; exact gR_ne (Or.inl hg)
  have I1 : ∀ f k, s_I S1 f k = s_I S f k := fun f k => by rw [← hS1]; rfl
  have s1 : scK S1 s r ra no := ⟨q1.o o1, (R1 801 (by decide)).trans r1, (R1 806 (by decide)).trans rn1, q1.a a1, hr.to q1 (fun e => hne.1 e.symm)⟩
  have s21 : scK S1 s2 r2 ra2 no2 := hs2.to q1 (by omega) (by omega)
  have h1 : rvS S1 r2 ra2 P u := h.to q1 ⟨by omega, by omega⟩
  have n1 : noS S1 s2 no2 P m u := hn.to q1 (by omega) (by omega)
  refine g_aload_n (pc := 8) C dX9_copyFrom_8 rfl ?_
  refine fgr_X9_12 (pc := 9) C (by exact s1.1.1) (zk (by exact s1.1.2)) (by exact s1.2.1) dX9_copyFrom_9 ?_
  refine g_aload_n (pc := 12) C dX9_copyFrom_12 rfl ?_
  refine fgr_X9_12 (pc := 13) C (by exact s21.1.1) (zk (by exact s21.1.2)) (by exact s21.2.1) dX9_copyFrom_13 ?_
  refine cg_X9_37 (pc := 16) C (by exact s1.2.2.2.2.1.1) (zk (by exact s1.2.2.2.2.1.2)) (c_X6_copyFrom _ _ S1 r ra r2 ra2 P u hP s1.2.2.2.2 h1) ⟨rfl, rfl⟩ ⟨Nat.zero_le _, Nat.zero_le _⟩ rfl (Nat.le_of_ble_eq_true rfl) dX9_copyFrom_16 ?_
  rintro _ S2 ⟨rfl, q2, h2⟩
  have d2 : ¬ dR r ra s := by unfold dR; omega
  have d22 : ¬ dR r ra s2 := by unfold dR; omega
  have d2n : ¬ dR r ra no2 := by unfold dR; omega
  have n2 : noS S2 s2 no2 P m u := n1.to q2 d22 d2n
  have t2 : scK S2 s r ra no := ⟨q2.o s1.1, (q2.R d2).trans s1.2.1, (q2.R d2).trans s1.2.2.1, q2.a s1.2.2.2.1, h2.1⟩
  have t22 : gx_o S2 s2 8 ∧ s_R S2 806 s2 = some no2 ∧ gx_a S2 no2 13 10 := ⟨q2.o s21.1, (q2.R d22).trans s21.2.2.1, q2.a s21.2.2.2.1⟩
  refine g_aload_n (pc := 19) C dX9_copyFrom_19 rfl ?_
  refine g_aload_n (pc := 20) C dX9_copyFrom_20 rfl ?_
  refine fg_X9_18 (pc := 21) C (by exact t22.1.1) (zk (by exact t22.1.2)) dX9_copyFrom_21 ?_
  refine gx_ti (y := s_I S 802 s2) ((q2.I d22).trans (I1 _ _)) ?_
  refine fp_X9_18 (pc := 24) C (by exact t2.1.1) (zk (by exact t2.1.2)) dX9_copyFrom_24 ?_
  refine g_aload_n (pc := 27) C dX9_copyFrom_27 rfl ?_
  refine g_aload_n (pc := 28) C dX9_copyFrom_28 rfl ?_
  refine fg_X9_41 (pc := 29) C (by exact t22.1.1) (zk (by exact t22.1.2)) dX9_copyFrom_29 ?_
  refine gx_ti (y := s_I S 803 s2) ((gI_ne (Or.inr hne.2.2.2.2.2.1)).trans ((q2.I d22).trans (I1 _ _))) ?_
  refine fp_X9_41 (pc := 32) C (by exact t2.1.1) (zk (by exact t2.1.2)) dX9_copyFrom_32 ?_
  refine g_aload_n (pc := 35) C dX9_copyFrom_35 rfl ?_
  refine g_aload_n (pc := 36) C dX9_copyFrom_36 rfl ?_
  refine fg_X9_34 (pc := 37) C (by exact t22.1.1) (zk (by exact t22.1.2)) dX9_copyFrom_37 ?_
  refine gx_ti (y := nI m) ((gI_ne (Or.inr hne.2.2.2.2.2.1)).trans ((gI_ne (Or.inr hne.2.2.2.2.2.1)).trans n2.1)) ?_
  refine fp_X9_34 (pc := 40) C (by exact t2.1.1) (zk (by exact t2.1.2)) dX9_copyFrom_40 ?_
  generalize hS3 : s_setI (s_setI (s_setI S2 802 s (s_I S 802 s2)) 803 s (s_I S 803 s2)) 804 s (nI m) = S3
  have q3 : eqO (fun k => k = s) S2 S3 := by rw [← hS3]; exact ((eqO.sI (D := fun k => k = s) rfl).trans (eqO.sI rfl)).trans (eqO.sI rfl)
  have R3 : ∀ f k, s_R S3 f k = s_R S2 f k := fun f k => by rw [← hS3]; rfl
  have t3 : scK S3 s r ra no := ⟨q3.o t2.1, (R3 _ _).trans t2.2.1, (R3 _ _).trans t2.2.2.1, q3.a t2.2.2.2.1, h2.1.to q3 (by omega)⟩
  have t32 : gx_o S3 s2 8 ∧ s_R S3 806 s2 = some no2 ∧ gx_a S3 no2 13 10 := ⟨q3.o t22.1, (R3 _ _).trans t22.2.1, q3.a t22.2.2⟩
  have e4 : s_I S3 804 s = nI m := by rw [← hS3]; exact gI_at
  have e3 : s_I S3 803 s = s_I S 803 s2 := by rw [← hS3, gI_ne (Or.inl (by decide))]; exact gI_at
  have e2 : s_I S3 802 s = s_I S 802 s2 := by rw [← hS3, gI_ne (Or.inl (by decide)), gI_ne (Or.inl (by decide))]; exact gI_at
  have e5 : s_I S3 805 s = s_I S 805 s := by rw [← hS3, gI_ne (Or.inl (by decide)), gI_ne (Or.inl (by decide)), gI_ne (Or.inl (by decide)), q2.I d2, I1]
  refine g_aload_n (pc := 43) C dX9_copyFrom_43 rfl ?_
  refine fgr_X9_22 (pc := 44) C (by exact t32.1.1) (zk (by exact t32.1.2)) (by exact t32.2.1) dX9_copyFrom_44 ?_
  refine g_iconst (pc := 47) (v := nI 0) C dX9_copyFrom_47 (by decide) ?_
  refine g_aload_n (pc := 48) C dX9_copyFrom_48 rfl ?_
  refine fgr_X9_22 (pc := 49) C (by exact t3.1.1) (zk (by exact t3.1.2)) (by exact t3.2.2.1) dX9_copyFrom_49 ?_
  refine g_iconst (pc := 52) (v := nI 0) C dX9_copyFrom_52 (by decide) ?_
  refine g_bipush (pc := 53) (v := nI 10) C dX9_copyFrom_53 (by decide) ?_
  refine g_copyi (pc := 55) (sp := 0) (dp := 0) (n := 10) C wl_X9_44 (by exact t32.2.2) (by exact t3.2.2.2.1) ⟨by omega, by omega, by omega⟩ (by omega) (by omega) ⟨rfl, rfl⟩ rfl (Nat.le_of_ble_eq_true rfl) dX9_copyFrom_55 ?_
  rw [← hpost]
  exact g_return (pc := 58) C ⟨rfl, rfl⟩ dX9_copyFrom_58 ⟨rfl, (((q1.mono (fun k hk => Or.inl hk)).trans (q2.mono (fun k hk => by unfold dR at hk; omega))).trans (q3.mono (fun k hk => Or.inl hk))).trans (eqO.sA (by omega)), (R3 _ _).trans ((q2.R d2).trans (by rw [← hS1]; exact gR_at)), e2, e3, e5, t3, (h2.to q3 ⟨by omega, by omega⟩).to (D := fun k => k = no) (eqO.sA rfl) ⟨by omega, by omega⟩, e4, n2.2.1, n2.2.2.1, fun q hq => by
    obtain ⟨n, j, d, b1, b2, b3, b4, b5, b6, b7⟩ := n2.2.2.2 q hq
    refine ⟨n, j, d, b1, b2, b3, b4, b5, b6, (congrFun gA_at q).trans ?_⟩
    have := n2.2.1
    rw [pk_cpy_in (by omega) (by omega), Nat.sub_zero, Nat.zero_add, q3.A (by omega)]
    exact b7⟩
