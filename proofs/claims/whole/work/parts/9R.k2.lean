/-! ===== THE CLASS: Reader, as CrossingReader ===== -/
def rk3 (S : St) (n : Nat) (f : Int32) : St := s_setI (s_setI S 101 3 (nI n)) 102 3 f
def rd3K (S : St) (L : Nat) : Prop := s_R S 100 3 = some 1 ∧ tpK S L ∧ ∀ j, j < L → isB (s_A S 2 j)
theorem rk3_at (S : St) (n m : Nat) (f : Int32) : s_setI (rk3 S n f) 101 3 (nI m) = rk3 S m f := by
  unfold rk3
  rw [s_IIc _ _ _ _ _ _ _ (by decide), s_II]
theorem rk3_ft (S : St) (n : Nat) (f g : Int32) : s_setI (rk3 S n f) 102 3 g = rk3 S n g := by
  unfold rk3
  rw [s_II]
theorem rk3_rk (S : St) (n m : Nat) (f g : Int32) : rk3 (rk3 S n f) m g = rk3 S m g := by
  show s_setI (s_setI (rk3 S n f) 101 3 (nI m)) 102 3 g = _
  rw [rk3_at, rk3_ft]
theorem rk3_gA {S : St} {n : Nat} {f : Int32} : s_I (rk3 S n f) 101 3 = nI n := (gI_ne (Or.inl (by decide))).trans gI_at
theorem rk3_gF {S : St} {n : Nat} {f : Int32} : s_I (rk3 S n f) 102 3 = f := gI_at
theorem rk3_id {S : St} {n : Nat} {f : Int32} (h1 : s_I S 101 3 = nI n) (h2 : s_I S 102 3 = f) : rk3 S n f = S := by
  unfold rk3
  rw [← h1, s_I_id, ← h2, s_I_id]
theorem rd3K.to {S : St} {L n : Nat} {f : Int32} (h : rd3K S L) : rd3K (rk3 S n f) L := ⟨h.1, ⟨h.2.1.1, h.2.1.2.1, (gI_ne (Or.inr (by decide))).trans ((gI_ne (Or.inr (by decide))).trans h.2.1.2.2.1), h.2.1.2.2.2⟩, h.2.2⟩
def alw (b f p k : Int32) : Int32 := if b = 0 ∧ f = 0 then nI 1 + nI 8 * p + k else f
theorem c_X5_allow_X1 (w : Wd) (l : Launch) (S : St) (L : Nat) (h : rd3K S L) (n : Nat) (f b p k : Int32) (hb : b = 0 ∨ b = 1) : gx_M w l yX5_allow cX5_allow 4 (some .boolean) rmX5_allow [.ref (ad (w_b w) 3), .int b, .int p, .int k] (rk3 S n f) (pI b (rk3 S n (alw b f p k))) := by
  have o3 : gx_o (rk3 S n f) 3 1 := o_st (h.to (n := n) (f := f)).2.1.1 rfl rfl
  refine gx_start rfl 0 rfl (Nat.le_of_ble_eq_true rfl) ?_
  intro X C _ hl
  subst hl
  refine gx_L (L' := [_, _, _, _]) rfl ?_
  refine g_iload_n (pc := 0) C dX5_allow_0 rfl ?_
  refine g_if_ne (pc := 1) C 23 dX5_allow_1 rfl (fun c1 => ?_) (fun c1 => ?_)
  · refine g_iload_n (pc := 23) C dX5_allow_23 rfl ?_
    exact g_zreturn (pc := 24) C ⟨rfl, rfl⟩ hb dX5_allow_24 ⟨rfl, by unfold alw; rw [if_neg (fun q => c1 q.1)]⟩
  · have c1 := Decidable.not_not.mp c1
    refine g_aload_n (pc := 4) C dX5_allow_4 rfl ?_
    refine fg_X5_15_X1 (pc := 5) C (by exact o3.1) (zk (by exact o3.2)) dX5_allow_5 ?_
    refine gx_ti (y := f) rk3_gF ?_
    refine g_if_ne (pc := 8) C 23 dX5_allow_8 rfl (fun c2 => ?_) (fun c2 => ?_)
    · refine g_iload_n (pc := 23) C dX5_allow_23 rfl ?_
      exact g_zreturn (pc := 24) C ⟨rfl, rfl⟩ hb dX5_allow_24 ⟨rfl, by unfold alw; rw [if_neg (fun q => c2 q.2)]⟩
    · have c2 := Decidable.not_not.mp c2
      refine g_aload_n (pc := 11) C dX5_allow_11 rfl ?_
      refine g_iconst (pc := 12) (v := nI 1) C dX5_allow_12 (by decide) ?_
      refine g_bipush (pc := 13) (v := nI 8) C dX5_allow_13 (by decide) ?_
      refine g_iload_n (pc := 15) C dX5_allow_15 rfl ?_
      refine g_imul (pc := 16) C dX5_allow_16 ?_
      refine g_iadd (pc := 17) C dX5_allow_17 ?_
      refine g_iload_n (pc := 18) C dX5_allow_18 rfl ?_
      refine g_iadd (pc := 19) C dX5_allow_19 ?_
      refine fp_X5_15_X1 (pc := 20) C (by exact o3.1) (zk (by exact o3.2)) dX5_allow_20 ?_
      refine gx_S (S' := rk3 S n (nI 1 + nI 8 * p + k)) (rk3_ft _ _ _ _) ?_
      refine g_iload_n (pc := 23) C dX5_allow_23 rfl ?_
      exact g_zreturn (pc := 24) C ⟨rfl, rfl⟩ hb dX5_allow_24 ⟨rfl, by unfold alw; rw [if_pos ⟨c1, c2⟩]⟩
theorem c_X5_isDigit_X1 (w : Wd) (l : Launch) (S : St) (v : Int32) : gx_M w l yX5_isDigit cX5_isDigit 2 (some .boolean) rmX5_isDigit [.ref (ad (w_b w) 3), .int v] S (pI (bI (nI 48 ≤ v ∧ v ≤ nI 57)) S) := by
  refine gx_start rfl 0 rfl (Nat.le_of_ble_eq_true rfl) ?_
  intro X C _ hl
  subst hl
  refine gx_L (L' := [_, _]) rfl ?_
  refine g_iload_n (pc := 0) C dX5_isDigit_0 rfl ?_
  refine g_bipush (pc := 1) (v := nI 48) C dX5_isDigit_1 (by decide) ?_
  refine g_icmp_lt (pc := 3) C 16 dX5_isDigit_3 rfl (fun c1 => ?_) (fun c1 => ?_)
  · refine g_iconst (pc := 16) (v := nI 0) C dX5_isDigit_16 (by decide) ?_
    exact g_zreturn (pc := 17) C ⟨rfl, rfl⟩ (Or.inl rfl) dX5_isDigit_17 (pI_f (fun q => absurd q.1 (Int32.not_le.mpr c1)))
  · refine g_iload_n (pc := 6) C dX5_isDigit_6 rfl ?_
    refine g_bipush (pc := 7) (v := nI 57) C dX5_isDigit_7 (by decide) ?_
    refine g_icmp_gt (pc := 9) C 16 dX5_isDigit_9 rfl (fun c2 => ?_) (fun c2 => ?_)
    · refine g_iconst (pc := 16) (v := nI 0) C dX5_isDigit_16 (by decide) ?_
      exact g_zreturn (pc := 17) C ⟨rfl, rfl⟩ (Or.inl rfl) dX5_isDigit_17 (pI_f (fun q => absurd q.2 (Int32.not_le.mpr c2)))
    · refine g_iconst (pc := 12) (v := nI 1) C dX5_isDigit_12 (by decide) ?_
      refine g_goto (pc := 13) C 17 dX5_isDigit_13 rfl ?_
      exact g_zreturn (pc := 17) C ⟨rfl, rfl⟩ (Or.inr rfl) dX5_isDigit_17 (pI_t ⟨Int32.not_lt.mp c1, Int32.not_lt.mp c2⟩)
theorem c_X5_skipBlanks_X1 (w : Wd) (l : Launch) (S : St) (L : Nat) (h : rd3K S L) (n : Nat) (hn : n ≤ L) (f : Int32) : gx_M w l yX5_skipBlanks cX5_skipBlanks 2 (some .int) rmX5_skipBlanks [.ref (ad (w_b w) 3)] (rk3 S n f) (pI (nI (skN (s_A S 2) L n)) (rk3 S (skN (s_A S 2) L n) f)) := by
  have hL := h.2.1.2.2.2
  have hB := h.2.2
  have o3 : ∀ m, gx_o (rk3 S m f) 3 1 := fun m => o_st (h.to (n := m) (f := f)).2.1.1 rfl rfl
  have o1 : ∀ m, gx_o (rk3 S m f) 1 9 := fun m => o_st (h.to (n := m) (f := f)).2.1.1 rfl rfl
  have rt : ∀ m, s_R (rk3 S m f) 100 3 = some 1 := fun m => h.1
  generalize hpost : pI (nI (skN (s_A S 2) L n)) (rk3 S (skN (s_A S 2) L n) f) = post
  refine gx_start rfl 1 rfl (Nat.le_of_ble_eq_true rfl) ?_
  intro X C _ hl
  subst hl
  refine gx_L (L' := [_, _]) rfl ?_
  refine g_iconst (pc := 0) (v := nI 0) C dX5_skipBlanks_0 (by decide) ?_
  refine g_istore_n (pc := 1) (L' := [some (.ref _), _]) C dX5_skipBlanks_1 rfl rfl ?_
  have fin : ∀ m z, skN (s_A S 2) L n = m → gx_G w X (rk3 S m f) 0 0 41 [some (.ref (ad (w_b w) 3)), z] [] (gx_E w X post) := by
    intro m z e
    refine g_aload_n (pc := 41) C dX5_skipBlanks_41 rfl ?_
    refine fg_X5_19_X1 (pc := 42) C (by exact (o3 _).1) (zk (by exact (o3 _).2)) dX5_skipBlanks_42 ?_
    refine gx_ti (y := nI m) rk3_gA ?_
    rw [← hpost, e]
    exact g_ireturn (pc := 45) C ⟨rfl, rfl⟩ dX5_skipBlanks_45 ⟨rfl, rfl⟩
  have loop : ∀ d k m, k + d = 400 → m ≤ L → L - m ≤ d → skN (s_A S 2) L n = skN (s_A S 2) L m → gx_G w X (rk3 S m f) 0 0 2 [some (.ref (ad (w_b w) 3)), some (.int (nI k))] [] (gx_E w X post) := by
    intro d
    induction d with
    | zero =>
      intro k m hk hm hd e
      refine g_iload_n (pc := 2) C dX5_skipBlanks_2 rfl ?_
      refine g_sipush (pc := 3) (v := nI 400) C dX5_skipBlanks_3 (by decide) ?_
      refine g_icmp_ge (pc := 6) C 41 dX5_skipBlanks_6 rfl (fun c1 => ?_) (fun c1 => ?_)
      · exact fin m _ (e.trans (sk_stop (fun q => by have := q.1; omega)))
      · exact absurd (nI_le (show 400 ≤ k by omega) (by omega)) c1
    | succ d ih =>
      intro k m hk hm hd e
      refine g_iload_n (pc := 2) C dX5_skipBlanks_2 rfl ?_
      refine g_sipush (pc := 3) (v := nI 400) C dX5_skipBlanks_3 (by decide) ?_
      refine g_icmp_ge (pc := 6) C 41 dX5_skipBlanks_6 rfl (fun c1 => ?_) (fun c1 => ?_)
      · exact absurd c1 (nI_ge (show k < 400 by omega) (by omega))
      · refine g_aload_n (pc := 9) C dX5_skipBlanks_9 rfl ?_
        refine fgr_X5_9_X1 (pc := 10) C (by exact (o3 _).1) (zk (by exact (o3 _).2)) (by exact (rt _)) dX5_skipBlanks_10 ?_
        refine g_aload_n (pc := 13) C dX5_skipBlanks_13 rfl ?_
        refine fg_X5_19_X1 (pc := 14) C (by exact (o3 _).1) (zk (by exact (o3 _).2)) dX5_skipBlanks_14 ?_
        refine gx_ti (y := nI m) rk3_gA ?_
        refine cf_X5_22 (pc := 17) C (by exact (o1 _).1) (zk (by exact (o1 _).2)) (c_X10_at _ _ (rk3 S m f) L m h.to.2.1 (by omega)) ⟨rfl, rfl⟩ ⟨rfl, rfl⟩ ⟨Nat.zero_le _, Nat.zero_le _⟩ rfl (Nat.le_of_ble_eq_true rfl) dX5_skipBlanks_17 ?_
        refine g_bipush (pc := 20) (v := nI 32) C dX5_skipBlanks_20 (by decide) ?_
        refine gx_to2 (y := seeV (s_A S 2) L m) rfl ?_
        refine g_icmp_ne (pc := 22) C 41 dX5_skipBlanks_22 rfl (fun c2 => ?_) (fun c2 => ?_)
        · exact fin m _ (e.trans (sk_stop (fun q => c2 ((see_at hB (by omega)).mpr q))))
        · have c2 := (see_at hB (by omega)).mp (Decidable.not_not.mp c2)
          refine g_aload_n (pc := 25) C dX5_skipBlanks_25 rfl ?_
          refine g_dup (pc := 26) C dX5_skipBlanks_26 rfl ?_
          refine fg_X5_19_X1 (pc := 27) C (by exact (o3 _).1) (zk (by exact (o3 _).2)) dX5_skipBlanks_27 ?_
          refine gx_ti (y := nI m) rk3_gA ?_
          refine g_iconst (pc := 30) (v := nI 1) C dX5_skipBlanks_30 (by decide) ?_
          refine g_iadd (pc := 31) C dX5_skipBlanks_31 ?_
          refine gx_ti (y := nI (m + 1)) (nI_add _ _) ?_
          refine fp_X5_19_X1 (pc := 32) C (by exact (o3 _).1) (zk (by exact (o3 _).2)) dX5_skipBlanks_32 ?_
          refine gx_S (S' := rk3 S (m + 1) f) (rk3_at _ _ _ _) ?_
          refine g_iinc (pc := 35) (L' := [some (.ref _), _]) C dX5_skipBlanks_35 rfl (nI_1 _) rfl ?_
          refine g_goto (pc := 38) C 2 dX5_skipBlanks_38 rfl ?_
          exact ih (k + 1) (m + 1) (by omega) (by omega) (by omega) (e.trans (sk_step c2))
  exact loop 400 0 n (by omega) hn (by omega) rfl
theorem c_X5_takeSign_X1 (w : Wd) (l : Launch) (S : St) (L : Nat) (h : rd3K S L) (n : Nat) (hn : n ≤ L) (f : Int32) (c : Nat) (hc : c < 128) : gx_M w l yX5_takeSign cX5_takeSign 3 (some .boolean) rmX5_takeSign [.ref (ad (w_b w) 3), .int (nI c)] (rk3 S n f) (pI (bI (seeV (s_A S 2) L (skN (s_A S 2) L n) = nI c)) (rk3 S (if seeV (s_A S 2) L (skN (s_A S 2) L n) = nI c then skN (s_A S 2) L n + 1 else skN (s_A S 2) L n) f)) := by
  have hL := h.2.1.2.2.2
  have hB := h.2.2
  have hs := sk_bd (T := s_A S 2) hn
  have o3 : ∀ m, gx_o (rk3 S m f) 3 1 := fun m => o_st (h.to (n := m) (f := f)).2.1.1 rfl rfl
  have o1 : ∀ m, gx_o (rk3 S m f) 1 9 := fun m => o_st (h.to (n := m) (f := f)).2.1.1 rfl rfl
  have rt : ∀ m, s_R (rk3 S m f) 100 3 = some 1 := fun m => h.1
  refine gx_start rfl 1 rfl (Nat.le_of_ble_eq_true rfl) ?_
  intro X C _ hl
  subst hl
  refine gx_L (L' := [_, _, _]) rfl ?_
  refine g_aload_n (pc := 0) C dX5_takeSign_0 rfl ?_
  refine cf_X5_27_X1 (pc := 1) C (by exact (o3 _).1) (zk (by exact (o3 _).2)) (c_X5_skipBlanks_X1 _ _ S L h n hn f) ⟨rfl, rfl⟩ ⟨rfl, rfl⟩ ⟨Nat.zero_le _, Nat.zero_le _⟩ rfl (Nat.le_of_ble_eq_true rfl) dX5_takeSign_1 ?_
  refine g_pop (pc := 4) C dX5_takeSign_4 rfl ?_
  generalize skN (s_A S 2) L n = m at hs ⊢
  refine g_aload_n (pc := 5) C dX5_takeSign_5 rfl ?_
  refine fgr_X5_9_X1 (pc := 6) C (by exact (o3 _).1) (zk (by exact (o3 _).2)) (by exact (rt _)) dX5_takeSign_6 ?_
  refine g_aload_n (pc := 9) C dX5_takeSign_9 rfl ?_
  refine fg_X5_19_X1 (pc := 10) C (by exact (o3 _).1) (zk (by exact (o3 _).2)) dX5_takeSign_10 ?_
  refine gx_ti (y := nI m) rk3_gA ?_
  refine cf_X5_22 (pc := 13) C (by exact (o1 _).1) (zk (by exact (o1 _).2)) (c_X10_at _ _ (rk3 S m f) L m h.to.2.1 (by omega)) ⟨rfl, rfl⟩ ⟨rfl, rfl⟩ ⟨Nat.zero_le _, Nat.zero_le _⟩ rfl (Nat.le_of_ble_eq_true rfl) dX5_takeSign_13 ?_
  refine g_iload_n (pc := 16) C dX5_takeSign_16 rfl ?_
  refine gx_to2 (y := seeV (s_A S 2) L m) rfl ?_
  refine g_icmp_ne (pc := 17) C 24 dX5_takeSign_17 rfl (fun c1 => ?_) (fun c1 => ?_)
  · rw [bI_f c1, if_neg c1]
    refine g_iconst (pc := 24) (v := nI 0) C dX5_takeSign_24 (by decide) ?_
    refine g_istore_n (pc := 25) (L' := [_, some (.int _), _]) C dX5_takeSign_25 rfl rfl ?_
    refine g_iload_n (pc := 26) C dX5_takeSign_26 rfl ?_
    refine g_if_eq (pc := 27) C 40 dX5_takeSign_27 rfl (fun c2 => ?_) (fun c2 => ?_)
    · refine g_iload_n (pc := 40) C dX5_takeSign_40 rfl ?_
      exact g_zreturn (pc := 41) C ⟨rfl, rfl⟩ (by first | exact Or.inl rfl | exact Or.inr rfl) dX5_takeSign_41 ⟨rfl, rfl⟩
    · exact absurd rfl c2
  · have c1 := Decidable.not_not.mp c1
    rw [bI_t c1, if_pos c1]
    refine g_iconst (pc := 20) (v := nI 1) C dX5_takeSign_20 (by decide) ?_
    refine g_goto (pc := 21) C 25 dX5_takeSign_21 rfl ?_
    refine g_istore_n (pc := 25) (L' := [_, some (.int _), _]) C dX5_takeSign_25 rfl rfl ?_
    refine g_iload_n (pc := 26) C dX5_takeSign_26 rfl ?_
    refine g_if_eq (pc := 27) C 40 dX5_takeSign_27 rfl (fun c2 => ?_) (fun c2 => ?_)
    · exact absurd c2 (by decide)
    · refine g_aload_n (pc := 30) C dX5_takeSign_30 rfl ?_
      refine g_dup (pc := 31) C dX5_takeSign_31 rfl ?_
      refine fg_X5_19_X1 (pc := 32) C (by exact (o3 _).1) (zk (by exact (o3 _).2)) dX5_takeSign_32 ?_
      refine gx_ti (y := nI m) rk3_gA ?_
      refine g_iconst (pc := 35) (v := nI 1) C dX5_takeSign_35 (by decide) ?_
      refine g_iadd (pc := 36) C dX5_takeSign_36 ?_
      refine gx_ti (y := nI (m + 1)) (nI_add _ _) ?_
      refine fp_X5_19_X1 (pc := 37) C (by exact (o3 _).1) (zk (by exact (o3 _).2)) dX5_takeSign_37 ?_
      refine gx_S (S' := rk3 S (m + 1) f) (rk3_at _ _ _ _) ?_
      refine g_iload_n (pc := 40) C dX5_takeSign_40 rfl ?_
      exact g_zreturn (pc := 41) C ⟨rfl, rfl⟩ (by first | exact Or.inl rfl | exact Or.inr rfl) dX5_takeSign_41 ⟨rfl, rfl⟩
theorem c_X5_takeWordHere_X1 (w : Wd) (j : SJ) (l : Launch) (S : St) (L : Nat) (h : rd3K S L) (n : Nat) (hn : n ≤ L) (f : Int32) (i : Nat) (hi : i < 20) : gx_MJ w j l yX5_takeWordHere cX5_takeWordHere 4 (some .boolean) rmX5_takeWordHere [.ref (ad (w_b w) 3), .ref (j.1 i)] (rk3 S n f) (pI (bI (wdP (s_A S 2) L n (jsV i))) (rk3 S (if wdP (s_A S 2) L n (jsV i) then ltN (s_A S 2) L n else n) f)) := by
  have hL := h.2.1.2.2.2
  have hB := h.2.2
  obtain ⟨hl1, hl2, hl3⟩ := js_all i hi
  have o3 : ∀ m, gx_o (rk3 S m f) 3 1 := fun m => o_st (h.to (n := m) (f := f)).2.1.1 rfl rfl
  have o1 : ∀ m, gx_o (rk3 S m f) 1 9 := fun m => o_st (h.to (n := m) (f := f)).2.1.1 rfl rfl
  have rt : ∀ m, s_R (rk3 S m f) 100 3 = some 1 := fun m => h.1
  have hwd := wd_js (n := n) hB hi
  have hwe := fun q => wd_end (n := n) hB hi q
  generalize hpost : pI (bI (wdP (s_A S 2) L n (jsV i))) (rk3 S (if wdP (s_A S 2) L n (jsV i) then ltN (s_A S 2) L n else n) f) = post
  have no : ¬ wdP (s_A S 2) L n (jsV i) → post (some (.int (nI 0))) (rk3 S n f) := fun q => by
    rw [← hpost, bI_f q, if_neg q]; exact ⟨rfl, rfl⟩
  refine gx_startJ rfl 2 rfl (Nat.le_of_ble_eq_true rfl) ?_
  intro X C J hl
  subst hl
  refine gx_L (L' := [_, _, _, _]) rfl ?_
  refine g_aload_n (pc := 0) C dX5_takeWordHere_0 rfl ?_
  refine cfj_X5_35 (pc := 1) C J hi (c_strLen _ _ _ (rk3 S n f) i hi) ⟨rfl, rfl⟩ ⟨rfl, rfl⟩ ⟨Nat.zero_le _, Nat.zero_le _⟩ rfl (Nat.le_of_ble_eq_true rfl) dX5_takeWordHere_1 ?_
  refine g_istore_n (pc := 4) (L' := [_, some (.ref _), _, _]) C dX5_takeWordHere_4 rfl rfl ?_
  refine g_iconst (pc := 5) (v := nI 0) C dX5_takeWordHere_5 (by decide) ?_
  refine g_istore_n (pc := 6) (L' := [_, _, some (.int _), _]) C dX5_takeWordHere_6 rfl rfl ?_
  have fin : (∀ k, k < jsL.getD i 0 → seeV (s_A S 2) L (n + k) = (jsB.getD i []).getD k 0) → gx_G w X (rk3 S n f) 0 0 41 [some (.ref (ad (w_b w) 3)), some (.ref (j.1 i)), some (.int (nI (jsL.getD i 0))), some (.int (nI (jsL.getD i 0)))] [] (gx_E w X post) := by
    intro hall
    refine g_aload_n (pc := 41) C dX5_takeWordHere_41 rfl ?_
    refine fgr_X5_9_X1 (pc := 42) C (by exact (o3 _).1) (zk (by exact (o3 _).2)) (by exact (rt _)) dX5_takeWordHere_42 ?_
    refine g_aload_n (pc := 45) C dX5_takeWordHere_45 rfl ?_
    refine fg_X5_19_X1 (pc := 46) C (by exact (o3 _).1) (zk (by exact (o3 _).2)) dX5_takeWordHere_46 ?_
    refine gx_ti (y := nI n) rk3_gA ?_
    refine g_iload_n (pc := 49) C dX5_takeWordHere_49 rfl ?_
    refine g_iadd (pc := 50) C dX5_takeWordHere_50 ?_
    refine gx_ti (y := nI (n + jsL.getD i 0)) (nI_add _ _) ?_
    refine cf_X5_22 (pc := 51) C (by exact (o1 _).1) (zk (by exact (o1 _).2)) (c_X10_at _ _ (rk3 S n f) L (n + jsL.getD i 0) h.to.2.1 (by omega)) ⟨rfl, rfl⟩ ⟨rfl, rfl⟩ ⟨Nat.zero_le _, Nat.zero_le _⟩ rfl (Nat.le_of_ble_eq_true rfl) dX5_takeWordHere_51 ?_
    refine gx_ti (y := seeV (s_A S 2) L (n + jsL.getD i 0)) rfl ?_
    have hch := chP_see (T := s_A S 2) (L := L) (n := n + jsL.getD i 0) (lo := 97) (hi := 122) hB (by omega) (by omega)
    have yes : ¬ chP 97 122 (s_A S 2) L (n + jsL.getD i 0) → gx_G w X (rk3 S n f) 0 0 69 [some (.ref (ad (w_b w) 3)), some (.ref (j.1 i)), some (.int (nI (jsL.getD i 0))), some (.int (seeV (s_A S 2) L (n + jsL.getD i 0)))] [] (gx_E w X post) := by
      intro q
      have hy := hwd.mpr ⟨hall, q⟩
      obtain ⟨e1, e2⟩ := hwe hy
      refine g_aload_n (pc := 69) C dX5_takeWordHere_69 rfl ?_
      refine g_dup (pc := 70) C dX5_takeWordHere_70 rfl ?_
      refine fg_X5_19_X1 (pc := 71) C (by exact (o3 _).1) (zk (by exact (o3 _).2)) dX5_takeWordHere_71 ?_
      refine gx_ti (y := nI n) rk3_gA ?_
      refine g_iload_n (pc := 74) C dX5_takeWordHere_74 rfl ?_
      refine g_iadd (pc := 75) C dX5_takeWordHere_75 ?_
      refine gx_ti (y := nI (n + jsL.getD i 0)) (nI_add _ _) ?_
      refine fp_X5_19_X1 (pc := 76) C (by exact (o3 _).1) (zk (by exact (o3 _).2)) dX5_takeWordHere_76 ?_
      refine gx_S (S' := rk3 S (n + jsL.getD i 0) f) (rk3_at _ _ _ _) ?_
      refine g_iconst (pc := 79) (v := nI 1) C dX5_takeWordHere_79 (by decide) ?_
      rw [← hpost, bI_t hy, if_pos hy, e1]
      exact g_zreturn (pc := 80) C ⟨rfl, rfl⟩ (Or.inr rfl) dX5_takeWordHere_80 ⟨rfl, rfl⟩
    refine g_istore_n (pc := 54) (L' := [_, _, some (.int _), _]) C dX5_takeWordHere_54 rfl rfl ?_
    refine g_iload_n (pc := 55) C dX5_takeWordHere_55 rfl ?_
    refine g_bipush (pc := 56) (v := nI 97) C dX5_takeWordHere_56 (by decide) ?_
    refine g_icmp_lt (pc := 58) C 69 dX5_takeWordHere_58 rfl (fun c1 => ?_) (fun c1 => ?_)
    · exact yes (fun q => absurd (hch.mp q).1 (Int32.not_le.mpr c1))
    · refine g_iload_n (pc := 61) C dX5_takeWordHere_61 rfl ?_
      refine g_bipush (pc := 62) (v := nI 122) C dX5_takeWordHere_62 (by decide) ?_
      refine g_icmp_gt (pc := 64) C 69 dX5_takeWordHere_64 rfl (fun c2 => ?_) (fun c2 => ?_)
      · exact yes (fun q => absurd (hch.mp q).2 (Int32.not_le.mpr c2))
      · refine g_iconst (pc := 67) (v := nI 0) C dX5_takeWordHere_67 (by decide) ?_
        exact g_zreturn (pc := 68) C ⟨rfl, rfl⟩ (Or.inl rfl) dX5_takeWordHere_68 (no (fun q => (hwd.mp q).2 (hch.mpr ⟨Int32.not_lt.mp c1, Int32.not_lt.mp c2⟩)))
  have loop : ∀ d k, k + d = jsL.getD i 0 → (∀ q, q < k → seeV (s_A S 2) L (n + q) = (jsB.getD i []).getD q 0) → gx_G w X (rk3 S n f) 0 0 7 [some (.ref (ad (w_b w) 3)), some (.ref (j.1 i)), some (.int (nI (jsL.getD i 0))), some (.int (nI k))] [] (gx_E w X post) := by
    intro d
    induction d with
    | zero =>
      intro k hk hall
      have hk : k = jsL.getD i 0 := hk
      subst hk
      refine g_iload_n (pc := 7) C dX5_takeWordHere_7 rfl ?_
      refine g_iload_n (pc := 8) C dX5_takeWordHere_8 rfl ?_
      refine g_icmp_ge (pc := 9) C 41 dX5_takeWordHere_9 rfl (fun c1 => ?_) (fun c1 => ?_)
      · exact fin hall
      · exact absurd (Int32.le_refl _) c1
    | succ d ih =>
      intro k hk hall
      refine g_iload_n (pc := 7) C dX5_takeWordHere_7 rfl ?_
      refine g_iload_n (pc := 8) C dX5_takeWordHere_8 rfl ?_
      refine g_icmp_ge (pc := 9) C 41 dX5_takeWordHere_9 rfl (fun c1 => ?_) (fun c1 => ?_)
      · exact absurd c1 (nI_ge (by omega) (by omega))
      · refine g_aload_n (pc := 12) C dX5_takeWordHere_12 rfl ?_
        refine fgr_X5_9_X1 (pc := 13) C (by exact (o3 _).1) (zk (by exact (o3 _).2)) (by exact (rt _)) dX5_takeWordHere_13 ?_
        refine g_aload_n (pc := 16) C dX5_takeWordHere_16 rfl ?_
        refine fg_X5_19_X1 (pc := 17) C (by exact (o3 _).1) (zk (by exact (o3 _).2)) dX5_takeWordHere_17 ?_
        refine gx_ti (y := nI n) rk3_gA ?_
        refine g_iload_n (pc := 20) C dX5_takeWordHere_20 rfl ?_
        refine g_iadd (pc := 21) C dX5_takeWordHere_21 ?_
        refine gx_ti (y := nI (n + k)) (nI_add _ _) ?_
        refine cf_X5_22 (pc := 22) C (by exact (o1 _).1) (zk (by exact (o1 _).2)) (c_X10_at _ _ (rk3 S n f) L (n + k) h.to.2.1 (by omega)) ⟨rfl, rfl⟩ ⟨rfl, rfl⟩ ⟨Nat.zero_le _, Nat.zero_le _⟩ rfl (Nat.le_of_ble_eq_true rfl) dX5_takeWordHere_22 ?_
        refine g_aload_n (pc := 25) C dX5_takeWordHere_25 rfl ?_
        refine g_iload_n (pc := 26) C dX5_takeWordHere_26 rfl ?_
        refine cfj_X5_40 (pc := 27) C J hi (c_strAt _ _ _ (rk3 S n f) i k hi (by omega)) ⟨rfl, rfl⟩ ⟨rfl, rfl⟩ ⟨Nat.zero_le _, Nat.zero_le _⟩ rfl (Nat.le_of_ble_eq_true rfl) dX5_takeWordHere_27 ?_
        refine g_icmp_eq (pc := 30) C 35 dX5_takeWordHere_30 rfl (fun c2 => ?_) (fun c2 => ?_)
        · refine g_iinc (pc := 35) (L' := [_, _, some (.int _), _]) C dX5_takeWordHere_35 rfl (nI_1 _) rfl ?_
          refine g_goto (pc := 38) C 7 dX5_takeWordHere_38 rfl ?_
          exact ih (k + 1) (by omega) (fun q hq => by
            by_cases e : q = k
            · rw [e]; exact c2
            · exact hall q (by omega))
        · refine g_iconst (pc := 33) (v := nI 0) C dX5_takeWordHere_33 (by decide) ?_
          exact g_zreturn (pc := 34) C ⟨rfl, rfl⟩ (Or.inl rfl) dX5_takeWordHere_34 (no (fun q => c2 ((hwd.mp q).1 k (by omega))))
  exact loop (jsL.getD i 0) 0 (by omega) (fun q hq => absurd hq (by omega))
theorem c_X5_takeWord_X1 (w : Wd) (j : SJ) (l : Launch) (S : St) (L : Nat) (h : rd3K S L) (n : Nat) (hn : n ≤ L) (f : Int32) (i : Nat) (hi : i < 20) : gx_MJ w j l yX5_takeWord cX5_takeWord 2 (some .boolean) rmX5_takeWord [.ref (ad (w_b w) 3), .ref (j.1 i)] (rk3 S n f) (pI (bI (wdP (s_A S 2) L (skN (s_A S 2) L n) (jsV i))) (rk3 S (if wdP (s_A S 2) L (skN (s_A S 2) L n) (jsV i) then ltN (s_A S 2) L (skN (s_A S 2) L n) else skN (s_A S 2) L n) f)) := by
  have hs := sk_bd (T := s_A S 2) hn
  have o3 : ∀ m, gx_o (rk3 S m f) 3 1 := fun m => o_st (h.to (n := m) (f := f)).2.1.1 rfl rfl
  refine gx_startJ rfl 0 rfl (Nat.le_of_ble_eq_true rfl) ?_
  intro X C J hl
  subst hl
  refine gx_L (L' := [_, _]) rfl ?_
  refine g_aload_n (pc := 0) C dX5_takeWord_0 rfl ?_
  refine cf_X5_27_X1 (pc := 1) C (by exact (o3 _).1) (zk (by exact (o3 _).2)) (c_X5_skipBlanks_X1 _ _ S L h n hn f) ⟨rfl, rfl⟩ ⟨rfl, rfl⟩ ⟨Nat.zero_le _, Nat.zero_le _⟩ rfl (Nat.le_of_ble_eq_true rfl) dX5_takeWord_1 ?_
  refine g_pop (pc := 4) C dX5_takeWord_4 rfl ?_
  refine g_aload_n (pc := 5) C dX5_takeWord_5 rfl ?_
  refine g_aload_n (pc := 6) C dX5_takeWord_6 rfl ?_
  refine cfj_X5_31_X1 (pc := 7) C J (by exact (o3 _).1) (zk (by exact (o3 _).2)) (c_X5_takeWordHere_X1 _ _ _ S L h (skN (s_A S 2) L n) (by omega) f i hi) ⟨rfl, rfl⟩ ⟨rfl, rfl⟩ ⟨Nat.zero_le _, Nat.zero_le _⟩ rfl (Nat.le_of_ble_eq_true rfl) dX5_takeWord_7 ?_
  exact g_zreturn (pc := 10) C ⟨rfl, rfl⟩ bI_z dX5_takeWord_10 ⟨rfl, rfl⟩
def nfT (T : Nat → Int32) (L n : Nat) (lo hi f : Int32) : Int32 := if f = 0 then (if chP 48 57 T L n then (if nbOK T L n lo hi then 0 else nI (ftN 1 n)) else nI (ftN 0 n)) else f
theorem c_X5_takeNumberHere_X1 (w : Wd) (l : Launch) (S : St) (L : Nat) (h : rd3K S L) (n : Nat) (hn : n ≤ L) (f : Int32) (lo hi : Int32) : gx_M w l yX5_takeNumberHere cX5_takeNumberHere 6 (some .int) rmX5_takeNumberHere [.ref (ad (w_b w) 3), .int lo, .int hi] (rk3 S n f) (pI (nbV (s_A S 2) n (dgN (s_A S 2) L n - n)) (rk3 S (dgN (s_A S 2) L n) (nfT (s_A S 2) L n lo hi f))) := by
  have hL := h.2.1.2.2.2
  have hB := h.2.2
  have o3 : ∀ m f, gx_o (rk3 S m f) 3 1 := fun m f => o_st (h.to (n := m) (f := f)).2.1.1 rfl rfl
  have o1 : ∀ m f, gx_o (rk3 S m f) 1 9 := fun m f => o_st (h.to (n := m) (f := f)).2.1.1 rfl rfl
  have rt : ∀ m f, s_R (rk3 S m f) 100 3 = some 1 := fun m f => h.1
  generalize hpost : pI (nbV (s_A S 2) n (dgN (s_A S 2) L n - n)) (rk3 S (dgN (s_A S 2) L n) (nfT (s_A S 2) L n lo hi f)) = post
  refine gx_start rfl 3 rfl (Nat.le_of_ble_eq_true rfl) ?_
  intro X C _ hl
  subst hl
  refine gx_L (L' := [_, _, _, _, _, _]) rfl ?_
  refine g_aload_n (pc := 0) C dX5_takeNumberHere_0 rfl ?_
  refine fg_X5_19_X1 (pc := 1) C (by exact (o3 _ _).1) (zk (by exact (o3 _ _).2)) dX5_takeNumberHere_1 ?_
  refine gx_ti (y := nI n) rk3_gA ?_
  refine g_istore_n (pc := 4) (L' := [_, _, some (.int _), _, _, _]) C dX5_takeNumberHere_4 rfl rfl ?_
  refine g_iconst (pc := 5) (v := nI 0) C dX5_takeNumberHere_5 (by decide) ?_
  refine g_istore (pc := 6) (L' := [_, _, _, some (.int _), _, _]) C dX5_takeNumberHere_6 rfl rfl ?_
  refine g_iconst (pc := 8) (v := nI 0) C dX5_takeNumberHere_8 (by decide) ?_
  refine g_istore (pc := 9) (L' := [_, _, _, _, some (.int _), _]) C dX5_takeNumberHere_9 rfl rfl ?_
  have fin : ∀ k, dgN (s_A S 2) L n = n + k → n + k ≤ L → gx_G w X (rk3 S (n + k) f) 0 0 81 [some (.ref (ad (w_b w) 3)), some (.int lo), some (.int hi), some (.int (nI n)), some (.int (nbV (s_A S 2) n k)), some (.int (nI k))] [] (gx_E w X post) := by
    intro k e hk
    have ek : dgN (s_A S 2) L n - n = k := by omega
    have hP : post (some (.int (nbV (s_A S 2) n k))) (rk3 S (n + k) (nfT (s_A S 2) L n lo hi f)) := by
      rw [← hpost, ek, e]; exact ⟨rfl, rfl⟩
    have hch : chP 48 57 (s_A S 2) L n ↔ 0 < k := by
      rw [← ek]; exact dg_pos.trans ⟨fun q => by omega, fun q => by omega⟩
    have hnb : nbOK (s_A S 2) L n lo hi ↔ (k ≤ 5 ∧ lo ≤ nbV (s_A S 2) n k ∧ nbV (s_A S 2) n k ≤ hi) := by
      unfold nbOK; rw [ek]
    have last : ∀ (b : Int32), (b = 0 ∨ b = 1) → (b = 0 ↔ ¬ nbOK (s_A S 2) L n lo hi) → gx_G w X (rk3 S (n + k) f) 0 0 108 [some (.ref (ad (w_b w) 3)), some (.int lo), some (.int hi), some (.int (nI n)), some (.int (nbV (s_A S 2) n k)), some (.int (nI k))] [.int b] (gx_E w X post) := by
      intro b hb hbn
      refine g_istore (pc := 108) (L' := [_, _, _, _, some (.int _), _]) C dX5_takeNumberHere_108 rfl rfl ?_
      refine g_aload_n (pc := 110) C dX5_takeNumberHere_110 rfl ?_
      refine g_aload_n (pc := 111) C dX5_takeNumberHere_111 rfl ?_
      refine fg_X5_19_X1 (pc := 112) C (by exact (o3 _ _).1) (zk (by exact (o3 _ _).2)) dX5_takeNumberHere_112 ?_
      refine gx_ti (y := nI (n + k)) rk3_gA ?_
      refine g_iload_n (pc := 115) C dX5_takeNumberHere_115 rfl ?_
      by_cases h0 : 0 < k
      · have hc := hch.mpr h0
        refine g_icmp_le (pc := 116) C 123 dX5_takeNumberHere_116 rfl (fun c1 => ?_) (fun c1 => ?_)
        · exact absurd c1 (nI_ge (by omega) (by omega))
        · refine g_iconst (pc := 119) (v := nI 1) C dX5_takeNumberHere_119 (by decide) ?_
          refine g_goto (pc := 120) C 124 dX5_takeNumberHere_120 rfl ?_
          refine g_iload_n (pc := 124) C dX5_takeNumberHere_124 rfl ?_
          refine g_iconst (pc := 125) (v := nI 0) C dX5_takeNumberHere_125 (by decide) ?_
          refine cf_X5_52_X1 (pc := 126) C (by exact (o3 _ _).1) (zk (by exact (o3 _ _).2)) (c_X5_allow_X1 _ _ S L h (n + k) f (nI 1) (nI n) (nI 0) (Or.inr rfl)) ⟨rfl, rfl⟩ ⟨rfl, rfl⟩ ⟨Nat.zero_le _, Nat.zero_le _⟩ rfl (Nat.le_of_ble_eq_true rfl) dX5_takeNumberHere_126 ?_
          refine gx_S (S' := rk3 S (n + k) f) (by unfold alw; rw [if_neg (fun q => absurd q.1 (by decide))]) ?_
          refine g_if_eq (pc := 129) C 141 dX5_takeNumberHere_129 rfl (fun c2 => ?_) (fun c2 => ?_)
          · exact absurd c2 (by decide)
          · refine g_aload_n (pc := 132) C dX5_takeNumberHere_132 rfl ?_
            refine g_iload (pc := 133) C dX5_takeNumberHere_133 rfl ?_
            refine g_iload_n (pc := 135) C dX5_takeNumberHere_135 rfl ?_
            refine g_iconst (pc := 136) (v := nI 1) C dX5_takeNumberHere_136 (by decide) ?_
            refine cf_X5_52_X1 (pc := 137) C (by exact (o3 _ _).1) (zk (by exact (o3 _ _).2)) (c_X5_allow_X1 _ _ S L h (n + k) f b (nI n) (nI 1) hb) ⟨rfl, rfl⟩ ⟨rfl, rfl⟩ ⟨Nat.zero_le _, Nat.zero_le _⟩ rfl (Nat.le_of_ble_eq_true rfl) dX5_takeNumberHere_137 ?_
            refine g_pop (pc := 140) C dX5_takeNumberHere_140 rfl ?_
            refine g_iload (pc := 141) C dX5_takeNumberHere_141 rfl ?_
            exact g_ireturn (pc := 143) C ⟨rfl, rfl⟩ dX5_takeNumberHere_143 (by
              have e2 : alw b f (nI n) (nI 1) = nfT (s_A S 2) L n lo hi f := by
                unfold alw nfT
                by_cases hf : f = 0
                · rw [if_pos hf, if_pos hc]
                  by_cases hq : nbOK (s_A S 2) L n lo hi
                  · rw [if_pos hq, if_neg (fun q => hbn.mp q.1 hq), hf]
                  · rw [if_neg hq, if_pos ⟨hbn.mpr hq, hf⟩, ft_I]
                · rw [if_neg hf, if_neg (fun q => hf q.2)]
              rw [e2]; exact hP)
      · have hc : ¬ chP 48 57 (s_A S 2) L n := fun q => h0 (hch.mp q)
        have hk0 : k = 0 := by omega
        refine g_icmp_le (pc := 116) C 123 dX5_takeNumberHere_116 rfl (fun c1 => ?_) (fun c1 => ?_)
        · refine g_iconst (pc := 123) (v := nI 0) C dX5_takeNumberHere_123 (by decide) ?_
          refine g_iload_n (pc := 124) C dX5_takeNumberHere_124 rfl ?_
          refine g_iconst (pc := 125) (v := nI 0) C dX5_takeNumberHere_125 (by decide) ?_
          refine cf_X5_52_X1 (pc := 126) C (by exact (o3 _ _).1) (zk (by exact (o3 _ _).2)) (c_X5_allow_X1 _ _ S L h (n + k) f (nI 0) (nI n) (nI 0) (Or.inl rfl)) ⟨rfl, rfl⟩ ⟨rfl, rfl⟩ ⟨Nat.zero_le _, Nat.zero_le _⟩ rfl (Nat.le_of_ble_eq_true rfl) dX5_takeNumberHere_126 ?_
          refine gx_S (S' := rk3 S (n + k) (nfT (s_A S 2) L n lo hi f)) (by
            unfold alw nfT
            by_cases hf : f = 0
            · rw [if_pos ⟨rfl, hf⟩, if_pos hf, if_neg hc, ft_I]
            · rw [if_neg (fun q => hf q.2), if_neg hf]) ?_
          refine g_if_eq (pc := 129) C 141 dX5_takeNumberHere_129 rfl (fun c2 => ?_) (fun c2 => ?_)
          · refine g_iload (pc := 141) C dX5_takeNumberHere_141 rfl ?_
            exact g_ireturn (pc := 143) C ⟨rfl, rfl⟩ dX5_takeNumberHere_143 hP
          · exact absurd rfl c2
        · exact absurd (nI_le (show n + k ≤ n by omega) (by omega)) c1
    refine g_aload_n (pc := 81) C dX5_takeNumberHere_81 rfl ?_
    refine fg_X5_19_X1 (pc := 82) C (by exact (o3 _ _).1) (zk (by exact (o3 _ _).2)) dX5_takeNumberHere_82 ?_
    refine gx_ti (y := nI (n + k)) rk3_gA ?_
    refine g_iload_n (pc := 85) C dX5_takeNumberHere_85 rfl ?_
    refine g_isub (pc := 86) C dX5_takeNumberHere_86 ?_
    refine gx_ti (y := nI k) ((pk_sub (by omega)).trans (congrArg nI (by omega))) ?_
    refine g_iconst (pc := 87) (v := nI 5) C dX5_takeNumberHere_87 (by decide) ?_
    refine g_icmp_gt (pc := 88) C 107 dX5_takeNumberHere_88 rfl (fun c1 => ?_) (fun c1 => ?_)
    · have c1 := (nI_ltI (by omega) (by omega)).mp c1
      refine g_iconst (pc := 107) (v := nI 0) C dX5_takeNumberHere_107 (by decide) ?_
      exact last _ (Or.inl rfl) ⟨fun _ q => by have := (hnb.mp q).1; omega, fun _ => rfl⟩
    · have c1 : k ≤ 5 := Nat.le_of_not_lt (fun q => c1 (nI_lt q (by omega)))
      refine g_iload (pc := 91) C dX5_takeNumberHere_91 rfl ?_
      refine g_iload_n (pc := 93) C dX5_takeNumberHere_93 rfl ?_
      refine g_icmp_lt (pc := 94) C 107 dX5_takeNumberHere_94 rfl (fun c2 => ?_) (fun c2 => ?_)
      · refine g_iconst (pc := 107) (v := nI 0) C dX5_takeNumberHere_107 (by decide) ?_
        exact last _ (Or.inl rfl) ⟨fun _ q => absurd (hnb.mp q).2.1 (Int32.not_le.mpr c2), fun _ => rfl⟩
      · refine g_iload (pc := 97) C dX5_takeNumberHere_97 rfl ?_
        refine g_iload_n (pc := 99) C dX5_takeNumberHere_99 rfl ?_
        refine g_icmp_gt (pc := 100) C 107 dX5_takeNumberHere_100 rfl (fun c3 => ?_) (fun c3 => ?_)
        · refine g_iconst (pc := 107) (v := nI 0) C dX5_takeNumberHere_107 (by decide) ?_
          exact last _ (Or.inl rfl) ⟨fun _ q => absurd (hnb.mp q).2.2 (Int32.not_le.mpr c3), fun _ => rfl⟩
        · refine g_iconst (pc := 103) (v := nI 1) C dX5_takeNumberHere_103 (by decide) ?_
          refine g_goto (pc := 104) C 108 dX5_takeNumberHere_104 rfl ?_
          exact last _ (Or.inr rfl) ⟨fun q => absurd q (by decide), fun q => absurd (hnb.mpr ⟨c1, Int32.not_lt.mp c2, Int32.not_lt.mp c3⟩) q⟩
  have loop : ∀ d k, k + d = 400 → (∀ i, i < k → chP 48 57 (s_A S 2) L (n + i)) → n + k ≤ L → gx_G w X (rk3 S (n + k) f) 0 0 11 [some (.ref (ad (w_b w) 3)), some (.int lo), some (.int hi), some (.int (nI n)), some (.int (nbV (s_A S 2) n k)), some (.int (nI k))] [] (gx_E w X post) := by
    intro d
    induction d with
    | zero =>
      intro k hk hall hkL
      refine g_iload (pc := 11) C dX5_takeNumberHere_11 rfl ?_
      refine g_sipush (pc := 13) (v := nI 400) C dX5_takeNumberHere_13 (by decide) ?_
      refine g_icmp_ge (pc := 16) C 81 dX5_takeNumberHere_16 rfl (fun c1 => ?_) (fun c1 => ?_)
      · exact fin k (dg_to hall (fun q => by have := q.1; omega)) hkL
      · exact absurd (nI_le (show 400 ≤ k by omega) (by omega)) c1
    | succ d ih =>
      intro k hk hall hkL
      have hch := chP_see (T := s_A S 2) (L := L) (n := n + k) (lo := 48) (hi := 57) hB (by omega) (by omega)
      refine g_iload (pc := 11) C dX5_takeNumberHere_11 rfl ?_
      refine g_sipush (pc := 13) (v := nI 400) C dX5_takeNumberHere_13 (by decide) ?_
      refine g_icmp_ge (pc := 16) C 81 dX5_takeNumberHere_16 rfl (fun c1 => ?_) (fun c1 => ?_)
      · exact absurd c1 (nI_ge (show k < 400 by omega) (by omega))
      · refine g_aload_n (pc := 19) C dX5_takeNumberHere_19 rfl ?_
        refine g_aload_n (pc := 20) C dX5_takeNumberHere_20 rfl ?_
        refine fgr_X5_9_X1 (pc := 21) C (by exact (o3 _ _).1) (zk (by exact (o3 _ _).2)) (by exact (rt _ _)) dX5_takeNumberHere_21 ?_
        refine g_aload_n (pc := 24) C dX5_takeNumberHere_24 rfl ?_
        refine fg_X5_19_X1 (pc := 25) C (by exact (o3 _ _).1) (zk (by exact (o3 _ _).2)) dX5_takeNumberHere_25 ?_
        refine gx_ti (y := nI (n + k)) rk3_gA ?_
        refine cf_X5_22 (pc := 28) C (by exact (o1 _ _).1) (zk (by exact (o1 _ _).2)) (c_X10_at _ _ (rk3 S (n + k) f) L (n + k) h.to.2.1 (by omega)) ⟨rfl, rfl⟩ ⟨rfl, rfl⟩ ⟨Nat.zero_le _, Nat.zero_le _⟩ rfl (Nat.le_of_ble_eq_true rfl) dX5_takeNumberHere_28 ?_
        refine cf_X5_48_X1 (pc := 31) C (by exact (o3 _ _).1) (zk (by exact (o3 _ _).2)) (c_X5_isDigit_X1 _ _ (rk3 S (n + k) f) (seeV (s_A S 2) L (n + k))) ⟨rfl, rfl⟩ ⟨rfl, rfl⟩ ⟨Nat.zero_le _, Nat.zero_le _⟩ rfl (Nat.le_of_ble_eq_true rfl) dX5_takeNumberHere_31 ?_
        refine g_if_eq (pc := 34) C 81 dX5_takeNumberHere_34 rfl (fun c2 => ?_) (fun c2 => ?_)
        · exact fin k (dg_to hall (fun q => bI_0.mp c2 (hch.mp q))) hkL
        · have c2 := hch.mpr (Decidable.not_not.mp (fun q => c2 (bI_0.mpr q)))
          have next : gx_G w X (rk3 S (n + k) f) 0 0 65 [some (.ref (ad (w_b w) 3)), some (.int lo), some (.int hi), some (.int (nI n)), some (.int (nbV (s_A S 2) n (k + 1))), some (.int (nI k))] [] (gx_E w X post) := by
            refine g_aload_n (pc := 65) C dX5_takeNumberHere_65 rfl ?_
            refine g_dup (pc := 66) C dX5_takeNumberHere_66 rfl ?_
            refine fg_X5_19_X1 (pc := 67) C (by exact (o3 _ _).1) (zk (by exact (o3 _ _).2)) dX5_takeNumberHere_67 ?_
            refine gx_ti (y := nI (n + k)) rk3_gA ?_
            refine g_iconst (pc := 70) (v := nI 1) C dX5_takeNumberHere_70 (by decide) ?_
            refine g_iadd (pc := 71) C dX5_takeNumberHere_71 ?_
            refine gx_ti (y := nI (n + k + 1)) (nI_add _ _) ?_
            refine fp_X5_19_X1 (pc := 72) C (by exact (o3 _ _).1) (zk (by exact (o3 _ _).2)) dX5_takeNumberHere_72 ?_
            refine gx_S (S' := rk3 S (n + k + 1) f) (rk3_at _ _ _ _) ?_
            refine g_iinc (pc := 75) (L' := [_, _, _, _, some (.int _), _]) C dX5_takeNumberHere_75 rfl (nI_1 _) rfl ?_
            refine g_goto (pc := 78) C 11 dX5_takeNumberHere_78 rfl ?_
            exact ih (k + 1) (by omega) (fun i hi => by
              by_cases e : i = k
              · rw [e]; exact c2
              · exact hall i (by omega)) (by have := c2.1; omega)
          refine g_iload (pc := 37) C dX5_takeNumberHere_37 rfl ?_
          refine g_iconst (pc := 39) (v := nI 5) C dX5_takeNumberHere_39 (by decide) ?_
          refine g_icmp_ge (pc := 40) C 65 dX5_takeNumberHere_40 rfl (fun c3 => ?_) (fun c3 => ?_)
          · have c3 := (nI_leI (by omega) (by omega)).mp c3
            rw [show nbV (s_A S 2) n (k + 1) = nbV (s_A S 2) n k by simp only [nbV]; rw [if_neg (by omega)]] at next
            exact next
          · have c3 : k < 5 := Nat.lt_of_not_le (fun q => c3 (nI_le q (by omega)))
            refine g_iload (pc := 43) C dX5_takeNumberHere_43 rfl ?_
            refine g_bipush (pc := 45) (v := nI 10) C dX5_takeNumberHere_45 (by decide) ?_
            refine g_imul (pc := 47) C dX5_takeNumberHere_47 ?_
            refine g_aload_n (pc := 48) C dX5_takeNumberHere_48 rfl ?_
            refine fgr_X5_9_X1 (pc := 49) C (by exact (o3 _ _).1) (zk (by exact (o3 _ _).2)) (by exact (rt _ _)) dX5_takeNumberHere_49 ?_
            refine g_aload_n (pc := 52) C dX5_takeNumberHere_52 rfl ?_
            refine fg_X5_19_X1 (pc := 53) C (by exact (o3 _ _).1) (zk (by exact (o3 _ _).2)) dX5_takeNumberHere_53 ?_
            refine gx_ti (y := nI (n + k)) rk3_gA ?_
            refine cf_X5_22 (pc := 56) C (by exact (o1 _ _).1) (zk (by exact (o1 _ _).2)) (c_X10_at _ _ (rk3 S (n + k) f) L (n + k) h.to.2.1 (by omega)) ⟨rfl, rfl⟩ ⟨rfl, rfl⟩ ⟨Nat.zero_le _, Nat.zero_le _⟩ rfl (Nat.le_of_ble_eq_true rfl) dX5_takeNumberHere_56 ?_
            refine g_iadd (pc := 59) C dX5_takeNumberHere_59 ?_
            refine g_bipush (pc := 60) (v := nI 48) C dX5_takeNumberHere_60 (by decide) ?_
            refine g_isub (pc := 62) C dX5_takeNumberHere_62 ?_
            refine gx_ti (y := nbV (s_A S 2) n (k + 1)) (dg_val c2 hB c3) ?_
            refine g_istore (pc := 63) (L' := [_, _, _, some (.int _), _, _]) C dX5_takeNumberHere_63 rfl rfl ?_
            exact next
  exact loop 400 0 (by omega) (fun i hi => absurd hi (by omega)) (by omega)
theorem c_X5_takeNumber_X1 (w : Wd) (l : Launch) (S : St) (L : Nat) (h : rd3K S L) (n : Nat) (hn : n ≤ L) (f : Int32) (lo hi : Int32) : gx_M w l yX5_takeNumber cX5_takeNumber 3 (some .int) rmX5_takeNumber [.ref (ad (w_b w) 3), .int lo, .int hi] (rk3 S n f) (pI (nbV (s_A S 2) (skN (s_A S 2) L n) (dgN (s_A S 2) L (skN (s_A S 2) L n) - skN (s_A S 2) L n)) (rk3 S (dgN (s_A S 2) L (skN (s_A S 2) L n)) (nfT (s_A S 2) L (skN (s_A S 2) L n) lo hi f))) := by
  have hs := sk_bd (T := s_A S 2) hn
  have o3 : ∀ m, gx_o (rk3 S m f) 3 1 := fun m => o_st (h.to (n := m) (f := f)).2.1.1 rfl rfl
  refine gx_start rfl 0 rfl (Nat.le_of_ble_eq_true rfl) ?_
  intro X C _ hl
  subst hl
  refine gx_L (L' := [_, _, _]) rfl ?_
  refine g_aload_n (pc := 0) C dX5_takeNumber_0 rfl ?_
  refine cf_X5_27_X1 (pc := 1) C (by exact (o3 _).1) (zk (by exact (o3 _).2)) (c_X5_skipBlanks_X1 _ _ S L h n hn f) ⟨rfl, rfl⟩ ⟨rfl, rfl⟩ ⟨Nat.zero_le _, Nat.zero_le _⟩ rfl (Nat.le_of_ble_eq_true rfl) dX5_takeNumber_1 ?_
  refine g_pop (pc := 4) C dX5_takeNumber_4 rfl ?_
  refine g_aload_n (pc := 5) C dX5_takeNumber_5 rfl ?_
  refine g_iload_n (pc := 6) C dX5_takeNumber_6 rfl ?_
  refine g_iload_n (pc := 7) C dX5_takeNumber_7 rfl ?_
  refine cf_X5_44_X1 (pc := 8) C (by exact (o3 _).1) (zk (by exact (o3 _).2)) (c_X5_takeNumberHere_X1 _ _ S L h (skN (s_A S 2) L n) (by omega) f lo hi) ⟨rfl, rfl⟩ ⟨rfl, rfl⟩ ⟨Nat.zero_le _, Nat.zero_le _⟩ rfl (Nat.le_of_ble_eq_true rfl) dX5_takeNumber_8 ?_
  exact g_ireturn (pc := 11) C ⟨rfl, rfl⟩ dX5_takeNumber_11 ⟨rfl, rfl⟩
theorem c_X5_goesOn_X1 (w : Wd) (l : Launch) (S : St) (L : Nat) (h : rd3K S L) (n : Nat) (hn : n ≤ L) (f : Int32) : gx_M w l yX5_goesOn cX5_goesOn 1 (some .boolean) rmX5_goesOn [.ref (ad (w_b w) 3)] (rk3 S n f) (pI (bI (f = 0 ∧ seeV (s_A S 2) L (skN (s_A S 2) L n) = nI 59)) (if f = 0 then (if seeV (s_A S 2) L (skN (s_A S 2) L n) = nI 59 then rk3 S (skN (s_A S 2) L n + 1) 0 else rk3 S (skN (s_A S 2) L n) (if seeV (s_A S 2) L (skN (s_A S 2) L n) = -1 then 0 else nI (ftN 0 (skN (s_A S 2) L n)))) else rk3 S n f)) := by
  have hL := h.2.1.2.2.2
  have hs := sk_bd (T := s_A S 2) hn
  have o3 : ∀ m f, gx_o (rk3 S m f) 3 1 := fun m f => o_st (h.to (n := m) (f := f)).2.1.1 rfl rfl
  have o1 : ∀ m f, gx_o (rk3 S m f) 1 9 := fun m f => o_st (h.to (n := m) (f := f)).2.1.1 rfl rfl
  have rt : ∀ m f, s_R (rk3 S m f) 100 3 = some 1 := fun m f => h.1
  refine gx_start rfl 0 rfl (Nat.le_of_ble_eq_true rfl) ?_
  intro X C _ hl
  subst hl
  refine gx_L (L' := [_]) rfl ?_
  refine g_aload_n (pc := 0) C dX5_goesOn_0 rfl ?_
  refine fg_X5_15_X1 (pc := 1) C (by exact (o3 _ _).1) (zk (by exact (o3 _ _).2)) dX5_goesOn_1 ?_
  refine gx_ti (y := f) rk3_gF ?_
  refine g_if_ne (pc := 4) C 16 dX5_goesOn_4 rfl (fun c1 => ?_) (fun c1 => ?_)
  · rw [if_neg c1]
    refine g_aload_n (pc := 16) C dX5_goesOn_16 rfl ?_
    refine fg_X5_15_X1 (pc := 17) C (by exact (o3 _ _).1) (zk (by exact (o3 _ _).2)) dX5_goesOn_17 ?_
    refine gx_ti (y := f) rk3_gF ?_
    refine g_if_ne (pc := 20) C 27 dX5_goesOn_20 rfl (fun c2 => ?_) (fun c2 => ?_)
    · refine g_iconst (pc := 27) (v := nI 0) C dX5_goesOn_27 (by decide) ?_
      exact g_zreturn (pc := 28) C ⟨rfl, rfl⟩ (Or.inl rfl) dX5_goesOn_28 (pI_f (fun q => c1 q.1))
    · exact absurd (Decidable.not_not.mp c2) c1
  · have c1 := Decidable.not_not.mp c1
    subst c1
    refine g_aload_n (pc := 7) C dX5_goesOn_7 rfl ?_
    refine g_bipush (pc := 8) (v := nI 59) C dX5_goesOn_8 (by decide) ?_
    refine cf_X5_56_X1 (pc := 10) C (by exact (o3 _ _).1) (zk (by exact (o3 _ _).2)) (c_X5_takeSign_X1 _ _ S L h n hn _ 59 (by omega)) ⟨rfl, rfl⟩ ⟨rfl, rfl⟩ ⟨Nat.zero_le _, Nat.zero_le _⟩ rfl (Nat.le_of_ble_eq_true rfl) dX5_goesOn_10 ?_
    generalize skN (s_A S 2) L n = m at hs ⊢
    by_cases hc : seeV (s_A S 2) L m = nI 59
    · rw [if_pos hc, if_pos rfl, if_pos hc]
      refine g_if_eq (pc := 13) C 29 dX5_goesOn_13 rfl (fun c2 => ?_) (fun c2 => ?_)
      · exact absurd hc (bI_0.mp c2)
      · refine g_aload_n (pc := 16) C dX5_goesOn_16 rfl ?_
        refine fg_X5_15_X1 (pc := 17) C (by exact (o3 _ _).1) (zk (by exact (o3 _ _).2)) dX5_goesOn_17 ?_
        refine gx_ti (y := 0) rk3_gF ?_
        refine g_if_ne (pc := 20) C 27 dX5_goesOn_20 rfl (fun c3 => ?_) (fun c3 => ?_)
        · exact absurd rfl c3
        · refine g_iconst (pc := 23) (v := nI 1) C dX5_goesOn_23 (by decide) ?_
          refine g_goto (pc := 24) C 28 dX5_goesOn_24 rfl ?_
          exact g_zreturn (pc := 28) C ⟨rfl, rfl⟩ (Or.inr rfl) dX5_goesOn_28 (pI_t ⟨rfl, hc⟩)
    · rw [if_neg hc, if_pos rfl, if_neg hc]
      refine g_if_eq (pc := 13) C 29 dX5_goesOn_13 rfl (fun c2 => ?_) (fun c2 => ?_)
      · refine g_aload_n (pc := 29) C dX5_goesOn_29 rfl ?_
        refine g_aload_n (pc := 30) C dX5_goesOn_30 rfl ?_
        refine fgr_X5_9_X1 (pc := 31) C (by exact (o3 _ _).1) (zk (by exact (o3 _ _).2)) (by exact (rt _ _)) dX5_goesOn_31 ?_
        refine g_aload_n (pc := 34) C dX5_goesOn_34 rfl ?_
        refine fg_X5_19_X1 (pc := 35) C (by exact (o3 _ _).1) (zk (by exact (o3 _ _).2)) dX5_goesOn_35 ?_
        refine gx_ti (y := nI m) rk3_gA ?_
        refine cf_X5_22 (pc := 38) C (by exact (o1 _ _).1) (zk (by exact (o1 _ _).2)) (c_X10_at _ _ (rk3 S m 0) L m h.to.2.1 (by omega)) ⟨rfl, rfl⟩ ⟨rfl, rfl⟩ ⟨Nat.zero_le _, Nat.zero_le _⟩ rfl (Nat.le_of_ble_eq_true rfl) dX5_goesOn_38 ?_
        refine g_iconst (pc := 41) (v := -1) C dX5_goesOn_41 (by decide) ?_
        refine gx_to2 (y := seeV (s_A S 2) L m) rfl ?_
        refine g_icmp_ne (pc := 42) C 49 dX5_goesOn_42 rfl (fun c3 => ?_) (fun c3 => ?_)
        · rw [if_neg c3]
          refine g_iconst (pc := 49) (v := nI 0) C dX5_goesOn_49 (by decide) ?_
          refine g_aload_n (pc := 50) C dX5_goesOn_50 rfl ?_
          refine fg_X5_19_X1 (pc := 51) C (by exact (o3 _ _).1) (zk (by exact (o3 _ _).2)) dX5_goesOn_51 ?_
          refine gx_ti (y := nI m) rk3_gA ?_
          refine g_iconst (pc := 54) (v := nI 0) C dX5_goesOn_54 (by decide) ?_
          refine cf_X5_52_X1 (pc := 55) C (by exact (o3 _ _).1) (zk (by exact (o3 _ _).2)) (c_X5_allow_X1 _ _ S L h m 0 (nI 0) (nI m) (nI 0) (Or.inl rfl)) ⟨rfl, rfl⟩ ⟨rfl, rfl⟩ ⟨Nat.zero_le _, Nat.zero_le _⟩ rfl (Nat.le_of_ble_eq_true rfl) dX5_goesOn_55 ?_
          refine g_pop (pc := 58) C dX5_goesOn_58 rfl ?_
          refine g_iconst (pc := 59) (v := nI 0) C dX5_goesOn_59 (by decide) ?_
          exact g_zreturn (pc := 60) C ⟨rfl, rfl⟩ (Or.inl rfl) dX5_goesOn_60 ⟨(congrArg (fun z => some (Value.int z)) (bI_f (fun q => hc q.2))).symm, by unfold alw; rw [if_pos ⟨rfl, rfl⟩, ft_I]⟩
        · rw [if_pos (Decidable.not_not.mp c3)]
          refine g_iconst (pc := 45) (v := nI 1) C dX5_goesOn_45 (by decide) ?_
          refine g_goto (pc := 46) C 50 dX5_goesOn_46 rfl ?_
          refine g_aload_n (pc := 50) C dX5_goesOn_50 rfl ?_
          refine fg_X5_19_X1 (pc := 51) C (by exact (o3 _ _).1) (zk (by exact (o3 _ _).2)) dX5_goesOn_51 ?_
          refine gx_ti (y := nI m) rk3_gA ?_
          refine g_iconst (pc := 54) (v := nI 0) C dX5_goesOn_54 (by decide) ?_
          refine cf_X5_52_X1 (pc := 55) C (by exact (o3 _ _).1) (zk (by exact (o3 _ _).2)) (c_X5_allow_X1 _ _ S L h m 0 (nI 1) (nI m) (nI 0) (Or.inr rfl)) ⟨rfl, rfl⟩ ⟨rfl, rfl⟩ ⟨Nat.zero_le _, Nat.zero_le _⟩ rfl (Nat.le_of_ble_eq_true rfl) dX5_goesOn_55 ?_
          refine g_pop (pc := 58) C dX5_goesOn_58 rfl ?_
          refine g_iconst (pc := 59) (v := nI 0) C dX5_goesOn_59 (by decide) ?_
          exact g_zreturn (pc := 60) C ⟨rfl, rfl⟩ (Or.inl rfl) dX5_goesOn_60 ⟨(congrArg (fun z => some (Value.int z)) (bI_f (fun q => hc q.2))).symm, by unfold alw; rw [if_neg (fun q => absurd q.1 (by decide))]⟩
      · exact absurd (bI_0.mpr hc) c2
