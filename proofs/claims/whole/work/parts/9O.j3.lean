/-! ===== texts: length, charAt ===== -/
def rS0 : Room := { frames := 0, cells := 0, slots := 0, locals := 0 }
def rS1 : Room := { frames := 1, cells := 0, slots := 0, locals := 22 }
def rS2 : Room := { frames := 2, cells := 0, slots := 0, locals := 43 }
def rS3 : Room := { frames := 3, cells := 0, slots := 0, locals := 64 }
theorem c_checkIx3 (w : Wd) (j : SJ) (l : Launch) (S : St) (i n : Nat) (r : Value) (hr : r = .null ∨ ∃ a, r = .ref a) (h : i < n) (hn : n < 2 ^ 31) : gx_MJ w j l yJ3_checkIndex_8e157 cJ3_checkIndex_8e157 3 (some .int) rS0 [.int (nI i), .int (nI n), r] S (pI (nI i) S) := by
  refine gx_startJ rfl 0 (by rcases hr with rfl | ⟨a, rfl⟩ <;> rfl) (by rcases hr with rfl | ⟨a, rfl⟩ <;> exact (Nat.le_of_ble_eq_true rfl)) ?_
  intro X C J hl
  subst hl
  refine gx_L (L' := [some (.int (nI i)), some (.int (nI n)), some r]) (by rcases hr with rfl | ⟨a, rfl⟩ <;> rfl) ?_
  refine g_iload_n (pc := 0) C dJ3_checkIndex_8e157_0 rfl ?_
  refine g_if_lt (pc := 1) C 9 dJ3_checkIndex_8e157_1 rfl (fun c1 => absurd c1 (nI_pos (by omega))) (fun c1 => ?_)
  refine g_iload_n (pc := 4) C dJ3_checkIndex_8e157_4 rfl ?_
  refine g_iload_n (pc := 5) C dJ3_checkIndex_8e157_5 rfl ?_
  refine g_icmp_lt (pc := 6) C 16 dJ3_checkIndex_8e157_6 rfl (fun c2 => ?_) (fun c2 => absurd (nI_lt h hn) c2)
  refine g_iload_n (pc := 16) C dJ3_checkIndex_8e157_16 rfl ?_
  exact g_ireturn (pc := 17) C ⟨rfl, rfl⟩ dJ3_checkIndex_8e157_17 ⟨rfl, rfl⟩
theorem c_checkIx0 (w : Wd) (j : SJ) (l : Launch) (S : St) (i n : Nat) (h : i < n) (hn : n < 2 ^ 31) : gx_MJ w j l yJ0_checkIndex_df160 cJ0_checkIndex_df160 2 none rS1 [.int (nI i), .int (nI n)] S (pV S) := by
  refine gx_startJ rfl 0 rfl (Nat.le_of_ble_eq_true rfl) ?_
  intro X C J hl
  subst hl
  refine gx_L (L' := [some (.int (nI i)), some (.int (nI n))]) rfl ?_
  refine g_iload_n (pc := 0) C dJ0_checkIndex_df160_0 rfl ?_
  refine g_iload_n (pc := 1) C dJ0_checkIndex_df160_1 rfl ?_
  have go : ∀ r : Value, (r = .null ∨ ∃ a, r = .ref a) → gx_G w X S 0 0 5 [some (.int (nI i)), some (.int (nI n))] [r, .int (nI n), .int (nI i)] (gx_E w X (pV S)) := by
    intro r hr
    refine cfj_J0_1059 (pc := 5) C J (c_checkIx3 _ _ _ S i n r hr h hn) ⟨rfl, rfl⟩ ⟨rfl, rfl⟩ ⟨Nat.zero_le _, Nat.zero_le _⟩ rfl (Nat.le_of_ble_eq_true rfl) dJ0_checkIndex_df160_5 ?_
    refine g_pop (pc := 8) C dJ0_checkIndex_df160_8 rfl ?_
    exact g_return (pc := 9) C ⟨rfl, rfl⟩ dJ0_checkIndex_df160_9 ⟨rfl, rfl⟩
  rcases J.2.2.1 with hz | ⟨t, hz⟩
  · exact g_stat (pc := 2) C hz vf_1053 dJ0_checkIndex_df160_2 (go _ (Or.inl rfl))
  · exact g_stat (pc := 2) C hz vf_1053 dJ0_checkIndex_df160_2 (go _ (Or.inr ⟨t, rfl⟩))
theorem js_all : ∀ i, i < 20 → jsL.getD i 0 = (jsB.getD i []).length ∧ jsL.getD i 0 < 8 ∧ 0 < jsL.getD i 0 := by decide
theorem js_ch : ∀ i, i < 20 → ∀ k, k < jsL.getD i 0 → ∃ q, 97 ≤ q ∧ q ≤ 122 ∧ (jsB.getD i []).getD k 0 = nI q := by
  have h : ∀ i, i < 20 → ∀ k, k < 8 → k < jsL.getD i 0 → ((jsB.getD i []).getD k 0).toNatClampNeg ≥ 97 ∧ ((jsB.getD i []).getD k 0).toNatClampNeg ≤ 122 ∧ (jsB.getD i []).getD k 0 = nI ((jsB.getD i []).getD k 0).toNatClampNeg := by decide +kernel
  intro i hi k hk
  obtain ⟨h1, h2, h3⟩ := h i hi k (by have := (js_all i hi).2.1; omega) hk
  exact ⟨_, h1, h2, h3⟩
theorem ch_and : ∀ q, q < 128 → ((nI q &&& nI 255).toUInt32 % 65536).toInt32 = nI q := by decide +kernel
theorem ch_nar {q : Nat} (h : q < 128) : narrow .char (.int (nI q)) = .int (nI q) := (pk_charN (q := q) (by omega)).1
theorem c_charAt1 (w : Wd) (j : SJ) (l : Launch) (S : St) (i k : Nat) (hi : i < 20) (hk : k < jsL.getD i 0) : gx_MJ w j l yJ1_charAt_3b067 cJ1_charAt_3b067 2 (some .char) rS2 [.ref (j.2 i), .int (nI k)] S (pI ((jsB.getD i []).getD k 0) S) := by
  obtain ⟨hl1, hl2, hl3⟩ := js_all i hi
  obtain ⟨q, hq1, hq2, hq⟩ := js_ch i hi k hk
  refine gx_startJ rfl 0 rfl (Nat.le_of_ble_eq_true rfl) ?_
  intro X C J hl
  subst hl
  have hT := (J.1.1 i hi).2.2.2
  refine gx_L (L' := [some (.ref (j.2 i)), some (.int (nI k))]) rfl ?_
  refine g_iload_n (pc := 0) C dJ1_charAt_3b067_0 rfl ?_
  refine g_aload_n (pc := 1) C dJ1_charAt_3b067_1 rfl ?_
  refine g_strl (pc := 2) C hT dJ1_charAt_3b067_2 ?_
  refine cfj_J1_9 (pc := 3) C J (c_checkIx0 _ _ _ S k _ hk (by omega)) ⟨rfl, rfl⟩ ⟨rfl, rfl⟩ ⟨Nat.zero_le _, Nat.zero_le _⟩ rfl (Nat.le_of_ble_eq_true rfl) dJ1_charAt_3b067_3 ?_
  refine g_aload_n (pc := 6) C dJ1_charAt_3b067_6 rfl ?_
  refine g_iload_n (pc := 7) C dJ1_charAt_3b067_7 rfl ?_
  refine g_strb (pc := 8) C hT (by omega) hk (v := .int (nI q)) (by rw [hq]) dJ1_charAt_3b067_8 ?_
  refine g_sipush (pc := 9) (v := nI 255) C dJ1_charAt_3b067_9 (by decide) ?_
  refine g_iand (pc := 12) C dJ1_charAt_3b067_12 ?_
  refine g_i2c (pc := 13) C dJ1_charAt_3b067_13 ?_
  refine gx_ti (y := nI q) (ch_and q (by omega)) ?_
  exact g_nreturn (pc := 14) C ⟨rfl, rfl⟩ (ch_nar (by omega)) dJ1_charAt_3b067_14 ⟨by rw [hq], rfl⟩
theorem c_coder (w : Wd) (j : SJ) (l : Launch) (S : St) (i : Nat) (hi : i < 20) : gx_MJ w j l yJ0_coder_7d493 cJ0_coder_7d493 1 (some .byte) rS0 [.ref (j.1 i)] S (pI 0 S) := by
  refine gx_startJ rfl 0 rfl (Nat.le_of_ble_eq_true rfl) ?_
  intro X C J hl
  subst hl
  refine gx_L (L' := [some (.ref (j.1 i))]) rfl ?_
  refine g_stat (pc := 0) C J.2.1 vf_38 dJ0_coder_7d493_0 ?_
  refine g_if_eq (pc := 3) C 13 dJ0_coder_7d493_3 rfl (fun c1 => absurd c1 (by decide)) (fun c1 => ?_)
  refine g_aload_n (pc := 6) C dJ0_coder_7d493_6 rfl ?_
  refine g_strf (pc := 7) C (J.1.1 i hi).2.1 vf_15 dJ0_coder_7d493_7 ?_
  refine g_goto (pc := 10) C 14 dJ0_coder_7d493_10 rfl ?_
  exact g_nreturn (pc := 14) C ⟨rfl, rfl⟩ rfl dJ0_coder_7d493_14 ⟨rfl, rfl⟩
theorem c_isLatin1 (w : Wd) (j : SJ) (l : Launch) (S : St) (i : Nat) (hi : i < 20) : gx_MJ w j l yJ0_isLatin1_aae02 cJ0_isLatin1_aae02 1 (some .boolean) rS0 [.ref (j.1 i)] S (pI (nI 1) S) := by
  refine gx_startJ rfl 0 rfl (Nat.le_of_ble_eq_true rfl) ?_
  intro X C J hl
  subst hl
  refine gx_L (L' := [some (.ref (j.1 i))]) rfl ?_
  refine g_stat (pc := 0) C J.2.1 vf_38 dJ0_isLatin1_aae02_0 ?_
  refine g_if_eq (pc := 3) C 17 dJ0_isLatin1_aae02_3 rfl (fun c1 => absurd c1 (by decide)) (fun c1 => ?_)
  refine g_aload_n (pc := 6) C dJ0_isLatin1_aae02_6 rfl ?_
  refine g_strf (pc := 7) C (J.1.1 i hi).2.1 vf_15 dJ0_isLatin1_aae02_7 ?_
  refine g_if_ne (pc := 10) C 17 dJ0_isLatin1_aae02_10 rfl (fun c1 => absurd rfl c1) (fun c1 => ?_)
  refine g_iconst (pc := 13) (v := nI 1) C dJ0_isLatin1_aae02_13 (by decide) ?_
  refine g_goto (pc := 14) C 18 dJ0_isLatin1_aae02_14 rfl ?_
  exact g_zreturn (pc := 18) C ⟨rfl, rfl⟩ (Or.inr rfl) dJ0_isLatin1_aae02_18 ⟨rfl, rfl⟩
theorem shr_0 : ∀ n, n < 8 → nI n >>> ((0 : Int32) &&& 31) = nI n := by decide +kernel
theorem c_strLen (w : Wd) (j : SJ) (l : Launch) (S : St) (i : Nat) (hi : i < 20) : gx_MJ w j l yJ0_length_8abf5 cJ0_length_8abf5 1 (some .int) rS1 [.ref (j.1 i)] S (pI (nI (jsL.getD i 0)) S) := by
  obtain ⟨hl1, hl2, hl3⟩ := js_all i hi
  refine gx_startJ rfl 0 rfl (Nat.le_of_ble_eq_true rfl) ?_
  intro X C J hl
  subst hl
  refine gx_L (L' := [some (.ref (j.1 i))]) rfl ?_
  refine g_aload_n (pc := 0) C dJ0_length_8abf5_0 rfl ?_
  refine g_strf (pc := 1) C (J.1.1 i hi).2.2.1 vf_9 dJ0_length_8abf5_1 ?_
  refine g_strl (pc := 4) C (J.1.1 i hi).2.2.2 dJ0_length_8abf5_4 ?_
  refine g_aload_n (pc := 5) C dJ0_length_8abf5_5 rfl ?_
  refine cfj_J0_335 (pc := 6) C J hi (c_coder _ _ _ S i hi) ⟨rfl, rfl⟩ ⟨rfl, rfl⟩ ⟨Nat.zero_le _, Nat.zero_le _⟩ rfl (Nat.le_of_ble_eq_true rfl) dJ0_length_8abf5_6 ?_
  refine g_ishr (pc := 9) C dJ0_length_8abf5_9 ?_
  refine gx_ti (y := nI (jsL.getD i 0)) (shr_0 _ hl2) ?_
  exact g_ireturn (pc := 10) C ⟨rfl, rfl⟩ dJ0_length_8abf5_10 ⟨rfl, rfl⟩
theorem c_strAt (w : Wd) (j : SJ) (l : Launch) (S : St) (i k : Nat) (hi : i < 20) (hk : k < jsL.getD i 0) : gx_MJ w j l yJ0_charAt_5068e cJ0_charAt_5068e 2 (some .char) rS3 [.ref (j.1 i), .int (nI k)] S (pI ((jsB.getD i []).getD k 0) S) := by
  obtain ⟨q, hq1, hq2, hq⟩ := js_ch i hi k hk
  refine gx_startJ rfl 0 rfl (Nat.le_of_ble_eq_true rfl) ?_
  intro X C J hl
  subst hl
  refine gx_L (L' := [some (.ref (j.1 i)), some (.int (nI k))]) rfl ?_
  refine g_aload_n (pc := 0) C dJ0_charAt_5068e_0 rfl ?_
  refine cfj_J0_492 (pc := 1) C J hi (c_isLatin1 _ _ _ S i hi) ⟨rfl, rfl⟩ ⟨rfl, rfl⟩ ⟨Nat.zero_le _, Nat.zero_le _⟩ rfl (Nat.le_of_ble_eq_true rfl) dJ0_charAt_5068e_1 ?_
  refine g_if_eq (pc := 4) C 16 dJ0_charAt_5068e_4 rfl (fun c1 => absurd c1 (by decide)) (fun c1 => ?_)
  refine g_aload_n (pc := 7) C dJ0_charAt_5068e_7 rfl ?_
  refine g_strf (pc := 8) C (J.1.1 i hi).2.2.1 vf_9 dJ0_charAt_5068e_8 ?_
  refine g_iload_n (pc := 11) C dJ0_charAt_5068e_11 rfl ?_
  refine cfj_J0_495 (pc := 12) C J (c_charAt1 _ _ _ S i k hi hk) ⟨rfl, rfl⟩ ⟨rfl, rfl⟩ ⟨Nat.zero_le _, Nat.zero_le _⟩ rfl (Nat.le_of_ble_eq_true rfl) dJ0_charAt_5068e_12 ?_
  exact g_nreturn (pc := 15) C ⟨rfl, rfl⟩ (by rw [hq]; exact ch_nar (by omega)) dJ0_charAt_5068e_15 ⟨rfl, rfl⟩
