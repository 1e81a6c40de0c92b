/-! ===== the reference's texts: what is open; settles, isInside, fact, closes, tested ===== -/
def opn (i : Nat → Int32) (a : Nat → Nat → Int32) (K : List Nat) : Prop := i 1116 = nI K.length ∧ i 1113 = nI (dpN K) ∧ (∀ j, j < K.length → a 1007 j = nI (K.reverse.getD j 0)) ∧ ∀ k, k ∈ K → k = 11 ∨ k = 12 ∨ k = 13 ∨ k = 91
theorem opn_top {i : Nat → Int32} {a : Nat → Nat → Int32} {k : Nat} {K : List Nat} (h : opn i a (k :: K)) : a 1007 K.length = nI k ∧ ∀ j, j < K.length → a 1007 j = nI (K.reverse.getD j 0) := by
  have e : (k :: K).reverse = K.reverse ++ [k] := List.reverse_cons
  have h3 := h.2.2.1
  rw [e] at h3
  refine ⟨?_, fun j hj => ?_⟩
  · rw [h3 K.length (by simp), gd_r (by simp)]; simp
  · rw [h3 j (by simp; omega), gd_l (by simpa using hj)]
theorem opn_push {i i' : Nat → Int32} {a a' : Nat → Nat → Int32} {k : Nat} {K : List Nat} (h : opn i a K) (h1 : i' 1116 = nI (K.length + 1)) (h2 : i' 1113 = nI (dpN (k :: K))) (h3 : a' 1007 = upd (a 1007) K.length (nI k)) (hk : k = 11 ∨ k = 12 ∨ k = 13 ∨ k = 91) : opn i' a' (k :: K) := by
  refine ⟨h1, h2, fun j hj => ?_, fun q hq => ?_⟩
  · have e : (k :: K).reverse = K.reverse ++ [k] := List.reverse_cons
    rw [e, h3]
    have hj : j < K.length + 1 := hj
    by_cases e2 : j = K.length
    · subst e2
      rw [pk_us, gd_r (by simp)]; simp
    · rw [pk_un e2, gd_l (by simp; omega)]
      exact h.2.2.1 j (by omega)
  · rcases List.mem_cons.mp hq with rfl | z
    · exact hk
    · exact h.2.2.2 q z
theorem opn_to {i i' : Nat → Int32} {a a' : Nat → Nat → Int32} {K : List Nat} (h : opn i a K) (h1 : i' 1116 = i 1116) (h2 : i' 1113 = i 1113) (h3 : a' 1007 = a 1007) : opn i' a' K := ⟨h1.trans h.1, h2.trans h.2.1, fun j hj => by rw [h3]; exact h.2.2.1 j hj, h.2.2.2⟩
def fxU (t : Nat) (a a' : Nat → Nat → Int32) : Prop := (∀ k, k ≠ 1002 → k ≠ 1003 → k ≠ 1007 → a' k = a k) ∧ (∀ q, q < 400 * t ∨ 400 * t + 400 ≤ q → a' 1002 q = a 1002 q) ∧ ∀ q, q ≠ t → a' 1003 q = a 1003 q
theorem fxU.refl {t : Nat} {a : Nat → Nat → Int32} : fxU t a a := ⟨fun _ _ _ _ => rfl, fun _ _ => rfl, fun _ _ => rfl⟩
theorem fxU.trans {t : Nat} {a b c : Nat → Nat → Int32} (h1 : fxU t a b) (h2 : fxU t b c) : fxU t a c := ⟨fun k e f g => (h2.1 k e f g).trans (h1.1 k e f g), fun q e => (h2.2.1 q e).trans (h1.2.1 q e), fun q e => (h2.2.2 q e).trans (h1.2.2 q e)⟩
theorem fxT.U {t : Nat} {a b : Nat → Nat → Int32} (h : fxT t a b) : fxU t a b := ⟨fun k e f _ => h.1 k e f, h.2⟩
theorem fxU_o {t : Nat} {a : Nat → Nat → Int32} {g : Nat → Int32} : fxU t a (u1 a 1007 g) := ⟨fun k _ _ e => if_neg e, fun _ _ => rfl, fun _ _ => rfl⟩
abbrev l6 : List Nat := [1108, 1109, 1110, 1112, 1113, 1116]
theorem str_nI {k : Nat} (h : k = 11 ∨ k = 12 ∨ k = 13 ∨ k = 91) : strF (nI k) = nI (strN k) := by
  rcases h with rfl | rfl | rfl | rfl <;> decide
theorem tx_o {t : Nat} {i : Nat → Int32} {a a' : Nat → Nat → Int32} {n m : Nat} {o : List Nat} (h : tx t i a n m o) (h1 : a' 1002 = a 1002) (h2 : a' 1003 = a 1003) : tx t i a' n m o := ⟨h.1, h.2.1, h.2.2.1, h.2.2.2.1, by rw [h2]; exact h.2.2.2.2.1, by rw [h1]; exact h.2.2.2.2.2⟩
theorem c_X12_settles (w : Wd) (l : Launch) (S : St) (L : Nat) (hx : gx_x S L) (t : Nat) (ht6 : t < 6) (s : Nat) (hs0 : 0 < s) (hs : s < 4) : ∀ (K : List Nat) (i : Nat → Int32) (a : Nat → Nat → Int32) (n m : Nat) (o : List Nat), tx t i a n m o → opn i a K → o.length + K.length ≤ 400 → gx_M w l yX12_settles cX12_settles 2 none rmX12_settles [.ref (ad (w_b w) 1000), .int (nI s)] (rdS S i a) (fun v S' => v = none ∧ ∃ i' a', S' = rdS S i' a' ∧ fxI l6 i i' ∧ fxU t a a' ∧ tx t i' a' n m (o ++ stP s K) ∧ opn i' a' (stK s K)) := by
  have hmA : ∀ i a, gx_m (rdS S i a) := fun i a => hx.1
  intro K i a n m o h hK hb
  refine gx_start rfl 0 rfl (Nat.le_of_ble_eq_true rfl) ?_
  intro X C _ hl
  subst hl
  refine gx_L (L' := [_, _]) rfl ?_
  have loop : ∀ K1 i1 a1 o1, tx t i1 a1 n m o1 → opn i1 a1 K1 → o1.length + K1.length ≤ 400 → fxI l6 i i1 → fxU t a a1 → o1 ++ stP s K1 = o ++ stP s K → stK s K1 = stK s K → gx_G w X (rdS S i1 a1) 0 0 0 [some (.ref (ad (w_b w) 1000)), some (.int (nI s))] [] (gx_E w X (fun v S' => v = none ∧ ∃ i' a', S' = rdS S i' a' ∧ fxI l6 i i' ∧ fxU t a a' ∧ tx t i' a' n m (o ++ stP s K) ∧ opn i' a' (stK s K))) := by
    intro K1
    induction K1 with
    | nil =>
      intro i1 a1 o1 h1 k1 b1 f1 g1 e1 e2
      refine g_aload_n (pc := 0) C dX12_settles_0 rfl ?_
      refine mg_167 (pc := 1) C (hmA _ _) dX12_settles_1 ?_
      refine gx_ti (y := nI 0) k1.1 ?_
      refine g_if_le (pc := 4) C 76 dX12_settles_4 rfl (fun c => ?_) (fun c => ?_)
      · exact g_return (pc := 76) C ⟨rfl, rfl⟩ dX12_settles_76 ⟨rfl, i1, a1, rfl, f1, g1, by rw [← e1]; simpa [stP] using h1, by rw [← e2]; exact k1⟩
      · exact absurd (by decide) c
    | cons k K1 ih =>
      intro i1 a1 o1 h1 k1 b1 f1 g1 e1 e2
      have hlen : (k :: K1).length = K1.length + 1 := rfl
      have hkk := k1.2.2.2 k List.mem_cons_self
      obtain ⟨t1, t2⟩ := opn_top k1
      refine g_aload_n (pc := 0) C dX12_settles_0 rfl ?_
      refine mg_167 (pc := 1) C (hmA _ _) dX12_settles_1 ?_
      refine gx_ti (y := nI (K1.length + 1)) k1.1 ?_
      refine g_if_le (pc := 4) C 76 dX12_settles_4 rfl (fun c => ?_) (fun c => ?_)
      · exact absurd c (nI_nle (by omega) (by omega))
      · refine g_aload_n (pc := 7) C dX12_settles_7 rfl ?_
        refine mg_29 (pc := 8) C (hmA _ _) dX12_settles_8 ?_
        refine g_aload_n (pc := 11) C dX12_settles_11 rfl ?_
        refine mg_167 (pc := 12) C (hmA _ _) dX12_settles_12 ?_
        refine gx_ti (y := nI (K1.length + 1)) k1.1 ?_
        refine g_iconst (pc := 15) (v := nI 1) C dX12_settles_15 (by decide) ?_
        refine g_isub (pc := 16) C dX12_settles_16 ?_
        refine gx_ti (y := nI K1.length) (nI_pred K1.length) ?_
        refine n_iald (pc := 17) (k := 1007) (n := 400) C rfl rfl (m_z (hmA _ _) rfl) rfl rfl (by omega) dX12_settles_17 ?_
        refine gx_ti (y := nI k) t1 ?_
        refine cf_X12_170 (pc := 18) C (c_X12_strength _ _ _ (nI k)) ⟨rfl, rfl⟩ ⟨rfl, rfl⟩ ⟨Nat.zero_le _, Nat.zero_le _⟩ rfl (Nat.le_of_ble_eq_true rfl) dX12_settles_18 ?_
        refine gx_ti (y := nI (strN k)) (str_nI hkk) ?_
        refine g_iload_n (pc := 21) C dX12_settles_21 rfl ?_
        refine g_icmp_lt (pc := 22) C 76 dX12_settles_22 rfl (fun c2 => ?_) (fun c2 => ?_)
        · have c2 : strN k < s := (nI_ltI (by rcases hkk with rfl | rfl | rfl | rfl <;> decide) (by omega)).mp c2
          have e3 : stP s (k :: K1) = [] := by unfold stP; rw [if_neg (by omega)]
          have e4 : stK s (k :: K1) = k :: K1 := by unfold stK; rw [if_neg (by omega)]
          exact g_return (pc := 76) C ⟨rfl, rfl⟩ dX12_settles_76 ⟨rfl, i1, a1, rfl, f1, g1, by rw [← e1, e3, List.append_nil]; exact h1, by rw [← e2, e4]; exact k1⟩
        · have c2 : s ≤ strN k := Nat.le_of_not_lt (fun q => c2 (nI_lt q (by omega)))
          have e3 : stP s (k :: K1) = k :: stP s K1 := if_pos c2
          have e4 : stK s (k :: K1) = stK s K1 := if_pos c2
          have h91 : k ≠ 91 := by
            rintro rfl
            have : strN 91 = 0 := rfl
            omega
          refine g_aload_n (pc := 25) C dX12_settles_25 rfl ?_
          refine g_dup (pc := 26) C dX12_settles_26 rfl ?_
          refine mg_167 (pc := 27) C (hmA _ _) dX12_settles_27 ?_
          refine gx_ti (y := nI (K1.length + 1)) k1.1 ?_
          refine g_iconst (pc := 30) (v := nI 1) C dX12_settles_30 (by decide) ?_
          refine g_isub (pc := 31) C dX12_settles_31 ?_
          refine gx_ti (y := nI K1.length) (nI_pred K1.length) ?_
          refine mp_167 (pc := 32) C (hmA _ _) dX12_settles_32 ?_
          refine gx_S (S' := rdS S (u1 i1 1116 (nI K1.length)) a1) (rd_I S i1 a1 1116 _ (by omega)) ?_
          have h2 : tx t (u1 i1 1116 (nI K1.length)) a1 n m o1 := tx_u h1 h1.1 rfl rfl h1.2.2.2.1
          have f2 : fxI l6 i (u1 i1 1116 (nI K1.length)) := f1.trans (fxI.u (by decide))
          have p2 : (u1 i1 1116 (nI K1.length)) 1116 = nI K1.length := rfl
          have p3 : (u1 i1 1116 (nI K1.length)) 1113 = nI (dpN (k :: K1)) := k1.2.1
          generalize u1 i1 1116 (nI K1.length) = i2 at h2 f2 p2 p3
          refine g_aload_n (pc := 35) C dX12_settles_35 rfl ?_
          refine g_aload_n (pc := 36) C dX12_settles_36 rfl ?_
          refine mg_29 (pc := 37) C (hmA _ _) dX12_settles_37 ?_
          refine g_aload_n (pc := 40) C dX12_settles_40 rfl ?_
          refine mg_167 (pc := 41) C (hmA _ _) dX12_settles_41 ?_
          refine n_iald (pc := 44) (k := 1007) (n := 400) C rfl rfl (m_z (hmA _ _) rfl) p2 rfl (by omega) dX12_settles_44 ?_
          refine gx_ti (y := nI k) t1 ?_
          refine g_iconst (pc := 45) (v := nI 0) C dX12_settles_45 (by decide) ?_
          refine cg_X12_174 (pc := 46) C rfl (m_z (hmA _ _) rfl) (r_puts _ _ S L hx t ht6 i2 a1 n m o1 h2 (by omega) k 0 k (by omega)) ⟨rfl, rfl⟩ ⟨Nat.zero_le _, Nat.zero_le _⟩ rfl (Nat.le_of_ble_eq_true rfl) dX12_settles_46 ?_
          rintro _ _ ⟨rfl, a3, rfl, g3, h3⟩
          have t3 : a3 1007 = a1 1007 := g3.1 1007 (by decide) (by decide)
          refine g_aload_n (pc := 49) C dX12_settles_49 rfl ?_
          refine mg_29 (pc := 50) C (hmA _ _) dX12_settles_50 ?_
          refine g_aload_n (pc := 53) C dX12_settles_53 rfl ?_
          refine mg_167 (pc := 54) C (hmA _ _) dX12_settles_54 ?_
          refine n_iald (pc := 57) (k := 1007) (n := 400) C rfl rfl (m_z (hmA _ _) rfl) p2 rfl (by omega) dX12_settles_57 ?_
          refine gx_ti (y := nI k) (by rw [show s_A (rdS S i2 a3) 1007 = a3 1007 from rfl, t3]; exact t1) ?_
          refine g_bipush (pc := 58) (v := nI 11) C dX12_settles_58 (by decide) ?_
          have e5 : o1 ++ [k] ++ stP s K1 = o ++ stP s K := by rw [← e1, e3, List.append_assoc]; rfl
          have hl5 : (o1 ++ [k]).length = o1.length + 1 := List.length_append
          refine g_icmp_ne (pc := 60) C 0 dX12_settles_60 rfl (fun c3 => ?_) (fun c3 => ?_)
          · have c3 : k ≠ 11 := fun q => c3 (by rw [q])
            have hd : dpN (k :: K1) = dpN K1 := by
              rcases hkk with rfl | rfl | rfl | rfl
              · exact absurd rfl c3
              · rfl
              · rfl
              · exact absurd rfl h91
            exact ih i2 a3 (o1 ++ [k]) h3 ⟨p2, by rw [p3, hd], fun j hj => by rw [t3]; exact t2 j hj, fun q hq => k1.2.2.2 q (List.mem_cons_of_mem _ hq)⟩ (by omega) f2 (g1.trans g3.U) e5 (e4 ▸ e2)
          · have c3 : k = 11 := (nI_eq (by omega) (by omega)).mp (Decidable.not_not.mp c3)
            subst c3
            refine g_aload_n (pc := 63) C dX12_settles_63 rfl ?_
            refine g_dup (pc := 64) C dX12_settles_64 rfl ?_
            refine mg_164 (pc := 65) C (hmA _ _) dX12_settles_65 ?_
            refine gx_ti (y := nI (dpN K1 + 1)) p3 ?_
            refine g_iconst (pc := 68) (v := nI 1) C dX12_settles_68 (by decide) ?_
            refine g_isub (pc := 69) C dX12_settles_69 ?_
            refine gx_ti (y := nI (dpN K1)) (nI_pred (dpN K1)) ?_
            refine mp_164 (pc := 70) C (hmA _ _) dX12_settles_70 ?_
            refine gx_S (S' := rdS S (u1 i2 1113 (nI (dpN K1))) a3) (rd_I S i2 a3 1113 _ (by omega)) ?_
            refine g_goto (pc := 73) C 0 dX12_settles_73 rfl ?_
            exact ih _ a3 (o1 ++ [11]) (tx_u h3 h3.1 rfl rfl h3.2.2.2.1) ⟨p2, rfl, fun j hj => by rw [t3]; exact t2 j hj, fun q hq => k1.2.2.2 q (List.mem_cons_of_mem _ hq)⟩ (by omega) (f2.trans (fxI.u (by decide))) (g1.trans g3.U) e5 (e4 ▸ e2)
  exact loop K i a o h hK hb fxI.refl fxU.refl rfl rfl
theorem mem_gd {K : List Nat} {x : Nat} : x ∈ K ↔ ∃ j, j < K.length ∧ K.reverse.getD j 0 = x := by
  constructor
  · intro h
    obtain ⟨j, hj, e⟩ := List.getElem_of_mem (List.mem_reverse.mpr h)
    refine ⟨j, by simpa using hj, ?_⟩
    rw [List.getD_eq_getElem?_getD, List.getElem?_eq_getElem hj, e]; rfl
  · rintro ⟨j, hj, e⟩
    have hj : j < K.reverse.length := by simpa using hj
    rw [List.getD_eq_getElem?_getD, List.getElem?_eq_getElem hj] at e
    have e : K.reverse[j] = x := e
    exact List.mem_reverse.mp (e ▸ List.getElem_mem hj)
theorem c_X12_isInside (w : Wd) (l : Launch) (S : St) (hm : gx_m S) (i : Nat → Int32) (a : Nat → Nat → Int32) (K : List Nat) (hK : opn i a K) (h4 : K.length ≤ 400) : gx_M w l yX12_isInside cX12_isInside 2 (some .boolean) rmX12_isInside [.ref (ad (w_b w) 1000)] (rdS S i a) (pI (bI (91 ∈ K)) (rdS S i a)) := by
  have hmA : ∀ i a, gx_m (rdS S i a) := fun i a => hm
  refine gx_start rfl 1 rfl (Nat.le_of_ble_eq_true rfl) ?_
  intro X C _ hl
  subst hl
  refine gx_L (L' := [_, _]) rfl ?_
  refine g_iconst (pc := 0) (v := nI 0) C dX12_isInside_0 (by decide) ?_
  refine g_istore_n (pc := 1) (L' := [some (.ref _), _]) C dX12_isInside_1 rfl rfl ?_
  have loop : ∀ d j, j + d = K.length → (∀ q, q < j → ¬ K.reverse.getD q 0 = 91) → gx_G w X (rdS S i a) 0 0 2 [some (.ref (ad (w_b w) 1000)), some (.int (nI j))] [] (gx_E w X (pI (bI (91 ∈ K)) (rdS S i a))) := by
    intro d
    induction d with
    | zero =>
      intro j hj hno
      have hj : j = K.length := hj
      refine g_iload_n (pc := 2) C dX12_isInside_2 rfl ?_
      refine g_aload_n (pc := 3) C dX12_isInside_3 rfl ?_
      refine mg_167 (pc := 4) C (hmA _ _) dX12_isInside_4 ?_
      refine gx_ti (y := nI K.length) hK.1 ?_
      refine g_icmp_ge (pc := 7) C 29 dX12_isInside_7 rfl (fun c => ?_) (fun c => ?_)
      · refine g_iconst (pc := 29) (v := nI 0) C dX12_isInside_29 (by decide) ?_
        exact g_zreturn (pc := 30) C ⟨rfl, rfl⟩ (by first | exact Or.inl rfl | exact Or.inr rfl) dX12_isInside_30 (pI_f (fun q => by obtain ⟨p, h1, h2⟩ := mem_gd.mp q; exact hno p (by omega) h2))
      · exact absurd (nI_le (by omega) (by omega)) c
    | succ d ih =>
      intro j hj hno
      have hv : s_A (rdS S i a) 1007 j = nI (K.reverse.getD j 0) := hK.2.2.1 j (by omega)
      have hmem : K.reverse.getD j 0 ∈ K := mem_gd.mpr ⟨j, by omega, rfl⟩
      have hk := hK.2.2.2 _ hmem
      refine g_iload_n (pc := 2) C dX12_isInside_2 rfl ?_
      refine g_aload_n (pc := 3) C dX12_isInside_3 rfl ?_
      refine mg_167 (pc := 4) C (hmA _ _) dX12_isInside_4 ?_
      refine gx_ti (y := nI K.length) hK.1 ?_
      refine g_icmp_ge (pc := 7) C 29 dX12_isInside_7 rfl (fun c => ?_) (fun c => ?_)
      · exact absurd c (nI_ge (by omega) (by omega))
      · refine g_aload_n (pc := 10) C dX12_isInside_10 rfl ?_
        refine mg_29 (pc := 11) C (hmA _ _) dX12_isInside_11 ?_
        refine g_iload_n (pc := 14) C dX12_isInside_14 rfl ?_
        refine n_iald (pc := 15) (k := 1007) (n := 400) C rfl rfl (m_z (hmA _ _) rfl) isn_v rfl (by omega) dX12_isInside_15 ?_
        refine gx_ti (y := nI (K.reverse.getD j 0)) hv ?_
        refine g_bipush (pc := 16) (v := nI 91) C dX12_isInside_16 (by decide) ?_
        refine g_icmp_ne (pc := 18) C 23 dX12_isInside_18 rfl (fun c2 => ?_) (fun c2 => ?_)
        · refine g_iinc (pc := 23) (L' := [some (.ref _), _]) C dX12_isInside_23 rfl (nI_1 _) rfl ?_
          refine g_goto (pc := 26) C 2 dX12_isInside_26 rfl ?_
          exact ih (j + 1) (by omega) (fun q hq => if e : q = j then by subst e; exact fun z => c2 (by rw [z]) else hno q (by omega))
        · have c2 : K.reverse.getD j 0 = 91 := (nI_eq (by omega) (by omega)).mp (Decidable.not_not.mp c2)
          refine g_iconst (pc := 21) (v := nI 1) C dX12_isInside_21 (by decide) ?_
          exact g_zreturn (pc := 22) C ⟨rfl, rfl⟩ (by first | exact Or.inl rfl | exact Or.inr rfl) dX12_isInside_22 (pI_t (c2 ▸ hmem))
  exact loop K.length 0 (by omega) (fun q hq => absurd hq (by omega))
