/-! ===== THE CLASS: RuleReader: what it keeps; put, countPart, words ===== -/
def rch (S S' : St) : Prop := eqO (fun k => k = 4 ∨ k = 5) S S' ∧ ∀ f, s_R S' f 4 = s_R S f 4
theorem rch.refl {S : St} : rch S S := ⟨eqO.refl, fun _ => rfl⟩
theorem rch.trans {S T U : St} (h : rch S T) (g : rch T U) : rch S U := ⟨h.1.trans g.1, fun f => (g.2 f).trans (h.2 f)⟩
theorem rch_rk {U : St} {n : Nat} {f : Int32} : rch U (rk4 U n f) := ⟨(eqO.sI (Or.inl rfl)).trans (eqO.sI (Or.inl rfl)), fun _ => rfl⟩
theorem rch_I {U : St} {g : Nat} {v : Int32} : rch U (s_setI U g 4 v) := ⟨eqO.sI (Or.inl rfl), fun _ => rfl⟩
theorem rd4K.ch {S U : St} {L : Nat} (h : rd4K S L) (e : rch S U) : rd4K U L := ⟨(e.2 _).trans h.1, ⟨by rw [e.1.1]; exact h.2.1.1, (e.1.R (by decide)).trans h.2.1.2.1, (e.1.I (by decide)).trans h.2.1.2.2.1, h.2.1.2.2.2⟩, by rw [e.1.A (by decide)]; exact h.2.2⟩
def ruU (U : St) (o : List Nat) (m : Nat) : Prop := s_I U 704 4 = nI o.length ∧ s_I U 705 4 = nI m ∧ ∀ j, j < o.length → s_A U 5 j = nI (o.getD j 0)
def ruP (U : St) (T : Nat → Int32) (L n m : Nat) (o : List Nat) : Prop := rd4K U L ∧ s_A U 2 = T ∧ s_R U 703 4 = some 5 ∧ n ≤ L ∧ m ≤ 60 ∧ o.length ≤ n + 13 ∧ ruU U o m
def ruE (L : Nat) (U S' : St) (f : Nat) : Prop := ∃ n z, n ≤ L ∧ S' = rk4 U n (nI f) ∧ s_I U 704 4 = nI z ∧ z ≤ 512
/-- how the class's reading of a piece ends -/
def pxU (U : St) (L : Nat) (o : List Nat) (r : RT) : Option Value → St → Prop := fun v S' => v = none ∧ ∃ U', rch U U' ∧ match r with
  | .error f => ruE L U' S' f
  | .ok (n', m', k) => S' = rk4 U' n' 0 ∧ ruU U' (o ++ k.map clK) m'
theorem pxU_e {U U' S' : St} {L f : Nat} {o : List Nat} {r : RT} (hr : r = .error f) (h : rch U U') (e : ruE L U' S' f) : pxU U L o r none S' := by
  subst hr; exact ⟨rfl, U', h, e⟩
theorem pxU_o {U U' : St} {L n' m' : Nat} {o k : List Nat} {r : RT} (hr : r = .ok (n', m', k)) (h : rch U U') (e : ruU U' (o ++ k.map clK) m') : pxU U L o r none (rk4 U' n' 0) := by
  subst hr; exact ⟨rfl, U', h, rfl, e⟩
theorem ruP.nx {U U' : St} {T : Nat → Int32} {L n m n' m' : Nat} {o o' : List Nat} (h : ruP U T L n m o) (e : rch U U') (hn : n' ≤ L) (hm : m' ≤ 60) (ho : o'.length ≤ n' + 13) (hu : ruU U' o' m') : ruP U' T L n' m' o' := ⟨h.1.ch e, (e.1.A (by decide)).trans h.2.1, (e.2 _).trans h.2.2.1, hn, hm, ho, hu⟩
def putS (U : St) (z : Nat) (v : Int32) : St := s_setI (s_setA U 5 (upd (s_A U 5) z v)) 704 4 (nI (z + 1))
theorem rch_put {U : St} {z : Nat} {v : Int32} : rch U (putS U z v) := ⟨(eqO.sA (Or.inr rfl)).trans (eqO.sI (Or.inl rfl)), fun _ => rfl⟩
theorem put_rk (U : St) (n z : Nat) (f v : Int32) : putS (rk4 U n f) z v = rk4 (putS U z v) n f := by
  unfold putS rk4
  rw [show s_setA (s_setI (s_setI U 701 4 (nI n)) 702 4 f) 5 (upd (s_A (s_setI (s_setI U 701 4 (nI n)) 702 4 f) 5) z v) = s_setI (s_setI (s_setA U 5 (upd (s_A U 5) z v)) 701 4 (nI n)) 702 4 f from rfl, s_IIc _ 702 4 704 4 _ _ (by decide), s_IIc _ 701 4 704 4 _ _ (by decide)]
theorem rk_I (U : St) (n g : Nat) (f v : Int32) (h1 : g ≠ 701) (h2 : g ≠ 702) : s_setI (rk4 U n f) g 4 v = rk4 (s_setI U g 4 v) n f := by
  unfold rk4
  rw [s_IIc _ 702 4 g 4 _ _ (fun q => h2 q.symm), s_IIc _ 701 4 g 4 _ _ (fun q => h1 q.symm)]
theorem rk_g {U : St} {n g : Nat} {f : Int32} (h1 : g ≠ 701) (h2 : g ≠ 702) : s_I (rk4 U n f) g 4 = s_I U g 4 := (gI_ne (Or.inl h2)).trans (gI_ne (Or.inl h1))
theorem ruU.put {U : St} {o : List Nat} {m c : Nat} {v : Int32} (h : ruU U o m) (hv : v = nI c) : ruU (putS U o.length v) (o ++ [c]) m := by
  obtain ⟨h1, h2, h3⟩ := h
  refine ⟨by rw [List.length_append]; exact gI_at, (gI_ne (Or.inl (by decide))).trans h2, fun j hj => ?_⟩
  show upd (s_A U 5) o.length v j = _
  rw [List.length_append] at hj
  by_cases e : j = o.length
  · subst e
    rw [pk_us, hv, List.getD_eq_getElem?_getD, List.getElem?_append_right (Nat.le_refl _), Nat.sub_self]; rfl
  · have hj2 : j < o.length := by
      have : ([c] : List Nat).length = 1 := rfl
      omega
    rw [pk_un e, h3 j hj2, List.getD_eq_getElem?_getD, List.getD_eq_getElem?_getD, List.getElem?_append_left hj2]
theorem c_X8_put (w : Wd) (l : Launch) (U : St) (L : Nat) (h : rd4K U L) (hc : s_R U 703 4 = some 5) (n z : Nat) (hz : z ≤ 512) (hs : s_I U 704 4 = nI z) (f op much : Int32) : gx_M w l yX8_put cX8_put 3 none rmX8_put [.ref (ad (w_b w) 4), .int op, .int much] (rk4 U n f) (pV (rk4 (if z < 512 then putS U z (much * nI 32 + op) else U) n f)) := by
  have o4 : ∀ S, 121 ≤ s_z S → gx_o S 4 7 := fun S q => o_st q rfl rfl
  have a5 : gx_a (rk4 U n f) 5 13 512 := a_st h.to.2.1.1 rfl rfl rfl
  have zu : 121 ≤ s_z U := h.2.1.1
  have rc : s_R (rk4 U n f) 703 4 = some 5 := hc
  have hs1 : s_I (rk4 U n f) 704 4 = nI z := (rk_g (by decide) (by decide)).trans hs
  refine gx_start rfl 0 rfl (Nat.le_of_ble_eq_true rfl) ?_
  intro X C _ hl
  subst hl
  refine gx_L (L' := [_, _, _]) rfl ?_
  refine g_aload_n (pc := 0) C dX8_put_0 rfl ?_
  refine fg_X8_22 (pc := 1) C (by exact (o4 _ zu).1) (zk (by exact (o4 _ zu).2)) dX8_put_1 ?_
  refine gx_ti (y := nI z) hs1 ?_
  refine g_sipush (pc := 4) (v := nI 512) C dX8_put_4 (by decide) ?_
  refine g_icmp_ge (pc := 7) C 35 dX8_put_7 rfl (fun c1 => ?_) (fun c1 => ?_)
  · have c1 := (nI_leI (by omega) (by omega)).mp c1
    rw [if_neg (by omega)]
    exact g_return (pc := 35) C ⟨rfl, rfl⟩ dX8_put_35 ⟨rfl, rfl⟩
  · have c1 : z < 512 := Nat.lt_of_not_le (fun q => c1 (nI_le q (by omega)))
    rw [if_pos c1]
    refine g_aload_n (pc := 10) C dX8_put_10 rfl ?_
    refine fgr_X8_11 (pc := 11) C (by exact (o4 _ zu).1) (zk (by exact (o4 _ zu).2)) (by exact rc) dX8_put_11 ?_
    refine g_aload_n (pc := 14) C dX8_put_14 rfl ?_
    refine fg_X8_22 (pc := 15) C (by exact (o4 _ zu).1) (zk (by exact (o4 _ zu).2)) dX8_put_15 ?_
    refine gx_ti (y := nI z) hs1 ?_
    refine g_iload_n (pc := 18) C dX8_put_18 rfl ?_
    refine g_bipush (pc := 19) (v := nI 32) C dX8_put_19 (by decide) ?_
    refine g_imul (pc := 21) C dX8_put_21 ?_
    refine g_iload_n (pc := 22) C dX8_put_22 rfl ?_
    refine g_iadd (pc := 23) C dX8_put_23 ?_
    refine n_iast (pc := 24) (n := 512) C (by exact a5.1) (by exact a5.2.1) (zk (by exact a5.2.2)) rfl rfl (by omega) dX8_put_24 ?_
    refine g_aload_n (pc := 25) C dX8_put_25 rfl ?_
    refine g_dup (pc := 26) C dX8_put_26 rfl ?_
    refine fg_X8_22 (pc := 27) C (by exact (o4 _ zu).1) (zk (by exact (o4 _ zu).2)) dX8_put_27 ?_
    refine gx_ti (y := nI z) hs1 ?_
    refine g_iconst (pc := 30) (v := nI 1) C dX8_put_30 (by decide) ?_
    refine g_iadd (pc := 31) C dX8_put_31 ?_
    refine gx_ti (y := nI (z + 1)) (nI_add _ _) ?_
    refine fp_X8_22 (pc := 32) C (by exact (o4 _ zu).1) (zk (by exact (o4 _ zu).2)) dX8_put_32 ?_
    refine gx_S (S' := rk4 (putS U z (much * nI 32 + op)) n f) (put_rk U n z f _) ?_
    exact g_return (pc := 35) C ⟨rfl, rfl⟩ dX8_put_35 ⟨rfl, rfl⟩
theorem c_X8_countPart (w : Wd) (l : Launch) (U : St) (L : Nat) (h : rd4K U L) (n : Nat) (f p x : Int32) (hx : s_I U 705 4 = x) : gx_M w l yX8_countPart cX8_countPart 2 none rmX8_countPart [.ref (ad (w_b w) 4), .int p] (rk4 U n f) (pV (rk4 (s_setI U 705 4 (x + nI 1)) n (alw (bI (x + nI 1 ≤ nI 60)) f p (nI 3)))) := by
  have zu : 121 ≤ s_z U := h.2.1.1
  have o4 : ∀ S, 121 ≤ s_z S → gx_o S 4 7 := fun S q => o_st q rfl rfl
  have hx1 : s_I (rk4 U n f) 705 4 = x := (rk_g (by decide) (by decide)).trans hx
  have h2 : rd4K (s_setI U 705 4 (x + nI 1)) L := h.ch rch_I
  refine gx_start rfl 0 rfl (Nat.le_of_ble_eq_true rfl) ?_
  intro X C _ hl
  subst hl
  refine gx_L (L' := [_, _]) rfl ?_
  refine g_aload_n (pc := 0) C dX8_countPart_0 rfl ?_
  refine g_dup (pc := 1) C dX8_countPart_1 rfl ?_
  refine fg_X8_25 (pc := 2) C (by exact (o4 _ zu).1) (zk (by exact (o4 _ zu).2)) dX8_countPart_2 ?_
  refine gx_ti (y := x) hx1 ?_
  refine g_iconst (pc := 5) (v := nI 1) C dX8_countPart_5 (by decide) ?_
  refine g_iadd (pc := 6) C dX8_countPart_6 ?_
  refine fp_X8_25 (pc := 7) C (by exact (o4 _ zu).1) (zk (by exact (o4 _ zu).2)) dX8_countPart_7 ?_
  refine gx_S (S' := rk4 (s_setI U 705 4 (x + nI 1)) n f) (rk_I _ _ _ _ _ (by decide) (by decide)) ?_
  refine g_aload_n (pc := 10) C dX8_countPart_10 rfl ?_
  refine g_aload_n (pc := 11) C dX8_countPart_11 rfl ?_
  refine fg_X8_25 (pc := 12) C (by exact (o4 _ zu).1) (zk (by exact (o4 _ zu).2)) dX8_countPart_12 ?_
  refine gx_ti (y := x + nI 1) ((rk_g (by decide) (by decide)).trans gI_at) ?_
  refine g_bipush (pc := 15) (v := nI 60) C dX8_countPart_15 (by decide) ?_
  refine g_icmp_gt (pc := 17) C 24 dX8_countPart_17 rfl (fun c1 => ?_) (fun c1 => ?_)
  · rw [bI_f (Int32.not_le.mpr c1)]
    refine g_iconst (pc := 24) (v := nI 0) C dX8_countPart_24 (by decide) ?_
    refine g_iload_n (pc := 25) C dX8_countPart_25 rfl ?_
    refine g_iconst (pc := 26) (v := nI 3) C dX8_countPart_26 (by decide) ?_
    refine cf_X8_53 (pc := 27) C (by exact (o4 _ zu).1) (zk (by exact (o4 _ zu).2)) (c_X5_allow_X8 _ _ _ L h2 n f (nI 0) p (nI 3) (Or.inl rfl)) ⟨rfl, rfl⟩ ⟨rfl, rfl⟩ ⟨Nat.zero_le _, Nat.zero_le _⟩ rfl (Nat.le_of_ble_eq_true rfl) dX8_countPart_27 ?_
    refine g_pop (pc := 30) C dX8_countPart_30 rfl ?_
    exact g_return (pc := 31) C ⟨rfl, rfl⟩ dX8_countPart_31 ⟨rfl, rfl⟩
  · rw [bI_t (Int32.not_lt.mp c1)]
    refine g_iconst (pc := 20) (v := nI 1) C dX8_countPart_20 (by decide) ?_
    refine g_goto (pc := 21) C 25 dX8_countPart_21 rfl ?_
    refine g_iload_n (pc := 25) C dX8_countPart_25 rfl ?_
    refine g_iconst (pc := 26) (v := nI 3) C dX8_countPart_26 (by decide) ?_
    refine cf_X8_53 (pc := 27) C (by exact (o4 _ zu).1) (zk (by exact (o4 _ zu).2)) (c_X5_allow_X8 _ _ _ L h2 n f (nI 1) p (nI 3) (Or.inr rfl)) ⟨rfl, rfl⟩ ⟨rfl, rfl⟩ ⟨Nat.zero_le _, Nat.zero_le _⟩ rfl (Nat.le_of_ble_eq_true rfl) dX8_countPart_27 ?_
    refine g_pop (pc := 30) C dX8_countPart_30 rfl ?_
    exact g_return (pc := 31) C ⟨rfl, rfl⟩ dX8_countPart_31 ⟨rfl, rfl⟩
/-- which text is the k-th WORD -/
def vwI (k : Nat) : Nat := [1, 6, 7, 8, 9, 10, 11, 12, 13, 14, 15, 4].getD k 4
theorem vwI_lt (k : Nat) (h : k < 12) : vwI k < 20 := by
  have : k = 0 ∨ k = 1 ∨ k = 2 ∨ k = 3 ∨ k = 4 ∨ k = 5 ∨ k = 6 ∨ k = 7 ∨ k = 8 ∨ k = 9 ∨ k = 10 ∨ k = 11 := by omega
  rcases this with rfl | rfl | rfl | rfl | rfl | rfl | rfl | rfl | rfl | rfl | rfl | rfl <;> decide
theorem c_X8_valueWord (w : Wd) (j : SJ) (l : Launch) (S : St) (k : Nat) (hk : k < 12) : gx_MJ w j l yX8_valueWord cX8_valueWord 2 (some (.object "java/lang/String")) rmX8_valueWord [.ref (ad (w_b w) 4), .int (nI k)] S (pA (.ref (j.1 (vwI k))) S) := by
  refine gx_startJ rfl 0 rfl (Nat.le_of_ble_eq_true rfl) ?_
  intro X C J hl
  subst hl
  refine gx_L (L' := [_, _]) rfl ?_
  refine g_iload_n (pc := 0) C dX8_valueWord_0 rfl ?_
  have : k = 0 ∨ k = 1 ∨ k = 2 ∨ k = 3 ∨ k = 4 ∨ k = 5 ∨ k = 6 ∨ k = 7 ∨ k = 8 ∨ k = 9 ∨ k = 10 ∨ k = 11 := by omega
  rcases this with rfl | rfl | rfl | rfl | rfl | rfl | rfl | rfl | rfl | rfl | rfl | rfl
  · refine g_tableIn (pc := 1) C 60 dX8_valueWord_1 (by decide) (by decide) rfl rfl ?_
    refine g_ldcS (pc := 60) C (js_X8_132 J) dX8_valueWord_60 ?_
    exact g_areturn (pc := 62) C (Or.inl ⟨_, rfl⟩) (Or.inr ⟨_, rfl⟩) ⟨rfl, rfl⟩ dX8_valueWord_62 ⟨rfl, rfl⟩
  · refine g_tableIn (pc := 1) C 63 dX8_valueWord_1 (by decide) (by decide) rfl rfl ?_
    refine g_ldcS (pc := 63) C (js_X8_134 J) dX8_valueWord_63 ?_
    exact g_areturn (pc := 65) C (Or.inl ⟨_, rfl⟩) (Or.inr ⟨_, rfl⟩) ⟨rfl, rfl⟩ dX8_valueWord_65 ⟨rfl, rfl⟩
  · refine g_tableIn (pc := 1) C 66 dX8_valueWord_1 (by decide) (by decide) rfl rfl ?_
    refine g_ldcS (pc := 66) C (js_X8_136 J) dX8_valueWord_66 ?_
    exact g_areturn (pc := 68) C (Or.inl ⟨_, rfl⟩) (Or.inr ⟨_, rfl⟩) ⟨rfl, rfl⟩ dX8_valueWord_68 ⟨rfl, rfl⟩
  · refine g_tableIn (pc := 1) C 69 dX8_valueWord_1 (by decide) (by decide) rfl rfl ?_
    refine g_ldcS (pc := 69) C (js_X8_138 J) dX8_valueWord_69 ?_
    exact g_areturn (pc := 71) C (Or.inl ⟨_, rfl⟩) (Or.inr ⟨_, rfl⟩) ⟨rfl, rfl⟩ dX8_valueWord_71 ⟨rfl, rfl⟩
  · refine g_tableIn (pc := 1) C 72 dX8_valueWord_1 (by decide) (by decide) rfl rfl ?_
    refine g_ldcS (pc := 72) C (js_X8_140 J) dX8_valueWord_72 ?_
    exact g_areturn (pc := 74) C (Or.inl ⟨_, rfl⟩) (Or.inr ⟨_, rfl⟩) ⟨rfl, rfl⟩ dX8_valueWord_74 ⟨rfl, rfl⟩
  · refine g_tableIn (pc := 1) C 75 dX8_valueWord_1 (by decide) (by decide) rfl rfl ?_
    refine g_ldcS (pc := 75) C (js_X8_142 J) dX8_valueWord_75 ?_
    exact g_areturn (pc := 77) C (Or.inl ⟨_, rfl⟩) (Or.inr ⟨_, rfl⟩) ⟨rfl, rfl⟩ dX8_valueWord_77 ⟨rfl, rfl⟩
  · refine g_tableIn (pc := 1) C 78 dX8_valueWord_1 (by decide) (by decide) rfl rfl ?_
    refine g_ldcS (pc := 78) C (js_X8_144 J) dX8_valueWord_78 ?_
    exact g_areturn (pc := 80) C (Or.inl ⟨_, rfl⟩) (Or.inr ⟨_, rfl⟩) ⟨rfl, rfl⟩ dX8_valueWord_80 ⟨rfl, rfl⟩
  · refine g_tableIn (pc := 1) C 81 dX8_valueWord_1 (by decide) (by decide) rfl rfl ?_
    refine g_ldcS (pc := 81) C (js_X8_146 J) dX8_valueWord_81 ?_
    exact g_areturn (pc := 83) C (Or.inl ⟨_, rfl⟩) (Or.inr ⟨_, rfl⟩) ⟨rfl, rfl⟩ dX8_valueWord_83 ⟨rfl, rfl⟩
  · refine g_tableIn (pc := 1) C 84 dX8_valueWord_1 (by decide) (by decide) rfl rfl ?_
    refine g_ldcS (pc := 84) C (js_X8_148 J) dX8_valueWord_84 ?_
    exact g_areturn (pc := 86) C (Or.inl ⟨_, rfl⟩) (Or.inr ⟨_, rfl⟩) ⟨rfl, rfl⟩ dX8_valueWord_86 ⟨rfl, rfl⟩
  · refine g_tableIn (pc := 1) C 87 dX8_valueWord_1 (by decide) (by decide) rfl rfl ?_
    refine g_ldcS (pc := 87) C (js_X8_150 J) dX8_valueWord_87 ?_
    exact g_areturn (pc := 89) C (Or.inl ⟨_, rfl⟩) (Or.inr ⟨_, rfl⟩) ⟨rfl, rfl⟩ dX8_valueWord_89 ⟨rfl, rfl⟩
  · refine g_tableIn (pc := 1) C 90 dX8_valueWord_1 (by decide) (by decide) rfl rfl ?_
    refine g_ldcS (pc := 90) C (js_X8_152 J) dX8_valueWord_90 ?_
    exact g_areturn (pc := 92) C (Or.inl ⟨_, rfl⟩) (Or.inr ⟨_, rfl⟩) ⟨rfl, rfl⟩ dX8_valueWord_92 ⟨rfl, rfl⟩
  · refine g_tableOut (pc := 1) C 93 dX8_valueWord_1 (Or.inr (by decide)) rfl ?_
    refine g_ldcS (pc := 93) C (js_X8_154 J) dX8_valueWord_93 ?_
    exact g_areturn (pc := 95) C (Or.inl ⟨_, rfl⟩) (Or.inr ⟨_, rfl⟩) ⟨rfl, rfl⟩ dX8_valueWord_95 ⟨rfl, rfl⟩
theorem wh_0 {T : Nat → Int32} {L q : Nat} (h : ∀ i, i < 0 → ¬ wdP T L q (jsV (vwI i))) (hk : wdP T L q (jsV (vwI 0))) : whF T L q = nI 0 := by
  unfold whF
  exact if_neg (fun z => bI_0.mp z hk)
theorem wh_1 {T : Nat → Int32} {L q : Nat} (h : ∀ i, i < 1 → ¬ wdP T L q (jsV (vwI i))) (hk : wdP T L q (jsV (vwI 1))) : whF T L q = nI 1 := by
  unfold whF
  rw [if_pos (show bI (wdP T L q 123581014175598) = 0 from bI_0.mpr (h 0 (by decide)))]
  exact if_neg (fun z => bI_0.mp z hk)
theorem wh_2 {T : Nat → Int32} {L q : Nat} (h : ∀ i, i < 2 → ¬ wdP T L q (jsV (vwI i))) (hk : wdP T L q (jsV (vwI 2))) : whF T L q = nI 2 := by
  unfold whF
  rw [if_pos (show bI (wdP T L q 123581014175598) = 0 from bI_0.mpr (h 0 (by decide)))]
  rw [if_pos (show bI (wdP T L q 6383981) = 0 from bI_0.mpr (h 1 (by decide)))]
  exact if_neg (fun z => bI_0.mp z hk)
theorem wh_3 {T : Nat → Int32} {L q : Nat} (h : ∀ i, i < 3 → ¬ wdP T L q (jsV (vwI i))) (hk : wdP T L q (jsV (vwI 3))) : whF T L q = nI 3 := by
  unfold whF
  rw [if_pos (show bI (wdP T L q 123581014175598) = 0 from bI_0.mpr (h 0 (by decide)))]
  rw [if_pos (show bI (wdP T L q 6383981) = 0 from bI_0.mpr (h 1 (by decide)))]
  rw [if_pos (show bI (wdP T L q 444301539187) = 0 from bI_0.mpr (h 2 (by decide)))]
  exact if_neg (fun z => bI_0.mp z hk)
theorem wh_4 {T : Nat → Int32} {L q : Nat} (h : ∀ i, i < 4 → ¬ wdP T L q (jsV (vwI i))) (hk : wdP T L q (jsV (vwI 4))) : whF T L q = nI 4 := by
  unfold whF
  rw [if_pos (show bI (wdP T L q 123581014175598) = 0 from bI_0.mpr (h 0 (by decide)))]
  rw [if_pos (show bI (wdP T L q 6383981) = 0 from bI_0.mpr (h 1 (by decide)))]
  rw [if_pos (show bI (wdP T L q 444301539187) = 0 from bI_0.mpr (h 2 (by decide)))]
  rw [if_pos (show bI (wdP T L q 465624852596) = 0 from bI_0.mpr (h 3 (by decide)))]
  exact if_neg (fun z => bI_0.mp z hk)
theorem wh_5 {T : Nat → Int32} {L q : Nat} (h : ∀ i, i < 5 → ¬ wdP T L q (jsV (vwI i))) (hk : wdP T L q (jsV (vwI 5))) : whF T L q = nI 5 := by
  unfold whF
  rw [if_pos (show bI (wdP T L q 123581014175598) = 0 from bI_0.mpr (h 0 (by decide)))]
  rw [if_pos (show bI (wdP T L q 6383981) = 0 from bI_0.mpr (h 1 (by decide)))]
  rw [if_pos (show bI (wdP T L q 444301539187) = 0 from bI_0.mpr (h 2 (by decide)))]
  rw [if_pos (show bI (wdP T L q 465624852596) = 0 from bI_0.mpr (h 3 (by decide)))]
  rw [if_pos (show bI (wdP T L q 1936286821) = 0 from bI_0.mpr (h 4 (by decide)))]
  exact if_neg (fun z => bI_0.mp z hk)
theorem wh_6 {T : Nat → Int32} {L q : Nat} (h : ∀ i, i < 6 → ¬ wdP T L q (jsV (vwI i))) (hk : wdP T L q (jsV (vwI 6))) : whF T L q = nI 6 := by
  unfold whF
  rw [if_pos (show bI (wdP T L q 123581014175598) = 0 from bI_0.mpr (h 0 (by decide)))]
  rw [if_pos (show bI (wdP T L q 6383981) = 0 from bI_0.mpr (h 1 (by decide)))]
  rw [if_pos (show bI (wdP T L q 444301539187) = 0 from bI_0.mpr (h 2 (by decide)))]
  rw [if_pos (show bI (wdP T L q 465624852596) = 0 from bI_0.mpr (h 3 (by decide)))]
  rw [if_pos (show bI (wdP T L q 1936286821) = 0 from bI_0.mpr (h 4 (by decide)))]
  rw [if_pos (show bI (wdP T L q 1752135026) = 0 from bI_0.mpr (h 5 (by decide)))]
  exact if_neg (fun z => bI_0.mp z hk)
theorem wh_7 {T : Nat → Int32} {L q : Nat} (h : ∀ i, i < 7 → ¬ wdP T L q (jsV (vwI i))) (hk : wdP T L q (jsV (vwI 7))) : whF T L q = nI 7 := by
  unfold whF
  rw [if_pos (show bI (wdP T L q 123581014175598) = 0 from bI_0.mpr (h 0 (by decide)))]
  rw [if_pos (show bI (wdP T L q 6383981) = 0 from bI_0.mpr (h 1 (by decide)))]
  rw [if_pos (show bI (wdP T L q 444301539187) = 0 from bI_0.mpr (h 2 (by decide)))]
  rw [if_pos (show bI (wdP T L q 465624852596) = 0 from bI_0.mpr (h 3 (by decide)))]
  rw [if_pos (show bI (wdP T L q 1936286821) = 0 from bI_0.mpr (h 4 (by decide)))]
  rw [if_pos (show bI (wdP T L q 1752135026) = 0 from bI_0.mpr (h 5 (by decide)))]
  rw [if_pos (show bI (wdP T L q 131277443786868) = 0 from bI_0.mpr (h 6 (by decide)))]
  exact if_neg (fun z => bI_0.mp z hk)
theorem wh_8 {T : Nat → Int32} {L q : Nat} (h : ∀ i, i < 8 → ¬ wdP T L q (jsV (vwI i))) (hk : wdP T L q (jsV (vwI 8))) : whF T L q = nI 8 := by
  unfold whF
  rw [if_pos (show bI (wdP T L q 123581014175598) = 0 from bI_0.mpr (h 0 (by decide)))]
  rw [if_pos (show bI (wdP T L q 6383981) = 0 from bI_0.mpr (h 1 (by decide)))]
  rw [if_pos (show bI (wdP T L q 444301539187) = 0 from bI_0.mpr (h 2 (by decide)))]
  rw [if_pos (show bI (wdP T L q 465624852596) = 0 from bI_0.mpr (h 3 (by decide)))]
  rw [if_pos (show bI (wdP T L q 1936286821) = 0 from bI_0.mpr (h 4 (by decide)))]
  rw [if_pos (show bI (wdP T L q 1752135026) = 0 from bI_0.mpr (h 5 (by decide)))]
  rw [if_pos (show bI (wdP T L q 131277443786868) = 0 from bI_0.mpr (h 6 (by decide)))]
  rw [if_pos (show bI (wdP T L q 1919905645) = 0 from bI_0.mpr (h 7 (by decide)))]
  exact if_neg (fun z => bI_0.mp z hk)
theorem wh_9 {T : Nat → Int32} {L q : Nat} (h : ∀ i, i < 9 → ¬ wdP T L q (jsV (vwI i))) (hk : wdP T L q (jsV (vwI 9))) : whF T L q = nI 9 := by
  unfold whF
  rw [if_pos (show bI (wdP T L q 123581014175598) = 0 from bI_0.mpr (h 0 (by decide)))]
  rw [if_pos (show bI (wdP T L q 6383981) = 0 from bI_0.mpr (h 1 (by decide)))]
  rw [if_pos (show bI (wdP T L q 444301539187) = 0 from bI_0.mpr (h 2 (by decide)))]
  rw [if_pos (show bI (wdP T L q 465624852596) = 0 from bI_0.mpr (h 3 (by decide)))]
  rw [if_pos (show bI (wdP T L q 1936286821) = 0 from bI_0.mpr (h 4 (by decide)))]
  rw [if_pos (show bI (wdP T L q 1752135026) = 0 from bI_0.mpr (h 5 (by decide)))]
  rw [if_pos (show bI (wdP T L q 131277443786868) = 0 from bI_0.mpr (h 6 (by decide)))]
  rw [if_pos (show bI (wdP T L q 1919905645) = 0 from bI_0.mpr (h 7 (by decide)))]
  rw [if_pos (show bI (wdP T L q 107075403346532) = 0 from bI_0.mpr (h 8 (by decide)))]
  exact if_neg (fun z => bI_0.mp z hk)
theorem wh_10 {T : Nat → Int32} {L q : Nat} (h : ∀ i, i < 10 → ¬ wdP T L q (jsV (vwI i))) (hk : wdP T L q (jsV (vwI 10))) : whF T L q = nI 10 := by
  unfold whF
  rw [if_pos (show bI (wdP T L q 123581014175598) = 0 from bI_0.mpr (h 0 (by decide)))]
  rw [if_pos (show bI (wdP T L q 6383981) = 0 from bI_0.mpr (h 1 (by decide)))]
  rw [if_pos (show bI (wdP T L q 444301539187) = 0 from bI_0.mpr (h 2 (by decide)))]
  rw [if_pos (show bI (wdP T L q 465624852596) = 0 from bI_0.mpr (h 3 (by decide)))]
  rw [if_pos (show bI (wdP T L q 1936286821) = 0 from bI_0.mpr (h 4 (by decide)))]
  rw [if_pos (show bI (wdP T L q 1752135026) = 0 from bI_0.mpr (h 5 (by decide)))]
  rw [if_pos (show bI (wdP T L q 131277443786868) = 0 from bI_0.mpr (h 6 (by decide)))]
  rw [if_pos (show bI (wdP T L q 1919905645) = 0 from bI_0.mpr (h 7 (by decide)))]
  rw [if_pos (show bI (wdP T L q 107075403346532) = 0 from bI_0.mpr (h 8 (by decide)))]
  rw [if_pos (show bI (wdP T L q 512735409267) = 0 from bI_0.mpr (h 9 (by decide)))]
  exact if_neg (fun z => bI_0.mp z hk)
theorem wh_11 {T : Nat → Int32} {L q : Nat} (h : ∀ i, i < 11 → ¬ wdP T L q (jsV (vwI i))) (hk : wdP T L q (jsV (vwI 11))) : whF T L q = nI 11 := by
  unfold whF
  rw [if_pos (show bI (wdP T L q 123581014175598) = 0 from bI_0.mpr (h 0 (by decide)))]
  rw [if_pos (show bI (wdP T L q 6383981) = 0 from bI_0.mpr (h 1 (by decide)))]
  rw [if_pos (show bI (wdP T L q 444301539187) = 0 from bI_0.mpr (h 2 (by decide)))]
  rw [if_pos (show bI (wdP T L q 465624852596) = 0 from bI_0.mpr (h 3 (by decide)))]
  rw [if_pos (show bI (wdP T L q 1936286821) = 0 from bI_0.mpr (h 4 (by decide)))]
  rw [if_pos (show bI (wdP T L q 1752135026) = 0 from bI_0.mpr (h 5 (by decide)))]
  rw [if_pos (show bI (wdP T L q 131277443786868) = 0 from bI_0.mpr (h 6 (by decide)))]
  rw [if_pos (show bI (wdP T L q 1919905645) = 0 from bI_0.mpr (h 7 (by decide)))]
  rw [if_pos (show bI (wdP T L q 107075403346532) = 0 from bI_0.mpr (h 8 (by decide)))]
  rw [if_pos (show bI (wdP T L q 512735409267) = 0 from bI_0.mpr (h 9 (by decide)))]
  rw [if_pos (show bI (wdP T L q 1836020325) = 0 from bI_0.mpr (h 10 (by decide)))]
  exact if_neg (fun z => bI_0.mp z hk)
theorem wh_12 {T : Nat → Int32} {L q : Nat} (h : ∀ i, i < 12 → ¬ wdP T L q (jsV (vwI i))) : whF T L q = -1 := by
  unfold whF
  rw [if_pos (show bI (wdP T L q 123581014175598) = 0 from bI_0.mpr (h 0 (by decide)))]
  rw [if_pos (show bI (wdP T L q 6383981) = 0 from bI_0.mpr (h 1 (by decide)))]
  rw [if_pos (show bI (wdP T L q 444301539187) = 0 from bI_0.mpr (h 2 (by decide)))]
  rw [if_pos (show bI (wdP T L q 465624852596) = 0 from bI_0.mpr (h 3 (by decide)))]
  rw [if_pos (show bI (wdP T L q 1936286821) = 0 from bI_0.mpr (h 4 (by decide)))]
  rw [if_pos (show bI (wdP T L q 1752135026) = 0 from bI_0.mpr (h 5 (by decide)))]
  rw [if_pos (show bI (wdP T L q 131277443786868) = 0 from bI_0.mpr (h 6 (by decide)))]
  rw [if_pos (show bI (wdP T L q 1919905645) = 0 from bI_0.mpr (h 7 (by decide)))]
  rw [if_pos (show bI (wdP T L q 107075403346532) = 0 from bI_0.mpr (h 8 (by decide)))]
  rw [if_pos (show bI (wdP T L q 512735409267) = 0 from bI_0.mpr (h 9 (by decide)))]
  rw [if_pos (show bI (wdP T L q 1836020325) = 0 from bI_0.mpr (h 10 (by decide)))]
  rw [if_pos (show bI (wdP T L q 6713191) = 0 from bI_0.mpr (h 11 (by decide)))]
theorem wh_at {T : Nat → Int32} {L q k : Nat} (hk12 : k < 12) (h : ∀ i, i < k → ¬ wdP T L q (jsV (vwI i))) (hk : wdP T L q (jsV (vwI k))) : whF T L q = nI k := by
  have : k = 0 ∨ k = 1 ∨ k = 2 ∨ k = 3 ∨ k = 4 ∨ k = 5 ∨ k = 6 ∨ k = 7 ∨ k = 8 ∨ k = 9 ∨ k = 10 ∨ k = 11 := by omega
  rcases this with rfl | rfl | rfl | rfl | rfl | rfl | rfl | rfl | rfl | rfl | rfl | rfl
  · exact wh_0 h hk
  · exact wh_1 h hk
  · exact wh_2 h hk
  · exact wh_3 h hk
  · exact wh_4 h hk
  · exact wh_5 h hk
  · exact wh_6 h hk
  · exact wh_7 h hk
  · exact wh_8 h hk
  · exact wh_9 h hk
  · exact wh_10 h hk
  · exact wh_11 h hk
