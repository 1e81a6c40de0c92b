/-! ===== lighten, row, fewest ===== -/
section
variable {S T : St} {q : K5} {c ca cg cl ce P H m nr j z L : Nat} {u : Nat → Int32} {f x : Int32} {Fs : Nat → (Nat → Int64) → Int64} {W : Nat → Nat → Int32} {Tp : Nat → Int32} {im : Nat → Option IMt}
theorem aP_A {a : Int32} {v : Option Value} {k : Nat} (p : aP S a v T) (hk : 1000 ≤ k ∧ k < 1026) : s_A T k = s_A S k := p.2.1.A (fun q => dD_dM q hk)
theorem ask2h {ok : Prop} [Decidable ok] {a b : Int32} {v : Option Value} {M V : Nat → Int32} (h : CI S q c ca cg cl ce P H m nr j z L u f x Fs W Tp im) (g : RI S P H nr z L u f x Fs W Tp im) (p : if ok then (v = some (.int a) ∧ T = lwS S M V) else (v = some (.int b) ∧ T = S)) : v = some (.int (if ok then a else b)) ∧ INV T := by
  by_cases hk : ok
  · rw [if_pos hk] at p ⊢
    obtain ⟨rfl, rfl⟩ := p
    exact ⟨rfl, INV.rk h g ((eqO.sA (k := 1013) ⟨by decide, by decide⟩).trans (eqO.sA (k := 1014) ⟨by decide, by decide⟩)) ⟨⟨rfl, fun _ => rfl⟩, ⟨rfl, rfl, rfl, rfl, rfl, rfl⟩, rfl, rfl, rfl, rfl, rfl, rfl, rfl, rfl, rfl, rfl⟩⟩
  · rw [if_neg hk] at p ⊢
    obtain ⟨rfl, rfl⟩ := p
    exact ⟨rfl, INV.mk h g⟩
theorem ask2w {ok : Prop} [Decidable ok] {a b t : Int32} {v : Option Value} {B : Nat → Int32} (h : CI S q c ca cg cl ce P H m nr j z L u f x Fs W Tp im) (g : RI S P H nr z L u f x Fs W Tp im) (p : if ok then (∃ R, v = some (.int a) ∧ T = rwS S R B t) else (v = some (.int b) ∧ T = S)) : v = some (.int (if ok then a else b)) ∧ INV T := by
  by_cases hk : ok
  · rw [if_pos hk] at p ⊢
    obtain ⟨R, rfl, rfl⟩ := p
    exact ⟨rfl, INV.rk h g ((eqO.sA (k := 1017) ⟨by decide, by decide⟩).trans ((eqO.sA (k := 1018) ⟨by decide, by decide⟩).trans (eqO.sI (k := 1000) ⟨by decide, by decide⟩))) ⟨⟨rfl, fun _ => rfl⟩, ⟨rfl, rfl, rfl, rfl, rfl, rfl⟩, rfl, rfl, rfl, rfl, rfl, rfl, rfl, rfl, rfl, rfl⟩⟩
  · rw [if_neg hk] at p ⊢
    obtain ⟨rfl, rfl⟩ := p
    exact ⟨rfl, INV.mk h g⟩
theorem u11 (h : aK S c ca cg cl ce P H m nr u f x Fs) : ∃ b, b < 2 ∧ u 11 = nI b := (aK.rv h).2.2.1.elim (fun e => ⟨0, by decide, e⟩) (fun e => ⟨1, by decide, e⟩)
theorem few2 {b : Nat} {what a : Int32} {N V Nn : Nat → Int32} {v : Option Value} (h : CI S q c ca cg cl ce P H m nr j z L u f x Fs W Tp im) (g : RI S P H nr z L u f x Fs W Tp im) (hb : b < 2) (f1 : mostOK u what → dsP (plF P (vU u P H)) (2 ^ P - 1) N ∧ fwOK (plF P (vU u P H)) (2 ^ P - 1) N (128 * b + onN u (nI 1) P) what a) (f2 : ¬ mostOK u what → a = -1) (V0 : Nat → Int32) (hV0 : V0 = btF (boF 0 u P H) V (2 ^ P)) (N0 : Nat → Int32) (hN0 : N0 = n0F (2 ^ P - 1) Nn 256) (p : if mostOK u what then (∃ n y, n ≤ 256 ∧ (∀ i, i < n → mrF (plF P V0) (2 ^ P - 1) (ndR (plF P V0) (2 ^ P - 1) N0 i) i 256 = true) ∧ mrF (plF P V0) (2 ^ P - 1) (ndR (plF P V0) (2 ^ P - 1) N0 n) n 256 = false ∧ T = ndS S V0 (ndR (plF P V0) (2 ^ P - 1) N0 (n + 1)) ∧ v = some (.int y) ∧ fwOK (plF P V0) (2 ^ P - 1) (ndR (plF P V0) (2 ^ P - 1) N0 (n + 1)) (128 * b + onN u (nI 1) P) what y) else (v = some (.int (-1)) ∧ T = S)) : v = some (.int a) ∧ INV T := by
  by_cases hk : mostOK u what
  · rw [if_pos hk] at p
    obtain ⟨n, y, hn, -, hm, rfl, rfl, hf⟩ := p
    obtain ⟨d1, w1⟩ := f1 hk
    have hP := aK.P7 h.1
    have h2P := p128 hP
    have hpl : ∀ j s, dmP (2 ^ P - 1) j → s < 2 ^ P - 1 + 1 → plF P V0 j s = plF P (vU u P H) j s := pl_ext hP (fun s hs => by
      subst hV0
      unfold btF
      constructor
      · rw [if_pos ⟨by omega, by rw [Nat.mod_eq_of_lt (by omega)]; exact hs⟩]; rfl
      · rw [if_pos ⟨by omega, by rw [Nat.add_mod_left, Nat.mod_eq_of_lt (by omega)]; exact hs⟩]; rfl)
    have hD : ∀ V' : Nat → Int32, ∀ j s t, dmP (2 ^ P - 1) j → s < 2 ^ P - 1 + 1 → plF P V' j s = some t → dmP (2 ^ P - 1) t := fun V' j s t hj hs e => (pl_some hP hj (by omega) e).1
    have h0 : ∀ j, j < 256 → N0 j = nI 0 ∨ N0 j = -1 := fun j hj => by
      subst hN0
      unfold n0F
      rw [if_pos hj]
      split
      · exact Or.inl rfl
      · exact Or.inr rfl
    have hA : ∀ j, dmP (2 ^ P - 1) j → (N0 j = nI 0 ↔ j % 128 = 2 ^ P - 1) := fun j hj => by
      subst hN0
      unfold n0F
      rw [if_pos hj.1]
      split
      · next e => exact ⟨fun _ => e, fun _ => rfl⟩
      · next e => exact ⟨fun q => absurd q (by decide), fun q => absurd q e⟩
    obtain ⟨en, dn⟩ := ds_nd h0 hA (hD V0) hn hm
    rw [en] at hf
    have d2 := ds_ext (pl2 := plF P (vU u P H)) dn (fun j s hj hs => (hpl j s hj hs).symm)
    have e := fw_one d1 d2 (dm_place hP hb (onN_lt u (nI 1) P)) hpl (hD _) w1 hf
    refine ⟨by rw [e], INV.rk h g ((eqO.sA (k := 1016) ⟨by decide, by decide⟩).trans (eqO.sA (k := 1015) ⟨by decide, by decide⟩)) ⟨⟨rfl, fun _ => rfl⟩, ⟨rfl, rfl, rfl, rfl, rfl, rfl⟩, rfl, rfl, rfl, rfl, rfl, rfl, rfl, rfl, rfl, rfl⟩⟩
  · rw [if_neg hk] at p
    obtain ⟨rfl, rfl⟩ := p
    exact ⟨by rw [f2 hk], INV.mk h g⟩
end
theorem law_lighten {w : Wd} {X : FX} {j : SJ} {b Ln i n1 n2 : Nat} {xs : Nat → Int32} {Q : State → Prop} {S : St} {q : K5} {c ca cg cl ce P H m nr jj z L : Nat} {u : Nat → Int32} {f x : Int32} {Fs : Nat → (Nat → Int64) → Int64} {W : Nat → Nat → Int32} {Tp : Nat → Int32} {im : Nat → Option IMt} (K : lwK w X j b Ln xs) (hi : i + 6 ≤ Ln) (hn1 : n1 ≤ 10000) (hn2 : n2 ≤ 3000000) (hC : CI S q c ca cg cl ce P H m nr jj z L u f x Fs W Tp im) (hR : RI S P H nr z L u f x Fs W Tp im) (k : lwN w X b i n1 n2 Q) : gx_G w X S n1 n2 598 (lwL w b i) [] Q := by
  obtain ⟨C, V, hX, hb, hn⟩ := K
  refine g_aload_n (pc := 598) C dL_law_598 rfl ?_
  refine g_aload_n (pc := 599) C dL_law_599 rfl ?_
  refine g_iload_n (pc := 600) C dL_law_600 rfl ?_
  refine g_iconst (pc := 601) (v := nI 1) C dL_law_601 (by decide) ?_
  refine g_iadd (pc := 602) C dL_law_602 ?_
  refine g_sld (pc := 603) (j := i + 1) C hX hb hn (nI_add _ _) (by omega) dL_law_603 ?_
  refine cg_L_82 (pc := 604) C rfl (zk (ok5 (aK.af hC.1).1 (by decide))) (c_X11_lighten w _ S c ca cg cl ce P H m nr u f x Fs hC.1 (s_A S 1013) (s_A S 1014) (xs (i + 1))) ⟨rfl, rfl⟩ ⟨by show n1 + 0 ≤ 600000; omega, by show n2 + 0 ≤ 7302250; omega⟩ rfl (Nat.le_of_ble_eq_true rfl) dL_law_604 ?_
  rintro v1 S1 p1
  have e3 := aP_A p1 (k := 1013) ⟨by decide, by decide⟩
  have e4 := aP_A p1 (k := 1014) ⟨by decide, by decide⟩
  obtain ⟨rfl, hC1, hR1⟩ := ask1 hC hR p1
  refine g_aload_n (pc := 607) C dL_law_607 rfl ?_
  refine g_aload_n (pc := 608) C dL_law_608 rfl ?_
  refine g_iload_n (pc := 609) C dL_law_609 rfl ?_
  refine g_iconst (pc := 610) (v := nI 1) C dL_law_610 (by decide) ?_
  refine g_iadd (pc := 611) C dL_law_611 ?_
  refine g_sld (pc := 612) (j := i + 1) C hX hb hn (nI_add _ _) (by omega) dL_law_612 ?_
  refine cg_L_85 (pc := 613) C rfl (m_z hR1.1 rfl) (c_X12_lighten w _ S1 hR1.1 P H hR1.p (xs (i + 1))) ⟨rfl, rfl⟩ ⟨by show n1 + 0 + 0 ≤ 600000; omega, by show n2 + 0 + 0 ≤ 7302250; omega⟩ rfl (Nat.le_of_ble_eq_true rfl) dL_law_613 ?_
  rintro v2 S2 p2
  rw [hR1.d0, hR1.sai, e3, e4] at p2
  obtain ⟨rfl, hI⟩ := ask2h hC1 hR1 p2
  refine g_icmp_eq (pc := 616) C 1099 dL_law_616 rfl (fun _ => ?_) (fun cn => absurd rfl cn)
  exact k S2 _ _ (by show n1 + 0 + 0 ≤ n1 + 5; omega) (by show n2 + 0 + 0 ≤ n2 + 600; omega) hI
theorem law_row {w : Wd} {X : FX} {j : SJ} {b Ln i n1 n2 : Nat} {xs : Nat → Int32} {Q : State → Prop} {S : St} {q : K5} {c ca cg cl ce P H m nr jj z L : Nat} {u : Nat → Int32} {f x : Int32} {Fs : Nat → (Nat → Int64) → Int64} {W : Nat → Nat → Int32} {Tp : Nat → Int32} {im : Nat → Option IMt} (K : lwK w X j b Ln xs) (hi : i + 6 ≤ Ln) (hn1 : n1 ≤ 10000) (hn2 : n2 ≤ 3000000) (hC : CI S q c ca cg cl ce P H m nr jj z L u f x Fs W Tp im) (hR : RI S P H nr z L u f x Fs W Tp im) (k : lwN w X b i n1 n2 Q) : gx_G w X S n1 n2 644 (lwL w b i) [] Q := by
  obtain ⟨C, V, hX, hb, hn⟩ := K
  refine g_aload_n (pc := 644) C dL_law_644 rfl ?_
  refine g_aload_n (pc := 645) C dL_law_645 rfl ?_
  refine g_iload_n (pc := 646) C dL_law_646 rfl ?_
  refine g_iconst (pc := 647) (v := nI 1) C dL_law_647 (by decide) ?_
  refine g_iadd (pc := 648) C dL_law_648 ?_
  refine g_sld (pc := 649) (j := i + 1) C hX hb hn (nI_add _ _) (by omega) dL_law_649 ?_
  refine cg_L_90 (pc := 650) C rfl (zk (ok5 (aK.af hC.1).1 (by decide))) (c_X11_row w _ S c ca cg cl ce P H m nr u f x Fs hC.1 (s_A S 1018) (xs (i + 1))) ⟨rfl, rfl⟩ ⟨by show n1 + 0 ≤ 600000; omega, by show n2 + 0 ≤ 7302250; omega⟩ rfl (Nat.le_of_ble_eq_true rfl) dL_law_650 ?_
  rintro v1 S1 p1
  have e3 := aP_A p1 (k := 1018) ⟨by decide, by decide⟩
  obtain ⟨rfl, hC1, hR1⟩ := ask1 hC hR p1
  refine g_aload_n (pc := 653) C dL_law_653 rfl ?_
  refine g_aload_n (pc := 654) C dL_law_654 rfl ?_
  refine g_iload_n (pc := 655) C dL_law_655 rfl ?_
  refine g_iconst (pc := 656) (v := nI 1) C dL_law_656 (by decide) ?_
  refine g_iadd (pc := 657) C dL_law_657 ?_
  refine g_sld (pc := 658) (j := i + 1) C hX hb hn (nI_add _ _) (by omega) dL_law_658 ?_
  refine cg_L_93 (pc := 659) C rfl (m_z hR1.1 rfl) (c_X12_row w _ S1 hR1.1 P H hR1.p (xs (i + 1))) ⟨rfl, rfl⟩ ⟨by show n1 + 0 + 0 ≤ 600000; omega, by show n2 + 0 + 0 ≤ 7302250; omega⟩ rfl (Nat.le_of_ble_eq_true rfl) dL_law_659 ?_
  rintro v2 S2 p2
  rw [hR1.sai, e3] at p2
  obtain ⟨rfl, hI⟩ := ask2w hC1 hR1 p2
  refine g_icmp_eq (pc := 662) C 1099 dL_law_662 rfl (fun _ => ?_) (fun cn => absurd rfl cn)
  exact k S2 _ _ (by show n1 + 0 + 0 ≤ n1 + 5; omega) (by show n2 + 0 + 0 ≤ n2 + 600; omega) hI
theorem law_fewest {w : Wd} {X : FX} {j : SJ} {b Ln i n1 n2 : Nat} {xs : Nat → Int32} {Q : State → Prop} {S : St} {q : K5} {c ca cg cl ce P H m nr jj z L : Nat} {u : Nat → Int32} {f x : Int32} {Fs : Nat → (Nat → Int64) → Int64} {W : Nat → Nat → Int32} {Tp : Nat → Int32} {im : Nat → Option IMt} (K : lwK w X j b Ln xs) (hi : i + 6 ≤ Ln) (hn1 : n1 ≤ 10000) (hn2 : n2 ≤ 3000000) (hC : CI S q c ca cg cl ce P H m nr jj z L u f x Fs W Tp im) (hR : RI S P H nr z L u f x Fs W Tp im) (k : lwN w X b i n1 n2 Q) : gx_G w X S n1 n2 621 (lwL w b i) [] Q := by
  obtain ⟨C, V, hX, hb, hn⟩ := K
  obtain ⟨b0, hb0, hB0⟩ := u11 hC.1
  refine g_aload_n (pc := 621) C dL_law_621 rfl ?_
  refine g_aload_n (pc := 622) C dL_law_622 rfl ?_
  refine g_iload_n (pc := 623) C dL_law_623 rfl ?_
  refine g_iconst (pc := 624) (v := nI 1) C dL_law_624 (by decide) ?_
  refine g_iadd (pc := 625) C dL_law_625 ?_
  refine g_sld (pc := 626) (j := i + 1) C hX hb hn (nI_add _ _) (by omega) dL_law_626 ?_
  refine cg_L_86 (pc := 627) C rfl (zk (ok5 (aK.af hC.1).1 (by decide))) (c_X11_fewest w _ S c ca cg cl ce P H m nr u f x Fs hC.1 b0 hb0 hB0 (xs (i + 1))) ⟨rfl, rfl⟩ ⟨by show n1 + 0 ≤ 600000; omega, by show n2 + 0 ≤ 7302250; omega⟩ rfl (Nat.le_of_ble_eq_true rfl) dL_law_627 ?_
  rintro v1 S1 p1
  obtain ⟨⟨a, N, rfl, f1, f2⟩, e1⟩ := p1
  obtain ⟨-, hC1, hR1⟩ := ask1 (a := a) (v := some (.int a)) hC hR ⟨rfl, e1⟩
  refine g_aload_n (pc := 630) C dL_law_630 rfl ?_
  refine g_aload_n (pc := 631) C dL_law_631 rfl ?_
  refine g_iload_n (pc := 632) C dL_law_632 rfl ?_
  refine g_iconst (pc := 633) (v := nI 1) C dL_law_633 (by decide) ?_
  refine g_iadd (pc := 634) C dL_law_634 ?_
  refine g_sld (pc := 635) (j := i + 1) C hX hb hn (nI_add _ _) (by omega) dL_law_635 ?_
  refine cg_L_89 (pc := 636) C rfl (m_z hR1.1 rfl) (c_X12_fewest w _ S1 hR1.1 P H hR1.p b0 hb0 (by rw [hR1.sai]; exact hB0) _ rfl _ rfl (xs (i + 1))) ⟨rfl, rfl⟩ ⟨by show n1 + 0 + 0 ≤ 600000; omega, by show n2 + 0 + 0 ≤ 7302250; omega⟩ rfl (Nat.le_of_ble_eq_true rfl) dL_law_636 ?_
  rintro v2 S2 p2
  rw [hR1.d0, hR1.sai] at p2
  obtain ⟨rfl, hI⟩ := few2 hC1 hR1 hb0 f1 f2 _ rfl _ rfl p2
  refine g_icmp_eq (pc := 639) C 1099 dL_law_639 rfl (fun _ => ?_) (fun cn => absurd rfl cn)
  exact k S2 _ _ (by show n1 + 0 + 0 ≤ n1 + 5; omega) (by show n2 + 0 + 0 ≤ n2 + 600; omega) hI
