/-! ===== the law's cases: asks ===== -/
section
variable {S T : St} {q : K5} {c ca cg cl ce P H m nr j z L : Nat} {u : Nat → Int32} {f x : Int32} {Fs : Nat → (Nat → Int64) → Int64} {W : Nat → Nat → Int32} {Tp : Nat → Int32} {im : Nat → Option IMt}
theorem RI.d0 (h : RI S P H nr z L u f x Fs W Tp im) : s_I S 1123 1000 = 0 := h.d.trans nI_0
theorem RI.xs (h : RI S P H nr z L u f x Fs W Tp im) : s_I S 1122 1000 = x := h.2.2.1.2.1
theorem nt_of (h : aK S c ca cg cl ce P H m nr u f x Fs) : gx_nt u m := by
  obtain ⟨h1, h2, h3, h4⟩ := aK.no h
  exact ⟨h3, h2, fun q hq => by
    obtain ⟨n, i, d, g1, g2, g3, g4, g5, g6, g7⟩ := h4 q hq
    have := aK.P7 h
    exact ⟨i, by omega, g5⟩⟩
theorem ask2l {ok : Prop} [Decidable ok] {a b : Int32} {v : Option Value} {u' : Nat → Int32} (h : CI S q c ca cg cl ce P H m nr j z L u f x Fs W Tp im) (g : RI S P H nr z L u f x Fs W Tp im) (hu : s_A S 1010 = u') (p : if ok then (∃ hb B' W' t', v = some (.int a) ∧ T = scw (liU (keepS S) hb u') B' W' t') else (v = some (.int b) ∧ T = S)) : v = some (.int (if ok then a else b)) ∧ INV T := by
  by_cases hk : ok
  · rw [if_pos hk] at p ⊢
    obtain ⟨hb, B', W', t', rfl, rfl⟩ := p
    exact ⟨rfl, INV.rk h g (eqO_keep.trans ((eqO.sA (k := 1019) ⟨by decide, by decide⟩).trans ((eqO.sA (k := 1010) ⟨by decide, by decide⟩).trans eqO_scw))) ⟨⟨rfl, fun _ => rfl⟩, ⟨rfl, rfl, rfl, rfl, rfl, rfl⟩, rfl, rfl, rfl, rfl, hu.symm, rfl, rfl, rfl, rfl, rfl⟩⟩
  · rw [if_neg hk] at p ⊢
    obtain ⟨rfl, rfl⟩ := p
    exact ⟨rfl, INV.mk h g⟩
theorem ask2f {ok : Prop} [Decidable ok] {a b : Int32} {v : Option Value} (h : CI S q c ca cg cl ce P H m nr j z L u f x Fs W Tp im) (g : RI S P H nr z L u f x Fs W Tp im) (p : if ok then (∃ x' B' W' t', v = some (.int a) ∧ T = scw (s_setL (keepS S) 1137 1000 x') B' W' t') else (v = some (.int b) ∧ T = S)) : v = some (.int (if ok then a else b)) ∧ INV T := by
  by_cases hk : ok
  · rw [if_pos hk] at p ⊢
    obtain ⟨x', B', W', t', rfl, rfl⟩ := p
    exact ⟨rfl, INV.rk h g (eqO_keep.trans ((eqO.sL (k := 1000) ⟨by decide, by decide⟩).trans eqO_scw)) ⟨⟨rfl, fun _ => rfl⟩, ⟨rfl, rfl, rfl, rfl, rfl, rfl⟩, rfl, rfl, rfl, rfl, rfl, rfl, rfl, rfl, rfl, rfl⟩⟩
  · rw [if_neg hk] at p ⊢
    obtain ⟨rfl, rfl⟩ := p
    exact ⟨rfl, INV.mk h g⟩
theorem ask2r {ok : Prop} [Decidable ok] {a b : Int32} {v : Option Value} (h : CI S q c ca cg cl ce P H m nr j z L u f x Fs W Tp im) (g : RI S P H nr z L u f x Fs W Tp im) (p : if ok then (∃ f' g' B' W' t', v = some (.int a) ∧ T = scw (s_setA (s_setA (keepS S) 1020 f') 1021 g') B' W' t') else (v = some (.int b) ∧ T = S)) : v = some (.int (if ok then a else b)) ∧ INV T := by
  by_cases hk : ok
  · rw [if_pos hk] at p ⊢
    obtain ⟨f', g', B', W', t', rfl, rfl⟩ := p
    exact ⟨rfl, INV.rk h g (eqO_keep.trans ((eqO.sA (k := 1020) ⟨by decide, by decide⟩).trans ((eqO.sA (k := 1021) ⟨by decide, by decide⟩).trans eqO_scw))) ⟨⟨rfl, fun _ => rfl⟩, ⟨rfl, rfl, rfl, rfl, rfl, rfl⟩, rfl, rfl, rfl, rfl, rfl, rfl, rfl, rfl, rfl, rfl⟩⟩
  · rw [if_neg hk] at p ⊢
    obtain ⟨rfl, rfl⟩ := p
    exact ⟨rfl, INV.mk h g⟩
end
theorem law_person {w : Wd} {X : FX} {j : SJ} {b Ln i n1 n2 : Nat} {xs : Nat → Int32} {Q : State → Prop} {S : St} {q : K5} {c ca cg cl ce P H m nr jj z L : Nat} {u : Nat → Int32} {f x : Int32} {Fs : Nat → (Nat → Int64) → Int64} {W : Nat → Nat → Int32} {Tp : Nat → Int32} {im : Nat → Option IMt} (K : lwK w X j b Ln xs) (hi : i + 6 ≤ Ln) (hn1 : n1 ≤ 10000) (hn2 : n2 ≤ 3000000) (hC : CI S q c ca cg cl ce P H m nr jj z L u f x Fs W Tp im) (hR : RI S P H nr z L u f x Fs W Tp im) (k : lwN w X b i n1 n2 Q) : gx_G w X S n1 n2 315 (lwL w b i) [] Q := by
  obtain ⟨C, V, hX, hb, hn⟩ := K
  refine g_aload_n (pc := 315) C dL_law_315 rfl ?_
  refine g_aload_n (pc := 316) C dL_law_316 rfl ?_
  refine g_iload_n (pc := 317) C dL_law_317 rfl ?_
  refine g_iconst (pc := 318) (v := nI 1) C dL_law_318 (by decide) ?_
  refine g_iadd (pc := 319) C dL_law_319 ?_
  refine g_sld (pc := 320) (j := i + 1) C hX hb hn (nI_add _ _) (by omega) dL_law_320 ?_
  refine g_aload_n (pc := 321) C dL_law_321 rfl ?_
  refine g_iload_n (pc := 322) C dL_law_322 rfl ?_
  refine g_iconst (pc := 323) (v := nI 2) C dL_law_323 (by decide) ?_
  refine g_iadd (pc := 324) C dL_law_324 ?_
  refine g_sld (pc := 325) (j := i + 2) C hX hb hn (nI_add _ _) (by omega) dL_law_325 ?_
  refine cg_L_36 (pc := 326) C rfl (zk (ok5 (aK.af hC.1).1 (by decide))) (c_X11_person w _ S c ca cg cl ce P H m nr u f x Fs hC.1 (xs (i + 1)) (xs (i + 2))) ⟨rfl, rfl⟩ ⟨by show n1 + 0 ≤ 600000; omega, by show n2 + 0 ≤ 7302250; omega⟩ rfl (Nat.le_of_ble_eq_true rfl) dL_law_326 ?_
  rintro v1 S1 p1
  obtain ⟨rfl, rfl⟩ := p1
  have hR1 := hR
  refine g_aload_n (pc := 329) C dL_law_329 rfl ?_
  refine g_aload_n (pc := 330) C dL_law_330 rfl ?_
  refine g_iload_n (pc := 331) C dL_law_331 rfl ?_
  refine g_iconst (pc := 332) (v := nI 1) C dL_law_332 (by decide) ?_
  refine g_iadd (pc := 333) C dL_law_333 ?_
  refine g_sld (pc := 334) (j := i + 1) C hX hb hn (nI_add _ _) (by omega) dL_law_334 ?_
  refine g_aload_n (pc := 335) C dL_law_335 rfl ?_
  refine g_iload_n (pc := 336) C dL_law_336 rfl ?_
  refine g_iconst (pc := 337) (v := nI 2) C dL_law_337 (by decide) ?_
  refine g_iadd (pc := 338) C dL_law_338 ?_
  refine g_sld (pc := 339) (j := i + 2) C hX hb hn (nI_add _ _) (by omega) dL_law_339 ?_
  refine cg_L_40 (pc := 340) C rfl (m_z hR1.1 rfl) (c_X12_person w _ S1 hR1.1 P H hR1.p (xs (i + 1)) (xs (i + 2))) ⟨rfl, rfl⟩ ⟨by show n1 + 0 + 0 ≤ 600000; omega, by show n2 + 0 + 0 ≤ 7302250; omega⟩ rfl (Nat.le_of_ble_eq_true rfl) dL_law_340 ?_
  rintro v2 S2 p2
  rw [hR1.sai] at p2
  obtain ⟨rfl, rfl⟩ := p2
  have hI := INV.mk hC hR
  refine g_icmp_eq (pc := 343) C 1099 dL_law_343 rfl (fun _ => ?_) (fun cn => absurd rfl cn)
  exact k S2 _ _ (by show n1 + 0 + 0 ≤ n1 + 5; omega) (by show n2 + 0 + 0 ≤ n2 + 600; omega) hI
