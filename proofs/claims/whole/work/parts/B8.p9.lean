/-! ===== the law's cases: asks ===== -/
section
variable {S T : St} {q : K5} {c ca cg cl ce P H m nr j z L : Nat} {u : Nat → Int32} {f x : Int32} {Fs : Nat → (Nat → Int64) → Int64} {W : Nat → Nat → Int32} {Tp : Nat → Int32} {im : Nat → Option IMt}
theorem RI.d0 (h : RI S P H nr z L u f x Fs W Tp im) : s_I S 1123 1000 = 0 := h.d.trans nI_0
theorem RI.xs (h : RI S P H nr z L u f x Fs W Tp im) : s_I S 1122 1000 = x := h.2.2.1.2.1
theorem nt_of (h : aK S c ca cg cl ce P H m nr u f x Fs) : gx_nt u m := by
  obtain ⟨h1, h2, h3, h4⟩ := aK.no h
  exact ⟨h3, h2, fun q hq => by
    obtain ⟨n, i, d, g1, g2, g3, g4, g5, g6, g7⟩ := h4 q hq
    have := aK.P7 h
    exact ⟨i, by omega, g5⟩⟩
theorem ask2l {ok : Prop} [Decidable ok] {a b : Int32} {v : Option Value} {u' : Nat → Int32} (h : CI S q c ca cg cl ce P H m nr j z L u f x Fs W Tp im) (g : RI S P H nr z L u f x Fs W Tp im) (hu : s_A S 1010 = u') (p : if ok then (∃ hb B' W' t', v = some (.int a) ∧ T = scw (liU (keepS S) hb u') B' W' t') else (v = some (.int b) ∧ T = S)) : v = some (.int (if ok then a else b)) ∧ INV T := by
  by_cases hk : ok
  · rw [if_pos hk] at p ⊢
    obtain ⟨hb, B', W', t', rfl, rfl⟩ := p
    exact ⟨rfl, INV.rk h g (eqO_keep.trans ((eqO.sA (k := 1019) ⟨by decide, by decide⟩).trans ((eqO.sA (k := 1010) ⟨by decide, by decide⟩).trans eqO_scw))) ⟨⟨rfl, fun _ => rfl⟩, ⟨rfl, rfl, rfl, rfl, rfl, rfl⟩, rfl, rfl, rfl, rfl, hu.symm, rfl, rfl, rfl, rfl, rfl⟩⟩
  · rw [if_neg hk] at p ⊢
    obtain ⟨rfl, rfl⟩ := p
    exact ⟨rfl, INV.mk h g⟩
theorem ask2f {ok : Prop} [Decidable ok] {a b : Int32} {v : Option Value} (h : CI S q c ca cg cl ce P H m nr j z L u f x Fs W Tp im) (g : RI S P H nr z L u f x Fs W Tp im) (p : if ok then (∃ x' B' W' t', v = some (.int a) ∧ T = scw (s_setL (keepS S) 1137 1000 x') B' W' t') else (v = some (.int b) ∧ T = S)) : v = some (.int (if ok then a else b)) ∧ INV T := by
  by_cases hk : ok
  · rw [if_pos hk] at p ⊢
    obtain ⟨x', B', W', t', rfl, rfl⟩ := p
    exact ⟨rfl, INV.rk h g (eqO_keep.trans ((eqO.sL (k := 1000) ⟨by decide, by decide⟩).trans eqO_scw)) ⟨⟨rfl, fun _ => rfl⟩, ⟨rfl, rfl, rfl, rfl, rfl, rfl⟩, rfl, rfl, rfl, rfl, rfl, rfl, rfl, rfl, rfl, rfl⟩⟩
  · rw [if_neg hk] at p ⊢
    obtain ⟨rfl, rfl⟩ := p
    exact ⟨rfl, INV.mk h g⟩
theorem ask2r {ok : Prop} [Decidable ok] {a b : Int32} {v : Option Value} (h : CI S q c ca cg cl ce P H m nr j z L u f x Fs W Tp im) (g : RI S P H nr z L u f x Fs W Tp im) (p : if ok then (∃ f' g' B' W' t', v = some (.int a) ∧ T = scw (s_setA (s_setA (keepS S) 1020 f') 1021 g') B' W' t') else (v = some (.int b) ∧ T = S)) : v = some (.int (if ok then a else b)) ∧ INV T := by
  by_cases hk : ok
  · rw [if_pos hk] at p ⊢
    obtain ⟨f', g', B', W', t', rfl, rfl⟩ := p
    exact ⟨rfl, INV.rk h g (eqO_keep.trans ((eqO.sA (k := 1020) ⟨by decide, by decide⟩).trans ((eqO.sA (k := 1021) ⟨by decide, by decide⟩).trans eqO_scw))) ⟨⟨rfl, fun _ => rfl⟩, ⟨rfl, rfl, rfl, rfl, rfl, rfl⟩, rfl, rfl, rfl, rfl, rfl, rfl, rfl, rfl, rfl, rfl⟩⟩
  · rw [if_neg hk] at p ⊢
    obtain ⟨rfl, rfl⟩ := p
    exact ⟨rfl, INV.mk h g⟩
end
theorem law_person {w : Wd} {X : FX} {j : SJ} {b Ln i n1 n2 : Nat} {xs : Nat → Int32} {Q : State → Prop} {S : St} {q : K5} {c ca cg cl ce P H m nr jj z L : Nat} {u : Nat → Int32} {f x : Int32} {Fs : Nat → (Nat → Int64) → Int64} {W : Nat → Nat → Int32} {Tp : Nat → Int32} {im : Nat → Option IMt} (K : lwK w X j b Ln xs) (hi : i + 6 ≤ Ln) (hn1 : n1 ≤ 10000) (hn2 : n2 ≤ 3000000) (hC : CI S q c ca cg cl ce P H m nr jj z L u f x Fs W Tp im) (hR : RI S P H nr z L u f x Fs W Tp im) (k : lwN w X b i n1 n2 Q) : gx_G w X S n1 n2 315 (lwL w b i) [] Q := by
  obtain ⟨C, V, hX, hb, hn⟩ := K
  refine g_aload_n (pc := 315) C dL_law_315 rfl ?_
  refine g_aload_n (pc := 316) C dL_law_316 rfl ?_
  refine g_iload_n (pc := 317) C dL_law_317 rfl ?_
  refine g_iconst (pc := 318) (v := nI 1) C dL_law_318 (by decide) ?_
  refine g_iadd (pc := 319) C dL_law_319 ?_
  refine g_sld (pc := 320) (j := i + 1) C hX hb hn (nI_add _ _) (by omega) dL_law_320 ?_
  refine g_aload_n (pc := 321) C dL_law_321 rfl ?_
  refine g_iload_n (pc := 322) C dL_law_322 rfl ?_
  refine g_iconst (pc := 323) (v := nI 2) C dL_law_323 (by decide) ?_
  refine g_iadd (pc := 324) C dL_law_324 ?_
  refine g_sld (pc := 325) (j := i + 2) C hX hb hn (nI_add _ _) (by omega) dL_law_325 ?_
  refine cg_L_36 (pc := 326) C rfl (zk (ok5 (aK.af hC.1).1 (by decide))) (c_X11_person w _ S c ca cg cl ce P H m nr u f x Fs hC.1 (xs (i + 1)) (xs (i + 2))) ⟨rfl, rfl⟩ ⟨by show n1 + 0 ≤ 600000; omega, by show n2 + 0 ≤ 7302250; omega⟩ rfl (Nat.le_of_ble_eq_true rfl) dL_law_326 ?_
  rintro v1 S1 p1
  obtain ⟨rfl, rfl⟩ := p1
  have hR1 := hR
  refine g_aload_n (pc := 329) C dL_law_329 rfl ?_
  refine g_aload_n (pc := 330) C dL_law_330 rfl ?_
  refine g_iload_n (pc := 331) C dL_law_331 rfl ?_
  refine g_iconst (pc := 332) (v := nI 1) C dL_law_332 (by decide) ?_
  refine g_iadd (pc := 333) C dL_law_333 ?_
  refine g_sld (pc := 334) (j := i + 1) C hX hb hn (nI_add _ _) (by omega) dL_law_334 ?_
  refine g_aload_n (pc := 335) C dL_law_335 rfl ?_
  refine g_iload_n (pc := 336) C dL_law_336 rfl ?_
  refine g_iconst (pc := 337) (v := nI 2) C dL_law_337 (by decide) ?_
  refine g_iadd (pc := 338) C dL_law_338 ?_
  refine g_sld (pc := 339) (j := i + 2) C hX hb hn (nI_add _ _) (by omega) dL_law_339 ?_
  refine cg_L_40 (pc := 340) C rfl (m_z hR1.1 rfl) (c_X12_person w _ S1 hR1.1 P H hR1.p (xs (i + 1)) (xs (i + 2))) ⟨rfl, rfl⟩ ⟨by show n1 + 0 + 0 ≤ 600000; omega, by show n2 + 0 + 0 ≤ 7302250; omega⟩ rfl (Nat.le_of_ble_eq_true rfl) dL_law_340 ?_
  rintro v2 S2 p2
  rw [hR1.sai] at p2
  obtain ⟨rfl, rfl⟩ := p2
  have hI := INV.mk hC hR
  refine g_icmp_eq (pc := 343) C 1099 dL_law_343 rfl (fun _ => ?_) (fun cn => absurd rfl cn)
  exact k S2 _ _ (by show n1 + 0 + 0 ≤ n1 + 5; omega) (by show n2 + 0 + 0 ≤ n2 + 600; omega) hI
theorem law_beside {w : Wd} {X : FX} {j : SJ} {b Ln i n1 n2 : Nat} {xs : Nat → Int32} {Q : State → Prop} {S : St} {q : K5} {c ca cg cl ce P H m nr jj z L : Nat} {u : Nat → Int32} {f x : Int32} {Fs : Nat → (Nat → Int64) → Int64} {W : Nat → Nat → Int32} {Tp : Nat → Int32} {im : Nat → Option IMt} (K : lwK w X j b Ln xs) (hi : i + 6 ≤ Ln) (hn1 : n1 ≤ 10000) (hn2 : n2 ≤ 3000000) (hC : CI S q c ca cg cl ce P H m nr jj z L u f x Fs W Tp im) (hR : RI S P H nr z L u f x Fs W Tp im) (k : lwN w X b i n1 n2 Q) : gx_G w X S n1 n2 348 (lwL w b i) [] Q := by
  obtain ⟨C, V, hX, hb, hn⟩ := K
  refine g_aload_n (pc := 348) C dL_law_348 rfl ?_
  refine g_aload_n (pc := 349) C dL_law_349 rfl ?_
  refine g_iload_n (pc := 350) C dL_law_350 rfl ?_
  refine g_iconst (pc := 351) (v := nI 1) C dL_law_351 (by decide) ?_
  refine g_iadd (pc := 352) C dL_law_352 ?_
  refine g_sld (pc := 353) (j := i + 1) C hX hb hn (nI_add _ _) (by omega) dL_law_353 ?_
  refine g_aload_n (pc := 354) C dL_law_354 rfl ?_
  refine g_iload_n (pc := 355) C dL_law_355 rfl ?_
  refine g_iconst (pc := 356) (v := nI 2) C dL_law_356 (by decide) ?_
  refine g_iadd (pc := 357) C dL_law_357 ?_
  refine g_sld (pc := 358) (j := i + 2) C hX hb hn (nI_add _ _) (by omega) dL_law_358 ?_
  refine cg_L_41 (pc := 359) C rfl (zk (ok5 (aK.af hC.1).1 (by decide))) (c_X11_beside w _ S c ca cg cl ce P H m nr u f x Fs hC.1 (xs (i + 1)) (xs (i + 2))) ⟨rfl, rfl⟩ ⟨by show n1 + 0 ≤ 600000; omega, by show n2 + 0 ≤ 7302250; omega⟩ rfl (Nat.le_of_ble_eq_true rfl) dL_law_359 ?_
  rintro v1 S1 p1
  obtain ⟨rfl, rfl⟩ := p1
  have hR1 := hR
  refine g_aload_n (pc := 362) C dL_law_362 rfl ?_
  refine g_aload_n (pc := 363) C dL_law_363 rfl ?_
  refine g_iload_n (pc := 364) C dL_law_364 rfl ?_
  refine g_iconst (pc := 365) (v := nI 1) C dL_law_365 (by decide) ?_
  refine g_iadd (pc := 366) C dL_law_366 ?_
  refine g_sld (pc := 367) (j := i + 1) C hX hb hn (nI_add _ _) (by omega) dL_law_367 ?_
  refine g_aload_n (pc := 368) C dL_law_368 rfl ?_
  refine g_iload_n (pc := 369) C dL_law_369 rfl ?_
  refine g_iconst (pc := 370) (v := nI 2) C dL_law_370 (by decide) ?_
  refine g_iadd (pc := 371) C dL_law_371 ?_
  refine g_sld (pc := 372) (j := i + 2) C hX hb hn (nI_add _ _) (by omega) dL_law_372 ?_
  refine cg_L_44 (pc := 373) C rfl (m_z hR1.1 rfl) (c_X12_beside w _ S1 hR1.1 P H hR1.p (xs (i + 1)) (xs (i + 2))) ⟨rfl, rfl⟩ ⟨by show n1 + 0 + 0 ≤ 600000; omega, by show n2 + 0 + 0 ≤ 7302250; omega⟩ rfl (Nat.le_of_ble_eq_true rfl) dL_law_373 ?_
  rintro v2 S2 p2
  rw [hR1.sai] at p2
  obtain ⟨rfl, rfl⟩ := p2
  have hI := INV.mk hC hR
  refine g_icmp_eq (pc := 376) C 1099 dL_law_376 rfl (fun _ => ?_) (fun cn => absurd rfl cn)
  exact k S2 _ _ (by show n1 + 0 + 0 ≤ n1 + 5; omega) (by show n2 + 0 + 0 ≤ n2 + 600; omega) hI
theorem law_weight {w : Wd} {X : FX} {j : SJ} {b Ln i n1 n2 : Nat} {xs : Nat → Int32} {Q : State → Prop} {S : St} {q : K5} {c ca cg cl ce P H m nr jj z L : Nat} {u : Nat → Int32} {f x : Int32} {Fs : Nat → (Nat → Int64) → Int64} {W : Nat → Nat → Int32} {Tp : Nat → Int32} {im : Nat → Option IMt} (K : lwK w X j b Ln xs) (hi : i + 6 ≤ Ln) (hn1 : n1 ≤ 10000) (hn2 : n2 ≤ 3000000) (hC : CI S q c ca cg cl ce P H m nr jj z L u f x Fs W Tp im) (hR : RI S P H nr z L u f x Fs W Tp im) (k : lwN w X b i n1 n2 Q) : gx_G w X S n1 n2 552 (lwL w b i) [] Q := by
  obtain ⟨C, V, hX, hb, hn⟩ := K
  refine g_aload_n (pc := 552) C dL_law_552 rfl ?_
  refine g_aload_n (pc := 553) C dL_law_553 rfl ?_
  refine g_iload_n (pc := 554) C dL_law_554 rfl ?_
  refine g_iconst (pc := 555) (v := nI 1) C dL_law_555 (by decide) ?_
  refine g_iadd (pc := 556) C dL_law_556 ?_
  refine g_sld (pc := 557) (j := i + 1) C hX hb hn (nI_add _ _) (by omega) dL_law_557 ?_
  refine cg_L_74 (pc := 558) C rfl (zk (ok5 (aK.af hC.1).1 (by decide))) (c_X11_weight w _ S c ca cg cl ce P H m nr u f x Fs hC.1 (xs (i + 1))) ⟨rfl, rfl⟩ ⟨by show n1 + 0 ≤ 600000; omega, by show n2 + 0 ≤ 7302250; omega⟩ rfl (Nat.le_of_ble_eq_true rfl) dL_law_558 ?_
  rintro v1 S1 p1
  obtain ⟨rfl, rfl⟩ := p1
  have hR1 := hR
  refine g_aload_n (pc := 561) C dL_law_561 rfl ?_
  refine g_aload_n (pc := 562) C dL_law_562 rfl ?_
  refine g_iload_n (pc := 563) C dL_law_563 rfl ?_
  refine g_iconst (pc := 564) (v := nI 1) C dL_law_564 (by decide) ?_
  refine g_iadd (pc := 565) C dL_law_565 ?_
  refine g_sld (pc := 566) (j := i + 1) C hX hb hn (nI_add _ _) (by omega) dL_law_566 ?_
  refine cg_L_77 (pc := 567) C rfl (m_z hR1.1 rfl) (c_X12_weight w _ S1 hR1.1 P H hR1.p (xs (i + 1))) ⟨rfl, rfl⟩ ⟨by show n1 + 0 + 0 ≤ 600000; omega, by show n2 + 0 + 0 ≤ 7302250; omega⟩ rfl (Nat.le_of_ble_eq_true rfl) dL_law_567 ?_
  rintro v2 S2 p2
  rw [hR1.d0, hR1.sai] at p2
  obtain ⟨rfl, rfl⟩ := p2
  have hI := INV.mk hC hR
  refine g_icmp_eq (pc := 570) C 1099 dL_law_570 rfl (fun _ => ?_) (fun cn => absurd rfl cn)
  exact k S2 _ _ (by show n1 + 0 + 0 ≤ n1 + 5; omega) (by show n2 + 0 + 0 ≤ n2 + 600; omega) hI
theorem law_most {w : Wd} {X : FX} {j : SJ} {b Ln i n1 n2 : Nat} {xs : Nat → Int32} {Q : State → Prop} {S : St} {q : K5} {c ca cg cl ce P H m nr jj z L : Nat} {u : Nat → Int32} {f x : Int32} {Fs : Nat → (Nat → Int64) → Int64} {W : Nat → Nat → Int32} {Tp : Nat → Int32} {im : Nat → Option IMt} (K : lwK w X j b Ln xs) (hi : i + 6 ≤ Ln) (hn1 : n1 ≤ 10000) (hn2 : n2 ≤ 3000000) (hC : CI S q c ca cg cl ce P H m nr jj z L u f x Fs W Tp im) (hR : RI S P H nr z L u f x Fs W Tp im) (k : lwN w X b i n1 n2 Q) : gx_G w X S n1 n2 575 (lwL w b i) [] Q := by
  obtain ⟨C, V, hX, hb, hn⟩ := K
  refine g_aload_n (pc := 575) C dL_law_575 rfl ?_
  refine g_aload_n (pc := 576) C dL_law_576 rfl ?_
  refine g_iload_n (pc := 577) C dL_law_577 rfl ?_
  refine g_iconst (pc := 578) (v := nI 1) C dL_law_578 (by decide) ?_
  refine g_iadd (pc := 579) C dL_law_579 ?_
  refine g_sld (pc := 580) (j := i + 1) C hX hb hn (nI_add _ _) (by omega) dL_law_580 ?_
  refine cg_L_78 (pc := 581) C rfl (zk (ok5 (aK.af hC.1).1 (by decide))) (c_X11_most w _ S c ca cg cl ce P H m nr u f x Fs hC.1 (xs (i + 1))) ⟨rfl, rfl⟩ ⟨by show n1 + 0 ≤ 600000; omega, by show n2 + 0 ≤ 7302250; omega⟩ rfl (Nat.le_of_ble_eq_true rfl) dL_law_581 ?_
  rintro v1 S1 p1
  obtain ⟨rfl, hC1, hR1⟩ := ask1 hC hR p1
  refine g_aload_n (pc := 584) C dL_law_584 rfl ?_
  refine g_aload_n (pc := 585) C dL_law_585 rfl ?_
  refine g_iload_n (pc := 586) C dL_law_586 rfl ?_
  refine g_iconst (pc := 587) (v := nI 1) C dL_law_587 (by decide) ?_
  refine g_iadd (pc := 588) C dL_law_588 ?_
  refine g_sld (pc := 589) (j := i + 1) C hX hb hn (nI_add _ _) (by omega) dL_law_589 ?_
  refine cg_L_81 (pc := 590) C rfl (m_z hR1.1 rfl) (c_X12_most w _ S1 hR1.1 P H hR1.p (xs (i + 1))) ⟨rfl, rfl⟩ ⟨by show n1 + 0 + 0 ≤ 600000; omega, by show n2 + 0 + 0 ≤ 7302250; omega⟩ rfl (Nat.le_of_ble_eq_true rfl) dL_law_590 ?_
  rintro v2 S2 p2
  rw [hR1.d0, hR1.sai] at p2
  obtain ⟨rfl, rfl⟩ := p2
  have hI := INV.mk hC1 hR1
  refine g_icmp_eq (pc := 593) C 1099 dL_law_593 rfl (fun _ => ?_) (fun cn => absurd rfl cn)
  exact k S2 _ _ (by show n1 + 0 + 0 ≤ n1 + 5; omega) (by show n2 + 0 + 0 ≤ n2 + 600; omega) hI
theorem law_never {w : Wd} {X : FX} {j : SJ} {b Ln i n1 n2 : Nat} {xs : Nat → Int32} {Q : State → Prop} {S : St} {q : K5} {c ca cg cl ce P H m nr jj z L : Nat} {u : Nat → Int32} {f x : Int32} {Fs : Nat → (Nat → Int64) → Int64} {W : Nat → Nat → Int32} {Tp : Nat → Int32} {im : Nat → Option IMt} (K : lwK w X j b Ln xs) (hi : i + 6 ≤ Ln) (hn1 : n1 ≤ 10000) (hn2 : n2 ≤ 3000000) (hC : CI S q c ca cg cl ce P H m nr jj z L u f x Fs W Tp im) (hR : RI S P H nr z L u f x Fs W Tp im) (k : lwN w X b i n1 n2 Q) : gx_G w X S n1 n2 842 (lwL w b i) [] Q := by
  obtain ⟨C, V, hX, hb, hn⟩ := K
  refine g_aload_n (pc := 842) C dL_law_842 rfl ?_
  refine cg_L_115 (pc := 843) C rfl (zk (ok5 (aK.af hC.1).1 (by decide))) (c_X11_never w _ S c ca cg cl ce P H m nr u f x Fs hC.1 ) ⟨rfl, rfl⟩ ⟨by show n1 + 0 ≤ 600000; omega, by show n2 + 0 ≤ 7302250; omega⟩ rfl (Nat.le_of_ble_eq_true rfl) dL_law_843 ?_
  rintro v1 S1 p1
  obtain ⟨rfl, hC1, hR1⟩ := ask1 hC hR p1
  refine g_aload_n (pc := 846) C dL_law_846 rfl ?_
  refine cg_L_118 (pc := 847) C rfl (m_z hR1.1 rfl) (c_X12_never w _ S1 hR1.1 P H hR1.p ) ⟨rfl, rfl⟩ ⟨by show n1 + 0 + 0 ≤ 600000; omega, by show n2 + 0 + 0 ≤ 7302250; omega⟩ rfl (Nat.le_of_ble_eq_true rfl) dL_law_847 ?_
  rintro v2 S2 p2
  rw [hR1.d0, hR1.sai] at p2
  obtain ⟨rfl, rfl⟩ := p2
  have hI := INV.mk hC1 hR1
  refine g_icmp_eq (pc := 850) C 1099 dL_law_850 rfl (fun _ => ?_) (fun cn => absurd rfl cn)
  exact k S2 _ _ (by show n1 + 0 + 0 ≤ n1 + 5; omega) (by show n2 + 0 + 0 ≤ n2 + 600; omega) hI
theorem law_stay {w : Wd} {X : FX} {j : SJ} {b Ln i n1 n2 : Nat} {xs : Nat → Int32} {Q : State → Prop} {S : St} {q : K5} {c ca cg cl ce P H m nr jj z L : Nat} {u : Nat → Int32} {f x : Int32} {Fs : Nat → (Nat → Int64) → Int64} {W : Nat → Nat → Int32} {Tp : Nat → Int32} {im : Nat → Option IMt} (K : lwK w X j b Ln xs) (hi : i + 6 ≤ Ln) (hn1 : n1 ≤ 10000) (hn2 : n2 ≤ 3000000) (hC : CI S q c ca cg cl ce P H m nr jj z L u f x Fs W Tp im) (hR : RI S P H nr z L u f x Fs W Tp im) (k : lwN w X b i n1 n2 Q) : gx_G w X S n1 n2 710 (lwL w b i) [] Q := by
  obtain ⟨C, V, hX, hb, hn⟩ := K
  refine g_aload_n (pc := 710) C dL_law_710 rfl ?_
  refine g_aload_n (pc := 711) C dL_law_711 rfl ?_
  refine g_iload_n (pc := 712) C dL_law_712 rfl ?_
  refine g_iconst (pc := 713) (v := nI 1) C dL_law_713 (by decide) ?_
  refine g_iadd (pc := 714) C dL_law_714 ?_
  refine g_sld (pc := 715) (j := i + 1) C hX hb hn (nI_add _ _) (by omega) dL_law_715 ?_
  refine cg_L_98 (pc := 716) C rfl (zk (ok5 (aK.af hC.1).1 (by decide))) (c_X11_stay w _ S c ca cg cl ce P H m nr u f x Fs hC.1 (xs (i + 1))) ⟨rfl, rfl⟩ ⟨by show n1 + 0 ≤ 600000; omega, by show n2 + 0 ≤ 7302250; omega⟩ rfl (Nat.le_of_ble_eq_true rfl) dL_law_716 ?_
  rintro v1 S1 p1
  obtain ⟨rfl, hC1, hR1⟩ := ask1 hC hR p1
  refine g_aload_n (pc := 719) C dL_law_719 rfl ?_
  refine g_aload_n (pc := 720) C dL_law_720 rfl ?_
  refine g_iload_n (pc := 721) C dL_law_721 rfl ?_
  refine g_iconst (pc := 722) (v := nI 1) C dL_law_722 (by decide) ?_
  refine g_iadd (pc := 723) C dL_law_723 ?_
  refine g_sld (pc := 724) (j := i + 1) C hX hb hn (nI_add _ _) (by omega) dL_law_724 ?_
  refine cg_L_101 (pc := 725) C rfl (m_z hR1.1 rfl) (c_X12_stay w _ S1 hR1.1 P H hR1.p (xs (i + 1))) ⟨rfl, rfl⟩ ⟨by show n1 + 0 + 0 ≤ 600000; omega, by show n2 + 0 + 0 ≤ 7302250; omega⟩ rfl (Nat.le_of_ble_eq_true rfl) dL_law_725 ?_
  rintro v2 S2 p2
  rw [hR1.d0, hR1.sai] at p2
  obtain ⟨rfl, rfl⟩ := p2
  have hI := INV.mk hC1 hR1
  refine g_icmp_eq (pc := 728) C 1099 dL_law_728 rfl (fun _ => ?_) (fun cn => absurd rfl cn)
  exact k S2 _ _ (by show n1 + 0 + 0 ≤ n1 + 5; omega) (by show n2 + 0 + 0 ≤ n2 + 600; omega) hI
theorem law_fare {w : Wd} {X : FX} {j : SJ} {b Ln i n1 n2 : Nat} {xs : Nat → Int32} {Q : State → Prop} {S : St} {q : K5} {c ca cg cl ce P H m nr jj z L : Nat} {u : Nat → Int32} {f x : Int32} {Fs : Nat → (Nat → Int64) → Int64} {W : Nat → Nat → Int32} {Tp : Nat → Int32} {im : Nat → Option IMt} (K : lwK w X j b Ln xs) (hi : i + 6 ≤ Ln) (hn1 : n1 ≤ 10000) (hn2 : n2 ≤ 3000000) (hC : CI S q c ca cg cl ce P H m nr jj z L u f x Fs W Tp im) (hR : RI S P H nr z L u f x Fs W Tp im) (k : lwN w X b i n1 n2 Q) : gx_G w X S n1 n2 667 (lwL w b i) [] Q := by
  obtain ⟨C, V, hX, hb, hn⟩ := K
  refine g_aload_n (pc := 667) C dL_law_667 rfl ?_
  refine g_aload_n (pc := 668) C dL_law_668 rfl ?_
  refine g_iload_n (pc := 669) C dL_law_669 rfl ?_
  refine g_iconst (pc := 670) (v := nI 1) C dL_law_670 (by decide) ?_
  refine g_iadd (pc := 671) C dL_law_671 ?_
  refine g_sld (pc := 672) (j := i + 1) C hX hb hn (nI_add _ _) (by omega) dL_law_672 ?_
  refine g_aload_n (pc := 673) C dL_law_673 rfl ?_
  refine g_iload_n (pc := 674) C dL_law_674 rfl ?_
  refine g_iconst (pc := 675) (v := nI 2) C dL_law_675 (by decide) ?_
  refine g_iadd (pc := 676) C dL_law_676 ?_
  refine g_sld (pc := 677) (j := i + 2) C hX hb hn (nI_add _ _) (by omega) dL_law_677 ?_
  refine g_aload_n (pc := 678) C dL_law_678 rfl ?_
  refine g_iload_n (pc := 679) C dL_law_679 rfl ?_
  refine g_iconst (pc := 680) (v := nI 3) C dL_law_680 (by decide) ?_
  refine g_iadd (pc := 681) C dL_law_681 ?_
  refine g_sld (pc := 682) (j := i + 3) C hX hb hn (nI_add _ _) (by omega) dL_law_682 ?_
  refine cg_L_94 (pc := 683) C rfl (zk (ok5 (aK.af hC.1).1 (by decide))) (c_X11_fare w _ S c ca cg cl ce P H m nr u f x Fs hC.1 (xs (i + 1)) (xs (i + 2)) (xs (i + 3))) ⟨rfl, rfl⟩ ⟨by show n1 + 0 ≤ 600000; omega, by show n2 + 0 ≤ 7302250; omega⟩ rfl (Nat.le_of_ble_eq_true rfl) dL_law_683 ?_
  rintro v1 S1 p1
  obtain ⟨rfl, hC1, hR1⟩ := ask1 hC hR p1
  refine g_aload_n (pc := 686) C dL_law_686 rfl ?_
  refine g_aload_n (pc := 687) C dL_law_687 rfl ?_
  refine g_iload_n (pc := 688) C dL_law_688 rfl ?_
  refine g_iconst (pc := 689) (v := nI 1) C dL_law_689 (by decide) ?_
  refine g_iadd (pc := 690) C dL_law_690 ?_
  refine g_sld (pc := 691) (j := i + 1) C hX hb hn (nI_add _ _) (by omega) dL_law_691 ?_
  refine g_aload_n (pc := 692) C dL_law_692 rfl ?_
  refine g_iload_n (pc := 693) C dL_law_693 rfl ?_
  refine g_iconst (pc := 694) (v := nI 2) C dL_law_694 (by decide) ?_
  refine g_iadd (pc := 695) C dL_law_695 ?_
  refine g_sld (pc := 696) (j := i + 2) C hX hb hn (nI_add _ _) (by omega) dL_law_696 ?_
  refine g_aload_n (pc := 697) C dL_law_697 rfl ?_
  refine g_iload_n (pc := 698) C dL_law_698 rfl ?_
  refine g_iconst (pc := 699) (v := nI 3) C dL_law_699 (by decide) ?_
  refine g_iadd (pc := 700) C dL_law_700 ?_
  refine g_sld (pc := 701) (j := i + 3) C hX hb hn (nI_add _ _) (by omega) dL_law_701 ?_
  refine cg_L_97 (pc := 702) C rfl (m_z hR1.1 rfl) (c_X12_fare w _ S1 hR1.1 P H hR1.p (xs (i + 1)) (xs (i + 2)) (xs (i + 3))) ⟨rfl, rfl⟩ ⟨by show n1 + 0 + 0 ≤ 600000; omega, by show n2 + 0 + 0 ≤ 7302250; omega⟩ rfl (Nat.le_of_ble_eq_true rfl) dL_law_702 ?_
  rintro v2 S2 p2
  rw [hR1.sai] at p2
  obtain ⟨rfl, rfl⟩ := p2
  have hI := INV.mk hC1 hR1
  refine g_icmp_eq (pc := 705) C 1099 dL_law_705 rfl (fun _ => ?_) (fun cn => absurd rfl cn)
  exact k S2 _ _ (by show n1 + 0 + 0 ≤ n1 + 5; omega) (by show n2 + 0 + 0 ≤ n2 + 600; omega) hI
theorem law_ahead {w : Wd} {X : FX} {j : SJ} {b Ln i n1 n2 : Nat} {xs : Nat → Int32} {Q : State → Prop} {S : St} {q : K5} {c ca cg cl ce P H m nr jj z L : Nat} {u : Nat → Int32} {f x : Int32} {Fs : Nat → (Nat → Int64) → Int64} {W : Nat → Nat → Int32} {Tp : Nat → Int32} {im : Nat → Option IMt} (K : lwK w X j b Ln xs) (hi : i + 6 ≤ Ln) (hn1 : n1 ≤ 10000) (hn2 : n2 ≤ 3000000) (hC : CI S q c ca cg cl ce P H m nr jj z L u f x Fs W Tp im) (hR : RI S P H nr z L u f x Fs W Tp im) (k : lwN w X b i n1 n2 Q) : gx_G w X S n1 n2 496 (lwL w b i) [] Q := by
  obtain ⟨C, V, hX, hb, hn⟩ := K
  refine g_aload_n (pc := 496) C dL_law_496 rfl ?_
  refine g_aload_n (pc := 497) C dL_law_497 rfl ?_
  refine g_iload_n (pc := 498) C dL_law_498 rfl ?_
  refine g_iconst (pc := 499) (v := nI 1) C dL_law_499 (by decide) ?_
  refine g_iadd (pc := 500) C dL_law_500 ?_
  refine g_sld (pc := 501) (j := i + 1) C hX hb hn (nI_add _ _) (by omega) dL_law_501 ?_
  refine g_aload_n (pc := 502) C dL_law_502 rfl ?_
  refine g_iload_n (pc := 503) C dL_law_503 rfl ?_
  refine g_iconst (pc := 504) (v := nI 2) C dL_law_504 (by decide) ?_
  refine g_iadd (pc := 505) C dL_law_505 ?_
  refine g_sld (pc := 506) (j := i + 2) C hX hb hn (nI_add _ _) (by omega) dL_law_506 ?_
  refine g_aload_n (pc := 507) C dL_law_507 rfl ?_
  refine g_iload_n (pc := 508) C dL_law_508 rfl ?_
  refine g_iconst (pc := 509) (v := nI 3) C dL_law_509 (by decide) ?_
  refine g_iadd (pc := 510) C dL_law_510 ?_
  refine g_sld (pc := 511) (j := i + 3) C hX hb hn (nI_add _ _) (by omega) dL_law_511 ?_
  refine cg_L_65 (pc := 512) C rfl (zk (ok5 (aK.af hC.1).1 (by decide))) (c_X11_ahead w _ S c ca cg cl ce P H m nr u f x Fs hC.1 (xs (i + 1)) (xs (i + 2)) (xs (i + 3))) ⟨rfl, rfl⟩ ⟨by show n1 + 0 ≤ 600000; omega, by show n2 + 0 ≤ 7302250; omega⟩ rfl (Nat.le_of_ble_eq_true rfl) dL_law_512 ?_
  rintro v1 S1 p1
  obtain ⟨rfl, hC1, hR1⟩ := ask1 hC hR p1
  refine g_aload_n (pc := 515) C dL_law_515 rfl ?_
  refine g_aload_n (pc := 516) C dL_law_516 rfl ?_
  refine g_iload_n (pc := 517) C dL_law_517 rfl ?_
  refine g_iconst (pc := 518) (v := nI 1) C dL_law_518 (by decide) ?_
  refine g_iadd (pc := 519) C dL_law_519 ?_
  refine g_sld (pc := 520) (j := i + 1) C hX hb hn (nI_add _ _) (by omega) dL_law_520 ?_
  refine g_aload_n (pc := 521) C dL_law_521 rfl ?_
  refine g_iload_n (pc := 522) C dL_law_522 rfl ?_
  refine g_iconst (pc := 523) (v := nI 2) C dL_law_523 (by decide) ?_
  refine g_iadd (pc := 524) C dL_law_524 ?_
  refine g_sld (pc := 525) (j := i + 2) C hX hb hn (nI_add _ _) (by omega) dL_law_525 ?_
  refine g_aload_n (pc := 526) C dL_law_526 rfl ?_
  refine g_iload_n (pc := 527) C dL_law_527 rfl ?_
  refine g_iconst (pc := 528) (v := nI 3) C dL_law_528 (by decide) ?_
  refine g_iadd (pc := 529) C dL_law_529 ?_
  refine g_sld (pc := 530) (j := i + 3) C hX hb hn (nI_add _ _) (by omega) dL_law_530 ?_
  refine cg_L_69 (pc := 531) C rfl (m_z hR1.1 rfl) (c_X12_ahead w _ S1 hR1.1 P H hR1.p (aK.hr9 hC.1) (frF f Fs) (hR1.fr (aK.fok hC.1)) (xs (i + 1)) (xs (i + 2)) (xs (i + 3))) ⟨rfl, rfl⟩ ⟨by show n1 + 0 + 0 ≤ 600000; omega, by show n2 + 0 + 0 ≤ 7302250; omega⟩ rfl (Nat.le_of_ble_eq_true rfl) dL_law_531 ?_
  rintro v2 S2 p2
  rw [hR1.d, hR1.sai] at p2
  obtain ⟨rfl, hI⟩ := ask2 hC1 hR1 p2
  refine g_icmp_eq (pc := 534) C 1099 dL_law_534 rfl (fun _ => ?_) (fun cn => absurd rfl cn)
  exact k S2 _ _ (by show n1 + 0 + 0 ≤ n1 + 5; omega) (by show n2 + 0 + 0 ≤ n2 + 600; omega) hI
theorem law_over {w : Wd} {X : FX} {j : SJ} {b Ln i n1 n2 : Nat} {xs : Nat → Int32} {Q : State → Prop} {S : St} {q : K5} {c ca cg cl ce P H m nr jj z L : Nat} {u : Nat → Int32} {f x : Int32} {Fs : Nat → (Nat → Int64) → Int64} {W : Nat → Nat → Int32} {Tp : Nat → Int32} {im : Nat → Option IMt} (K : lwK w X j b Ln xs) (hi : i + 6 ≤ Ln) (hn1 : n1 ≤ 10000) (hn2 : n2 ≤ 3000000) (hC : CI S q c ca cg cl ce P H m nr jj z L u f x Fs W Tp im) (hR : RI S P H nr z L u f x Fs W Tp im) (k : lwN w X b i n1 n2 Q) : gx_G w X S n1 n2 539 (lwL w b i) [] Q := by
  obtain ⟨C, V, hX, hb, hn⟩ := K
  refine g_aload_n (pc := 539) C dL_law_539 rfl ?_
  refine cg_L_70 (pc := 540) C rfl (zk (ok5 (aK.af hC.1).1 (by decide))) (c_X11_over w _ S c ca cg cl ce P H m nr u f x Fs hC.1 ) ⟨rfl, rfl⟩ ⟨by show n1 + 0 ≤ 600000; omega, by show n2 + 0 ≤ 7302250; omega⟩ rfl (Nat.le_of_ble_eq_true rfl) dL_law_540 ?_
  rintro v1 S1 p1
  obtain ⟨rfl, hC1, hR1⟩ := ask1 hC hR p1
  refine g_aload_n (pc := 543) C dL_law_543 rfl ?_
  refine cg_L_73 (pc := 544) C rfl (m_z hR1.1 rfl) (c_X12_over w _ S1 hR1.1 P H hR1.p (aK.hr9 hC.1) (frF f Fs) (hR1.fr (aK.fok hC.1)) ) ⟨rfl, rfl⟩ ⟨by show n1 + 0 + 0 ≤ 600000; omega, by show n2 + 0 + 0 ≤ 7302250; omega⟩ rfl (Nat.le_of_ble_eq_true rfl) dL_law_544 ?_
  rintro v2 S2 p2
  rw [hR1.d, hR1.sai] at p2
  obtain ⟨rfl, hI⟩ := ask2 hC1 hR1 p2
  refine g_icmp_eq (pc := 547) C 1099 dL_law_547 rfl (fun _ => ?_) (fun cn => absurd rfl cn)
  exact k S2 _ _ (by show n1 + 0 + 0 ≤ n1 + 5; omega) (by show n2 + 0 + 0 ≤ n2 + 600; omega) hI
theorem law_waits {w : Wd} {X : FX} {j : SJ} {b Ln i n1 n2 : Nat} {xs : Nat → Int32} {Q : State → Prop} {S : St} {q : K5} {c ca cg cl ce P H m nr jj z L : Nat} {u : Nat → Int32} {f x : Int32} {Fs : Nat → (Nat → Int64) → Int64} {W : Nat → Nat → Int32} {Tp : Nat → Int32} {im : Nat → Option IMt} (K : lwK w X j b Ln xs) (hi : i + 6 ≤ Ln) (hn1 : n1 ≤ 10000) (hn2 : n2 ≤ 3000000) (hC : CI S q c ca cg cl ce P H m nr jj z L u f x Fs W Tp im) (hR : RI S P H nr z L u f x Fs W Tp im) (k : lwN w X b i n1 n2 Q) : gx_G w X S n1 n2 786 (lwL w b i) [] Q := by
  obtain ⟨C, V, hX, hb, hn⟩ := K
  refine g_aload_n (pc := 786) C dL_law_786 rfl ?_
  refine g_aload_n (pc := 787) C dL_law_787 rfl ?_
  refine g_iload_n (pc := 788) C dL_law_788 rfl ?_
  refine g_iconst (pc := 789) (v := nI 1) C dL_law_789 (by decide) ?_
  refine g_iadd (pc := 790) C dL_law_790 ?_
  refine g_sld (pc := 791) (j := i + 1) C hX hb hn (nI_add _ _) (by omega) dL_law_791 ?_
  refine cg_L_107 (pc := 792) C rfl (zk (ok5 (aK.af hC.1).1 (by decide))) (c_X11_waits w _ S c ca cg cl ce P H m nr u f x Fs hC.1 (xs (i + 1))) ⟨rfl, rfl⟩ ⟨by show n1 + 0 ≤ 600000; omega, by show n2 + 0 ≤ 7302250; omega⟩ rfl (Nat.le_of_ble_eq_true rfl) dL_law_792 ?_
  rintro v1 S1 p1
  obtain ⟨rfl, hC1, hR1⟩ := ask1 hC hR p1
  refine g_aload_n (pc := 795) C dL_law_795 rfl ?_
  refine g_aload_n (pc := 796) C dL_law_796 rfl ?_
  refine g_iload_n (pc := 797) C dL_law_797 rfl ?_
  refine g_iconst (pc := 798) (v := nI 1) C dL_law_798 (by decide) ?_
  refine g_iadd (pc := 799) C dL_law_799 ?_
  refine g_sld (pc := 800) (j := i + 1) C hX hb hn (nI_add _ _) (by omega) dL_law_800 ?_
  refine cg_L_110 (pc := 801) C rfl (m_z hR1.1 rfl) (c_X12_waits w _ S1 hR1.1 P H hR1.p (aK.hr9 hC.1) (frF f Fs) (hR1.fr (aK.fok hC.1)) (xs (i + 1))) ⟨rfl, rfl⟩ ⟨by show n1 + 0 + 0 ≤ 600000; omega, by show n2 + 0 + 0 ≤ 7302250; omega⟩ rfl (Nat.le_of_ble_eq_true rfl) dL_law_801 ?_
  rintro v2 S2 p2
  rw [hR1.d, hR1.sai] at p2
  obtain ⟨rfl, hI⟩ := ask2 hC1 hR1 p2
  refine g_icmp_eq (pc := 804) C 1099 dL_law_804 rfl (fun _ => ?_) (fun cn => absurd rfl cn)
  exact k S2 _ _ (by show n1 + 0 + 0 ≤ n1 + 5; omega) (by show n2 + 0 + 0 ≤ n2 + 600; omega) hI
theorem law_soothe {w : Wd} {X : FX} {j : SJ} {b Ln i n1 n2 : Nat} {xs : Nat → Int32} {Q : State → Prop} {S : St} {q : K5} {c ca cg cl ce P H m nr jj z L : Nat} {u : Nat → Int32} {f x : Int32} {Fs : Nat → (Nat → Int64) → Int64} {W : Nat → Nat → Int32} {Tp : Nat → Int32} {im : Nat → Option IMt} (K : lwK w X j b Ln xs) (hi : i + 6 ≤ Ln) (hn1 : n1 ≤ 10000) (hn2 : n2 ≤ 3000000) (hC : CI S q c ca cg cl ce P H m nr jj z L u f x Fs W Tp im) (hR : RI S P H nr z L u f x Fs W Tp im) (k : lwN w X b i n1 n2 Q) : gx_G w X S n1 n2 809 (lwL w b i) [] Q := by
  obtain ⟨C, V, hX, hb, hn⟩ := K
  refine g_aload_n (pc := 809) C dL_law_809 rfl ?_
  refine g_aload_n (pc := 810) C dL_law_810 rfl ?_
  refine g_iload_n (pc := 811) C dL_law_811 rfl ?_
  refine g_iconst (pc := 812) (v := nI 1) C dL_law_812 (by decide) ?_
  refine g_iadd (pc := 813) C dL_law_813 ?_
  refine g_sld (pc := 814) (j := i + 1) C hX hb hn (nI_add _ _) (by omega) dL_law_814 ?_
  refine g_aload_n (pc := 815) C dL_law_815 rfl ?_
  refine g_iload_n (pc := 816) C dL_law_816 rfl ?_
  refine g_iconst (pc := 817) (v := nI 2) C dL_law_817 (by decide) ?_
  refine g_iadd (pc := 818) C dL_law_818 ?_
  refine g_sld (pc := 819) (j := i + 2) C hX hb hn (nI_add _ _) (by omega) dL_law_819 ?_
  refine cg_L_111 (pc := 820) C rfl (zk (ok5 (aK.af hC.1).1 (by decide))) (c_X11_soothe w _ S c ca cg cl ce P H m nr u f x Fs hC.1 (xs (i + 1)) (xs (i + 2))) ⟨rfl, rfl⟩ ⟨by show n1 + 0 ≤ 600000; omega, by show n2 + 0 ≤ 7302250; omega⟩ rfl (Nat.le_of_ble_eq_true rfl) dL_law_820 ?_
  rintro v1 S1 p1
  obtain ⟨rfl, hC1, hR1⟩ := ask1 hC hR p1
  refine g_aload_n (pc := 823) C dL_law_823 rfl ?_
  refine g_aload_n (pc := 824) C dL_law_824 rfl ?_
  refine g_iload_n (pc := 825) C dL_law_825 rfl ?_
  refine g_iconst (pc := 826) (v := nI 1) C dL_law_826 (by decide) ?_
  refine g_iadd (pc := 827) C dL_law_827 ?_
  refine g_sld (pc := 828) (j := i + 1) C hX hb hn (nI_add _ _) (by omega) dL_law_828 ?_
  refine g_aload_n (pc := 829) C dL_law_829 rfl ?_
  refine g_iload_n (pc := 830) C dL_law_830 rfl ?_
  refine g_iconst (pc := 831) (v := nI 2) C dL_law_831 (by decide) ?_
  refine g_iadd (pc := 832) C dL_law_832 ?_
  refine g_sld (pc := 833) (j := i + 2) C hX hb hn (nI_add _ _) (by omega) dL_law_833 ?_
  refine cg_L_114 (pc := 834) C rfl (m_z hR1.1 rfl) (c_X12_soothe w _ S1 hR1.1 P H hR1.p (aK.hr9 hC.1) (frF f Fs) (hR1.fr (aK.fok hC.1)) (xs (i + 1)) (xs (i + 2))) ⟨rfl, rfl⟩ ⟨by show n1 + 0 + 0 ≤ 600000; omega, by show n2 + 0 + 0 ≤ 7302250; omega⟩ rfl (Nat.le_of_ble_eq_true rfl) dL_law_834 ?_
  rintro v2 S2 p2
  rw [hR1.d, hR1.sai] at p2
  obtain ⟨rfl, hI⟩ := ask2 hC1 hR1 p2
  refine g_icmp_eq (pc := 837) C 1099 dL_law_837 rfl (fun _ => ?_) (fun cn => absurd rfl cn)
  exact k S2 _ _ (by show n1 + 0 + 0 ≤ n1 + 5; omega) (by show n2 + 0 + 0 ≤ n2 + 600; omega) hI
theorem law_lies {w : Wd} {X : FX} {j : SJ} {b Ln i n1 n2 : Nat} {xs : Nat → Int32} {Q : State → Prop} {S : St} {q : K5} {c ca cg cl ce P H m nr jj z L : Nat} {u : Nat → Int32} {f x : Int32} {Fs : Nat → (Nat → Int64) → Int64} {W : Nat → Nat → Int32} {Tp : Nat → Int32} {im : Nat → Option IMt} (K : lwK w X j b Ln xs) (hi : i + 6 ≤ Ln) (hn1 : n1 ≤ 10000) (hn2 : n2 ≤ 3000000) (hC : CI S q c ca cg cl ce P H m nr jj z L u f x Fs W Tp im) (hR : RI S P H nr z L u f x Fs W Tp im) (k : lwN w X b i n1 n2 Q) : gx_G w X S n1 n2 733 (lwL w b i) [] Q := by
  obtain ⟨C, V, hX, hb, hn⟩ := K
  refine g_aload_n (pc := 733) C dL_law_733 rfl ?_
  refine g_aload_n (pc := 734) C dL_law_734 rfl ?_
  refine g_iload_n (pc := 735) C dL_law_735 rfl ?_
  refine g_iconst (pc := 736) (v := nI 1) C dL_law_736 (by decide) ?_
  refine g_iadd (pc := 737) C dL_law_737 ?_
  refine g_sld (pc := 738) (j := i + 1) C hX hb hn (nI_add _ _) (by omega) dL_law_738 ?_
  refine g_aload_n (pc := 739) C dL_law_739 rfl ?_
  refine g_iload_n (pc := 740) C dL_law_740 rfl ?_
  refine g_iconst (pc := 741) (v := nI 2) C dL_law_741 (by decide) ?_
  refine g_iadd (pc := 742) C dL_law_742 ?_
  refine g_sld (pc := 743) (j := i + 2) C hX hb hn (nI_add _ _) (by omega) dL_law_743 ?_
  refine g_aload_n (pc := 744) C dL_law_744 rfl ?_
  refine g_iload_n (pc := 745) C dL_law_745 rfl ?_
  refine g_iconst (pc := 746) (v := nI 3) C dL_law_746 (by decide) ?_
  refine g_iadd (pc := 747) C dL_law_747 ?_
  refine g_sld (pc := 748) (j := i + 3) C hX hb hn (nI_add _ _) (by omega) dL_law_748 ?_
  refine g_aload_n (pc := 749) C dL_law_749 rfl ?_
  refine g_iload_n (pc := 750) C dL_law_750 rfl ?_
  refine g_iconst (pc := 751) (v := nI 4) C dL_law_751 (by decide) ?_
  refine g_iadd (pc := 752) C dL_law_752 ?_
  refine g_sld (pc := 753) (j := i + 4) C hX hb hn (nI_add _ _) (by omega) dL_law_753 ?_
  refine cg_L_102 (pc := 754) C rfl (zk (ok5 (aK.af hC.1).1 (by decide))) (c_X11_lies w _ S c ca cg cl ce P H m nr u f x Fs hC.1 (xs (i + 1)) (xs (i + 2)) (xs (i + 3)) (xs (i + 4))) ⟨rfl, rfl⟩ ⟨by show n1 + 0 ≤ 600000; omega, by show n2 + 0 ≤ 7302250; omega⟩ rfl (Nat.le_of_ble_eq_true rfl) dL_law_754 ?_
  rintro v1 S1 p1
  obtain ⟨rfl, hC1, hR1⟩ := ask1 hC hR p1
  refine g_aload_n (pc := 757) C dL_law_757 rfl ?_
  refine g_aload_n (pc := 758) C dL_law_758 rfl ?_
  refine g_iload_n (pc := 759) C dL_law_759 rfl ?_
  refine g_iconst (pc := 760) (v := nI 1) C dL_law_760 (by decide) ?_
  refine g_iadd (pc := 761) C dL_law_761 ?_
  refine g_sld (pc := 762) (j := i + 1) C hX hb hn (nI_add _ _) (by omega) dL_law_762 ?_
  refine g_aload_n (pc := 763) C dL_law_763 rfl ?_
  refine g_iload_n (pc := 764) C dL_law_764 rfl ?_
  refine g_iconst (pc := 765) (v := nI 2) C dL_law_765 (by decide) ?_
  refine g_iadd (pc := 766) C dL_law_766 ?_
  refine g_sld (pc := 767) (j := i + 2) C hX hb hn (nI_add _ _) (by omega) dL_law_767 ?_
  refine g_aload_n (pc := 768) C dL_law_768 rfl ?_
  refine g_iload_n (pc := 769) C dL_law_769 rfl ?_
  refine g_iconst (pc := 770) (v := nI 3) C dL_law_770 (by decide) ?_
  refine g_iadd (pc := 771) C dL_law_771 ?_
  refine g_sld (pc := 772) (j := i + 3) C hX hb hn (nI_add _ _) (by omega) dL_law_772 ?_
  refine g_aload_n (pc := 773) C dL_law_773 rfl ?_
  refine g_iload_n (pc := 774) C dL_law_774 rfl ?_
  refine g_iconst (pc := 775) (v := nI 4) C dL_law_775 (by decide) ?_
  refine g_iadd (pc := 776) C dL_law_776 ?_
  refine g_sld (pc := 777) (j := i + 4) C hX hb hn (nI_add _ _) (by omega) dL_law_777 ?_
  refine cg_L_106 (pc := 778) C rfl (m_z hR1.1 rfl) (c_X12_lies w _ S1 hR1.1 P H hR1.p (aK.hr9 hC.1) (frF f Fs) (hR1.fr (aK.fok hC.1)) (xs (i + 1)) (xs (i + 2)) (xs (i + 3)) (xs (i + 4))) ⟨rfl, rfl⟩ ⟨by show n1 + 0 + 0 ≤ 600000; omega, by show n2 + 0 + 0 ≤ 7302250; omega⟩ rfl (Nat.le_of_ble_eq_true rfl) dL_law_778 ?_
  rintro v2 S2 p2
  rw [hR1.d, hR1.sai] at p2
  obtain ⟨rfl, hI⟩ := ask2l hC1 hR1 hR1.sai p2
  refine g_icmp_eq (pc := 781) C 1099 dL_law_781 rfl (fun _ => ?_) (fun cn => absurd rfl cn)
  exact k S2 _ _ (by show n1 + 0 + 0 ≤ n1 + 5; omega) (by show n2 + 0 + 0 ≤ n2 + 600; omega) hI
theorem law_fogs {w : Wd} {X : FX} {j : SJ} {b Ln i n1 n2 : Nat} {xs : Nat → Int32} {Q : State → Prop} {S : St} {q : K5} {c ca cg cl ce P H m nr jj z L : Nat} {u : Nat → Int32} {f x : Int32} {Fs : Nat → (Nat → Int64) → Int64} {W : Nat → Nat → Int32} {Tp : Nat → Int32} {im : Nat → Option IMt} (K : lwK w X j b Ln xs) (hi : i + 6 ≤ Ln) (hn1 : n1 ≤ 10000) (hn2 : n2 ≤ 3000000) (hC : CI S q c ca cg cl ce P H m nr jj z L u f x Fs W Tp im) (hR : RI S P H nr z L u f x Fs W Tp im) (k : lwN w X b i n1 n2 Q) : gx_G w X S n1 n2 977 (lwL w b i) [] Q := by
  obtain ⟨C, V, hX, hb, hn⟩ := K
  refine g_aload_n (pc := 977) C dL_law_977 rfl ?_
  refine g_aload_n (pc := 978) C dL_law_978 rfl ?_
  refine g_iload_n (pc := 979) C dL_law_979 rfl ?_
  refine g_iconst (pc := 980) (v := nI 1) C dL_law_980 (by decide) ?_
  refine g_iadd (pc := 981) C dL_law_981 ?_
  refine g_sld (pc := 982) (j := i + 1) C hX hb hn (nI_add _ _) (by omega) dL_law_982 ?_
  refine g_aload_n (pc := 983) C dL_law_983 rfl ?_
  refine g_iload_n (pc := 984) C dL_law_984 rfl ?_
  refine g_iconst (pc := 985) (v := nI 2) C dL_law_985 (by decide) ?_
  refine g_iadd (pc := 986) C dL_law_986 ?_
  refine g_sld (pc := 987) (j := i + 2) C hX hb hn (nI_add _ _) (by omega) dL_law_987 ?_
  refine g_aload_n (pc := 988) C dL_law_988 rfl ?_
  refine g_iload_n (pc := 989) C dL_law_989 rfl ?_
  refine g_iconst (pc := 990) (v := nI 3) C dL_law_990 (by decide) ?_
  refine g_iadd (pc := 991) C dL_law_991 ?_
  refine g_sld (pc := 992) (j := i + 3) C hX hb hn (nI_add _ _) (by omega) dL_law_992 ?_
  refine g_aload_n (pc := 993) C dL_law_993 rfl ?_
  refine g_iload_n (pc := 994) C dL_law_994 rfl ?_
  refine g_iconst (pc := 995) (v := nI 4) C dL_law_995 (by decide) ?_
  refine g_iadd (pc := 996) C dL_law_996 ?_
  refine g_sld (pc := 997) (j := i + 4) C hX hb hn (nI_add _ _) (by omega) dL_law_997 ?_
  refine cg_L_135 (pc := 998) C rfl (zk (ok5 (aK.af hC.1).1 (by decide))) (c_X11_fogs w _ S c ca cg cl ce P H m nr u f x Fs hC.1 (xs (i + 1)) (xs (i + 2)) (xs (i + 3)) (xs (i + 4))) ⟨rfl, rfl⟩ ⟨by show n1 + 0 ≤ 600000; omega, by show n2 + 0 ≤ 7302250; omega⟩ rfl (Nat.le_of_ble_eq_true rfl) dL_law_998 ?_
  rintro v1 S1 p1
  obtain ⟨rfl, hC1, hR1⟩ := ask1 hC hR p1
  refine g_aload_n (pc := 1001) C dL_law_1001 rfl ?_
  refine g_aload_n (pc := 1002) C dL_law_1002 rfl ?_
  refine g_iload_n (pc := 1003) C dL_law_1003 rfl ?_
  refine g_iconst (pc := 1004) (v := nI 1) C dL_law_1004 (by decide) ?_
  refine g_iadd (pc := 1005) C dL_law_1005 ?_
  refine g_sld (pc := 1006) (j := i + 1) C hX hb hn (nI_add _ _) (by omega) dL_law_1006 ?_
  refine g_aload_n (pc := 1007) C dL_law_1007 rfl ?_
  refine g_iload_n (pc := 1008) C dL_law_1008 rfl ?_
  refine g_iconst (pc := 1009) (v := nI 2) C dL_law_1009 (by decide) ?_
  refine g_iadd (pc := 1010) C dL_law_1010 ?_
  refine g_sld (pc := 1011) (j := i + 2) C hX hb hn (nI_add _ _) (by omega) dL_law_1011 ?_
  refine g_aload_n (pc := 1012) C dL_law_1012 rfl ?_
  refine g_iload_n (pc := 1013) C dL_law_1013 rfl ?_
  refine g_iconst (pc := 1014) (v := nI 3) C dL_law_1014 (by decide) ?_
  refine g_iadd (pc := 1015) C dL_law_1015 ?_
  refine g_sld (pc := 1016) (j := i + 3) C hX hb hn (nI_add _ _) (by omega) dL_law_1016 ?_
  refine g_aload_n (pc := 1017) C dL_law_1017 rfl ?_
  refine g_iload_n (pc := 1018) C dL_law_1018 rfl ?_
  refine g_iconst (pc := 1019) (v := nI 4) C dL_law_1019 (by decide) ?_
  refine g_iadd (pc := 1020) C dL_law_1020 ?_
  refine g_sld (pc := 1021) (j := i + 4) C hX hb hn (nI_add _ _) (by omega) dL_law_1021 ?_
  refine cg_L_138 (pc := 1022) C rfl (m_z hR1.1 rfl) (c_X12_fogs w _ S1 hR1.1 P H hR1.p (aK.hr9 hC.1) (frF f Fs) (hR1.fr (aK.fok hC.1)) hR1.d (xs (i + 1)) (xs (i + 2)) (xs (i + 3)) (xs (i + 4))) ⟨rfl, rfl⟩ ⟨by show n1 + 0 + 0 ≤ 600000; omega, by show n2 + 0 + 0 ≤ 7302250; omega⟩ rfl (Nat.le_of_ble_eq_true rfl) dL_law_1022 ?_
  rintro v2 S2 p2
  rw [hR1.sai, hR1.xs] at p2
  obtain ⟨rfl, hI⟩ := ask2f hC1 hR1 p2
  refine g_icmp_eq (pc := 1025) C 1099 dL_law_1025 rfl (fun _ => ?_) (fun cn => absurd rfl cn)
  exact k S2 _ _ (by show n1 + 0 + 0 ≤ n1 + 5; omega) (by show n2 + 0 + 0 ≤ n2 + 600; omega) hI
theorem law_ruled {w : Wd} {X : FX} {j : SJ} {b Ln i n1 n2 : Nat} {xs : Nat → Int32} {Q : State → Prop} {S : St} {q : K5} {c ca cg cl ce P H m nr jj z L : Nat} {u : Nat → Int32} {f x : Int32} {Fs : Nat → (Nat → Int64) → Int64} {W : Nat → Nat → Int32} {Tp : Nat → Int32} {im : Nat → Option IMt} (K : lwK w X j b Ln xs) (hi : i + 6 ≤ Ln) (hn1 : n1 ≤ 10000) (hn2 : n2 ≤ 3000000) (hC : CI S q c ca cg cl ce P H m nr jj z L u f x Fs W Tp im) (hR : RI S P H nr z L u f x Fs W Tp im) (k : lwN w X b i n1 n2 Q) : gx_G w X S n1 n2 898 (lwL w b i) [] Q := by
  obtain ⟨C, V, hX, hb, hn⟩ := K
  refine g_aload_n (pc := 898) C dL_law_898 rfl ?_
  refine g_aload_n (pc := 899) C dL_law_899 rfl ?_
  refine g_iload_n (pc := 900) C dL_law_900 rfl ?_
  refine g_iconst (pc := 901) (v := nI 1) C dL_law_901 (by decide) ?_
  refine g_iadd (pc := 902) C dL_law_902 ?_
  refine g_sld (pc := 903) (j := i + 1) C hX hb hn (nI_add _ _) (by omega) dL_law_903 ?_
  refine cg_L_123 (pc := 904) C rfl (zk (ok5 (aK.af hC.1).1 (by decide))) (c_X11_ruled w _ S c ca cg cl ce P H m nr u f x Fs hC.1 (xs (i + 1))) ⟨rfl, rfl⟩ ⟨by show n1 + 0 ≤ 600000; omega, by show n2 + 0 ≤ 7302250; omega⟩ rfl (Nat.le_of_ble_eq_true rfl) dL_law_904 ?_
  rintro v1 S1 p1
  obtain ⟨rfl, hC1, hR1⟩ := ask1 hC hR p1
  refine g_aload_n (pc := 907) C dL_law_907 rfl ?_
  refine g_aload_n (pc := 908) C dL_law_908 rfl ?_
  refine g_iload_n (pc := 909) C dL_law_909 rfl ?_
  refine g_iconst (pc := 910) (v := nI 1) C dL_law_910 (by decide) ?_
  refine g_iadd (pc := 911) C dL_law_911 ?_
  refine g_sld (pc := 912) (j := i + 1) C hX hb hn (nI_add _ _) (by omega) dL_law_912 ?_
  refine cg_L_126 (pc := 913) C rfl (m_z hR1.1 rfl) (c_X12_ruled w _ S1 hR1.1 P H hR1.p m (by rw [hR1.sai]; exact nt_of hC.1) nr hR1.2.2.2.1.1 hR1.2.2.2.1.2.1 Fs hR1.2.2.2.1.2.2 (xs (i + 1))) ⟨rfl, rfl⟩ ⟨by show n1 + 0 + 0 ≤ 600000; omega, by show n2 + 0 + 0 ≤ 7302250; omega⟩ rfl (Nat.le_of_ble_eq_true rfl) dL_law_913 ?_
  rintro v2 S2 p2
  rw [hR1.d, hR1.sai] at p2
  obtain ⟨rfl, hI⟩ := ask2r hC1 hR1 p2
  refine g_icmp_eq (pc := 916) C 1099 dL_law_916 rfl (fun _ => ?_) (fun cn => absurd rfl cn)
  exact k S2 _ _ (by show n1 + 0 + 0 ≤ n1 + 5; omega) (by show n2 + 0 + 0 ≤ n2 + 600; omega) hI
theorem law_look {w : Wd} {X : FX} {j : SJ} {b Ln i n1 n2 : Nat} {xs : Nat → Int32} {Q : State → Prop} {S : St} {q : K5} {c ca cg cl ce P H m nr jj z L : Nat} {u : Nat → Int32} {f x : Int32} {Fs : Nat → (Nat → Int64) → Int64} {W : Nat → Nat → Int32} {Tp : Nat → Int32} {im : Nat → Option IMt} (K : lwK w X j b Ln xs) (hi : i + 6 ≤ Ln) (hn1 : n1 ≤ 10000) (hn2 : n2 ≤ 3000000) (hC : CI S q c ca cg cl ce P H m nr jj z L u f x Fs W Tp im) (hR : RI S P H nr z L u f x Fs W Tp im) (k : lwN w X b i n1 n2 Q) : gx_G w X S n1 n2 921 (lwL w b i) [] Q := by
  obtain ⟨C, V, hX, hb, hn⟩ := K
  refine g_aload_n (pc := 921) C dL_law_921 rfl ?_
  refine g_aload_n (pc := 922) C dL_law_922 rfl ?_
  refine g_iload_n (pc := 923) C dL_law_923 rfl ?_
  refine g_iconst (pc := 924) (v := nI 1) C dL_law_924 (by decide) ?_
  refine g_iadd (pc := 925) C dL_law_925 ?_
  refine g_sld (pc := 926) (j := i + 1) C hX hb hn (nI_add _ _) (by omega) dL_law_926 ?_
  refine g_aload_n (pc := 927) C dL_law_927 rfl ?_
  refine g_iload_n (pc := 928) C dL_law_928 rfl ?_
  refine g_iconst (pc := 929) (v := nI 2) C dL_law_929 (by decide) ?_
  refine g_iadd (pc := 930) C dL_law_930 ?_
  refine g_sld (pc := 931) (j := i + 2) C hX hb hn (nI_add _ _) (by omega) dL_law_931 ?_
  refine cg_L_127 (pc := 932) C rfl (zk (ok5 (aK.af hC.1).1 (by decide))) (c_X11_look w _ S c ca cg cl ce P H m nr u f x Fs hC.1 (xs (i + 1)) (xs (i + 2))) ⟨rfl, rfl⟩ ⟨by show n1 + 0 ≤ 600000; omega, by show n2 + 0 ≤ 7302250; omega⟩ rfl (Nat.le_of_ble_eq_true rfl) dL_law_932 ?_
  rintro v1 S1 p1
  obtain ⟨rfl, hC1, hR1⟩ := ask1 hC hR p1
  refine g_aload_n (pc := 935) C dL_law_935 rfl ?_
  refine g_aload_n (pc := 936) C dL_law_936 rfl ?_
  refine g_iload_n (pc := 937) C dL_law_937 rfl ?_
  refine g_iconst (pc := 938) (v := nI 1) C dL_law_938 (by decide) ?_
  refine g_iadd (pc := 939) C dL_law_939 ?_
  refine g_sld (pc := 940) (j := i + 1) C hX hb hn (nI_add _ _) (by omega) dL_law_940 ?_
  refine g_aload_n (pc := 941) C dL_law_941 rfl ?_
  refine g_iload_n (pc := 942) C dL_law_942 rfl ?_
  refine g_iconst (pc := 943) (v := nI 2) C dL_law_943 (by decide) ?_
  refine g_iadd (pc := 944) C dL_law_944 ?_
  refine g_sld (pc := 945) (j := i + 2) C hX hb hn (nI_add _ _) (by omega) dL_law_945 ?_
  refine cg_L_130 (pc := 946) C rfl (m_z hR1.1 rfl) (c_X12_look w _ S1 hR1.1 P H hR1.p m (by rw [hR1.sai]; exact nt_of hC.1) nr hR1.2.2.2.1.1 hR1.2.2.2.1.2.1 Fs hR1.2.2.2.1.2.2 (xs (i + 1)) (xs (i + 2))) ⟨rfl, rfl⟩ ⟨by show n1 + 0 + 0 ≤ 600000; omega, by show n2 + 0 + 0 ≤ 7302250; omega⟩ rfl (Nat.le_of_ble_eq_true rfl) dL_law_946 ?_
  rintro v2 S2 p2
  rw [hR1.d, hR1.sai] at p2
  obtain ⟨rfl, hI⟩ := ask2r hC1 hR1 p2
  refine g_icmp_eq (pc := 949) C 1099 dL_law_949 rfl (fun _ => ?_) (fun cn => absurd rfl cn)
  exact k S2 _ _ (by show n1 + 0 + 0 ≤ n1 + 5; omega) (by show n2 + 0 + 0 ≤ n2 + 600; omega) hI
