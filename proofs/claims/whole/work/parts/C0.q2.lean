/-! ===== the law's cases: acts ===== -/
theorem law_trip {w : Wd} {X : FX} {j : SJ} {b Ln i n1 n2 : Nat} {xs : Nat → Int32} {Q : State → Prop} {S : St} {q : K5} {c ca cg cl ce P H m nr jj z L : Nat} {u : Nat → Int32} {f x : Int32} {Fs : Nat → (Nat → Int64) → Int64} {W : Nat → Nat → Int32} {Tp : Nat → Int32} {im : Nat → Option IMt} (K : lwK w X j b Ln xs) (hi : i + 6 ≤ Ln) (hn1 : n1 ≤ 10000) (hn2 : n2 ≤ 3000000) (hC : CI S q c ca cg cl ce P H m nr jj z L u f x Fs W Tp im) (hR : RI S P H nr z L u f x Fs W Tp im) (k : lwN w X b i n1 n2 Q) : gx_G w X S n1 n2 381 (lwL w b i) [] Q := by
  obtain ⟨C, V, hX, hb, hn⟩ := K
  refine g_aload_n (pc := 381) C dL_law_381 rfl ?_
  refine cg_L_45 (pc := 382) C rfl (zk (ok5 (aK.af hC.1).1 (by decide))) (c_X11_trip w _ S c ca cg cl ce P H m nr u f x Fs hC.1 z jj W hC.2.1) ⟨rfl, rfl⟩ ⟨by show n1 + 0 ≤ 600000; omega, by show n2 + 0 ≤ 7302250; omega⟩ rfl (Nat.le_of_ble_eq_true rfl) dL_law_382 ?_
  rintro v1 S1 p1
  obtain ⟨rfl, hR1, hA⟩ := act1 hR p1
  refine g_aload_n (pc := 385) C dL_law_385 rfl ?_
  refine cg_L_48 (pc := 386) C rfl (m_z hR1.1 rfl) (c_X12_trip w _ S1 hR1.1 P H hR1.p (frF f Fs) (hR1.fr (aK.fok hC.1)) z hR1.2.2.2.2.1.1 hR1.2.2.2.2.1.2.1) ⟨rfl, rfl⟩ ⟨by show n1 + 0 + 0 ≤ 600000; omega, by show n2 + 0 + 0 ≤ 7302250; omega⟩ rfl (Nat.le_of_ble_eq_true rfl) dL_law_386 ?_
  rintro v2 S2 p2
  rw [hR1.d, hR1.sai] at p2
  obtain ⟨rfl, hI⟩ := act3 hC hR hA (fun hk => ⟨fun k q => passF_out (aK.P7 hC.1) q, (sdA_pass (aK.P7 hC.1) (aK.sd hC.1)).2.1, H + 1, (passF_hour (aK.P7 hC.1)).trans (hr_up (aK.hr hC.1) (aK.hr9 hC.1) hk.2).1, (hr_up (aK.hr hC.1) (aK.hr9 hC.1) hk.2).2⟩) p2
  refine g_icmp_eq (pc := 389) C 1099 dL_law_389 rfl (fun _ => ?_) (fun cn => absurd rfl cn)
  exact k S2 _ _ (by show n1 + 0 + 0 ≤ n1 + 5; omega) (by show n2 + 0 + 0 ≤ n2 + 600; omega) hI
theorem law_cross {w : Wd} {X : FX} {j : SJ} {b Ln i n1 n2 : Nat} {xs : Nat → Int32} {Q : State → Prop} {S : St} {q : K5} {c ca cg cl ce P H m nr jj z L : Nat} {u : Nat → Int32} {f x : Int32} {Fs : Nat → (Nat → Int64) → Int64} {W : Nat → Nat → Int32} {Tp : Nat → Int32} {im : Nat → Option IMt} (K : lwK w X j b Ln xs) (hi : i + 6 ≤ Ln) (hn1 : n1 ≤ 10000) (hn2 : n2 ≤ 3000000) (hC : CI S q c ca cg cl ce P H m nr jj z L u f x Fs W Tp im) (hR : RI S P H nr z L u f x Fs W Tp im) (k : lwN w X b i n1 n2 Q) : gx_G w X S n1 n2 394 (lwL w b i) [] Q := by
  obtain ⟨C, V, hX, hb, hn⟩ := K
  refine g_aload_n (pc := 394) C dL_law_394 rfl ?_
  refine g_aload_n (pc := 395) C dL_law_395 rfl ?_
  refine g_iload_n (pc := 396) C dL_law_396 rfl ?_
  refine g_iconst (pc := 397) (v := nI 1) C dL_law_397 (by decide) ?_
  refine g_iadd (pc := 398) C dL_law_398 ?_
  refine g_sld (pc := 399) (j := i + 1) C hX hb hn (nI_add _ _) (by omega) dL_law_399 ?_
  refine cg_L_49 (pc := 400) C rfl (zk (ok5 (aK.af hC.1).1 (by decide))) (c_X11_cross w _ S c ca cg cl ce P H m nr u f x Fs hC.1 z jj W hC.2.1 (xs (i + 1))) ⟨rfl, rfl⟩ ⟨by show n1 + 0 ≤ 600000; omega, by show n2 + 0 ≤ 7302250; omega⟩ rfl (Nat.le_of_ble_eq_true rfl) dL_law_400 ?_
  rintro v1 S1 p1
  obtain ⟨rfl, hR1, hA⟩ := act1 hR p1
  refine g_aload_n (pc := 403) C dL_law_403 rfl ?_
  refine g_aload_n (pc := 404) C dL_law_404 rfl ?_
  refine g_iload_n (pc := 405) C dL_law_405 rfl ?_
  refine g_iconst (pc := 406) (v := nI 1) C dL_law_406 (by decide) ?_
  refine g_iadd (pc := 407) C dL_law_407 ?_
  refine g_sld (pc := 408) (j := i + 1) C hX hb hn (nI_add _ _) (by omega) dL_law_408 ?_
  refine cg_L_52 (pc := 409) C rfl (m_z hR1.1 rfl) (c_X12_cross w _ S1 hR1.1 P H hR1.p z hR1.2.2.2.2.1.1 hR1.2.2.2.2.1.2.1 (xs (i + 1))) ⟨rfl, rfl⟩ ⟨by show n1 + 0 + 0 ≤ 600000; omega, by show n2 + 0 + 0 ≤ 7302250; omega⟩ rfl (Nat.le_of_ble_eq_true rfl) dL_law_409 ?_
  rintro v2 S2 p2
  rw [hR1.d0, hR1.sai] at p2
  obtain ⟨rfl, hI⟩ := act4 hC hR hA (fun hk => ⟨fun k q => goF_out (aK.P7 hC.1) q, amU_go (aK.P7 hC.1) (aK.sd hC.1), H + 1, (goF_hour (aK.P7 hC.1)).trans (hr_up (aK.hr hC.1) (aK.hr9 hC.1) hk.2.1).1, (hr_up (aK.hr hC.1) (aK.hr9 hC.1) hk.2.1).2⟩) p2
  refine g_icmp_eq (pc := 412) C 1099 dL_law_412 rfl (fun _ => ?_) (fun cn => absurd rfl cn)
  exact k S2 _ _ (by show n1 + 0 + 0 ≤ n1 + 5; omega) (by show n2 + 0 + 0 ≤ n2 + 600; omega) hI
theorem law_toss {w : Wd} {X : FX} {j : SJ} {b Ln i n1 n2 : Nat} {xs : Nat → Int32} {Q : State → Prop} {S : St} {q : K5} {c ca cg cl ce P H m nr jj z L : Nat} {u : Nat → Int32} {f x : Int32} {Fs : Nat → (Nat → Int64) → Int64} {W : Nat → Nat → Int32} {Tp : Nat → Int32} {im : Nat → Option IMt} (K : lwK w X j b Ln xs) (hi : i + 6 ≤ Ln) (hn1 : n1 ≤ 10000) (hn2 : n2 ≤ 3000000) (hC : CI S q c ca cg cl ce P H m nr jj z L u f x Fs W Tp im) (hR : RI S P H nr z L u f x Fs W Tp im) (k : lwN w X b i n1 n2 Q) : gx_G w X S n1 n2 417 (lwL w b i) [] Q := by
  obtain ⟨C, V, hX, hb, hn⟩ := K
  refine g_aload_n (pc := 417) C dL_law_417 rfl ?_
  refine g_aload_n (pc := 418) C dL_law_418 rfl ?_
  refine g_iload_n (pc := 419) C dL_law_419 rfl ?_
  refine g_iconst (pc := 420) (v := nI 1) C dL_law_420 (by decide) ?_
  refine g_iadd (pc := 421) C dL_law_421 ?_
  refine g_sld (pc := 422) (j := i + 1) C hX hb hn (nI_add _ _) (by omega) dL_law_422 ?_
  refine g_aload_n (pc := 423) C dL_law_423 rfl ?_
  refine g_iload_n (pc := 424) C dL_law_424 rfl ?_
  refine g_iconst (pc := 425) (v := nI 2) C dL_law_425 (by decide) ?_
  refine g_iadd (pc := 426) C dL_law_426 ?_
  refine g_sld (pc := 427) (j := i + 2) C hX hb hn (nI_add _ _) (by omega) dL_law_427 ?_
  refine cg_L_53 (pc := 428) C rfl (zk (ok5 (aK.af hC.1).1 (by decide))) (c_X11_toss w _ S c ca cg cl ce P H m nr u f x Fs hC.1 z jj W hC.2.1 (xs (i + 1)) (xs (i + 2))) ⟨rfl, rfl⟩ ⟨by show n1 + 0 ≤ 600000; omega, by show n2 + 0 ≤ 7302250; omega⟩ rfl (Nat.le_of_ble_eq_true rfl) dL_law_428 ?_
  rintro v1 S1 p1
  obtain ⟨rfl, hR1, hA⟩ := act1 hR p1
  refine g_aload_n (pc := 431) C dL_law_431 rfl ?_
  refine g_aload_n (pc := 432) C dL_law_432 rfl ?_
  refine g_iload_n (pc := 433) C dL_law_433 rfl ?_
  refine g_iconst (pc := 434) (v := nI 1) C dL_law_434 (by decide) ?_
  refine g_iadd (pc := 435) C dL_law_435 ?_
  refine g_sld (pc := 436) (j := i + 1) C hX hb hn (nI_add _ _) (by omega) dL_law_436 ?_
  refine g_aload_n (pc := 437) C dL_law_437 rfl ?_
  refine g_iload_n (pc := 438) C dL_law_438 rfl ?_
  refine g_iconst (pc := 439) (v := nI 2) C dL_law_439 (by decide) ?_
  refine g_iadd (pc := 440) C dL_law_440 ?_
  refine g_sld (pc := 441) (j := i + 2) C hX hb hn (nI_add _ _) (by omega) dL_law_441 ?_
  refine cg_L_56 (pc := 442) C rfl (m_z hR1.1 rfl) (c_X12_toss w _ S1 hR1.1 P H hR1.p z hR1.2.2.2.2.1.1 hR1.2.2.2.2.1.2.1 (xs (i + 1)) (xs (i + 2))) ⟨rfl, rfl⟩ ⟨by show n1 + 0 + 0 ≤ 600000; omega, by show n2 + 0 + 0 ≤ 7302250; omega⟩ rfl (Nat.le_of_ble_eq_true rfl) dL_law_442 ?_
  rintro v2 S2 p2
  rw [hR1.sai] at p2
  obtain ⟨rfl, hI⟩ := act4 hC hR hA (fun hk => ⟨fun k q => (toss_u (aK.P7 hC.1) (aK.sd hC.1) hk).2 k (by omega), (toss_u (aK.P7 hC.1) (aK.sd hC.1) hk).1, H, ((toss_u (aK.P7 hC.1) (aK.sd hC.1) hk).2 10 (by omega)).trans (aK.hr hC.1), aK.hr9 hC.1⟩) p2
  refine g_icmp_eq (pc := 445) C 1099 dL_law_445 rfl (fun _ => ?_) (fun cn => absurd rfl cn)
  exact k S2 _ _ (by show n1 + 0 + 0 ≤ n1 + 5; omega) (by show n2 + 0 + 0 ≤ n2 + 600; omega) hI
theorem law_talk {w : Wd} {X : FX} {j : SJ} {b Ln i n1 n2 : Nat} {xs : Nat → Int32} {Q : State → Prop} {S : St} {q : K5} {c ca cg cl ce P H m nr jj z L : Nat} {u : Nat → Int32} {f x : Int32} {Fs : Nat → (Nat → Int64) → Int64} {W : Nat → Nat → Int32} {Tp : Nat → Int32} {im : Nat → Option IMt} (K : lwK w X j b Ln xs) (hi : i + 6 ≤ Ln) (hn1 : n1 ≤ 10000) (hn2 : n2 ≤ 3000000) (hC : CI S q c ca cg cl ce P H m nr jj z L u f x Fs W Tp im) (hR : RI S P H nr z L u f x Fs W Tp im) (k : lwN w X b i n1 n2 Q) : gx_G w X S n1 n2 450 (lwL w b i) [] Q := by
  obtain ⟨C, V, hX, hb, hn⟩ := K
  refine g_aload_n (pc := 450) C dL_law_450 rfl ?_
  refine g_aload_n (pc := 451) C dL_law_451 rfl ?_
  refine g_iload_n (pc := 452) C dL_law_452 rfl ?_
  refine g_iconst (pc := 453) (v := nI 1) C dL_law_453 (by decide) ?_
  refine g_iadd (pc := 454) C dL_law_454 ?_
  refine g_sld (pc := 455) (j := i + 1) C hX hb hn (nI_add _ _) (by omega) dL_law_455 ?_
  refine g_aload_n (pc := 456) C dL_law_456 rfl ?_
  refine g_iload_n (pc := 457) C dL_law_457 rfl ?_
  refine g_iconst (pc := 458) (v := nI 2) C dL_law_458 (by decide) ?_
  refine g_iadd (pc := 459) C dL_law_459 ?_
  refine g_sld (pc := 460) (j := i + 2) C hX hb hn (nI_add _ _) (by omega) dL_law_460 ?_
  refine cg_L_57 (pc := 461) C rfl (zk (ok5 (aK.af hC.1).1 (by decide))) (c_X11_talk w _ S c ca cg cl ce P H m nr u f x Fs hC.1 z jj W hC.2.1 (xs (i + 1)) (xs (i + 2))) ⟨rfl, rfl⟩ ⟨by show n1 + 0 ≤ 600000; omega, by show n2 + 0 ≤ 7302250; omega⟩ rfl (Nat.le_of_ble_eq_true rfl) dL_law_461 ?_
  rintro v1 S1 p1
  obtain ⟨rfl, hR1, hA⟩ := act1 hR p1
  refine g_aload_n (pc := 464) C dL_law_464 rfl ?_
  refine g_aload_n (pc := 465) C dL_law_465 rfl ?_
  refine g_iload_n (pc := 466) C dL_law_466 rfl ?_
  refine g_iconst (pc := 467) (v := nI 1) C dL_law_467 (by decide) ?_
  refine g_iadd (pc := 468) C dL_law_468 ?_
  refine g_sld (pc := 469) (j := i + 1) C hX hb hn (nI_add _ _) (by omega) dL_law_469 ?_
  refine g_aload_n (pc := 470) C dL_law_470 rfl ?_
  refine g_iload_n (pc := 471) C dL_law_471 rfl ?_
  refine g_iconst (pc := 472) (v := nI 2) C dL_law_472 (by decide) ?_
  refine g_iadd (pc := 473) C dL_law_473 ?_
  refine g_sld (pc := 474) (j := i + 2) C hX hb hn (nI_add _ _) (by omega) dL_law_474 ?_
  refine cg_L_60 (pc := 475) C rfl (m_z hR1.1 rfl) (c_X12_talk w _ S1 hR1.1 P H hR1.p z hR1.2.2.2.2.1.1 hR1.2.2.2.2.1.2.1 (xs (i + 1)) (xs (i + 2))) ⟨rfl, rfl⟩ ⟨by show n1 + 0 + 0 ≤ 600000; omega, by show n2 + 0 + 0 ≤ 7302250; omega⟩ rfl (Nat.le_of_ble_eq_true rfl) dL_law_475 ?_
  rintro v2 S2 p2
  rw [hR1.sai] at p2
  obtain ⟨rfl, hI⟩ := act4 hC hR hA (fun hk => ⟨fun k q => (talk_u (aK.P7 hC.1) (aK.sd hC.1) hk).2 k (by omega), (talk_u (aK.P7 hC.1) (aK.sd hC.1) hk).1, H, ((talk_u (aK.P7 hC.1) (aK.sd hC.1) hk).2 10 (by omega)).trans (aK.hr hC.1), aK.hr9 hC.1⟩) p2
  refine g_icmp_eq (pc := 478) C 1099 dL_law_478 rfl (fun _ => ?_) (fun cn => absurd rfl cn)
  exact k S2 _ _ (by show n1 + 0 + 0 ≤ n1 + 5; omega) (by show n2 + 0 + 0 ≤ n2 + 600; omega) hI
