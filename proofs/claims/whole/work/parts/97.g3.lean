/-! ===== THE CLASS: AimFerry: small ones ===== -/
theorem c_X11_within (w : Wd) (l : Launch) (S : St) (x a b : Int32) : gx_M w l yX11_within cX11_within 3 (some .boolean) rmX11_within [.int x, .int a, .int b] S (pI (bI (a ≤ x ∧ x ≤ b)) S) := by
  refine gx_start rfl 0 rfl (Nat.le_of_ble_eq_true rfl) ?_
  intro X C _ hl
  subst hl
  refine gx_L (L' := [_, _, _]) rfl ?_
  refine g_iload_n (pc := 0) C dX11_within_0 rfl ?_
  refine g_iload_n (pc := 1) C dX11_within_1 rfl ?_
  refine g_icmp_lt (pc := 2) C 14 dX11_within_2 rfl (fun c1 => ?_) (fun c1 => ?_)
  · refine g_iconst (pc := 14) (v := nI 0) C dX11_within_14 (by decide) ?_
    exact g_zreturn (pc := 15) C ⟨rfl, rfl⟩ (Or.inl rfl) dX11_within_15 (pI_f (fun q => absurd q.1 (Int32.not_le.mpr c1)))
  · refine g_iload_n (pc := 5) C dX11_within_5 rfl ?_
    refine g_iload_n (pc := 6) C dX11_within_6 rfl ?_
    refine g_icmp_gt (pc := 7) C 14 dX11_within_7 rfl (fun c2 => ?_) (fun c2 => ?_)
    · refine g_iconst (pc := 14) (v := nI 0) C dX11_within_14 (by decide) ?_
      exact g_zreturn (pc := 15) C ⟨rfl, rfl⟩ (Or.inl rfl) dX11_within_15 (pI_f (fun q => absurd q.2 (Int32.not_le.mpr c2)))
    · refine g_iconst (pc := 10) (v := nI 1) C dX11_within_10 (by decide) ?_
      refine g_goto (pc := 11) C 15 dX11_within_11 rfl ?_
      exact g_zreturn (pc := 15) C ⟨rfl, rfl⟩ (Or.inr rfl) dX11_within_15 (pI_t ⟨Int32.not_lt.mp c1, Int32.not_lt.mp c2⟩)
def lobN (s : Nat) : Nat := if s.testBit 0 = true then 0 else if s.testBit 1 = true then 1 else if s.testBit 2 = true then 2 else if s.testBit 3 = true then 3 else if s.testBit 4 = true then 4 else if s.testBit 5 = true then 5 else 6
theorem lob_nI : ∀ s, s < 128 → 0 < s → (nI s &&& -(nI s)) - nI 1 = nI (2 ^ lobN s - 1) ∧ 2 ^ lobN s - 1 < 128 ∧ popN (2 ^ lobN s - 1) = lobN s := by decide +kernel
theorem c_X11_firstBit (w : Wd) (l : Launch) (S : St) (s : Nat) (hs : s < 128) (h0 : 0 < s) : gx_M w l yX11_firstBit cX11_firstBit 1 (some .int) rmX11_firstBit [.int (nI s)] S (pI (nI (lobN s)) S) := by
  obtain ⟨e1, e2, e3⟩ := lob_nI s hs h0
  refine gx_start rfl 0 rfl (Nat.le_of_ble_eq_true rfl) ?_
  intro X C _ hl
  subst hl
  refine gx_L (L' := [_]) rfl ?_
  refine g_iload_n (pc := 0) C dX11_firstBit_0 rfl ?_
  refine g_iload_n (pc := 1) C dX11_firstBit_1 rfl ?_
  refine g_ineg (pc := 2) C dX11_firstBit_2 ?_
  refine g_iand (pc := 3) C dX11_firstBit_3 ?_
  refine g_iconst (pc := 4) (v := nI 1) C dX11_firstBit_4 (by decide) ?_
  refine g_isub (pc := 5) C dX11_firstBit_5 ?_
  refine gx_ti (y := nI (2 ^ lobN s - 1)) e1 ?_
  refine cf_X11_222 (pc := 6) C (c_bitCount _ _ S _ e2) ⟨rfl, rfl⟩ ⟨rfl, rfl⟩ ⟨Nat.zero_le _, Nat.zero_le _⟩ rfl (Nat.le_of_ble_eq_true rfl) dX11_firstBit_6 ?_
  exact g_ireturn (pc := 9) C ⟨rfl, rfl⟩ dX11_firstBit_9 ⟨by rw [e3], rfl⟩
