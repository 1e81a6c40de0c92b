/-! ===== THE CLASS: AimFerry: end ===== -/
theorem c_X11_end (w : Wd) (l : Launch) (S : St) (n : Nat) (x : Int32) (h : afK S) (ht : tpK S n) : gx_M w l yX11_end cX11_end 2 (some .int) rmX11_end [.ref (ad (w_b w) 0), .int x] S (pI (if x < 0 ∨ nI n < x then -1 else x) (if x < 0 ∨ nI n < x then S else s_setI S 901 1 x)) := by
  have o0 : gx_o S 0 10 := o_st h.1 rfl rfl
  have o1 : gx_o S 1 9 := o_st h.1 rfl rfl
  have rt := h.2.1
  refine gx_start rfl 0 rfl (Nat.le_of_ble_eq_true rfl) ?_
  intro X C _ hl
  subst hl
  refine gx_L (L' := [_, _]) rfl ?_
  refine g_iload_n (pc := 0) C dX11_end_0 rfl ?_
  refine g_if_lt (pc := 1) C 15 dX11_end_1 rfl (fun c1 => ?_) (fun c1 => ?_)
  · refine g_iconst (pc := 15) (v := -1) C dX11_end_15 (by decide) ?_
    exact g_ireturn (pc := 16) C ⟨rfl, rfl⟩ dX11_end_16 ⟨by rw [if_pos (Or.inl c1)], by rw [if_pos (Or.inl c1)]⟩
  · refine g_iload_n (pc := 4) C dX11_end_4 rfl ?_
    refine g_aload_n (pc := 5) C dX11_end_5 rfl ?_
    refine fgr_X11_10 (pc := 6) C (by exact o0.1) (zk (by exact o0.2)) (by exact rt) dX11_end_6 ?_
    refine fg_X11_82 (pc := 9) C (by exact o1.1) (zk (by exact o1.2)) dX11_end_9 ?_
    refine gx_ti (y := nI n) ht.2.2.1 ?_
    refine g_icmp_le (pc := 12) C 17 dX11_end_12 rfl (fun c2 => ?_) (fun c2 => ?_)
    · have hno : ¬ (x < 0 ∨ nI n < x) := fun q => q.elim c1 (fun z => absurd c2 (Int32.not_le.mpr z))
      refine g_aload_n (pc := 17) C dX11_end_17 rfl ?_
      refine fgr_X11_10 (pc := 18) C (by exact o0.1) (zk (by exact o0.2)) (by exact rt) dX11_end_18 ?_
      refine g_iload_n (pc := 21) C dX11_end_21 rfl ?_
      refine fp_X11_82 (pc := 22) C (by exact o1.1) (zk (by exact o1.2)) dX11_end_22 ?_
      refine g_iload_n (pc := 25) C dX11_end_25 rfl ?_
      exact g_ireturn (pc := 26) C ⟨rfl, rfl⟩ dX11_end_26 ⟨by rw [if_neg hno], by rw [if_neg hno]⟩
    · have hy : x < 0 ∨ nI n < x := Or.inr (Int32.not_le.mp c2)
      refine g_iconst (pc := 15) (v := -1) C dX11_end_15 (by decide) ?_
      exact g_ireturn (pc := 16) C ⟨rfl, rfl⟩ dX11_end_16 ⟨by rw [if_pos hy], by rw [if_pos hy]⟩
