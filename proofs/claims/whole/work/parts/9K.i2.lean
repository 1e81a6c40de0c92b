/-! ===== THE CLASS: AimFerry: feed ===== -/
theorem tq_tq (S : St) (T T' : Nat → Int32) (n n' : Int32) : tqS (tqS S T n) T' n' = tqS S T' n' := by
  unfold tqS
  rw [show s_setA (s_setI (s_setA S 2 T) 901 1 n) 2 T' = s_setI (s_setA (s_setA S 2 T) 2 T') 901 1 n from rfl, s_AA, s_II]
theorem tq_A (S : St) (T : Nat → Int32) (n : Int32) : s_A (tqS S T n) 2 = T := (gA_at : s_A (s_setA S 2 T) 2 = T)
theorem tq_K {S : St} {n : Nat} (h : tpK S n) (T : Nat → Int32) (k : Nat) (hk : k ≤ 400) : tpK (tqS S T (nI k)) k := ⟨h.1, h.2.1, gI_at, hk⟩
theorem c_X11_feed (w : Wd) (l : Launch) (S : St) (n : Nat) (ha : afK S) (h : tpK S n) (a b c d e : Int32) : gx_M w l yX11_feed cX11_feed 6 (some .int) rmX11_feed [.ref (ad (w_b w) 0), .int a, .int b, .int c, .int d, .int e] S (pI (if n + 20 ≤ 400 then nI (n + 20) else -1) (if n + 20 ≤ 400 then tqS S (feedF (s_A S 2) n a b c d e) (nI (n + 20)) else S)) := by
  have hn := h.2.2.2
  have o0 : gx_o S 0 10 := o_st ha.1 rfl rfl
  have rt := ha.2.1
  have o1 : gx_o S 1 9 := o_st ha.1 rfl rfl
  refine gx_start rfl 0 rfl (Nat.le_of_ble_eq_true rfl) ?_
  intro X C _ hl
  subst hl
  refine gx_L (L' := [_, _, _, _, _, _]) rfl ?_
  refine g_aload_n (pc := 0) C dX11_feed_0 rfl ?_
  refine fgr_X11_10 (pc := 1) C (by exact o0.1) (zk (by exact o0.2)) (by exact rt) dX11_feed_1 ?_
  refine fg_X11_82 (pc := 4) C (by exact o1.1) (zk (by exact o1.2)) dX11_feed_4 ?_
  refine gx_ti (y := nI n) h.2.2.1 ?_
  refine g_bipush (pc := 7) (v := nI 20) C dX11_feed_7 (by decide) ?_
  refine g_iadd (pc := 9) C dX11_feed_9 ?_
  refine gx_ti (y := nI (n + 20)) (nI_add n 20) ?_
  refine g_sipush (pc := 10) (v := nI 400) C dX11_feed_10 (by decide) ?_
  refine g_icmp_le (pc := 13) C 18 dX11_feed_13 rfl (fun c1 => ?_) (fun c1 => ?_)
  · have c1 : n + 20 ≤ 400 := (nI_leI (by omega) (by omega)).mp c1
    rw [if_pos c1, if_pos c1]
    have k1 := tq_K h (fourF (s_A S 2) n a 4) (n + 4) (by omega)
    have k2 := tq_K h (fourF (fourF (s_A S 2) n a 4) (n + 4) b 4) (n + 8) (by omega)
    have k3 := tq_K h (fourF (fourF (fourF (s_A S 2) n a 4) (n + 4) b 4) (n + 8) c 4) (n + 12) (by omega)
    have k4 := tq_K h (fourF (fourF (fourF (fourF (s_A S 2) n a 4) (n + 4) b 4) (n + 8) c 4) (n + 12) d 4) (n + 16) (by omega)
    refine g_aload_n (pc := 18) C dX11_feed_18 rfl ?_
    refine fgr_X11_10 (pc := 19) C (by exact o0.1) (zk (by exact o0.2)) (by exact rt) dX11_feed_19 ?_
    refine g_iload_n (pc := 22) C dX11_feed_22 rfl ?_
    refine cf_X11_86 (pc := 23) C (by exact o1.1) (zk (by exact o1.2)) (c_X10_add _ _ S n a h (by omega)) ⟨rfl, rfl⟩ ⟨rfl, rfl⟩ ⟨Nat.zero_le _, Nat.zero_le _⟩ rfl (Nat.le_of_ble_eq_true rfl) dX11_feed_23 ?_
    refine g_aload_n (pc := 26) C dX11_feed_26 rfl ?_
    refine fgr_X11_10 (pc := 27) C (by exact o0.1) (zk (by exact o0.2)) (by exact rt) dX11_feed_27 ?_
    refine g_iload_n (pc := 30) C dX11_feed_30 rfl ?_
    refine cf_X11_86 (pc := 31) C (by exact o1.1) (zk (by exact o1.2)) (c_X10_add _ _ _ (n + 4) b k1 (by omega)) ⟨rfl, rfl⟩ ⟨rfl, rfl⟩ ⟨Nat.zero_le _, Nat.zero_le _⟩ rfl (Nat.le_of_ble_eq_true rfl) dX11_feed_31 ?_
    refine gx_S (S' := tqS S (fourF (fourF (s_A S 2) n a 4) (n + 4) b 4) (nI (n + 8))) (by rw [tq_tq, tq_A]) ?_
    refine g_aload_n (pc := 34) C dX11_feed_34 rfl ?_
    refine fgr_X11_10 (pc := 35) C (by exact o0.1) (zk (by exact o0.2)) (by exact rt) dX11_feed_35 ?_
    refine g_iload_n (pc := 38) C dX11_feed_38 rfl ?_
    refine cf_X11_86 (pc := 39) C (by exact o1.1) (zk (by exact o1.2)) (c_X10_add _ _ _ (n + 8) c k2 (by omega)) ⟨rfl, rfl⟩ ⟨rfl, rfl⟩ ⟨Nat.zero_le _, Nat.zero_le _⟩ rfl (Nat.le_of_ble_eq_true rfl) dX11_feed_39 ?_
    refine gx_S (S' := tqS S (fourF (fourF (fourF (s_A S 2) n a 4) (n + 4) b 4) (n + 8) c 4) (nI (n + 12))) (by rw [tq_tq, tq_A]) ?_
    refine g_aload_n (pc := 42) C dX11_feed_42 rfl ?_
    refine fgr_X11_10 (pc := 43) C (by exact o0.1) (zk (by exact o0.2)) (by exact rt) dX11_feed_43 ?_
    refine g_iload (pc := 46) C dX11_feed_46 rfl ?_
    refine cf_X11_86 (pc := 48) C (by exact o1.1) (zk (by exact o1.2)) (c_X10_add _ _ _ (n + 12) d k3 (by omega)) ⟨rfl, rfl⟩ ⟨rfl, rfl⟩ ⟨Nat.zero_le _, Nat.zero_le _⟩ rfl (Nat.le_of_ble_eq_true rfl) dX11_feed_48 ?_
    refine gx_S (S' := tqS S (fourF (fourF (fourF (fourF (s_A S 2) n a 4) (n + 4) b 4) (n + 8) c 4) (n + 12) d 4) (nI (n + 16))) (by rw [tq_tq, tq_A]) ?_
    refine g_aload_n (pc := 51) C dX11_feed_51 rfl ?_
    refine fgr_X11_10 (pc := 52) C (by exact o0.1) (zk (by exact o0.2)) (by exact rt) dX11_feed_52 ?_
    refine g_iload (pc := 55) C dX11_feed_55 rfl ?_
    refine cf_X11_86 (pc := 57) C (by exact o1.1) (zk (by exact o1.2)) (c_X10_add _ _ _ (n + 16) e k4 (by omega)) ⟨rfl, rfl⟩ ⟨rfl, rfl⟩ ⟨Nat.zero_le _, Nat.zero_le _⟩ rfl (Nat.le_of_ble_eq_true rfl) dX11_feed_57 ?_
    refine gx_S (S' := tqS S (feedF (s_A S 2) n a b c d e) (nI (n + 20))) (by rw [tq_tq, tq_A]; rfl) ?_
    refine g_aload_n (pc := 60) C dX11_feed_60 rfl ?_
    refine fgr_X11_10 (pc := 61) C (by exact o0.1) (zk (by exact o0.2)) (by exact rt) dX11_feed_61 ?_
    refine fg_X11_82 (pc := 64) C (by exact o1.1) (zk (by exact o1.2)) dX11_feed_64 ?_
    refine gx_ti (y := nI (n + 20)) gI_at ?_
    exact g_ireturn (pc := 67) C ⟨rfl, rfl⟩ dX11_feed_67 ⟨rfl, rfl⟩
  · rw [if_neg (fun q => c1 (nI_le q (by omega))), if_neg (fun q => c1 (nI_le q (by omega)))]
    refine g_iconst (pc := 16) (v := -1) C dX11_feed_16 (by decide) ?_
    exact g_ireturn (pc := 17) C ⟨rfl, rfl⟩ dX11_feed_17 ⟨rfl, rfl⟩
