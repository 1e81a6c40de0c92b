/-! ===== THE CLASS: System.arraycopy of ints ===== -/
theorem wl_X6_34 : Cond.methodLink RX6 34 arraycopyName ∈ gx_T := gx_mem (List.mem_of_getElem? (i := 702) (by decide +kernel)) (by first | rfl | decide +kernel)
theorem wl_X4_155 : Cond.methodLink RX4 155 arraycopyName ∈ gx_T := gx_mem (List.mem_of_getElem? (i := 1101) (by decide +kernel)) (by first | rfl | decide +kernel)
theorem wl_X9_44 : Cond.methodLink RX9 44 arraycopyName ∈ gx_T := gx_mem (List.mem_of_getElem? (i := 1233) (by decide +kernel)) (by first | rfl | decide +kernel)
theorem wl_J7_150 : Cond.methodLink RJ7 150 arraycopyName ∈ gx_T := gx_mem (List.mem_of_getElem? (i := 828) (by decide +kernel)) (by first | rfl | decide +kernel)
theorem ws_copy : Cond.static arraycopyName ∈ gx_T := gx_mem (List.mem_of_getElem? (i := 703) (by decide +kernel)) (by first | rfl | decide +kernel)
theorem wn_copy : Cond.native arraycopyName ∈ gx_T := gx_mem (List.mem_of_getElem? (i := 704) (by decide +kernel)) (by first | rfl | decide +kernel)
theorem wi_Sys : Cond.initialized "java/lang/System" ∈ gx_T := gx_mem (List.mem_of_getElem? (i := 118) (by decide +kernel)) (by first | rfl | decide +kernel)
theorem g_copyi {w : Wd} {X : FX} {S : St} {n1 n2 pc : Nat} {L : List (Option Value)} {st : List Value} {Q : State → Prop} {cc : ByteArray} {nL : Nat} {own : String} {rm : Room} {ret : Option FieldType} (C : gx_C w X cc nL own rm ret) {k0 k1 m0 m1 index sp dp n : Nat} (hlk : Cond.methodLink own index arraycopyName ∈ gx_T) (h0 : gx_a S k0 13 m0) (h1 : gx_a S k1 13 m1) (hb : sp < 1000000 ∧ dp < 1000000 ∧ n < 1000000) (h4 : sp + n ≤ m0) (h5 : dp + n ≤ m1) (hR : Nat.ble 1 rm.frames = true ∧ Nat.ble 120 rm.locals = true) (hLn : L.length = nL) (hst : (st.map fun v => v.category).sum ≤ 8) (hd : decode cc pc = .ok (.invokestatic index, 3)) (kk : gx_G w X (s_setA S k1 (va_cpy (s_A S k0) (s_A S k1) sp dp n)) n1 n2 (pc + 3) L st Q) : gx_G w X S n1 n2 pc L (.int (nI n) :: .int (nI dp) :: .ref (ad (w_b w) k1) :: .int (nI sp) :: .ref (ad (w_b w) k0) :: st) Q := by
  intro H locs ls hRR hl hL T hT Xs
  have e7 := C.2.2.2.2.2.2.1
  have hK := C.2.2.2.2.2.1
  have hts := C.2.2.2.2.1
  have c0 : H[ad (w_b w) k0]? = some (vp_cell (w.2.1 13) (s_n S k0, .inl (s_A S k0))) := (gx_cell hRR h0.1 rfl (zk h0.2.2)) 0 _ rfl
  have c1 : H[ad (w_b w) k1]? = some (vp_cell (w.2.1 13) (s_n S k1, .inl (s_A S k1))) := (gx_cell hRR h1.1 rfl (zk h1.2.2)) 0 _ rfl
  rw [h0.2.1] at c0
  rw [h1.2.1] at c1
  obtain ⟨-, q0, hq0, cm0, hqq0⟩ := (hK.2 1 _ rfl).1 m0 (fun j => .int (s_A S k0 j))
  obtain ⟨-, q1, hq1, cm1, hqq1⟩ := (hK.2 1 _ rfl).1 m1 (fun j => .int (s_A S k1 j))
  have nI' : ∀ z : Nat, z < 1000000 → (nI z).toInt = (z : Int) := fun z hz => nI_toInt (by omega)
  have hw : nativeFrameWords "java/lang/System" "arraycopy" 5 ≤ 60 := by decide
  have hR2 := Nat.le_of_ble_eq_true hR.2
  obtain ⟨vm', X', step⟩ := Xs.arraycopy C.1 C.2.2.2.1 (hts _ hlk) (hts _ wn_copy) (hts _ ws_copy) (hts _ wi_Sys) (src := ad (w_b w) k0) (dst := ad (w_b w) k1) (cs := vp_cell (w.2.1 13) (m0, .inl (s_A S k0))) (cd := vp_cell (w.2.1 13) (m1, .inl (s_A S k1))) (srcPos := nI sp) (destPos := nI dp) (n := nI n) (by rw [hT]; exact c0) (by rw [hT]; exact c1)
    (fun _ h => by cases h) (fun _ h => by cases h) (fun h => by cases h) (fun h => by cases h) hq0 hq1 hqq0 hqq1 (by simp [refKind]) (nI_pos (by omega)) (nI_pos (by omega)) (nI_pos (by omega))
    (by rw [nI' sp hb.1, nI' n hb.2.2]; show ¬ _ > ((arrV (w.2.1 13) m0 (fun j => .int (s_A S k0 j))).slots.size : Int); rw [arrV_size]; omega)
    (by rw [nI' dp hb.2.1, nI' n hb.2.2]; show ¬ _ > ((arrV (w.2.1 13) m1 (fun j => .int (s_A S k1 j))).slots.size : Int); rw [arrV_size]; omega)
    (fun vm₁ _ i hi => by
      rw [nI_clamp (by omega)] at hi
      have e : (vp_cell (w.2.1 13) (m0, .inl (s_A S k0))).slots.getD ((nI sp).toNatClampNeg + i) .null = .int (s_A S k0 ((nI sp).toNatClampNeg + i)) := by
        show (arrV (w.2.1 13) m0 (fun j => .int (s_A S k0 j))).slots.getD _ _ = _
        rw [Array.getD_eq_getD_getElem?, arrV_read _ _ (by rw [nI_clamp (by omega)]; omega)]
        rfl
      refine ⟨?_, ?_⟩
      · rw [e]; rfl
      · rw [e]; exact trivial)
    (g := F0 (x_m X) pc ls (.int (nI n) :: .int (nI dp) :: .ref (ad (w_b w) k1) :: .int (nI sp) :: .ref (ad (w_b w) k0) :: st)) rfl (by show ls.size = (x_c X).maxLocals; rw [C.2.2.1, ← hLn]; exact hL.1) (rest := st) rfl (by rw [C.2.1]; exact hd) (by rw [e7]; exact Nat.le_of_ble_eq_true hR.1) (by show 2 * 0 + _ + _ ≤ _; rw [e7]; omega)
  have e1 : copied (vp_cell (w.2.1 13) (m0, .inl (s_A S k0))) (vp_cell (w.2.1 13) (m1, .inl (s_A S k1))) (nI sp) (nI dp) (nI n) = vp_cell (w.2.1 13) (m1, .inl (va_cpy (s_A S k0) (s_A S k1) (nI sp).toNatClampNeg (nI dp).toNatClampNeg (nI n).toNatClampNeg)) := va_copied (fun z => .int z) (w.2.1 13) (w.2.1 13) (s_A S k0) (s_A S k1) (by rw [nI_clamp (by omega), nI_clamp (by omega)]; exact h4)
  rw [nI_clamp (by omega), nI_clamp (by omega), nI_clamp (by omega)] at e1
  rw [e1] at X' step
  generalize hg : va_cpy (s_A S k0) (s_A S k1) sp dp n = g at *
  have hlt : ad (w_b w) k1 < H.size := (Array.getElem?_eq_some_iff.mp c1).1
  have hheap : ((T.setVm vm').setCell (ad (w_b w) k1) (vp_cell (w.2.1 13) (m1, .inl g))).heap = H.setIfInBounds (ad (w_b w) k1) (vp_cell (w.2.1 13) (m1, .inl g)) := by rw [← hT]; rfl
  have oq : ∀ q : Nat, q ≠ ad (w_b w) k1 → (H.setIfInBounds (ad (w_b w) k1) (vp_cell (w.2.1 13) (m1, .inl g)))[q]? = H[q]? := fun q hq => by simp [Array.getElem?_setIfInBounds, Ne.symm hq]
  have hR' : gx_R w (s_setA S k1 g) (H.setIfInBounds (ad (w_b w) k1) (vp_cell (w.2.1 13) (m1, .inl g))) := by
    refine hRR.upd (k := k1) (by rw [h1.1]; exact Nat.le_of_ble_eq_true rfl) (fun j => rfl) rfl (fun j hj => ?_) (zk h1.2.2) ?_ (by simp) oq
    · show s_entc _ _ _ _ _ _ _ _ _ _ = s_entc _ _ _ _ _ _ _ _ _ _
      have e1 : s_A (s_setA S k1 g) j = s_A S j := u1_ne hj
      rw [e1]; rfl
    · unfold s_ent
      rw [show s_k (s_setA S k1 g) k1 = 13 from h1.1, show s_A (s_setA S k1 g) k1 = g from u1_eq, show s_n (s_setA S k1 g) k1 = m1 from h1.2.1]
      show (H.setIfInBounds (ad (w_b w) k1) _)[ad (w_b w) k1]? = some (vp_cell _ _)
      simp [Array.getElem?_setIfInBounds, hlt]
  obtain ⟨t, a1, b1⟩ := kk _ _ ls hR' (fun q hq => by
      rcases List.mem_append.mp hq with h | h
      · exact hl q h
      · obtain ⟨z, -, hz⟩ := List.mem_map.mp h
        rw [← hz]
        exact ad_ge) hL _ hheap X'
  exact ⟨t, step t a1, b1⟩
