/-! ===== THE CLASS: cells, what stays, JDK methods ===== -/
/-- a key whose cell is there -/
def okK (S : St) (k : Nat) : Prop := 121 ≤ s_z S ∧ (k < 95 ∨ (1000 ≤ k ∧ k < 1026) ∨ (2000 ≤ k ∧ k - 2000 + 121 < s_z S))
theorem zk {w : Wd} {S : St} {k : Nat} (h : okK S k) : ad (w_b w) k < w_b w + s_z S := by
  have n1 : nX = 95 := rfl
  have n2 : nM = 26 := rfl
  obtain ⟨h0, h1⟩ := h
  unfold ad
  split
  · omega
  · split <;> omega
def gx_o (S : St) (k kd : Nat) : Prop := s_k S k = kd ∧ okK S k
def gx_a (S : St) (k kd n : Nat) : Prop := s_k S k = kd ∧ s_n S k = n ∧ okK S k
/-- nothing but the cells of D has changed -/
def eqO (D : Nat → Prop) (S S' : St) : Prop := s_z S' = s_z S ∧ (∀ k, s_k S' k = s_k S k) ∧ (∀ k, s_n S' k = s_n S k) ∧ ∀ k, ¬ D k → (∀ f, s_I S' f k = s_I S f k) ∧ (∀ f, s_L S' f k = s_L S f k) ∧ (∀ f, s_R S' f k = s_R S f k) ∧ s_A S' k = s_A S k ∧ s_B S' k = s_B S k ∧ s_Q S' k = s_Q S k
theorem eqO.refl {D : Nat → Prop} {S : St} : eqO D S S := ⟨rfl, fun _ => rfl, fun _ => rfl, fun _ _ => ⟨fun _ => rfl, fun _ => rfl, fun _ => rfl, rfl, rfl, rfl⟩⟩
theorem eqO.trans {D : Nat → Prop} {S T U : St} (h : eqO D S T) (g : eqO D T U) : eqO D S U := by
  refine ⟨g.1.trans h.1, fun k => (g.2.1 k).trans (h.2.1 k), fun k => (g.2.2.1 k).trans (h.2.2.1 k), fun k hk => ?_⟩
  obtain ⟨a1, a2, a3, a4, a5, a6⟩ := h.2.2.2 k hk
  obtain ⟨b1, b2, b3, b4, b5, b6⟩ := g.2.2.2 k hk
  exact ⟨fun f => (b1 f).trans (a1 f), fun f => (b2 f).trans (a2 f), fun f => (b3 f).trans (a3 f), b4.trans a4, b5.trans a5, b6.trans a6⟩
theorem eqO.mono {D E : Nat → Prop} {S T : St} (h : eqO D S T) (hd : ∀ k, D k → E k) : eqO E S T := ⟨h.1, h.2.1, h.2.2.1, fun k hk => h.2.2.2 k (fun q => hk (hd k q))⟩
theorem eqO.o {D : Nat → Prop} {S T : St} (h : eqO D S T) {k kd : Nat} (g : gx_o S k kd) : gx_o T k kd := ⟨(h.2.1 k).trans g.1, by unfold okK; rw [h.1]; exact g.2⟩
theorem eqO.a {D : Nat → Prop} {S T : St} (h : eqO D S T) {k kd n : Nat} (g : gx_a S k kd n) : gx_a T k kd n := ⟨(h.2.1 k).trans g.1, (h.2.2.1 k).trans g.2.1, by unfold okK; rw [h.1]; exact g.2.2⟩
theorem eqO.I {D : Nat → Prop} {S T : St} (h : eqO D S T) {f k : Nat} (hk : ¬ D k) : s_I T f k = s_I S f k := (h.2.2.2 k hk).1 f
theorem eqO.L {D : Nat → Prop} {S T : St} (h : eqO D S T) {f k : Nat} (hk : ¬ D k) : s_L T f k = s_L S f k := (h.2.2.2 k hk).2.1 f
theorem eqO.R {D : Nat → Prop} {S T : St} (h : eqO D S T) {f k : Nat} (hk : ¬ D k) : s_R T f k = s_R S f k := (h.2.2.2 k hk).2.2.1 f
theorem eqO.A {D : Nat → Prop} {S T : St} (h : eqO D S T) {k : Nat} (hk : ¬ D k) : s_A T k = s_A S k := (h.2.2.2 k hk).2.2.2.1
theorem eqO.B {D : Nat → Prop} {S T : St} (h : eqO D S T) {k : Nat} (hk : ¬ D k) : s_B T k = s_B S k := (h.2.2.2 k hk).2.2.2.2.1
theorem eqO.Q {D : Nat → Prop} {S T : St} (h : eqO D S T) {k : Nat} (hk : ¬ D k) : s_Q T k = s_Q S k := (h.2.2.2 k hk).2.2.2.2.2
theorem u2_off {α : Type} {f : Nat → Nat → α} {f0 k j g : Nat} {v : α} (h : j ≠ k) : u2 f f0 k v g j = f g j := by
  unfold u2
  by_cases e : g = f0
  · rw [if_pos e, if_neg h]
  · rw [if_neg e]
theorem u2_at {α : Type} {f : Nat → Nat → α} {f0 k : Nat} {v : α} : u2 f f0 k v f0 k = v := by unfold u2; rw [if_pos rfl, if_pos rfl]
theorem u2_fo {α : Type} {f : Nat → Nat → α} {f0 k j g : Nat} {v : α} (h : g ≠ f0) : u2 f f0 k v g j = f g j := by unfold u2; rw [if_neg h]
theorem eqO.sI {D : Nat → Prop} {S : St} {f k : Nat} {v : Int32} (h : D k) : eqO D S (s_setI S f k v) := ⟨rfl, fun _ => rfl, fun _ => rfl, fun j hj => ⟨fun g => u2_off (f := s_I S) (fun e => hj (by rw [e]; exact h)), fun _ => rfl, fun _ => rfl, rfl, rfl, rfl⟩⟩
theorem eqO.sL {D : Nat → Prop} {S : St} {f k : Nat} {v : Int64} (h : D k) : eqO D S (s_setL S f k v) := ⟨rfl, fun _ => rfl, fun _ => rfl, fun j hj => ⟨fun _ => rfl, fun g => u2_off (f := s_L S) (fun e => hj (by rw [e]; exact h)), fun _ => rfl, rfl, rfl, rfl⟩⟩
theorem eqO.sR {D : Nat → Prop} {S : St} {f k : Nat} {v : Option Nat} (h : D k) : eqO D S (s_setR S f k v) := ⟨rfl, fun _ => rfl, fun _ => rfl, fun j hj => ⟨fun _ => rfl, fun _ => rfl, fun g => u2_off (f := s_R S) (fun e => hj (by rw [e]; exact h)), rfl, rfl, rfl⟩⟩
theorem eqO.sA {D : Nat → Prop} {S : St} {k : Nat} {g : Nat → Int32} (h : D k) : eqO D S (s_setA S k g) := ⟨rfl, fun _ => rfl, fun _ => rfl, fun j hj => ⟨fun _ => rfl, fun _ => rfl, fun _ => rfl, if_neg (fun (e : j = k) => hj (by rw [e]; exact h)), rfl, rfl⟩⟩
theorem eqO.sB {D : Nat → Prop} {S : St} {k : Nat} {g : Nat → Int64} (h : D k) : eqO D S (s_setB S k g) := ⟨rfl, fun _ => rfl, fun _ => rfl, fun j hj => ⟨fun _ => rfl, fun _ => rfl, fun _ => rfl, rfl, if_neg (fun (e : j = k) => hj (by rw [e]; exact h)), rfl⟩⟩
theorem eqO.sQ {D : Nat → Prop} {S : St} {k : Nat} {g : Nat → Option Nat} (h : D k) : eqO D S (s_setQ S k g) := ⟨rfl, fun _ => rfl, fun _ => rfl, fun j hj => ⟨fun _ => rfl, fun _ => rfl, fun _ => rfl, rfl, rfl, if_neg (fun (e : j = k) => hj (by rw [e]; exact h))⟩⟩
theorem gA_at {S : St} {k : Nat} {g : Nat → Int32} : s_A (s_setA S k g) k = g := if_pos rfl
theorem gA_ne {S : St} {k j : Nat} {g : Nat → Int32} (h : j ≠ k) : s_A (s_setA S k g) j = s_A S j := if_neg h
theorem gI_at {S : St} {f k : Nat} {v : Int32} : s_I (s_setI S f k v) f k = v := u2_at
theorem gI_ne {S : St} {f k g j : Nat} {v : Int32} (h : g ≠ f ∨ j ≠ k) : s_I (s_setI S f k v) g j = s_I S g j := h.elim (fun q => u2_fo (f := s_I S) q) (fun q => u2_off (f := s_I S) q)
theorem kc_J6_265 : Cond.constant RJ6 265 (1431655765) ∈ gx_T := gx_mem (List.mem_of_getElem? (i := 893) (by decide +kernel)) (by first | rfl | decide +kernel)
theorem kc_J6_266 : Cond.constant RJ6 266 (858993459) ∈ gx_T := gx_mem (List.mem_of_getElem? (i := 894) (by decide +kernel)) (by first | rfl | decide +kernel)
theorem kc_J6_267 : Cond.constant RJ6 267 (252645135) ∈ gx_T := gx_mem (List.mem_of_getElem? (i := 895) (by decide +kernel)) (by first | rfl | decide +kernel)
def rmJ : Room := { frames := 3, cells := 0, slots := 0, locals := 60 }
def bcF (x : Int32) : Int32 :=
  let a := x - ((x.toUInt32 >>> ((nI 1).toUInt32 &&& Int32.toUInt32 31)).toInt32 &&& 1431655765)
  let b := (a &&& 858993459) + ((a.toUInt32 >>> ((nI 2).toUInt32 &&& Int32.toUInt32 31)).toInt32 &&& 858993459)
  let c := (b + (b.toUInt32 >>> ((nI 4).toUInt32 &&& Int32.toUInt32 31)).toInt32) &&& 252645135
  let d := c + (c.toUInt32 >>> ((nI 8).toUInt32 &&& Int32.toUInt32 31)).toInt32
  let e := d + (d.toUInt32 >>> ((nI 16).toUInt32 &&& Int32.toUInt32 31)).toInt32
  e &&& nI 63
theorem bc_nI : ∀ s, s < 128 → bcF (nI s) = nI (popN s) := by decide +kernel
theorem c_bitCount (w : Wd) (l : Launch) (S : St) (s : Nat) (hs : s < 128) : gx_M w l yJ6_bitCount_0f7a4 cJ6_bitCount_0f7a4 1 (some .int) rmJ [.int (nI s)] S (pI (nI (popN s)) S) := by
  refine gx_start rfl 0 rfl (Nat.le_of_ble_eq_true rfl) ?_
  intro X C _ hl
  subst hl
  refine gx_L (L' := [_]) rfl ?_
  refine g_iload_n (pc := 0) C dJ6_bitCount_0f7a4_0 rfl ?_
  refine g_iload_n (pc := 1) C dJ6_bitCount_0f7a4_1 rfl ?_
  refine g_iconst (pc := 2) (v := nI 1) C dJ6_bitCount_0f7a4_2 (by decide) ?_
  refine g_iushr (pc := 3) C dJ6_bitCount_0f7a4_3 ?_
  refine g_ldcw (pc := 4) (v := 1431655765) C dJ6_bitCount_0f7a4_4 kc_J6_265 ?_
  refine g_iand (pc := 7) C dJ6_bitCount_0f7a4_7 ?_
  refine g_isub (pc := 8) C dJ6_bitCount_0f7a4_8 ?_
  refine g_istore_n (pc := 9) (L' := [_]) C dJ6_bitCount_0f7a4_9 rfl rfl ?_
  refine g_iload_n (pc := 10) C dJ6_bitCount_0f7a4_10 rfl ?_
  refine g_ldcw (pc := 11) (v := 858993459) C dJ6_bitCount_0f7a4_11 kc_J6_266 ?_
  refine g_iand (pc := 14) C dJ6_bitCount_0f7a4_14 ?_
  refine g_iload_n (pc := 15) C dJ6_bitCount_0f7a4_15 rfl ?_
  refine g_iconst (pc := 16) (v := nI 2) C dJ6_bitCount_0f7a4_16 (by decide) ?_
  refine g_iushr (pc := 17) C dJ6_bitCount_0f7a4_17 ?_
  refine g_ldcw (pc := 18) (v := 858993459) C dJ6_bitCount_0f7a4_18 kc_J6_266 ?_
  refine g_iand (pc := 21) C dJ6_bitCount_0f7a4_21 ?_
  refine g_iadd (pc := 22) C dJ6_bitCount_0f7a4_22 ?_
  refine g_istore_n (pc := 23) (L' := [_]) C dJ6_bitCount_0f7a4_23 rfl rfl ?_
  refine g_iload_n (pc := 24) C dJ6_bitCount_0f7a4_24 rfl ?_
  refine g_iload_n (pc := 25) C dJ6_bitCount_0f7a4_25 rfl ?_
  refine g_iconst (pc := 26) (v := nI 4) C dJ6_bitCount_0f7a4_26 (by decide) ?_
  refine g_iushr (pc := 27) C dJ6_bitCount_0f7a4_27 ?_
  refine g_iadd (pc := 28) C dJ6_bitCount_0f7a4_28 ?_
  refine g_ldcw (pc := 29) (v := 252645135) C dJ6_bitCount_0f7a4_29 kc_J6_267 ?_
  refine g_iand (pc := 32) C dJ6_bitCount_0f7a4_32 ?_
  refine g_istore_n (pc := 33) (L' := [_]) C dJ6_bitCount_0f7a4_33 rfl rfl ?_
  refine g_iload_n (pc := 34) C dJ6_bitCount_0f7a4_34 rfl ?_
  refine g_iload_n (pc := 35) C dJ6_bitCount_0f7a4_35 rfl ?_
  refine g_bipush (pc := 36) (v := nI 8) C dJ6_bitCount_0f7a4_36 (by decide) ?_
  refine g_iushr (pc := 38) C dJ6_bitCount_0f7a4_38 ?_
  refine g_iadd (pc := 39) C dJ6_bitCount_0f7a4_39 ?_
  refine g_istore_n (pc := 40) (L' := [_]) C dJ6_bitCount_0f7a4_40 rfl rfl ?_
  refine g_iload_n (pc := 41) C dJ6_bitCount_0f7a4_41 rfl ?_
  refine g_iload_n (pc := 42) C dJ6_bitCount_0f7a4_42 rfl ?_
  refine g_bipush (pc := 43) (v := nI 16) C dJ6_bitCount_0f7a4_43 (by decide) ?_
  refine g_iushr (pc := 45) C dJ6_bitCount_0f7a4_45 ?_
  refine g_iadd (pc := 46) C dJ6_bitCount_0f7a4_46 ?_
  refine g_istore_n (pc := 47) (L' := [_]) C dJ6_bitCount_0f7a4_47 rfl rfl ?_
  refine g_iload_n (pc := 48) C dJ6_bitCount_0f7a4_48 rfl ?_
  refine g_bipush (pc := 49) (v := nI 63) C dJ6_bitCount_0f7a4_49 (by decide) ?_
  refine g_iand (pc := 51) C dJ6_bitCount_0f7a4_51 ?_
  exact g_ireturn (pc := 52) C ⟨rfl, rfl⟩ dJ6_bitCount_0f7a4_52 ⟨by rw [← bc_nI s hs]; rfl, rfl⟩
def mxF (x y : Int32) : Int32 := if x < y then y else x
def mnF (x y : Int32) : Int32 := if y < x then y else x
theorem g_mmax {w : Wd} {X : FX} {S : St} {n1 n2 pc : Nat} {L : List (Option Value)} {st : List Value} {Q : State → Prop} {cc : ByteArray} {nL : Nat} {own : String} {rm : Room} {ret : Option FieldType} (C : gx_C w X cc nL own rm ret) {index : Nat} {x y : Int32} (hlk : Cond.methodLink own index yJ9_max_7cf53 ∈ gx_T) (hR : Nat.ble 1 rm.frames = true ∧ Nat.ble 21 rm.locals = true) (hcs : n1 ≤ rm.cells ∧ n2 ≤ rm.slots) (hLn : L.length = nL) (hst : (st.map fun v => v.category).sum ≤ 8) (hd : decode cc pc = .ok (.invokestatic index, 3)) (kk : gx_G w X S n1 n2 (pc + 3) L (.int (mxF x y) :: st) Q) : gx_G w X S n1 n2 pc L (.int y :: .int x :: st) Q := by
  intro H locs ls hRR hl hL
  have e7 := C.2.2.2.2.2.2.1
  have h2 := Nat.le_of_ble_eq_true hR.2
  exact va_mmax C.1 C.2.1 (by rw [C.2.2.1, ← hLn]; exact hL.1.symm) C.2.2.2.1 (C.2.2.2.2.1 _ hlk) (C.2.2.2.2.1 _ ws_J9_max_7cf53) (C.2.2.2.2.1 _ wi_J9) (C.2.2.2.2.1 _ wc_J9_max_7cf53) (by rw [e7]; exact Nat.le_of_ble_eq_true hR.1) (by rw [e7]; omega) (by rw [e7]; exact hcs.1) (by rw [e7]; exact hcs.2) hd (kk H locs ls hRR hl hL)
theorem g_mmin {w : Wd} {X : FX} {S : St} {n1 n2 pc : Nat} {L : List (Option Value)} {st : List Value} {Q : State → Prop} {cc : ByteArray} {nL : Nat} {own : String} {rm : Room} {ret : Option FieldType} (C : gx_C w X cc nL own rm ret) {index : Nat} {x y : Int32} (hlk : Cond.methodLink own index yJ9_min_7cf53 ∈ gx_T) (hR : Nat.ble 1 rm.frames = true ∧ Nat.ble 21 rm.locals = true) (hcs : n1 ≤ rm.cells ∧ n2 ≤ rm.slots) (hLn : L.length = nL) (hst : (st.map fun v => v.category).sum ≤ 8) (hd : decode cc pc = .ok (.invokestatic index, 3)) (kk : gx_G w X S n1 n2 (pc + 3) L (.int (mnF x y) :: st) Q) : gx_G w X S n1 n2 pc L (.int y :: .int x :: st) Q := by
  intro H locs ls hRR hl hL
  have e7 := C.2.2.2.2.2.2.1
  have h2 := Nat.le_of_ble_eq_true hR.2
  exact va_mmin C.1 C.2.1 (by rw [C.2.2.1, ← hLn]; exact hL.1.symm) C.2.2.2.1 (C.2.2.2.2.1 _ hlk) (C.2.2.2.2.1 _ ws_J9_min_7cf53) (C.2.2.2.2.1 _ wi_J9) (C.2.2.2.2.1 _ wc_J9_min_7cf53) (by rw [e7]; exact Nat.le_of_ble_eq_true hR.1) (by rw [e7]; omega) (by rw [e7]; exact hcs.1) (by rw [e7]; exact hcs.2) hd (kk H locs ls hRR hl hL)
theorem blt_of {n : Nat} (h : n < 2147483648) : Nat.blt n 2147483648 = true := Nat.ble_eq_true_of_le h
def filF (r : Nat → Int32) (v : Int32) (n : Nat) : Nat → Int32 := fun j => if j < n then v else r j
theorem filF_s {r : Nat → Int32} {v : Int32} {n : Nat} : upd (filF r v n) n v = filF r v (n + 1) := by
  funext j; simp only [upd, filF]
  by_cases e : j = n
  · subst e; rw [if_pos rfl, if_pos (by omega)]
  · rw [if_neg e]
    by_cases h : j < n
    · rw [if_pos h, if_pos (by omega)]
    · rw [if_neg h, if_neg (by omega)]
theorem filF_0 {r : Nat → Int32} {v : Int32} : filF r v 0 = r := by
  funext j; simp [filF]
theorem c_fill (w : Wd) (l : Launch) (S : St) (k n : Nat) (v : Int32) (hk : gx_a S k 13 n) (hn : n < 1000) : gx_M w l yJ7_fill_53178 cJ7_fill_53178 4 none rmJ [.ref (ad (w_b w) k), .int v] S (pV (s_setA S k (filF (s_A S k) v n))) := by
  refine gx_start rfl 2 rfl (Nat.le_of_ble_eq_true rfl) ?_
  intro X C _ hl
  subst hl
  refine gx_L (L' := [_, _, _, _]) rfl ?_
  refine g_iconst (pc := 0) (v := nI 0) C dJ7_fill_53178_0 (by decide) ?_
  refine g_istore_n (pc := 1) (L' := [_, some (.int _), _, _]) C dJ7_fill_53178_1 rfl rfl ?_
  refine g_aload_n (pc := 2) C dJ7_fill_53178_2 rfl ?_
  refine g_alen13 (pc := 3) (n := n) (v := nI (n)) C (by exact hk.1) (by exact hk.2.1) (zk (by exact hk.2.2)) rfl dJ7_fill_53178_3 ?_
  refine g_istore_n (pc := 4) (L' := [_, _, some (.int _), _]) C dJ7_fill_53178_4 rfl rfl ?_
  have loop : ∀ d j, j + d = n → gx_G w X (s_setA S k (filF (s_A S k) v j)) 0 0 5 [some (.ref (ad (w_b w) k)), some (.int v), some (.int (nI j)), some (.int (nI n))] [] (gx_E w X (pV (s_setA S k (filF (s_A S k) v n)))) := by
    intro d
    induction d with
    | zero =>
      intro j hj
      have hj : j = n := hj
      subst hj
      refine g_iload_n (pc := 5) C dJ7_fill_53178_5 rfl ?_
      refine g_iload_n (pc := 6) C dJ7_fill_53178_6 rfl ?_
      refine g_icmp_ge (pc := 7) C 20 dJ7_fill_53178_7 rfl (fun h => ?_) (fun h => ?_)
      · exact g_return (pc := 20) C ⟨rfl, rfl⟩ dJ7_fill_53178_20 ⟨rfl, rfl⟩
      · exact absurd (nI_le (Nat.le_refl j) (by omega)) h
    | succ d ih =>
      intro j hj
      refine g_iload_n (pc := 5) C dJ7_fill_53178_5 rfl ?_
      refine g_iload_n (pc := 6) C dJ7_fill_53178_6 rfl ?_
      refine g_icmp_ge (pc := 7) C 20 dJ7_fill_53178_7 rfl (fun h => ?_) (fun h => ?_)
      · exact absurd h (nI_ge (by omega) (by omega))
      · refine g_aload_n (pc := 10) C dJ7_fill_53178_10 rfl ?_
        refine g_iload_n (pc := 11) C dJ7_fill_53178_11 rfl ?_
        refine g_iload_n (pc := 12) C dJ7_fill_53178_12 rfl ?_
        refine n_iast (pc := 13) (n := n) C (by exact hk.1) (by exact hk.2.1) (zk (by exact hk.2.2)) isn_v (blt_of (by omega)) (by omega) dJ7_fill_53178_13 ?_
        refine gx_S (S' := s_setA S k (filF (s_A S k) v (j + 1))) (by rw [gA_at, s_AA]; exact congrArg _ filF_s) ?_
        refine g_iinc (pc := 14) (L' := [_, some (.int _), _, _]) C dJ7_fill_53178_14 rfl (nI_1 _) rfl ?_
        refine g_goto (pc := 17) C 5 dJ7_fill_53178_17 rfl ?_
        exact ih (j + 1) (by omega)
  refine gx_S ?_ (loop n 0 (by omega))
  rw [filF_0, s_A_id]
