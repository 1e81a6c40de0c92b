/-! ===== cells that are made ===== -/
def kz (z : Nat) : Nat := if z < 95 then z else if z < 121 then 1000 + (z - 95) else 2000 + (z - 121)
theorem kz_ad (b z : Nat) : ad b (kz z) = b + z := by
  have n1 : nX = 95 := rfl
  have n2 : nM = 26 := rfl
  unfold kz
  by_cases h1 : z < 95
  · rw [if_pos h1]; unfold ad; rw [if_pos (by omega)]
  · rw [if_neg h1]
    by_cases h2 : z < 121
    · rw [if_pos h2]; unfold ad; rw [if_neg (by omega), if_pos (by omega)]; omega
    · rw [if_neg h2]; unfold ad; rw [if_neg (by omega), if_neg (by omega)]; omega
/-- one more cell, of that kind and length, with nothing in it -/
def s_new (S : St) (kd n : Nat) : St := (u1 S.1 (kz (s_z S)) kd, u1 S.2.1 (kz (s_z S)) n, (fun f k => if k = kz (s_z S) then none else S.2.2.1 f k), u1 S.2.2.2.1 (kz (s_z S)) (fun _ => none), (fun f k => if k = kz (s_z S) then 0 else S.2.2.2.2.1 f k), (fun f k => if k = kz (s_z S) then 0 else S.2.2.2.2.2.1 f k), u1 S.2.2.2.2.2.2.1 (kz (s_z S)) (fun _ => 0), u1 S.2.2.2.2.2.2.2.1 (kz (s_z S)) (fun _ => 0), s_z S + 1)
theorem nw_z (S : St) (kd n : Nat) : s_z (s_new S kd n) = s_z S + 1 := rfl
theorem nw_k {S : St} {kd n k : Nat} (h : k ≠ kz (s_z S)) : s_k (s_new S kd n) k = s_k S k := by
  unfold s_k
  rw [show (s_new S kd n).1 k = S.1 k from if_neg h]
theorem nw_n {S : St} {kd n k : Nat} (h : k ≠ kz (s_z S)) : s_n (s_new S kd n) k = s_n S k := by
  unfold s_n
  rw [show (s_new S kd n).2.1 k = S.2.1 k from if_neg h]
theorem nw_I {S : St} {kd n f k : Nat} (h : k ≠ kz (s_z S)) : s_I (s_new S kd n) f k = s_I S f k := if_neg h
theorem nw_L {S : St} {kd n f k : Nat} (h : k ≠ kz (s_z S)) : s_L (s_new S kd n) f k = s_L S f k := if_neg h
theorem nw_R {S : St} {kd n f k : Nat} (h : k ≠ kz (s_z S)) : s_R (s_new S kd n) f k = s_R S f k := if_neg h
theorem nw_A {S : St} {kd n k : Nat} (h : k ≠ kz (s_z S)) : s_A (s_new S kd n) k = s_A S k := if_neg h
theorem nw_B {S : St} {kd n k : Nat} (h : k ≠ kz (s_z S)) : s_B (s_new S kd n) k = s_B S k := if_neg h
theorem nw_Q {S : St} {kd n k : Nat} (h : k ≠ kz (s_z S)) : s_Q (s_new S kd n) k = s_Q S k := if_neg h
theorem nw_I0 {S : St} {kd n f : Nat} : s_I (s_new S kd n) f (kz (s_z S)) = 0 := if_pos rfl
theorem nw_L0 {S : St} {kd n f : Nat} : s_L (s_new S kd n) f (kz (s_z S)) = 0 := if_pos rfl
theorem nw_R0 {S : St} {kd n f : Nat} : s_R (s_new S kd n) f (kz (s_z S)) = none := if_pos rfl
theorem nw_A0 {S : St} {kd n : Nat} : s_A (s_new S kd n) (kz (s_z S)) = fun _ => 0 := if_pos rfl
theorem nw_B0 {S : St} {kd n : Nat} : s_B (s_new S kd n) (kz (s_z S)) = fun _ => 0 := if_pos rfl
theorem nw_Q0 {S : St} {kd n : Nat} : s_Q (s_new S kd n) (kz (s_z S)) = fun _ => none := if_pos rfl
theorem nw_e {w : Wd} {S : St} {kd n k : Nat} (h : k ≠ kz (s_z S)) : s_ent w.2.1 (w_b w) (s_new S kd n) k = s_ent w.2.1 (w_b w) S k := by
  unfold s_ent
  rw [nw_k h, nw_n h, nw_A h, nw_B h, nw_Q h, show (fun f => s_I (s_new S kd n) f k) = fun f => s_I S f k from funext fun f => nw_I h, show (fun f => s_L (s_new S kd n) f k) = fun f => s_L S f k from funext fun f => nw_L h, show (fun f => s_R (s_new S kd n) f k) = fun f => s_R S f k from funext fun f => nw_R h]
theorem nw_e0 {w : Wd} {S : St} {kd n : Nat} (hk : s_k (s_new S kd n) (kz (s_z S)) = kd) (hn : s_n (s_new S kd n) (kz (s_z S)) = n) : s_ent w.2.1 (w_b w) (s_new S kd n) (kz (s_z S)) = s_entc w.2.1 (w_b w) (fun _ => 0) (fun _ => 0) (fun _ => none) n (fun _ => 0) (fun _ => 0) (fun _ => none) kd := by
  unfold s_ent
  rw [hk, hn, nw_A0, nw_B0, nw_Q0, show (fun f => s_I (s_new S kd n) f (kz (s_z S))) = fun _ => 0 from funext fun f => nw_I0, show (fun f => s_L (s_new S kd n) f (kz (s_z S))) = fun _ => 0 from funext fun f => nw_L0, show (fun f => s_R (s_new S kd n) f (kz (s_z S))) = fun _ => none from funext fun f => nw_R0]
theorem gx_R.nw {w : Wd} {S : St} {H H1 : Heap} {kd n : Nat} (hR : gx_R w S H) (h19 : kd < 19) (hk : s_k (s_new S kd n) (kz (s_z S)) = kd) (hn : s_n (s_new S kd n) (kz (s_z S)) = n) (hat : va_at w.1 vwCl (H.size, s_entc w.2.1 (w_b w) (fun _ => 0) (fun _ => 0) (fun _ => none) n (fun _ => 0) (fun _ => 0) (fun _ => none) kd) H1) (z : H1.size = H.size + 1) (o : ∀ q, q < H.size → H1[q]? = H[q]?) : gx_R w (s_new S kd n) H1 := by
  refine ⟨by rw [z, hR.1, nw_z]; omega, fun k hk19 hz => ?_, fun q hq => (o q (by rw [hR.1]; omega)).trans (hR.2.2 q hq)⟩
  by_cases e : k = kz (s_z S)
  · subst e
    rw [nw_e0 hk hn, kz_ad, ← hR.1]
    exact hat
  · have hne : ad (w_b w) k ≠ w_b w + s_z S := fun q => e (ad_inj (S := s_new S kd n) hk19 (by rw [hk]; exact h19) (q.trans (kz_ad _ _).symm))
    have hlt : ad (w_b w) k < w_b w + s_z S := by
      rw [nw_z] at hz
      omega
    rw [nw_e e]
    exact (hR.2.1 k (by rw [← nw_k e]; exact hk19) hlt).kept (o _ (by rw [hR.1]; exact hlt))
section NEW
variable {w : Wd} {X : FX} {S : St} {n1 n2 pc : Nat} {L : List (Option Value)} {st : List Value} {Q : State → Prop} {cc : ByteArray} {nL : Nat} {own : String} {rm : Room} {ret : Option FieldType}
theorem gx_new (C : gx_C w X cc nL own rm ret) {Cn : String} {T : u_T} {N ci index : Nat} {fs : List Value} (hc : vwCl[ci]? = some (Cn, T, N)) (hin : ∀ c ∈ u_ws Cn T N, c ∈ gx_T) (ty : Nat → FieldType) (hty : ∀ k, k < N → parseFieldDescriptor (T k).2.2.1 = some (ty k)) (hcl : Cond.classLink own index Cn ∈ gx_T) (hinst : Cond.instantiable Cn N ∈ gx_T) (hini : Cond.initialized Cn ∈ gx_T) (h19 : ci < 19) (he : s_entc w.2.1 (w_b w) (fun _ => 0) (fun _ => 0) (fun _ => none) 0 (fun _ => 0) (fun _ => 0) (fun _ => none) ci = .inr (ci, fs)) (hfs : ∀ j, j < N → defaultValue (ty j) = vp_V fs j) (hk : s_k (s_new S ci 0) (kz (s_z S)) = ci) (hn : s_n (s_new S ci 0) (kz (s_z S)) = 0) (hcs : n1 + 1 ≤ rm.cells ∧ n2 + N ≤ rm.slots) (hd : decode cc pc = .ok (.new index, 3))
    (kk : gx_G w X (s_new S ci 0) (n1 + 1) (n2 + N) (pc + 3) L (.ref (ad (w_b w) (kz (s_z S))) :: st) Q) : gx_G w X S n1 n2 pc L st Q := by
  intro H locs ls hR hl hL
  have hts := C.2.2.2.2.1
  have hKn := C.2.2.2.2.2.1.1 ci _ hc
  refine W.newcK C.1 C.2.1 C.2.2.2.1 (hts _ hcl) (hts _ hinst) (hts _ hini) rfl hd (by rw [C.2.2.2.2.2.2.1]; exact hcs.1) (by rw [C.2.2.2.2.2.2.1]; exact hcs.2) hKn.2.1 rfl fun H1 kC hkC e1 z1 o1 => ?_
  have hat : va_at w.1 vwCl (H.size, s_entc w.2.1 (w_b w) (fun _ => 0) (fun _ => 0) (fun _ => none) 0 (fun _ => 0) (fun _ => 0) (fun _ => none) ci) H1 := by
    rw [he]
    exact ⟨_, hc, (u_born ty hts hin hKn hkC e1 hty).to hfs⟩
  have hR1 := hR.nw h19 hk hn hat z1 o1
  have := kk H1 locs ls hR1 hl hL
  rw [kz_ad, ← hR.1] at this
  exact this
theorem gx_newa (C : gx_C w X cc nL own rm ret) {a0 : vp_A} {atype : ArrayType} {ty : FieldType} {kd N t : Nat} (hty : newarray.typeOf atype = ty) (harr : Cond.arrayClass ty ∈ gx_T) (ht : (w_tys w)[t]? = some (w.2.1 kd, ty)) (h19 : kd < 19) (ha : s_entc w.2.1 (w_b w) (fun _ => 0) (fun _ => 0) (fun _ => none) N (fun _ => 0) (fun _ => 0) (fun _ => none) kd = .inl (w.2.1 kd, a0)) (hcell : vp_cell (w.2.1 kd) a0 = arrV (w.2.1 kd) N (fun _ => defaultValue ty)) (hN : N < 100000) (hb4 : componentBytes ty ≤ 8) (hk : s_k (s_new S kd N) (kz (s_z S)) = kd) (hn : s_n (s_new S kd N) (kz (s_z S)) = N) (hcs : n1 + 1 ≤ rm.cells ∧ n2 + N ≤ rm.slots) (hd : decode cc pc = .ok (.newarray atype, 2))
    (kk : gx_G w X (s_new S kd N) (n1 + 1) (n2 + N) (pc + 2) L (.ref (ad (w_b w) (kz (s_z S))) :: st) Q) : gx_G w X S n1 n2 pc L (.int (nI N) :: st) Q := by
  subst hty
  intro H locs ls hR hl hL
  have hts := C.2.2.2.2.1
  refine va_newaK C.1 C.2.1 (hts _ harr) rfl hd rfl (nI_pos (by omega)) (nI_clamp (by omega)) ?_ (by rw [C.2.2.2.2.2.2.1]; exact hcs.1) (by rw [C.2.2.2.2.2.2.1]; exact hcs.2) rfl fun H1 cA e1 z1 o1 hAr hNm => ?_
  · exact Nat.le_trans (Nat.mul_le_mul (Nat.le_of_lt hN) hb4) (by decide)
  · have hcA : cA = w.2.1 kd := by
      have h2 := (C.2.2.2.2.2.1.2 t _ ht).2
      cases atype <;> exact Option.some.inj (hNm.symm.trans h2)
    have hR1 := hR.nw h19 hk hn (by rw [ha]; show H1[H.size]? = some (vp_cell _ _); rw [hcell, ← hcA]; exact e1) z1 o1
    have := kk H1 locs ls hR1 hl hL
    rw [kz_ad, ← hR.1] at this
    exact this
theorem gx_anew (C : gx_C w X cc nL own rm ret) {Cn : String} {kd N t index : Nat} (hcl : Cond.classLink own index Cn ∈ gx_T) (hov : va_AO Cn (x_s X)) (ht : (w_tys w)[t]? = some (w.2.1 kd, .object Cn)) (h19 : kd < 19) (ha : s_entc w.2.1 (w_b w) (fun _ => 0) (fun _ => 0) (fun _ => none) N (fun _ => 0) (fun _ => 0) (fun _ => none) kd = .inl (w.2.1 kd, N, .inr (.inr (.inr (.inr (fun _ => none)))))) (hN : N < 100000) (hk : s_k (s_new S kd N) (kz (s_z S)) = kd) (hn : s_n (s_new S kd N) (kz (s_z S)) = N) (hcs : n1 + 1 ≤ rm.cells ∧ n2 + N ≤ rm.slots) (hd : decode cc pc = .ok (.anewarray index, 3))
    (kk : gx_G w X (s_new S kd N) (n1 + 1) (n2 + N) (pc + 3) L (.ref (ad (w_b w) (kz (s_z S))) :: st) Q) : gx_G w X S n1 n2 pc L (.int (nI N) :: st) Q := by
  intro H locs ls hR hl hL
  have hts := C.2.2.2.2.1
  have ec : (nI N).toNatClampNeg = N := nI_clamp (by omega)
  refine W.anew C.1 C.2.1 C.2.2.2.1 (hts _ hcl) (va_AO.use hov) rfl hd rfl (nI_pos (by omega)) (by rw [ec]; omega) (by rw [C.2.2.2.2.2.2.1]; exact hcs.1) (by rw [ec, C.2.2.2.2.2.2.1]; exact hcs.2) fun cA kA comp f1 f2 f3 f4 => ?_
  rw [ec]
  have hcA : cA = w.2.1 kd := by
    obtain ⟨kA', comp', g1, g2, g3, g4⟩ := (C.2.2.2.2.2.1.2 t _ ht).2
    exact Option.some.inj (f1.symm.trans g4)
  generalize hH1 : H.push ({ cls := cA, slots := Array.replicate N .null, vm := .none } : Cell) = H1
  have z1 : H1.size = H.size + 1 := by rw [← hH1, Array.size_push]
  have e1 : H1[H.size]? = some (arrV cA N (fun _ => .null)) := by rw [← hH1, Array.getElem?_push_size, ← arrV_new]
  have o1 : ∀ q : Nat, q < H.size → H1[q]? = H[q]? := fun q hq => by rw [← hH1, Array.getElem?_push, if_neg (Nat.ne_of_lt hq)]
  have hR1 := hR.nw h19 hk hn (by rw [ha]; show H1[H.size]? = some (vp_cell _ _); rw [vp_cell_q, ← hcA]; exact e1) z1 o1
  have := kk H1 locs ls hR1 hl hL
  rw [kz_ad, ← hR.1] at this
  exact this
/-- a row's cell gets an object of ours -/
theorem gx_aast (C : gx_C w X cc nL own rm ret) {Cn : String} {T : u_T} {kd k n j v ci t N : Nat} {i : Int32} (hk : s_k S k = kd) (hn : s_n S k = n) (hz : ad (w_b w) k < w_b w + s_z S) (h19 : Nat.blt kd 19 = true) (ha : ∀ I L R A B Q, s_entc w.2.1 (w_b w) I L R n A B Q kd = .inl (w.2.1 kd, n, .inr (.inr (.inr (.inr (fun j => (Q j).map (ad (w_b w)))))))) (ht : (w_tys w)[t]? = some (w.2.1 kd, .object Cn)) (hc : vwCl[ci]? = some (Cn, T, N)) (hci : Nat.blt ci 19 = true) (hv : s_k S v = ci) (hvz : ad (w_b w) v < w_b w + s_z S) (hve : ∃ q, s_entc w.2.1 (w_b w) (fun f => s_I S f v) (fun f => s_L S f v) (fun f => s_R S f v) (s_n S v) (s_A S v) (s_B S v) (s_Q S v) ci = .inr (ci, q)) (he : i = nI j) (hj : j < n) (hnl : n < 100000) (hd : decode cc pc = .ok (.aastore, 1))
    (kk : gx_G w X (s_setQ S k (va_up (s_Q S k) j (some v))) n1 n2 (pc + 1) L st Q) : gx_G w X S n1 n2 pc L (.ref (ad (w_b w) v) :: .int i :: .ref (ad (w_b w) k) :: st) Q := by
  subst he hn
  intro H locs ls hR hl hL
  have ec : (nI j).toNatClampNeg = j := nI_clamp (by omega)
  have hK := C.2.2.2.2.2.1
  have hP := gx_cell hR hk h19 hz
  have hP2 := gx_cell hR hv hci hvz
  obtain ⟨vs, hve⟩ := hve
  rw [hve] at hP2
  rw [ha] at hP
  obtain ⟨r', hr', cellV, g1, g2, g3, -⟩ := hP2 0 _ rfl
  have hcls := (hK.1 ci _ hc).2
  obtain ⟨kA, comp, k1, k2, k3, -⟩ := (hK.2 t _ ht).2
  have hcomp : comp = w.1.1 ci := Option.some.inj (k3.symm.trans hcls.1)
  subst hcomp
  obtain ⟨kC, hkC, -⟩ := hcls.2
  refine W.aast C.1 C.2.1 (hP 0 _ rfl) (fun q h => by cases h) (fun h => by cases h) k1 k2 rfl hkC ⟨nI_pos (by omega), by show _ < (arrV _ _ _).slots.size; rw [arrV_size, ec]; exact hj⟩ g1 (fun q h => by rw [g3] at h; cases h) (by rw [g2]; exact hkC) (by rw [g2]; exact va_assign hcls) rfl rfl hd fun H1 e z oq => ?_
  refine kk H1 _ ls ?_ (fun q hq => ?_) hL
  · refine hR.upd (k := k) (by rw [hk]; exact Nat.le_of_ble_eq_true h19) (fun j => rfl) rfl (fun i hi => ?_) hz ?_ z oq
    · show s_entc _ _ _ _ _ _ _ _ _ _ = s_entc _ _ _ _ _ _ _ _ _ _
      have e1 : s_Q (s_setQ S k (va_up (s_Q S k) j (some v))) i = s_Q S i := u1_ne hi
      rw [e1]; rfl
    · unfold s_ent
      rw [show s_k (s_setQ S k (va_up (s_Q S k) j (some v))) k = kd from hk, show s_n (s_setQ S k (va_up (s_Q S k) j (some v))) k = s_n S k from rfl, ha, show s_Q (s_setQ S k (va_up (s_Q S k) j (some v))) k = va_up (s_Q S k) j (some v) from u1_eq]
      show H1[ad (w_b w) k]? = some (vp_cell _ _)
      rw [e]
      rw [vp_cell_q, vp_cell_q, arrV_store, ec]
      congr 2
      funext q
      by_cases hq : q = j
      · subst hq
        simp [updV, va_up, va_rf]
      · simp [updV, va_up, hq]
  · rcases List.mem_append.mp hq with h | h
    · exact hl q h
    · cases List.mem_singleton.mp h; exact ad_ge
/-- a constructor is called: by its own class's pool, or by a nest mate's -/
theorem gx_initI (C : gx_C w X cc nL own rm ret) {y : MethodName} {cc' : ByteArray} {nL' n index b : Nat} {rm' : Room} {post : Option Value → St → Prop} {B : State → Prop} {As rest : List Value} (hc : Cond.code y cc' nL' none ∈ gx_T) (hini : Cond.initialized y.cls ∈ gx_T) (hlk : Cond.methodLink own index y ∈ gx_T) (hin : Cond.instanceMethod y ∈ gx_T) (hy : y.name = "<init>") (hd : y.cls ≠ "java/lang/invoke/MethodHandle" ∧ y.cls ≠ "java/lang/invoke/VarHandle" ∧ (parseMethodDescriptor y.desc).map (fun d => d.parameters.length) = some n) (hlen : As.length = n)
    (hbl : FrameBlind (va_Pc (.ref b :: As) B)) (hpre : ∀ H : Heap, gx_R w S H → ∀ U : State, U.heap = H → (x_s X).WarmedH U.vm → va_Pc (.ref b :: As) B (Value.ref b :: As).toArray U)
    (M : Met (x_l X) y (Cond.code y cc' nL' none :: gx_T) rm' (va_Pc (.ref b :: As) B) (gx_Q w post) rm'.cells rm'.slots (fun q => w_b w ≤ q)) (hR : Nat.ble (rm'.frames + 1) rm.frames = true ∧ Nat.ble (8 + (nL' + 11) + rm'.locals) rm.locals = true) (hcs : n1 + rm'.cells ≤ rm.cells ∧ n2 + rm'.slots ≤ rm.slots) (hLn : L.length = nL) (hst : (rest.map fun v => v.category).sum ≤ 8) (hdec : decode cc pc = .ok (.invokespecial index, 3))
    (kk : ∀ v S', post v S' → gx_G w X S' (n1 + rm'.cells) (n2 + rm'.slots) (pc + 3) L (v.toList ++ rest) Q) : gx_G w X S n1 n2 pc L (As.reverse ++ .ref b :: rest) Q := by
  intro H locs ls hRR hl hL
  exact gx_after (va_runI (Ts := gx_T) (rest := rest) (As := As) ⟨C.1, C.2.1, C.2.2.1, C.2.2.2.1, C.2.2.2.2.1⟩ M ⟨gx_callB C hc hini hlk hd hR, hy, C.2.2.2.2.1 _ hin⟩ ⟨hbl, hpre H hRR⟩ rfl hlen (by rw [← hLn]; exact hL.1) rfl (by simpa using hst) hdec (by rw [C.2.2.2.2.2.2.1]; exact hcs)) hl hL kk
theorem gx_initN (C : gx_C w X cc nL own rm ret) {y : MethodName} {host : String} {cc' : ByteArray} {nL' n index b : Nat} {rm' : Room} {post : Option Value → St → Prop} {B : State → Prop} {As rest : List Value} (hc : Cond.code y cc' nL' none ∈ gx_T) (hini : Cond.initialized y.cls ∈ gx_T) (hlk : va_Nw (Cond.methodLinkNest own index y host) (x_s X)) (hin : Cond.instanceMethod y ∈ gx_T) (hy : y.name = "<init>") (hd : y.cls ≠ "java/lang/invoke/MethodHandle" ∧ y.cls ≠ "java/lang/invoke/VarHandle" ∧ (parseMethodDescriptor y.desc).map (fun d => d.parameters.length) = some n) (hlen : As.length = n)
    (hbl : FrameBlind (va_Pc (.ref b :: As) B)) (hpre : ∀ H : Heap, gx_R w S H → ∀ U : State, U.heap = H → (x_s X).WarmedH U.vm → va_Pc (.ref b :: As) B (Value.ref b :: As).toArray U)
    (M : Met (x_l X) y (Cond.code y cc' nL' none :: gx_T) rm' (va_Pc (.ref b :: As) B) (gx_Q w post) rm'.cells rm'.slots (fun q => w_b w ≤ q)) (hR : Nat.ble (rm'.frames + 1) rm.frames = true ∧ Nat.ble (8 + (nL' + 11) + rm'.locals) rm.locals = true) (hcs : n1 + rm'.cells ≤ rm.cells ∧ n2 + rm'.slots ≤ rm.slots) (hLn : L.length = nL) (hst : (rest.map fun v => v.category).sum ≤ 8) (hdec : decode cc pc = .ok (.invokespecial index, 3))
    (kk : ∀ v S', post v S' → gx_G w X S' (n1 + rm'.cells) (n2 + rm'.slots) (pc + 3) L (v.toList ++ rest) Q) : gx_G w X S n1 n2 pc L (As.reverse ++ .ref b :: rest) Q := by
  intro H locs ls hRR hl hL
  have hB : va_CN (x_R X) (x_s X) (x_a X) own index y host cc' nL' none (Cond.code y cc' nL' none :: gx_T) rm' rm'.cells rm'.slots n := by
    refine ⟨⟨rfl, rfl, ?_, ?_, gx_wsOK C hc, List.mem_cons_self⟩, C.2.2.2.2.1 _ hc, C.2.2.2.2.1 _ hini, ⟨hd.1, hd.2.1⟩, fun sig h => ?_, va_Nw.use rfl hlk⟩
    · rw [C.2.2.2.2.2.2.1]; exact Nat.le_of_ble_eq_true hR.1
    · rw [C.2.2.2.2.2.2.1]; exact Nat.le_of_ble_eq_true hR.2
    · have h2 := hd.2.2
      rw [h] at h2
      exact (Option.some.inj h2).symm
  exact gx_after (va_runIN (Ts := gx_T) (rest := rest) (As := As) ⟨C.1, C.2.1, C.2.2.1, C.2.2.2.1, C.2.2.2.2.1⟩ M ⟨hB, hy, C.2.2.2.2.1 _ hin⟩ ⟨hbl, hpre H hRR⟩ rfl hlen (by rw [← hLn]; exact hL.1) rfl (by simpa using hst) hdec (by rw [C.2.2.2.2.2.2.1]; exact hcs)) hl hL kk
theorem gx_obj (C : gx_C w X cc nL own rm ret) {index b : Nat} (hlk : Cond.methodLink own index Lib.objectInit ∈ gx_T) (hin : Cond.instanceMethod Lib.objectInit ∈ gx_T) (hc : Cond.code Lib.objectInit ⟨#[0xb1]⟩ 1 none ∈ gx_T) (hLn : L.length = nL) (hst : (st.map fun v => v.category).sum ≤ 8) (hR : Nat.ble 1 rm.frames = true ∧ Nat.ble 20 rm.locals = true) (hd : decode cc pc = .ok (.invokespecial index, 3)) (kk : gx_G w X S n1 n2 (pc + 3) L st Q) : gx_G w X S n1 n2 pc L (.ref b :: st) Q := fun H locs ls hRR hl hL =>
  W.objInit C.1 C.2.1 C.2.2.2.1 (C.2.2.2.2.1 _ hlk) (C.2.2.2.2.1 _ hin) (C.2.2.2.2.1 _ hc) rfl (by rw [C.2.2.1, ← hLn]; exact hL.1) rfl hd (by rw [C.2.2.2.2.2.2.1]; exact Nat.le_of_ble_eq_true hR.1) (by
    have := Nat.le_of_ble_eq_true hR.2
    rw [C.2.2.2.2.2.2.1]
    show 2 * 0 + (st.map fun v => v.category).sum + 12 ≤ rm.locals
    omega) (kk H locs ls hRR hl hL)
end NEW

/-! words that the tables keep apart: nest mates' constructors, rows of our own classes -/
def nests : List (String × Nat × MethodName) := [(RX11, 9, yX10_init), (RX11, 42, yX0_init), (RX11, 64, yX6_init), (RX11, 67, yX4_init), (RX11, 74, yX2_init), (RX9, 11, yX6_init), (RX4, 20, yX6_init), (RX2, 11, yX3_init), (RX2, 20, yX6_init)]
def gx_N (U : State) : Prop := (∀ q ∈ nests, va_Nw (.methodLinkNest q.1 q.2.1 q.2.2 "AimFerry") U) ∧ va_AO RX6 U ∧ va_AO RX7 U ∧ va_AO RX9 U
theorem gx_N.same {u U : State} (hv : U.vm = u.vm) (h : gx_N u) : gx_N U := by
  have hA : u.vm.Alike U.vm := by rw [hv]; exact Vm.Alike.refl _
  exact ⟨fun q hq => va_Nw.same rfl hv.symm (h.1 q hq), va_AO.moved hA h.2.1, va_AO.moved hA h.2.2.1, va_AO.moved hA h.2.2.2⟩
theorem gx_N.warm {u U : State} (hW : u.WarmedH U.vm) (h : gx_N u) : gx_N U := ⟨fun q hq => va_Nw.warmM hW (h.1 q hq), va_AO.moved hW.alike h.2.1, va_AO.moved hW.alike h.2.2.1, va_AO.moved hW.alike h.2.2.2⟩
def gx_V (w : Wd) (j : SJ) (U : State) : Prop := gx_J w j U ∧ gx_N U
theorem gx_V.same {w : Wd} {j : SJ} {u U : State} (hv : U.vm = u.vm) (h : gx_V w j u) : gx_V w j U := ⟨gx_J.same hv h.1, gx_N.same hv h.2⟩
theorem gx_V.warm {w : Wd} {j : SJ} {u U : State} (hW : u.WarmedH U.vm) (h : gx_V w j u) : gx_V w j U := ⟨gx_J.warm hW h.1, gx_N.warm hW h.2⟩
def gx_MV (w : Wd) (j : SJ) (l : Launch) (y : MethodName) (cc : ByteArray) (nL : Nat) (ret : Option FieldType) (rm : Room) (as : List Value) (S : St) (post : Option Value → St → Prop) : Prop :=
  Met l y (Cond.code y cc nL ret :: gx_T) rm (va_Pc as (fun U => gx_R w S U.heap ∧ gx_K w U ∧ gx_V w j U)) (gx_Q w post) rm.cells rm.slots (fun q => w_b w ≤ q)
theorem gx_startV {w : Wd} {j : SJ} {l : Launch} {y : MethodName} {cc : ByteArray} {nL : Nat} {ret : Option FieldType} {rm : Room} {as : List Value} {S : St} {post : Option Value → St → Prop} (hy : plainName y.cls = true) (i : Nat) (hi : (la0 as ++ List.replicate i none).length = nL) (hl : (lg_sl as).length ≤ nL)
    (body : ∀ X : FX, gx_C w X cc nL y.cls rm ret → gx_V w j (x_s X) → (y.name = "<init>" → (x_M X).name = "<init>") → x_l X = l → gx_G w X S 0 0 0 (la0 as ++ List.replicate i none) [] (gx_E w X post)) : gx_MV w j l y cc nL ret rm as S post := by
  refine Met.ofW (cc := cc) (maxL := nL) (ret := ret) hy rfl ?_
  intro p e s m args below meth c s₁ B hml hv
  obtain ⟨rfl, hR, hK, hJ⟩ := hv
  have hts := atoms_spec (ws := Cond.code y cc nL ret :: gx_T) B.pre
  have hown : s.vm.findClass y.cls = some m.cls := findClass_of_methodNamed B.named
  have hb := body (p, l, e, rm, s, m, as.toArray, below, meth, c) ⟨B.exec, B.bytes, hml, hown, fun c hc => hts c (List.mem_cons_of_mem _ hc), hK, rfl, B.returns, B.notSynchronized⟩ hJ (fun h => by rw [← h]; exact (name_of_methodNamed B.named B.method).1) rfl
  have hl2 := lv_entry as (n := nL) hl
  rw [lg_entry_eq]
  refine hb s.heap [] _ hR (fun q h => by cases h) ⟨?_, hl2.2.1, fun q hq => ?_⟩
  · rw [hi]; exact hl2.1
  · obtain ⟨j, v⟩ := q
    have hm := ((lz_mem _ 0 j v).mp hq).2
    rw [Nat.sub_zero] at hm
    have := la0_at as [] i j v hm 0
    rw [Nat.zero_add] at this
    exact hl2.2.2 (j, v) this
section VCALLS
variable {w : Wd} {j : SJ} {X : FX} {S : St} {cc : ByteArray} {nL : Nat} {own : String} {rm : Room} {ret : Option FieldType}
theorem gx_blindV {as : List Value} : FrameBlind (va_Pc as (fun U => gx_R w S U.heap ∧ gx_K w U ∧ gx_V w j U)) := fun a U g mk q => ⟨q.1, q.2.1, va_K.moved (u := U) (U := U.calling g mk a) (Vm.Alike.refl U.vm) q.2.2.1, gx_V.same (u := U) rfl q.2.2.2⟩
theorem gx_preV (C : gx_C w X cc nL own rm ret) (V : gx_V w j (x_s X)) {as : List Value} : ∀ H : Heap, gx_R w S H → ∀ U : State, U.heap = H → (x_s X).WarmedH U.vm → va_Pc as (fun U => gx_R w S U.heap ∧ gx_K w U ∧ gx_V w j U) as.toArray U := fun H hR U hU hW => ⟨rfl, by rw [hU]; exact hR, va_K.moved hW.alike C.2.2.2.2.2.1, gx_V.warm hW V⟩
theorem gx_preM (C : gx_C w X cc nL own rm ret) {as : List Value} : ∀ H : Heap, gx_R w S H → ∀ U : State, U.heap = H → (x_s X).WarmedH U.vm → va_Pc as (fun U => gx_R w S U.heap ∧ gx_K w U) as.toArray U := fun H hR => gx_pre C hR
end VCALLS
