/-! ===== texts that the class's code holds: strings; calls of inherited methods ===== -/
abbrev SJ : Type := (Nat → Nat) × (Nat → Nat)
def jsT : List String := ["ferry", "person", "cork", "beside", "fog", "board", "aim", "grows", "light", "side", "hour", "weight", "room", "aboard", "waits", "more", "if", "not", "and", "or"]
def jsB : List (List Int32) := [[102, 101, 114, 114, 121], [112, 101, 114, 115, 111, 110], [99, 111, 114, 107], [98, 101, 115, 105, 100, 101], [102, 111, 103], [98, 111, 97, 114, 100], [97, 105, 109], [103, 114, 111, 119, 115], [108, 105, 103, 104, 116], [115, 105, 100, 101], [104, 111, 117, 114], [119, 101, 105, 103, 104, 116], [114, 111, 111, 109], [97, 98, 111, 97, 114, 100], [119, 97, 105, 116, 115], [109, 111, 114, 101], [105, 102], [110, 111, 116], [97, 110, 100], [111, 114]]
def jsL : List Nat := [5, 6, 4, 6, 3, 5, 3, 5, 5, 4, 4, 6, 4, 6, 5, 4, 2, 3, 3, 2]
/-- where the code names them: class, place in its pool, text, which -/
def strs : List (String × Nat × String × Nat) := [("AimFerry$CrossingReader", 43, "ferry", 0), ("AimFerry$CrossingReader", 53, "person", 1), ("AimFerry$CrossingReader", 58, "cork", 2), ("AimFerry$CrossingReader", 63, "beside", 3), ("AimFerry$CrossingReader", 68, "fog", 4), ("AimFerry$RuleReader", 61, "board", 5), ("AimFerry$RuleReader", 132, "person", 1), ("AimFerry$RuleReader", 134, "aim", 6), ("AimFerry$RuleReader", 136, "grows", 7), ("AimFerry$RuleReader", 138, "light", 8), ("AimFerry$RuleReader", 140, "side", 9), ("AimFerry$RuleReader", 142, "hour", 10), ("AimFerry$RuleReader", 144, "weight", 11), ("AimFerry$RuleReader", 146, "room", 12), ("AimFerry$RuleReader", 148, "aboard", 13), ("AimFerry$RuleReader", 150, "waits", 14), ("AimFerry$RuleReader", 152, "more", 15), ("AimFerry$RuleReader", 154, "fog", 4), ("AimFerry$RuleReader", 71, "if", 16), ("AimFerry$RuleReader", 90, "not", 17), ("AimFerry$RuleReader", 88, "and", 18), ("AimFerry$RuleReader", 83, "or", 19)]
def gx_J (w : Wd) (j : SJ) (U : State) : Prop := vk_S 20 jsL jsB j.1 j.2 (fun q => w_b w ≤ q) U w.2.2 ∧ va_Z "java/lang/String" "COMPACT_STRINGS" "Z" (.int 1) (fun q => w_b w ≤ q) U w.2.2 ∧ va_Zq "jdk/internal/util/Preconditions" "SIOOBE_FORMATTER" "Ljava/util/function/BiFunction;" (fun q => w_b w ≤ q) U w.2.2 ∧ ∀ q ∈ strs, vk_R q.1 q.2.1 q.2.2.1 (j.1 q.2.2.2) U
theorem gx_J.same {w : Wd} {j : SJ} {u U : State} (hv : U.vm = u.vm) (h : gx_J w j u) : gx_J w j U := by
  have hA : u.vm.Alike U.vm := by rw [hv]; exact Vm.Alike.refl _
  exact ⟨vk_S.moved hA h.1, va_Z.moved hA h.2.1, va_Zq.moved hA h.2.2.1, fun q hq => vk_R.same hv (h.2.2.2 q hq)⟩
theorem gx_J.warm {w : Wd} {j : SJ} {u U : State} (hW : u.WarmedH U.vm) (h : gx_J w j u) : gx_J w j U := ⟨vk_S.moved hW.alike h.1, va_Z.moved hW.alike h.2.1, va_Zq.moved hW.alike h.2.2.1, fun q hq => vk_R.warm hW (h.2.2.2 q hq)⟩
def gx_MJ (w : Wd) (j : SJ) (l : Launch) (y : MethodName) (cc : ByteArray) (nL : Nat) (ret : Option FieldType) (rm : Room) (as : List Value) (S : St) (post : Option Value → St → Prop) : Prop :=
  Met l y (Cond.code y cc nL ret :: gx_T) rm (va_Pc as (fun U => gx_R w S U.heap ∧ gx_K w U ∧ gx_J w j U)) (gx_Q w post) rm.cells rm.slots (fun q => w_b w ≤ q)
theorem gx_startJ {w : Wd} {j : SJ} {l : Launch} {y : MethodName} {cc : ByteArray} {nL : Nat} {ret : Option FieldType} {rm : Room} {as : List Value} {S : St} {post : Option Value → St → Prop} (hy : plainName y.cls = true) (i : Nat) (hi : (la0 as ++ List.replicate i none).length = nL) (hl : (lg_sl as).length ≤ nL)
    (body : ∀ X : FX, gx_C w X cc nL y.cls rm ret → gx_J w j (x_s X) → x_l X = l → gx_G w X S 0 0 0 (la0 as ++ List.replicate i none) [] (gx_E w X post)) : gx_MJ w j l y cc nL ret rm as S post := by
  refine Met.ofW (cc := cc) (maxL := nL) (ret := ret) hy rfl ?_
  intro p e s m args below meth c s₁ B hml hv
  obtain ⟨rfl, hR, hK, hJ⟩ := hv
  have hts := atoms_spec (ws := Cond.code y cc nL ret :: gx_T) B.pre
  have hown : s.vm.findClass y.cls = some m.cls := findClass_of_methodNamed B.named
  have hb := body (p, l, e, rm, s, m, as.toArray, below, meth, c) ⟨B.exec, B.bytes, hml, hown, fun c hc => hts c (List.mem_cons_of_mem _ hc), hK, rfl, B.returns, B.notSynchronized⟩ hJ rfl
  have hl2 := lv_entry as (n := nL) hl
  rw [lg_entry_eq]
  refine hb s.heap [] _ hR (fun q h => by cases h) ⟨?_, hl2.2.1, fun q hq => ?_⟩
  · rw [hi]; exact hl2.1
  · obtain ⟨j, v⟩ := q
    have hm := ((lz_mem _ 0 j v).mp hq).2
    rw [Nat.sub_zero] at hm
    have := la0_at as [] i j v hm 0
    rw [Nat.zero_add] at this
    exact hl2.2.2 (j, v) this
section JCALLS
variable {w : Wd} {j : SJ} {X : FX} {S : St} {n1 n2 pc : Nat} {L : List (Option Value)} {st : List Value} {Q : State → Prop} {cc : ByteArray} {nL : Nat} {own : String} {rm : Room} {ret : Option FieldType}
theorem gx_blindJ {as : List Value} : FrameBlind (va_Pc as (fun U => gx_R w S U.heap ∧ gx_K w U ∧ gx_J w j U)) := fun a U g mk q => ⟨q.1, q.2.1, va_K.moved (u := U) (U := U.calling g mk a) (Vm.Alike.refl U.vm) q.2.2.1, gx_J.same (u := U) rfl q.2.2.2⟩
theorem gx_preJ {H : Heap} (C : gx_C w X cc nL own rm ret) (J : gx_J w j (x_s X)) (hR : gx_R w S H) {as : List Value} : ∀ U : State, U.heap = H → (x_s X).WarmedH U.vm → va_Pc as (fun U => gx_R w S U.heap ∧ gx_K w U ∧ gx_J w j U) as.toArray U := fun U hU hW => ⟨rfl, by rw [hU]; exact hR, va_K.moved hW.alike C.2.2.2.2.2.1, gx_J.warm hW J⟩
/-- a method that the receiver's class has from another: the code names x, the receiver's class selects y -/
theorem gx_callX (C : gx_C w X cc nL own rm ret) {x y : MethodName} {cc' : ByteArray} {nL' n index : Nat} {ret' : Option FieldType} {rm' : Room} {post : Option Value → St → Prop} {B : State → Prop} {Cn owner : String} {b : Nat} {As rest : List Value} (hc : Cond.code y cc' nL' ret' ∈ gx_T) (hini : Cond.initialized y.cls ∈ gx_T) (hlk : Cond.methodLink own index x ∈ gx_T) (hsm : Cond.sameMethod x.cls owner x.name x.desc ∈ gx_T) (hsel : Cond.selects Cn x y ∈ gx_T) (hin : Cond.instanceMethod y ∈ gx_T) (hyx : y = ⟨owner, x.name, x.desc⟩) (hd : owner ≠ "java/lang/invoke/MethodHandle" ∧ owner ≠ "java/lang/invoke/VarHandle" ∧ (parseMethodDescriptor x.desc).map (fun d => d.parameters.length) = some n) (hlen : As.length = n)
    (hrecv : ∀ H : Heap, gx_R w S H → ∃ cell : Cell, H[b]? = some cell ∧ cell.vm.isStatics = false ∧ (x_s X).vm.findClass Cn = some cell.cls) (hbl : FrameBlind (va_Pc (.ref b :: As) B)) (hpre : ∀ H : Heap, gx_R w S H → ∀ U : State, U.heap = H → (x_s X).WarmedH U.vm → va_Pc (.ref b :: As) B (Value.ref b :: As).toArray U)
    (M : Met (x_l X) y (Cond.code y cc' nL' ret' :: gx_T) rm' (va_Pc (.ref b :: As) B) (gx_Q w post) rm'.cells rm'.slots (fun q => w_b w ≤ q)) (hR : Nat.ble (rm'.frames + 1) rm.frames = true ∧ Nat.ble (8 + (nL' + 11) + rm'.locals) rm.locals = true) (hcs : n1 + rm'.cells ≤ rm.cells ∧ n2 + rm'.slots ≤ rm.slots) (hLn : L.length = nL) (hst : (rest.map fun v => v.category).sum ≤ 8) (hdec : decode cc pc = .ok (.invokevirtual index, 3))
    (kk : ∀ v S', post v S' → gx_G w X S' (n1 + rm'.cells) (n2 + rm'.slots) (pc + 3) L (v.toList ++ rest) Q) : gx_G w X S n1 n2 pc L (As.reverse ++ .ref b :: rest) Q := by
  intro H locs ls hRR hl hL
  have hT : GoodIn gx_T (va_wsU own index Cn owner x y (Cond.code y cc' nL' ret' :: gx_T)) := fun c hm => by
    refine gx_good c ?_
    unfold va_wsU at hm
    rcases List.mem_append.mp hm with h | h
    · simp only [List.mem_cons, List.not_mem_nil, or_false] at h
      rcases h with rfl | rfl | rfl | rfl | rfl
      · exact hlk
      · exact hsm
      · exact hsel
      · exact hin
      · exact hini
    · exact (List.mem_cons.mp h).elim (fun e => e ▸ hc) id
  refine gx_after (va_runU (Ts := gx_T) (C := Cn) (owner := owner) (x := x) (rest := rest) (As := As) ⟨C.1, C.2.1, C.2.2.1, C.2.2.2.1, C.2.2.2.2.1⟩ M (va_cwU n C.2.2.2.2.1 hT rfl rfl rfl hyx hd ⟨?_, ?_⟩) ⟨hbl, hrecv H hRR, hpre H hRR⟩ rfl hlen (by rw [← hLn]; exact hL.1) rfl (by simpa using hst) hdec (by rw [C.2.2.2.2.2.2.1]; exact hcs)) hl hL kk
  · rw [C.2.2.2.2.2.2.1]; exact Nat.le_of_ble_eq_true hR.1
  · rw [C.2.2.2.2.2.2.1]; exact Nat.le_of_ble_eq_true hR.2
/-- a virtual call of a method that the class itself has, whatever the receiver is -/
theorem gx_callY (C : gx_C w X cc nL own rm ret) {y : MethodName} {cc' : ByteArray} {nL' n index : Nat} {ret' : Option FieldType} {rm' : Room} {post : Option Value → St → Prop} {B : State → Prop} {Cn : String} {b : Nat} {As rest : List Value} (hc : Cond.code y cc' nL' ret' ∈ gx_T) (hini : Cond.initialized y.cls ∈ gx_T) (hlk : Cond.methodLink own index y ∈ gx_T) (hin : Cond.instanceMethod y ∈ gx_T) (hsel : Cond.selects Cn y y ∈ gx_T) (hd : y.cls ≠ "java/lang/invoke/MethodHandle" ∧ y.cls ≠ "java/lang/invoke/VarHandle" ∧ (parseMethodDescriptor y.desc).map (fun d => d.parameters.length) = some n) (hlen : As.length = n)
    (hrecv : ∀ H : Heap, gx_R w S H → ∃ cell : Cell, H[b]? = some cell ∧ cell.vm.isStatics = false ∧ (x_s X).vm.findClass Cn = some cell.cls) (hbl : FrameBlind (va_Pc (.ref b :: As) B)) (hpre : ∀ H : Heap, gx_R w S H → ∀ U : State, U.heap = H → (x_s X).WarmedH U.vm → va_Pc (.ref b :: As) B (Value.ref b :: As).toArray U)
    (M : Met (x_l X) y (Cond.code y cc' nL' ret' :: gx_T) rm' (va_Pc (.ref b :: As) B) (gx_Q w post) rm'.cells rm'.slots (fun q => w_b w ≤ q)) (hR : Nat.ble (rm'.frames + 1) rm.frames = true ∧ Nat.ble (8 + (nL' + 11) + rm'.locals) rm.locals = true) (hcs : n1 + rm'.cells ≤ rm.cells ∧ n2 + rm'.slots ≤ rm.slots) (hLn : L.length = nL) (hst : (rest.map fun v => v.category).sum ≤ 8) (hdec : decode cc pc = .ok (.invokevirtual index, 3))
    (kk : ∀ v S', post v S' → gx_G w X S' (n1 + rm'.cells) (n2 + rm'.slots) (pc + 3) L (v.toList ++ rest) Q) : gx_G w X S n1 n2 pc L (As.reverse ++ .ref b :: rest) Q := by
  intro H locs ls hRR hl hL
  exact gx_after (va_runV (Ts := gx_T) (C := Cn) (rest := rest) (As := As) ⟨C.1, C.2.1, C.2.2.1, C.2.2.2.1, C.2.2.2.2.1⟩ M ⟨gx_callB C hc hini hlk hd hR, C.2.2.2.2.1 _ hin, C.2.2.2.2.1 _ hsel⟩ ⟨hbl, hrecv H hRR, hpre H hRR⟩ rfl hlen (by rw [← hLn]; exact hL.1) rfl (by simpa using hst) hdec (by rw [C.2.2.2.2.2.2.1]; exact hcs)) hl hL kk
theorem gx_callSJ (C : gx_C w X cc nL own rm ret) (J : gx_J w j (x_s X)) {y : MethodName} {cc' : ByteArray} {nL' n index : Nat} {ret' : Option FieldType} {rm' : Room} {post : Option Value → St → Prop} {As rest : List Value} (hc : Cond.code y cc' nL' ret' ∈ gx_T) (hini : Cond.initialized y.cls ∈ gx_T) (hlk : Cond.methodLink own index y ∈ gx_T) (hstc : Cond.static y ∈ gx_T) (hd : y.cls ≠ "java/lang/invoke/MethodHandle" ∧ y.cls ≠ "java/lang/invoke/VarHandle" ∧ (parseMethodDescriptor y.desc).map (fun d => d.parameters.length) = some n) (hlen : As.length = n)
    (M : gx_MJ w j (x_l X) y cc' nL' ret' rm' As S post) (hR : Nat.ble (rm'.frames + 1) rm.frames = true ∧ Nat.ble (8 + (nL' + 11) + rm'.locals) rm.locals = true) (hcs : n1 + rm'.cells ≤ rm.cells ∧ n2 + rm'.slots ≤ rm.slots) (hLn : L.length = nL) (hst : (rest.map fun v => v.category).sum ≤ 8) (hdec : decode cc pc = .ok (.invokestatic index, 3))
    (kk : ∀ v S', post v S' → gx_G w X S' (n1 + rm'.cells) (n2 + rm'.slots) (pc + 3) L (v.toList ++ rest) Q) : gx_G w X S n1 n2 pc L (As.reverse ++ rest) Q := by
  intro H locs ls hRR hl hL
  exact gx_after (va_runS (Ts := gx_T) (rest := rest) (As := As) ⟨C.1, C.2.1, C.2.2.1, C.2.2.2.1, C.2.2.2.2.1⟩ M ⟨gx_callB C hc hini hlk hd hR, C.2.2.2.2.1 _ hstc⟩ ⟨gx_blindJ, gx_preJ C J hRR⟩ rfl hlen (by rw [← hLn]; exact hL.1) rfl (by simpa using hst) hdec (by rw [C.2.2.2.2.2.2.1]; exact hcs)) hl hL kk
/-- the receiver is a cell of ours -/
theorem gx_own (C : gx_C w X cc nL own rm ret) {ci k N : Nat} {Cn : String} {T : u_T} (hcl : vwCl[ci]? = some (Cn, T, N)) (h19 : Nat.blt ci 19 = true) (he : ∃ q, s_entc w.2.1 (w_b w) (fun f => s_I S f k) (fun f => s_L S f k) (fun f => s_R S f k) (s_n S k) (s_A S k) (s_B S k) (s_Q S k) ci = .inr (ci, q)) (hk : s_k S k = ci) (hz : ad (w_b w) k < w_b w + s_z S) : ∀ H : Heap, gx_R w S H → ∃ cell : Cell, H[ad (w_b w) k]? = some cell ∧ cell.vm.isStatics = false ∧ (x_s X).vm.findClass Cn = some cell.cls := by
  intro H hRR
  have hP := gx_cell hRR hk h19 hz
  obtain ⟨q, he⟩ := he
  rw [he] at hP
  exact va_recv (q0 := 0) C.2.2.2.2.2.1 hP hcl rfl
theorem gx_below {H : Heap} (hR : gx_R w S H) : ∀ a : Nat, a < w.2.2.size → ¬ w_b w ≤ a → H[a]? = w.2.2[a]? := fun a ha _ => hR.2.2 a ha
/-- the receiver is one of the texts -/
theorem gx_str (J : gx_J w j (x_s X)) {i : Nat} (hi : i < 20) : ∀ H : Heap, gx_R w S H → ∃ cell : Cell, H[j.1 i]? = some cell ∧ cell.vm.isStatics = false ∧ (x_s X).vm.findClass "java/lang/String" = some cell.cls := by
  intro H hRR
  obtain ⟨cell, h1, h2, h3, -⟩ := (J.1.1 i hi).1.kept (gx_below hRR)
  exact ⟨cell, h1, h2, h3⟩
theorem g_ldcS (C : gx_C w X cc nL own rm ret) {tx : String} {index q : Nat} (hZ : vk_R own index tx q (x_s X)) (hd : decode cc pc = .ok (.ldc index, 2)) (k : gx_G w X S n1 n2 (pc + 2) L (.ref q :: st) Q) : gx_G w X S n1 n2 pc L st Q := fun H locs ls hR hl hL => va_ldcS C.1 C.2.1 C.2.2.2.1 hZ hd (k H locs ls hR hl hL)
/-- a field of a text -/
theorem g_strf (C : gx_C w X cc nL own rm ret) {o n d : String} {index q : Nat} {v : Value} (hE : va_OF o n d v q (fun q => w_b w ≤ q) (x_s X) w.2.2) (hlk : Cond.fieldLink own index o n d ∈ gx_T) (hd : decode cc pc = .ok (.getfield index, 3)) (k : gx_G w X S n1 n2 (pc + 3) L (v :: st) Q) : gx_G w X S n1 n2 pc L (.ref q :: st) Q := fun H locs ls hR hl hL => by
  obtain ⟨cf, k9, fi, f, cell, h1, h2, h3, h4, h5, h6⟩ := hE.kept (gx_below hR)
  exact W.getf C.1 C.2.1 C.2.2.2.1 (C.2.2.2.2.1 _ hlk) h1 h2 h3 h4 (v := v) h5 rfl rfl hd (k H locs ls hR hl hL)
theorem g_stat (C : gx_C w X cc nL own rm ret) {o n d : String} {index : Nat} {v : Value} (hE : va_Z o n d v (fun q => w_b w ≤ q) (x_s X) w.2.2) (hlk : Cond.fieldLink own index o n d ∈ gx_T) (hd : decode cc pc = .ok (.getstatic index, 3)) (k : gx_G w X S n1 n2 (pc + 3) L (v :: st) Q) : gx_G w X S n1 n2 pc L st Q := fun H locs ls hR hl hL => by
  obtain ⟨cf, kf, fi, f, a, cell, h1, h2, h3, h4, h5, h6, h7, h8⟩ := hE.kept (gx_below hR)
  exact W.gets C.1 C.2.1 C.2.2.2.1 (C.2.2.2.2.1 _ hlk) h1 h2 h3 h4 h5 (fun e => by rw [e] at h6; cases h6) h7 rfl hd (k H locs ls hR hl hL)
theorem g_strl (C : gx_C w X cc nL own rm ret) {ty : FieldType} {t N : Nat} {f : Nat → Value} (hT : va_T ty t N f (fun q => w_b w ≤ q) (x_s X) w.2.2) (hd : decode cc pc = .ok (.arraylength, 1)) (k : gx_G w X S n1 n2 (pc + 1) L (.int (nI N) :: st) Q) : gx_G w X S n1 n2 pc L (.ref t :: st) Q := fun H locs ls hR hl hL => by
  obtain ⟨cell, h1, h2, h3, h4, h5, h6, h7⟩ := hT.kept (gx_below hR)
  exact W.alen (n := Int32.ofNat N) C.1 C.2.1 h1 h2 h5 rfl rfl hd (k H locs ls hR hl hL)
theorem g_strb (C : gx_C w X cc nL own rm ret) {t N i : Nat} {f : Nat → Value} (hT : va_T .byte t N f (fun q => w_b w ≤ q) (x_s X) w.2.2) (hN : N < 2 ^ 31) (hi : i < N) {v : Value} (hv : f i = v) (hd : decode cc pc = .ok (.baload, 1)) (k : gx_G w X S n1 n2 (pc + 1) L (v :: st) Q) : gx_G w X S n1 n2 pc L (.int (nI i) :: .ref t :: st) Q := fun H locs ls hR hl hL => by
  obtain ⟨cell, h1, h2, h3, h4, h5, h6, h7⟩ := hT.kept (gx_below hR)
  have hc : (nI i).toNatClampNeg = i := nI_clamp (by omega)
  exact W.bald (v := v) C.1 C.2.1 h1 h2 h3 (by rw [hc]; exact fun q => q.elim (fun z => nI_pos (by omega) z) (fun z => by omega)) (by rw [hc, h6 _ hi, hv]) rfl rfl hd (k H locs ls hR hl hL)
/-- a byte or a char that is given back -/
theorem g_nreturn {ty : FieldType} (C : gx_C w X cc nL own rm (some ty)) {post : Option Value → St → Prop} {v : Int32} (hn : Nat.ble n1 rm.cells = true ∧ Nat.ble n2 rm.slots = true) (hv : narrow ty (.int v) = .int v) (hd : decode cc pc = .ok (.ireturn, 1)) (hp : post (some (.int v)) S) : gx_G w X S n1 n2 pc L [.int v] (gx_E w X post) := by
  obtain ⟨e1, e2, e3, e4, e5, e6, e7, e8, e9⟩ := C
  refine gx_ends (post := post) (by rw [e7]; exact Nat.le_of_ble_eq_true hn.1) (by rw [e7]; exact Nat.le_of_ble_eq_true hn.2) ?_
  intro H locs ls hR hl hL
  exact W.zret e1 e2 e8 hv (fun t ht hW => ⟨_, S, rfl, hp, by rw [ht]; exact hR⟩) hl hd e9
end JCALLS
