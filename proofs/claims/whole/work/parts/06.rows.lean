section ROWS
variable {w : Wd} {X : FX} {S : St} {n1 n2 pc : Nat} {L : List (Option Value)} {st : List Value} {Q : State → Prop} {cc : ByteArray} {nL : Nat} {own : String} {rm : Room} {ret : Option FieldType}
theorem g_iconst (C : gx_C w X cc nL own rm ret) {n : Int} {v : Int32} (hd : decode cc pc = .ok (.iconst n, 1)) (hv : Int32.ofInt n = v) (k : gx_G w X S n1 n2 (pc + 1) L (.int v :: st) Q) : gx_G w X S n1 n2 (pc) L (st) Q := fun H locs ls hR hl hL => lv_iconst C.1 C.2.1 hd hv (k H locs ls hR hl hL)
theorem g_bipush (C : gx_C w X cc nL own rm ret) {n : Int} {v : Int32} (hd : decode cc pc = .ok (.bipush n, 2)) (hv : (Int8.ofInt n).toInt32 = v) (k : gx_G w X S n1 n2 (pc + 2) L (.int v :: st) Q) : gx_G w X S n1 n2 (pc) L (st) Q := fun H locs ls hR hl hL => lv_bipush C.1 C.2.1 hd hv (k H locs ls hR hl hL)
theorem g_sipush (C : gx_C w X cc nL own rm ret) {n : Int} {v : Int32} (hd : decode cc pc = .ok (.sipush n, 3)) (hv : (Int16.ofInt n).toInt32 = v) (k : gx_G w X S n1 n2 (pc + 3) L (.int v :: st) Q) : gx_G w X S n1 n2 (pc) L (st) Q := fun H locs ls hR hl hL => lv_sipush C.1 C.2.1 hd hv (k H locs ls hR hl hL)
theorem g_lconst (C : gx_C w X cc nL own rm ret) {n : Fin 2} {v : Int64} (hd : decode cc pc = .ok (.lconst n, 1)) (hv : Int64.ofNat (n : Nat) = v) (k : gx_G w X S n1 n2 (pc + 1) L (.long v :: st) Q) : gx_G w X S n1 n2 (pc) L (st) Q := fun H locs ls hR hl hL => lv_lconst C.1 C.2.1 hd hv (k H locs ls hR hl hL)
theorem g_ldc (C : gx_C w X cc nL own rm ret) {i : Nat} {v : Int32} (hd : decode cc pc = .ok (.ldc i, 2)) (hc : Cond.constant own i v ∈ gx_T) (k : gx_G w X S n1 n2 (pc + 2) L (.int v :: st) Q) : gx_G w X S n1 n2 (pc) L (st) Q := fun H locs ls hR hl hL => lv_ldc C.1 C.2.1 C.2.2.2.1 (C.2.2.2.2.1 _ hc) hd (k H locs ls hR hl hL)
theorem g_ldcw (C : gx_C w X cc nL own rm ret) {i : Nat} {v : Int32} (hd : decode cc pc = .ok (.ldc_w i, 3)) (hc : Cond.constant own i v ∈ gx_T) (k : gx_G w X S n1 n2 (pc + 3) L (.int v :: st) Q) : gx_G w X S n1 n2 (pc) L (st) Q := fun H locs ls hR hl hL => lv_ldcw C.1 C.2.1 C.2.2.2.1 (C.2.2.2.2.1 _ hc) hd (k H locs ls hR hl hL)
theorem g_ldc2 (C : gx_C w X cc nL own rm ret) {i : Nat} {v : Int64} (hd : decode cc pc = .ok (.ldc2_w i, 3)) (hc : Cond.constantLong own i v ∈ gx_T) (k : gx_G w X S n1 n2 (pc + 3) L (.long v :: st) Q) : gx_G w X S n1 n2 (pc) L (st) Q := fun H locs ls hR hl hL => lv_ldc2 C.1 C.2.1 C.2.2.2.1 (C.2.2.2.2.1 _ hc) hd (k H locs ls hR hl hL)
theorem g_iload (C : gx_C w X cc nL own rm ret) {i : Nat} {x : Int32} (hd : decode cc pc = .ok (.iload i, 2)) (h : L[i]? = some (some (.int x))) (k : gx_G w X S n1 n2 (pc + 2) L (.int x :: st) Q) : gx_G w X S n1 n2 (pc) L (st) Q := fun H locs ls hR hl hL => lv_iload C.1 C.2.1 hd (hL.at h) (k H locs ls hR hl hL)
theorem g_iload_n (C : gx_C w X cc nL own rm ret) {j : Fin 4} {x : Int32} (hd : decode cc pc = .ok (.iload_n j, 1)) (h : L[(j : Nat)]? = some (some (.int x))) (k : gx_G w X S n1 n2 (pc + 1) L (.int x :: st) Q) : gx_G w X S n1 n2 (pc) L (st) Q := fun H locs ls hR hl hL => lv_iload_n C.1 C.2.1 hd rfl (hL.at h) (k H locs ls hR hl hL)
theorem g_lload (C : gx_C w X cc nL own rm ret) {i : Nat} {x : Int64} (hd : decode cc pc = .ok (.lload i, 2)) (h : L[i]? = some (some (.long x))) (k : gx_G w X S n1 n2 (pc + 2) L (.long x :: st) Q) : gx_G w X S n1 n2 (pc) L (st) Q := fun H locs ls hR hl hL => lv_lload C.1 C.2.1 hd (hL.at h) (k H locs ls hR hl hL)
theorem g_lload_n (C : gx_C w X cc nL own rm ret) {j : Fin 4} {x : Int64} (hd : decode cc pc = .ok (.lload_n j, 1)) (h : L[(j : Nat)]? = some (some (.long x))) (k : gx_G w X S n1 n2 (pc + 1) L (.long x :: st) Q) : gx_G w X S n1 n2 (pc) L (st) Q := fun H locs ls hR hl hL => lv_lload_n C.1 C.2.1 hd rfl (hL.at h) (k H locs ls hR hl hL)
theorem g_aload (C : gx_C w X cc nL own rm ret) {i : Nat} {x : Nat} (hd : decode cc pc = .ok (.aload i, 2)) (h : L[i]? = some (some (.ref x))) (k : gx_G w X S n1 n2 (pc + 2) L (.ref x :: st) Q) : gx_G w X S n1 n2 (pc) L (st) Q := fun H locs ls hR hl hL => lv_aload C.1 C.2.1 hd (hL.at h) (k H locs ls hR hl hL)
theorem g_aload_n (C : gx_C w X cc nL own rm ret) {j : Fin 4} {x : Nat} (hd : decode cc pc = .ok (.aload_n j, 1)) (h : L[(j : Nat)]? = some (some (.ref x))) (k : gx_G w X S n1 n2 (pc + 1) L (.ref x :: st) Q) : gx_G w X S n1 n2 (pc) L (st) Q := fun H locs ls hR hl hL => lv_aload_n C.1 C.2.1 hd rfl (hL.at h) (k H locs ls hR hl hL)
theorem g_istore (C : gx_C w X cc nL own rm ret) {i : Nat} {x : Int32} {L' : List (Option Value)} (hd : decode cc pc = .ok (.istore i, 2)) (hn : Nat.blt i L.length = true) (h : lst1 L i (.int x) = L') (k : gx_G w X S n1 n2 (pc + 2) L' (st) Q) : gx_G w X S n1 n2 (pc) L (.int x :: st) Q := fun H locs ls hR hl hL => lv_istore C.1 C.2.1 hd hL (Nat.le_of_ble_eq_true hn) rfl (fun ls' hL' => k H locs ls' hR hl (h ▸ hL.st1 hL'))
theorem g_istore_n (C : gx_C w X cc nL own rm ret) {j : Fin 4} {x : Int32} {L' : List (Option Value)} (hd : decode cc pc = .ok (.istore_n j, 1)) (hn : Nat.blt j L.length = true) (h : lst1 L j (.int x) = L') (k : gx_G w X S n1 n2 (pc + 1) L' (st) Q) : gx_G w X S n1 n2 (pc) L (.int x :: st) Q := fun H locs ls hR hl hL => lv_istore_n C.1 C.2.1 hd rfl hL (Nat.le_of_ble_eq_true hn) rfl (fun ls' hL' => k H locs ls' hR hl (h ▸ hL.st1 hL'))
theorem g_astore (C : gx_C w X cc nL own rm ret) {i : Nat} {x : Nat} {L' : List (Option Value)} (hd : decode cc pc = .ok (.astore i, 2)) (hn : Nat.blt i L.length = true) (h : lst1 L i (.ref x) = L') (k : gx_G w X S n1 n2 (pc + 2) L' (st) Q) : gx_G w X S n1 n2 (pc) L (.ref x :: st) Q := fun H locs ls hR hl hL => lv_astore C.1 C.2.1 hd hL (Nat.le_of_ble_eq_true hn) rfl (fun ls' hL' => k H locs ls' hR hl (h ▸ hL.st1 hL'))
theorem g_astore_n (C : gx_C w X cc nL own rm ret) {j : Fin 4} {x : Nat} {L' : List (Option Value)} (hd : decode cc pc = .ok (.astore_n j, 1)) (hn : Nat.blt j L.length = true) (h : lst1 L j (.ref x) = L') (k : gx_G w X S n1 n2 (pc + 1) L' (st) Q) : gx_G w X S n1 n2 (pc) L (.ref x :: st) Q := fun H locs ls hR hl hL => lv_astore_n C.1 C.2.1 hd rfl hL (Nat.le_of_ble_eq_true hn) rfl (fun ls' hL' => k H locs ls' hR hl (h ▸ hL.st1 hL'))
theorem g_lstore (C : gx_C w X cc nL own rm ret) {i : Nat} {x : Int64} {L' : List (Option Value)} (hd : decode cc pc = .ok (.lstore i, 2)) (hn : Nat.blt (i + 1) L.length = true) (h : lst2 L i (.long x) = L') (k : gx_G w X S n1 n2 (pc + 2) L' (st) Q) : gx_G w X S n1 n2 (pc) L (.long x :: st) Q := fun H locs ls hR hl hL => lv_lstore C.1 C.2.1 hd hL (Nat.le_of_ble_eq_true hn) rfl (fun ls' hL' => k H locs ls' hR hl (h ▸ hL.st2 (Nat.le_of_ble_eq_true hn) hL'))
theorem g_lstore_n (C : gx_C w X cc nL own rm ret) {j : Fin 4} {x : Int64} {L' : List (Option Value)} (hd : decode cc pc = .ok (.lstore_n j, 1)) (hn : Nat.blt (j + 1) L.length = true) (h : lst2 L j (.long x) = L') (k : gx_G w X S n1 n2 (pc + 1) L' (st) Q) : gx_G w X S n1 n2 (pc) L (.long x :: st) Q := fun H locs ls hR hl hL => lv_lstore_n C.1 C.2.1 hd rfl hL (Nat.le_of_ble_eq_true hn) rfl (fun ls' hL' => k H locs ls' hR hl (h ▸ hL.st2 (Nat.le_of_ble_eq_true hn) hL'))
theorem g_iinc (C : gx_C w X cc nL own rm ret) {i : Nat} {n : Int} {x v : Int32} {L' : List (Option Value)} (hd : decode cc pc = .ok (.iinc i n, 3)) (hx : L[i]? = some (some (.int x))) (hv : x + Int32.ofInt n = v) (h : lst1 L i (.int v) = L') (k : gx_G w X S n1 n2 (pc + 3) L' (st) Q) : gx_G w X S n1 n2 (pc) L (st) Q := by
  intro H locs ls hR hl hL
  obtain ⟨q, hq⟩ := List.getElem?_of_mem ((lz_mem L 0 i (.int x)).mpr ⟨Nat.zero_le _, hx⟩)
  exact lv_iinc C.1 C.2.1 hd hL (k := q) hq hv (List.getElem?_eq_some_iff.mp hx).1 rfl (fun ls' hL' => k H locs ls' hR hl (h ▸ hL.st1 hL'))
theorem g_iadd (C : gx_C w X cc nL own rm ret) {x y : Int32} (hd : decode cc pc = .ok (.iadd, 1)) (k : gx_G w X S n1 n2 (pc + 1) L (.int (x + y) :: st) Q) : gx_G w X S n1 n2 (pc) L (.int y :: .int x :: st) Q := fun H locs ls hR hl hL => lv_iadd C.1 C.2.1 hd (k H locs ls hR hl hL)
theorem g_isub (C : gx_C w X cc nL own rm ret) {x y : Int32} (hd : decode cc pc = .ok (.isub, 1)) (k : gx_G w X S n1 n2 (pc + 1) L (.int (x - y) :: st) Q) : gx_G w X S n1 n2 (pc) L (.int y :: .int x :: st) Q := fun H locs ls hR hl hL => lv_isub C.1 C.2.1 hd (k H locs ls hR hl hL)
theorem g_imul (C : gx_C w X cc nL own rm ret) {x y : Int32} (hd : decode cc pc = .ok (.imul, 1)) (k : gx_G w X S n1 n2 (pc + 1) L (.int (x * y) :: st) Q) : gx_G w X S n1 n2 (pc) L (.int y :: .int x :: st) Q := fun H locs ls hR hl hL => lv_imul C.1 C.2.1 hd (k H locs ls hR hl hL)
theorem g_iand (C : gx_C w X cc nL own rm ret) {x y : Int32} (hd : decode cc pc = .ok (.iand, 1)) (k : gx_G w X S n1 n2 (pc + 1) L (.int (x &&& y) :: st) Q) : gx_G w X S n1 n2 (pc) L (.int y :: .int x :: st) Q := fun H locs ls hR hl hL => lv_iand C.1 C.2.1 hd (k H locs ls hR hl hL)
theorem g_ior (C : gx_C w X cc nL own rm ret) {x y : Int32} (hd : decode cc pc = .ok (.ior, 1)) (k : gx_G w X S n1 n2 (pc + 1) L (.int (x ||| y) :: st) Q) : gx_G w X S n1 n2 (pc) L (.int y :: .int x :: st) Q := fun H locs ls hR hl hL => lv_ior C.1 C.2.1 hd (k H locs ls hR hl hL)
theorem g_ixor (C : gx_C w X cc nL own rm ret) {x y : Int32} (hd : decode cc pc = .ok (.ixor, 1)) (k : gx_G w X S n1 n2 (pc + 1) L (.int (x ^^^ y) :: st) Q) : gx_G w X S n1 n2 (pc) L (.int y :: .int x :: st) Q := fun H locs ls hR hl hL => lv_ixor C.1 C.2.1 hd (k H locs ls hR hl hL)
theorem g_ishl (C : gx_C w X cc nL own rm ret) {x y : Int32} (hd : decode cc pc = .ok (.ishl, 1)) (k : gx_G w X S n1 n2 (pc + 1) L (.int (x <<< (y &&& 31)) :: st) Q) : gx_G w X S n1 n2 (pc) L (.int y :: .int x :: st) Q := fun H locs ls hR hl hL => lv_ishl C.1 C.2.1 hd (k H locs ls hR hl hL)
theorem g_ishr (C : gx_C w X cc nL own rm ret) {x y : Int32} (hd : decode cc pc = .ok (.ishr, 1)) (k : gx_G w X S n1 n2 (pc + 1) L (.int (x >>> (y &&& 31)) :: st) Q) : gx_G w X S n1 n2 (pc) L (.int y :: .int x :: st) Q := fun H locs ls hR hl hL => lv_ishr C.1 C.2.1 hd (k H locs ls hR hl hL)
theorem g_idiv (C : gx_C w X cc nL own rm ret) {x y : Int32} (hd : decode cc pc = .ok (.idiv, 1)) (hne : ¬ y = 0) (k : gx_G w X S n1 n2 (pc + 1) L (.int (x / y) :: st) Q) : gx_G w X S n1 n2 (pc) L (.int y :: .int x :: st) Q := fun H locs ls hR hl hL => lv_idiv C.1 C.2.1 hd hne (k H locs ls hR hl hL)
theorem g_irem (C : gx_C w X cc nL own rm ret) {x y : Int32} (hd : decode cc pc = .ok (.irem, 1)) (hne : ¬ y = 0) (k : gx_G w X S n1 n2 (pc + 1) L (.int (x - x / y * y) :: st) Q) : gx_G w X S n1 n2 (pc) L (.int y :: .int x :: st) Q := fun H locs ls hR hl hL => lv_irem C.1 C.2.1 hd hne (k H locs ls hR hl hL)
theorem g_ineg (C : gx_C w X cc nL own rm ret) {x : Int32} (hd : decode cc pc = .ok (.ineg, 1)) (k : gx_G w X S n1 n2 (pc + 1) L (.int (-x) :: st) Q) : gx_G w X S n1 n2 (pc) L (.int x :: st) Q := fun H locs ls hR hl hL => lv_ineg C.1 C.2.1 hd (k H locs ls hR hl hL)
theorem g_iushr (C : gx_C w X cc nL own rm ret) {x y : Int32} (hd : decode cc pc = .ok (.iushr, 1)) (k : gx_G w X S n1 n2 (pc + 1) L (.int ((x.toUInt32 >>> (y.toUInt32 &&& Int32.toUInt32 31)).toInt32) :: st) Q) : gx_G w X S n1 n2 (pc) L (.int y :: .int x :: st) Q := fun H locs ls hR hl hL => lv_iushr C.1 C.2.1 hd rfl (k H locs ls hR hl hL)
theorem g_ladd (C : gx_C w X cc nL own rm ret) {x y : Int64} (hd : decode cc pc = .ok (.ladd, 1)) (k : gx_G w X S n1 n2 (pc + 1) L (.long (x + y) :: st) Q) : gx_G w X S n1 n2 (pc) L (.long y :: .long x :: st) Q := fun H locs ls hR hl hL => lv_ladd C.1 C.2.1 hd (k H locs ls hR hl hL)
theorem g_lsub (C : gx_C w X cc nL own rm ret) {x y : Int64} (hd : decode cc pc = .ok (.lsub, 1)) (k : gx_G w X S n1 n2 (pc + 1) L (.long (x - y) :: st) Q) : gx_G w X S n1 n2 (pc) L (.long y :: .long x :: st) Q := fun H locs ls hR hl hL => lv_lsub C.1 C.2.1 hd (k H locs ls hR hl hL)
theorem g_lmul (C : gx_C w X cc nL own rm ret) {x y : Int64} (hd : decode cc pc = .ok (.lmul, 1)) (k : gx_G w X S n1 n2 (pc + 1) L (.long (x * y) :: st) Q) : gx_G w X S n1 n2 (pc) L (.long y :: .long x :: st) Q := fun H locs ls hR hl hL => lv_lmul C.1 C.2.1 hd (k H locs ls hR hl hL)
theorem g_land (C : gx_C w X cc nL own rm ret) {x y : Int64} (hd : decode cc pc = .ok (.land, 1)) (k : gx_G w X S n1 n2 (pc + 1) L (.long (x &&& y) :: st) Q) : gx_G w X S n1 n2 (pc) L (.long y :: .long x :: st) Q := fun H locs ls hR hl hL => lv_land C.1 C.2.1 hd (k H locs ls hR hl hL)
theorem g_lor (C : gx_C w X cc nL own rm ret) {x y : Int64} (hd : decode cc pc = .ok (.lor, 1)) (k : gx_G w X S n1 n2 (pc + 1) L (.long (x ||| y) :: st) Q) : gx_G w X S n1 n2 (pc) L (.long y :: .long x :: st) Q := fun H locs ls hR hl hL => lv_lor C.1 C.2.1 hd (k H locs ls hR hl hL)
theorem g_ldiv (C : gx_C w X cc nL own rm ret) {x y : Int64} (hd : decode cc pc = .ok (.ldiv, 1)) (hne : ¬ y = 0) (k : gx_G w X S n1 n2 (pc + 1) L (.long (x / y) :: st) Q) : gx_G w X S n1 n2 (pc) L (.long y :: .long x :: st) Q := fun H locs ls hR hl hL => lv_ldiv C.1 C.2.1 hd hne (k H locs ls hR hl hL)
theorem g_lrem (C : gx_C w X cc nL own rm ret) {x y : Int64} (hd : decode cc pc = .ok (.lrem, 1)) (hne : ¬ y = 0) (k : gx_G w X S n1 n2 (pc + 1) L (.long (x - x / y * y) :: st) Q) : gx_G w X S n1 n2 (pc) L (.long y :: .long x :: st) Q := fun H locs ls hR hl hL => lv_lrem C.1 C.2.1 hd hne (k H locs ls hR hl hL)
theorem g_lshl (C : gx_C w X cc nL own rm ret) {x : Int64} {y : Int32} (hd : decode cc pc = .ok (.lshl, 1)) (k : gx_G w X S n1 n2 (pc + 1) L (.long (x <<< (y.toInt64 &&& 63)) :: st) Q) : gx_G w X S n1 n2 (pc) L (.int y :: .long x :: st) Q := fun H locs ls hR hl hL => lv_lshl C.1 C.2.1 hd rfl (k H locs ls hR hl hL)
theorem g_lshr (C : gx_C w X cc nL own rm ret) {x : Int64} {y : Int32} (hd : decode cc pc = .ok (.lshr, 1)) (k : gx_G w X S n1 n2 (pc + 1) L (.long (x >>> (y.toInt64 &&& 63)) :: st) Q) : gx_G w X S n1 n2 (pc) L (.int y :: .long x :: st) Q := fun H locs ls hR hl hL => lv_lshr C.1 C.2.1 hd rfl (k H locs ls hR hl hL)
theorem g_i2l (C : gx_C w X cc nL own rm ret) {x : Int32} (hd : decode cc pc = .ok (.i2l, 1)) (k : gx_G w X S n1 n2 (pc + 1) L (.long x.toInt64 :: st) Q) : gx_G w X S n1 n2 (pc) L (.int x :: st) Q := fun H locs ls hR hl hL => lv_i2l C.1 C.2.1 hd rfl (k H locs ls hR hl hL)
theorem g_l2i (C : gx_C w X cc nL own rm ret) {x : Int64} (hd : decode cc pc = .ok (.l2i, 1)) (k : gx_G w X S n1 n2 (pc + 1) L (.int x.toInt32 :: st) Q) : gx_G w X S n1 n2 (pc) L (.long x :: st) Q := fun H locs ls hR hl hL => lv_l2i C.1 C.2.1 hd rfl (k H locs ls hR hl hL)
theorem g_i2b (C : gx_C w X cc nL own rm ret) {x : Int32} (hd : decode cc pc = .ok (.i2b, 1)) (k : gx_G w X S n1 n2 (pc + 1) L (.int x.toInt8.toInt32 :: st) Q) : gx_G w X S n1 n2 (pc) L (.int x :: st) Q := fun H locs ls hR hl hL => lv_i2b C.1 C.2.1 hd rfl (k H locs ls hR hl hL)
theorem g_i2c (C : gx_C w X cc nL own rm ret) {x : Int32} (hd : decode cc pc = .ok (.i2c, 1)) (k : gx_G w X S n1 n2 (pc + 1) L (.int (x.toUInt32 % 65536).toInt32 :: st) Q) : gx_G w X S n1 n2 (pc) L (.int x :: st) Q := fun H locs ls hR hl hL => lv_i2c C.1 C.2.1 hd rfl (k H locs ls hR hl hL)
theorem g_lcmp (C : gx_C w X cc nL own rm ret) {x y : Int64} (hd : decode cc pc = .ok (.lcmp, 1)) (k : gx_G w X S n1 n2 (pc + 1) L (.int (lg_cmp x y) :: st) Q) : gx_G w X S n1 n2 (pc) L (.long y :: .long x :: st) Q := fun H locs ls hR hl hL => W.lcmp C.1 C.2.1 hd (k H locs ls hR hl hL)
theorem g_dup (C : gx_C w X cc nL own rm ret) {va : Value} (hd : decode cc pc = .ok (.dup, 1)) (hva : va.category = 1) (k : gx_G w X S n1 n2 (pc + 1) L (va :: va :: st) Q) : gx_G w X S n1 n2 (pc) L (va :: st) Q := fun H locs ls hR hl hL => lv_dup C.1 C.2.1 hd hva (k H locs ls hR hl hL)
theorem g_pop (C : gx_C w X cc nL own rm ret) {va : Value} (hd : decode cc pc = .ok (.pop, 1)) (hva : va.category = 1) (k : gx_G w X S n1 n2 (pc + 1) L (st) Q) : gx_G w X S n1 n2 (pc) L (va :: st) Q := fun H locs ls hR hl hL => lv_pop C.1 C.2.1 hd hva (k H locs ls hR hl hL)
theorem g_dup2 (C : gx_C w X cc nL own rm ret) {va vb : Value} (hd : decode cc pc = .ok (.dup2, 1)) (hva : va.category = 1) (hvb : vb.category = 1) (k : gx_G w X S n1 n2 (pc + 1) L (va :: vb :: va :: vb :: st) Q) : gx_G w X S n1 n2 (pc) L (va :: vb :: st) Q := fun H locs ls hR hl hL => lv_dup2_11 C.1 C.2.1 hd hva hvb (k H locs ls hR hl hL)
theorem g_dup2l (C : gx_C w X cc nL own rm ret) {va : Value} (hd : decode cc pc = .ok (.dup2, 1)) (hva : va.category = 2) (k : gx_G w X S n1 n2 (pc + 1) L (va :: va :: st) Q) : gx_G w X S n1 n2 (pc) L (va :: st) Q := fun H locs ls hR hl hL => lv_dup2_2 C.1 C.2.1 hd hva (k H locs ls hR hl hL)
theorem g_null (C : gx_C w X cc nL own rm ret)  (hd : decode cc pc = .ok (.aconst_null, 1)) (k : gx_G w X S n1 n2 (pc + 1) L (.null :: st) Q) : gx_G w X S n1 n2 (pc) L (st) Q := fun H locs ls hR hl hL => lv_null C.1 C.2.1 hd (k H locs ls hR hl hL)
theorem g_if_eq (C : gx_C w X cc nL own rm ret) {x : Int32} {off : Int} (tgt : Nat) (hd : decode cc pc = .ok (.ifCond .eq off, 3)) (ht : (pc : Int) + off = (tgt : Int)) (kt : x = 0 → gx_G w X S n1 n2 (tgt) L (st) Q) (kf : ¬ (x = 0) → gx_G w X S n1 n2 (pc + 3) L (st) Q) : gx_G w X S n1 n2 (pc) L (.int x :: st) Q := fun H locs ls hR hl hL => lv_if_eq C.1 C.2.1 hd ht (fun h => kt (by first | exact h | exact not_not_intro h | (simpa using h) ) H locs ls hR hl hL) (fun h => kf (by first | exact h | (simpa using h)) H locs ls hR hl hL)
theorem g_icmp_eq (C : gx_C w X cc nL own rm ret) {x y : Int32} {off : Int} (tgt : Nat) (hd : decode cc pc = .ok (.if_icmp .eq off, 3)) (ht : (pc : Int) + off = (tgt : Int)) (kt : x = y → gx_G w X S n1 n2 (tgt) L (st) Q) (kf : ¬ (x = y) → gx_G w X S n1 n2 (pc + 3) L (st) Q) : gx_G w X S n1 n2 (pc) L (.int y :: .int x :: st) Q := fun H locs ls hR hl hL => lv_icmp_eq C.1 C.2.1 hd ht (fun h => kt (by first | exact h | (simpa using h)) H locs ls hR hl hL) (fun h => kf (by first | exact h | (simpa using h)) H locs ls hR hl hL)
theorem g_if_ne (C : gx_C w X cc nL own rm ret) {x : Int32} {off : Int} (tgt : Nat) (hd : decode cc pc = .ok (.ifCond .ne off, 3)) (ht : (pc : Int) + off = (tgt : Int)) (kt : ¬ x = 0 → gx_G w X S n1 n2 (tgt) L (st) Q) (kf : ¬ (¬ x = 0) → gx_G w X S n1 n2 (pc + 3) L (st) Q) : gx_G w X S n1 n2 (pc) L (.int x :: st) Q := fun H locs ls hR hl hL => lv_if_ne C.1 C.2.1 hd ht (fun h => kt (by first | exact h | exact not_not_intro h | (simpa using h) ) H locs ls hR hl hL) (fun h => kf (by first | exact h | (simpa using h)) H locs ls hR hl hL)
theorem g_icmp_ne (C : gx_C w X cc nL own rm ret) {x y : Int32} {off : Int} (tgt : Nat) (hd : decode cc pc = .ok (.if_icmp .ne off, 3)) (ht : (pc : Int) + off = (tgt : Int)) (kt : ¬ x = y → gx_G w X S n1 n2 (tgt) L (st) Q) (kf : ¬ (¬ x = y) → gx_G w X S n1 n2 (pc + 3) L (st) Q) : gx_G w X S n1 n2 (pc) L (.int y :: .int x :: st) Q := fun H locs ls hR hl hL => lv_icmp_ne C.1 C.2.1 hd ht (fun h => kt (by first | exact h | (simpa using h)) H locs ls hR hl hL) (fun h => kf (by first | exact h | (simpa using h)) H locs ls hR hl hL)
theorem g_if_lt (C : gx_C w X cc nL own rm ret) {x : Int32} {off : Int} (tgt : Nat) (hd : decode cc pc = .ok (.ifCond .lt off, 3)) (ht : (pc : Int) + off = (tgt : Int)) (kt : x < 0 → gx_G w X S n1 n2 (tgt) L (st) Q) (kf : ¬ (x < 0) → gx_G w X S n1 n2 (pc + 3) L (st) Q) : gx_G w X S n1 n2 (pc) L (.int x :: st) Q := fun H locs ls hR hl hL => lv_if_lt C.1 C.2.1 hd ht (fun h => kt (by first | exact h | exact not_not_intro h | (simpa using h) ) H locs ls hR hl hL) (fun h => kf (by first | exact h | (simpa using h)) H locs ls hR hl hL)
theorem g_icmp_lt (C : gx_C w X cc nL own rm ret) {x y : Int32} {off : Int} (tgt : Nat) (hd : decode cc pc = .ok (.if_icmp .lt off, 3)) (ht : (pc : Int) + off = (tgt : Int)) (kt : x < y → gx_G w X S n1 n2 (tgt) L (st) Q) (kf : ¬ (x < y) → gx_G w X S n1 n2 (pc + 3) L (st) Q) : gx_G w X S n1 n2 (pc) L (.int y :: .int x :: st) Q := fun H locs ls hR hl hL => lv_icmp_lt C.1 C.2.1 hd ht (fun h => kt (by first | exact h | (simpa using h)) H locs ls hR hl hL) (fun h => kf (by first | exact h | (simpa using h)) H locs ls hR hl hL)
theorem g_if_ge (C : gx_C w X cc nL own rm ret) {x : Int32} {off : Int} (tgt : Nat) (hd : decode cc pc = .ok (.ifCond .ge off, 3)) (ht : (pc : Int) + off = (tgt : Int)) (kt : 0 ≤ x → gx_G w X S n1 n2 (tgt) L (st) Q) (kf : ¬ (0 ≤ x) → gx_G w X S n1 n2 (pc + 3) L (st) Q) : gx_G w X S n1 n2 (pc) L (.int x :: st) Q := fun H locs ls hR hl hL => lv_if_ge C.1 C.2.1 hd ht (fun h => kt (by first | exact h | exact not_not_intro h | (simpa using h) ) H locs ls hR hl hL) (fun h => kf (by first | exact h | (simpa using h)) H locs ls hR hl hL)
theorem g_icmp_ge (C : gx_C w X cc nL own rm ret) {x y : Int32} {off : Int} (tgt : Nat) (hd : decode cc pc = .ok (.if_icmp .ge off, 3)) (ht : (pc : Int) + off = (tgt : Int)) (kt : y ≤ x → gx_G w X S n1 n2 (tgt) L (st) Q) (kf : ¬ (y ≤ x) → gx_G w X S n1 n2 (pc + 3) L (st) Q) : gx_G w X S n1 n2 (pc) L (.int y :: .int x :: st) Q := fun H locs ls hR hl hL => lv_icmp_ge C.1 C.2.1 hd ht (fun h => kt (by first | exact h | (simpa using h)) H locs ls hR hl hL) (fun h => kf (by first | exact h | (simpa using h)) H locs ls hR hl hL)
theorem g_if_gt (C : gx_C w X cc nL own rm ret) {x : Int32} {off : Int} (tgt : Nat) (hd : decode cc pc = .ok (.ifCond .gt off, 3)) (ht : (pc : Int) + off = (tgt : Int)) (kt : 0 < x → gx_G w X S n1 n2 (tgt) L (st) Q) (kf : ¬ (0 < x) → gx_G w X S n1 n2 (pc + 3) L (st) Q) : gx_G w X S n1 n2 (pc) L (.int x :: st) Q := fun H locs ls hR hl hL => lv_if_gt C.1 C.2.1 hd ht (fun h => kt (by first | exact h | exact not_not_intro h | (simpa using h) ) H locs ls hR hl hL) (fun h => kf (by first | exact h | (simpa using h)) H locs ls hR hl hL)
theorem g_icmp_gt (C : gx_C w X cc nL own rm ret) {x y : Int32} {off : Int} (tgt : Nat) (hd : decode cc pc = .ok (.if_icmp .gt off, 3)) (ht : (pc : Int) + off = (tgt : Int)) (kt : y < x → gx_G w X S n1 n2 (tgt) L (st) Q) (kf : ¬ (y < x) → gx_G w X S n1 n2 (pc + 3) L (st) Q) : gx_G w X S n1 n2 (pc) L (.int y :: .int x :: st) Q := fun H locs ls hR hl hL => lv_icmp_gt C.1 C.2.1 hd ht (fun h => kt (by first | exact h | (simpa using h)) H locs ls hR hl hL) (fun h => kf (by first | exact h | (simpa using h)) H locs ls hR hl hL)
theorem g_if_le (C : gx_C w X cc nL own rm ret) {x : Int32} {off : Int} (tgt : Nat) (hd : decode cc pc = .ok (.ifCond .le off, 3)) (ht : (pc : Int) + off = (tgt : Int)) (kt : x ≤ 0 → gx_G w X S n1 n2 (tgt) L (st) Q) (kf : ¬ (x ≤ 0) → gx_G w X S n1 n2 (pc + 3) L (st) Q) : gx_G w X S n1 n2 (pc) L (.int x :: st) Q := fun H locs ls hR hl hL => lv_if_le C.1 C.2.1 hd ht (fun h => kt (by first | exact h | exact not_not_intro h | (simpa using h) ) H locs ls hR hl hL) (fun h => kf (by first | exact h | (simpa using h)) H locs ls hR hl hL)
theorem g_icmp_le (C : gx_C w X cc nL own rm ret) {x y : Int32} {off : Int} (tgt : Nat) (hd : decode cc pc = .ok (.if_icmp .le off, 3)) (ht : (pc : Int) + off = (tgt : Int)) (kt : x ≤ y → gx_G w X S n1 n2 (tgt) L (st) Q) (kf : ¬ (x ≤ y) → gx_G w X S n1 n2 (pc + 3) L (st) Q) : gx_G w X S n1 n2 (pc) L (.int y :: .int x :: st) Q := fun H locs ls hR hl hL => lv_icmp_le C.1 C.2.1 hd ht (fun h => kt (by first | exact h | (simpa using h)) H locs ls hR hl hL) (fun h => kf (by first | exact h | (simpa using h)) H locs ls hR hl hL)
theorem g_goto (C : gx_C w X cc nL own rm ret) {off : Int} (tgt : Nat) (hd : decode cc pc = .ok (.goto off, 3)) (ht : (pc : Int) + off = (tgt : Int)) (k : gx_G w X S n1 n2 (tgt) L (st) Q) : gx_G w X S n1 n2 (pc) L (st) Q := fun H locs ls hR hl hL => lv_goto C.1 C.2.1 hd ht (k H locs ls hR hl hL)
theorem g_ifnonnull (C : gx_C w X cc nL own rm ret) {x : Nat} {off : Int} (tgt : Nat) (hd : decode cc pc = .ok (.ifnonnull off, 3)) (ht : (pc : Int) + off = (tgt : Int)) (k : gx_G w X S n1 n2 (tgt) L (st) Q) : gx_G w X S n1 n2 (pc) L (.ref x :: st) Q := fun H locs ls hR hl hL => lv_ifnonnull C.1 C.2.1 hd ht (k H locs ls hR hl hL)
theorem g_tableOut (C : gx_C w X cc nL own rm ret) {dflt lo hi : Int} {offs : Array Int} {len : Nat} {x : Int32} (tgt : Nat) (hd : decode cc pc = .ok (.tableswitch dflt lo hi offs, len)) (h : x.toInt < lo ∨ hi < x.toInt) (ht : (pc : Int) + dflt = (tgt : Int)) (k : gx_G w X S n1 n2 (tgt) L (st) Q) : gx_G w X S n1 n2 (pc) L (.int x :: st) Q := fun H locs ls hR hl hL => lv_tableOut C.1 C.2.1 hd h ht (k H locs ls hR hl hL)
theorem g_tableIn (C : gx_C w X cc nL own rm ret) {dflt lo hi : Int} {offs : Array Int} {len : Nat} {x : Int32} {off : Int} (tgt : Nat) (hd : decode cc pc = .ok (.tableswitch dflt lo hi offs, len)) (h1 : ¬ x.toInt < lo) (h2 : ¬ hi < x.toInt) (ho : offs[(x.toInt - lo).toNat]? = some off) (ht : (pc : Int) + off = (tgt : Int)) (k : gx_G w X S n1 n2 (tgt) L (st) Q) : gx_G w X S n1 n2 (pc) L (.int x :: st) Q := fun H locs ls hR hl hL => lv_tableIn C.1 C.2.1 hd h1 h2 ho ht (k H locs ls hR hl hL)
theorem gx_ends {post : Option Value → St → Prop} (hn1 : n1 ≤ (x_R X).cells) (hn2 : n2 ≤ (x_R X).slots) (k : gx_G w X S (x_R X).cells (x_R X).slots pc L st Q) : gx_G w X S n1 n2 pc L st Q := fun H locs ls hR hl hL => W.widen hn1 hn2 (k H locs ls hR hl hL)
theorem g_ireturn (C : gx_C w X cc nL own rm (some .int)) {post : Option Value → St → Prop} {v : Int32} (hn : Nat.ble n1 rm.cells = true ∧ Nat.ble n2 rm.slots = true) (hd : decode cc pc = .ok (.ireturn, 1)) (hp : post (some (.int v)) S) : gx_G w X S n1 n2 pc L [.int v] (gx_E w X post) := by
  obtain ⟨e1, e2, e3, e4, e5, e6, e7, e8, e9⟩ := C
  refine gx_ends (post := post) (by rw [e7]; exact Nat.le_of_ble_eq_true hn.1) (by rw [e7]; exact Nat.le_of_ble_eq_true hn.2) ?_
  intro H locs ls hR hl hL
  exact W.iret e1 e2 e8 (fun t ht hW => ⟨_, S, rfl, hp, by rw [ht]; exact hR⟩) hl hd e9
theorem g_zreturn (C : gx_C w X cc nL own rm (some .boolean)) {post : Option Value → St → Prop} {v : Int32} (hn : Nat.ble n1 rm.cells = true ∧ Nat.ble n2 rm.slots = true) (hv : v = 0 ∨ v = 1) (hd : decode cc pc = .ok (.ireturn, 1)) (hp : post (some (.int v)) S) : gx_G w X S n1 n2 pc L [.int v] (gx_E w X post) := by
  obtain ⟨e1, e2, e3, e4, e5, e6, e7, e8, e9⟩ := C
  refine gx_ends (post := post) (by rw [e7]; exact Nat.le_of_ble_eq_true hn.1) (by rw [e7]; exact Nat.le_of_ble_eq_true hn.2) ?_
  intro H locs ls hR hl hL
  exact W.zret e1 e2 e8 (by rcases hv with rfl | rfl <;> rfl) (fun t ht hW => ⟨_, S, rfl, hp, by rw [ht]; exact hR⟩) hl hd e9
theorem g_lreturn (C : gx_C w X cc nL own rm (some .long)) {post : Option Value → St → Prop} {v : Int64} (hn : Nat.ble n1 rm.cells = true ∧ Nat.ble n2 rm.slots = true) (hd : decode cc pc = .ok (.lreturn, 1)) (hp : post (some (.long v)) S) : gx_G w X S n1 n2 pc L [.long v] (gx_E w X post) := by
  obtain ⟨e1, e2, e3, e4, e5, e6, e7, e8, e9⟩ := C
  refine gx_ends (post := post) (by rw [e7]; exact Nat.le_of_ble_eq_true hn.1) (by rw [e7]; exact Nat.le_of_ble_eq_true hn.2) ?_
  intro H locs ls hR hl hL
  exact W.lret e1 e2 e8 (fun t ht hW => ⟨_, S, rfl, hp, by rw [ht]; exact hR⟩) hl hd e9
theorem g_return (C : gx_C w X cc nL own rm none) {post : Option Value → St → Prop} (hn : Nat.ble n1 rm.cells = true ∧ Nat.ble n2 rm.slots = true) (hd : decode cc pc = .ok (.return_, 1)) (hp : post none S) : gx_G w X S n1 n2 pc L [] (gx_E w X post) := by
  obtain ⟨e1, e2, e3, e4, e5, e6, e7, e8, e9⟩ := C
  refine gx_ends (post := post) (by rw [e7]; exact Nat.le_of_ble_eq_true hn.1) (by rw [e7]; exact Nat.le_of_ble_eq_true hn.2) ?_
  intro H locs ls hR hl hL
  exact W.vret e1 e2 e8 (fun t ht hW => ⟨_, S, rfl, hp, by rw [ht]; exact hR⟩) hl hd e9
theorem g_areturn {rt : FieldType} (C : gx_C w X cc nL own rm (some rt)) {post : Option Value → St → Prop} {v : Value} (hrt : (∃ n, rt = .object n) ∨ ∃ t, rt = .array t) (hv : v = .null ∨ ∃ a, v = .ref a) (hn : Nat.ble n1 rm.cells = true ∧ Nat.ble n2 rm.slots = true) (hd : decode cc pc = .ok (.areturn, 1)) (hp : post (some v) S) : gx_G w X S n1 n2 pc L [v] (gx_E w X post) := by
  obtain ⟨e1, e2, e3, e4, e5, e6, e7, e8, e9⟩ := C
  refine gx_ends (post := post) (by rw [e7]; exact Nat.le_of_ble_eq_true hn.1) (by rw [e7]; exact Nat.le_of_ble_eq_true hn.2) ?_
  intro H locs ls hR hl hL
  exact W.aret e1 e2 e8 hrt hv (fun t ht hW => ⟨_, S, rfl, hp, by rw [ht]; exact hR⟩) hl hd e9
theorem gx_cell {H : Heap} {k kd : Nat} (hR : gx_R w S H) (hk : s_k S k = kd) (h19 : Nat.blt kd 19 = true) (hz : ad (w_b w) k < w_b w + s_z S) : va_P w.1 vwCl [(ad (w_b w) k, s_entc w.2.1 (w_b w) (fun f => s_I S f k) (fun f => s_L S f k) (fun f => s_R S f k) (s_n S k) (s_A S k) (s_B S k) (s_Q S k) kd)] H := by
  have h := hR.2.1 k (by rw [hk]; exact Nat.le_of_ble_eq_true h19) hz
  unfold s_ent at h
  rw [hk] at h
  intro i q hq
  cases i with
  | zero => cases hq; exact h
  | succ i => simp at hq
/-- one cell has changed -/
theorem gx_R.upd {S' : St} {H H1 : Heap} {k : Nat} (hR : gx_R w S H) (hk : s_k S k < 19) (e1 : ∀ j, s_k S' j = s_k S j) (e2 : s_z S' = s_z S) (e3 : ∀ j, j ≠ k → s_ent w.2.1 (w_b w) S' j = s_ent w.2.1 (w_b w) S j) (hz : ad (w_b w) k < w_b w + s_z S) (hat : va_at w.1 vwCl (ad (w_b w) k, s_ent w.2.1 (w_b w) S' k) H1) (z : H1.size = H.size) (oq : ∀ q : Nat, q ≠ ad (w_b w) k → H1[q]? = H[q]?) : gx_R w S' H1 := by
  refine ⟨by rw [z, e2]; exact hR.1, fun j hj hzj => ?_, fun q hq => ?_⟩
  · by_cases e : j = k
    · subst e; exact hat
    · rw [e3 j e]
      rw [e1] at hj
      rw [e2] at hzj
      exact (hR.2.1 j hj hzj).kept (oq _ (fun h => e (ad_inj hj hk h)))
  · rw [oq q (fun h => ?_)]
    · exact hR.2.2 q hq
    · have : w_b w ≤ ad (w_b w) k := by unfold ad; split <;> (try split) <;> omega
      omega
theorem ad_ge {b k : Nat} : b ≤ ad b k := by unfold ad; split <;> (try split) <;> omega
theorem g_iald (C : gx_C w X cc nL own rm ret) {k n : Nat} {i : Int32} (hk : s_k S k = 13) (hn : s_n S k = n) (hz : ad (w_b w) k < w_b w + s_z S) (hin : vp_in i n) (hd : decode cc pc = .ok (.iaload, 1)) (kk : gx_G w X S n1 n2 (pc + 1) L (.int (s_A S k i.toNatClampNeg) :: st) Q) : gx_G w X S n1 n2 (pc) L (.int i :: .ref (ad (w_b w) k) :: st) Q := by
  intro H locs ls hR hl hL
  subst hn
  exact va_iald C.1 C.2.1 C.2.2.2.2.2.1 (gx_cell hR hk rfl hz) 0 1 rfl rfl hin hd (kk H locs ls hR hl hL)
theorem g_bald (C : gx_C w X cc nL own rm ret) {k n : Nat} {i : Int32} (hk : s_k S k = 12) (hn : s_n S k = n) (hz : ad (w_b w) k < w_b w + s_z S) (hin : vp_in i n) (hd : decode cc pc = .ok (.baload, 1)) (kk : gx_G w X S n1 n2 (pc + 1) L (.int (s_A S k i.toNatClampNeg) :: st) Q) : gx_G w X S n1 n2 (pc) L (.int i :: .ref (ad (w_b w) k) :: st) Q := by
  intro H locs ls hR hl hL
  subst hn
  exact va_bald C.1 C.2.1 C.2.2.2.2.2.1 (gx_cell hR hk rfl hz) 0 0 rfl rfl hin hd (kk H locs ls hR hl hL)
theorem g_zald (C : gx_C w X cc nL own rm ret) {k n : Nat} {i : Int32} (hk : s_k S k = 15) (hn : s_n S k = n) (hz : ad (w_b w) k < w_b w + s_z S) (hin : vp_in i n) (hd : decode cc pc = .ok (.baload, 1)) (kk : gx_G w X S n1 n2 (pc + 1) L (.int (s_A S k i.toNatClampNeg) :: st) Q) : gx_G w X S n1 n2 (pc) L (.int i :: .ref (ad (w_b w) k) :: st) Q := by
  intro H locs ls hR hl hL
  subst hn
  exact va_zald C.1 C.2.1 C.2.2.2.2.2.1 (gx_cell hR hk rfl hz) 0 3 rfl rfl hin hd (kk H locs ls hR hl hL)
theorem g_lald (C : gx_C w X cc nL own rm ret) {k n : Nat} {i : Int32} (hk : s_k S k = 14) (hn : s_n S k = n) (hz : ad (w_b w) k < w_b w + s_z S) (hin : vp_in i n) (hd : decode cc pc = .ok (.laload, 1)) (kk : gx_G w X S n1 n2 (pc + 1) L (.long (s_B S k i.toNatClampNeg) :: st) Q) : gx_G w X S n1 n2 (pc) L (.int i :: .ref (ad (w_b w) k) :: st) Q := by
  intro H locs ls hR hl hL
  subst hn
  exact va_lald C.1 C.2.1 C.2.2.2.2.2.1 (gx_cell hR hk rfl hz) 0 2 rfl rfl hin hd (kk H locs ls hR hl hL)
theorem g_alen13 (C : gx_C w X cc nL own rm ret) {k n : Nat} {v : Int32} (hk : s_k S k = 13) (hn : s_n S k = n) (hz : ad (w_b w) k < w_b w + s_z S) (hv : Int32.ofNat n = v) (hd : decode cc pc = .ok (.arraylength, 1)) (kk : gx_G w X S n1 n2 (pc + 1) L (.int v :: st) Q) : gx_G w X S n1 n2 (pc) L (.ref (ad (w_b w) k) :: st) Q := by
  intro H locs ls hR hl hL
  subst hn
  exact va_alen C.1 C.2.1 C.2.2.2.2.2.1 (gx_cell hR hk rfl hz) 0 1 rfl rfl hv hd (kk H locs ls hR hl hL)
theorem g_alen14 (C : gx_C w X cc nL own rm ret) {k n : Nat} {v : Int32} (hk : s_k S k = 14) (hn : s_n S k = n) (hz : ad (w_b w) k < w_b w + s_z S) (hv : Int32.ofNat n = v) (hd : decode cc pc = .ok (.arraylength, 1)) (kk : gx_G w X S n1 n2 (pc + 1) L (.int v :: st) Q) : gx_G w X S n1 n2 (pc) L (.ref (ad (w_b w) k) :: st) Q := by
  intro H locs ls hR hl hL
  subst hn
  exact va_alen C.1 C.2.1 C.2.2.2.2.2.1 (gx_cell hR hk rfl hz) 0 2 rfl rfl hv hd (kk H locs ls hR hl hL)
theorem g_alen17 (C : gx_C w X cc nL own rm ret) {k n : Nat} {v : Int32} (hk : s_k S k = 17) (hn : s_n S k = n) (hz : ad (w_b w) k < w_b w + s_z S) (hv : Int32.ofNat n = v) (hd : decode cc pc = .ok (.arraylength, 1)) (kk : gx_G w X S n1 n2 (pc + 1) L (.int v :: st) Q) : gx_G w X S n1 n2 (pc) L (.ref (ad (w_b w) k) :: st) Q := by
  intro H locs ls hR hl hL
  subst hn
  exact va_alen C.1 C.2.1 C.2.2.2.2.2.1 (gx_cell hR hk rfl hz) 0 5 rfl rfl hv hd (kk H locs ls hR hl hL)
theorem u1_eq {α : Type} {f : Nat → α} {k : Nat} {v : α} : u1 f k v k = v := if_pos rfl
theorem u1_ne {α : Type} {f : Nat → α} {k j : Nat} {v : α} (h : j ≠ k) : u1 f k v j = f j := if_neg h
theorem u2_col {α : Type} {f : Nat → Nat → α} {g k : Nat} {v : α} : (fun h => u2 f g k v h k) = fun h => if h = g then v else f h k := by
  funext h; unfold u2; rw [if_pos rfl]
theorem u2_cne {α : Type} {f : Nat → Nat → α} {g k j : Nat} {v : α} (e : j ≠ k) : (fun h => u2 f g k v h j) = fun h => f h j := by
  funext h; unfold u2; rw [if_neg e]; split <;> rfl
theorem g_iast (C : gx_C w X cc nL own rm ret) {k n : Nat} {i : Int32} {x : Int32} (hk : s_k S k = 13) (hn : s_n S k = n) (hz : ad (w_b w) k < w_b w + s_z S) (hin : vp_in i n) (hd : decode cc pc = .ok (.iastore, 1)) (kk : gx_G w X (s_setA S k (upd (s_A S k) i.toNatClampNeg x)) n1 n2 (pc + 1) L (st) Q) : gx_G w X S n1 n2 (pc) L (.int x :: .int i :: .ref (ad (w_b w) k) :: st) Q := by
  intro H locs ls hR hl hL
  subst hn
  have hP := gx_cell hR hk rfl hz
  refine W.iast C.1 C.2.1 (hP 0 _ rfl) ((C.2.2.2.2.2.1.2 1 _ rfl).1 (s_n S k) (fun j => .int (s_A S k j))) (fun q => by cases q) (by show ¬ (i < 0 ∨ (arrV _ _ _).slots.size ≤ _); rw [arrV_size]; exact hin) rfl rfl hd fun H1 e z oq => ?_
  refine kk H1 _ ls ?_ (fun q hq => ?_) hL
  · refine hR.upd (k := k) (by rw [hk]; exact Nat.le_of_ble_eq_true rfl) (fun j => rfl) rfl (fun j hj => ?_) hz ?_ z oq
    · show s_entc _ _ _ _ _ _ _ _ _ _ = s_entc _ _ _ _ _ _ _ _ _ _
      have e1 : s_A (s_setA S k (upd (s_A S k) i.toNatClampNeg x)) j = s_A S j := u1_ne hj
      rw [e1]; rfl
    · unfold s_ent
      rw [show s_k (s_setA S k (upd (s_A S k) i.toNatClampNeg x)) k = 13 from hk, show s_A (s_setA S k (upd (s_A S k) i.toNatClampNeg x)) k = (upd (s_A S k) i.toNatClampNeg x) from u1_eq]
      show H1[ad (w_b w) k]? = some (vp_cell _ _)
      rw [e]
      show some ((vp_cell _ _).setSlot _ _) = _
      rw [vp_cell_i, vp_cell_i, arrV_store]
      congr 2
      funext q
      by_cases hq : q = i.toNatClampNeg
      · subst hq
        simp [updV, upd, vp_updL, vp_nar]
        try rfl
      · simp [updV, upd, vp_updL, hq]
  · rcases List.mem_append.mp hq with h | h
    · exact hl q h
    · rw [List.mem_singleton.mp h]; exact ad_ge
theorem g_bast (C : gx_C w X cc nL own rm ret) {k n : Nat} {i : Int32} {x : Int32} (hk : s_k S k = 12) (hn : s_n S k = n) (hz : ad (w_b w) k < w_b w + s_z S) (hin : vp_in i n) (hd : decode cc pc = .ok (.bastore, 1)) (kk : gx_G w X (s_setA S k (upd (s_A S k) i.toNatClampNeg (vp_nar .byte x))) n1 n2 (pc + 1) L (st) Q) : gx_G w X S n1 n2 (pc) L (.int x :: .int i :: .ref (ad (w_b w) k) :: st) Q := by
  intro H locs ls hR hl hL
  subst hn
  have hP := gx_cell hR hk rfl hz
  refine W.bast C.1 C.2.1 (hP 0 _ rfl) ((C.2.2.2.2.2.1.2 0 _ rfl).1 (s_n S k) (fun j => .int (s_A S k j))) (fun q => by cases q) (by show ¬ (i < 0 ∨ (arrV _ _ _).slots.size ≤ _); rw [arrV_size]; exact hin) rfl rfl hd fun H1 e z oq => ?_
  refine kk H1 _ ls ?_ (fun q hq => ?_) hL
  · refine hR.upd (k := k) (by rw [hk]; exact Nat.le_of_ble_eq_true rfl) (fun j => rfl) rfl (fun j hj => ?_) hz ?_ z oq
    · show s_entc _ _ _ _ _ _ _ _ _ _ = s_entc _ _ _ _ _ _ _ _ _ _
      have e1 : s_A (s_setA S k (upd (s_A S k) i.toNatClampNeg (vp_nar .byte x))) j = s_A S j := u1_ne hj
      rw [e1]; rfl
    · unfold s_ent
      rw [show s_k (s_setA S k (upd (s_A S k) i.toNatClampNeg (vp_nar .byte x))) k = 12 from hk, show s_A (s_setA S k (upd (s_A S k) i.toNatClampNeg (vp_nar .byte x))) k = (upd (s_A S k) i.toNatClampNeg (vp_nar .byte x)) from u1_eq]
      show H1[ad (w_b w) k]? = some (vp_cell _ _)
      rw [e]
      show some ((vp_cell _ _).setSlot _ _) = _
      rw [vp_cell_i, vp_cell_i, arrV_store]
      congr 2
      funext q
      by_cases hq : q = i.toNatClampNeg
      · subst hq
        simp [updV, upd, vp_updL, vp_nar]
        try rfl
      · simp [updV, upd, vp_updL, hq]
  · rcases List.mem_append.mp hq with h | h
    · exact hl q h
    · rw [List.mem_singleton.mp h]; exact ad_ge
theorem g_zast (C : gx_C w X cc nL own rm ret) {k n : Nat} {i : Int32} {x : Int32} (hk : s_k S k = 15) (hn : s_n S k = n) (hz : ad (w_b w) k < w_b w + s_z S) (hin : vp_in i n) (hd : decode cc pc = .ok (.bastore, 1)) (kk : gx_G w X (s_setA S k (upd (s_A S k) i.toNatClampNeg (vp_nar .boolean x))) n1 n2 (pc + 1) L (st) Q) : gx_G w X S n1 n2 (pc) L (.int x :: .int i :: .ref (ad (w_b w) k) :: st) Q := by
  intro H locs ls hR hl hL
  subst hn
  have hP := gx_cell hR hk rfl hz
  refine W.zast C.1 C.2.1 (hP 0 _ rfl) ((C.2.2.2.2.2.1.2 3 _ rfl).1 (s_n S k) (fun j => .int (s_A S k j))) (fun q => by cases q) (by show ¬ (i < 0 ∨ (arrV _ _ _).slots.size ≤ _); rw [arrV_size]; exact hin) rfl rfl hd fun H1 e z oq => ?_
  refine kk H1 _ ls ?_ (fun q hq => ?_) hL
  · refine hR.upd (k := k) (by rw [hk]; exact Nat.le_of_ble_eq_true rfl) (fun j => rfl) rfl (fun j hj => ?_) hz ?_ z oq
    · show s_entc _ _ _ _ _ _ _ _ _ _ = s_entc _ _ _ _ _ _ _ _ _ _
      have e1 : s_A (s_setA S k (upd (s_A S k) i.toNatClampNeg (vp_nar .boolean x))) j = s_A S j := u1_ne hj
      rw [e1]; rfl
    · unfold s_ent
      rw [show s_k (s_setA S k (upd (s_A S k) i.toNatClampNeg (vp_nar .boolean x))) k = 15 from hk, show s_A (s_setA S k (upd (s_A S k) i.toNatClampNeg (vp_nar .boolean x))) k = (upd (s_A S k) i.toNatClampNeg (vp_nar .boolean x)) from u1_eq]
      show H1[ad (w_b w) k]? = some (vp_cell _ _)
      rw [e]
      show some ((vp_cell _ _).setSlot _ _) = _
      rw [vp_cell_i, vp_cell_i, arrV_store]
      congr 2
      funext q
      by_cases hq : q = i.toNatClampNeg
      · subst hq
        simp [updV, upd, vp_updL, vp_nar]
        try rfl
      · simp [updV, upd, vp_updL, hq]
  · rcases List.mem_append.mp hq with h | h
    · exact hl q h
    · rw [List.mem_singleton.mp h]; exact ad_ge
theorem g_last (C : gx_C w X cc nL own rm ret) {k n : Nat} {i : Int32} {x : Int64} (hk : s_k S k = 14) (hn : s_n S k = n) (hz : ad (w_b w) k < w_b w + s_z S) (hin : vp_in i n) (hd : decode cc pc = .ok (.lastore, 1)) (kk : gx_G w X (s_setB S k (vp_updL (s_B S k) i.toNatClampNeg x)) n1 n2 (pc + 1) L (st) Q) : gx_G w X S n1 n2 (pc) L (.long x :: .int i :: .ref (ad (w_b w) k) :: st) Q := by
  intro H locs ls hR hl hL
  subst hn
  have hP := gx_cell hR hk rfl hz
  refine W.last C.1 C.2.1 (hP 0 _ rfl) ((C.2.2.2.2.2.1.2 2 _ rfl).1 (s_n S k) (fun j => .long (s_B S k j))) (fun q => by cases q) (by show ¬ (i < 0 ∨ (arrV _ _ _).slots.size ≤ _); rw [arrV_size]; exact hin) rfl rfl hd fun H1 e z oq => ?_
  refine kk H1 _ ls ?_ (fun q hq => ?_) hL
  · refine hR.upd (k := k) (by rw [hk]; exact Nat.le_of_ble_eq_true rfl) (fun j => rfl) rfl (fun j hj => ?_) hz ?_ z oq
    · show s_entc _ _ _ _ _ _ _ _ _ _ = s_entc _ _ _ _ _ _ _ _ _ _
      have e1 : s_B (s_setB S k (vp_updL (s_B S k) i.toNatClampNeg x)) j = s_B S j := u1_ne hj
      rw [e1]; rfl
    · unfold s_ent
      rw [show s_k (s_setB S k (vp_updL (s_B S k) i.toNatClampNeg x)) k = 14 from hk, show s_B (s_setB S k (vp_updL (s_B S k) i.toNatClampNeg x)) k = (vp_updL (s_B S k) i.toNatClampNeg x) from u1_eq]
      show H1[ad (w_b w) k]? = some (vp_cell _ _)
      rw [e]
      show some ((vp_cell _ _).setSlot _ _) = _
      rw [vp_cell_l, vp_cell_l, arrV_store]
      congr 2
      funext q
      by_cases hq : q = i.toNatClampNeg
      · subst hq
        simp [updV, upd, vp_updL, vp_nar]
        try rfl
      · simp [updV, upd, vp_updL, hq]
  · rcases List.mem_append.mp hq with h | h
    · exact hl q h
    · rw [List.mem_singleton.mp h]; exact ad_ge
theorem isn_v {j : Nat} : nI j = nI j := rfl
theorem isn_add {a b : Int32} {x y : Nat} (h1 : a = nI x) (h2 : b = nI y) : a + b = nI (x + y) := by rw [h1, h2]; exact nI_add x y
theorem isn_mul {a b : Int32} {x y : Nat} (h1 : a = nI x) (h2 : b = nI y) : a * b = nI (x * y) := by rw [h1, h2]; exact pk_mul x y
theorem isn_sub {a b : Int32} {x y : Nat} (h1 : a = nI x) (h2 : b = nI y) (h : y ≤ x) : a - b = nI (x - y) := by rw [h1, h2]; exact pk_sub h
theorem n_iald (C : gx_C w X cc nL own rm ret) {k n j : Nat} {i : Int32} (hk : s_k S k = 13) (hn : s_n S k = n) (hz : ad (w_b w) k < w_b w + s_z S) (he : i = nI j) (hb : Nat.blt n 2147483648 = true) (hj : j < n) (hd : decode cc pc = .ok (.iaload, 1)) (kk : gx_G w X S n1 n2 (pc + 1) L (.int (s_A S k j) :: st) Q) : gx_G w X S n1 n2 (pc) L (.int i :: .ref (ad (w_b w) k) :: st) Q := by
  subst he
  have e := nI_clamp (n := j) (Nat.lt_trans hj (Nat.le_of_ble_eq_true hb))
  refine g_iald C hk hn hz (vp_in_nI hj (Nat.le_of_ble_eq_true hb)) hd ?_
  rw [e]; exact kk
theorem n_bald (C : gx_C w X cc nL own rm ret) {k n j : Nat} {i : Int32} (hk : s_k S k = 12) (hn : s_n S k = n) (hz : ad (w_b w) k < w_b w + s_z S) (he : i = nI j) (hb : Nat.blt n 2147483648 = true) (hj : j < n) (hd : decode cc pc = .ok (.baload, 1)) (kk : gx_G w X S n1 n2 (pc + 1) L (.int (s_A S k j) :: st) Q) : gx_G w X S n1 n2 (pc) L (.int i :: .ref (ad (w_b w) k) :: st) Q := by
  subst he
  have e := nI_clamp (n := j) (Nat.lt_trans hj (Nat.le_of_ble_eq_true hb))
  refine g_bald C hk hn hz (vp_in_nI hj (Nat.le_of_ble_eq_true hb)) hd ?_
  rw [e]; exact kk
theorem n_zald (C : gx_C w X cc nL own rm ret) {k n j : Nat} {i : Int32} (hk : s_k S k = 15) (hn : s_n S k = n) (hz : ad (w_b w) k < w_b w + s_z S) (he : i = nI j) (hb : Nat.blt n 2147483648 = true) (hj : j < n) (hd : decode cc pc = .ok (.baload, 1)) (kk : gx_G w X S n1 n2 (pc + 1) L (.int (s_A S k j) :: st) Q) : gx_G w X S n1 n2 (pc) L (.int i :: .ref (ad (w_b w) k) :: st) Q := by
  subst he
  have e := nI_clamp (n := j) (Nat.lt_trans hj (Nat.le_of_ble_eq_true hb))
  refine g_zald C hk hn hz (vp_in_nI hj (Nat.le_of_ble_eq_true hb)) hd ?_
  rw [e]; exact kk
theorem n_lald (C : gx_C w X cc nL own rm ret) {k n j : Nat} {i : Int32} (hk : s_k S k = 14) (hn : s_n S k = n) (hz : ad (w_b w) k < w_b w + s_z S) (he : i = nI j) (hb : Nat.blt n 2147483648 = true) (hj : j < n) (hd : decode cc pc = .ok (.laload, 1)) (kk : gx_G w X S n1 n2 (pc + 1) L (.long (s_B S k j) :: st) Q) : gx_G w X S n1 n2 (pc) L (.int i :: .ref (ad (w_b w) k) :: st) Q := by
  subst he
  have e := nI_clamp (n := j) (Nat.lt_trans hj (Nat.le_of_ble_eq_true hb))
  refine g_lald C hk hn hz (vp_in_nI hj (Nat.le_of_ble_eq_true hb)) hd ?_
  rw [e]; exact kk
theorem n_iast (C : gx_C w X cc nL own rm ret) {k n j : Nat} {i : Int32} {x : Int32} (hk : s_k S k = 13) (hn : s_n S k = n) (hz : ad (w_b w) k < w_b w + s_z S) (he : i = nI j) (hb : Nat.blt n 2147483648 = true) (hj : j < n) (hd : decode cc pc = .ok (.iastore, 1)) (kk : gx_G w X (s_setA S k (upd (s_A S k) j x)) n1 n2 (pc + 1) L (st) Q) : gx_G w X S n1 n2 (pc) L (.int x :: .int i :: .ref (ad (w_b w) k) :: st) Q := by
  subst he
  have e := nI_clamp (n := j) (Nat.lt_trans hj (Nat.le_of_ble_eq_true hb))
  refine g_iast C hk hn hz (vp_in_nI hj (Nat.le_of_ble_eq_true hb)) hd ?_
  rw [e]; exact kk
theorem n_bast (C : gx_C w X cc nL own rm ret) {k n j : Nat} {i : Int32} {x : Int32} (hk : s_k S k = 12) (hn : s_n S k = n) (hz : ad (w_b w) k < w_b w + s_z S) (he : i = nI j) (hb : Nat.blt n 2147483648 = true) (hj : j < n) (hd : decode cc pc = .ok (.bastore, 1)) (kk : gx_G w X (s_setA S k (upd (s_A S k) j (vp_nar .byte x))) n1 n2 (pc + 1) L (st) Q) : gx_G w X S n1 n2 (pc) L (.int x :: .int i :: .ref (ad (w_b w) k) :: st) Q := by
  subst he
  have e := nI_clamp (n := j) (Nat.lt_trans hj (Nat.le_of_ble_eq_true hb))
  refine g_bast C hk hn hz (vp_in_nI hj (Nat.le_of_ble_eq_true hb)) hd ?_
  rw [e]; exact kk
theorem n_zast (C : gx_C w X cc nL own rm ret) {k n j : Nat} {i : Int32} {x : Int32} (hk : s_k S k = 15) (hn : s_n S k = n) (hz : ad (w_b w) k < w_b w + s_z S) (he : i = nI j) (hb : Nat.blt n 2147483648 = true) (hj : j < n) (hd : decode cc pc = .ok (.bastore, 1)) (kk : gx_G w X (s_setA S k (upd (s_A S k) j (vp_nar .boolean x))) n1 n2 (pc + 1) L (st) Q) : gx_G w X S n1 n2 (pc) L (.int x :: .int i :: .ref (ad (w_b w) k) :: st) Q := by
  subst he
  have e := nI_clamp (n := j) (Nat.lt_trans hj (Nat.le_of_ble_eq_true hb))
  refine g_zast C hk hn hz (vp_in_nI hj (Nat.le_of_ble_eq_true hb)) hd ?_
  rw [e]; exact kk
theorem n_last (C : gx_C w X cc nL own rm ret) {k n j : Nat} {i : Int32} {x : Int64} (hk : s_k S k = 14) (hn : s_n S k = n) (hz : ad (w_b w) k < w_b w + s_z S) (he : i = nI j) (hb : Nat.blt n 2147483648 = true) (hj : j < n) (hd : decode cc pc = .ok (.lastore, 1)) (kk : gx_G w X (s_setB S k (vp_updL (s_B S k) j x)) n1 n2 (pc + 1) L (st) Q) : gx_G w X S n1 n2 (pc) L (.long x :: .int i :: .ref (ad (w_b w) k) :: st) Q := by
  subst he
  have e := nI_clamp (n := j) (Nat.lt_trans hj (Nat.le_of_ble_eq_true hb))
  refine g_last C hk hn hz (vp_in_nI hj (Nat.le_of_ble_eq_true hb)) hd ?_
  rw [e]; exact kk
end ROWS
