/-! ===== the reference: one object, key 1000, and its arrays ===== -/
def mRef : Nat → Option Nat := fun f => if f = 1100 then some 1001 else if f = 1103 then some 1002 else if f = 1104 then some 1003 else if f = 1105 then some 1004 else if f = 1106 then some 1005 else if f = 1107 then some 1006 else if f = 1115 then some 1007 else if f = 1117 then some 1008 else if f = 1119 then some 1009 else if f = 1120 then some 1010 else if f = 1124 then some 1011 else if f = 1126 then some 1012 else if f = 1127 then some 1013 else if f = 1128 then some 1014 else if f = 1129 then some 1015 else if f = 1130 then some 1016 else if f = 1131 then some 1017 else if f = 1132 then some 1018 else if f = 1134 then some 1019 else if f = 1135 then some 1020 else if f = 1136 then some 1021 else if f = 1138 then some 1022 else if f = 1139 then some 1023 else if f = 1140 then some 1024 else if f = 1141 then some 1025 else none
def gx_m (S : St) : Prop := (∀ f j, mRef f = some j → s_R S f 1000 = some j) ∧ nX + nM ≤ s_z S
theorem m_z {w : Wd} {S : St} (hm : gx_m S) {k : Nat} (h : (Nat.ble 1000 k && Nat.blt k 1026) = true) : ad (w_b w) k < w_b w + s_z S := by
  have h1 := hm.2
  simp only [Bool.and_eq_true] at h
  have h2 := Nat.le_of_ble_eq_true h.1
  have h3 : k + 1 ≤ 1026 := Nat.le_of_ble_eq_true h.2
  have n1 : nX = 95 := rfl
  have n2 : nM = 26 := rfl
  unfold ad
  rw [if_neg (by omega), if_pos (by omega)]
  omega
theorem gx_L {w : Wd} {X : FX} {S : St} {n1 n2 pc : Nat} {L L' : List (Option Value)} {st : List Value} {Q : State → Prop} (h : L = L') (k : gx_G w X S n1 n2 pc L' st Q) : gx_G w X S n1 n2 pc L st Q := h ▸ k
theorem gx_S {w : Wd} {X : FX} {S S' : St} {n1 n2 pc : Nat} {L : List (Option Value)} {st : List Value} {Q : State → Prop} (h : S = S') (k : gx_G w X S' n1 n2 pc L st Q) : gx_G w X S n1 n2 pc L st Q := h ▸ k
theorem gx_ti {w : Wd} {X : FX} {S : St} {n1 n2 pc : Nat} {L : List (Option Value)} {st : List Value} {Q : State → Prop} {x y : Int32} (h : x = y) (k : gx_G w X S n1 n2 pc L (.int y :: st) Q) : gx_G w X S n1 n2 pc L (.int x :: st) Q := h ▸ k
theorem mg_7 {w : Wd} {X : FX} {S : St} {n1 n2 pc : Nat} {L : List (Option Value)} {st : List Value} {Q : State → Prop} {cc : ByteArray} {nL : Nat} {rm : Room} {ret : Option FieldType} (C : gx_C w X cc nL RX12 rm ret) (hm : gx_m S) (hd : decode cc pc = .ok (.getfield 7, 3)) (kk : gx_G w X S n1 n2 (pc + 3) L (.ref (ad (w_b w) 1001) :: st) Q) : gx_G w X S n1 n2 pc L (.ref (ad (w_b w) 1000) :: st) Q := fgr_X12_7 C rfl (m_z hm rfl) (hm.1 1100 1001 rfl) hd kk
theorem mg_13 {w : Wd} {X : FX} {S : St} {n1 n2 pc : Nat} {L : List (Option Value)} {st : List Value} {Q : State → Prop} {cc : ByteArray} {nL : Nat} {rm : Room} {ret : Option FieldType} (C : gx_C w X cc nL RX12 rm ret) (hm : gx_m S) (hd : decode cc pc = .ok (.getfield 13, 3)) (kk : gx_G w X S n1 n2 (pc + 3) L (.ref (ad (w_b w) 1002) :: st) Q) : gx_G w X S n1 n2 pc L (.ref (ad (w_b w) 1000) :: st) Q := fgr_X12_13 C rfl (m_z hm rfl) (hm.1 1103 1002 rfl) hd kk
theorem mg_17 {w : Wd} {X : FX} {S : St} {n1 n2 pc : Nat} {L : List (Option Value)} {st : List Value} {Q : State → Prop} {cc : ByteArray} {nL : Nat} {rm : Room} {ret : Option FieldType} (C : gx_C w X cc nL RX12 rm ret) (hm : gx_m S) (hd : decode cc pc = .ok (.getfield 17, 3)) (kk : gx_G w X S n1 n2 (pc + 3) L (.ref (ad (w_b w) 1003) :: st) Q) : gx_G w X S n1 n2 pc L (.ref (ad (w_b w) 1000) :: st) Q := fgr_X12_17 C rfl (m_z hm rfl) (hm.1 1104 1003 rfl) hd kk
theorem mg_20 {w : Wd} {X : FX} {S : St} {n1 n2 pc : Nat} {L : List (Option Value)} {st : List Value} {Q : State → Prop} {cc : ByteArray} {nL : Nat} {rm : Room} {ret : Option FieldType} (C : gx_C w X cc nL RX12 rm ret) (hm : gx_m S) (hd : decode cc pc = .ok (.getfield 20, 3)) (kk : gx_G w X S n1 n2 (pc + 3) L (.ref (ad (w_b w) 1004) :: st) Q) : gx_G w X S n1 n2 pc L (.ref (ad (w_b w) 1000) :: st) Q := fgr_X12_20 C rfl (m_z hm rfl) (hm.1 1105 1004 rfl) hd kk
theorem mg_23 {w : Wd} {X : FX} {S : St} {n1 n2 pc : Nat} {L : List (Option Value)} {st : List Value} {Q : State → Prop} {cc : ByteArray} {nL : Nat} {rm : Room} {ret : Option FieldType} (C : gx_C w X cc nL RX12 rm ret) (hm : gx_m S) (hd : decode cc pc = .ok (.getfield 23, 3)) (kk : gx_G w X S n1 n2 (pc + 3) L (.ref (ad (w_b w) 1005) :: st) Q) : gx_G w X S n1 n2 pc L (.ref (ad (w_b w) 1000) :: st) Q := fgr_X12_23 C rfl (m_z hm rfl) (hm.1 1106 1005 rfl) hd kk
theorem mg_26 {w : Wd} {X : FX} {S : St} {n1 n2 pc : Nat} {L : List (Option Value)} {st : List Value} {Q : State → Prop} {cc : ByteArray} {nL : Nat} {rm : Room} {ret : Option FieldType} (C : gx_C w X cc nL RX12 rm ret) (hm : gx_m S) (hd : decode cc pc = .ok (.getfield 26, 3)) (kk : gx_G w X S n1 n2 (pc + 3) L (.ref (ad (w_b w) 1006) :: st) Q) : gx_G w X S n1 n2 pc L (.ref (ad (w_b w) 1000) :: st) Q := fgr_X12_26 C rfl (m_z hm rfl) (hm.1 1107 1006 rfl) hd kk
theorem mg_29 {w : Wd} {X : FX} {S : St} {n1 n2 pc : Nat} {L : List (Option Value)} {st : List Value} {Q : State → Prop} {cc : ByteArray} {nL : Nat} {rm : Room} {ret : Option FieldType} (C : gx_C w X cc nL RX12 rm ret) (hm : gx_m S) (hd : decode cc pc = .ok (.getfield 29, 3)) (kk : gx_G w X S n1 n2 (pc + 3) L (.ref (ad (w_b w) 1007) :: st) Q) : gx_G w X S n1 n2 pc L (.ref (ad (w_b w) 1000) :: st) Q := fgr_X12_29 C rfl (m_z hm rfl) (hm.1 1115 1007 rfl) hd kk
theorem mg_32 {w : Wd} {X : FX} {S : St} {n1 n2 pc : Nat} {L : List (Option Value)} {st : List Value} {Q : State → Prop} {cc : ByteArray} {nL : Nat} {rm : Room} {ret : Option FieldType} (C : gx_C w X cc nL RX12 rm ret) (hm : gx_m S) (hd : decode cc pc = .ok (.getfield 32, 3)) (kk : gx_G w X S n1 n2 (pc + 3) L (.ref (ad (w_b w) 1008) :: st) Q) : gx_G w X S n1 n2 pc L (.ref (ad (w_b w) 1000) :: st) Q := fgr_X12_32 C rfl (m_z hm rfl) (hm.1 1117 1008 rfl) hd kk
theorem mg_36 {w : Wd} {X : FX} {S : St} {n1 n2 pc : Nat} {L : List (Option Value)} {st : List Value} {Q : State → Prop} {cc : ByteArray} {nL : Nat} {rm : Room} {ret : Option FieldType} (C : gx_C w X cc nL RX12 rm ret) (hm : gx_m S) (hd : decode cc pc = .ok (.getfield 36, 3)) (kk : gx_G w X S n1 n2 (pc + 3) L (.ref (ad (w_b w) 1009) :: st) Q) : gx_G w X S n1 n2 pc L (.ref (ad (w_b w) 1000) :: st) Q := fgr_X12_36 C rfl (m_z hm rfl) (hm.1 1119 1009 rfl) hd kk
theorem mg_39 {w : Wd} {X : FX} {S : St} {n1 n2 pc : Nat} {L : List (Option Value)} {st : List Value} {Q : State → Prop} {cc : ByteArray} {nL : Nat} {rm : Room} {ret : Option FieldType} (C : gx_C w X cc nL RX12 rm ret) (hm : gx_m S) (hd : decode cc pc = .ok (.getfield 39, 3)) (kk : gx_G w X S n1 n2 (pc + 3) L (.ref (ad (w_b w) 1010) :: st) Q) : gx_G w X S n1 n2 pc L (.ref (ad (w_b w) 1000) :: st) Q := fgr_X12_39 C rfl (m_z hm rfl) (hm.1 1120 1010 rfl) hd kk
theorem mg_42 {w : Wd} {X : FX} {S : St} {n1 n2 pc : Nat} {L : List (Option Value)} {st : List Value} {Q : State → Prop} {cc : ByteArray} {nL : Nat} {rm : Room} {ret : Option FieldType} (C : gx_C w X cc nL RX12 rm ret) (hm : gx_m S) (hd : decode cc pc = .ok (.getfield 42, 3)) (kk : gx_G w X S n1 n2 (pc + 3) L (.int (s_I S 1121 1000) :: st) Q) : gx_G w X S n1 n2 pc L (.ref (ad (w_b w) 1000) :: st) Q := fg_X12_42 C rfl (m_z hm rfl) hd kk
theorem mp_42 {w : Wd} {X : FX} {S : St} {n1 n2 pc : Nat} {L : List (Option Value)} {st : List Value} {Q : State → Prop} {cc : ByteArray} {nL : Nat} {rm : Room} {ret : Option FieldType} (C : gx_C w X cc nL RX12 rm ret) (hm : gx_m S) {v : Int32} (hd : decode cc pc = .ok (.putfield 42, 3)) (kk : gx_G w X (s_setI S 1121 1000 v) n1 n2 (pc + 3) L st Q) : gx_G w X S n1 n2 pc L (.int v :: .ref (ad (w_b w) 1000) :: st) Q := fp_X12_42 C rfl (m_z hm rfl) hd kk
theorem mg_46 {w : Wd} {X : FX} {S : St} {n1 n2 pc : Nat} {L : List (Option Value)} {st : List Value} {Q : State → Prop} {cc : ByteArray} {nL : Nat} {rm : Room} {ret : Option FieldType} (C : gx_C w X cc nL RX12 rm ret) (hm : gx_m S) (hd : decode cc pc = .ok (.getfield 46, 3)) (kk : gx_G w X S n1 n2 (pc + 3) L (.ref (ad (w_b w) 1011) :: st) Q) : gx_G w X S n1 n2 pc L (.ref (ad (w_b w) 1000) :: st) Q := fgr_X12_46 C rfl (m_z hm rfl) (hm.1 1124 1011 rfl) hd kk
theorem mg_49 {w : Wd} {X : FX} {S : St} {n1 n2 pc : Nat} {L : List (Option Value)} {st : List Value} {Q : State → Prop} {cc : ByteArray} {nL : Nat} {rm : Room} {ret : Option FieldType} (C : gx_C w X cc nL RX12 rm ret) (hm : gx_m S) (hd : decode cc pc = .ok (.getfield 49, 3)) (kk : gx_G w X S n1 n2 (pc + 3) L (.ref (ad (w_b w) 1012) :: st) Q) : gx_G w X S n1 n2 pc L (.ref (ad (w_b w) 1000) :: st) Q := fgr_X12_49 C rfl (m_z hm rfl) (hm.1 1126 1012 rfl) hd kk
theorem mg_52 {w : Wd} {X : FX} {S : St} {n1 n2 pc : Nat} {L : List (Option Value)} {st : List Value} {Q : State → Prop} {cc : ByteArray} {nL : Nat} {rm : Room} {ret : Option FieldType} (C : gx_C w X cc nL RX12 rm ret) (hm : gx_m S) (hd : decode cc pc = .ok (.getfield 52, 3)) (kk : gx_G w X S n1 n2 (pc + 3) L (.ref (ad (w_b w) 1013) :: st) Q) : gx_G w X S n1 n2 pc L (.ref (ad (w_b w) 1000) :: st) Q := fgr_X12_52 C rfl (m_z hm rfl) (hm.1 1127 1013 rfl) hd kk
theorem mg_55 {w : Wd} {X : FX} {S : St} {n1 n2 pc : Nat} {L : List (Option Value)} {st : List Value} {Q : State → Prop} {cc : ByteArray} {nL : Nat} {rm : Room} {ret : Option FieldType} (C : gx_C w X cc nL RX12 rm ret) (hm : gx_m S) (hd : decode cc pc = .ok (.getfield 55, 3)) (kk : gx_G w X S n1 n2 (pc + 3) L (.ref (ad (w_b w) 1014) :: st) Q) : gx_G w X S n1 n2 pc L (.ref (ad (w_b w) 1000) :: st) Q := fgr_X12_55 C rfl (m_z hm rfl) (hm.1 1128 1014 rfl) hd kk
theorem mg_58 {w : Wd} {X : FX} {S : St} {n1 n2 pc : Nat} {L : List (Option Value)} {st : List Value} {Q : State → Prop} {cc : ByteArray} {nL : Nat} {rm : Room} {ret : Option FieldType} (C : gx_C w X cc nL RX12 rm ret) (hm : gx_m S) (hd : decode cc pc = .ok (.getfield 58, 3)) (kk : gx_G w X S n1 n2 (pc + 3) L (.ref (ad (w_b w) 1015) :: st) Q) : gx_G w X S n1 n2 pc L (.ref (ad (w_b w) 1000) :: st) Q := fgr_X12_58 C rfl (m_z hm rfl) (hm.1 1129 1015 rfl) hd kk
theorem mg_61 {w : Wd} {X : FX} {S : St} {n1 n2 pc : Nat} {L : List (Option Value)} {st : List Value} {Q : State → Prop} {cc : ByteArray} {nL : Nat} {rm : Room} {ret : Option FieldType} (C : gx_C w X cc nL RX12 rm ret) (hm : gx_m S) (hd : decode cc pc = .ok (.getfield 61, 3)) (kk : gx_G w X S n1 n2 (pc + 3) L (.ref (ad (w_b w) 1016) :: st) Q) : gx_G w X S n1 n2 pc L (.ref (ad (w_b w) 1000) :: st) Q := fgr_X12_61 C rfl (m_z hm rfl) (hm.1 1130 1016 rfl) hd kk
theorem mg_65 {w : Wd} {X : FX} {S : St} {n1 n2 pc : Nat} {L : List (Option Value)} {st : List Value} {Q : State → Prop} {cc : ByteArray} {nL : Nat} {rm : Room} {ret : Option FieldType} (C : gx_C w X cc nL RX12 rm ret) (hm : gx_m S) (hd : decode cc pc = .ok (.getfield 65, 3)) (kk : gx_G w X S n1 n2 (pc + 3) L (.ref (ad (w_b w) 1017) :: st) Q) : gx_G w X S n1 n2 pc L (.ref (ad (w_b w) 1000) :: st) Q := fgr_X12_65 C rfl (m_z hm rfl) (hm.1 1131 1017 rfl) hd kk
theorem mg_68 {w : Wd} {X : FX} {S : St} {n1 n2 pc : Nat} {L : List (Option Value)} {st : List Value} {Q : State → Prop} {cc : ByteArray} {nL : Nat} {rm : Room} {ret : Option FieldType} (C : gx_C w X cc nL RX12 rm ret) (hm : gx_m S) (hd : decode cc pc = .ok (.getfield 68, 3)) (kk : gx_G w X S n1 n2 (pc + 3) L (.ref (ad (w_b w) 1018) :: st) Q) : gx_G w X S n1 n2 pc L (.ref (ad (w_b w) 1000) :: st) Q := fgr_X12_68 C rfl (m_z hm rfl) (hm.1 1132 1018 rfl) hd kk
theorem mg_71 {w : Wd} {X : FX} {S : St} {n1 n2 pc : Nat} {L : List (Option Value)} {st : List Value} {Q : State → Prop} {cc : ByteArray} {nL : Nat} {rm : Room} {ret : Option FieldType} (C : gx_C w X cc nL RX12 rm ret) (hm : gx_m S) (hd : decode cc pc = .ok (.getfield 71, 3)) (kk : gx_G w X S n1 n2 (pc + 3) L (.ref (ad (w_b w) 1019) :: st) Q) : gx_G w X S n1 n2 pc L (.ref (ad (w_b w) 1000) :: st) Q := fgr_X12_71 C rfl (m_z hm rfl) (hm.1 1134 1019 rfl) hd kk
theorem mg_74 {w : Wd} {X : FX} {S : St} {n1 n2 pc : Nat} {L : List (Option Value)} {st : List Value} {Q : State → Prop} {cc : ByteArray} {nL : Nat} {rm : Room} {ret : Option FieldType} (C : gx_C w X cc nL RX12 rm ret) (hm : gx_m S) (hd : decode cc pc = .ok (.getfield 74, 3)) (kk : gx_G w X S n1 n2 (pc + 3) L (.ref (ad (w_b w) 1020) :: st) Q) : gx_G w X S n1 n2 pc L (.ref (ad (w_b w) 1000) :: st) Q := fgr_X12_74 C rfl (m_z hm rfl) (hm.1 1135 1020 rfl) hd kk
theorem mg_77 {w : Wd} {X : FX} {S : St} {n1 n2 pc : Nat} {L : List (Option Value)} {st : List Value} {Q : State → Prop} {cc : ByteArray} {nL : Nat} {rm : Room} {ret : Option FieldType} (C : gx_C w X cc nL RX12 rm ret) (hm : gx_m S) (hd : decode cc pc = .ok (.getfield 77, 3)) (kk : gx_G w X S n1 n2 (pc + 3) L (.ref (ad (w_b w) 1021) :: st) Q) : gx_G w X S n1 n2 pc L (.ref (ad (w_b w) 1000) :: st) Q := fgr_X12_77 C rfl (m_z hm rfl) (hm.1 1136 1021 rfl) hd kk
theorem mg_80 {w : Wd} {X : FX} {S : St} {n1 n2 pc : Nat} {L : List (Option Value)} {st : List Value} {Q : State → Prop} {cc : ByteArray} {nL : Nat} {rm : Room} {ret : Option FieldType} (C : gx_C w X cc nL RX12 rm ret) (hm : gx_m S) (hd : decode cc pc = .ok (.getfield 80, 3)) (kk : gx_G w X S n1 n2 (pc + 3) L (.ref (ad (w_b w) 1022) :: st) Q) : gx_G w X S n1 n2 pc L (.ref (ad (w_b w) 1000) :: st) Q := fgr_X12_80 C rfl (m_z hm rfl) (hm.1 1138 1022 rfl) hd kk
theorem mg_83 {w : Wd} {X : FX} {S : St} {n1 n2 pc : Nat} {L : List (Option Value)} {st : List Value} {Q : State → Prop} {cc : ByteArray} {nL : Nat} {rm : Room} {ret : Option FieldType} (C : gx_C w X cc nL RX12 rm ret) (hm : gx_m S) (hd : decode cc pc = .ok (.getfield 83, 3)) (kk : gx_G w X S n1 n2 (pc + 3) L (.ref (ad (w_b w) 1023) :: st) Q) : gx_G w X S n1 n2 pc L (.ref (ad (w_b w) 1000) :: st) Q := fgr_X12_83 C rfl (m_z hm rfl) (hm.1 1139 1023 rfl) hd kk
theorem mg_86 {w : Wd} {X : FX} {S : St} {n1 n2 pc : Nat} {L : List (Option Value)} {st : List Value} {Q : State → Prop} {cc : ByteArray} {nL : Nat} {rm : Room} {ret : Option FieldType} (C : gx_C w X cc nL RX12 rm ret) (hm : gx_m S) (hd : decode cc pc = .ok (.getfield 86, 3)) (kk : gx_G w X S n1 n2 (pc + 3) L (.ref (ad (w_b w) 1024) :: st) Q) : gx_G w X S n1 n2 pc L (.ref (ad (w_b w) 1000) :: st) Q := fgr_X12_86 C rfl (m_z hm rfl) (hm.1 1140 1024 rfl) hd kk
theorem mg_89 {w : Wd} {X : FX} {S : St} {n1 n2 pc : Nat} {L : List (Option Value)} {st : List Value} {Q : State → Prop} {cc : ByteArray} {nL : Nat} {rm : Room} {ret : Option FieldType} (C : gx_C w X cc nL RX12 rm ret) (hm : gx_m S) (hd : decode cc pc = .ok (.getfield 89, 3)) (kk : gx_G w X S n1 n2 (pc + 3) L (.ref (ad (w_b w) 1025) :: st) Q) : gx_G w X S n1 n2 pc L (.ref (ad (w_b w) 1000) :: st) Q := fgr_X12_89 C rfl (m_z hm rfl) (hm.1 1141 1025 rfl) hd kk
theorem mg_92 {w : Wd} {X : FX} {S : St} {n1 n2 pc : Nat} {L : List (Option Value)} {st : List Value} {Q : State → Prop} {cc : ByteArray} {nL : Nat} {rm : Room} {ret : Option FieldType} (C : gx_C w X cc nL RX12 rm ret) (hm : gx_m S) (hd : decode cc pc = .ok (.getfield 92, 3)) (kk : gx_G w X S n1 n2 (pc + 3) L (.int (s_I S 1101 1000) :: st) Q) : gx_G w X S n1 n2 pc L (.ref (ad (w_b w) 1000) :: st) Q := fg_X12_92 C rfl (m_z hm rfl) hd kk
theorem mp_92 {w : Wd} {X : FX} {S : St} {n1 n2 pc : Nat} {L : List (Option Value)} {st : List Value} {Q : State → Prop} {cc : ByteArray} {nL : Nat} {rm : Room} {ret : Option FieldType} (C : gx_C w X cc nL RX12 rm ret) (hm : gx_m S) {v : Int32} (hd : decode cc pc = .ok (.putfield 92, 3)) (kk : gx_G w X (s_setI S 1101 1000 v) n1 n2 (pc + 3) L st Q) : gx_G w X S n1 n2 pc L (.int v :: .ref (ad (w_b w) 1000) :: st) Q := fp_X12_92 C rfl (m_z hm rfl) hd kk
theorem mg_99 {w : Wd} {X : FX} {S : St} {n1 n2 pc : Nat} {L : List (Option Value)} {st : List Value} {Q : State → Prop} {cc : ByteArray} {nL : Nat} {rm : Room} {ret : Option FieldType} (C : gx_C w X cc nL RX12 rm ret) (hm : gx_m S) (hd : decode cc pc = .ok (.getfield 99, 3)) (kk : gx_G w X S n1 n2 (pc + 3) L (.int (s_I S 1109 1000) :: st) Q) : gx_G w X S n1 n2 pc L (.ref (ad (w_b w) 1000) :: st) Q := fg_X12_99 C rfl (m_z hm rfl) hd kk
theorem mp_99 {w : Wd} {X : FX} {S : St} {n1 n2 pc : Nat} {L : List (Option Value)} {st : List Value} {Q : State → Prop} {cc : ByteArray} {nL : Nat} {rm : Room} {ret : Option FieldType} (C : gx_C w X cc nL RX12 rm ret) (hm : gx_m S) {v : Int32} (hd : decode cc pc = .ok (.putfield 99, 3)) (kk : gx_G w X (s_setI S 1109 1000 v) n1 n2 (pc + 3) L st Q) : gx_G w X S n1 n2 pc L (.int v :: .ref (ad (w_b w) 1000) :: st) Q := fp_X12_99 C rfl (m_z hm rfl) hd kk
theorem mg_102 {w : Wd} {X : FX} {S : St} {n1 n2 pc : Nat} {L : List (Option Value)} {st : List Value} {Q : State → Prop} {cc : ByteArray} {nL : Nat} {rm : Room} {ret : Option FieldType} (C : gx_C w X cc nL RX12 rm ret) (hm : gx_m S) (hd : decode cc pc = .ok (.getfield 102, 3)) (kk : gx_G w X S n1 n2 (pc + 3) L (.int (s_I S 1108 1000) :: st) Q) : gx_G w X S n1 n2 pc L (.ref (ad (w_b w) 1000) :: st) Q := fg_X12_102 C rfl (m_z hm rfl) hd kk
theorem mp_102 {w : Wd} {X : FX} {S : St} {n1 n2 pc : Nat} {L : List (Option Value)} {st : List Value} {Q : State → Prop} {cc : ByteArray} {nL : Nat} {rm : Room} {ret : Option FieldType} (C : gx_C w X cc nL RX12 rm ret) (hm : gx_m S) {v : Int32} (hd : decode cc pc = .ok (.putfield 102, 3)) (kk : gx_G w X (s_setI S 1108 1000 v) n1 n2 (pc + 3) L st Q) : gx_G w X S n1 n2 pc L (.int v :: .ref (ad (w_b w) 1000) :: st) Q := fp_X12_102 C rfl (m_z hm rfl) hd kk
theorem mg_127 {w : Wd} {X : FX} {S : St} {n1 n2 pc : Nat} {L : List (Option Value)} {st : List Value} {Q : State → Prop} {cc : ByteArray} {nL : Nat} {rm : Room} {ret : Option FieldType} (C : gx_C w X cc nL RX12 rm ret) (hm : gx_m S) (hd : decode cc pc = .ok (.getfield 127, 3)) (kk : gx_G w X S n1 n2 (pc + 3) L (.int (s_I S 1110 1000) :: st) Q) : gx_G w X S n1 n2 pc L (.ref (ad (w_b w) 1000) :: st) Q := fg_X12_127 C rfl (m_z hm rfl) hd kk
theorem mp_127 {w : Wd} {X : FX} {S : St} {n1 n2 pc : Nat} {L : List (Option Value)} {st : List Value} {Q : State → Prop} {cc : ByteArray} {nL : Nat} {rm : Room} {ret : Option FieldType} (C : gx_C w X cc nL RX12 rm ret) (hm : gx_m S) {v : Int32} (hd : decode cc pc = .ok (.putfield 127, 3)) (kk : gx_G w X (s_setI S 1110 1000 v) n1 n2 (pc + 3) L st Q) : gx_G w X S n1 n2 pc L (.int v :: .ref (ad (w_b w) 1000) :: st) Q := fp_X12_127 C rfl (m_z hm rfl) hd kk
theorem mg_158 {w : Wd} {X : FX} {S : St} {n1 n2 pc : Nat} {L : List (Option Value)} {st : List Value} {Q : State → Prop} {cc : ByteArray} {nL : Nat} {rm : Room} {ret : Option FieldType} (C : gx_C w X cc nL RX12 rm ret) (hm : gx_m S) (hd : decode cc pc = .ok (.getfield 158, 3)) (kk : gx_G w X S n1 n2 (pc + 3) L (.int (s_I S 1111 1000) :: st) Q) : gx_G w X S n1 n2 pc L (.ref (ad (w_b w) 1000) :: st) Q := fg_X12_158 C rfl (m_z hm rfl) hd kk
theorem mp_158 {w : Wd} {X : FX} {S : St} {n1 n2 pc : Nat} {L : List (Option Value)} {st : List Value} {Q : State → Prop} {cc : ByteArray} {nL : Nat} {rm : Room} {ret : Option FieldType} (C : gx_C w X cc nL RX12 rm ret) (hm : gx_m S) {v : Int32} (hd : decode cc pc = .ok (.putfield 158, 3)) (kk : gx_G w X (s_setI S 1111 1000 v) n1 n2 (pc + 3) L st Q) : gx_G w X S n1 n2 pc L (.int v :: .ref (ad (w_b w) 1000) :: st) Q := fp_X12_158 C rfl (m_z hm rfl) hd kk
theorem mg_161 {w : Wd} {X : FX} {S : St} {n1 n2 pc : Nat} {L : List (Option Value)} {st : List Value} {Q : State → Prop} {cc : ByteArray} {nL : Nat} {rm : Room} {ret : Option FieldType} (C : gx_C w X cc nL RX12 rm ret) (hm : gx_m S) (hd : decode cc pc = .ok (.getfield 161, 3)) (kk : gx_G w X S n1 n2 (pc + 3) L (.int (s_I S 1112 1000) :: st) Q) : gx_G w X S n1 n2 pc L (.ref (ad (w_b w) 1000) :: st) Q := fg_X12_161 C rfl (m_z hm rfl) hd kk
theorem mp_161 {w : Wd} {X : FX} {S : St} {n1 n2 pc : Nat} {L : List (Option Value)} {st : List Value} {Q : State → Prop} {cc : ByteArray} {nL : Nat} {rm : Room} {ret : Option FieldType} (C : gx_C w X cc nL RX12 rm ret) (hm : gx_m S) {v : Int32} (hd : decode cc pc = .ok (.putfield 161, 3)) (kk : gx_G w X (s_setI S 1112 1000 v) n1 n2 (pc + 3) L st Q) : gx_G w X S n1 n2 pc L (.int v :: .ref (ad (w_b w) 1000) :: st) Q := fp_X12_161 C rfl (m_z hm rfl) hd kk
theorem mg_164 {w : Wd} {X : FX} {S : St} {n1 n2 pc : Nat} {L : List (Option Value)} {st : List Value} {Q : State → Prop} {cc : ByteArray} {nL : Nat} {rm : Room} {ret : Option FieldType} (C : gx_C w X cc nL RX12 rm ret) (hm : gx_m S) (hd : decode cc pc = .ok (.getfield 164, 3)) (kk : gx_G w X S n1 n2 (pc + 3) L (.int (s_I S 1113 1000) :: st) Q) : gx_G w X S n1 n2 pc L (.ref (ad (w_b w) 1000) :: st) Q := fg_X12_164 C rfl (m_z hm rfl) hd kk
theorem mp_164 {w : Wd} {X : FX} {S : St} {n1 n2 pc : Nat} {L : List (Option Value)} {st : List Value} {Q : State → Prop} {cc : ByteArray} {nL : Nat} {rm : Room} {ret : Option FieldType} (C : gx_C w X cc nL RX12 rm ret) (hm : gx_m S) {v : Int32} (hd : decode cc pc = .ok (.putfield 164, 3)) (kk : gx_G w X (s_setI S 1113 1000 v) n1 n2 (pc + 3) L st Q) : gx_G w X S n1 n2 pc L (.int v :: .ref (ad (w_b w) 1000) :: st) Q := fp_X12_164 C rfl (m_z hm rfl) hd kk
theorem mg_167 {w : Wd} {X : FX} {S : St} {n1 n2 pc : Nat} {L : List (Option Value)} {st : List Value} {Q : State → Prop} {cc : ByteArray} {nL : Nat} {rm : Room} {ret : Option FieldType} (C : gx_C w X cc nL RX12 rm ret) (hm : gx_m S) (hd : decode cc pc = .ok (.getfield 167, 3)) (kk : gx_G w X S n1 n2 (pc + 3) L (.int (s_I S 1116 1000) :: st) Q) : gx_G w X S n1 n2 pc L (.ref (ad (w_b w) 1000) :: st) Q := fg_X12_167 C rfl (m_z hm rfl) hd kk
theorem mp_167 {w : Wd} {X : FX} {S : St} {n1 n2 pc : Nat} {L : List (Option Value)} {st : List Value} {Q : State → Prop} {cc : ByteArray} {nL : Nat} {rm : Room} {ret : Option FieldType} (C : gx_C w X cc nL RX12 rm ret) (hm : gx_m S) {v : Int32} (hd : decode cc pc = .ok (.putfield 167, 3)) (kk : gx_G w X (s_setI S 1116 1000 v) n1 n2 (pc + 3) L st Q) : gx_G w X S n1 n2 pc L (.int v :: .ref (ad (w_b w) 1000) :: st) Q := fp_X12_167 C rfl (m_z hm rfl) hd kk
theorem mg_258 {w : Wd} {X : FX} {S : St} {n1 n2 pc : Nat} {L : List (Option Value)} {st : List Value} {Q : State → Prop} {cc : ByteArray} {nL : Nat} {rm : Room} {ret : Option FieldType} (C : gx_C w X cc nL RX12 rm ret) (hm : gx_m S) (hd : decode cc pc = .ok (.getfield 258, 3)) (kk : gx_G w X S n1 n2 (pc + 3) L (.int (s_I S 1114 1000) :: st) Q) : gx_G w X S n1 n2 pc L (.ref (ad (w_b w) 1000) :: st) Q := fg_X12_258 C rfl (m_z hm rfl) hd kk
theorem mp_258 {w : Wd} {X : FX} {S : St} {n1 n2 pc : Nat} {L : List (Option Value)} {st : List Value} {Q : State → Prop} {cc : ByteArray} {nL : Nat} {rm : Room} {ret : Option FieldType} (C : gx_C w X cc nL RX12 rm ret) (hm : gx_m S) {v : Int32} (hd : decode cc pc = .ok (.putfield 258, 3)) (kk : gx_G w X (s_setI S 1114 1000 v) n1 n2 (pc + 3) L st Q) : gx_G w X S n1 n2 pc L (.int v :: .ref (ad (w_b w) 1000) :: st) Q := fp_X12_258 C rfl (m_z hm rfl) hd kk
theorem mg_270 {w : Wd} {X : FX} {S : St} {n1 n2 pc : Nat} {L : List (Option Value)} {st : List Value} {Q : State → Prop} {cc : ByteArray} {nL : Nat} {rm : Room} {ret : Option FieldType} (C : gx_C w X cc nL RX12 rm ret) (hm : gx_m S) (hd : decode cc pc = .ok (.getfield 270, 3)) (kk : gx_G w X S n1 n2 (pc + 3) L (.int (s_I S 1102 1000) :: st) Q) : gx_G w X S n1 n2 pc L (.ref (ad (w_b w) 1000) :: st) Q := fg_X12_270 C rfl (m_z hm rfl) hd kk
theorem mp_270 {w : Wd} {X : FX} {S : St} {n1 n2 pc : Nat} {L : List (Option Value)} {st : List Value} {Q : State → Prop} {cc : ByteArray} {nL : Nat} {rm : Room} {ret : Option FieldType} (C : gx_C w X cc nL RX12 rm ret) (hm : gx_m S) {v : Int32} (hd : decode cc pc = .ok (.putfield 270, 3)) (kk : gx_G w X (s_setI S 1102 1000 v) n1 n2 (pc + 3) L st Q) : gx_G w X S n1 n2 pc L (.int v :: .ref (ad (w_b w) 1000) :: st) Q := fp_X12_270 C rfl (m_z hm rfl) hd kk
theorem mg_279 {w : Wd} {X : FX} {S : St} {n1 n2 pc : Nat} {L : List (Option Value)} {st : List Value} {Q : State → Prop} {cc : ByteArray} {nL : Nat} {rm : Room} {ret : Option FieldType} (C : gx_C w X cc nL RX12 rm ret) (hm : gx_m S) (hd : decode cc pc = .ok (.getfield 279, 3)) (kk : gx_G w X S n1 n2 (pc + 3) L (.int (s_I S 1125 1000) :: st) Q) : gx_G w X S n1 n2 pc L (.ref (ad (w_b w) 1000) :: st) Q := fg_X12_279 C rfl (m_z hm rfl) hd kk
theorem mp_279 {w : Wd} {X : FX} {S : St} {n1 n2 pc : Nat} {L : List (Option Value)} {st : List Value} {Q : State → Prop} {cc : ByteArray} {nL : Nat} {rm : Room} {ret : Option FieldType} (C : gx_C w X cc nL RX12 rm ret) (hm : gx_m S) {v : Int32} (hd : decode cc pc = .ok (.putfield 279, 3)) (kk : gx_G w X (s_setI S 1125 1000 v) n1 n2 (pc + 3) L st Q) : gx_G w X S n1 n2 pc L (.int v :: .ref (ad (w_b w) 1000) :: st) Q := fp_X12_279 C rfl (m_z hm rfl) hd kk
theorem mg_282 {w : Wd} {X : FX} {S : St} {n1 n2 pc : Nat} {L : List (Option Value)} {st : List Value} {Q : State → Prop} {cc : ByteArray} {nL : Nat} {rm : Room} {ret : Option FieldType} (C : gx_C w X cc nL RX12 rm ret) (hm : gx_m S) (hd : decode cc pc = .ok (.getfield 282, 3)) (kk : gx_G w X S n1 n2 (pc + 3) L (.int (s_I S 1118 1000) :: st) Q) : gx_G w X S n1 n2 pc L (.ref (ad (w_b w) 1000) :: st) Q := fg_X12_282 C rfl (m_z hm rfl) hd kk
theorem mp_282 {w : Wd} {X : FX} {S : St} {n1 n2 pc : Nat} {L : List (Option Value)} {st : List Value} {Q : State → Prop} {cc : ByteArray} {nL : Nat} {rm : Room} {ret : Option FieldType} (C : gx_C w X cc nL RX12 rm ret) (hm : gx_m S) {v : Int32} (hd : decode cc pc = .ok (.putfield 282, 3)) (kk : gx_G w X (s_setI S 1118 1000 v) n1 n2 (pc + 3) L st Q) : gx_G w X S n1 n2 pc L (.int v :: .ref (ad (w_b w) 1000) :: st) Q := fp_X12_282 C rfl (m_z hm rfl) hd kk
theorem mg_300 {w : Wd} {X : FX} {S : St} {n1 n2 pc : Nat} {L : List (Option Value)} {st : List Value} {Q : State → Prop} {cc : ByteArray} {nL : Nat} {rm : Room} {ret : Option FieldType} (C : gx_C w X cc nL RX12 rm ret) (hm : gx_m S) (hd : decode cc pc = .ok (.getfield 300, 3)) (kk : gx_G w X S n1 n2 (pc + 3) L (.int (s_I S 1123 1000) :: st) Q) : gx_G w X S n1 n2 pc L (.ref (ad (w_b w) 1000) :: st) Q := fg_X12_300 C rfl (m_z hm rfl) hd kk
theorem mp_300 {w : Wd} {X : FX} {S : St} {n1 n2 pc : Nat} {L : List (Option Value)} {st : List Value} {Q : State → Prop} {cc : ByteArray} {nL : Nat} {rm : Room} {ret : Option FieldType} (C : gx_C w X cc nL RX12 rm ret) (hm : gx_m S) {v : Int32} (hv : v = 0 ∨ v = 1) (hd : decode cc pc = .ok (.putfield 300, 3)) (kk : gx_G w X (s_setI S 1123 1000 v) n1 n2 (pc + 3) L st Q) : gx_G w X S n1 n2 pc L (.int v :: .ref (ad (w_b w) 1000) :: st) Q := fp_X12_300 C rfl (m_z hm rfl) hv hd kk
theorem mg_403 {w : Wd} {X : FX} {S : St} {n1 n2 pc : Nat} {L : List (Option Value)} {st : List Value} {Q : State → Prop} {cc : ByteArray} {nL : Nat} {rm : Room} {ret : Option FieldType} (C : gx_C w X cc nL RX12 rm ret) (hm : gx_m S) (hd : decode cc pc = .ok (.getfield 403, 3)) (kk : gx_G w X S n1 n2 (pc + 3) L (.int (s_I S 1133 1000) :: st) Q) : gx_G w X S n1 n2 pc L (.ref (ad (w_b w) 1000) :: st) Q := fg_X12_403 C rfl (m_z hm rfl) hd kk
theorem mp_403 {w : Wd} {X : FX} {S : St} {n1 n2 pc : Nat} {L : List (Option Value)} {st : List Value} {Q : State → Prop} {cc : ByteArray} {nL : Nat} {rm : Room} {ret : Option FieldType} (C : gx_C w X cc nL RX12 rm ret) (hm : gx_m S) {v : Int32} (hd : decode cc pc = .ok (.putfield 403, 3)) (kk : gx_G w X (s_setI S 1133 1000 v) n1 n2 (pc + 3) L st Q) : gx_G w X S n1 n2 pc L (.int v :: .ref (ad (w_b w) 1000) :: st) Q := fp_X12_403 C rfl (m_z hm rfl) hd kk
theorem mg_437 {w : Wd} {X : FX} {S : St} {n1 n2 pc : Nat} {L : List (Option Value)} {st : List Value} {Q : State → Prop} {cc : ByteArray} {nL : Nat} {rm : Room} {ret : Option FieldType} (C : gx_C w X cc nL RX12 rm ret) (hm : gx_m S) (hd : decode cc pc = .ok (.getfield 437, 3)) (kk : gx_G w X S n1 n2 (pc + 3) L (.int (s_I S 1122 1000) :: st) Q) : gx_G w X S n1 n2 pc L (.ref (ad (w_b w) 1000) :: st) Q := fg_X12_437 C rfl (m_z hm rfl) hd kk
theorem mp_437 {w : Wd} {X : FX} {S : St} {n1 n2 pc : Nat} {L : List (Option Value)} {st : List Value} {Q : State → Prop} {cc : ByteArray} {nL : Nat} {rm : Room} {ret : Option FieldType} (C : gx_C w X cc nL RX12 rm ret) (hm : gx_m S) {v : Int32} (hd : decode cc pc = .ok (.putfield 437, 3)) (kk : gx_G w X (s_setI S 1122 1000 v) n1 n2 (pc + 3) L st Q) : gx_G w X S n1 n2 pc L (.int v :: .ref (ad (w_b w) 1000) :: st) Q := fp_X12_437 C rfl (m_z hm rfl) hd kk
theorem mg_440 {w : Wd} {X : FX} {S : St} {n1 n2 pc : Nat} {L : List (Option Value)} {st : List Value} {Q : State → Prop} {cc : ByteArray} {nL : Nat} {rm : Room} {ret : Option FieldType} (C : gx_C w X cc nL RX12 rm ret) (hm : gx_m S) (hd : decode cc pc = .ok (.getfield 440, 3)) (kk : gx_G w X S n1 n2 (pc + 3) L (.long (s_L S 1137 1000) :: st) Q) : gx_G w X S n1 n2 pc L (.ref (ad (w_b w) 1000) :: st) Q := fg_X12_440 C rfl (m_z hm rfl) hd kk
theorem mp_440 {w : Wd} {X : FX} {S : St} {n1 n2 pc : Nat} {L : List (Option Value)} {st : List Value} {Q : State → Prop} {cc : ByteArray} {nL : Nat} {rm : Room} {ret : Option FieldType} (C : gx_C w X cc nL RX12 rm ret) (hm : gx_m S) {v : Int64} (hd : decode cc pc = .ok (.putfield 440, 3)) (kk : gx_G w X (s_setL S 1137 1000 v) n1 n2 (pc + 3) L st Q) : gx_G w X S n1 n2 pc L (.long v :: .ref (ad (w_b w) 1000) :: st) Q := fp_X12_440 C rfl (m_z hm rfl) hd kk
/-! ===== rooms ===== -/
def rmX0_add : Room := { frames := 6, cells := 0, slots := 0, locals := 120 }
def rmX0_burden : Room := { frames := 6, cells := 0, slots := 0, locals := 120 }
def rmX0_clear : Room := { frames := 6, cells := 0, slots := 0, locals := 120 }
def rmX0_everybody : Room := { frames := 6, cells := 0, slots := 0, locals := 120 }
def rmX0_extra : Room := { frames := 7, cells := 0, slots := 0, locals := 141 }
def rmX0_extraAmong : Room := { frames := 6, cells := 0, slots := 0, locals := 120 }
def rmX0_has : Room := { frames := 6, cells := 0, slots := 0, locals := 120 }
def rmX0_hasAll : Room := { frames := 7, cells := 0, slots := 0, locals := 140 }
def rmX0_init : Room := { frames := 6, cells := 0, slots := 0, locals := 120 }
def rmX0_isFog : Room := { frames := 6, cells := 0, slots := 0, locals := 120 }
def rmX0_lightOf : Room := { frames := 6, cells := 0, slots := 0, locals := 120 }
def rmX0_setExtra : Room := { frames := 7, cells := 0, slots := 0, locals := 141 }
def rmX10_add : Room := { frames := 6, cells := 0, slots := 0, locals := 120 }
def rmX10_at : Room := { frames := 6, cells := 0, slots := 0, locals := 120 }
def rmX10_init : Room := { frames := 6, cells := 0, slots := 0, locals := 120 }
def rmX11_ahead : Room := { frames := 13, cells := 0, slots := 0, locals := 295 }
def rmX11_back : Room := { frames := 8, cells := 0, slots := 0, locals := 162 }
def rmX11_beside : Room := { frames := 8, cells := 0, slots := 0, locals := 163 }
def rmX11_count : Room := { frames := 8, cells := 0, slots := 0, locals := 161 }
def rmX11_cross : Room := { frames := 10, cells := 0, slots := 0, locals := 216 }
def rmX11_end : Room := { frames := 6, cells := 0, slots := 0, locals := 120 }
def rmX11_fare : Room := { frames := 9, cells := 0, slots := 0, locals := 182 }
def rmX11_feed : Room := { frames := 7, cells := 0, slots := 0, locals := 142 }
def rmX11_ferry : Room := { frames := 12, cells := 0, slots := 0, locals := 263 }
def rmX11_fewest : Room := { frames := 10, cells := 0, slots := 0, locals := 221 }
def rmX11_firstBit : Room := { frames := 6, cells := 0, slots := 0, locals := 120 }
def rmX11_fogs : Room := { frames := 12, cells := 0, slots := 0, locals := 278 }
def rmX11_force : Room := { frames := 6, cells := 0, slots := 0, locals := 120 }
def rmX11_forgetActs : Room := { frames := 6, cells := 0, slots := 0, locals := 120 }
def rmX11_image : Room := { frames := 8, cells := 0, slots := 0, locals := 162 }
def rmX11_init : Room := { frames := 8, cells := 0, slots := 0, locals := 162 }
def rmX11_lies : Room := { frames := 13, cells := 0, slots := 0, locals := 299 }
def rmX11_lighten : Room := { frames := 9, cells := 0, slots := 0, locals := 194 }
def rmX11_look : Room := { frames := 13, cells := 0, slots := 0, locals := 299 }
def rmX11_most : Room := { frames := 12, cells := 0, slots := 0, locals := 259 }
def rmX11_never : Room := { frames := 12, cells := 0, slots := 0, locals := 258 }
def rmX11_note : Room := { frames := 7, cells := 0, slots := 0, locals := 143 }
def rmX11_over : Room := { frames := 12, cells := 0, slots := 0, locals := 271 }
def rmX11_person : Room := { frames := 7, cells := 0, slots := 0, locals := 141 }
def rmX11_rememberAct : Room := { frames := 7, cells := 0, slots := 0, locals := 141 }
def rmX11_row : Room := { frames := 10, cells := 0, slots := 0, locals := 210 }
def rmX11_rule : Room := { frames := 15, cells := 0, slots := 0, locals := 324 }
def rmX11_ruleInForce : Room := { frames := 7, cells := 0, slots := 0, locals := 142 }
def rmX11_ruled : Room := { frames := 13, cells := 0, slots := 0, locals := 297 }
def rmX11_seed : Room := { frames := 6, cells := 0, slots := 0, locals := 120 }
def rmX11_soothe : Room := { frames := 13, cells := 0, slots := 0, locals := 297 }
def rmX11_stay : Room := { frames := 11, cells := 0, slots := 0, locals := 236 }
def rmX11_talk : Room := { frames := 8, cells := 0, slots := 0, locals := 161 }
def rmX11_toss : Room := { frames := 8, cells := 0, slots := 0, locals := 161 }
def rmX11_trip : Room := { frames := 11, cells := 0, slots := 0, locals := 248 }
def rmX11_undo : Room := { frames := 7, cells := 0, slots := 0, locals := 141 }
def rmX11_waits : Room := { frames := 12, cells := 0, slots := 0, locals := 274 }
def rmX11_weight : Room := { frames := 9, cells := 0, slots := 0, locals := 192 }
def rmX11_within : Room := { frames := 6, cells := 0, slots := 0, locals := 120 }
def rmX12_ahead : Room := { frames := 13, cells := 0, slots := 0, locals := 282 }
def rmX12_aimsOf : Room := { frames := 8, cells := 0, slots := 0, locals := 163 }
def rmX12_alikeAt : Room := { frames := 6, cells := 0, slots := 0, locals := 120 }
def rmX12_areNotesSo : Room := { frames := 6, cells := 0, slots := 0, locals := 120 }
def rmX12_atMost : Room := { frames := 6, cells := 0, slots := 0, locals := 120 }
def rmX12_back : Room := { frames := 7, cells := 0, slots := 0, locals := 145 }
def rmX12_begins : Room := { frames := 6, cells := 0, slots := 0, locals := 120 }
def rmX12_beside : Room := { frames := 7, cells := 0, slots := 0, locals := 142 }
def rmX12_besideOf : Room := { frames := 6, cells := 0, slots := 0, locals := 120 }
def rmX12_bits : Room := { frames := 6, cells := 0, slots := 0, locals := 120 }
def rmX12_canBoard : Room := { frames := 10, cells := 0, slots := 0, locals := 210 }
def rmX12_canCross : Room := { frames := 11, cells := 0, slots := 0, locals := 231 }
def rmX12_cellHere : Room := { frames := 8, cells := 0, slots := 0, locals := 169 }
def rmX12_clauseHere : Room := { frames := 16, cells := 0, slots := 0, locals := 339 }
def rmX12_closes : Room := { frames := 8, cells := 0, slots := 0, locals := 163 }
def rmX12_compare : Room := { frames := 12, cells := 0, slots := 0, locals := 250 }
def rmX12_count : Room := { frames := 7, cells := 0, slots := 0, locals := 143 }
def rmX12_cross : Room := { frames := 11, cells := 0, slots := 0, locals := 233 }
def rmX12_draw : Room := { frames := 6, cells := 0, slots := 0, locals := 120 }
def rmX12_end : Room := { frames := 6, cells := 0, slots := 0, locals := 120 }
def rmX12_fact : Room := { frames := 13, cells := 0, slots := 0, locals := 274 }
def rmX12_fails : Room := { frames := 6, cells := 0, slots := 0, locals := 120 }
def rmX12_fare : Room := { frames := 9, cells := 0, slots := 0, locals := 187 }
def rmX12_feed : Room := { frames := 7, cells := 0, slots := 0, locals := 142 }
def rmX12_ferry : Room := { frames := 18, cells := 0, slots := 0, locals := 382 }
def rmX12_ferryLineHere : Room := { frames := 10, cells := 0, slots := 0, locals := 215 }
def rmX12_fewest : Room := { frames := 10, cells := 0, slots := 0, locals := 214 }
def rmX12_fillsFits : Room := { frames := 13, cells := 0, slots := 0, locals := 282 }
def rmX12_fillsNeeds : Room := { frames := 9, cells := 0, slots := 0, locals := 188 }
def rmX12_findsRow : Room := { frames := 8, cells := 0, slots := 0, locals := 165 }
def rmX12_fogs : Room := { frames := 13, cells := 0, slots := 0, locals := 282 }
def rmX12_force : Room := { frames := 7, cells := 0, slots := 0, locals := 141 }
def rmX12_four : Room := { frames := 6, cells := 0, slots := 0, locals := 120 }
def rmX12_goesOver : Room := { frames := 10, cells := 0, slots := 0, locals := 210 }
def rmX12_grown : Room := { frames := 7, cells := 0, slots := 0, locals := 141 }
def rmX12_image : Room := { frames := 7, cells := 0, slots := 0, locals := 145 }
def rmX12_in : Room := { frames := 6, cells := 0, slots := 0, locals := 120 }
def rmX12_init : Room := { frames := 6, cells := 0, slots := 0, locals := 120 }
def rmX12_isBesideHere : Room := { frames := 9, cells := 0, slots := 0, locals := 192 }
def rmX12_isBoardHere : Room := { frames := 15, cells := 0, slots := 0, locals := 318 }
def rmX12_isCrossing : Room := { frames := 6, cells := 0, slots := 0, locals := 120 }
def rmX12_isDigit : Room := { frames := 6, cells := 0, slots := 0, locals := 120 }
def rmX12_isFerryHere : Room := { frames := 9, cells := 0, slots := 0, locals := 192 }
def rmX12_isFerryWord : Room := { frames := 8, cells := 0, slots := 0, locals := 166 }
def rmX12_isFog : Room := { frames := 6, cells := 0, slots := 0, locals := 120 }
def rmX12_isFogHere : Room := { frames := 8, cells := 0, slots := 0, locals := 169 }
def rmX12_isInside : Room := { frames := 6, cells := 0, slots := 0, locals := 120 }
def rmX12_isLetter : Room := { frames := 6, cells := 0, slots := 0, locals := 120 }
def rmX12_isOf : Room := { frames := 6, cells := 0, slots := 0, locals := 120 }
def rmX12_isOneHere : Room := { frames := 9, cells := 0, slots := 0, locals := 192 }
def rmX12_isPerson : Room := { frames := 6, cells := 0, slots := 0, locals := 120 }
def rmX12_isRule : Room := { frames := 6, cells := 0, slots := 0, locals := 120 }
def rmX12_isSet : Room := { frames := 7, cells := 0, slots := 0, locals := 140 }
def rmX12_isUsed : Room := { frames := 6, cells := 0, slots := 0, locals := 120 }
def rmX12_isWord : Room := { frames := 7, cells := 0, slots := 0, locals := 141 }
def rmX12_keeps : Room := { frames := 6, cells := 0, slots := 0, locals := 120 }
def rmX12_keepsAct : Room := { frames := 6, cells := 0, slots := 0, locals := 120 }
def rmX12_keepsRow : Room := { frames := 7, cells := 0, slots := 0, locals := 142 }
def rmX12_laysBack : Room := { frames := 6, cells := 0, slots := 0, locals := 120 }
def rmX12_lies : Room := { frames := 13, cells := 0, slots := 0, locals := 282 }
def rmX12_lightOf : Room := { frames := 7, cells := 0, slots := 0, locals := 141 }
def rmX12_lighten : Room := { frames := 9, cells := 0, slots := 0, locals := 188 }
def rmX12_look : Room := { frames := 14, cells := 0, slots := 0, locals := 308 }
def rmX12_makes : Room := { frames := 7, cells := 0, slots := 0, locals := 142 }
def rmX12_most : Room := { frames := 12, cells := 0, slots := 0, locals := 252 }
def rmX12_never : Room := { frames := 12, cells := 0, slots := 0, locals := 252 }
def rmX12_nextAboard : Room := { frames := 11, cells := 0, slots := 0, locals := 233 }
def rmX12_note : Room := { frames := 7, cells := 0, slots := 0, locals := 145 }
def rmX12_numberHere : Room := { frames := 7, cells := 0, slots := 0, locals := 145 }
def rmX12_onSide : Room := { frames := 6, cells := 0, slots := 0, locals := 120 }
def rmX12_one : Room := { frames := 6, cells := 0, slots := 0, locals := 120 }
def rmX12_opens : Room := { frames := 7, cells := 0, slots := 0, locals := 142 }
def rmX12_over : Room := { frames := 13, cells := 0, slots := 0, locals := 282 }
def rmX12_overIn : Room := { frames := 13, cells := 0, slots := 0, locals := 282 }
def rmX12_passWord : Room := { frames := 7, cells := 0, slots := 0, locals := 141 }
def rmX12_passes : Room := { frames := 12, cells := 0, slots := 0, locals := 260 }
def rmX12_person : Room := { frames := 7, cells := 0, slots := 0, locals := 141 }
def rmX12_placeBy : Room := { frames := 6, cells := 0, slots := 0, locals := 120 }
def rmX12_pop : Room := { frames := 6, cells := 0, slots := 0, locals := 120 }
def rmX12_push : Room := { frames := 6, cells := 0, slots := 0, locals := 120 }
def rmX12_puts : Room := { frames := 6, cells := 0, slots := 0, locals := 120 }
def rmX12_readsAll : Room := { frames := 17, cells := 0, slots := 0, locals := 361 }
def rmX12_reckons : Room := { frames := 7, cells := 0, slots := 0, locals := 144 }
def rmX12_row : Room := { frames := 9, cells := 0, slots := 0, locals := 188 }
def rmX12_rule : Room := { frames := 18, cells := 0, slots := 0, locals := 382 }
def rmX12_ruled : Room := { frames := 14, cells := 0, slots := 0, locals := 308 }
def rmX12_see : Room := { frames := 6, cells := 0, slots := 0, locals := 120 }
def rmX12_seed : Room := { frames := 6, cells := 0, slots := 0, locals := 120 }
def rmX12_settles : Room := { frames := 7, cells := 0, slots := 0, locals := 142 }
def rmX12_soothe : Room := { frames := 14, cells := 0, slots := 0, locals := 304 }
def rmX12_stay : Room := { frames := 10, cells := 0, slots := 0, locals := 210 }
def rmX12_strength : Room := { frames := 6, cells := 0, slots := 0, locals := 120 }
def rmX12_sum : Room := { frames := 11, cells := 0, slots := 0, locals := 229 }
def rmX12_sumOf : Room := { frames := 10, cells := 0, slots := 0, locals := 210 }
def rmX12_summedBy : Room := { frames := 8, cells := 0, slots := 0, locals := 174 }
def rmX12_takesOne : Room := { frames := 8, cells := 0, slots := 0, locals := 163 }
def rmX12_takesWord : Room := { frames := 8, cells := 0, slots := 0, locals := 166 }
def rmX12_talk : Room := { frames := 7, cells := 0, slots := 0, locals := 145 }
def rmX12_term : Room := { frames := 10, cells := 0, slots := 0, locals := 208 }
def rmX12_tested : Room := { frames := 14, cells := 0, slots := 0, locals := 296 }
def rmX12_toss : Room := { frames := 7, cells := 0, slots := 0, locals := 145 }
def rmX12_trip : Room := { frames := 13, cells := 0, slots := 0, locals := 282 }
def rmX12_twosOf : Room := { frames := 7, cells := 0, slots := 0, locals := 142 }
def rmX12_undo : Room := { frames := 6, cells := 0, slots := 0, locals := 120 }
def rmX12_value : Room := { frames := 9, cells := 0, slots := 0, locals := 186 }
def rmX12_waits : Room := { frames := 13, cells := 0, slots := 0, locals := 282 }
def rmX12_weighs : Room := { frames := 8, cells := 0, slots := 0, locals := 164 }
def rmX12_weight : Room := { frames := 10, cells := 0, slots := 0, locals := 210 }
def rmX12_weightOf : Room := { frames := 9, cells := 0, slots := 0, locals := 188 }
def rmX12_wordHere : Room := { frames := 8, cells := 0, slots := 0, locals := 166 }
def rmX1_init : Room := { frames := 7, cells := 0, slots := 0, locals := 141 }
def rmX1_read : Room := { frames := 11, cells := 0, slots := 0, locals := 240 }
def rmX1_readBeside : Room := { frames := 9, cells := 0, slots := 0, locals := 190 }
def rmX1_readBoat : Room := { frames := 9, cells := 0, slots := 0, locals := 190 }
def rmX1_readClause : Room := { frames := 10, cells := 0, slots := 0, locals := 216 }
def rmX1_readCork : Room := { frames := 9, cells := 0, slots := 0, locals := 190 }
def rmX1_readFog : Room := { frames := 9, cells := 0, slots := 0, locals := 190 }
def rmX1_readPerson : Room := { frames := 9, cells := 0, slots := 0, locals := 190 }
def rmX2_after : Room := { frames := 12, cells := 0, slots := 0, locals := 272 }
def rmX2_drawFogs : Room := { frames := 11, cells := 0, slots := 0, locals := 248 }
def rmX2_findSoothed : Room := { frames := 12, cells := 0, slots := 0, locals := 272 }
def rmX2_hourAboard : Room := { frames := 11, cells := 0, slots := 0, locals := 248 }
def rmX2_hourAllOver : Room := { frames := 11, cells := 0, slots := 0, locals := 248 }
def rmX2_init : Room := { frames := 7, cells := 0, slots := 0, locals := 140 }
def rmX2_isSo : Room := { frames := 11, cells := 0, slots := 0, locals := 248 }
def rmX2_part : Room := { frames := 12, cells := 0, slots := 0, locals := 272 }
def rmX2_rulesThatAreSo : Room := { frames := 12, cells := 0, slots := 0, locals := 272 }
def rmX2_sailOn : Room := { frames := 11, cells := 0, slots := 0, locals := 248 }
def rmX2_steadyWays : Room := { frames := 12, cells := 0, slots := 0, locals := 272 }
def rmX3_fullWith : Room := { frames := 7, cells := 0, slots := 0, locals := 144 }
def rmX3_init : Room := { frames := 6, cells := 0, slots := 0, locals := 120 }
def rmX3_nextAboard : Room := { frames := 9, cells := 0, slots := 0, locals := 192 }
def rmX3_sail : Room := { frames := 10, cells := 0, slots := 0, locals := 222 }
def rmX3_sumOf : Room := { frames := 8, cells := 0, slots := 0, locals := 170 }
def rmX3_tellAll : Room := { frames := 6, cells := 0, slots := 0, locals := 120 }
def rmX4_begin : Room := { frames := 8, cells := 0, slots := 0, locals := 161 }
def rmX4_bestToStay : Room := { frames := 10, cells := 0, slots := 0, locals := 213 }
def rmX4_fareOf : Room := { frames := 6, cells := 0, slots := 0, locals := 120 }
def rmX4_fewestCrossings : Room := { frames := 9, cells := 0, slots := 0, locals := 193 }
def rmX4_fillFits : Room := { frames := 8, cells := 0, slots := 0, locals := 169 }
def rmX4_findRow : Room := { frames := 9, cells := 0, slots := 0, locals := 189 }
def rmX4_firstSetOf : Room := { frames := 6, cells := 0, slots := 0, locals := 120 }
def rmX4_init : Room := { frames := 7, cells := 0, slots := 0, locals := 140 }
def rmX4_isSafe : Room := { frames := 10, cells := 0, slots := 0, locals := 215 }
def rmX4_largestSafeSet : Room := { frames := 11, cells := 0, slots := 0, locals := 236 }
def rmX4_leastFrom : Room := { frames := 6, cells := 0, slots := 0, locals := 120 }
def rmX4_leastThrown : Room := { frames := 8, cells := 0, slots := 0, locals := 169 }
def rmX4_neverSafe : Room := { frames := 11, cells := 0, slots := 0, locals := 236 }
def rmX4_tryRow : Room := { frames := 8, cells := 0, slots := 0, locals := 163 }
def rmX4_weightWithout : Room := { frames := 9, cells := 0, slots := 0, locals := 192 }
def rmX5_allow : Room := { frames := 6, cells := 0, slots := 0, locals := 120 }
def rmX5_goesOn : Room := { frames := 9, cells := 0, slots := 0, locals := 184 }
def rmX5_init : Room := { frames := 6, cells := 0, slots := 0, locals := 120 }
def rmX5_isDigit : Room := { frames := 6, cells := 0, slots := 0, locals := 120 }
def rmX5_skipBlanks : Room := { frames := 7, cells := 0, slots := 0, locals := 141 }
def rmX5_takeNumber : Room := { frames := 8, cells := 0, slots := 0, locals := 168 }
def rmX5_takeNumberHere : Room := { frames := 7, cells := 0, slots := 0, locals := 143 }
def rmX5_takeSign : Room := { frames := 8, cells := 0, slots := 0, locals := 162 }
def rmX5_takeWord : Room := { frames := 8, cells := 0, slots := 0, locals := 164 }
def rmX5_takeWordHere : Room := { frames := 7, cells := 0, slots := 0, locals := 141 }
def rmX6_allOver : Room := { frames := 7, cells := 0, slots := 0, locals := 140 }
def rmX6_areHere : Room := { frames := 8, cells := 0, slots := 0, locals := 161 }
def rmX6_begin : Room := { frames := 6, cells := 0, slots := 0, locals := 120 }
def rmX6_canBoard : Room := { frames := 9, cells := 0, slots := 0, locals := 192 }
def rmX6_carry : Room := { frames := 9, cells := 0, slots := 0, locals := 192 }
def rmX6_copyFrom : Room := { frames := 6, cells := 0, slots := 0, locals := 120 }
def rmX6_fullWeight : Room := { frames := 7, cells := 0, slots := 0, locals := 144 }
def rmX6_grow : Room := { frames := 6, cells := 0, slots := 0, locals := 120 }
def rmX6_here : Room := { frames := 7, cells := 0, slots := 0, locals := 140 }
def rmX6_init : Room := { frames := 6, cells := 0, slots := 0, locals := 120 }
def rmX6_sideOf : Room := { frames := 6, cells := 0, slots := 0, locals := 120 }
def rmX6_weigh : Room := { frames := 8, cells := 0, slots := 0, locals := 169 }
def rmX7_init : Room := { frames := 6, cells := 0, slots := 0, locals := 120 }
def rmX7_joined : Room := { frames := 6, cells := 0, slots := 0, locals := 120 }
def rmX7_needs : Room := { frames := 6, cells := 0, slots := 0, locals := 120 }
def rmX7_sumFor : Room := { frames := 7, cells := 0, slots := 0, locals := 144 }
def rmX8_countPart : Room := { frames := 7, cells := 0, slots := 0, locals := 143 }
def rmX8_init : Room := { frames := 7, cells := 0, slots := 0, locals := 141 }
def rmX8_made : Room := { frames := 7, cells := 0, slots := 0, locals := 141 }
def rmX8_operation : Room := { frames := 6, cells := 0, slots := 0, locals := 120 }
def rmX8_put : Room := { frames := 6, cells := 0, slots := 0, locals := 120 }
def rmX8_read : Room := { frames := 14, cells := 0, slots := 0, locals := 302 }
def rmX8_readClause : Room := { frames := 13, cells := 0, slots := 0, locals := 280 }
def rmX8_readFact : Room := { frames := 10, cells := 0, slots := 0, locals := 213 }
def rmX8_readPart : Room := { frames := 11, cells := 0, slots := 0, locals := 236 }
def rmX8_readSum : Room := { frames := 9, cells := 0, slots := 0, locals := 190 }
def rmX8_readTest : Room := { frames := 12, cells := 0, slots := 0, locals := 258 }
def rmX8_readValue : Room := { frames := 8, cells := 0, slots := 0, locals := 168 }
def rmX8_takeComparison : Room := { frames := 8, cells := 0, slots := 0, locals := 164 }
def rmX8_valueWord : Room := { frames := 6, cells := 0, slots := 0, locals := 120 }
def rmX9_addNote : Room := { frames := 6, cells := 0, slots := 0, locals := 120 }
def rmX9_agrees : Room := { frames := 7, cells := 0, slots := 0, locals := 141 }
def rmX9_begin : Room := { frames := 7, cells := 0, slots := 0, locals := 141 }
def rmX9_copyFrom : Room := { frames := 7, cells := 0, slots := 0, locals := 141 }
def rmX9_init : Room := { frames := 7, cells := 0, slots := 0, locals := 140 }
def rmX9_isFog : Room := { frames := 7, cells := 0, slots := 0, locals := 141 }
def rmX9_lastNoted : Room := { frames := 6, cells := 0, slots := 0, locals := 120 }
