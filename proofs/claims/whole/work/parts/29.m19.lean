/-! ===== the reference: fare ===== -/
def alikeP (said : Nat → Int32) (P s : Nat) : Prop := aimsF said s False P = 0
def fAll (said : Nat → Int32) (P s : Nat) : Int32 := if aimsF said s False P = 0 then nI (popN s) else aimsF said s False P
def fOwn (said : Nat → Int32) (P s p : Nat) : Int32 := if aimsF said s False P = 0 then nI 1 else said (14 + p)
def remF (x y : Int32) : Int32 := x - x / y * y
def fLeft (said : Nat → Int32) (P s : Nat) (much : Int32) : Nat → Int32
  | 0 => much
  | p + 1 => if s.testBit p = true then fLeft said P s much p - much * fOwn said P s p / fAll said P s else fLeft said P s much p
def fBef (said : Nat → Int32) (P s : Nat) (much : Int32) (q : Nat) : Nat → Int32
  | 0 => nI 0
  | p + 1 => if s.testBit p = true then fBef said P s much q p + (if remF (much * fOwn said P s q) (fAll said P s) < remF (much * fOwn said P s p) (fAll said P s) ∨ (remF (much * fOwn said P s p) (fAll said P s) = remF (much * fOwn said P s q) (fAll said P s) ∧ p < q) then nI 1 else nI 0) else fBef said P s much q p
def fareF (said : Nat → Int32) (P s : Nat) (much : Int32) (q : Nat) : Int32 := much * fOwn said P s q / fAll said P s + (if fBef said P s much q P < fLeft said P s much P then nI 1 else nI 0)
abbrev fareOK (said : Nat → Int32) (P : Nat) (x much p : Int32) : Prop := (said 0 = nI 1 ∧ 0 ≤ x ∧ x < nI (2 ^ P)) ∧ (0 ≤ p ∧ p < nI P) ∧ x.toNatClampNeg.testBit p.toNatClampNeg = true ∧ (nI 0 ≤ much ∧ much ≤ nI 9999)
theorem popN_pos : ∀ s, s < 128 → ∀ p, p < 7 → s.testBit p = true → 0 < popN s := by decide +kernel
theorem c_X12_fare (w : Wd) (l : Launch) (S : St) (hm : gx_m S) (P H : Nat) (hp : gx_p S P H) (x much p : Int32) : gx_M w l yX12_fare cX12_fare 13 (some .int) rmX12_fare [.ref (ad (w_b w) 1000), .int x, .int much, .int p] S (pI (if fareOK (s_A S 1010) P x much p then fareF (s_A S 1010) P x.toNatClampNeg much p.toNatClampNeg else -1) S) := by
  obtain ⟨hP, hP7, hH, hH2⟩ := id hp
  refine gx_start rfl 9 rfl (Nat.le_of_ble_eq_true rfl) ?_
  intro X C _ hl
  subst hl
  refine gx_L (L' := [_, _, _, _, _, _, _, _, _, _, _, _, _]) rfl ?_
  have bad : ∀ z4 z5 z6 z7 z8 z9 z10 z11 z12, ¬ fareOK (s_A S 1010) P x much p → gx_G w X S 0 0 36 [some (.ref (ad (w_b w) 1000)), some (.int x), some (.int much), some (.int p), z4, z5, z6, z7, z8, z9, z10, z11, z12] [] (gx_E w X (pI (if fareOK (s_A S 1010) P x much p then fareF (s_A S 1010) P x.toNatClampNeg much p.toNatClampNeg else -1) S)) := by
    intro z4 z5 z6 z7 z8 z9 z10 z11 z12 hb
    refine g_iconst (pc := 36) (v := -1) C dX12_fare_36 (by decide) ?_
    exact g_ireturn (pc := 37) C ⟨rfl, rfl⟩ dX12_fare_37 (⟨by rw [if_neg hb], rfl⟩)
  refine g_aload_n (pc := 0) C dX12_fare_0 rfl ?_
  refine g_iload_n (pc := 1) C dX12_fare_1 rfl ?_
  refine cf_X12_376 (pc := 2) C rfl (by exact m_z hm rfl) (c_X12_isSet _ _ _ hm P H hp _) ⟨rfl, rfl⟩ ⟨rfl, rfl⟩ ⟨Nat.zero_le _, Nat.zero_le _⟩ rfl (Nat.le_of_ble_eq_true rfl) dX12_fare_2 ?_
  refine g_if_eq (pc := 5) C 36 dX12_fare_5 rfl (fun h => ?_) (fun h => ?_)
  · exact bad _ _ _ _ _ _ _ _ _ (fun q => bI_0.mp h q.1)
  · have h := Decidable.not_not.mp (fun q => h (bI_0.mpr q))
    refine g_aload_n (pc := 8) C dX12_fare_8 rfl ?_
    refine g_iload_n (pc := 9) C dX12_fare_9 rfl ?_
    refine cf_X12_349 (pc := 10) C rfl (by exact m_z hm rfl) (c_X12_isPerson _ _ _ hm _) ⟨rfl, rfl⟩ ⟨rfl, rfl⟩ ⟨Nat.zero_le _, Nat.zero_le _⟩ rfl (Nat.le_of_ble_eq_true rfl) dX12_fare_10 ?_
    refine gx_ti (y := bI (0 ≤ p ∧ p < nI P)) (by rw [hP]) ?_
    refine g_if_eq (pc := 13) C 36 dX12_fare_13 rfl (fun h2 => ?_) (fun h2 => ?_)
    · exact bad _ _ _ _ _ _ _ _ _ (fun q => bI_0.mp h2 q.2.1)
    · have h2 := Decidable.not_not.mp (fun q => h2 (bI_0.mpr q))
      obtain ⟨s, -, hs, rfl, ec⟩ := set_of hP7 h.2
      obtain ⟨q, hq, rfl, ec2⟩ := person_of hP7 h2
      refine g_iload_n (pc := 16) C dX12_fare_16 rfl ?_
      refine g_iload_n (pc := 17) C dX12_fare_17 rfl ?_
      refine cf_X12_308 (pc := 18) C (c_X12_isOfN _ _ _ s q hs (by omega)) ⟨rfl, rfl⟩ ⟨rfl, rfl⟩ ⟨Nat.zero_le _, Nat.zero_le _⟩ rfl (Nat.le_of_ble_eq_true rfl) dX12_fare_18 ?_
      refine g_if_eq (pc := 21) C 36 dX12_fare_21 rfl (fun h3 => ?_) (fun h3 => ?_)
      · exact bad _ _ _ _ _ _ _ _ _ (fun z => bI_0.mp h3 (by have := z.2.2.1; rw [ec, ec2] at this; exact this))
      · have h3 := Decidable.not_not.mp (fun q => h3 (bI_0.mpr q))
        refine g_iload_n (pc := 24) C dX12_fare_24 rfl ?_
        refine g_i2l (pc := 25) C dX12_fare_25 ?_
        refine g_lconst (pc := 26) (v := 0) C dX12_fare_26 (by decide) ?_
        refine g_ldc2 (pc := 27) (v := 9999) C dX12_fare_27 kl_X12_419 ?_
        refine cf_X12_130 (pc := 30) C (c_X12_in32 _ _ _ _ (nI 0) (nI 9999) _ _ rfl rfl) ⟨rfl, rfl⟩ ⟨rfl, rfl⟩ ⟨Nat.zero_le _, Nat.zero_le _⟩ rfl (Nat.le_of_ble_eq_true rfl) dX12_fare_30 ?_
        refine g_if_ne (pc := 33) C 38 dX12_fare_33 rfl (fun h4 => ?_) (fun h4 => ?_)
        · have h4 := Decidable.not_not.mp (fun q => h4 (bI_0.mpr q))
          have hok : fareOK (s_A S 1010) P (nI s) much (nI q) := ⟨h, h2, by rw [ec, ec2]; exact h3, h4⟩
          rw [if_pos hok, ec, ec2]
          have hpos := popN_pos s hs q (by omega) h3
          have hple := popN_le s hs
          have hall : ¬ fAll (s_A S 1010) P s = 0 := by
            unfold fAll; split
            · exact nI_ne0 hpos (by omega)
            · rename_i e; exact e
          have main : ∀ (ak : Int32), ak = bI (aimsF (s_A S 1010) s False P = 0) → ∀ z6 z7 z8 z9 z10 z11 z12, gx_G w X S 0 0 69 [some (.ref (ad (w_b w) 1000)), some (.int (nI s)), some (.int much), some (.int (nI q)), some (.int (fAll (s_A S 1010) P s)), some (.int ak), z6, z7, z8, z9, z10, z11, z12] [] (gx_E w X (pI (fareF (s_A S 1010) P s much q) S)) := by
            intro ak hak z6 z7 z8 z9 z10 z11 z12
            have rest : ∀ z6 z7 z8 z9 z10 z11 z12, gx_G w X S 0 0 87 [some (.ref (ad (w_b w) 1000)), some (.int (nI s)), some (.int much), some (.int (nI q)), some (.int (fAll (s_A S 1010) P s)), some (.int ak), z6, z7, z8, z9, z10, z11, z12] [.int (fOwn (s_A S 1010) P s q)] (gx_E w X (pI (fareF (s_A S 1010) P s much q) S)) := by
              intro z6 z7 z8 z9 z10 z11 z12
              refine g_istore (pc := 87) (L' := [_, _, _, _, _, some (.int _), _, _, _, _, _, _, _]) C dX12_fare_87 rfl rfl ?_
              refine g_iload_n (pc := 89) C dX12_fare_89 rfl ?_
              refine g_iload (pc := 90) C dX12_fare_90 rfl ?_
              refine g_imul (pc := 92) C dX12_fare_92 ?_
              refine g_iload (pc := 93) C dX12_fare_93 rfl ?_
              refine g_irem (pc := 95) C dX12_fare_95 hall ?_
              refine g_istore (pc := 96) (L' := [_, _, _, _, _, _, some (.int _), _, _, _, _, _, _]) C dX12_fare_96 rfl rfl ?_
              refine g_iload_n (pc := 98) C dX12_fare_98 rfl ?_
              refine g_istore (pc := 99) (L' := [_, _, _, _, _, _, _, some (.int _), _, _, _, _, _]) C dX12_fare_99 rfl rfl ?_
              refine g_iconst (pc := 101) (v := nI 0) C dX12_fare_101 (by decide) ?_
              refine g_istore (pc := 102) (L' := [_, _, _, _, _, _, _, _, some (.int _), _, _, _, _]) C dX12_fare_102 rfl rfl ?_
              refine g_iconst (pc := 104) (v := nI 0) C dX12_fare_104 (by decide) ?_
              refine g_istore (pc := 105) (L' := [_, _, _, _, _, _, _, _, _, some (.int _), _, _, _]) C dX12_fare_105 rfl rfl ?_
              have loop : ∀ k i z11 z12, i + k = P → gx_G w X S 0 0 107 [some (.ref (ad (w_b w) 1000)), some (.int (nI s)), some (.int much), some (.int (nI q)), some (.int (fAll (s_A S 1010) P s)), some (.int ak), some (.int (fOwn (s_A S 1010) P s q)), some (.int (remF (much * fOwn (s_A S 1010) P s q) (fAll (s_A S 1010) P s))), some (.int (fLeft (s_A S 1010) P s much i)), some (.int (fBef (s_A S 1010) P s much q i)), some (.int (nI i)), z11, z12] [] (gx_E w X (pI (fareF (s_A S 1010) P s much q) S)) := by
                intro k
                induction k with
                | zero =>
                  intro i z11 z12 hi
                  have hi : i = P := hi
                  subst hi
                  refine g_iload (pc := 107) C dX12_fare_107 rfl ?_
                  refine g_aload_n (pc := 109) C dX12_fare_109 rfl ?_
                  refine mg_39 (pc := 110) C (by exact hm) dX12_fare_110 ?_
                  refine g_iconst (pc := 113) (v := nI 4) C dX12_fare_113 (by decide) ?_
                  refine n_iald (pc := 114) (k := 1010) (n := 190) C rfl rfl (by exact m_z hm rfl) isn_v rfl (by omega) dX12_fare_114 ?_
                  refine gx_ti hP ?_
                  refine g_icmp_ge (pc := 115) C 208 dX12_fare_115 rfl (fun h5 => ?_) (fun h5 => ?_)
                  · refine g_iload_n (pc := 208) C dX12_fare_208 rfl ?_
                    refine g_iload (pc := 209) C dX12_fare_209 rfl ?_
                    refine g_imul (pc := 211) C dX12_fare_211 ?_
                    refine g_iload (pc := 212) C dX12_fare_212 rfl ?_
                    refine g_idiv (pc := 214) C dX12_fare_214 hall ?_
                    refine g_iload (pc := 215) C dX12_fare_215 rfl ?_
                    refine g_iload (pc := 217) C dX12_fare_217 rfl ?_
                    refine g_icmp_ge (pc := 219) C 226 dX12_fare_219 rfl (fun h6 => ?_) (fun h6 => ?_)
                    · refine g_iconst (pc := 226) (v := nI 0) C dX12_fare_226 (by decide) ?_
                      refine g_iadd (pc := 227) C dX12_fare_227 ?_
                      exact g_ireturn (pc := 228) C ⟨rfl, rfl⟩ dX12_fare_228 ⟨by unfold fareF; rw [if_neg (Int32.not_lt.mpr h6)], rfl⟩
                    · refine g_iconst (pc := 222) (v := nI 1) C dX12_fare_222 (by decide) ?_
                      refine g_goto (pc := 223) C 227 dX12_fare_223 rfl ?_
                      refine g_iadd (pc := 227) C dX12_fare_227 ?_
                      exact g_ireturn (pc := 228) C ⟨rfl, rfl⟩ dX12_fare_228 ⟨by unfold fareF; rw [if_pos (Int32.not_le.mp h6)], rfl⟩
                  · exact absurd (nI_le (Nat.le_refl i) (by omega)) h5
                | succ k ih =>
                  intro i z11 z12 hi
                  refine g_iload (pc := 107) C dX12_fare_107 rfl ?_
                  refine g_aload_n (pc := 109) C dX12_fare_109 rfl ?_
                  refine mg_39 (pc := 110) C (by exact hm) dX12_fare_110 ?_
                  refine g_iconst (pc := 113) (v := nI 4) C dX12_fare_113 (by decide) ?_
                  refine n_iald (pc := 114) (k := 1010) (n := 190) C rfl rfl (by exact m_z hm rfl) isn_v rfl (by omega) dX12_fare_114 ?_
                  refine gx_ti hP ?_
                  refine g_icmp_ge (pc := 115) C 208 dX12_fare_115 rfl (fun h5 => ?_) (fun h5 => ?_)
                  · exact absurd h5 (nI_ge (by omega) (by omega))
                  · refine g_iload_n (pc := 118) C dX12_fare_118 rfl ?_
                    refine g_iload (pc := 119) C dX12_fare_119 rfl ?_
                    refine cf_X12_308 (pc := 121) C (c_X12_isOfN _ _ _ s i hs (by omega)) ⟨rfl, rfl⟩ ⟨rfl, rfl⟩ ⟨Nat.zero_le _, Nat.zero_le _⟩ rfl (Nat.le_of_ble_eq_true rfl) dX12_fare_121 ?_
                    refine g_if_ne (pc := 124) C 130 dX12_fare_124 rfl (fun h6 => ?_) (fun h6 => ?_)
                    · have h6 := Decidable.not_not.mp (fun q => h6 (bI_0.mpr q))
                      have body : ∀ z11 z12, gx_G w X S 0 0 149 [some (.ref (ad (w_b w) 1000)), some (.int (nI s)), some (.int much), some (.int (nI q)), some (.int (fAll (s_A S 1010) P s)), some (.int ak), some (.int (fOwn (s_A S 1010) P s q)), some (.int (remF (much * fOwn (s_A S 1010) P s q) (fAll (s_A S 1010) P s))), some (.int (fLeft (s_A S 1010) P s much i)), some (.int (fBef (s_A S 1010) P s much q i)), some (.int (nI i)), z11, z12] [.int (fOwn (s_A S 1010) P s i)] (gx_E w X (pI (fareF (s_A S 1010) P s much q) S)) := by
                        intro z11 z12
                        have last : ∀ (v : Int32), v = (if remF (much * fOwn (s_A S 1010) P s q) (fAll (s_A S 1010) P s) < remF (much * fOwn (s_A S 1010) P s i) (fAll (s_A S 1010) P s) ∨ (remF (much * fOwn (s_A S 1010) P s i) (fAll (s_A S 1010) P s) = remF (much * fOwn (s_A S 1010) P s q) (fAll (s_A S 1010) P s) ∧ i < q) then nI 1 else nI 0) → gx_G w X S 0 0 199 [some (.ref (ad (w_b w) 1000)), some (.int (nI s)), some (.int much), some (.int (nI q)), some (.int (fAll (s_A S 1010) P s)), some (.int ak), some (.int (fOwn (s_A S 1010) P s q)), some (.int (remF (much * fOwn (s_A S 1010) P s q) (fAll (s_A S 1010) P s))), some (.int (fLeft (s_A S 1010) P s much i - much * fOwn (s_A S 1010) P s i / fAll (s_A S 1010) P s)), some (.int (fBef (s_A S 1010) P s much q i)), some (.int (nI i)), some (.int (fOwn (s_A S 1010) P s i)), some (.int (remF (much * fOwn (s_A S 1010) P s i) (fAll (s_A S 1010) P s)))] [.int v, .int (fBef (s_A S 1010) P s much q i)] (gx_E w X (pI (fareF (s_A S 1010) P s much q) S)) := by
                          intro v hv
                          refine g_iadd (pc := 199) C dX12_fare_199 ?_
                          refine g_istore (pc := 200) (L' := [_, _, _, _, _, _, _, _, some (.int _), _, _, _, _]) C dX12_fare_200 rfl rfl ?_
                          refine g_iinc (pc := 202) (L' := [_, _, _, _, _, _, _, _, _, some (.int _), _, _, _]) C dX12_fare_202 rfl (nI_1 _) rfl ?_
                          refine g_goto (pc := 205) C 107 dX12_fare_205 rfl ?_
                          have := ih (i + 1) (some (.int (fOwn (s_A S 1010) P s i))) (some (.int (remF (much * fOwn (s_A S 1010) P s i) (fAll (s_A S 1010) P s)))) (by omega)
                          rw [show fLeft (s_A S 1010) P s much (i + 1) = fLeft (s_A S 1010) P s much i - much * fOwn (s_A S 1010) P s i / fAll (s_A S 1010) P s from if_pos h6, show fBef (s_A S 1010) P s much q (i + 1) = fBef (s_A S 1010) P s much q i + v from by simp only [fBef]; rw [if_pos h6, hv]] at this
                          exact this
                        refine g_istore (pc := 149) (L' := [_, _, _, _, _, _, _, _, _, _, some (.int _), _, _]) C dX12_fare_149 rfl rfl ?_
                        refine g_iload (pc := 151) C dX12_fare_151 rfl ?_
                        refine g_iload_n (pc := 153) C dX12_fare_153 rfl ?_
                        refine g_iload (pc := 154) C dX12_fare_154 rfl ?_
                        refine g_imul (pc := 156) C dX12_fare_156 ?_
                        refine g_iload (pc := 157) C dX12_fare_157 rfl ?_
                        refine g_idiv (pc := 159) C dX12_fare_159 hall ?_
                        refine g_isub (pc := 160) C dX12_fare_160 ?_
                        refine g_istore (pc := 161) (L' := [_, _, _, _, _, _, _, some (.int _), _, _, _, _, _]) C dX12_fare_161 rfl rfl ?_
                        refine g_iload_n (pc := 163) C dX12_fare_163 rfl ?_
                        refine g_iload (pc := 164) C dX12_fare_164 rfl ?_
                        refine g_imul (pc := 166) C dX12_fare_166 ?_
                        refine g_iload (pc := 167) C dX12_fare_167 rfl ?_
                        refine g_irem (pc := 169) C dX12_fare_169 hall ?_
                        refine g_istore (pc := 170) (L' := [_, _, _, _, _, _, _, _, _, _, _, some (.int _), _]) C dX12_fare_170 rfl rfl ?_
                        refine g_iload (pc := 172) C dX12_fare_172 rfl ?_
                        refine g_iload (pc := 174) C dX12_fare_174 rfl ?_
                        refine g_iload (pc := 176) C dX12_fare_176 rfl ?_
                        refine g_icmp_gt (pc := 178) C 194 dX12_fare_178 rfl (fun h7 => ?_) (fun h7 => ?_)
                        · have h7 : remF (much * fOwn (s_A S 1010) P s q) (fAll (s_A S 1010) P s) < remF (much * fOwn (s_A S 1010) P s i) (fAll (s_A S 1010) P s) := h7
                          refine g_iconst (pc := 194) (v := nI 1) C dX12_fare_194 (by decide) ?_
                          refine g_goto (pc := 195) C 199 dX12_fare_195 rfl ?_
                          exact last _ (by rw [if_pos (Or.inl h7)])
                        · have h7 : ¬ remF (much * fOwn (s_A S 1010) P s q) (fAll (s_A S 1010) P s) < remF (much * fOwn (s_A S 1010) P s i) (fAll (s_A S 1010) P s) := h7
                          refine g_iload (pc := 181) C dX12_fare_181 rfl ?_
                          refine g_iload (pc := 183) C dX12_fare_183 rfl ?_
                          refine g_icmp_ne (pc := 185) C 198 dX12_fare_185 rfl (fun h8 => ?_) (fun h8 => ?_)
                          · have h8 : ¬ remF (much * fOwn (s_A S 1010) P s i) (fAll (s_A S 1010) P s) = remF (much * fOwn (s_A S 1010) P s q) (fAll (s_A S 1010) P s) := h8
                            refine g_iconst (pc := 198) (v := nI 0) C dX12_fare_198 (by decide) ?_
                            exact last _ (by rw [if_neg (fun z => z.elim h7 (fun y => h8 y.1))])
                          · have h8 : remF (much * fOwn (s_A S 1010) P s i) (fAll (s_A S 1010) P s) = remF (much * fOwn (s_A S 1010) P s q) (fAll (s_A S 1010) P s) := Decidable.not_not.mp h8
                            refine g_iload (pc := 188) C dX12_fare_188 rfl ?_
                            refine g_iload_n (pc := 190) C dX12_fare_190 rfl ?_
                            refine g_icmp_ge (pc := 191) C 198 dX12_fare_191 rfl (fun h9 => ?_) (fun h9 => ?_)
                            · have h9 : ¬ i < q := fun z => absurd h9 (nI_ge z (by omega))
                              refine g_iconst (pc := 198) (v := nI 0) C dX12_fare_198 (by decide) ?_
                              exact last _ (by rw [if_neg (fun z => z.elim h7 (fun y => h9 y.2))])
                            · have h9 : i < q := Nat.lt_of_not_le (fun z => h9 (nI_le z (by omega)))
                              refine g_iconst (pc := 194) (v := nI 1) C dX12_fare_194 (by decide) ?_
                              refine g_goto (pc := 195) C 199 dX12_fare_195 rfl ?_
                              exact last _ (by rw [if_pos (Or.inr ⟨h8, h9⟩)])
                      refine g_iload (pc := 130) C dX12_fare_130 rfl ?_
                      refine g_if_eq (pc := 132) C 139 dX12_fare_132 rfl (fun h7 => ?_) (fun h7 => ?_)
                      · have h7 : ¬ aimsF (s_A S 1010) s False P = 0 := bI_0.mp (by rw [← hak]; exact h7)
                        refine g_aload_n (pc := 139) C dX12_fare_139 rfl ?_
                        refine mg_39 (pc := 140) C (by exact hm) dX12_fare_140 ?_
                        refine g_bipush (pc := 143) (v := nI 14) C dX12_fare_143 (by decide) ?_
                        refine g_iload (pc := 145) C dX12_fare_145 rfl ?_
                        refine g_iadd (pc := 147) C dX12_fare_147 ?_
                        refine n_iald (pc := 148) (k := 1010) (n := 190) C rfl rfl (by exact m_z hm rfl) (isn_add isn_v isn_v) rfl (by omega) dX12_fare_148 ?_
                        refine gx_ti (y := fOwn (s_A S 1010) P s i) (by unfold fOwn; rw [if_neg h7]) ?_
                        exact body _ _
                      · have h7 : aimsF (s_A S 1010) s False P = 0 := Decidable.not_not.mp (fun q => h7 (by rw [hak]; exact bI_0.mpr q))
                        refine g_iconst (pc := 135) (v := nI 1) C dX12_fare_135 (by decide) ?_
                        refine g_goto (pc := 136) C 149 dX12_fare_136 rfl ?_
                        refine gx_ti (y := fOwn (s_A S 1010) P s i) (by unfold fOwn; rw [if_pos h7]) ?_
                        exact body _ _
                    · have h6 := bI_0.mp (Decidable.not_not.mp h6)
                      refine g_goto (pc := 127) C 202 dX12_fare_127 rfl ?_
                      refine g_iinc (pc := 202) (L' := [_, _, _, _, _, _, _, _, _, some (.int _), _, _, _]) C dX12_fare_202 rfl (nI_1 _) rfl ?_
                      refine g_goto (pc := 205) C 107 dX12_fare_205 rfl ?_
                      have := ih (i + 1) z11 z12 (by omega)
                      rw [show fLeft (s_A S 1010) P s much (i + 1) = fLeft (s_A S 1010) P s much i from if_neg h6, show fBef (s_A S 1010) P s much q (i + 1) = fBef (s_A S 1010) P s much q i from if_neg h6] at this
                      exact this
              exact loop P 0 _ _ (by omega)
            refine g_iload (pc := 69) C dX12_fare_69 rfl ?_
            refine g_if_eq (pc := 71) C 78 dX12_fare_71 rfl (fun h7 => ?_) (fun h7 => ?_)
            · have h7 : ¬ aimsF (s_A S 1010) s False P = 0 := bI_0.mp (by rw [← hak]; exact h7)
              refine g_aload_n (pc := 78) C dX12_fare_78 rfl ?_
              refine mg_39 (pc := 79) C (by exact hm) dX12_fare_79 ?_
              refine g_bipush (pc := 82) (v := nI 14) C dX12_fare_82 (by decide) ?_
              refine g_iload_n (pc := 84) C dX12_fare_84 rfl ?_
              refine g_iadd (pc := 85) C dX12_fare_85 ?_
              refine n_iald (pc := 86) (k := 1010) (n := 190) C rfl rfl (by exact m_z hm rfl) (isn_add isn_v isn_v) rfl (by omega) dX12_fare_86 ?_
              refine gx_ti (y := fOwn (s_A S 1010) P s q) (by unfold fOwn; rw [if_neg h7]) ?_
              exact rest _ _ _ _ _ _ _
            · have h7 : aimsF (s_A S 1010) s False P = 0 := Decidable.not_not.mp (fun q => h7 (by rw [hak]; exact bI_0.mpr q))
              refine g_iconst (pc := 74) (v := nI 1) C dX12_fare_74 (by decide) ?_
              refine g_goto (pc := 75) C 87 dX12_fare_75 rfl ?_
              refine gx_ti (y := fOwn (s_A S 1010) P s q) (by unfold fOwn; rw [if_pos h7]) ?_
              exact rest _ _ _ _ _ _ _
          refine g_aload_n (pc := 38) C dX12_fare_38 rfl ?_
          refine g_iload_n (pc := 39) C dX12_fare_39 rfl ?_
          refine g_iconst (pc := 40) (v := nI 0) C dX12_fare_40 (by decide) ?_
          refine cf_X12_323 (pc := 41) C rfl (by exact m_z hm rfl) (c_X12_aimsOf _ _ _ hm P hP hP7 s hs False) ⟨rfl, rfl⟩ ⟨rfl, rfl⟩ ⟨Nat.zero_le _, Nat.zero_le _⟩ rfl (Nat.le_of_ble_eq_true rfl) dX12_fare_41 ?_
          refine g_istore (pc := 44) (L' := [_, _, _, some (.int _), _, _, _, _, _, _, _, _, _]) C dX12_fare_44 rfl rfl ?_
          refine g_iload (pc := 46) C dX12_fare_46 rfl ?_
          refine g_if_ne (pc := 48) C 55 dX12_fare_48 rfl (fun h5 => ?_) (fun h5 => ?_)
          · refine g_iconst (pc := 55) (v := nI 0) C dX12_fare_55 (by decide) ?_
            refine g_istore (pc := 56) (L' := [_, _, _, _, some (.int _), _, _, _, _, _, _, _, _]) C dX12_fare_56 rfl rfl ?_
            refine g_iload (pc := 58) C dX12_fare_58 rfl ?_
            refine g_if_eq (pc := 60) C 69 dX12_fare_60 rfl (fun h6 => ?_) (fun h6 => ?_)
            · have e : fAll (s_A S 1010) P s = aimsF (s_A S 1010) s False P := if_neg h5
              rw [← e]
              exact main _ (by rw [bI_f h5]) _ _ _ _ _ _ _
            · exact absurd rfl h6
          · have h5 := Decidable.not_not.mp h5
            refine g_iconst (pc := 51) (v := nI 1) C dX12_fare_51 (by decide) ?_
            refine g_goto (pc := 52) C 56 dX12_fare_52 rfl ?_
            refine g_istore (pc := 56) (L' := [_, _, _, _, some (.int _), _, _, _, _, _, _, _, _]) C dX12_fare_56 rfl rfl ?_
            refine g_iload (pc := 58) C dX12_fare_58 rfl ?_
            refine g_if_eq (pc := 60) C 69 dX12_fare_60 rfl (fun h6 => ?_) (fun h6 => ?_)
            · exact absurd h6 (by decide)
            · refine g_iload_n (pc := 63) C dX12_fare_63 rfl ?_
              refine cf_X12_337 (pc := 64) C (c_X12_bits _ _ _ s hs) ⟨rfl, rfl⟩ ⟨rfl, rfl⟩ ⟨Nat.zero_le _, Nat.zero_le _⟩ rfl (Nat.le_of_ble_eq_true rfl) dX12_fare_64 ?_
              refine g_istore (pc := 67) (L' := [_, _, _, some (.int _), _, _, _, _, _, _, _, _, _]) C dX12_fare_67 rfl rfl ?_
              have e : fAll (s_A S 1010) P s = nI (popN s) := if_pos h5
              rw [← e]
              exact main _ (by rw [bI_t h5]) _ _ _ _ _ _ _
        · exact bad _ _ _ _ _ _ _ _ _ (fun z => bI_0.mp (Decidable.not_not.mp h4) z.2.2.2)
