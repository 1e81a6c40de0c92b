/-! ===== the reference: lies ===== -/
theorem xor_nI : ∀ c, c < 4 → nI c ^^^ nI 2 = nI (c ^^^ 2) ∧ nI c ^^^ nI 1 = nI (c ^^^ 1) ∧ c ^^^ 2 < 4 ∧ c ^^^ 1 < 4 := by decide +kernel
def hv1 (said : Nat → Int32) (a c : Nat) : Nat → Int32 := if c / 2 = 1 then upd said (14 + a) (said (14 + a) / nI 2) else said
def hvF (said : Nat → Int32) (a b c : Nat) : Nat → Int32 := if c % 2 = 1 then upd (hv1 said a c) (14 + b) (hv1 said a c (14 + b) / nI 2) else hv1 said a c
theorem hvF_out {said : Nat → Int32} {a b c j : Nat} (ha : a < 7) (hb : b < 7) (h : j < 14 ∨ 21 ≤ j) : hvF said a b c j = said j := by
  have h1 : hv1 said a c j = said j := by
    unfold hv1
    split
    · show (if j = 14 + a then _ else said j) = said j
      rw [if_neg (by omega)]
    · rfl
  unfold hvF
  split
  · show (if j = 14 + b then _ else hv1 said a c j) = said j
    rw [if_neg (by omega), h1]
  · exact h1
def liS (fr : Option ((Nat → Int64) → Int64)) (drawn : Int32) (said : Nat → Int32) (P H a b n c : Nat) : Nat → Int32 := pnF fr drawn (hvF said a b c) P H n
def has1 (fr : Option ((Nat → Int64) → Int64)) (drawn : Int32) (said : Nat → Int32) (P H a b n c : Nat) : Int32 := nI 3 * liS fr drawn said P H a b n c (21 + a) - nI (c / 2)
def has2 (fr : Option ((Nat → Int64) → Int64)) (drawn : Int32) (said : Nat → Int32) (P H a b n c : Nat) : Int32 := nI 3 * liS fr drawn said P H a b n c (21 + b) - nI (c % 2)
def lsF (ok : Nat → Bool) : Nat → Nat × Int32
  | 0 => (0, -2)
  | d + 1 => if ok (3 - d) = true then ((lsF ok d).1 + 1, nI (3 - d)) else lsF ok d
def liOK (h1 h2 : Nat → Int32) (c : Nat) : Bool := decide (¬ h1 c < h1 (c ^^^ 2) ∧ ¬ h2 c < h2 (c ^^^ 1))
abbrev liesOK (P : Nat) (x y n what : Int32) : Prop := (0 ≤ x ∧ x < nI P) ∧ (0 ≤ y ∧ y < nI P) ∧ ¬ x = y ∧ (nI 1 ≤ n ∧ n ≤ nI 20) ∧ (nI 0 ≤ what ∧ what ≤ nI 1)
def liesR (fr : Option ((Nat → Int64) → Int64)) (drawn : Int32) (said : Nat → Int32) (P H a b n : Nat) : Nat × Int32 := lsF (liOK (has1 fr drawn said P H a b n) (has2 fr drawn said P H a b n)) 4
def liU (K : St) (hb sd : Nat → Int32) : St := s_setA (s_setA K 1019 hb) 1010 sd
theorem li_A (K : St) (hb sd h : Nat → Int32) (B W : Nat → Int64) (t : Int32) : s_setA (scw (liU K hb sd) B W t) 1010 h = scw (liU K hb h) B W t := by
  rw [scw_setA]; unfold liU; rw [s_AA]
theorem li_uA (K : St) (hb sd h : Nat → Int32) : s_setA (liU K hb sd) 1010 h = liU K hb h := by unfold liU; rw [s_AA]
theorem li_H (K : St) (hb sd h : Nat → Int32) (B W : Nat → Int64) (t : Int32) : s_setA (scw (liU K hb sd) B W t) 1019 h = scw (liU K h sd) B W t := by
  have e : s_setA (liU K hb sd) 1019 h = liU K h sd := by unfold liU; rw [s_AA2 _ 1010 1019 _ _ (by decide), s_AA]
  rw [← e]; rfl
theorem li_rA (K : St) (hb sd : Nat → Int32) (B W : Nat → Int64) (t : Int32) : s_A (scw (liU K hb sd) B W t) 1010 = sd := rfl
theorem li_rH (K : St) (hb sd : Nat → Int32) (B W : Nat → Int64) (t : Int32) : s_A (scw (liU K hb sd) B W t) 1019 = hb := rfl
theorem li_uD (K : St) (hb sd : Nat → Int32) : s_I (liU K hb sd) 1123 1000 = s_I K 1123 1000 := rfl
theorem li_ruA (K : St) (hb sd : Nat → Int32) : s_A (liU K hb sd) 1010 = sd := rfl
theorem li_lay (S : St) (hb sd : Nat → Int32) (h : ∀ j, (j < 10 ∨ 28 ≤ j) → sd j = s_A S 1010 j) (B W : Nat → Int64) (t : Int32) : layS (scw (liU (keepS S) hb sd) B W t) = scw (liU (keepS S) hb (s_A S 1010)) B W t := by
  have e2 : va_cpy (s_A (keepS S) 1012) sd 0 10 18 = s_A S 1010 := by
    funext j
    show (if 10 ≤ j ∧ j < 10 + 18 then (if 0 ≤ 0 + (j - 10) ∧ 0 + (j - 10) < 0 + 18 then s_A S 1010 (10 + (0 + (j - 10) - 0)) else s_A S 1012 (0 + (j - 10))) else sd j) = s_A S 1010 j
    split
    · rw [if_pos (by omega)]
      congr 1; omega
    · exact h j (by omega)
  show s_setA (scw (liU (keepS S) hb sd) B W t) 1010 (va_cpy (s_A (keepS S) 1012) sd 0 10 18) = _
  rw [li_A, e2]
theorem c_X12_lies (w : Wd) (l : Launch) (S : St) (hm : gx_m S) (P H : Nat) (hp : gx_p S P H) (hH1 : H ≤ 999) (fr : Option ((Nat → Int64) → Int64)) (hfr : frW S fr) (x y n what : Int32) : gx_M w l yX12_lies cX12_lies 8 (some .int) rmX12_lies [.ref (ad (w_b w) 1000), .int x, .int y, .int n, .int what] S (fun a S' => if liesOK P x y n what then (∃ hb B' W' t', a = some (.int (if what = nI 0 then nI (liesR fr (s_I S 1123 1000) (s_A S 1010) P H x.toNatClampNeg y.toNatClampNeg n.toNatClampNeg).1 else (liesR fr (s_I S 1123 1000) (s_A S 1010) P H x.toNatClampNeg y.toNatClampNeg n.toNatClampNeg).2)) ∧ S' = scw (liU (keepS S) hb (s_A S 1010)) B' W' t') else (a = some (.int (-1)) ∧ S' = S)) := by
  obtain ⟨hP, hP7, hH, hH2⟩ := id hp
  refine gx_start rfl 3 rfl (Nat.le_of_ble_eq_true rfl) ?_
  intro X C _ hl
  subst hl
  refine gx_L (L' := [_, _, _, _, _, _, _, _]) rfl ?_
  generalize hq : (fun (a : Option Value) (S' : St) => if liesOK P x y n what then (∃ hb B' W' t', a = some (.int (if what = nI 0 then nI (liesR fr (s_I S 1123 1000) (s_A S 1010) P H x.toNatClampNeg y.toNatClampNeg n.toNatClampNeg).1 else (liesR fr (s_I S 1123 1000) (s_A S 1010) P H x.toNatClampNeg y.toNatClampNeg n.toNatClampNeg).2)) ∧ S' = scw (liU (keepS S) hb (s_A S 1010)) B' W' t') else (a = some (.int (-1)) ∧ S' = S)) = post
  have bad : ∀ z5 z6 z7, ¬ liesOK P x y n what → gx_G w X S 0 0 44 [some (.ref (ad (w_b w) 1000)), some (.int x), some (.int y), some (.int n), some (.int what), z5, z6, z7] [] (gx_E w X post) := by
    intro z5 z6 z7 hb
    subst hq
    refine g_iconst (pc := 44) (v := -1) C dX12_lies_44 (by decide) ?_
    exact g_ireturn (pc := 45) C ⟨rfl, rfl⟩ dX12_lies_45 ((by rw [if_neg hb]; exact ⟨rfl, rfl⟩))
  refine g_aload_n (pc := 0) C dX12_lies_0 rfl ?_
  refine g_iload_n (pc := 1) C dX12_lies_1 rfl ?_
  refine cf_X12_349 (pc := 2) C rfl (by exact m_z hm rfl) (c_X12_isPerson _ _ _ hm _) ⟨rfl, rfl⟩ ⟨rfl, rfl⟩ ⟨Nat.zero_le _, Nat.zero_le _⟩ rfl (Nat.le_of_ble_eq_true rfl) dX12_lies_2 ?_
  refine gx_ti (y := bI (0 ≤ x ∧ x < nI P)) (by rw [hP]) ?_
  refine g_if_eq (pc := 5) C 44 dX12_lies_5 rfl (fun h => ?_) (fun h => ?_)
  · exact bad _ _ _ (fun q => bI_0.mp h q.1)
  · have h := Decidable.not_not.mp (fun q => h (bI_0.mpr q))
    refine g_aload_n (pc := 8) C dX12_lies_8 rfl ?_
    refine g_iload_n (pc := 9) C dX12_lies_9 rfl ?_
    refine cf_X12_349 (pc := 10) C rfl (by exact m_z hm rfl) (c_X12_isPerson _ _ _ hm _) ⟨rfl, rfl⟩ ⟨rfl, rfl⟩ ⟨Nat.zero_le _, Nat.zero_le _⟩ rfl (Nat.le_of_ble_eq_true rfl) dX12_lies_10 ?_
    refine gx_ti (y := bI (0 ≤ y ∧ y < nI P)) (by rw [hP]) ?_
    refine g_if_eq (pc := 13) C 44 dX12_lies_13 rfl (fun h2 => ?_) (fun h2 => ?_)
    · exact bad _ _ _ (fun q => bI_0.mp h2 q.2.1)
    · have h2 := Decidable.not_not.mp (fun q => h2 (bI_0.mpr q))
      refine g_iload_n (pc := 16) C dX12_lies_16 rfl ?_
      refine g_iload_n (pc := 17) C dX12_lies_17 rfl ?_
      refine g_icmp_eq (pc := 18) C 44 dX12_lies_18 rfl (fun h3 => ?_) (fun h3 => ?_)
      · exact bad _ _ _ (fun q => q.2.2.1 h3)
      · refine g_iload_n (pc := 21) C dX12_lies_21 rfl ?_
        refine g_i2l (pc := 22) C dX12_lies_22 ?_
        refine g_lconst (pc := 23) (v := 1) C dX12_lies_23 (by decide) ?_
        refine g_ldc2 (pc := 24) (v := 20) C dX12_lies_24 kl_X12_379 ?_
        refine cf_X12_130 (pc := 27) C (c_X12_in32 _ _ _ _ (nI 1) (nI 20) _ _ rfl rfl) ⟨rfl, rfl⟩ ⟨rfl, rfl⟩ ⟨Nat.zero_le _, Nat.zero_le _⟩ rfl (Nat.le_of_ble_eq_true rfl) dX12_lies_27 ?_
        refine g_if_eq (pc := 30) C 44 dX12_lies_30 rfl (fun h4 => ?_) (fun h4 => ?_)
        · exact bad _ _ _ (fun q => bI_0.mp h4 q.2.2.2.1)
        · have h4 := Decidable.not_not.mp (fun q => h4 (bI_0.mpr q))
          refine g_iload (pc := 33) C dX12_lies_33 rfl ?_
          refine g_i2l (pc := 35) C dX12_lies_35 ?_
          refine g_lconst (pc := 36) (v := 0) C dX12_lies_36 (by decide) ?_
          refine g_lconst (pc := 37) (v := 1) C dX12_lies_37 (by decide) ?_
          refine cf_X12_130 (pc := 38) C (c_X12_in32 _ _ _ _ (nI 0) (nI 1) _ _ rfl rfl) ⟨rfl, rfl⟩ ⟨rfl, rfl⟩ ⟨Nat.zero_le _, Nat.zero_le _⟩ rfl (Nat.le_of_ble_eq_true rfl) dX12_lies_38 ?_
          refine g_if_ne (pc := 41) C 46 dX12_lies_41 rfl (fun h5 => ?_) (fun h5 => ?_)
          · have h5 := Decidable.not_not.mp (fun q => h5 (bI_0.mpr q))
            have hok : liesOK P x y n what := ⟨h, h2, h3, h4, h5⟩
            obtain ⟨a, ha, rfl, eca⟩ := person_of hP7 h
            obtain ⟨b, hb7, rfl, ecb⟩ := person_of hP7 h2
            obtain ⟨nn, hn20, rfl⟩ := nat_of (b := 20) (by omega) ⟨Int32.le_trans (by decide) h4.1, h4.2⟩
            have ecn : (nI nn).toNatClampNeg = nn := nI_clamp (by omega)
            rw [eca, ecb, ecn] at hq
            refine g_aload_n (pc := 46) C dX12_lies_46 rfl ?_
            refine cf_X12_385 (pc := 47) C rfl (by exact m_z hm rfl) (c_X12_keeps _ _ _ (by exact hm)) ⟨rfl, rfl⟩ ⟨rfl, rfl⟩ ⟨Nat.zero_le _, Nat.zero_le _⟩ rfl (Nat.le_of_ble_eq_true rfl) dX12_lies_47 ?_
            refine g_iconst (pc := 50) (v := nI 0) C dX12_lies_50 (by decide) ?_
            refine g_istore (pc := 51) (L' := [_, _, _, _, some (.int _), _, _, _]) C dX12_lies_51 rfl rfl ?_
            refine gx_S (S' := scw (liU (keepS S) (s_A S 1019) (s_A S 1010)) (s_B S 1008) (s_B S 1009) (s_I S 1118 1000)) ?_ ?_
            · have e : liU (keepS S) (s_A S 1019) (s_A S 1010) = keepS S := by
                unfold liU
                rw [show s_setA (keepS S) 1019 (s_A S 1019) = keepS S from s_A_id (keepS S) 1019, show s_setA (keepS S) 1010 (s_A S 1010) = keepS S from s_A_id (keepS S) 1010]
              rw [e]
              exact (scw_id (keepS S)).symm
            have hmA : ∀ hb sd B W t, gx_m (scw (liU (keepS S) hb sd) B W t) := fun hb sd B W t => hm
            have hmU : ∀ hb sd, gx_m (liU (keepS S) hb sd) := fun hb sd => hm
            have hfrU : ∀ hb sd, frW (liU (keepS S) hb sd) fr := fun hb sd => hfr
            generalize hg1 : has1 fr (s_I S 1123 1000) (s_A S 1010) P H a b nn = g1
            generalize hg2 : has2 fr (s_I S 1123 1000) (s_A S 1010) P H a b nn = g2
            have hres : liesR fr (s_I S 1123 1000) (s_A S 1010) P H a b nn = lsF (liOK g1 g2) 4 := by rw [← hg1, ← hg2]; rfl
            rw [hres] at hq
            have fin : ∀ hb B W t z5 z6 z7, (∀ c, c < 4 → hb (2 * c) = g1 c ∧ hb (2 * c + 1) = g2 c) → gx_G w X (scw (liU (keepS S) hb (s_A S 1010)) B W t) 0 0 183 [some (.ref (ad (w_b w) 1000)), some (.int (nI a)), some (.int (nI b)), some (.int (nI nn)), some (.int what), z5, z6, z7] [] (gx_E w X post) := by
              intro hb B W t z5 z6 z7 hhb
              have hm2 : gx_m (scw (liU (keepS S) hb (s_A S 1010)) B W t) := hm
              have hb2 : s_A (scw (liU (keepS S) hb (s_A S 1010)) B W t) 1019 = hb := rfl
              have hend : ∀ v, v = (if what = nI 0 then nI (lsF (liOK g1 g2) 4).1 else (lsF (liOK g1 g2) 4).2) → post (some (.int v)) (scw (liU (keepS S) hb (s_A S 1010)) B W t) := by
                intro v hv
                rw [← hq]
                show (if liesOK P (nI a) (nI b) (nI nn) what then _ else _)
                rw [if_pos hok, hv]
                exact ⟨hb, B, W, t, rfl, rfl⟩
              generalize scw (liU (keepS S) hb (s_A S 1010)) B W t = T at hm2 hb2 hend ⊢
              refine g_iconst (pc := 183) (v := nI 0) C dX12_lies_183 (by decide) ?_
              refine g_istore (pc := 184) (L' := [_, _, _, _, some (.int _), _, _, _]) C dX12_lies_184 rfl rfl ?_
              refine g_bipush (pc := 186) (v := -2) C dX12_lies_186 (by decide) ?_
              refine g_istore (pc := 188) (L' := [_, _, _, _, _, some (.int _), _, _]) C dX12_lies_188 rfl rfl ?_
              refine g_iconst (pc := 190) (v := nI 3) C dX12_lies_190 (by decide) ?_
              refine g_istore (pc := 191) (L' := [_, _, _, _, _, _, some (.int _), _]) C dX12_lies_191 rfl rfl ?_
              have loop : ∀ i d, i + d = 4 → gx_G w X T 0 0 193 [some (.ref (ad (w_b w) 1000)), some (.int (nI a)), some (.int (nI b)), some (.int (nI nn)), some (.int what), some (.int (nI (lsF (liOK g1 g2) d).1)), some (.int (lsF (liOK g1 g2) d).2), some (.int (nI i + (-1)))] [] (gx_E w X post) := by
                intro i
                induction i with
                | zero =>
                  intro d hd
                  have hd : d = 4 := by omega
                  subst hd
                  refine g_iload (pc := 193) C dX12_lies_193 rfl ?_
                  refine g_if_lt (pc := 195) C 264 dX12_lies_195 rfl (fun h6 => ?_) (fun h6 => ?_)
                  · refine g_iload (pc := 264) C dX12_lies_264 rfl ?_
                    refine g_if_ne (pc := 266) C 274 dX12_lies_266 rfl (fun h7 => ?_) (fun h7 => ?_)
                    · refine g_iload (pc := 274) C dX12_lies_274 rfl ?_
                      exact g_ireturn (pc := 276) C ⟨rfl, rfl⟩ dX12_lies_276 (hend _ (by rw [if_neg (fun q => h7 (by rw [q]; rfl))]))
                    · have h7 : what = nI 0 := Decidable.not_not.mp h7
                      refine g_iload (pc := 269) C dX12_lies_269 rfl ?_
                      refine g_goto (pc := 271) C 276 dX12_lies_271 rfl ?_
                      exact g_ireturn (pc := 276) C ⟨rfl, rfl⟩ dX12_lies_276 (hend _ (by rw [if_pos h7]))
                  · exact absurd (by decide) h6
                | succ i ih =>
                  intro d hd
                  obtain ⟨x1, x2, x3, x4⟩ := xor_nI i (by omega)
                  rw [pk_m1]
                  have skip : ¬ liOK g1 g2 i = true → gx_G w X T 0 0 258 [some (.ref (ad (w_b w) 1000)), some (.int (nI a)), some (.int (nI b)), some (.int (nI nn)), some (.int what), some (.int (nI (lsF (liOK g1 g2) d).1)), some (.int (lsF (liOK g1 g2) d).2), some (.int (nI i))] [] (gx_E w X post) := by
                    intro hno
                    refine g_iinc (pc := 258) (L' := [_, _, _, _, _, _, some (.int _), _]) C dX12_lies_258 rfl rfl rfl ?_
                    refine g_goto (pc := 261) C 193 dX12_lies_261 rfl ?_
                    have := ih (d + 1) (by omega)
                    rw [show lsF (liOK g1 g2) (d + 1) = lsF (liOK g1 g2) d from by simp only [lsF]; rw [show 3 - d = i by omega, if_neg hno]] at this
                    exact this
                  refine g_iload (pc := 193) C dX12_lies_193 rfl ?_
                  refine g_if_lt (pc := 195) C 264 dX12_lies_195 rfl (fun h6 => ?_) (fun h6 => ?_)
                  · exact absurd h6 (nI_pos (by omega))
                  · refine g_aload_n (pc := 198) C dX12_lies_198 rfl ?_
                    refine mg_71 (pc := 199) C hm2 dX12_lies_199 ?_
                    refine g_iconst (pc := 202) (v := nI 2) C dX12_lies_202 (by decide) ?_
                    refine g_iload (pc := 203) C dX12_lies_203 rfl ?_
                    refine g_iconst (pc := 205) (v := nI 2) C dX12_lies_205 (by decide) ?_
                    refine g_ixor (pc := 206) C dX12_lies_206 ?_
                    refine gx_ti x1 ?_
                    refine g_imul (pc := 207) C dX12_lies_207 ?_
                    refine n_iald (pc := 208) (k := 1019) (n := 8) C rfl rfl (m_z hm2 rfl) (isn_mul isn_v isn_v) rfl (by omega) dX12_lies_208 ?_
                    refine gx_ti (y := g1 (i ^^^ 2)) (by rw [hb2]; exact (hhb _ x3).1) ?_
                    refine g_aload_n (pc := 209) C dX12_lies_209 rfl ?_
                    refine mg_71 (pc := 210) C hm2 dX12_lies_210 ?_
                    refine g_iconst (pc := 213) (v := nI 2) C dX12_lies_213 (by decide) ?_
                    refine g_iload (pc := 214) C dX12_lies_214 rfl ?_
                    refine g_imul (pc := 216) C dX12_lies_216 ?_
                    refine n_iald (pc := 217) (k := 1019) (n := 8) C rfl rfl (m_z hm2 rfl) (isn_mul isn_v isn_v) rfl (by omega) dX12_lies_217 ?_
                    refine gx_ti (y := g1 i) (by rw [hb2]; exact (hhb _ (by omega)).1) ?_
                    refine g_icmp_gt (pc := 218) C 258 dX12_lies_218 rfl (fun h7 => ?_) (fun h7 => ?_)
                    · exact skip (fun q => (of_decide_eq_true q).1 h7)
                    · refine g_aload_n (pc := 221) C dX12_lies_221 rfl ?_
                      refine mg_71 (pc := 222) C hm2 dX12_lies_222 ?_
                      refine g_iconst (pc := 225) (v := nI 2) C dX12_lies_225 (by decide) ?_
                      refine g_iload (pc := 226) C dX12_lies_226 rfl ?_
                      refine g_iconst (pc := 228) (v := nI 1) C dX12_lies_228 (by decide) ?_
                      refine g_ixor (pc := 229) C dX12_lies_229 ?_
                      refine gx_ti x2 ?_
                      refine g_imul (pc := 230) C dX12_lies_230 ?_
                      refine g_iconst (pc := 231) (v := nI 1) C dX12_lies_231 (by decide) ?_
                      refine g_iadd (pc := 232) C dX12_lies_232 ?_
                      refine n_iald (pc := 233) (k := 1019) (n := 8) C rfl rfl (m_z hm2 rfl) (isn_add (isn_mul isn_v isn_v) isn_v) rfl (by omega) dX12_lies_233 ?_
                      refine gx_ti (y := g2 (i ^^^ 1)) (by rw [hb2]; exact (hhb _ x4).2) ?_
                      refine g_aload_n (pc := 234) C dX12_lies_234 rfl ?_
                      refine mg_71 (pc := 235) C hm2 dX12_lies_235 ?_
                      refine g_iconst (pc := 238) (v := nI 2) C dX12_lies_238 (by decide) ?_
                      refine g_iload (pc := 239) C dX12_lies_239 rfl ?_
                      refine g_imul (pc := 241) C dX12_lies_241 ?_
                      refine g_iconst (pc := 242) (v := nI 1) C dX12_lies_242 (by decide) ?_
                      refine g_iadd (pc := 243) C dX12_lies_243 ?_
                      refine n_iald (pc := 244) (k := 1019) (n := 8) C rfl rfl (m_z hm2 rfl) (isn_add (isn_mul isn_v isn_v) isn_v) rfl (by omega) dX12_lies_244 ?_
                      refine gx_ti (y := g2 i) (by rw [hb2]; exact (hhb _ (by omega)).2) ?_
                      refine g_icmp_le (pc := 245) C 251 dX12_lies_245 rfl (fun h8 => ?_) (fun h8 => ?_)
                      · refine g_iinc (pc := 251) (L' := [_, _, _, _, some (.int _), _, _, _]) C dX12_lies_251 rfl (nI_1 _) rfl ?_
                        refine g_iload (pc := 254) C dX12_lies_254 rfl ?_
                        refine g_istore (pc := 256) (L' := [_, _, _, _, _, some (.int _), _, _]) C dX12_lies_256 rfl rfl ?_
                        refine g_iinc (pc := 258) (L' := [_, _, _, _, _, _, some (.int _), _]) C dX12_lies_258 rfl rfl rfl ?_
                        refine g_goto (pc := 261) C 193 dX12_lies_261 rfl ?_
                        have := ih (d + 1) (by omega)
                        rw [show lsF (liOK g1 g2) (d + 1) = ((lsF (liOK g1 g2) d).1 + 1, nI i) from by simp only [lsF]; rw [show 3 - d = i by omega, if_pos (show liOK g1 g2 i = true from decide_eq_true ⟨h7, Int32.not_lt.mpr h8⟩)]] at this
                        exact this
                      · refine g_goto (pc := 248) C 258 dX12_lies_248 rfl ?_
                        exact skip (fun q => (of_decide_eq_true q).2 (Int32.not_le.mp h8))
              exact loop 4 0 rfl
            have loop : ∀ k c hb z6 B W t, c + k = 4 → (∀ q, q < c → hb (2 * q) = g1 q ∧ hb (2 * q + 1) = g2 q) → gx_G w X (scw (liU (keepS S) hb (s_A S 1010)) B W t) 0 0 53 [some (.ref (ad (w_b w) 1000)), some (.int (nI a)), some (.int (nI b)), some (.int (nI nn)), some (.int what), some (.int (nI c)), z6, none] [] (gx_E w X post) := by
              intro k
              induction k with
              | zero =>
                intro c hb z6 B W t hc hhb
                have hc : c = 4 := hc
                subst hc
                refine g_iload (pc := 53) C dX12_lies_53 rfl ?_
                refine g_iconst (pc := 55) (v := nI 4) C dX12_lies_55 (by decide) ?_
                refine g_icmp_ge (pc := 56) C 183 dX12_lies_56 rfl (fun h6 => ?_) (fun h6 => ?_)
                · exact fin hb B W t _ _ _ hhb
                · exact absurd (nI_le (Nat.le_refl 4) (by omega)) h6
              | succ k ih =>
                intro c hb z6 B W t hc hhb
                have ediv : nI c / nI 2 = nI (c / 2) := pk_div (by omega) (by omega) (by omega)
                have erem : nI c - nI c / nI 2 * nI 2 = nI (c % 2) := pk_rem (by omega) (by omega) (by omega)
                have tail : ∀ B W t, gx_G w X (scw (liU (keepS S) hb (hvF (s_A S 1010) a b c)) B W t) 0 0 101 [some (.ref (ad (w_b w) 1000)), some (.int (nI a)), some (.int (nI b)), some (.int (nI nn)), some (.int what), some (.int (nI c)), z6, none] [] (gx_E w X post) := by
                  intro B W t
                  have hso : ∀ i j, (j < 10 ∨ 28 ≤ j) → pnF fr (s_I S 1123 1000) (hvF (s_A S 1010) a b c) P H i j = s_A S 1010 j := fun i j hj => (pnF_out hP7 hj i).trans (hvF_out (by omega) (by omega) (by omega))
                  have hsh : ∀ i, pnF fr (s_I S 1123 1000) (hvF (s_A S 1010) a b c) P H i 10 = nI (H + i) := pnF_hour hP7 ((hvF_out (by omega) (by omega) (by omega)).trans hH)
                  refine g_iconst (pc := 101) (v := nI 0) C dX12_lies_101 (by decide) ?_
                  refine g_istore (pc := 102) (L' := [_, _, _, _, _, some (.int _), _, _]) C dX12_lies_102 rfl rfl ?_
                  have trips : ∀ j i B W t, i + j = nn → gx_G w X (scw (liU (keepS S) hb (pnF fr (s_I S 1123 1000) (hvF (s_A S 1010) a b c) P H i)) B W t) 0 0 104 [some (.ref (ad (w_b w) 1000)), some (.int (nI a)), some (.int (nI b)), some (.int (nI nn)), some (.int what), some (.int (nI c)), some (.int (nI i)), none] [] (gx_E w X post) := by
                    intro j
                    induction j with
                    | zero =>
                      intro i B W t hi
                      have hi : i = nn := hi
                      subst hi
                      have eg1 : nI 3 * pnF fr (s_I S 1123 1000) (hvF (s_A S 1010) a b c) P H i (21 + a) - nI (c / 2) = g1 c := by rw [← hg1]; rfl
                      have eg2 : nI 3 * pnF fr (s_I S 1123 1000) (hvF (s_A S 1010) a b c) P H i (21 + b) - nI (c % 2) = g2 c := by rw [← hg2]; rfl
                      have hso2 := hso i
                      generalize pnF fr (s_I S 1123 1000) (hvF (s_A S 1010) a b c) P H i = sn at hso2 eg1 eg2 ⊢
                      refine g_iload (pc := 104) C dX12_lies_104 rfl ?_
                      refine g_iload_n (pc := 106) C dX12_lies_106 rfl ?_
                      refine g_icmp_ge (pc := 107) C 121 dX12_lies_107 rfl (fun h6 => ?_) (fun h6 => ?_)
                      · refine g_aload_n (pc := 121) C dX12_lies_121 rfl ?_
                        refine mg_71 (pc := 122) C (hmA _ _ _ _ _) dX12_lies_122 ?_
                        refine g_iconst (pc := 125) (v := nI 2) C dX12_lies_125 (by decide) ?_
                        refine g_iload (pc := 126) C dX12_lies_126 rfl ?_
                        refine g_imul (pc := 128) C dX12_lies_128 ?_
                        refine g_iconst (pc := 129) (v := nI 3) C dX12_lies_129 (by decide) ?_
                        refine g_aload_n (pc := 130) C dX12_lies_130 rfl ?_
                        refine mg_39 (pc := 131) C (hmA _ _ _ _ _) dX12_lies_131 ?_
                        refine g_bipush (pc := 134) (v := nI 21) C dX12_lies_134 (by decide) ?_
                        refine g_iload_n (pc := 136) C dX12_lies_136 rfl ?_
                        refine g_iadd (pc := 137) C dX12_lies_137 ?_
                        refine n_iald (pc := 138) (k := 1010) (n := 190) C rfl rfl (m_z (hmA _ _ _ _ _) rfl) (isn_add isn_v isn_v) rfl (by omega) dX12_lies_138 ?_
                        refine gx_ti (y := sn (21 + a)) rfl ?_
                        refine g_imul (pc := 139) C dX12_lies_139 ?_
                        refine g_iload (pc := 140) C dX12_lies_140 rfl ?_
                        refine g_iconst (pc := 142) (v := nI 2) C dX12_lies_142 (by decide) ?_
                        refine g_idiv (pc := 143) C dX12_lies_143 (by decide) ?_
                        refine gx_ti ediv ?_
                        refine g_isub (pc := 144) C dX12_lies_144 ?_
                        refine gx_ti eg1 ?_
                        refine n_iast (pc := 145) (k := 1019) (n := 8) C rfl rfl (m_z (hmA _ _ _ _ _) rfl) (isn_mul isn_v isn_v) rfl (by omega) dX12_lies_145 ?_
                        refine gx_S (S' := scw (liU (keepS S) (upd hb (2 * c) (g1 c)) sn) B W t) (by rw [li_rH, li_H]) ?_
                        refine g_aload_n (pc := 146) C dX12_lies_146 rfl ?_
                        refine mg_71 (pc := 147) C (hmA _ _ _ _ _) dX12_lies_147 ?_
                        refine g_iconst (pc := 150) (v := nI 2) C dX12_lies_150 (by decide) ?_
                        refine g_iload (pc := 151) C dX12_lies_151 rfl ?_
                        refine g_imul (pc := 153) C dX12_lies_153 ?_
                        refine g_iconst (pc := 154) (v := nI 1) C dX12_lies_154 (by decide) ?_
                        refine g_iadd (pc := 155) C dX12_lies_155 ?_
                        refine g_iconst (pc := 156) (v := nI 3) C dX12_lies_156 (by decide) ?_
                        refine g_aload_n (pc := 157) C dX12_lies_157 rfl ?_
                        refine mg_39 (pc := 158) C (hmA _ _ _ _ _) dX12_lies_158 ?_
                        refine g_bipush (pc := 161) (v := nI 21) C dX12_lies_161 (by decide) ?_
                        refine g_iload_n (pc := 163) C dX12_lies_163 rfl ?_
                        refine g_iadd (pc := 164) C dX12_lies_164 ?_
                        refine n_iald (pc := 165) (k := 1010) (n := 190) C rfl rfl (m_z (hmA _ _ _ _ _) rfl) (isn_add isn_v isn_v) rfl (by omega) dX12_lies_165 ?_
                        refine gx_ti (y := sn (21 + b)) rfl ?_
                        refine g_imul (pc := 166) C dX12_lies_166 ?_
                        refine g_iload (pc := 167) C dX12_lies_167 rfl ?_
                        refine g_iconst (pc := 169) (v := nI 2) C dX12_lies_169 (by decide) ?_
                        refine g_irem (pc := 170) C dX12_lies_170 (by decide) ?_
                        refine gx_ti erem ?_
                        refine g_isub (pc := 171) C dX12_lies_171 ?_
                        refine gx_ti eg2 ?_
                        refine n_iast (pc := 172) (k := 1019) (n := 8) C rfl rfl (m_z (hmA _ _ _ _ _) rfl) (isn_add (isn_mul isn_v isn_v) isn_v) rfl (by omega) dX12_lies_172 ?_
                        refine gx_S (S' := scw (liU (keepS S) (upd (upd hb (2 * c) (g1 c)) (2 * c + 1) (g2 c)) sn) B W t) (by rw [li_rH, li_H]) ?_
                        refine g_aload_n (pc := 173) C dX12_lies_173 rfl ?_
                        refine cf_X12_388 (pc := 174) C rfl (m_z (hmA _ _ _ _ _) rfl) (c_X12_laysBack _ _ _ (hmA _ _ _ _ _)) ⟨rfl, rfl⟩ ⟨rfl, rfl⟩ ⟨Nat.zero_le _, Nat.zero_le _⟩ rfl (Nat.le_of_ble_eq_true rfl) dX12_lies_174 ?_
                        refine gx_S (li_lay S _ _ hso2 B W t) ?_
                        refine g_iinc (pc := 177) (L' := [_, _, _, _, some (.int _), _, _, _]) C dX12_lies_177 rfl (nI_1 _) rfl ?_
                        refine g_goto (pc := 180) C 53 dX12_lies_180 rfl ?_
                        refine ih (c + 1) _ _ B W t (by omega) (fun q hq => ?_)
                        simp only [upd]
                        by_cases e : q = c
                        · subst e
                          rw [if_neg (by omega), if_pos rfl, if_pos rfl]
                          exact ⟨rfl, rfl⟩
                        · rw [if_neg (by omega), if_neg (by omega), if_neg (by omega), if_neg (by omega)]
                          exact hhb q (by omega)
                      · exact absurd (nI_le (Nat.le_refl i) (by omega)) h6
                    | succ j jh =>
                      intro i B W t hi
                      have hso2 := hso i
                      have hsh2 := hsh i
                      have hjh := fun B W t => jh (i + 1) B W t (by omega)
                      rw [show pnF fr (s_I S 1123 1000) (hvF (s_A S 1010) a b c) P H (i + 1) = passF fr (s_I S 1123 1000) (pnF fr (s_I S 1123 1000) (hvF (s_A S 1010) a b c) P H i) P (H + i) from rfl] at hjh
                      generalize pnF fr (s_I S 1123 1000) (hvF (s_A S 1010) a b c) P H i = sn at hso2 hsh2 hjh ⊢
                      refine g_iload (pc := 104) C dX12_lies_104 rfl ?_
                      refine g_iload_n (pc := 106) C dX12_lies_106 rfl ?_
                      refine g_icmp_ge (pc := 107) C 121 dX12_lies_107 rfl (fun h6 => ?_) (fun h6 => ?_)
                      · exact absurd h6 (nI_ge (by omega) (by omega))
                      · refine g_aload_n (pc := 110) C dX12_lies_110 rfl ?_
                        refine cg_X12_373 (pc := 111) C rfl (m_z (hmA _ _ _ _ _) rfl) (c_X12_passes _ _ (liU (keepS S) hb sn) (hmU _ _) P (H + i) ⟨(hso2 4 (by omega)).trans hP, hP7, hsh2, by omega⟩ fr (hfrU _ _) B W t) ⟨rfl, rfl⟩ ⟨Nat.zero_le _, Nat.zero_le _⟩ rfl (Nat.le_of_ble_eq_true rfl) dX12_lies_111 ?_
                        rintro _ _ ⟨B', W', t', rfl, rfl⟩
                        refine gx_S (S' := scw (liU (keepS S) hb (passF fr (s_I S 1123 1000) sn P (H + i))) B' W' t') (by rw [li_ruA, li_uD, li_uA, keep_D]) ?_
                        refine g_pop (pc := 114) C dX12_lies_114 rfl ?_
                        refine g_iinc (pc := 115) (L' := [_, _, _, _, _, some (.int _), _, _]) C dX12_lies_115 rfl (nI_1 _) rfl ?_
                        refine g_goto (pc := 118) C 104 dX12_lies_118 rfl ?_
                        exact hjh B' W' t'
                  exact trips nn 0 B W t (by omega)
                have second : ∀ B W t, gx_G w X (scw (liU (keepS S) hb (hv1 (s_A S 1010) a c)) B W t) 0 0 80 [some (.ref (ad (w_b w) 1000)), some (.int (nI a)), some (.int (nI b)), some (.int (nI nn)), some (.int what), some (.int (nI c)), z6, none] [] (gx_E w X post) := by
                  intro B W t
                  refine g_iload (pc := 80) C dX12_lies_80 rfl ?_
                  refine g_iconst (pc := 82) (v := nI 2) C dX12_lies_82 (by decide) ?_
                  refine g_irem (pc := 83) C dX12_lies_83 (by decide) ?_
                  refine gx_ti erem ?_
                  refine g_iconst (pc := 84) (v := nI 1) C dX12_lies_84 (by decide) ?_
                  refine g_icmp_ne (pc := 85) C 101 dX12_lies_85 rfl (fun h7 => ?_) (fun h7 => ?_)
                  · have h7 : ¬ c % 2 = 1 := fun q => h7 (by rw [q])
                    have e : hvF (s_A S 1010) a b c = hv1 (s_A S 1010) a c := if_neg h7
                    rw [← e]
                    exact tail B W t
                  · have h7 : c % 2 = 1 := (nI_eq (by omega) (by omega)).mp (Decidable.not_not.mp h7)
                    have e : hvF (s_A S 1010) a b c = upd (hv1 (s_A S 1010) a c) (14 + b) (hv1 (s_A S 1010) a c (14 + b) / nI 2) := if_pos h7
                    refine g_aload_n (pc := 88) C dX12_lies_88 rfl ?_
                    refine mg_39 (pc := 89) C (hmA _ _ _ _ _) dX12_lies_89 ?_
                    refine g_bipush (pc := 92) (v := nI 14) C dX12_lies_92 (by decide) ?_
                    refine g_iload_n (pc := 94) C dX12_lies_94 rfl ?_
                    refine g_iadd (pc := 95) C dX12_lies_95 ?_
                    refine g_dup2 (pc := 96) C dX12_lies_96 rfl rfl ?_
                    refine n_iald (pc := 97) (k := 1010) (n := 190) C rfl rfl (m_z (hmA _ _ _ _ _) rfl) (isn_add isn_v isn_v) rfl (by omega) dX12_lies_97 ?_
                    refine g_iconst (pc := 98) (v := nI 2) C dX12_lies_98 (by decide) ?_
                    refine g_idiv (pc := 99) C dX12_lies_99 (by decide) ?_
                    refine n_iast (pc := 100) (k := 1010) (n := 190) C rfl rfl (m_z (hmA _ _ _ _ _) rfl) (isn_add isn_v isn_v) rfl (by omega) dX12_lies_100 ?_
                    refine gx_S (S' := scw (liU (keepS S) hb (hvF (s_A S 1010) a b c)) B W t) (by rw [li_rA, li_A, e]) ?_
                    exact tail B W t
                refine g_iload (pc := 53) C dX12_lies_53 rfl ?_
                refine g_iconst (pc := 55) (v := nI 4) C dX12_lies_55 (by decide) ?_
                refine g_icmp_ge (pc := 56) C 183 dX12_lies_56 rfl (fun h6 => ?_) (fun h6 => ?_)
                · exact absurd h6 (nI_ge (by omega) (by omega))
                · refine g_iload (pc := 59) C dX12_lies_59 rfl ?_
                  refine g_iconst (pc := 61) (v := nI 2) C dX12_lies_61 (by decide) ?_
                  refine g_idiv (pc := 62) C dX12_lies_62 (by decide) ?_
                  refine gx_ti ediv ?_
                  refine g_iconst (pc := 63) (v := nI 1) C dX12_lies_63 (by decide) ?_
                  refine g_icmp_ne (pc := 64) C 80 dX12_lies_64 rfl (fun h7 => ?_) (fun h7 => ?_)
                  · have h7 : ¬ c / 2 = 1 := fun q => h7 (by rw [q])
                    have e : hv1 (s_A S 1010) a c = s_A S 1010 := if_neg h7
                    have := second B W t
                    rw [e] at this
                    exact this
                  · have h7 : c / 2 = 1 := (nI_eq (by omega) (by omega)).mp (Decidable.not_not.mp h7)
                    have e : hv1 (s_A S 1010) a c = upd (s_A S 1010) (14 + a) (s_A S 1010 (14 + a) / nI 2) := if_pos h7
                    refine g_aload_n (pc := 67) C dX12_lies_67 rfl ?_
                    refine mg_39 (pc := 68) C (hmA _ _ _ _ _) dX12_lies_68 ?_
                    refine g_bipush (pc := 71) (v := nI 14) C dX12_lies_71 (by decide) ?_
                    refine g_iload_n (pc := 73) C dX12_lies_73 rfl ?_
                    refine g_iadd (pc := 74) C dX12_lies_74 ?_
                    refine g_dup2 (pc := 75) C dX12_lies_75 rfl rfl ?_
                    refine n_iald (pc := 76) (k := 1010) (n := 190) C rfl rfl (m_z (hmA _ _ _ _ _) rfl) (isn_add isn_v isn_v) rfl (by omega) dX12_lies_76 ?_
                    refine g_iconst (pc := 77) (v := nI 2) C dX12_lies_77 (by decide) ?_
                    refine g_idiv (pc := 78) C dX12_lies_78 (by decide) ?_
                    refine n_iast (pc := 79) (k := 1010) (n := 190) C rfl rfl (m_z (hmA _ _ _ _ _) rfl) (isn_add isn_v isn_v) rfl (by omega) dX12_lies_79 ?_
                    refine gx_S (S' := scw (liU (keepS S) hb (hv1 (s_A S 1010) a c)) B W t) (by rw [li_rA, li_A, e]) ?_
                    exact second B W t
            exact loop 4 0 _ _ _ _ _ rfl (fun q hq => absurd hq (by omega))
          · exact bad _ _ _ (fun q => bI_0.mp (Decidable.not_not.mp h5) q.2.2.2.2)
