/-! ===== THE CLASS: Puzzles: the fare ===== -/
theorem own_n {P s : Nat} {u : Nat → Int32} (ha : amU P u) {p : Nat} (hp : p < P) : ∃ o, o ≤ 99 ∧ fOwn u P s p = nI o := by
  unfold fOwn
  by_cases c : aimsF u s False P = 0
  · rw [if_pos c]; exact ⟨1, by omega, rfl⟩
  · rw [if_neg c]; exact ha p hp
theorem all_n {P s q : Nat} {u : Nat → Int32} (ha : sdA P u) (hP : P ≤ 7) (hs : s < 128) (hq : q < P) (hb : s.testBit q = true) : ∃ A, 0 < A ∧ A ≤ 700 ∧ fAll u P s = nI A := by
  obtain ⟨a, b, h1, h2, e1, e2⟩ := aims_n (s := s) ha.2.1 ha.2.2.2 P (Nat.le_refl P)
  unfold fAll
  by_cases c : aimsF u s False P = 0
  · rw [if_pos c]; exact ⟨popN s, popN_pos s hs q (by omega) hb, by have := popN_le s hs; omega, rfl⟩
  · rw [if_neg c, e1]
    exact ⟨a, Nat.pos_of_ne_zero (fun e => c (by rw [e1, e]; rfl)), by omega, rfl⟩
theorem rem_n {x A : Nat} (hA : 0 < A) (h1 : A ≤ 700) (hx : x ≤ 1000000) : remF (nI x) (nI A) = nI (x % A) := by
  unfold remF
  rw [pk_div (by omega) (by omega) (by omega), pk_mul, pk_sub (Nat.div_mul_le_self x A)]
  congr 1
  have := Nat.div_add_mod' x A
  omega
theorem mx_1 {A : Nat} (hA : 0 < A) (h1 : A ≤ 700) : mxF (nI 1) (nI A) = nI A := by
  unfold mxF
  by_cases c : nI 1 < nI A
  · rw [if_pos c]
  · rw [if_neg c]
    have : ¬ 1 < A := fun q => c (nI_lt q (by omega))
    congr 1; omega
theorem c_X4_fareOf (w : Wd) (l : Launch) (S : St) (c ca cg cl ce P H : Nat) (u : Nat → Int32) (h : pzS S c ca cg cl ce P H u) (ha : sdA P u) (s mu q : Nat) (hs : s < 128) (hmu : mu ≤ 9999) (hq : q < P) (hbq : s.testBit q = true) : gx_M w l yX4_fareOf cX4_fareOf 13 (some .int) rmX4_fareOf [.ref (ad (w_b w) 74), .int (nI s), .int (nI mu), .int (nI q)] S (pI (fareF u P s (nI mu) q) S) := by
  obtain ⟨hk, hv, hc, hk5, hr, hm⟩ := id h
  have hP7 := hc.2.2
  have o74 : gx_o S 74 4 := o_st hk.1 rfl rfl
  have rc := hv.1
  have rr := hv.2.1
  have hpp := hc.2.1.2.2.2.2.1
  have hA := hr.2.1.2.2.2.2.2
  obtain ⟨A, hA0, hA7, eA⟩ := all_n ha hP7 hs hq hbq
  obtain ⟨oq, hoq, eoq⟩ := own_n (s := s) ha.2.1 hq
  refine gx_start rfl 9 rfl (Nat.le_of_ble_eq_true rfl) ?_
  intro X C _ hl
  subst hl
  refine gx_L (L' := [_, _, _, _, _, _, _, _, _, _, _, _, _]) rfl ?_
  /- the second round: how many are ahead, what is left -/
  have loop2 : ∀ d k z4 z11 z12, k + d = P → gx_G w X S 0 0 116 [some (.ref (ad (w_b w) 74)), some (.int (nI s)), some (.int (nI mu)), some (.int (nI q)), z4, some (.int (bI (aimsF u s False P = 0))), some (.int (nI A)), some (.int (nI (mu * oq))), some (.int (fLeft u P s (nI mu) k)), some (.int (fBef u P s (nI mu) q k)), some (.int (nI k)), z11, z12] [] (gx_E w X (pI (fareF u P s (nI mu) q) S)) := by
    intro d
    induction d with
    | zero =>
      intro k z4 z11 z12 hk
      have hk : k = P := hk
      subst hk
      refine g_iload (pc := 116) C dX4_fareOf_116 rfl ?_
      refine g_aload_n (pc := 118) C dX4_fareOf_118 rfl ?_
      refine fgr_X4_41 (pc := 119) C (by exact o74.1) (zk (by exact o74.2)) (by exact rc) dX4_fareOf_119 ?_
      refine fg_X4_111 (pc := 122) C (by exact hc.1.1.1) (zk (by exact hc.1.1.2)) dX4_fareOf_122 ?_
      refine gx_ti (y := nI k) hpp ?_
      refine g_icmp_ge (pc := 125) C 216 dX4_fareOf_125 rfl (fun c1 => ?_) (fun c1 => ?_)
      · refine g_iload (pc := 216) C dX4_fareOf_216 rfl ?_
        refine g_iload (pc := 218) C dX4_fareOf_218 rfl ?_
        refine g_idiv (pc := 220) C dX4_fareOf_220 (fun e => absurd ((nI_eq (b := 0) (by omega) (by omega)).mp e) (by omega)) ?_
        refine g_iload (pc := 221) C dX4_fareOf_221 rfl ?_
        refine g_iload (pc := 223) C dX4_fareOf_223 rfl ?_
        have hfin : ∀ b, b = (if fBef u k s (nI mu) q k < fLeft u k s (nI mu) k then nI 1 else nI 0) → nI (mu * oq) / nI A + b = fareF u k s (nI mu) q := fun b hb => by
          unfold fareF
          rw [hb, eoq, eA, pk_mul]
        refine g_icmp_ge (pc := 225) C 232 dX4_fareOf_225 rfl (fun c2 => ?_) (fun c2 => ?_)
        · refine g_iconst (pc := 232) (v := nI 0) C dX4_fareOf_232 (by decide) ?_
          refine g_iadd (pc := 233) C dX4_fareOf_233 ?_
          exact g_ireturn (pc := 234) C ⟨rfl, rfl⟩ dX4_fareOf_234 ⟨by rw [hfin _ (if_neg (Int32.not_lt.mpr c2)).symm], rfl⟩
        · refine g_iconst (pc := 228) (v := nI 1) C dX4_fareOf_228 (by decide) ?_
          refine g_goto (pc := 229) C 233 dX4_fareOf_229 rfl ?_
          refine g_iadd (pc := 233) C dX4_fareOf_233 ?_
          exact g_ireturn (pc := 234) C ⟨rfl, rfl⟩ dX4_fareOf_234 ⟨by rw [hfin _ (if_pos (Int32.not_le.mp c2)).symm], rfl⟩
      · exact absurd (nI_le (Nat.le_refl _) (by omega)) c1
    | succ d ih =>
      intro k z4 z11 z12 hk
      have hkP : k < P := by omega
      have next := fun z11 z12 => ih (k + 1) z4 z11 z12 (by omega)
      obtain ⟨ok, hok, eok⟩ := own_n (s := s) ha.2.1 hkP
      have hx : mu * ok ≤ 9999 * 99 := Nat.mul_le_mul hmu hok
      have hxq : mu * oq ≤ 9999 * 99 := Nat.mul_le_mul hmu hoq
      refine g_iload (pc := 116) C dX4_fareOf_116 rfl ?_
      refine g_aload_n (pc := 118) C dX4_fareOf_118 rfl ?_
      refine fgr_X4_41 (pc := 119) C (by exact o74.1) (zk (by exact o74.2)) (by exact rc) dX4_fareOf_119 ?_
      refine fg_X4_111 (pc := 122) C (by exact hc.1.1.1) (zk (by exact hc.1.1.2)) dX4_fareOf_122 ?_
      refine gx_ti (y := nI P) hpp ?_
      refine g_icmp_ge (pc := 125) C 216 dX4_fareOf_125 rfl (fun c1 => ?_) (fun c1 => ?_)
      · exact absurd c1 (nI_ge (by omega) (by omega))
      · refine g_iload_n (pc := 128) C dX4_fareOf_128 rfl ?_
        refine g_iload (pc := 129) C dX4_fareOf_129 rfl ?_
        refine g_ishr (pc := 131) C dX4_fareOf_131 ?_
        refine g_iconst (pc := 132) (v := nI 1) C dX4_fareOf_132 (by decide) ?_
        refine g_iand (pc := 133) C dX4_fareOf_133 ?_
        refine gx_ti (y := (if s.testBit k = true then nI 1 else nI 0)) (shr_bit s hs k (by omega)) ?_
        refine g_iconst (pc := 134) (v := nI 1) C dX4_fareOf_134 (by decide) ?_
        by_cases hb : s.testBit k = true
        · rw [if_pos hb]
          simp only [fLeft, fBef] at next
          rw [if_pos hb, if_pos hb, eok, eoq, eA, pk_mul, pk_mul, rem_n hA0 hA7 (by omega), rem_n hA0 hA7 (by omega)] at next
          refine g_icmp_ne (pc := 135) C 210 dX4_fareOf_135 rfl (fun c2 => ?_) (fun c2 => ?_)
          · exact absurd rfl c2
          · have cont : gx_G w X S 0 0 158 [some (.ref (ad (w_b w) 74)), some (.int (nI s)), some (.int (nI mu)), some (.int (nI q)), z4, some (.int (bI (aimsF u s False P = 0))), some (.int (nI A)), some (.int (nI (mu * oq))), some (.int (fLeft u P s (nI mu) k)), some (.int (fBef u P s (nI mu) q k)), some (.int (nI k)), z11, z12] [.int (nI ok), .int (nI mu)] (gx_E w X (pI (fareF u P s (nI mu) q) S)) := by
              have hA1 := Nat.mod_lt (mu * ok) hA0
              have hA2 := Nat.mod_lt (mu * oq) hA0
              have il : iv (nI (mu * ok % A) - nI (mu * oq % A)) ((mu * ok % A : Nat) - (mu * oq % A : Nat) : Int) := iv_sub (iv_n (by omega)) (iv_n (by omega)) (by omega) (by omega)
              have i0 : iv 0 0 := iv_n (n := 0) (by omega)
              refine g_imul (pc := 158) C dX4_fareOf_158 ?_
              refine gx_ti (y := nI (mu * ok)) (pk_mul _ _) ?_
              refine g_istore (pc := 159) (L' := [_, _, _, _, _, _, _, _, _, _, some (.int _), _, _]) C dX4_fareOf_159 rfl rfl ?_
              refine g_iload (pc := 161) C dX4_fareOf_161 rfl ?_
              refine g_iload (pc := 163) C dX4_fareOf_163 rfl ?_
              refine g_iload (pc := 165) C dX4_fareOf_165 rfl ?_
              refine g_idiv (pc := 167) C dX4_fareOf_167 (fun e => absurd ((nI_eq (b := 0) (by omega) (by omega)).mp e) (by omega)) ?_
              refine g_isub (pc := 168) C dX4_fareOf_168 ?_
              refine g_istore (pc := 169) (L' := [_, _, _, _, _, _, _, some (.int _), _, _, _, _, _]) C dX4_fareOf_169 rfl rfl ?_
              refine g_iload (pc := 171) C dX4_fareOf_171 rfl ?_
              refine g_iload (pc := 173) C dX4_fareOf_173 rfl ?_
              refine g_irem (pc := 175) C dX4_fareOf_175 (fun e => absurd ((nI_eq (b := 0) (by omega) (by omega)).mp e) (by omega)) ?_
              refine gx_ti (y := nI (mu * ok % A)) (pk_rem (by omega) (by omega) (by omega)) ?_
              refine g_iload (pc := 176) C dX4_fareOf_176 rfl ?_
              refine g_iload (pc := 178) C dX4_fareOf_178 rfl ?_
              refine g_irem (pc := 180) C dX4_fareOf_180 (fun e => absurd ((nI_eq (b := 0) (by omega) (by omega)).mp e) (by omega)) ?_
              refine gx_ti (y := nI (mu * oq % A)) (pk_rem (by omega) (by omega) (by omega)) ?_
              refine g_isub (pc := 181) C dX4_fareOf_181 ?_
              refine g_istore (pc := 182) (L' := [_, _, _, _, _, _, _, _, _, _, _, some (.int _), _]) C dX4_fareOf_182 rfl rfl ?_
              refine g_iload (pc := 184) C dX4_fareOf_184 rfl ?_
              refine g_iload (pc := 186) C dX4_fareOf_186 rfl ?_
              have one : (nI (mu * oq % A) < nI (mu * ok % A) ∨ (nI (mu * ok % A) = nI (mu * oq % A) ∧ k < q)) → gx_G w X S 0 0 202 [some (.ref (ad (w_b w) 74)), some (.int (nI s)), some (.int (nI mu)), some (.int (nI q)), z4, some (.int (bI (aimsF u s False P = 0))), some (.int (nI A)), some (.int (nI (mu * oq))), some (.int (fLeft u P s (nI mu) k - nI (mu * ok) / nI A)), some (.int (fBef u P s (nI mu) q k)), some (.int (nI k)), some (.int (nI (mu * ok))), some (.int (nI (mu * ok % A) - nI (mu * oq % A)))] [.int (fBef u P s (nI mu) q k)] (gx_E w X (pI (fareF u P s (nI mu) q) S)) := by
                intro hy
                rw [if_pos hy] at next
                refine g_iconst (pc := 202) (v := nI 1) C dX4_fareOf_202 (by decide) ?_
                refine g_goto (pc := 203) C 207 dX4_fareOf_203 rfl ?_
                refine g_iadd (pc := 207) C dX4_fareOf_207 ?_
                refine g_istore (pc := 208) (L' := [_, _, _, _, _, _, _, _, some (.int _), _, _, _, _]) C dX4_fareOf_208 rfl rfl ?_
                refine g_iinc (pc := 210) (L' := [_, _, _, _, _, _, _, _, _, some (.int _), _, _, _]) C dX4_fareOf_210 rfl (nI_1 _) rfl ?_
                refine g_goto (pc := 213) C 116 dX4_fareOf_213 rfl ?_
                exact next _ _
              have non : ¬ (nI (mu * oq % A) < nI (mu * ok % A) ∨ (nI (mu * ok % A) = nI (mu * oq % A) ∧ k < q)) → gx_G w X S 0 0 206 [some (.ref (ad (w_b w) 74)), some (.int (nI s)), some (.int (nI mu)), some (.int (nI q)), z4, some (.int (bI (aimsF u s False P = 0))), some (.int (nI A)), some (.int (nI (mu * oq))), some (.int (fLeft u P s (nI mu) k - nI (mu * ok) / nI A)), some (.int (fBef u P s (nI mu) q k)), some (.int (nI k)), some (.int (nI (mu * ok))), some (.int (nI (mu * ok % A) - nI (mu * oq % A)))] [.int (fBef u P s (nI mu) q k)] (gx_E w X (pI (fareF u P s (nI mu) q) S)) := by
                intro hy
                rw [if_neg hy] at next
                refine g_iconst (pc := 206) (v := nI 0) C dX4_fareOf_206 (by decide) ?_
                refine g_iadd (pc := 207) C dX4_fareOf_207 ?_
                refine g_istore (pc := 208) (L' := [_, _, _, _, _, _, _, _, some (.int _), _, _, _, _]) C dX4_fareOf_208 rfl rfl ?_
                refine g_iinc (pc := 210) (L' := [_, _, _, _, _, _, _, _, _, some (.int _), _, _, _]) C dX4_fareOf_210 rfl (nI_1 _) rfl ?_
                refine g_goto (pc := 213) C 116 dX4_fareOf_213 rfl ?_
                exact next _ _
              refine g_if_gt (pc := 188) C 202 dX4_fareOf_188 rfl (fun c3 => ?_) (fun c3 => ?_)
              · have c3 := (iv_lt i0 il).mp c3
                exact one (Or.inl (nI_lt (by omega) (by omega)))
              · have c3 : ¬ (0 : Int) < _ := fun q => c3 ((iv_lt i0 il).mpr q)
                have n1 : ¬ nI (mu * oq % A) < nI (mu * ok % A) := nI_nlt (by omega) (by omega)
                refine g_iload (pc := 191) C dX4_fareOf_191 rfl ?_
                refine g_if_ne (pc := 193) C 206 dX4_fareOf_193 rfl (fun c4 => ?_) (fun c4 => ?_)
                · refine non (fun z => z.elim n1 (fun z => c4 ?_))
                  have := (nI_eq (by omega) (by omega)).mp z.1
                  exact (iv_eq il i0).mpr (by omega)
                · have c4 := (iv_eq il i0).mp (Decidable.not_not.mp c4)
                  refine g_iload (pc := 196) C dX4_fareOf_196 rfl ?_
                  refine g_iload_n (pc := 198) C dX4_fareOf_198 rfl ?_
                  refine g_icmp_ge (pc := 199) C 206 dX4_fareOf_199 rfl (fun c5 => ?_) (fun c5 => ?_)
                  · exact non (fun z => z.elim n1 (fun z => absurd c5 (nI_ge z.2 (by omega))))
                  · exact one (Or.inr ⟨by congr 1; omega, Nat.lt_of_not_le (fun z => c5 (nI_le z (by omega)))⟩)
            refine g_iload_n (pc := 138) C dX4_fareOf_138 rfl ?_
            refine g_iload (pc := 139) C dX4_fareOf_139 rfl ?_
            by_cases ca : aimsF u s False P = 0
            · rw [bI_t ca] at cont ⊢
              have e1 : ok = 1 := (nI_eq (by omega) (by omega)).mp (eok.symm.trans (if_pos ca))
              rw [e1] at cont
              refine g_if_eq (pc := 141) C 148 dX4_fareOf_141 rfl (fun c3 => ?_) (fun c3 => ?_)
              · exact absurd c3 (by decide)
              · refine g_iconst (pc := 144) (v := nI 1) C dX4_fareOf_144 (by decide) ?_
                refine g_goto (pc := 145) C 158 dX4_fareOf_145 rfl ?_
                exact cont
            · rw [bI_f ca] at cont ⊢
              have e1 : u (14 + k) = nI ok := (if_neg ca).symm.trans eok
              refine g_if_eq (pc := 141) C 148 dX4_fareOf_141 rfl (fun c3 => ?_) (fun c3 => ?_)
              · refine g_aload_n (pc := 148) C dX4_fareOf_148 rfl ?_
                refine fgr_X4_45 (pc := 149) C (by exact o74.1) (zk (by exact o74.2)) (by exact rr) dX4_fareOf_149 ?_
                refine fgr_X4_120 (pc := 152) C (by exact hr.1.1.1) (zk (by exact hr.1.1.2)) (by exact hr.1.2.1) dX4_fareOf_152 ?_
                refine g_iload (pc := 155) C dX4_fareOf_155 rfl ?_
                refine n_iald (pc := 157) (n := 7) C (by exact hr.1.2.2.1) (by exact hr.1.2.2.2.1) (zk (by exact hr.1.2.2.2.2)) isn_v rfl (by omega) dX4_fareOf_157 ?_
                refine gx_ti (y := nI ok) ((hA k hkP).trans e1) ?_
                exact cont
              · exact absurd rfl c3
        · rw [if_neg hb]
          simp only [fLeft, fBef] at next
          rw [if_neg hb, if_neg hb] at next
          refine g_icmp_ne (pc := 135) C 210 dX4_fareOf_135 rfl (fun c2 => ?_) (fun c2 => ?_)
          · refine g_iinc (pc := 210) (L' := [_, _, _, _, _, _, _, _, _, some (.int _), _, _, _]) C dX4_fareOf_210 rfl (nI_1 _) rfl ?_
            refine g_goto (pc := 213) C 116 dX4_fareOf_213 rfl ?_
            exact next _ _
          · exact absurd (Decidable.not_not.mp c2) (by decide)
  /- the share, then the second round -/
  have share : ∀ z4, gx_G w X S 0 0 85 [some (.ref (ad (w_b w) 74)), some (.int (nI s)), some (.int (nI mu)), some (.int (nI q)), z4, some (.int (bI (aimsF u s False P = 0))), some (.int (nI A)), none, none, none, none, none, none] [] (gx_E w X (pI (fareF u P s (nI mu) q) S)) := by
    intro z4
    have cont : gx_G w X S 0 0 104 [some (.ref (ad (w_b w) 74)), some (.int (nI s)), some (.int (nI mu)), some (.int (nI q)), z4, some (.int (bI (aimsF u s False P = 0))), some (.int (nI A)), none, none, none, none, none, none] [.int (nI oq), .int (nI mu)] (gx_E w X (pI (fareF u P s (nI mu) q) S)) := by
      refine g_imul (pc := 104) C dX4_fareOf_104 ?_
      refine gx_ti (y := nI (mu * oq)) (pk_mul _ _) ?_
      refine g_istore (pc := 105) (L' := [_, _, _, _, _, _, some (.int _), _, _, _, _, _, _]) C dX4_fareOf_105 rfl rfl ?_
      refine g_iload_n (pc := 107) C dX4_fareOf_107 rfl ?_
      refine g_istore (pc := 108) (L' := [_, _, _, _, _, _, _, some (.int _), _, _, _, _, _]) C dX4_fareOf_108 rfl rfl ?_
      refine g_iconst (pc := 110) (v := nI 0) C dX4_fareOf_110 (by decide) ?_
      refine g_istore (pc := 111) (L' := [_, _, _, _, _, _, _, _, some (.int _), _, _, _, _]) C dX4_fareOf_111 rfl rfl ?_
      refine g_iconst (pc := 113) (v := nI 0) C dX4_fareOf_113 (by decide) ?_
      refine g_istore (pc := 114) (L' := [_, _, _, _, _, _, _, _, _, some (.int _), _, _, _]) C dX4_fareOf_114 rfl rfl ?_
      exact loop2 P 0 _ _ _ (by omega)
    refine g_iload_n (pc := 85) C dX4_fareOf_85 rfl ?_
    refine g_iload (pc := 86) C dX4_fareOf_86 rfl ?_
    by_cases ca : aimsF u s False P = 0
    · rw [bI_t ca] at cont ⊢
      have e1 : oq = 1 := (nI_eq (by omega) (by omega)).mp (eoq.symm.trans (if_pos ca))
      rw [e1] at cont
      refine g_if_eq (pc := 88) C 95 dX4_fareOf_88 rfl (fun c3 => ?_) (fun c3 => ?_)
      · exact absurd c3 (by decide)
      · refine g_iconst (pc := 91) (v := nI 1) C dX4_fareOf_91 (by decide) ?_
        refine g_goto (pc := 92) C 104 dX4_fareOf_92 rfl ?_
        exact cont
    · rw [bI_f ca] at cont ⊢
      have e1 : u (14 + q) = nI oq := (if_neg ca).symm.trans eoq
      refine g_if_eq (pc := 88) C 95 dX4_fareOf_88 rfl (fun c3 => ?_) (fun c3 => ?_)
      · refine g_aload_n (pc := 95) C dX4_fareOf_95 rfl ?_
        refine fgr_X4_45 (pc := 96) C (by exact o74.1) (zk (by exact o74.2)) (by exact rr) dX4_fareOf_96 ?_
        refine fgr_X4_120 (pc := 99) C (by exact hr.1.1.1) (zk (by exact hr.1.1.2)) (by exact hr.1.2.1) dX4_fareOf_99 ?_
        refine g_iload_n (pc := 102) C dX4_fareOf_102 rfl ?_
        refine n_iald (pc := 103) (n := 7) C (by exact hr.1.2.2.1) (by exact hr.1.2.2.2.1) (zk (by exact hr.1.2.2.2.2)) isn_v rfl (by omega) dX4_fareOf_103 ?_
        refine gx_ti (y := nI oq) ((hA q hq).trans e1) ?_
        exact cont
      · exact absurd rfl c3
  have loop1 : ∀ d k, k + d = P → gx_G w X S 0 0 6 [some (.ref (ad (w_b w) 74)), some (.int (nI s)), some (.int (nI mu)), some (.int (nI q)), some (.int (aimsF u s False k)), some (.int (nI k)), none, none, none, none, none, none, none] [] (gx_E w X (pI (fareF u P s (nI mu) q) S)) := by
    intro d
    induction d with
    | zero =>
      intro k hk
      have hk : k = P := hk
      subst hk
      refine g_iload (pc := 6) C dX4_fareOf_6 rfl ?_
      refine g_aload_n (pc := 8) C dX4_fareOf_8 rfl ?_
      refine fgr_X4_41 (pc := 9) C (by exact o74.1) (zk (by exact o74.2)) (by exact rc) dX4_fareOf_9 ?_
      refine fg_X4_111 (pc := 12) C (by exact hc.1.1.1) (zk (by exact hc.1.1.2)) dX4_fareOf_12 ?_
      refine gx_ti (y := nI k) hpp ?_
      refine g_icmp_ge (pc := 15) C 53 dX4_fareOf_15 rfl (fun c1 => ?_) (fun c1 => ?_)
      · refine g_iload (pc := 53) C dX4_fareOf_53 rfl ?_
        by_cases ca : aimsF u s False k = 0
        · have eA2 : nI (popN s) = nI A := (if_pos ca).symm.trans eA
          refine g_if_ne (pc := 55) C 62 dX4_fareOf_55 rfl (fun c2 => ?_) (fun c2 => ?_)
          · exact absurd ca c2
          · refine g_iconst (pc := 58) (v := nI 1) C dX4_fareOf_58 (by decide) ?_
            refine g_goto (pc := 59) C 63 dX4_fareOf_59 rfl ?_
            refine g_istore (pc := 63) (L' := [_, _, _, _, some (.int _), _, _, _, _, _, _, _, _]) C dX4_fareOf_63 rfl rfl ?_
            refine g_iconst (pc := 65) (v := nI 1) C dX4_fareOf_65 (by decide) ?_
            refine g_iload (pc := 66) C dX4_fareOf_66 rfl ?_
            refine g_if_eq (pc := 68) C 78 dX4_fareOf_68 rfl (fun c3 => ?_) (fun c3 => ?_)
            · exact absurd c3 (by decide)
            · refine g_iload_n (pc := 71) C dX4_fareOf_71 rfl ?_
              refine cf_X4_81 (pc := 72) C (c_bitCount _ _ S s hs) ⟨rfl, rfl⟩ ⟨rfl, rfl⟩ ⟨Nat.zero_le _, Nat.zero_le _⟩ rfl (Nat.le_of_ble_eq_true rfl) dX4_fareOf_72 ?_
              refine gx_ti (y := nI A) eA2 ?_
              refine g_goto (pc := 75) C 80 dX4_fareOf_75 rfl ?_
              refine g_mmax (pc := 80) C wl_X4_114 ⟨rfl, rfl⟩ ⟨Nat.zero_le _, Nat.zero_le _⟩ rfl (Nat.le_of_ble_eq_true rfl) dX4_fareOf_80 ?_
              refine gx_ti (y := nI A) (mx_1 hA0 hA7) ?_
              refine g_istore (pc := 83) (L' := [_, _, _, _, _, some (.int _), _, _, _, _, _, _, _]) C dX4_fareOf_83 rfl rfl ?_
              have := share (some (.int (aimsF u s False k)))
              rw [bI_t ca] at this
              exact this
        · have eA2 : aimsF u s False k = nI A := (if_neg ca).symm.trans eA
          refine g_if_ne (pc := 55) C 62 dX4_fareOf_55 rfl (fun c2 => ?_) (fun c2 => ?_)
          · refine g_iconst (pc := 62) (v := nI 0) C dX4_fareOf_62 (by decide) ?_
            refine g_istore (pc := 63) (L' := [_, _, _, _, some (.int _), _, _, _, _, _, _, _, _]) C dX4_fareOf_63 rfl rfl ?_
            refine g_iconst (pc := 65) (v := nI 1) C dX4_fareOf_65 (by decide) ?_
            refine g_iload (pc := 66) C dX4_fareOf_66 rfl ?_
            refine g_if_eq (pc := 68) C 78 dX4_fareOf_68 rfl (fun c3 => ?_) (fun c3 => ?_)
            · refine g_iload (pc := 78) C dX4_fareOf_78 rfl ?_
              refine gx_ti (y := nI A) eA2 ?_
              refine g_mmax (pc := 80) C wl_X4_114 ⟨rfl, rfl⟩ ⟨Nat.zero_le _, Nat.zero_le _⟩ rfl (Nat.le_of_ble_eq_true rfl) dX4_fareOf_80 ?_
              refine gx_ti (y := nI A) (mx_1 hA0 hA7) ?_
              refine g_istore (pc := 83) (L' := [_, _, _, _, _, some (.int _), _, _, _, _, _, _, _]) C dX4_fareOf_83 rfl rfl ?_
              have := share (some (.int (aimsF u s False k)))
              rw [bI_f ca] at this
              exact this
            · exact absurd rfl c3
          · exact absurd (Decidable.not_not.mp c2) ca
      · exact absurd (nI_le (Nat.le_refl _) (by omega)) c1
    | succ d ih =>
      intro k hk
      have hkP : k < P := by omega
      have next := ih (k + 1) (by omega)
      simp only [aimsF] at next
      refine g_iload (pc := 6) C dX4_fareOf_6 rfl ?_
      refine g_aload_n (pc := 8) C dX4_fareOf_8 rfl ?_
      refine fgr_X4_41 (pc := 9) C (by exact o74.1) (zk (by exact o74.2)) (by exact rc) dX4_fareOf_9 ?_
      refine fg_X4_111 (pc := 12) C (by exact hc.1.1.1) (zk (by exact hc.1.1.2)) dX4_fareOf_12 ?_
      refine gx_ti (y := nI P) hpp ?_
      refine g_icmp_ge (pc := 15) C 53 dX4_fareOf_15 rfl (fun c1 => ?_) (fun c1 => ?_)
      · exact absurd c1 (nI_ge (by omega) (by omega))
      · refine g_iload (pc := 18) C dX4_fareOf_18 rfl ?_
        refine g_iload_n (pc := 20) C dX4_fareOf_20 rfl ?_
        refine g_iload (pc := 21) C dX4_fareOf_21 rfl ?_
        refine g_ishr (pc := 23) C dX4_fareOf_23 ?_
        refine g_iconst (pc := 24) (v := nI 1) C dX4_fareOf_24 (by decide) ?_
        refine g_iand (pc := 25) C dX4_fareOf_25 ?_
        refine gx_ti (y := (if s.testBit k = true then nI 1 else nI 0)) (shr_bit s hs k (by omega)) ?_
        refine g_iconst (pc := 26) (v := nI 1) C dX4_fareOf_26 (by decide) ?_
        by_cases hb : s.testBit k = true
        · rw [if_pos hb] at next ⊢
          rw [if_neg not_false] at next
          refine g_icmp_ne (pc := 27) C 43 dX4_fareOf_27 rfl (fun c2 => ?_) (fun c2 => ?_)
          · exact absurd rfl c2
          · refine g_aload_n (pc := 30) C dX4_fareOf_30 rfl ?_
            refine fgr_X4_45 (pc := 31) C (by exact o74.1) (zk (by exact o74.2)) (by exact rr) dX4_fareOf_31 ?_
            refine fgr_X4_120 (pc := 34) C (by exact hr.1.1.1) (zk (by exact hr.1.1.2)) (by exact hr.1.2.1) dX4_fareOf_34 ?_
            refine g_iload (pc := 37) C dX4_fareOf_37 rfl ?_
            refine n_iald (pc := 39) (n := 7) C (by exact hr.1.2.2.1) (by exact hr.1.2.2.2.1) (zk (by exact hr.1.2.2.2.2)) isn_v rfl (by omega) dX4_fareOf_39 ?_
            refine gx_ti (y := u (14 + k)) (hA k hkP) ?_
            refine g_goto (pc := 40) C 44 dX4_fareOf_40 rfl ?_
            refine g_iadd (pc := 44) C dX4_fareOf_44 ?_
            refine g_istore (pc := 45) (L' := [_, _, _, some (.int _), _, _, _, _, _, _, _, _, _]) C dX4_fareOf_45 rfl rfl ?_
            refine g_iinc (pc := 47) (L' := [_, _, _, _, some (.int _), _, _, _, _, _, _, _, _]) C dX4_fareOf_47 rfl (nI_1 _) rfl ?_
            refine g_goto (pc := 50) C 6 dX4_fareOf_50 rfl ?_
            exact next
        · rw [if_neg hb] at next ⊢
          refine g_icmp_ne (pc := 27) C 43 dX4_fareOf_27 rfl (fun c2 => ?_) (fun c2 => ?_)
          · refine g_iconst (pc := 43) (v := nI 0) C dX4_fareOf_43 (by decide) ?_
            refine g_iadd (pc := 44) C dX4_fareOf_44 ?_
            refine gx_ti (y := aimsF u s False k) (Int32.add_zero _) ?_
            refine g_istore (pc := 45) (L' := [_, _, _, some (.int _), _, _, _, _, _, _, _, _, _]) C dX4_fareOf_45 rfl rfl ?_
            refine g_iinc (pc := 47) (L' := [_, _, _, _, some (.int _), _, _, _, _, _, _, _, _]) C dX4_fareOf_47 rfl (nI_1 _) rfl ?_
            refine g_goto (pc := 50) C 6 dX4_fareOf_50 rfl ?_
            exact next
          · exact absurd (Decidable.not_not.mp c2) (by decide)
  refine g_iconst (pc := 0) (v := nI 0) C dX4_fareOf_0 (by decide) ?_
  refine g_istore (pc := 1) (L' := [_, _, _, some (.int _), _, _, _, _, _, _, _, _, _]) C dX4_fareOf_1 rfl rfl ?_
  refine g_iconst (pc := 3) (v := nI 0) C dX4_fareOf_3 (by decide) ?_
  refine g_istore (pc := 4) (L' := [_, _, _, _, some (.int _), _, _, _, _, _, _, _, _]) C dX4_fareOf_4 rfl rfl ?_
  exact loop1 P 0 (by omega)
