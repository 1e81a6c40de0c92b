/-! ===== THE CLASS: CrossingReader: readClause, read ===== -/
/-- a CLAUSE of a CROSSING, by its word -/
theorem clsC_by {T : Nat → Int32} {L n c P : Nat} {D : Nat → Int32} (hc : c ≤ 40) (h0 : (c = 0 ∧ D 0 = nI 0) ∨ (0 < c ∧ D 0 = nI 1)) : clsC T L n c P D = (if wdP T L (skN T L n) (jsV 0) then (if c = 0 then boatN T L (ltN T L (skN T L n)) P D else .error (ftN 4 (skN T L n))) else if wdP T L (skN T L n) (jsV 1) then (if (0 < c ∧ c < 40) ∧ ¬ P = 7 then persN T L (ltN T L (skN T L n)) P D else .error (ftN 4 (skN T L n))) else if wdP T L (skN T L n) (jsV 2) then (if (0 < c ∧ c < 40) ∧ ¬ P = 7 then corkN T L (ltN T L (skN T L n)) P D else .error (ftN 4 (skN T L n))) else if wdP T L (skN T L n) (jsV 3) then (if 0 < c ∧ c < 40 then besN T L (ltN T L (skN T L n)) P D else .error (ftN 4 (skN T L n))) else if wdP T L (skN T L n) (jsV 4) then (if 0 < c ∧ c < 40 then fogN T L (ltN T L (skN T L n)) P D else .error (ftN 4 (skN T L n))) else .error (ftN 0 (skN T L n))) := by
  unfold clsC
  generalize skN T L n = q
  have e0 : jsV 0 = 439788663417 := rfl
  have e1 : jsV 1 = 123581014175598 := rfl
  have e2 : jsV 2 = 1668248171 := rfl
  have e3 : jsV 3 = 108187867505765 := rfl
  have e4 : jsV 4 = 6713191 := rfl
  have hd0 : (0 < D 0 ↔ 0 < c) ∧ (D 0 = 0 ↔ c = 0) := by
    rcases h0 with ⟨a, b⟩ | ⟨a, b⟩
    · rw [b, a]; exact ⟨⟨fun z => absurd z (by decide), fun z => absurd z (by decide)⟩, ⟨fun _ => rfl, fun _ => rfl⟩⟩
    · rw [b]; exact ⟨⟨fun _ => a, fun _ => by decide⟩, ⟨fun z => absurd z (by decide), fun z => by omega⟩⟩
  rw [e0, e1, e2, e3, e4]
  have hB : boatF T L q P D = if 0 < D 0 then .error (ftN 4 q) else boatN T L (ltN T L q) P D := rfl
  have hPe : persF T L q P D = if P = 7 then .error (ftN 4 q) else persN T L (ltN T L q) P D := rfl
  have hCo : corkF T L q P D = if P = 7 then .error (ftN 4 q) else corkN T L (ltN T L q) P D := rfl
  have hBe : besF T L q P D = besN T L (ltN T L q) P D := rfl
  have hFg : fgF T L q P D = fogN T L (ltN T L q) P D := rfl
  have hcl : ∀ r : RC, (c = 40 → r = .error (ftN 4 q)) → (¬ c = 40 → r = lineF T L q P D) → (if c = 40 then .error (ftN 4 q) else lineF T L q P D) = r := by
    intro r h1 h2
    by_cases e : c = 40
    · rw [if_pos e]; exact (h1 e).symm
    · rw [if_neg e]; exact (h2 e).symm
  unfold fwP
  by_cases w0 : wdP T L q 439788663417
  · rw [if_pos (Or.inl w0), if_pos w0]
    refine hcl _ (fun e => if_neg (by omega)) (fun e => ?_)
    unfold lineF
    rw [if_pos w0, hB]
    by_cases c0 : c = 0
    · rw [if_pos c0, if_neg (fun z => by have := hd0.1.mp z; omega)]
    · rw [if_neg c0, if_pos (hd0.1.mpr (by omega))]
  · rw [if_neg w0]
    have line : lineF T L q P D = if D 0 = 0 then .error (ftN 4 q) else if wdP T L q 123581014175598 then persF T L q P D else if wdP T L q 1668248171 then corkF T L q P D else if wdP T L q 108187867505765 then besF T L q P D else fgF T L q P D := by unfold lineF; rw [if_neg w0]
    have fin : ∀ (g : Prop) [Decidable g] (r : RC), (g → ¬ c = 40 ∧ ¬ c = 0) → (¬ c = 0 → ¬ c = 40 → (if wdP T L q 123581014175598 then persF T L q P D else if wdP T L q 1668248171 then corkF T L q P D else if wdP T L q 108187867505765 then besF T L q P D else fgF T L q P D) = if g then r else .error (ftN 4 q)) → (if c = 40 then .error (ftN 4 q) else lineF T L q P D) = if g then r else .error (ftN 4 q) := by
      intro g _ r hg h2
      refine hcl _ (fun e => if_neg (fun z => (hg z).1 e)) (fun e => ?_)
      rw [line]
      by_cases c0 : c = 0
      · rw [if_pos (hd0.2.mpr c0), if_neg (fun z => (hg z).2 c0)]
      · rw [if_neg (fun z => c0 (hd0.2.mp z))]; exact (h2 c0 e).symm
    by_cases w1 : wdP T L q 123581014175598
    · rw [if_pos (Or.inr (Or.inl w1)), if_pos w1]
      refine fin _ _ (fun z => ⟨by omega, by omega⟩) (fun a b => ?_)
      rw [if_pos w1, hPe]
      by_cases p7 : P = 7
      · rw [if_pos p7, if_neg (fun z => z.2 p7)]
      · rw [if_neg p7, if_pos ⟨⟨by omega, by omega⟩, p7⟩]
    · rw [if_neg w1]
      by_cases w2 : wdP T L q 1668248171
      · rw [if_pos (Or.inr (Or.inr (Or.inl w2))), if_pos w2]
        refine fin _ _ (fun z => ⟨by omega, by omega⟩) (fun a b => ?_)
        rw [if_neg w1, if_pos w2, hCo]
        by_cases p7 : P = 7
        · rw [if_pos p7, if_neg (fun z => z.2 p7)]
        · rw [if_neg p7, if_pos ⟨⟨by omega, by omega⟩, p7⟩]
      · rw [if_neg w2]
        by_cases w3 : wdP T L q 108187867505765
        · rw [if_pos (Or.inr (Or.inr (Or.inr (Or.inl w3)))), if_pos w3]
          refine fin _ _ (fun z => ⟨by omega, by omega⟩) (fun a b => ?_)
          rw [if_neg w1, if_neg w2, if_pos w3, hBe, if_pos ⟨by omega, by omega⟩]
        · rw [if_neg w3]
          by_cases w4 : wdP T L q 6713191
          · rw [if_pos (Or.inr (Or.inr (Or.inr (Or.inr w4)))), if_pos w4]
            refine fin _ _ (fun z => ⟨by omega, by omega⟩) (fun a b => ?_)
            rw [if_neg w1, if_neg w2, if_neg w3, hFg, if_pos ⟨by omega, by omega⟩]
          · rw [if_neg w4, if_neg (fun z => z.elim w0 (fun z => z.elim w1 (fun z => z.elim w2 (fun z => z.elim w3 w4))))]
theorem c_X1_readClause (w : Wd) (j : SJ) (l : Launch) (U : St) (T : Nat → Int32) (c ca cg cl ce L n k P : Nat) (D : Nat → Int32) (h : cwP U T c ca cg cl ce L n) (hz : crZ U c ca cg cl ce P D) (hk40 : k ≤ 40) (h0 : (k = 0 ∧ D 0 = nI 0) ∨ (0 < k ∧ D 0 = nI 1)) : gx_MJ w j l yX1_readClause cX1_readClause 5 none rmX1_readClause [.ref (ad (w_b w) 3), .int (nI k)] (rk3 U n 0) (pxCr U c ca cg cl ce L (clsC T L n k P D)) := by
  obtain ⟨hd, hT, hi, hn, hK, hk5⟩ := id h
  have hL := hd.2.1.2.2.2
  have hP7 := hz.2.2.1
  have o3 : ∀ S, 121 ≤ s_z S → gx_o S 3 1 := fun S q => o_st q rfl rfl
  have zu : 121 ≤ s_z U := hd.2.1.1
  have hpe : ∀ n f, s_I (rk3 U n f) 4 c = nI P := fun n f => (rk3_g (by decide) (by decide)).trans hz.1.2.2.2.2
  have hs := sk_bd (T := T) hn
  have hidem : skN T L (skN T L n) = skN T L n := skN_idem
  have hR := clsC_by (T := T) (L := L) (n := n) (c := k) (P := P) (D := D) hk40 h0
  generalize clsC T L n k P D = R at hR ⊢
  generalize hpost : pxCr U c ca cg cl ce L R = post
  refine gx_startJ rfl 3 rfl (Nat.le_of_ble_eq_true rfl) ?_
  intro X C J hl
  subst hl
  refine gx_L (L' := [_, _, _, _, _]) rfl ?_
  refine g_aload_n (pc := 0) C dX1_readClause_0 rfl ?_
  refine cf_X1_36 (pc := 1) C (by exact (o3 _ zu).1) (zk (by exact (o3 _ zu).2)) (t3_skip _ _ hT hd hn 0) ⟨rfl, rfl⟩ ⟨rfl, rfl⟩ ⟨Nat.zero_le _, Nat.zero_le _⟩ rfl (Nat.le_of_ble_eq_true rfl) dX1_readClause_1 ?_
  refine g_istore_n (pc := 4) (L' := [_, some (.int _), _, _, _]) C dX1_readClause_4 rfl rfl ?_
  generalize skN T L n = q at hs hidem hR ⊢
  have hlt := lt_le (T := T) (L := L) (n := q) hs.2
  have cw := fun i hi => t3_word w j (x_l X) hT hd hs.2 0 i hi
  simp only [hidem] at cw
  have hw2 : cwP U T c ca cg cl ce L (ltN T L q) := h.ch cch.refl hlt.2
  have at44 : gx_G w X (rk3 U q 0) 0 0 44 [some (.ref (ad (w_b w) 3)), some (.int (nI k)), some (.int (nI q)), some (.int (bI (0 < k ∧ k < 40))), some (.int (bI ((0 < k ∧ k < 40) ∧ ¬ P = 7)))] [] (gx_E w X post) := by
    refine g_aload_n (pc := 44) C dX1_readClause_44 rfl ?_
    refine g_ldcS (pc := 45) C (js_X1_43 J) dX1_readClause_45 ?_
    refine cfj_X1_45 (pc := 47) C J (by exact (o3 _ zu).1) (zk (by exact (o3 _ zu).2)) (cw 0 (by omega)) ⟨rfl, rfl⟩ ⟨rfl, rfl⟩ ⟨Nat.zero_le _, Nat.zero_le _⟩ rfl (Nat.le_of_ble_eq_true rfl) dX1_readClause_47 ?_
    by_cases w0 : wdP T L q (jsV 0)
    · rw [if_pos w0] at hR ⊢
      refine g_if_eq (pc := 50) C 70 dX1_readClause_50 rfl (fun c1 => ?_) (fun c1 => ?_)
      · exact absurd w0 (bI_0.mp c1)
      · have boat := c_X1_readBoat w (x_l X) U T c ca cg cl ce L (ltN T L q) q P D hw2 hz (k = 0)
        rw [← hR, hpost] at boat
        refine g_aload_n (pc := 53) C dX1_readClause_53 rfl ?_
        refine g_iload_n (pc := 54) C dX1_readClause_54 rfl ?_
        by_cases k0 : k = 0
        · rw [bI_t k0] at boat
          refine g_if_ne (pc := 55) C 62 dX1_readClause_55 rfl (fun c2 => ?_) (fun c2 => ?_)
          · exact absurd (by rw [k0]; rfl) c2
          · refine g_iconst (pc := 58) (v := nI 1) C dX1_readClause_58 (by decide) ?_
            refine g_goto (pc := 59) C 63 dX1_readClause_59 rfl ?_
            refine g_iload_n (pc := 63) C dX1_readClause_63 rfl ?_
            refine cg_X1_49 (pc := 64) C (by exact (o3 _ zu).1) (zk (by exact (o3 _ zu).2)) boat ⟨rfl, rfl⟩ ⟨Nat.zero_le _, Nat.zero_le _⟩ rfl (Nat.le_of_ble_eq_true rfl) dX1_readClause_64 ?_
            rintro _ S1 hq
            have e := hq
            rw [← hpost] at e
            obtain ⟨rfl, -⟩ := e
            refine g_goto (pc := 67) C 152 dX1_readClause_67 rfl ?_
            exact g_return (pc := 152) C ⟨rfl, rfl⟩ dX1_readClause_152 hq
        · rw [bI_f k0] at boat
          refine g_if_ne (pc := 55) C 62 dX1_readClause_55 rfl (fun c2 => ?_) (fun c2 => ?_)
          · refine g_iconst (pc := 62) (v := nI 0) C dX1_readClause_62 (by decide) ?_
            refine g_iload_n (pc := 63) C dX1_readClause_63 rfl ?_
            refine cg_X1_49 (pc := 64) C (by exact (o3 _ zu).1) (zk (by exact (o3 _ zu).2)) boat ⟨rfl, rfl⟩ ⟨Nat.zero_le _, Nat.zero_le _⟩ rfl (Nat.le_of_ble_eq_true rfl) dX1_readClause_64 ?_
            rintro _ S1 hq
            have e := hq
            rw [← hpost] at e
            obtain ⟨rfl, -⟩ := e
            refine g_goto (pc := 67) C 152 dX1_readClause_67 rfl ?_
            exact g_return (pc := 152) C ⟨rfl, rfl⟩ dX1_readClause_152 hq
          · exact absurd ((nI_eq (b := 0) (by omega) (by omega)).mp (Decidable.not_not.mp c2)) k0
    · rw [if_neg w0] at hR ⊢
      refine g_if_eq (pc := 50) C 70 dX1_readClause_50 rfl (fun c1 => ?_) (fun c1 => ?_)
      · refine g_aload_n (pc := 70) C dX1_readClause_70 rfl ?_
        refine g_ldcS (pc := 71) C (js_X1_53 J) dX1_readClause_71 ?_
        refine cfj_X1_45 (pc := 73) C J (by exact (o3 _ zu).1) (zk (by exact (o3 _ zu).2)) (cw 1 (by omega)) ⟨rfl, rfl⟩ ⟨rfl, rfl⟩ ⟨Nat.zero_le _, Nat.zero_le _⟩ rfl (Nat.le_of_ble_eq_true rfl) dX1_readClause_73 ?_
        by_cases w1 : wdP T L q (jsV 1)
        · rw [if_pos w1] at hR ⊢
          refine g_if_eq (pc := 76) C 89 dX1_readClause_76 rfl (fun c2 => ?_) (fun c2 => ?_)
          · exact absurd w1 (bI_0.mp c2)
          · have ct := c_X1_readPerson w (x_l X) U T c ca cg cl ce L (ltN T L q) q P D hw2 hz ((0 < k ∧ k < 40) ∧ ¬ P = 7) (fun z => by omega)
            rw [← hR, hpost] at ct
            refine g_aload_n (pc := 79) C dX1_readClause_79 rfl ?_
            refine g_iload (pc := 80) C dX1_readClause_80 rfl ?_
            refine g_iload_n (pc := 82) C dX1_readClause_82 rfl ?_
            refine cg_X1_55 (pc := 83) C (by exact (o3 _ zu).1) (zk (by exact (o3 _ zu).2)) ct ⟨rfl, rfl⟩ ⟨Nat.zero_le _, Nat.zero_le _⟩ rfl (Nat.le_of_ble_eq_true rfl) dX1_readClause_83 ?_
            rintro _ S1 hq
            have e := hq
            rw [← hpost] at e
            obtain ⟨rfl, -⟩ := e
            refine g_goto (pc := 86) C 152 dX1_readClause_86 rfl ?_
            exact g_return (pc := 152) C ⟨rfl, rfl⟩ dX1_readClause_152 hq
        · rw [if_neg w1] at hR ⊢
          refine g_if_eq (pc := 76) C 89 dX1_readClause_76 rfl (fun c2 => ?_) (fun c2 => ?_)
          · refine g_aload_n (pc := 89) C dX1_readClause_89 rfl ?_
            refine g_ldcS (pc := 90) C (js_X1_58 J) dX1_readClause_90 ?_
            refine cfj_X1_45 (pc := 92) C J (by exact (o3 _ zu).1) (zk (by exact (o3 _ zu).2)) (cw 2 (by omega)) ⟨rfl, rfl⟩ ⟨rfl, rfl⟩ ⟨Nat.zero_le _, Nat.zero_le _⟩ rfl (Nat.le_of_ble_eq_true rfl) dX1_readClause_92 ?_
            by_cases w2 : wdP T L q (jsV 2)
            · rw [if_pos w2] at hR ⊢
              refine g_if_eq (pc := 95) C 108 dX1_readClause_95 rfl (fun c3 => ?_) (fun c3 => ?_)
              · exact absurd w2 (bI_0.mp c3)
              · have ct := c_X1_readCork w (x_l X) U T c ca cg cl ce L (ltN T L q) q P D hw2 hz ((0 < k ∧ k < 40) ∧ ¬ P = 7) (fun z => by omega)
                rw [← hR, hpost] at ct
                refine g_aload_n (pc := 98) C dX1_readClause_98 rfl ?_
                refine g_iload (pc := 99) C dX1_readClause_99 rfl ?_
                refine g_iload_n (pc := 101) C dX1_readClause_101 rfl ?_
                refine cg_X1_60 (pc := 102) C (by exact (o3 _ zu).1) (zk (by exact (o3 _ zu).2)) ct ⟨rfl, rfl⟩ ⟨Nat.zero_le _, Nat.zero_le _⟩ rfl (Nat.le_of_ble_eq_true rfl) dX1_readClause_102 ?_
                rintro _ S1 hq
                have e := hq
                rw [← hpost] at e
                obtain ⟨rfl, -⟩ := e
                refine g_goto (pc := 105) C 152 dX1_readClause_105 rfl ?_
                exact g_return (pc := 152) C ⟨rfl, rfl⟩ dX1_readClause_152 hq
            · rw [if_neg w2] at hR ⊢
              refine g_if_eq (pc := 95) C 108 dX1_readClause_95 rfl (fun c3 => ?_) (fun c3 => ?_)
              · refine g_aload_n (pc := 108) C dX1_readClause_108 rfl ?_
                refine g_ldcS (pc := 109) C (js_X1_63 J) dX1_readClause_109 ?_
                refine cfj_X1_45 (pc := 111) C J (by exact (o3 _ zu).1) (zk (by exact (o3 _ zu).2)) (cw 3 (by omega)) ⟨rfl, rfl⟩ ⟨rfl, rfl⟩ ⟨Nat.zero_le _, Nat.zero_le _⟩ rfl (Nat.le_of_ble_eq_true rfl) dX1_readClause_111 ?_
                by_cases w3 : wdP T L q (jsV 3)
                · rw [if_pos w3] at hR ⊢
                  refine g_if_eq (pc := 114) C 126 dX1_readClause_114 rfl (fun c4 => ?_) (fun c4 => ?_)
                  · exact absurd w3 (bI_0.mp c4)
                  · have ct := c_X1_readBeside w (x_l X) U T c ca cg cl ce L (ltN T L q) q P D hw2 hz (0 < k ∧ k < 40)
                    rw [← hR, hpost] at ct
                    refine g_aload_n (pc := 117) C dX1_readClause_117 rfl ?_
                    refine g_iload_n (pc := 118) C dX1_readClause_118 rfl ?_
                    refine g_iload_n (pc := 119) C dX1_readClause_119 rfl ?_
                    refine cg_X1_65 (pc := 120) C (by exact (o3 _ zu).1) (zk (by exact (o3 _ zu).2)) ct ⟨rfl, rfl⟩ ⟨Nat.zero_le _, Nat.zero_le _⟩ rfl (Nat.le_of_ble_eq_true rfl) dX1_readClause_120 ?_
                    rintro _ S1 hq
                    have e := hq
                    rw [← hpost] at e
                    obtain ⟨rfl, -⟩ := e
                    refine g_goto (pc := 123) C 152 dX1_readClause_123 rfl ?_
                    exact g_return (pc := 152) C ⟨rfl, rfl⟩ dX1_readClause_152 hq
                · rw [if_neg w3] at hR ⊢
                  refine g_if_eq (pc := 114) C 126 dX1_readClause_114 rfl (fun c4 => ?_) (fun c4 => ?_)
                  · refine g_aload_n (pc := 126) C dX1_readClause_126 rfl ?_
                    refine g_ldcS (pc := 127) C (js_X1_68 J) dX1_readClause_127 ?_
                    refine cfj_X1_45 (pc := 129) C J (by exact (o3 _ zu).1) (zk (by exact (o3 _ zu).2)) (cw 4 (by omega)) ⟨rfl, rfl⟩ ⟨rfl, rfl⟩ ⟨Nat.zero_le _, Nat.zero_le _⟩ rfl (Nat.le_of_ble_eq_true rfl) dX1_readClause_129 ?_
                    by_cases w4 : wdP T L q (jsV 4)
                    · rw [if_pos w4] at hR ⊢
                      refine g_if_eq (pc := 132) C 144 dX1_readClause_132 rfl (fun c5 => ?_) (fun c5 => ?_)
                      · exact absurd w4 (bI_0.mp c5)
                      · have ct := c_X1_readFog w (x_l X) U T c ca cg cl ce L (ltN T L q) q P D hw2 hz (0 < k ∧ k < 40)
                        rw [← hR, hpost] at ct
                        refine g_aload_n (pc := 135) C dX1_readClause_135 rfl ?_
                        refine g_iload_n (pc := 136) C dX1_readClause_136 rfl ?_
                        refine g_iload_n (pc := 137) C dX1_readClause_137 rfl ?_
                        refine cg_X1_70 (pc := 138) C (by exact (o3 _ zu).1) (zk (by exact (o3 _ zu).2)) ct ⟨rfl, rfl⟩ ⟨Nat.zero_le _, Nat.zero_le _⟩ rfl (Nat.le_of_ble_eq_true rfl) dX1_readClause_138 ?_
                        rintro _ S1 hq
                        have e := hq
                        rw [← hpost] at e
                        obtain ⟨rfl, -⟩ := e
                        refine g_goto (pc := 141) C 152 dX1_readClause_141 rfl ?_
                        exact g_return (pc := 152) C ⟨rfl, rfl⟩ dX1_readClause_152 hq
                    · rw [if_neg w4] at hR ⊢
                      refine g_if_eq (pc := 132) C 144 dX1_readClause_132 rfl (fun c5 => ?_) (fun c5 => ?_)
                      · refine g_aload_n (pc := 144) C dX1_readClause_144 rfl ?_
                        refine g_iconst (pc := 145) (v := nI 0) C dX1_readClause_145 (by decide) ?_
                        refine g_iload_n (pc := 146) C dX1_readClause_146 rfl ?_
                        refine g_iconst (pc := 147) (v := nI 0) C dX1_readClause_147 (by decide) ?_
                        refine cf_X1_73 (pc := 148) C (by exact (o3 _ zu).1) (zk (by exact (o3 _ zu).2)) (c_X5_allow_X1 _ _ U L hd q 0 (nI 0) (nI q) (nI 0) (Or.inl rfl)) ⟨rfl, rfl⟩ ⟨rfl, rfl⟩ ⟨Nat.zero_le _, Nat.zero_le _⟩ rfl (Nat.le_of_ble_eq_true rfl) dX1_readClause_148 ?_
                        refine g_pop (pc := 151) C dX1_readClause_151 rfl ?_
                        rw [← hpost]
                        exact g_return (pc := 152) C ⟨rfl, rfl⟩ dX1_readClause_152 (pxCr_e hR cch.refl hs.2 (by unfold alw; rw [if_pos ⟨rfl, rfl⟩, ft_I]))
                      · exact absurd (bI_0.mpr w4) c5
                  · exact absurd (bI_0.mpr w3) c4
              · exact absurd (bI_0.mpr w2) c3
          · exact absurd (bI_0.mpr w1) c2
      · exact absurd (bI_0.mpr w0) c1
  have at21 : gx_G w X (rk3 U q 0) 0 0 21 [some (.ref (ad (w_b w) 3)), some (.int (nI k)), some (.int (nI q)), some (.int (bI (0 < k ∧ k < 40))), none] [] (gx_E w X post) := by
    refine g_iload_n (pc := 21) C dX1_readClause_21 rfl ?_
    by_cases hf : 0 < k ∧ k < 40
    · refine g_if_eq (pc := 22) C 41 dX1_readClause_22 rfl (fun c1 => ?_) (fun c1 => ?_)
      · exact absurd hf (bI_0.mp c1)
      · refine g_aload_n (pc := 25) C dX1_readClause_25 rfl ?_
        refine fgr_X1_9 (pc := 26) C (by exact (o3 _ zu).1) (zk (by exact (o3 _ zu).2)) (by exact hi) dX1_readClause_26 ?_
        refine fg_X1_40 (pc := 29) C (by exact hK.1.1) (zk (by exact hK.1.2)) dX1_readClause_29 ?_
        refine gx_ti (y := nI P) (hpe _ _) ?_
        refine g_bipush (pc := 32) (v := nI 7) C dX1_readClause_32 (by decide) ?_
        by_cases p7 : P = 7
        · rw [bI_f (show ¬ ((0 < k ∧ k < 40) ∧ ¬ P = 7) from fun z => z.2 p7)] at at44
          refine g_icmp_ge (pc := 34) C 41 dX1_readClause_34 rfl (fun c2 => ?_) (fun c2 => ?_)
          · refine g_iconst (pc := 41) (v := nI 0) C dX1_readClause_41 (by decide) ?_
            refine g_istore (pc := 42) (L' := [_, _, _, some (.int _), _]) C dX1_readClause_42 rfl rfl ?_
            exact at44
          · exact absurd (nI_le (show 7 ≤ P by omega) (by omega)) c2
        · rw [bI_t (show ((0 < k ∧ k < 40) ∧ ¬ P = 7) from ⟨hf, p7⟩)] at at44
          refine g_icmp_ge (pc := 34) C 41 dX1_readClause_34 rfl (fun c2 => ?_) (fun c2 => ?_)
          · exact absurd c2 (nI_ge (show P < 7 by omega) (by omega))
          · refine g_iconst (pc := 37) (v := nI 1) C dX1_readClause_37 (by decide) ?_
            refine g_goto (pc := 38) C 42 dX1_readClause_38 rfl ?_
            refine g_istore (pc := 42) (L' := [_, _, _, some (.int _), _]) C dX1_readClause_42 rfl rfl ?_
            exact at44
    · rw [bI_f (show ¬ ((0 < k ∧ k < 40) ∧ ¬ P = 7) from fun z => hf z.1)] at at44
      refine g_if_eq (pc := 22) C 41 dX1_readClause_22 rfl (fun c1 => ?_) (fun c1 => ?_)
      · refine g_iconst (pc := 41) (v := nI 0) C dX1_readClause_41 (by decide) ?_
        refine g_istore (pc := 42) (L' := [_, _, _, some (.int _), _]) C dX1_readClause_42 rfl rfl ?_
        exact at44
      · exact absurd (bI_0.mpr hf) c1
  refine g_iload_n (pc := 5) C dX1_readClause_5 rfl ?_
  by_cases k0 : 0 < k
  · refine g_if_le (pc := 6) C 19 dX1_readClause_6 rfl (fun c1 => ?_) (fun c1 => ?_)
    · exact absurd c1 (nI_nle k0 (by omega))
    · refine g_iload_n (pc := 9) C dX1_readClause_9 rfl ?_
      refine g_bipush (pc := 10) (v := nI 40) C dX1_readClause_10 (by decide) ?_
      by_cases k4 : k < 40
      · rw [bI_t (show 0 < k ∧ k < 40 from ⟨k0, k4⟩)] at at21
        refine g_icmp_ge (pc := 12) C 19 dX1_readClause_12 rfl (fun c2 => ?_) (fun c2 => ?_)
        · exact absurd c2 (nI_ge k4 (by omega))
        · refine g_iconst (pc := 15) (v := nI 1) C dX1_readClause_15 (by decide) ?_
          refine g_goto (pc := 16) C 20 dX1_readClause_16 rfl ?_
          refine g_istore_n (pc := 20) (L' := [_, _, some (.int _), _, _]) C dX1_readClause_20 rfl rfl ?_
          exact at21
      · rw [bI_f (show ¬ (0 < k ∧ k < 40) from fun z => k4 z.2)] at at21
        refine g_icmp_ge (pc := 12) C 19 dX1_readClause_12 rfl (fun c2 => ?_) (fun c2 => ?_)
        · refine g_iconst (pc := 19) (v := nI 0) C dX1_readClause_19 (by decide) ?_
          refine g_istore_n (pc := 20) (L' := [_, _, some (.int _), _, _]) C dX1_readClause_20 rfl rfl ?_
          exact at21
        · exact absurd (nI_le (show 40 ≤ k by omega) (by omega)) c2
  · rw [bI_f (show ¬ (0 < k ∧ k < 40) from fun z => k0 z.1)] at at21
    refine g_if_le (pc := 6) C 19 dX1_readClause_6 rfl (fun c1 => ?_) (fun c1 => ?_)
    · refine g_iconst (pc := 19) (v := nI 0) C dX1_readClause_19 (by decide) ?_
      refine g_istore_n (pc := 20) (L' := [_, _, some (.int _), _, _]) C dX1_readClause_20 rfl rfl ?_
      exact at21
    · exact absurd (show nI k ≤ 0 by rw [show k = 0 by omega]; decide) c1
