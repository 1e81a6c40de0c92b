/-! ===== texts: TERMS and SUMS ===== -/
theorem gx_tl {w : Wd} {X : FX} {S : St} {n1 n2 pc : Nat} {L : List (Option Value)} {st : List Value} {Q : State → Prop} {x y : Int64} (h : x = y) (k : gx_G w X S n1 n2 pc L (.long y :: st) Q) : gx_G w X S n1 n2 pc L (.long x :: st) Q := h ▸ k
def opT (c : Int32) : Option Nat := if c = nI 42 then some 4 else if c = nI 47 then some 5 else if c = nI 37 then some 14 else none
def opS (c : Int32) : Option Nat := if c = nI 43 then some 2 else if c = nI 45 then some 3 else none
def loopF (T : Nat → Int32) (L : Nat) (op : Int32 → Option Nat) (item : Nat → Nat → RT) : Nat → Nat → Nat → List Nat → RT
  | 0, n, m, o => .ok (n, m, o)
  | d + 1, n, m, o => match op (seeV T L (skN T L n)) with
    | none => .ok (skN T L n, m, o)
    | some s => match item (skN T L n + 1) m with
      | .error f => .error f
      | .ok (n', m', k) => loopF T L op item d n' m' (o ++ k ++ [s])
def seqF (T : Nat → Int32) (L : Nat) (op : Int32 → Option Nat) (item : Nat → Nat → RT) (n m : Nat) : RT := match item n m with
  | .error f => .error f
  | .ok (n', m', k) => loopF T L op item 400 n' m' k
def termF (T : Nat → Int32) (L : Nat) : Nat → Nat → RT := seqF T L opT (valF T L)
def smF (T : Nat → Int32) (L : Nat) : Nat → Nat → RT := seqF T L opS (termF T L)
/-- what a piece of a text keeps: FAULTS are numbers above 0, places go on, signs are as many as bytes at most -/
def okR (L n : Nat) (r : RT) : Prop := match r with
  | .error f => 0 < f ∧ f ≤ 8 * L + 8
  | .ok (n', m', k) => n < n' ∧ n' ≤ L ∧ m' ≤ 60 ∧ n + k.length ≤ n'
def okI (L : Nat) (item : Nat → Nat → RT) : Prop := ∀ n m, n ≤ L → m ≤ 60 → okR L n (item n m)
theorem okI_val (T : Nat → Int32) (L : Nat) : okI L (valF T L) := by
  intro n m hn hm
  generalize hr : valF T L n m = r
  cases r with
  | error f => exact val_err hr hn
  | ok p =>
    obtain ⟨n', m', k⟩ := p
    obtain ⟨h1, h2, h3, h4, x, rfl, -⟩ := val_ok hr hn
    exact ⟨h1, h2, by omega, by simp only [List.length_cons, List.length_nil]; omega⟩
theorem skF_0 {T : Nat → Int32} {L n : Nat} (h : L ≤ n) : skN T L n = n := by
  unfold skN; rw [show L - n = 0 by omega]; rfl
theorem see_end {T : Nat → Int32} {L n : Nat} (h : L ≤ n) : seeV T L n = -1 := by
  unfold seeV; rw [if_neg (by omega)]
theorem op_lt {T : Nat → Int32} {L n s : Nat} {op : Int32 → Option Nat} (hop : op (-1) = none) (h : op (seeV T L n) = some s) : n < L := by
  refine Nat.lt_of_not_le (fun q => ?_)
  rw [see_end q, hop] at h; cases h
theorem loopF_eq {T : Nat → Int32} {L : Nat} {op : Int32 → Option Nat} {item : Nat → Nat → RT} (hop : op (-1) = none) {d n m : Nat} {o : List Nat} (h : L - n ≤ d) : loopF T L op item d n m o = match op (seeV T L (skN T L n)) with
    | none => .ok (skN T L n, m, o)
    | some s => match item (skN T L n + 1) m with
      | .error f => .error f
      | .ok (n', m', k) => loopF T L op item (d - 1) n' m' (o ++ k ++ [s]) := by
  cases d with
  | zero =>
    rw [skF_0 (by omega), see_end (by omega), hop]; rfl
  | succ d => rfl
theorem loopF_ok {T : Nat → Int32} {L : Nat} {op : Int32 → Option Nat} {item : Nat → Nat → RT} (hop : op (-1) = none) (hi : okI L item) : ∀ (e d n m : Nat) (o : List Nat), L - n ≤ e → e ≤ d → n ≤ L → m ≤ 60 → match loopF T L op item d n m o with
    | .error f => 0 < f ∧ f ≤ 8 * L + 8
    | .ok (n', m', k) => n ≤ n' ∧ n' ≤ L ∧ m' ≤ 60 ∧ n + k.length ≤ n' + o.length := by
  intro e
  induction e with
  | zero =>
    intro d n m o he hd hn hm
    rw [loopF_eq hop (by omega), skF_0 (by omega), see_end (by omega), hop]
    exact ⟨Nat.le_refl _, hn, hm, Nat.le_refl _⟩
  | succ e ih =>
    intro d n m o he hd hn hm
    rw [loopF_eq hop (by omega)]
    have hq1 := sk_ge (T := T) (L := L) (n := n)
    have hq2 := sk_L (T := T) hn
    generalize skN T L n = q at *
    generalize hs : op (seeV T L q) = s
    cases s with
    | none => exact ⟨hq1, hq2, hm, by show n + o.length ≤ q + o.length; omega⟩
    | some s =>
      have hlt := op_lt hop hs
      have := hi (q + 1) m (by omega) hm
      generalize item (q + 1) m = u at this
      cases u with
      | error f => exact this
      | ok p =>
        obtain ⟨n', m', k⟩ := p
        obtain ⟨b1, b2, b3, b4⟩ := this
        have := ih (d - 1) n' m' (o ++ k ++ [s]) (by omega) (by omega) b2 b3
        show match loopF T L op item (d - 1) n' m' (o ++ k ++ [s]) with
          | .error f => 0 < f ∧ f ≤ 8 * L + 8
          | .ok (n', m', k) => n ≤ n' ∧ n' ≤ L ∧ m' ≤ 60 ∧ n + k.length ≤ n' + o.length
        generalize loopF T L op item (d - 1) n' m' (o ++ k ++ [s]) = r at this
        cases r with
        | error f => exact this
        | ok p =>
          obtain ⟨n2, m2, k2⟩ := p
          obtain ⟨c1, c2, c3, c4⟩ := this
          rw [List.length_append, List.length_append] at c4
          have c4 : n' + k2.length ≤ n2 + (o.length + k.length + 1) := c4
          exact ⟨by omega, c2, c3, by omega⟩
theorem okI_seq {T : Nat → Int32} {L : Nat} {op : Int32 → Option Nat} {item : Nat → Nat → RT} (hop : op (-1) = none) (hi : okI L item) (hL : L ≤ 400) : okI L (seqF T L op item) := by
  intro n m hn hm
  have := hi n m hn hm
  unfold seqF
  generalize item n m = u at this
  cases u with
  | error f => exact this
  | ok p =>
    obtain ⟨n', m', k⟩ := p
    obtain ⟨b1, b2, b3, b4⟩ := this
    have := loopF_ok (T := T) hop hi (L - n') 400 n' m' k (Nat.le_refl _) (by omega) b2 b3
    show okR L n (loopF T L op item 400 n' m' k)
    generalize loopF T L op item 400 n' m' k = r at this
    cases r with
    | error f => exact this
    | ok p =>
      obtain ⟨n2, m2, k2⟩ := p
      obtain ⟨c1, c2, c3, c4⟩ := this
      exact ⟨by omega, c2, c3, by omega⟩
theorem okI_term {T : Nat → Int32} {L : Nat} (hL : L ≤ 400) : okI L (termF T L) := okI_seq (by decide) (okI_val T L) hL
theorem okI_sm {T : Nat → Int32} {L : Nat} (hL : L ≤ 400) : okI L (smF T L) := okI_seq (by decide) (okI_term hL) hL
theorem c_X12_term (w : Wd) (l : Launch) (S : St) (L : Nat) (hx : gx_x S L) (t : Nat) (ht6 : t < 6) (i : Nat → Int32) (a : Nat → Nat → Int32) (n m : Nat) (o : List Nat) (h : tx t i a n m o) (hn : n ≤ L) (ho : o.length ≤ n) (h60 : m ≤ 60) : gx_M w l yX12_term cX12_term 2 (some .boolean) rmX12_term [.ref (ad (w_b w) 1000)] (rdS S i a) (px S t i a o (termF (s_A S 1001) L n m)) := by
  have hL : L ≤ 400 := hx.2.1.2
  have hmA : ∀ i a, gx_m (rdS S i a) := fun i a => hx.1
  generalize hr : termF (s_A S 1001) L n m = r
  refine gx_start rfl 1 rfl (Nat.le_of_ble_eq_true rfl) ?_
  intro X C _ hl
  subst hl
  refine gx_L (L' := [_, _]) rfl ?_
  have loop : ∀ e d n1 m1 ks i1 a1 z, L - n1 = e → e ≤ d → tx t i1 a1 n1 m1 (o ++ ks) → n1 ≤ L → (o ++ ks).length ≤ n1 → m1 ≤ 60 → fxI [1108, 1109, 1110, 1112] i i1 → fxT t a a1 → loopF (s_A S 1001) L opT (valF (s_A S 1001) L) d n1 m1 ks = r → gx_G w X (rdS S i1 a1) 0 0 9 [some (.ref (ad (w_b w) 1000)), z] [] (gx_E w X (px S t i a o r)) := by
    intro e
    induction e using Nat.strongRecOn with
    | _ e ih =>
      intro d n1 m1 ks i1 a1 z he hed h1 hn1 ho1 hm1 f1 g1 hl
      rw [loopF_eq (by decide) (by omega)] at hl
      have hq1 := sk_ge (T := s_A S 1001) (L := L) (n := n1)
      have hq2 := sk_L (T := s_A S 1001) hn1
      have hqe : skN (s_A S 1001) L (skN (s_A S 1001) L n1) = skN (s_A S 1001) L n1 := skN_idem
      refine g_aload_n (pc := 9) C dX12_term_9 rfl ?_
      refine cf_X12_105 (pc := 10) C rfl (m_z (hmA _ _) rfl) (r_see _ _ S L hx i1 a1 n1 h1.1 (by omega)) ⟨rfl, rfl⟩ ⟨rfl, rfl⟩ ⟨Nat.zero_le _, Nat.zero_le _⟩ rfl (Nat.le_of_ble_eq_true rfl) dX12_term_10 ?_
      refine g_bipush (pc := 13) (v := nI 42) C dX12_term_13 (by decide) ?_
      generalize hq : skN (s_A S 1001) L n1 = q at *
      generalize hi2 : u1 i1 1108 (nI q) = i2
      have h2 : tx t i2 a1 q m1 (o ++ ks) := by rw [← hi2]; exact tx_u h1 rfl rfl rfl h1.2.2.2.1
      have f2 : fxI [1108, 1109, 1110, 1112] i i2 := f1.trans (by rw [← hi2]; exact fxI.u (by decide))
      have go : ∀ c s, c < 128 → seeV (s_A S 1001) L q = nI c → opT (nI c) = some s → gx_G w X (rdS S i2 a1) 0 0 36 [some (.ref (ad (w_b w) 1000)), z] [] (gx_E w X (px S t i a o r)) := by
        intro c s hc hse hop
        obtain ⟨hqL, hTq⟩ := (see_at hx.2.2 hc).mp hse
        rw [hse, hop] at hl
        have step : ∀ s', s' = s → gx_G w X (rdS S i2 a1) 0 0 74 [some (.ref (ad (w_b w) 1000)), z] [.int (nI s')] (gx_E w X (px S t i a o r)) := by
          intro s' hs'
          subst hs'
          refine g_istore_n (pc := 74) (L' := [some (.ref _), _]) C dX12_term_74 rfl rfl ?_
          refine g_aload_n (pc := 75) C dX12_term_75 rfl ?_
          refine g_dup (pc := 76) C dX12_term_76 rfl ?_
          refine mg_102 (pc := 77) C (hmA _ _) dX12_term_77 ?_
          refine gx_ti (y := nI q) h2.1 ?_
          refine g_iconst (pc := 80) (v := nI 1) C dX12_term_80 (by decide) ?_
          refine g_iadd (pc := 81) C dX12_term_81 ?_
          refine gx_ti (y := nI (q + 1)) (nI_add q 1) ?_
          refine mp_102 (pc := 82) C (hmA _ _) dX12_term_82 ?_
          refine gx_S (S' := rdS S (u1 i2 1108 (nI (q + 1))) a1) (rd_I S i2 a1 1108 _ (by omega)) ?_
          generalize hi3 : u1 i2 1108 (nI (q + 1)) = i3
          have h3 : tx t i3 a1 (q + 1) m1 (o ++ ks) := by rw [← hi3]; exact tx_u h2 rfl rfl rfl h2.2.2.2.1
          have f3 : fxI [1108, 1109, 1110, 1112] i i3 := f2.trans (by rw [← hi3]; exact fxI.u (by decide))
          refine g_aload_n (pc := 85) C dX12_term_85 rfl ?_
          refine cg_X12_188 (pc := 86) C rfl (m_z (hmA _ _) rfl) (c_X12_value _ _ S L hx t ht6 i3 a1 (q + 1) m1 (o ++ ks) h3 (by omega) (by omega) hm1) ⟨rfl, rfl⟩ ⟨Nat.zero_le _, Nat.zero_le _⟩ rfl (Nat.le_of_ble_eq_true rfl) dX12_term_86 ?_
          rintro _ _ ⟨i4, a4, rfl, f4, g4, r4⟩
          have hok := okI_val (s_A S 1001) L (q + 1) m1 (by omega) hm1
          generalize valF (s_A S 1001) L (q + 1) m1 = u at hl r4 hok
          cases u with
          | error f =>
            obtain ⟨rfl, r4⟩ := r4
            have hl : Except.error f = r := hl
            subst hl
            refine g_if_ne (pc := 89) C 94 dX12_term_89 rfl (fun hb => ?_) (fun hb => ?_)
            · exact absurd rfl hb
            · refine g_iconst (pc := 92) (v := nI 0) C dX12_term_92 (by decide) ?_
              exact g_zreturn (pc := 93) C ⟨rfl, rfl⟩ (by first | exact Or.inl rfl | exact Or.inr rfl) dX12_term_93 ⟨i4, a4, rfl, f3.trans f4, g1.trans g4, rfl, r4⟩
          | ok p =>
            obtain ⟨n', m', k⟩ := p
            obtain ⟨rfl, h4⟩ := r4
            obtain ⟨b1, b2, b3, b4⟩ := hok
            have hlen : (o ++ ks ++ k).length = (o ++ ks).length + k.length := List.length_append
            refine g_if_ne (pc := 89) C 94 dX12_term_89 rfl (fun hb => ?_) (fun hb => ?_)
            · refine g_aload_n (pc := 94) C dX12_term_94 rfl ?_
              refine g_iload_n (pc := 95) C dX12_term_95 rfl ?_
              refine g_iconst (pc := 96) (v := nI 0) C dX12_term_96 (by decide) ?_
              refine cg_X12_174 (pc := 97) C rfl (m_z (hmA _ _) rfl) (r_puts _ _ S L hx t ht6 i4 a4 n' m' (o ++ ks ++ k) h4 (by omega) s' 0 s' (by omega)) ⟨rfl, rfl⟩ ⟨Nat.zero_le _, Nat.zero_le _⟩ rfl (Nat.le_of_ble_eq_true rfl) dX12_term_97 ?_
              rintro _ _ ⟨rfl, a5, rfl, g5, h5⟩
              refine g_goto (pc := 100) C 9 dX12_term_100 rfl ?_
              have e5 : o ++ ks ++ k ++ [s'] = o ++ (ks ++ k ++ [s']) := by simp only [List.append_assoc]
              have hlen2 : (o ++ (ks ++ k ++ [s'])).length = (o ++ ks ++ k).length + 1 := by rw [← e5, List.length_append]; rfl
              rw [e5] at h5
              exact ih (L - n') (by omega) (d - 1) n' m' (ks ++ k ++ [s']) i4 a5 _ rfl (by omega) h5 b2 (by omega) b3 (f3.trans f4) ((g1.trans g4).trans g5) hl
            · exact absurd (fun q => absurd q (by decide)) hb
        refine g_aload_n (pc := 36) C dX12_term_36 rfl ?_
        refine mg_7 (pc := 37) C (hmA _ _) dX12_term_37 ?_
        refine g_aload_n (pc := 40) C dX12_term_40 rfl ?_
        refine mg_102 (pc := 41) C (hmA _ _) dX12_term_41 ?_
        refine n_bald (pc := 44) (k := 1001) (n := 400) C rfl rfl (m_z (hmA _ _) rfl) h2.1 rfl (by omega) dX12_term_44 ?_
        refine gx_ti (y := nI c) hTq ?_
        refine g_bipush (pc := 45) (v := nI 42) C dX12_term_45 (by decide) ?_
        unfold opT at hop
        refine g_icmp_ne (pc := 47) C 54 dX12_term_47 rfl (fun ha => ?_) (fun ha => ?_)
        · rw [if_neg ha] at hop
          refine g_aload_n (pc := 54) C dX12_term_54 rfl ?_
          refine mg_7 (pc := 55) C (hmA _ _) dX12_term_55 ?_
          refine g_aload_n (pc := 58) C dX12_term_58 rfl ?_
          refine mg_102 (pc := 59) C (hmA _ _) dX12_term_59 ?_
          refine n_bald (pc := 62) (k := 1001) (n := 400) C rfl rfl (m_z (hmA _ _) rfl) h2.1 rfl (by omega) dX12_term_62 ?_
          refine gx_ti (y := nI c) hTq ?_
          refine g_bipush (pc := 63) (v := nI 47) C dX12_term_63 (by decide) ?_
          refine g_icmp_ne (pc := 65) C 72 dX12_term_65 rfl (fun hb => ?_) (fun hb => ?_)
          · rw [if_neg hb] at hop
            refine g_bipush (pc := 72) (v := nI 14) C dX12_term_72 (by decide) ?_
            exact step 14 (by split at hop <;> cases hop; rfl)
          · rw [if_pos (Decidable.not_not.mp hb)] at hop
            refine g_iconst (pc := 68) (v := nI 5) C dX12_term_68 (by decide) ?_
            refine g_goto (pc := 69) C 74 dX12_term_69 rfl ?_
            exact step 5 (by cases hop; rfl)
        · rw [if_pos (Decidable.not_not.mp ha)] at hop
          refine g_iconst (pc := 50) (v := nI 4) C dX12_term_50 (by decide) ?_
          refine g_goto (pc := 51) C 74 dX12_term_51 rfl ?_
          exact step 4 (by cases hop; rfl)
      refine g_icmp_eq (pc := 15) C 36 dX12_term_15 rfl (fun c1 => ?_) (fun c1 => ?_)
      · exact go 42 4 (by decide) c1 (by decide)
      · refine g_aload_n (pc := 18) C dX12_term_18 rfl ?_
        refine cf_X12_105 (pc := 19) C rfl (m_z (hmA _ _) rfl) (r_seeM _ _ S L hx i2 a1 q h2.1 (by omega) hqe) ⟨rfl, rfl⟩ ⟨rfl, rfl⟩ ⟨Nat.zero_le _, Nat.zero_le _⟩ rfl (Nat.le_of_ble_eq_true rfl) dX12_term_19 ?_
        refine g_bipush (pc := 22) (v := nI 47) C dX12_term_22 (by decide) ?_
        refine g_icmp_eq (pc := 24) C 36 dX12_term_24 rfl (fun c2 => ?_) (fun c2 => ?_)
        · exact go 47 5 (by decide) c2 (by decide)
        · refine g_aload_n (pc := 27) C dX12_term_27 rfl ?_
          refine cf_X12_105 (pc := 28) C rfl (m_z (hmA _ _) rfl) (r_seeM _ _ S L hx i2 a1 q h2.1 (by omega) hqe) ⟨rfl, rfl⟩ ⟨rfl, rfl⟩ ⟨Nat.zero_le _, Nat.zero_le _⟩ rfl (Nat.le_of_ble_eq_true rfl) dX12_term_28 ?_
          refine g_bipush (pc := 31) (v := nI 37) C dX12_term_31 (by decide) ?_
          refine g_icmp_ne (pc := 33) C 103 dX12_term_33 rfl (fun c3 => ?_) (fun c3 => ?_)
          · have hn : opT (seeV (s_A S 1001) L q) = none := by unfold opT; rw [if_neg c1, if_neg c2, if_neg c3]
            rw [hn] at hl
            have hl : Except.ok (q, m1, ks) = r := hl
            subst hl
            refine g_iconst (pc := 103) (v := nI 1) C dX12_term_103 (by decide) ?_
            exact g_zreturn (pc := 104) C ⟨rfl, rfl⟩ (by first | exact Or.inl rfl | exact Or.inr rfl) dX12_term_104 ⟨i2, a1, rfl, f2, g1, rfl, h2⟩
          · exact go 37 14 (by decide) (Decidable.not_not.mp c3) (by decide)
  refine g_aload_n (pc := 0) C dX12_term_0 rfl ?_
  refine cg_X12_188 (pc := 1) C rfl (m_z (hmA _ _) rfl) (c_X12_value _ _ S L hx t ht6 i a n m o h hn ho h60) ⟨rfl, rfl⟩ ⟨Nat.zero_le _, Nat.zero_le _⟩ rfl (Nat.le_of_ble_eq_true rfl) dX12_term_1 ?_
  rintro _ _ ⟨i1, a1, rfl, f1, g1, r1⟩
  have hok := okI_val (s_A S 1001) L n m hn h60
  unfold termF seqF at hr
  generalize valF (s_A S 1001) L n m = u at hr r1 hok
  cases u with
  | error f =>
    obtain ⟨rfl, r1⟩ := r1
    have hr : Except.error f = r := hr
    subst hr
    refine g_if_ne (pc := 4) C 9 dX12_term_4 rfl (fun hb => ?_) (fun hb => ?_)
    · exact absurd rfl hb
    · refine g_iconst (pc := 7) (v := nI 0) C dX12_term_7 (by decide) ?_
      exact g_zreturn (pc := 8) C ⟨rfl, rfl⟩ (by first | exact Or.inl rfl | exact Or.inr rfl) dX12_term_8 ⟨i1, a1, rfl, f1, g1, rfl, r1⟩
  | ok p =>
    obtain ⟨n', m', k⟩ := p
    obtain ⟨rfl, h1⟩ := r1
    obtain ⟨b1, b2, b3, b4⟩ := hok
    have hlen : (o ++ k).length = o.length + k.length := List.length_append
    refine g_if_ne (pc := 4) C 9 dX12_term_4 rfl (fun hb => ?_) (fun hb => ?_)
    · exact loop (L - n') 400 n' m' k i1 a1 _ rfl (by omega) h1 b2 (by omega) b3 f1 g1 hr
    · exact absurd (fun q => absurd q (by decide)) hb
theorem c_X12_sum (w : Wd) (l : Launch) (S : St) (L : Nat) (hx : gx_x S L) (t : Nat) (ht6 : t < 6) (i : Nat → Int32) (a : Nat → Nat → Int32) (n m : Nat) (o : List Nat) (h : tx t i a n m o) (hn : n ≤ L) (ho : o.length ≤ n) (h60 : m ≤ 60) : gx_M w l yX12_sum cX12_sum 2 (some .boolean) rmX12_sum [.ref (ad (w_b w) 1000)] (rdS S i a) (px S t i a o (smF (s_A S 1001) L n m)) := by
  have hL : L ≤ 400 := hx.2.1.2
  have hmA : ∀ i a, gx_m (rdS S i a) := fun i a => hx.1
  generalize hr : smF (s_A S 1001) L n m = r
  refine gx_start rfl 1 rfl (Nat.le_of_ble_eq_true rfl) ?_
  intro X C _ hl
  subst hl
  refine gx_L (L' := [_, _]) rfl ?_
  have loop : ∀ e d n1 m1 ks i1 a1 z, L - n1 = e → e ≤ d → tx t i1 a1 n1 m1 (o ++ ks) → n1 ≤ L → (o ++ ks).length ≤ n1 → m1 ≤ 60 → fxI [1108, 1109, 1110, 1112] i i1 → fxT t a a1 → loopF (s_A S 1001) L opS (termF (s_A S 1001) L) d n1 m1 ks = r → gx_G w X (rdS S i1 a1) 0 0 9 [some (.ref (ad (w_b w) 1000)), z] [] (gx_E w X (px S t i a o r)) := by
    intro e
    induction e using Nat.strongRecOn with
    | _ e ih =>
      intro d n1 m1 ks i1 a1 z he hed h1 hn1 ho1 hm1 f1 g1 hl
      rw [loopF_eq (by decide) (by omega)] at hl
      have hq1 := sk_ge (T := s_A S 1001) (L := L) (n := n1)
      have hq2 := sk_L (T := s_A S 1001) hn1
      have hqe : skN (s_A S 1001) L (skN (s_A S 1001) L n1) = skN (s_A S 1001) L n1 := skN_idem
      refine g_aload_n (pc := 9) C dX12_sum_9 rfl ?_
      refine cf_X12_105 (pc := 10) C rfl (m_z (hmA _ _) rfl) (r_see _ _ S L hx i1 a1 n1 h1.1 (by omega)) ⟨rfl, rfl⟩ ⟨rfl, rfl⟩ ⟨Nat.zero_le _, Nat.zero_le _⟩ rfl (Nat.le_of_ble_eq_true rfl) dX12_sum_10 ?_
      refine g_bipush (pc := 13) (v := nI 43) C dX12_sum_13 (by decide) ?_
      generalize hq : skN (s_A S 1001) L n1 = q at *
      generalize hi2 : u1 i1 1108 (nI q) = i2
      have h2 : tx t i2 a1 q m1 (o ++ ks) := by rw [← hi2]; exact tx_u h1 rfl rfl rfl h1.2.2.2.1
      have f2 : fxI [1108, 1109, 1110, 1112] i i2 := f1.trans (by rw [← hi2]; exact fxI.u (by decide))
      have go : ∀ c s, c < 128 → seeV (s_A S 1001) L q = nI c → opS (nI c) = some s → gx_G w X (rdS S i2 a1) 0 0 27 [some (.ref (ad (w_b w) 1000)), z] [] (gx_E w X (px S t i a o r)) := by
        intro c s hc hse hop
        obtain ⟨hqL, hTq⟩ := (see_at hx.2.2 hc).mp hse
        rw [hse, hop] at hl
        have step : ∀ s', s' = s → gx_G w X (rdS S i2 a1) 0 0 46 [some (.ref (ad (w_b w) 1000)), z] [.int (nI s')] (gx_E w X (px S t i a o r)) := by
          intro s' hs'
          subst hs'
          refine g_istore_n (pc := 46) (L' := [some (.ref _), _]) C dX12_sum_46 rfl rfl ?_
          refine g_aload_n (pc := 47) C dX12_sum_47 rfl ?_
          refine g_dup (pc := 48) C dX12_sum_48 rfl ?_
          refine mg_102 (pc := 49) C (hmA _ _) dX12_sum_49 ?_
          refine gx_ti (y := nI q) h2.1 ?_
          refine g_iconst (pc := 52) (v := nI 1) C dX12_sum_52 (by decide) ?_
          refine g_iadd (pc := 53) C dX12_sum_53 ?_
          refine gx_ti (y := nI (q + 1)) (nI_add q 1) ?_
          refine mp_102 (pc := 54) C (hmA _ _) dX12_sum_54 ?_
          refine gx_S (S' := rdS S (u1 i2 1108 (nI (q + 1))) a1) (rd_I S i2 a1 1108 _ (by omega)) ?_
          generalize hi3 : u1 i2 1108 (nI (q + 1)) = i3
          have h3 : tx t i3 a1 (q + 1) m1 (o ++ ks) := by rw [← hi3]; exact tx_u h2 rfl rfl rfl h2.2.2.2.1
          have f3 : fxI [1108, 1109, 1110, 1112] i i3 := f2.trans (by rw [← hi3]; exact fxI.u (by decide))
          refine g_aload_n (pc := 57) C dX12_sum_57 rfl ?_
          refine cg_X12_192 (pc := 58) C rfl (m_z (hmA _ _) rfl) (c_X12_term _ _ S L hx t ht6 i3 a1 (q + 1) m1 (o ++ ks) h3 (by omega) (by omega) hm1) ⟨rfl, rfl⟩ ⟨Nat.zero_le _, Nat.zero_le _⟩ rfl (Nat.le_of_ble_eq_true rfl) dX12_sum_58 ?_
          rintro _ _ ⟨i4, a4, rfl, f4, g4, r4⟩
          have hok := okI_term (T := s_A S 1001) hL (q + 1) m1 (by omega) hm1
          generalize termF (s_A S 1001) L (q + 1) m1 = u at hl r4 hok
          cases u with
          | error f =>
            obtain ⟨rfl, r4⟩ := r4
            have hl : Except.error f = r := hl
            subst hl
            refine g_if_ne (pc := 61) C 66 dX12_sum_61 rfl (fun hb => ?_) (fun hb => ?_)
            · exact absurd rfl hb
            · refine g_iconst (pc := 64) (v := nI 0) C dX12_sum_64 (by decide) ?_
              exact g_zreturn (pc := 65) C ⟨rfl, rfl⟩ (by first | exact Or.inl rfl | exact Or.inr rfl) dX12_sum_65 ⟨i4, a4, rfl, f3.trans f4, g1.trans g4, rfl, r4⟩
          | ok p =>
            obtain ⟨n', m', k⟩ := p
            obtain ⟨rfl, h4⟩ := r4
            obtain ⟨b1, b2, b3, b4⟩ := hok
            have hlen : (o ++ ks ++ k).length = (o ++ ks).length + k.length := List.length_append
            refine g_if_ne (pc := 61) C 66 dX12_sum_61 rfl (fun hb => ?_) (fun hb => ?_)
            · refine g_aload_n (pc := 66) C dX12_sum_66 rfl ?_
              refine g_iload_n (pc := 67) C dX12_sum_67 rfl ?_
              refine g_iconst (pc := 68) (v := nI 0) C dX12_sum_68 (by decide) ?_
              refine cg_X12_174 (pc := 69) C rfl (m_z (hmA _ _) rfl) (r_puts _ _ S L hx t ht6 i4 a4 n' m' (o ++ ks ++ k) h4 (by omega) s' 0 s' (by omega)) ⟨rfl, rfl⟩ ⟨Nat.zero_le _, Nat.zero_le _⟩ rfl (Nat.le_of_ble_eq_true rfl) dX12_sum_69 ?_
              rintro _ _ ⟨rfl, a5, rfl, g5, h5⟩
              refine g_goto (pc := 72) C 9 dX12_sum_72 rfl ?_
              have e5 : o ++ ks ++ k ++ [s'] = o ++ (ks ++ k ++ [s']) := by simp only [List.append_assoc]
              have hlen2 : (o ++ (ks ++ k ++ [s'])).length = (o ++ ks ++ k).length + 1 := by rw [← e5, List.length_append]; rfl
              rw [e5] at h5
              exact ih (L - n') (by omega) (d - 1) n' m' (ks ++ k ++ [s']) i4 a5 _ rfl (by omega) h5 b2 (by omega) b3 (f3.trans f4) ((g1.trans g4).trans g5) hl
            · exact absurd (fun q => absurd q (by decide)) hb
        refine g_aload_n (pc := 27) C dX12_sum_27 rfl ?_
        refine mg_7 (pc := 28) C (hmA _ _) dX12_sum_28 ?_
        refine g_aload_n (pc := 31) C dX12_sum_31 rfl ?_
        refine mg_102 (pc := 32) C (hmA _ _) dX12_sum_32 ?_
        refine n_bald (pc := 35) (k := 1001) (n := 400) C rfl rfl (m_z (hmA _ _) rfl) h2.1 rfl (by omega) dX12_sum_35 ?_
        refine gx_ti (y := nI c) hTq ?_
        refine g_bipush (pc := 36) (v := nI 43) C dX12_sum_36 (by decide) ?_
        unfold opS at hop
        refine g_icmp_ne (pc := 38) C 45 dX12_sum_38 rfl (fun ha => ?_) (fun ha => ?_)
        · rw [if_neg ha] at hop
          refine g_iconst (pc := 45) (v := nI 3) C dX12_sum_45 (by decide) ?_
          exact step 3 (by split at hop <;> cases hop; rfl)
        · rw [if_pos (Decidable.not_not.mp ha)] at hop
          refine g_iconst (pc := 41) (v := nI 2) C dX12_sum_41 (by decide) ?_
          refine g_goto (pc := 42) C 46 dX12_sum_42 rfl ?_
          exact step 2 (by cases hop; rfl)
      refine g_icmp_eq (pc := 15) C 27 dX12_sum_15 rfl (fun c1 => ?_) (fun c1 => ?_)
      · exact go 43 2 (by decide) c1 (by decide)
      · refine g_aload_n (pc := 18) C dX12_sum_18 rfl ?_
        refine cf_X12_105 (pc := 19) C rfl (m_z (hmA _ _) rfl) (r_seeM _ _ S L hx i2 a1 q h2.1 (by omega) hqe) ⟨rfl, rfl⟩ ⟨rfl, rfl⟩ ⟨Nat.zero_le _, Nat.zero_le _⟩ rfl (Nat.le_of_ble_eq_true rfl) dX12_sum_19 ?_
        refine g_bipush (pc := 22) (v := nI 45) C dX12_sum_22 (by decide) ?_
        refine g_icmp_ne (pc := 24) C 75 dX12_sum_24 rfl (fun c2 => ?_) (fun c2 => ?_)
        · have hn : opS (seeV (s_A S 1001) L q) = none := by unfold opS; rw [if_neg c1, if_neg c2]
          rw [hn] at hl
          have hl : Except.ok (q, m1, ks) = r := hl
          subst hl
          refine g_iconst (pc := 75) (v := nI 1) C dX12_sum_75 (by decide) ?_
          exact g_zreturn (pc := 76) C ⟨rfl, rfl⟩ (by first | exact Or.inl rfl | exact Or.inr rfl) dX12_sum_76 ⟨i2, a1, rfl, f2, g1, rfl, h2⟩
        · exact go 45 3 (by decide) (Decidable.not_not.mp c2) (by decide)
  refine g_aload_n (pc := 0) C dX12_sum_0 rfl ?_
  refine cg_X12_192 (pc := 1) C rfl (m_z (hmA _ _) rfl) (c_X12_term _ _ S L hx t ht6 i a n m o h hn ho h60) ⟨rfl, rfl⟩ ⟨Nat.zero_le _, Nat.zero_le _⟩ rfl (Nat.le_of_ble_eq_true rfl) dX12_sum_1 ?_
  rintro _ _ ⟨i1, a1, rfl, f1, g1, r1⟩
  have hok := okI_term (T := s_A S 1001) hL n m hn h60
  unfold smF seqF at hr
  generalize termF (s_A S 1001) L n m = u at hr r1 hok
  cases u with
  | error f =>
    obtain ⟨rfl, r1⟩ := r1
    have hr : Except.error f = r := hr
    subst hr
    refine g_if_ne (pc := 4) C 9 dX12_sum_4 rfl (fun hb => ?_) (fun hb => ?_)
    · exact absurd rfl hb
    · refine g_iconst (pc := 7) (v := nI 0) C dX12_sum_7 (by decide) ?_
      exact g_zreturn (pc := 8) C ⟨rfl, rfl⟩ (by first | exact Or.inl rfl | exact Or.inr rfl) dX12_sum_8 ⟨i1, a1, rfl, f1, g1, rfl, r1⟩
  | ok p =>
    obtain ⟨n', m', k⟩ := p
    obtain ⟨rfl, h1⟩ := r1
    obtain ⟨b1, b2, b3, b4⟩ := hok
    have hlen : (o ++ k).length = o.length + k.length := List.length_append
    refine g_if_ne (pc := 4) C 9 dX12_sum_4 rfl (fun hb => ?_) (fun hb => ?_)
    · exact loop (L - n') 400 n' m' k i1 a1 _ rfl (by omega) h1 b2 (by omega) b3 f1 g1 hr
    · exact absurd (fun q => absurd q (by decide)) hb
