/-! ===== THE CLASS: a TRIP ===== -/
def dP (pl kw ks : Nat) : Nat → Prop := fun k => k = pl ∨ k = kw ∨ k = ks
theorem rcS.to {D : Nat → Prop} {S T : St} {k kc : Nat} {cs : List CL} (h : eqO D S T) (hD : ¬ D k ∧ ¬ D kc) (g : rcS S k kc cs) : rcS T k kc cs := by
  obtain ⟨g1, g2, g3, g4, g5, g6⟩ := g
  exact ⟨h.o g1, (h.R hD.1).trans g2, h.a g3, g4, by rw [h.A hD.2]; exact g5, g6⟩
theorem frC2.to {D : Nat → Prop} {S T : St} {ro : Option Nat} {fr : Option ((Nat → Int64) → Int64)} (h : eqO D S T) (hD : ∀ k, D k → k < 2000) (g : frC2 S ro fr) : frC2 T ro fr := by
  cases ro with
  | none => exact g
  | some rk =>
    obtain ⟨kc, cs, g1, g2, g3, g4⟩ := g
    exact ⟨kc, cs, g1.to h ⟨fun q => absurd (hD _ q) (by omega), fun q => absurd (hD _ q) (by omega)⟩, g2, g3, g4⟩
theorem plT.B {S : St} {pl kw ks c r : Nat} {ro : Option Nat} {fog : Prop} [Decidable fog] {u : Nat → Int32} {P s : Nat} (h : plT S pl kw ks c r ro fog u P s) {W B : Nat → Int64} : plT (s_setB (s_setB S kw W) ks B) pl kw ks c r ro fog u P s := h
theorem trip_none {nx : Nat → Option Nat} {s : Nat} (h : nx s = none) : ∀ j, tripF nx j s = s
  | 0 => rfl
  | j + 1 => by unfold tripF; rw [h]
theorem trip_some {nx : Nat → Option Nat} {s p : Nat} (h : nx s = some p) (j : Nat) : tripF nx (j + 1) s = tripF nx j (s ||| 2 ^ p) := by
  show (match nx s with
    | none => s
    | some p => tripF nx j (s ||| 2 ^ p)) = _
  rw [h]
theorem pop7 : ∀ s, s < 128 → popN s = 7 → s = 127 := by decide +kernel
theorem pop0 : ∀ s, s < 128 → popN s = 0 → s = 0 := by decide +kernel
/-- what the class keeps of what is said, of P people -/
def grU (P : Nat) (u : Nat → Int32) : Prop := ∀ p, p < P → (∃ g, g ≤ 9 ∧ u (28 + p) = nI g) ∧ ∃ a, a ≤ 40 ∧ u (42 + p) = nI a
def sdA (P : Nat) (u : Nat → Int32) : Prop := symU P u ∧ amU P u ∧ (∃ q, q ≤ 7 ∧ u 2 = nI q) ∧ grU P u
section PL7
variable {S : St} {pl c r : Nat} {ro : Option Nat} {f a fu li : Int32}
def pl7 (S : St) (pl c r : Nat) (ro : Option Nat) (f a fu li : Int32) : St := s_setI (s_setI (s_setI (s_setI (s_setR (s_setR (s_setR S 302 pl (some c)) 303 pl (some r)) 304 pl ro) 305 pl f) 306 pl a) 307 pl fu) 308 pl li
theorem pl7_302 : s_R (pl7 S pl c r ro f a fu li) 302 pl = some c := by
  show u2 (s_R S) 302 pl (some c) 302 pl = _
  exact u2_at
theorem pl7_303 : s_R (pl7 S pl c r ro f a fu li) 303 pl = some r := by
  show u2 (u2 (s_R S) 302 pl (some c)) 303 pl (some r) 303 pl = _
  exact u2_at
theorem pl7_304 : s_R (pl7 S pl c r ro f a fu li) 304 pl = ro := by
  show u2 (u2 (u2 (s_R S) 302 pl (some c)) 303 pl (some r)) 304 pl ro 304 pl = _
  exact u2_at
theorem pl7_305 : s_I (pl7 S pl c r ro f a fu li) 305 pl = f := by
  show u2 (s_I S) 305 pl f 305 pl = _
  exact u2_at
theorem pl7_306 : s_I (pl7 S pl c r ro f a fu li) 306 pl = a := by
  show u2 (u2 (s_I S) 305 pl f) 306 pl a 306 pl = _
  exact u2_at
theorem pl7_307 : s_I (pl7 S pl c r ro f a fu li) 307 pl = fu := by
  show u2 (u2 (u2 (s_I S) 305 pl f) 306 pl a) 307 pl fu 307 pl = _
  exact u2_at
theorem pl7_308 : s_I (pl7 S pl c r ro f a fu li) 308 pl = li := by
  show u2 (u2 (u2 (u2 (s_I S) 305 pl f) 306 pl a) 307 pl fu) 308 pl li 308 pl = _
  exact u2_at
theorem pl7_eq {D : Nat → Prop} (h : D pl) : eqO D S (pl7 S pl c r ro f a fu li) := ((((((eqO.sR h).trans (eqO.sR h)).trans (eqO.sR h)).trans (eqO.sI h)).trans (eqO.sI h)).trans (eqO.sI h)).trans (eqO.sI h)
theorem pl3_eq {D : Nat → Prop} (h : D pl) : eqO D S (s_setI (s_setI (s_setI S 307 pl fu) 308 pl li) 306 pl a) := ((eqO.sI h).trans (eqO.sI h)).trans (eqO.sI h)
theorem pl3_306 : s_I (s_setI (s_setI (s_setI S 307 pl fu) 308 pl li) 306 pl a) 306 pl = a := gI_at
theorem pl3_307 : s_I (s_setI (s_setI (s_setI S 307 pl fu) 308 pl li) 306 pl a) 307 pl = fu := by
  show u2 (s_I S) 307 pl fu 307 pl = _
  exact u2_at
theorem pl3_308 : s_I (s_setI (s_setI (s_setI S 307 pl fu) 308 pl li) 306 pl a) 308 pl = li := by
  show u2 (u2 (s_I S) 307 pl fu) 308 pl li 308 pl = _
  exact u2_at
end PL7
theorem ful_0 {u : Nat → Int32} {P : Nat} : fulF u P 0 = nI 0 ∧ lightF u 0 P = nI 0 := by
  have a : ∀ n, aimsF u 0 False n = nI 0 := by
    intro n
    induction n with
    | zero => rfl
    | succ n ih => simp [aimsF, ih]
  have c : ∀ n i, colF u 0 n i = nI 0 := fun n i => col_no (by simp) i
  have t : ∀ n, twosF u 0 n n = nI 0 := by
    intro n
    induction n with
    | zero => rfl
    | succ n ih => rw [tw_diag, ih, c, nI_0, Int32.add_zero]
  have b : ∀ n, lightF u 0 n = nI 0 := by
    intro n
    induction n with
    | zero => rfl
    | succ n ih => simp [lightF, ih, nI_0]
  exact ⟨by unfold fulF; rw [a, t, nI_0, Int32.add_zero], b P⟩
/-- cells of the trip apart from the crossing's -/
def apart (pl kw ks c ca cg cl ce r ra : Nat) : Prop := (r ≠ c ∧ ra ≠ ca ∧ ra ≠ cg ∧ ra ≠ cl ∧ ra ≠ ce ∧ r ≠ ca ∧ r ≠ cg ∧ r ≠ cl ∧ r ≠ ce ∧ ra ≠ c) ∧ (¬ dP pl kw ks c ∧ ¬ dP pl kw ks ca ∧ ¬ dP pl kw ks cg ∧ ¬ dP pl kw ks cl ∧ ¬ dP pl kw ks ce) ∧ ¬ dP pl kw ks r ∧ ¬ dP pl kw ks ra ∧ pl < 2000 ∧ kw < 2000 ∧ ks < 2000 ∧ pl ≠ kw ∧ pl ≠ ks
def dT (pl kw ks r ra : Nat) : Nat → Prop := fun k => dP pl kw ks k ∨ dR r ra k
theorem c_X3_sail (w : Wd) (l : Launch) (S : St) (pl kw ks c ca cg cl ce r ra P H : Nat) (ro : Option Nat) (fr : Option ((Nat → Int64) → Int64)) (dr : Prop) [Decidable dr] (u : Nat → Int32) (hp : plK S pl kw ks) (hc : crS S c ca cg cl ce P u) (h : rvS S r ra P u) (ha : sdA P u) (hfr : frC2 S ro fr) (hap : apart pl kw ks c ca cg cl ce r ra) (hH : u 10 = nI H) (hH2 : H < 2000) : gx_M w l yX3_sail cX3_sail 7 (some .int) rmX3_sail [.ref (ad (w_b w) pl), .ref (ad (w_b w) c), .ref (ad (w_b w) r), va_rf (ro.map (ad (w_b w))), .int (bI dr)] S (fun v S' => v = some (.int (nI (setF fr (bI dr) u P H))) ∧ eqO (dT pl kw ks r ra) S S' ∧ plK S' pl kw ks ∧ rvS S' r ra P (passF fr (bI dr) u P H)) := by
  obtain ⟨hy, ham, hst, -⟩ := ha
  obtain ⟨hne, hdc, hdr, hdra, l1, l2, l3, n1, n2⟩ := hap
  have hP7 := hc.2.2
  have hDl : ∀ k, dP pl kw ks k → k < 2000 := fun k q => by rcases q with e | e | e <;> omega
  obtain ⟨op, rw', ow, rs', os', hkk⟩ := hp
  have occ := hc.1.1
  have orv := h.1.1
  have h10 := h.2.1.1
  generalize hpost : (fun (v : Option Value) (S' : St) => v = some (.int (nI (setF fr (bI dr) u P H))) ∧ eqO (dT pl kw ks r ra) S S' ∧ plK S' pl kw ks ∧ rvS S' r ra P (passF fr (bI dr) u P H)) = post
  refine gx_start rfl 2 (by cases ro <;> rfl) (Nat.le_of_ble_eq_true (by cases ro <;> rfl)) ?_
  intro X C _ hl
  subst hl
  refine gx_L (L' := [some (.ref (ad (w_b w) pl)), some (.ref (ad (w_b w) c)), some (.ref (ad (w_b w) r)), some (va_rf (ro.map (ad (w_b w)))), some (.int (bI dr)), none, none]) (by cases ro <;> rfl) ?_
  /- behind boarding: they CROSS, or the boat stays -/
  have tail : ∀ S1 s z5 z6, plT S1 pl kw ks c r ro (fogF (bI dr) u H) u P s → eqO (dP pl kw ks) S S1 → s ||| onN u (u 11) P = onN u (u 11) P → s = setF fr (bI dr) u P H → gx_G w X S1 0 0 128 [some (.ref (ad (w_b w) pl)), some (.ref (ad (w_b w) c)), some (.ref (ad (w_b w) r)), some (va_rf (ro.map (ad (w_b w)))), some (.int (bI dr)), z5, z6] [] (gx_E w X post) := by
    intro S1 s z5 z6 hp1 q1 hsub hset
    have hs : s < 128 := by
      have : s ≤ s ||| onN u (u 11) P := Nat.left_le_or
      have := onN_128 (said := u) (side := u 11) hP7
      omega
    have hc1 := hc.to q1 hdc
    have h1 := h.to q1 ⟨hdr, hdra⟩
    obtain ⟨⟨op1, rw1, ow1, rs1, os1, -⟩, rc1, rr1, ru1, hf1, ha1, hfu1, hli1⟩ := hp1
    have occ1 := hc1.1.1
    have orv1 := h1.1.1
    have cross : (s ≠ 0 ∨ canBF u P (fogF (bI dr) u H) 0) → gx_G w X S1 0 0 170 [some (.ref (ad (w_b w) pl)), some (.ref (ad (w_b w) c)), some (.ref (ad (w_b w) r)), some (va_rf (ro.map (ad (w_b w)))), some (.int (bI dr)), z5, z6] [] (gx_E w X post) := by
      intro hgo
      refine g_aload_n (pc := 170) C dX3_sail_170 rfl ?_
      refine fgr_X3_24 (pc := 171) C (by exact op1.1) (zk (by exact op1.2)) (by exact rr1) dX3_sail_171 ?_
      refine g_aload_n (pc := 174) C dX3_sail_174 rfl ?_
      refine fgr_X3_20 (pc := 175) C (by exact op1.1) (zk (by exact op1.2)) (by exact rc1) dX3_sail_175 ?_
      refine g_aload_n (pc := 178) C dX3_sail_178 rfl ?_
      refine fg_X3_48 (pc := 179) C (by exact op1.1) (zk (by exact op1.2)) dX3_sail_179 ?_
      refine gx_ti (y := nI s) ha1 ?_
      refine g_aload_n (pc := 182) C dX3_sail_182 rfl ?_
      refine fg_X3_44 (pc := 183) C (by exact op1.1) (zk (by exact op1.2)) dX3_sail_183 ?_
      refine gx_ti (y := bI (fogF (bI dr) u H)) hf1 ?_
      refine cg_X3_73 (pc := 186) C (by exact orv1.1) (zk (by exact orv1.2)) (c_X6_carry _ _ S1 c ca cg cl ce r ra P H u hc1 h1 hne ham hy s hsub (bI dr)) ⟨rfl, rfl⟩ ⟨Nat.zero_le _, Nat.zero_le _⟩ rfl (Nat.le_of_ble_eq_true rfl) dX3_sail_186 ?_
      rintro _ S2 ⟨rfl, q2, h2⟩
      have opf : gx_o S2 pl 3 := q2.o op1
      have hpl : ¬ dR r ra pl := fun q => q.elim (fun e => hdr (Or.inl e.symm)) (fun e => hdra (Or.inl e.symm))
      have ha2 : s_I S2 306 pl = nI s := (q2.I hpl).trans ha1
      refine g_pop (pc := 189) C dX3_sail_189 rfl ?_
      refine g_aload_n (pc := 190) C dX3_sail_190 rfl ?_
      refine fg_X3_48 (pc := 191) C (by exact opf.1) (zk (by exact opf.2)) dX3_sail_191 ?_
      rw [← hpost]
      refine gx_ti (y := nI s) ha2 ?_
      exact g_ireturn (pc := 194) C ⟨rfl, rfl⟩ dX3_sail_194 ⟨by rw [hset], (q1.mono (fun k => Or.inl)).trans (q2.mono (fun k => Or.inr)), ⟨opf, (q2.R hpl).trans rw1, q2.a ow1, (q2.R hpl).trans rs1, q2.a os1, hkk⟩, by
        unfold passF
        rw [if_pos (by rw [← hset]; exact hgo), ← hset]
        exact h2⟩
    refine g_aload_n (pc := 128) C dX3_sail_128 rfl ?_
    refine fg_X3_48 (pc := 129) C (by exact op1.1) (zk (by exact op1.2)) dX3_sail_129 ?_
    refine gx_ti (y := nI s) ha1 ?_
    refine g_if_ne (pc := 132) C 170 dX3_sail_132 rfl (fun c1 => ?_) (fun c1 => ?_)
    · exact cross (Or.inl (fun q => c1 (by rw [q]; rfl)))
    · have c1 : s = 0 := (nI_eq (b := 0) (by omega) (by omega)).mp (Decidable.not_not.mp c1)
      refine g_aload_n (pc := 135) C dX3_sail_135 rfl ?_
      refine fgr_X3_24 (pc := 136) C (by exact op1.1) (zk (by exact op1.2)) (by exact rr1) dX3_sail_136 ?_
      refine g_aload_n (pc := 139) C dX3_sail_139 rfl ?_
      refine fgr_X3_20 (pc := 140) C (by exact op1.1) (zk (by exact op1.2)) (by exact rc1) dX3_sail_140 ?_
      refine g_iconst (pc := 143) (v := nI 0) C dX3_sail_143 (by decide) ?_
      refine g_aload_n (pc := 144) C dX3_sail_144 rfl ?_
      refine fg_X3_44 (pc := 145) C (by exact op1.1) (zk (by exact op1.2)) dX3_sail_145 ?_
      refine gx_ti (y := bI (fogF (bI dr) u H)) hf1 ?_
      refine cf_X3_69 (pc := 148) C (by exact orv1.1) (zk (by exact orv1.2)) (c_X6_canBoard _ _ S1 c ca cg cl ce r ra P u hc1 h1 hy (nI 0) (fogF (bI dr) u H)) ⟨rfl, rfl⟩ ⟨rfl, rfl⟩ ⟨Nat.zero_le _, Nat.zero_le _⟩ rfl (Nat.le_of_ble_eq_true rfl) dX3_sail_148 ?_
      have hcb : cbP u P (fogF (bI dr) u H) (nI 0) ↔ canBF u P (fogF (bI dr) u H) 0 := by
        unfold cbP
        rw [show (nI 0).toBitVec.toNat = 0 from rfl]
        exact ⟨fun q => q.2, fun q => ⟨(sub_all (onN_128 hP7)).mpr ⟨0, by omega, rfl, q.1⟩, q⟩⟩
      refine g_if_ne (pc := 151) C 170 dX3_sail_151 rfl (fun c2 => ?_) (fun c2 => ?_)
      · exact cross (Or.inr (hcb.mp (Decidable.not_not.mp (fun q => c2 (bI_0.mpr q)))))
      · have c2 : ¬ canBF u P (fogF (bI dr) u H) 0 := fun q => bI_0.mp (Decidable.not_not.mp c2) (hcb.mpr q)
        have h10' := h1.2.1.1
        refine g_aload_n (pc := 154) C dX3_sail_154 rfl ?_
        refine fgr_X3_24 (pc := 155) C (by exact op1.1) (zk (by exact op1.2)) (by exact rr1) dX3_sail_155 ?_
        refine g_dup (pc := 158) C dX3_sail_158 rfl ?_
        refine fg_X3_32 (pc := 159) C (by exact orv1.1) (zk (by exact orv1.2)) dX3_sail_159 ?_
        refine gx_ti (y := u 10) h10' ?_
        refine g_iconst (pc := 162) (v := nI 1) C dX3_sail_162 (by decide) ?_
        refine g_iadd (pc := 163) C dX3_sail_163 ?_
        refine fp_X3_32 (pc := 164) C (by exact orv1.1) (zk (by exact orv1.2)) dX3_sail_164 ?_
        refine g_goto (pc := 167) C 190 dX3_sail_167 rfl ?_
        refine g_aload_n (pc := 190) C dX3_sail_190 rfl ?_
        refine fg_X3_48 (pc := 191) C (by exact op1.1) (zk (by exact op1.2)) dX3_sail_191 ?_
        have hprl : ¬ pl = r := fun e => hdr (Or.inl e.symm)
        rw [← hpost]
        refine gx_ti (y := nI s) ((gI_ne (Or.inl (by decide))).trans ha1) ?_
        exact g_ireturn (pc := 194) C ⟨rfl, rfl⟩ dX3_sail_194 ⟨by rw [hset], (q1.mono (fun k => Or.inl)).trans (eqO.sI (Or.inr (Or.inl rfl))), ⟨op1, rw1, ow1, rs1, os1, hkk⟩, by
          unfold passF
          rw [if_neg (by rw [← hset, c1]; exact fun q => q.elim (fun z => z rfl) c2)]
          obtain ⟨k0, ⟨k1, k2, k3, k4, k5, k6⟩, k7⟩ := h1
          refine ⟨k0, ⟨?_, ?_, ?_, ?_, ?_, fun p hp => ?_⟩, ?_, fun p hp => ?_⟩
          · rw [pk_us]; exact gI_at
          · rw [pk_un (by omega)]; exact k2
          · rw [onN_ext (v := u) P (fun p hp => pk_un (by omega))]; exact k3
          · rw [pk_un (by omega)]; exact k4
          · rw [pk_un (by omega)]; exact k5
          · rw [pk_un (by omega)]; exact k6 p hp
          · rw [pk_un (by omega)]; exact k7.1
          · rw [pk_un (by omega)]; exact k7.2 p hp⟩
  /- they come aboard -/
  have loop : ∀ d k S1 s j z6, k + d = 7 → popN s = k → 8 ≤ j + k → plT S1 pl kw ks c r ro (fogF (bI dr) u H) u P s → eqO (dP pl kw ks) S S1 → s ||| onN u (u 11) P = onN u (u 11) P → tripF (nextF fr (bI dr) u P H) j s = setF fr (bI dr) u P H → gx_G w X S1 0 0 58 [some (.ref (ad (w_b w) pl)), some (.ref (ad (w_b w) c)), some (.ref (ad (w_b w) r)), some (va_rf (ro.map (ad (w_b w)))), some (.int (bI dr)), some (.int (nI k)), z6] [] (gx_E w X post) := by
    intro d
    induction d with
    | zero =>
      intro k S1 s j z6 hk hpk hj hp1 q1 hsub htr
      have hk : k = 7 := hk
      have hs : s < 128 := by
        have : s ≤ s ||| onN u (u 11) P := Nat.left_le_or
        have := onN_128 (said := u) (side := u 11) hP7
        omega
      have h127 := pop7 s hs (by omega)
      have hno : nextF fr (bI dr) u P H s = none := by
        cases hx : nextF fr (bI dr) u P H s with
        | none => rfl
        | some p =>
          obtain ⟨a1, a2⟩ := nxF_some hx
          have := (of_decide_eq_true a2).1
          rw [h127] at this
          exact absurd (tb_127 p (by omega)) this
      rw [trip_none hno] at htr
      refine g_iload (pc := 58) C dX3_sail_58 rfl ?_
      refine g_bipush (pc := 60) (v := nI 7) C dX3_sail_60 (by decide) ?_
      refine g_icmp_ge (pc := 62) C 128 dX3_sail_62 rfl (fun c1 => ?_) (fun c1 => ?_)
      · exact tail S1 s _ _ hp1 q1 hsub htr
      · exact absurd (nI_le (by omega) (by omega)) c1
    | succ d ih =>
      intro k S1 s j z6 hk hpk hj hp1 q1 hsub htr
      have hs : s < 128 := by
        have : s ≤ s ||| onN u (u 11) P := Nat.left_le_or
        have := onN_128 (said := u) (side := u 11) hP7
        omega
      have hc1 := hc.to q1 hdc
      have h1 := h.to q1 ⟨hdr, hdra⟩
      have hfr1 := hfr.to q1 hDl
      have op1 := hp1.1.1
      refine g_iload (pc := 58) C dX3_sail_58 rfl ?_
      refine g_bipush (pc := 60) (v := nI 7) C dX3_sail_60 (by decide) ?_
      refine g_icmp_ge (pc := 62) C 128 dX3_sail_62 rfl (fun c1 => ?_) (fun c1 => ?_)
      · exact absurd c1 (nI_ge (by omega) (by omega))
      · refine g_aload_n (pc := 65) C dX3_sail_65 rfl ?_
        refine cg_X3_57 (pc := 66) C (by exact op1.1) (zk (by exact op1.2)) (c_X3_nextAboard _ _ S1 pl kw ks c ca cg cl ce r ra P H s ro fr (bI dr) u hp1 hc1 h1 hy hfr1 hsub hst) ⟨rfl, rfl⟩ ⟨Nat.zero_le _, Nat.zero_le _⟩ rfl (Nat.le_of_ble_eq_true rfl) dX3_sail_66 ?_
        rintro _ _ ⟨rfl, W, B, rfl⟩
        have q2 : eqO (dP pl kw ks) S (s_setB (s_setB S1 kw W) ks B) := q1.trans ((eqO.sB (Or.inr (Or.inl rfl))).trans (eqO.sB (Or.inr (Or.inr rfl))))
        have hp2 : plT (s_setB (s_setB S1 kw W) ks B) pl kw ks c r ro (fogF (bI dr) u H) u P s := hp1
        generalize s_setB (s_setB S1 kw W) ks B = S2 at q2 hp2 ⊢
        have hc2 := hc.to q2 hdc
        have h2 := h.to q2 ⟨hdr, hdra⟩
        cases hx : nextF fr (bI dr) u P H s with
        | none =>
          rw [trip_none hx] at htr
          refine g_istore (pc := 69) (L' := [_, _, _, _, _, some (.int _), _]) C dX3_sail_69 rfl rfl ?_
          refine g_iload (pc := 71) C dX3_sail_71 rfl ?_
          refine g_iconst (pc := 73) (v := -1) C dX3_sail_73 (by decide) ?_
          refine g_icmp_ne (pc := 74) C 80 dX3_sail_74 rfl (fun c2 => ?_) (fun c2 => ?_)
          · exact absurd rfl c2
          · refine g_goto (pc := 77) C 128 dX3_sail_77 rfl ?_
            exact tail S2 s _ _ hp2 q2 hsub htr
        | some p =>
          obtain ⟨a1, a2⟩ := nxF_some hx
          have a3 := of_decide_eq_true a2
          have hnb : s.testBit p = false := by simpa using a3.1
          obtain ⟨j, rfl⟩ : ∃ j', j = j' + 1 := ⟨j - 1, by omega⟩
          have htr2 : tripF (nextF fr (bI dr) u P H) j (s ||| 2 ^ p) = setF fr (bI dr) u P H := by
            rw [← htr]
            exact (trip_some hx j).symm
          obtain ⟨⟨op2, rw2, ow2, rs2, os2, -⟩, rc2, rr2, ru2, hf2, ha2, hfu2, hli2⟩ := id hp2
          have occ2 := hc2.1.1
          have rcl2 := hc2.1.2.2.2.2.2.1
          have ocl2 := hc2.1.2.2.2.2.2.2.1
          have hG2 := hc2.2.1.2.2.2.2.2.1
          refine g_istore (pc := 69) (L' := [_, _, _, _, _, some (.int _), _]) C dX3_sail_69 rfl rfl ?_
          refine g_iload (pc := 71) C dX3_sail_71 rfl ?_
          refine g_iconst (pc := 73) (v := -1) C dX3_sail_73 (by decide) ?_
          refine g_icmp_ne (pc := 74) C 80 dX3_sail_74 rfl (fun c2 => ?_) (fun c2 => ?_)
          · refine g_aload_n (pc := 80) C dX3_sail_80 rfl ?_
            refine g_aload_n (pc := 81) C dX3_sail_81 rfl ?_
            refine g_iload (pc := 82) C dX3_sail_82 rfl ?_
            refine cf_X3_61 (pc := 84) C (by exact op2.1) (zk (by exact op2.2)) (c_X3_fullWith _ _ S2 pl kw ks c ca cg cl ce r ra P s ro (fogF (bI dr) u H) u hp2 hc2 h2 hs p a1) ⟨rfl, rfl⟩ ⟨rfl, rfl⟩ ⟨Nat.zero_le _, Nat.zero_le _⟩ rfl (Nat.le_of_ble_eq_true rfl) dX3_sail_84 ?_
            refine gx_ti (y := fulF u P (s ||| 2 ^ p)) (ful_or hnb a1 hy) ?_
            refine fp_X3_51 (pc := 87) C (by exact op2.1) (zk (by exact op2.2)) dX3_sail_87 ?_
            refine g_aload_n (pc := 90) C dX3_sail_90 rfl ?_
            refine g_dup (pc := 91) C dX3_sail_91 rfl ?_
            refine fg_X3_54 (pc := 92) C (by exact op2.1) (zk (by exact op2.2)) dX3_sail_92 ?_
            refine gx_ti (y := lightF u s P) hli2 ?_
            refine g_aload_n (pc := 95) C dX3_sail_95 rfl ?_
            refine fgr_X3_20 (pc := 96) C (by exact op2.1) (zk (by exact op2.2)) (by exact rc2) dX3_sail_96 ?_
            refine fgr_X3_65 (pc := 99) C (by exact occ2.1) (zk (by exact occ2.2)) (by exact rcl2) dX3_sail_99 ?_
            refine g_iload (pc := 102) C dX3_sail_102 rfl ?_
            refine n_iald (pc := 104) (n := 7) C (by exact ocl2.1) (by exact ocl2.2.1) (zk (by exact ocl2.2.2)) isn_v rfl (by omega) dX3_sail_104 ?_
            refine gx_ti (y := u (35 + p)) (hG2 p a1).2.2 ?_
            refine g_iadd (pc := 105) C dX3_sail_105 ?_
            refine gx_ti (y := lightF u (s ||| 2 ^ p) P) (lig_or hnb a1) ?_
            refine fp_X3_54 (pc := 106) C (by exact op2.1) (zk (by exact op2.2)) dX3_sail_106 ?_
            refine g_aload_n (pc := 109) C dX3_sail_109 rfl ?_
            refine g_dup (pc := 110) C dX3_sail_110 rfl ?_
            refine fg_X3_48 (pc := 111) C (by exact op2.1) (zk (by exact op2.2)) dX3_sail_111 ?_
            refine gx_ti (y := nI s) ha2 ?_
            refine g_iconst (pc := 114) (v := nI 1) C dX3_sail_114 (by decide) ?_
            refine g_iload (pc := 115) C dX3_sail_115 rfl ?_
            refine g_ishl (pc := 117) C dX3_sail_117 ?_
            refine gx_ti (y := nI (2 ^ p)) (shl_bit p (by omega)) ?_
            refine g_ior (pc := 118) C dX3_sail_118 ?_
            refine gx_ti (y := nI (s ||| 2 ^ p)) (or_set p (by omega) s hs).1 ?_
            refine fp_X3_48 (pc := 119) C (by exact op2.1) (zk (by exact op2.2)) dX3_sail_119 ?_
            refine g_iinc (pc := 122) (L' := [_, _, _, _, some (.int _), _, _]) C dX3_sail_122 rfl (nI_1 _) rfl ?_
            refine g_goto (pc := 125) C 58 dX3_sail_125 rfl ?_
            refine ih (k + 1) _ (s ||| 2 ^ p) j _ (by omega) (by rw [pop_or s hs p (by omega) hnb, hpk]) (by omega) ⟨⟨op2, rw2, ow2, rs2, os2, hkk⟩, rc2, rr2, ru2, hf2, pl3_306, pl3_307, pl3_308⟩ (q2.trans (pl3_eq (Or.inl rfl))) a3.2.1 htr2
          · exact absurd (Decidable.not_not.mp c2) (show ¬ nI p = -1 from fun q => absurd (q ▸ nI_pos' (n := p) (by omega)) (by decide))
  refine g_aload_n (pc := 0) C dX3_sail_0 rfl ?_
  refine g_aload_n (pc := 1) C dX3_sail_1 rfl ?_
  refine fps_X3_20 (pc := 2) C (by exact op.1) (zk (by exact op.2)) dX3_sail_2 ?_
  refine g_aload_n (pc := 5) C dX3_sail_5 rfl ?_
  refine g_aload_n (pc := 6) C dX3_sail_6 rfl ?_
  refine fps_X3_24 (pc := 7) C (by exact op.1) (zk (by exact op.2)) dX3_sail_7 ?_
  refine g_aload_n (pc := 10) C dX3_sail_10 rfl ?_
  refine g_aload_nV (pc := 11) C dX3_sail_11 rfl ?_
  refine fp_X3_28 (pc := 12) C (by exact op.1) (zk (by exact op.2)) (v := ro) dX3_sail_12 ?_
  have begin_ : gx_G w X (s_setR (s_setR (s_setR S 302 pl (some c)) 303 pl (some r)) 304 pl ro) 0 0 37 [some (.ref (ad (w_b w) pl)), some (.ref (ad (w_b w) c)), some (.ref (ad (w_b w) r)), some (va_rf (ro.map (ad (w_b w)))), some (.int (bI dr)), none, none] [.int (bI (fogF (bI dr) u H)), .ref (ad (w_b w) pl)] (gx_E w X post) := by
    refine fp_X3_44 (pc := 37) C (by exact op.1) (zk (by exact op.2)) bI_z dX3_sail_37 ?_
    refine g_aload_n (pc := 40) C dX3_sail_40 rfl ?_
    refine g_iconst (pc := 41) (v := nI 0) C dX3_sail_41 (by decide) ?_
    refine fp_X3_48 (pc := 42) C (by exact op.1) (zk (by exact op.2)) dX3_sail_42 ?_
    refine g_aload_n (pc := 45) C dX3_sail_45 rfl ?_
    refine g_iconst (pc := 46) (v := nI 0) C dX3_sail_46 (by decide) ?_
    refine fp_X3_51 (pc := 47) C (by exact op.1) (zk (by exact op.2)) dX3_sail_47 ?_
    refine g_aload_n (pc := 50) C dX3_sail_50 rfl ?_
    refine g_iconst (pc := 51) (v := nI 0) C dX3_sail_51 (by decide) ?_
    refine fp_X3_54 (pc := 52) C (by exact op.1) (zk (by exact op.2)) dX3_sail_52 ?_
    refine g_iconst (pc := 55) (v := nI 0) C dX3_sail_55 (by decide) ?_
    refine g_istore (pc := 56) (L' := [_, _, _, _, some (.int _), _, _]) C dX3_sail_56 rfl rfl ?_
    refine loop 7 0 (pl7 S pl c r ro (bI (fogF (bI dr) u H)) (nI 0) (nI 0) (nI 0)) 0 128 _ (by omega) rfl (by omega) ⟨⟨op, rw', ow, rs', os', hkk⟩, pl7_302, pl7_303, pl7_304, pl7_305, pl7_306, pl7_307.trans ful_0.1.symm, pl7_308.trans ful_0.2.symm⟩ (pl7_eq (Or.inl rfl)) (Nat.zero_or _) rfl
  refine g_aload_n (pc := 15) C dX3_sail_15 rfl ?_
  refine g_iload (pc := 16) C dX3_sail_16 rfl ?_
  refine g_if_ne (pc := 18) C 32 dX3_sail_18 rfl (fun c1 => ?_) (fun c1 => ?_)
  · refine g_iconst (pc := 32) (v := nI 1) C dX3_sail_32 (by decide) ?_
    refine g_goto (pc := 33) C 37 dX3_sail_33 rfl ?_
    rw [bI_t (Or.inl c1)] at begin_
    exact begin_
  · have c1 : bI dr = 0 := Decidable.not_not.mp c1
    have hcF : crS (s_setR (s_setR (s_setR S 302 pl (some c)) 303 pl (some r)) 304 pl ro) c ca cg cl ce P u := hc.to (((eqO.sR (Or.inl rfl)).trans (eqO.sR (Or.inl rfl))).trans (eqO.sR (Or.inl rfl))) hdc
    refine g_aload_n (pc := 21) C dX3_sail_21 rfl ?_
    refine g_aload_n (pc := 22) C dX3_sail_22 rfl ?_
    refine fg_X3_32 (pc := 23) C (by exact orv.1) (zk (by exact orv.2)) dX3_sail_23 ?_
    refine gx_ti (y := nI H) (h10.trans hH) ?_
    refine cf_X3_38 (pc := 26) C (by exact occ.1) (zk (by exact occ.2)) (c_X0_isFog _ _ _ c ca cg cl ce P u hcF H hH2 hH) ⟨rfl, rfl⟩ ⟨rfl, rfl⟩ ⟨Nat.zero_le _, Nat.zero_le _⟩ rfl (Nat.le_of_ble_eq_true rfl) dX3_sail_26 ?_
    refine g_if_eq (pc := 29) C 36 dX3_sail_29 rfl (fun c2 => ?_) (fun c2 => ?_)
    · have c2 := bI_0.mp c2
      refine g_iconst (pc := 36) (v := nI 0) C dX3_sail_36 (by decide) ?_
      rw [bI_f (p := fogF (bI dr) u H) (fun q => q.elim (fun z => z c1) (fun z => c2 (Or.inr z)))] at begin_
      exact begin_
    · have c2 := Decidable.not_not.mp (fun q => c2 (bI_0.mpr q))
      refine g_iconst (pc := 32) (v := nI 1) C dX3_sail_32 (by decide) ?_
      refine g_goto (pc := 33) C 37 dX3_sail_33 rfl ?_
      rw [bI_t (show fogF (bI dr) u H from c2.elim (fun z => absurd rfl z) Or.inr)] at begin_
      exact begin_
