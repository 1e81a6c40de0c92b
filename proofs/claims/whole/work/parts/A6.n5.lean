/-! ===== THE CLASS: CrossingReader: read ===== -/
theorem t3_goes (w : Wd) (l : Launch) {U : St} {T : Nat → Int32} {L n : Nat} (hT : s_A U 2 = T) (h : rd3K U L) (hn : n ≤ L) (f : Int32) : gx_M w l yX5_goesOn cX5_goesOn 1 (some .boolean) rmX5_goesOn [.ref (ad (w_b w) 3)] (rk3 U n f) (pI (bI (f = 0 ∧ seeV T L (skN T L n) = nI 59)) (if f = 0 then (if seeV T L (skN T L n) = nI 59 then rk3 U (skN T L n + 1) 0 else rk3 U (skN T L n) (if seeV T L (skN T L n) = -1 then 0 else nI (ftN 0 (skN T L n)))) else rk3 U n f)) := by
  subst hT; exact c_X5_goesOn_X1 w l U L h n hn f
theorem cell_D {T : Nat → Int32} {L P c n n' P' : Nat} {lo hi : Int32} {D D' : Nat → Int32} (h : cellF T L P lo hi c n D = .ok (n', P', D')) : ∃ x, D' = upd D c x := by
  unfold cellF at h
  cases r : numF T L n lo hi with
  | error f => rw [r] at h; cases h
  | ok p => obtain ⟨a, x⟩ := p; rw [r] at h; cases h; exact ⟨x, rfl⟩
theorem boat_0 {T : Nat → Int32} {L n P n' P' : Nat} {D D' : Nat → Int32} (h : boatN T L n P D = .ok (n', P', D')) : D' 0 = nI 1 := by
  unfold boatN at h
  cases r : cellF T L P (nI 0) (nI 99) 1 n D with
  | error f => rw [r] at h; cases h
  | ok p =>
    obtain ⟨a, b, D1⟩ := p
    rw [r] at h
    simp only at h
    cases r2 : cellF T L P (nI 1) (nI 7) 2 a D1 with
    | error f => rw [r2] at h; cases h
    | ok p =>
      obtain ⟨a2, b2, D2⟩ := p
      rw [r2] at h
      simp only at h
      cases r3 : cellF T L P (nI 0) (nI 20) 3 a2 D2 with
      | error f => rw [r3] at h; cases h
      | ok p => obtain ⟨a3, b3, D3⟩ := p; rw [r3] at h; cases h; exact pk_us
theorem pers_0 {T : Nat → Int32} {L n P n' P' : Nat} {D D' : Nat → Int32} (h : persN T L n P D = .ok (n', P', D')) : D' 0 = D 0 := by
  unfold persN at h
  cases r : cellF T L P (nI 0) (nI 40) (42 + P) n D with
  | error f => rw [r] at h; cases h
  | ok p =>
    obtain ⟨a, b, D1⟩ := p
    obtain ⟨x, e⟩ := cell_D r
    rw [r] at h
    simp only at h
    cases r2 : cellF T L P (nI 0) (nI 9) (28 + P) a D1 with
    | error f => rw [r2] at h; cases h
    | ok p =>
      obtain ⟨a2, b2, D2⟩ := p
      obtain ⟨y, e2⟩ := cell_D r2
      rw [r2] at h
      cases h
      rw [pk_un (by omega), e2, pk_un (by omega), e, pk_un (by omega)]
theorem cork_0 {T : Nat → Int32} {L n P n' P' : Nat} {D D' : Nat → Int32} (h : corkN T L n P D = .ok (n', P', D')) : D' 0 = D 0 := by
  unfold corkN at h
  cases r : cellF T L P (nI 1) (nI 20) (35 + P) n D with
  | error f => rw [r] at h; cases h
  | ok p =>
    obtain ⟨a, b, D1⟩ := p
    obtain ⟨x, e⟩ := cell_D r
    rw [r] at h
    cases h
    rw [pk_un (by omega), e, pk_un (by omega)]
theorem bes_0 {T : Nat → Int32} {L n P n' P' : Nat} {D D' : Nat → Int32} (h : besN T L n P D = .ok (n', P', D')) : D' 0 = D 0 := by
  unfold besN at h
  cases r : numF T L n (nI 0) (nI P - nI 1) with
  | error f => rw [r] at h; cases h
  | ok p =>
    obtain ⟨a, x⟩ := p
    rw [r] at h
    simp only at h
    cases r2 : numF T L a (nI 0) (nI P - nI 1) with
    | error f => rw [r2] at h; cases h
    | ok p =>
      obtain ⟨a2, y⟩ := p
      rw [r2] at h
      simp only at h
      split at h
      · cases h
      · cases r3 : numF T L a2 (nI 0) (nI 9) with
        | error f => rw [r3] at h; cases h
        | ok p => obtain ⟨a3, z⟩ := p; rw [r3] at h; cases h; rw [pk_un (by omega), pk_un (by omega)]
theorem fog_0 {T : Nat → Int32} {L n P n' P' : Nat} {D D' : Nat → Int32} (h : fogN T L n P D = .ok (n', P', D')) : D' 0 = D 0 := by
  unfold fogN at h
  cases r : numF T L n (nI 0) (nI 60) with
  | error f => rw [r] at h; cases h
  | ok p => obtain ⟨a, x⟩ := p; rw [r] at h; cases h; rw [pk_un (by omega)]
theorem ite_ok {p : Prop} [Decidable p] {r : RC} {e : Nat} {x : Nat × Nat × (Nat → Int32)} (h : (if p then r else .error e) = .ok x) : p ∧ r = .ok x := by
  by_cases q : p
  · rw [if_pos q] at h; exact ⟨q, h⟩
  · rw [if_neg q] at h; cases h
theorem cls_0 {T : Nat → Int32} {L n c P n' P' : Nat} {D D' : Nat → Int32} (hc : c ≤ 40) (h0 : (c = 0 ∧ D 0 = nI 0) ∨ (0 < c ∧ D 0 = nI 1)) (h : clsC T L n c P D = .ok (n', P', D')) : D' 0 = nI 1 := by
  have h1 : 0 < c → D 0 = nI 1 := fun z => h0.elim (fun q => by omega) (fun q => q.2)
  rw [clsC_by hc h0] at h
  split at h
  · exact boat_0 (ite_ok h).2
  · split at h
    · obtain ⟨a, b⟩ := ite_ok h; exact (pers_0 b).trans (h1 a.1.1)
    · split at h
      · obtain ⟨a, b⟩ := ite_ok h; exact (cork_0 b).trans (h1 a.1.1)
      · split at h
        · obtain ⟨a, b⟩ := ite_ok h; exact (bes_0 b).trans (h1 a.1)
        · obtain ⟨-, h⟩ := ite_ok h
          obtain ⟨a, b⟩ := ite_ok h
          exact (fog_0 b).trans (h1 a.1)
def pxRC (S : St) (c ca cg cl ce L : Nat) (r : Except Nat (Nat × (Nat → Int32))) : Option Value → St → Prop := fun v S' => eqO (fun k => k = 3 ∨ k = c ∨ k = ca ∨ k = cg ∨ k = cl ∨ k = ce) S S' ∧ (∀ f, f ≠ 103 → s_R S' f 3 = s_R S f 3) ∧ (∀ f, s_R S' f c = s_R S f c) ∧ match r with
  | .error f => v = some (.int (nI f)) ∧ 0 < f ∧ f ≤ 8 * L + 8
  | .ok (P', D') => v = some (.int 0) ∧ crZ S' c ca cg cl ce P' D'
theorem crZ.rk {U : St} {c ca cg cl ce P n : Nat} {f : Int32} {D : Nat → Int32} (h : crZ U c ca cg cl ce P D) : crZ (rk3 U n f) c ca cg cl ce P D := by
  obtain ⟨⟨g0, g1, g2, g3, g4⟩, g⟩ := h
  exact ⟨⟨(rk3_g (by decide) (by decide)).trans g0, (rk3_g (by decide) (by decide)).trans g1, (rk3_g (by decide) (by decide)).trans g2, (rk3_g (by decide) (by decide)).trans g3, (rk3_g (by decide) (by decide)).trans g4⟩, g⟩
theorem crZ_0 {S : St} {c ca cg cl ce : Nat} {D : Nat → Int32} (hD : ∀ j, j < 159 → D j = nI 0) : crZ (cr0 S c ce) c ca cg cl ce 0 D := by
  refine ⟨⟨?_, ?_, ?_, ?_, ?_⟩, hD 4 (by omega), by omega, fun p hp => absurd hp (by omega), fun p hp hp7 => ⟨hD _ (by omega), hD _ (by omega), hD _ (by omega)⟩, fun p hp q hq => ?_, fun i hi => ?_⟩
  · rw [hD 0 (by omega)]
    show s_I (s_setI (s_setI (s_setI (s_setI (s_setI S 0 c (nI 0)) 1 c (nI 0)) 2 c (nI 0)) 3 c (nI 0)) 4 c (nI 0)) 0 c = nI 0
    rw [gI_ne (Or.inl (by decide)), gI_ne (Or.inl (by decide)), gI_ne (Or.inl (by decide)), gI_ne (Or.inl (by decide)), gI_at]
  · rw [hD 1 (by omega)]
    show s_I (s_setI (s_setI (s_setI (s_setI (s_setI S 0 c (nI 0)) 1 c (nI 0)) 2 c (nI 0)) 3 c (nI 0)) 4 c (nI 0)) 1 c = nI 0
    rw [gI_ne (Or.inl (by decide)), gI_ne (Or.inl (by decide)), gI_ne (Or.inl (by decide)), gI_at]
  · rw [hD 2 (by omega)]
    show s_I (s_setI (s_setI (s_setI (s_setI (s_setI S 0 c (nI 0)) 1 c (nI 0)) 2 c (nI 0)) 3 c (nI 0)) 4 c (nI 0)) 2 c = nI 0
    rw [gI_ne (Or.inl (by decide)), gI_ne (Or.inl (by decide)), gI_at]
  · rw [hD 3 (by omega)]
    show s_I (s_setI (s_setI (s_setI (s_setI (s_setI S 0 c (nI 0)) 1 c (nI 0)) 2 c (nI 0)) 3 c (nI 0)) 4 c (nI 0)) 3 c = nI 0
    rw [gI_ne (Or.inl (by decide)), gI_at]
  · show s_I (s_setI (s_setI (s_setI (s_setI (s_setI S 0 c (nI 0)) 1 c (nI 0)) 2 c (nI 0)) 3 c (nI 0)) 4 c (nI 0)) 4 c = nI 0
    rw [gI_at]
  · rw [hD _ (by omega)]
    have e : s_A (cr0 S c ce) ce = filF (s_A S ce) (nI 0) 49 := (gA_at (S := s_setL (s_setI (s_setI (s_setI (s_setI (s_setI S 0 c (nI 0)) 1 c (nI 0)) 2 c (nI 0)) 3 c (nI 0)) 4 c (nI 0)) 5 c 0))
    rw [e]
    unfold filF
    rw [if_pos (by omega)]
  · rw [hD _ (by omega), fgB_bit (by omega)]
    have e : s_L (cr0 S c ce) 5 c = 0 := (gL_at : s_L (s_setL (s_setI (s_setI (s_setI (s_setI (s_setI S 0 c (nI 0)) 1 c (nI 0)) 2 c (nI 0)) 3 c (nI 0)) 4 c (nI 0)) 5 c 0) 5 c = 0)
    rw [e]
    exact ⟨fun z => absurd z (by simp), fun z => absurd z (by decide)⟩
theorem c_X1_read (w : Wd) (j : SJ) (l : Launch) (S : St) (c ca cg cl ce L : Nat) (D0 : Nat → Int32) (hD0 : ∀ i, i < 159 → D0 i = nI 0) (hd : rd3K S L) (hK : crK S c ca cg cl ce) (hk5 : k5D c ca cg cl ce) : gx_MJ w j l yX1_read cX1_read 4 (some .int) rmX1_read [.ref (ad (w_b w) 3), .ref (ad (w_b w) c)] S (pxRC S c ca cg cl ce L (rdC (s_A S 2) L 401 0 0 0 D0)) := by
  have hL := hd.2.1.2.2.2
  have o3 : ∀ S, 121 ≤ s_z S → gx_o S 3 1 := fun S q => o_st q rfl rfl
  have zu : 121 ≤ s_z S := hd.2.1.1
  have l1 := ck_lo hk5.1.1
  have l2 := ck_lo hk5.1.2.1
  have l3' := ck_lo hk5.1.2.2.1
  have l4 := ck_lo hk5.1.2.2.2.1
  have l5 := ck_lo hk5.1.2.2.2.2
  generalize hT : s_A S 2 = T
  generalize hR : rdC T L 401 0 0 0 D0 = R
  generalize hpost : pxRC S c ca cg cl ce L R = post
  have hK1 : crK (s_setR S 103 3 (some c)) c ca cg cl ce := hK.to (D := fun k => k = 3) (eqO.sR rfl) l1.2.2
  have q0 : eqO (fun k => k = 3 ∨ k = c ∨ k = ca ∨ k = cg ∨ k = cl ∨ k = ce) S (cr0 (s_setR S 103 3 (some c)) c ce) := by
    unfold cr0
    exact (eqO.sR (Or.inl rfl)).trans ((eqO.sI (Or.inr (Or.inl rfl))).trans ((eqO.sI (Or.inr (Or.inl rfl))).trans ((eqO.sI (Or.inr (Or.inl rfl))).trans ((eqO.sI (Or.inr (Or.inl rfl))).trans ((eqO.sI (Or.inr (Or.inl rfl))).trans ((eqO.sL (Or.inr (Or.inl rfl))).trans (eqO.sA (Or.inr (Or.inr (Or.inr (Or.inr (Or.inr rfl)))))))))))) 
  have rr3 : ∀ f, f ≠ 103 → s_R (cr0 (s_setR S 103 3 (some c)) c ce) f 3 = s_R S f 3 := fun f hf => by
    show s_R (s_setR S 103 3 (some c)) f 3 = s_R S f 3
    exact gR_ne (Or.inl hf)
  have rrc : ∀ f, s_R (cr0 (s_setR S 103 3 (some c)) c ce) f c = s_R S f c := fun f => by
    show s_R (s_setR S 103 3 (some c)) f c = s_R S f c
    exact gR_ne (Or.inr l1.2.2)
  have ri : s_R (cr0 (s_setR S 103 3 (some c)) c ce) 103 3 = some c := (gR_at : s_R (s_setR S 103 3 (some c)) 103 3 = some c)
  have hz0 := crZ_0 (S := s_setR S 103 3 (some c)) (c := c) (ca := ca) (cg := cg) (cl := cl) (ce := ce) hD0
  have hw0 : cwP (cr0 (s_setR S 103 3 (some c)) c ce) T c ca cg cl ce L 0 := by
    refine ⟨⟨(rr3 100 (by decide)).trans hd.1, ⟨by rw [q0.1]; exact zu, (q0.R (by omega)).trans hd.2.1.2.1, (q0.I (by omega)).trans hd.2.1.2.2.1, hL⟩, by rw [q0.A (by omega)]; exact hd.2.2⟩, (q0.A (by omega)).trans hT, ri, by omega, ?_, hk5⟩
    exact ⟨q0.o hK.1, (rrc _).trans hK.2.1, q0.a hK.2.2.1, (rrc _).trans hK.2.2.2.1, q0.a hK.2.2.2.2.1, (rrc _).trans hK.2.2.2.2.2.1, q0.a hK.2.2.2.2.2.2.1, (rrc _).trans hK.2.2.2.2.2.2.2.1, q0.a hK.2.2.2.2.2.2.2.2⟩
  refine gx_startJ rfl 2 rfl (Nat.le_of_ble_eq_true rfl) ?_
  intro X C J hl
  subst hl
  refine gx_L (L' := [_, _, _, _]) rfl ?_
  refine g_aload_n (pc := 0) C dX1_read_0 rfl ?_
  refine g_aload_n (pc := 1) C dX1_read_1 rfl ?_
  refine fps_X1_9 (pc := 2) C (by exact (o3 _ zu).1) (zk (by exact (o3 _ zu).2)) dX1_read_2 ?_
  refine g_aload_n (pc := 5) C dX1_read_5 rfl ?_
  refine fgr_X1_9 (pc := 6) C (by exact (o3 _ zu).1) (zk (by exact (o3 _ zu).2)) (by exact gR_at) dX1_read_6 ?_
  refine cf_X1_15 (pc := 9) C (by exact hK1.1.1) (zk (by exact hK1.1.2)) (c_X0_clear _ _ (s_setR S 103 3 (some c)) c ca cg cl ce hK1) ⟨rfl, rfl⟩ ⟨rfl, rfl⟩ ⟨Nat.zero_le _, Nat.zero_le _⟩ rfl (Nat.le_of_ble_eq_true rfl) dX1_read_9 ?_
  generalize cr0 (s_setR S 103 3 (some c)) c ce = U0 at q0 rr3 rrc ri hz0 hw0 ⊢
  have exit : ∀ U1 a (f : Int32) k, 121 ≤ s_z U1 → post (some (.int f)) (rk3 U1 a f) → gx_G w X (rk3 U1 a f) 0 0 26 [some (.ref (ad (w_b w) 3)), some (.ref (ad (w_b w) c)), some (.int (nI 0)), some (.int (nI k))] [] (gx_E w X post) := by
    intro U1 a f k zu1 hp
    refine g_iload_n (pc := 26) C dX1_read_26 rfl ?_
    refine g_if_eq (pc := 27) C 52 dX1_read_27 rfl (fun c1 => ?_) (fun c1 => ?_)
    · refine g_aload_n (pc := 52) C dX1_read_52 rfl ?_
      refine fg_X1_25 (pc := 53) C (by exact (o3 _ zu1).1) (zk (by exact (o3 _ zu1).2)) dX1_read_53 ?_
      refine gx_ti (y := f) rk3_gF ?_
      exact g_ireturn (pc := 56) C ⟨rfl, rfl⟩ dX1_read_56 hp
    · exact absurd rfl c1
  have out : ∀ U1 a (f : Int32), cch c ca cg cl ce U0 U1 → eqO (fun k => k = 3 ∨ k = c ∨ k = ca ∨ k = cg ∨ k = cl ∨ k = ce) S (rk3 U1 a f) ∧ (∀ g, g ≠ 103 → s_R (rk3 U1 a f) g 3 = s_R S g 3) ∧ ∀ g, s_R (rk3 U1 a f) g c = s_R S g c := fun U1 a f e => ⟨(q0.trans e.1).trans (cch_rk (c := c) (ca := ca) (cg := cg) (cl := cl) (ce := ce)).1, fun g hg => (e.2.1 g).trans (rr3 g hg), fun g => (e.2.2 g).trans (rrc g)⟩
  have loop : ∀ dd k n1 P1 D1 U1, dd + k = 401 → k ≤ 40 → cch c ca cg cl ce U0 U1 → cwP U1 T c ca cg cl ce L n1 → crZ U1 c ca cg cl ce P1 D1 → ((k = 0 ∧ D1 0 = nI 0) ∨ (0 < k ∧ D1 0 = nI 1)) → R = rdC T L dd n1 k P1 D1 → gx_G w X (rk3 U1 n1 0) 0 0 26 [some (.ref (ad (w_b w) 3)), some (.ref (ad (w_b w) c)), some (.int (nI 1)), some (.int (nI k))] [] (gx_E w X post) := by
    intro dd
    induction dd with
    | zero => intro k n1 P1 D1 U1 h1 h2; omega
    | succ dd ih =>
      intro k n1 P1 D1 U1 h1 h2 r1 hw1 hz1 hk0 hR1
      obtain ⟨hd1, hT1, hi1, hn1, hK1', -⟩ := id hw1
      have zu1 : 121 ≤ s_z U1 := hd1.2.1.1
      have hk := clsC_ok (T := T) (L := L) (n := n1) (c := k) (P := P1) (D := D1) hn1 hz1.2.2.1
      have h00 := fun n' P' D' => cls_0 (T := T) (L := L) (n := n1) (c := k) (P := P1) (D := D1) (n' := n') (P' := P') (D' := D') h2 hk0
      have hR2 : R = match clsC T L n1 k P1 D1 with
        | .error f => .error f
        | .ok (n', P', D') => if seeV T L (skN T L n') = nI 59 then rdC T L dd (skN T L n' + 1) (k + 1) P' D' else if seeV T L (skN T L n') = -1 then .ok (P', D') else .error (ftN 0 (skN T L n')) := hR1
      refine g_iload_n (pc := 26) C dX1_read_26 rfl ?_
      refine g_if_eq (pc := 27) C 52 dX1_read_27 rfl (fun c1 => ?_) (fun c1 => ?_)
      · exact absurd c1 (by decide)
      · refine g_iload_n (pc := 30) C dX1_read_30 rfl ?_
        refine g_bipush (pc := 31) (v := nI 40) C dX1_read_31 (by decide) ?_
        refine g_icmp_gt (pc := 33) C 52 dX1_read_33 rfl (fun c2 => ?_) (fun c2 => ?_)
        · exact absurd c2 (nI_nlt h2 (by omega))
        · refine g_aload_n (pc := 36) C dX1_read_36 rfl ?_
          refine g_iload_n (pc := 37) C dX1_read_37 rfl ?_
          refine cgj_X1_28 (pc := 38) C J (by exact (o3 _ zu1).1) (zk (by exact (o3 _ zu1).2)) (c_X1_readClause _ _ _ U1 T c ca cg cl ce L n1 k P1 D1 hw1 hz1 h2 hk0) ⟨rfl, rfl⟩ ⟨Nat.zero_le _, Nat.zero_le _⟩ rfl (Nat.le_of_ble_eq_true rfl) dX1_read_38 ?_
          rintro _ S3 ⟨rfl, U3, r3, h3⟩
          cases hr : clsC T L n1 k P1 D1 with
          | error f =>
            rw [hr] at h3 hR2 hk
            obtain ⟨n3, hn3, e3⟩ := h3
            subst e3
            have hw3 := hw1.ch r3 hn3
            have zu3 : 121 ≤ s_z U3 := hw3.1.2.1.1
            have hf0 := ftpos hk hL
            refine g_aload_n (pc := 41) C dX1_read_41 rfl ?_
            refine cf_X1_32 (pc := 42) C (by exact (o3 _ zu3).1) (zk (by exact (o3 _ zu3).2)) (t3_goes _ _ hw3.2.1 hw3.1 hn3 (nI f)) ⟨rfl, rfl⟩ ⟨rfl, rfl⟩ ⟨Nat.zero_le _, Nat.zero_le _⟩ rfl (Nat.le_of_ble_eq_true rfl) dX1_read_42 ?_
            rw [if_neg hf0, bI_f (fun q => hf0 q.1)]
            refine g_istore_n (pc := 45) (L' := [_, some (.ref _), _, _]) C dX1_read_45 rfl rfl ?_
            refine g_iinc (pc := 46) (L' := [_, _, some (.int _), _]) C dX1_read_46 rfl (nI_1 _) rfl ?_
            refine g_goto (pc := 49) C 26 dX1_read_49 rfl ?_
            refine exit U3 n3 (nI f) _ zu3 ?_
            obtain ⟨o1, o2, o3⟩ := out U3 n3 (nI f) (r1.trans r3)
            rw [← hpost, hR2]
            exact ⟨o1, o2, o3, rfl, hk⟩
          | ok p =>
            obtain ⟨n', P', D'⟩ := p
            rw [hr] at h3 hR2 hk
            have h01 := h00 n' P' D' hr
            simp only at hR2
            obtain ⟨e3, hz3⟩ := h3
            obtain ⟨b1, b2, b3, b4⟩ := hk
            subst e3
            have hw3 := hw1.ch r3 b2
            have zu3 : 121 ≤ s_z U3 := hw3.1.2.1.1
            have hs3 := sk_bd (T := T) b2
            refine g_aload_n (pc := 41) C dX1_read_41 rfl ?_
            refine cf_X1_32 (pc := 42) C (by exact (o3 _ zu3).1) (zk (by exact (o3 _ zu3).2)) (t3_goes _ _ hw3.2.1 hw3.1 b2 0) ⟨rfl, rfl⟩ ⟨rfl, rfl⟩ ⟨Nat.zero_le _, Nat.zero_le _⟩ rfl (Nat.le_of_ble_eq_true rfl) dX1_read_42 ?_
            rw [if_pos rfl]
            by_cases h59 : seeV T L (skN T L n') = nI 59
            · rw [if_pos h59] at hR2 ⊢
              have hlt : skN T L n' < L := Nat.lt_of_not_le (fun z => by rw [see_end z] at h59; exact absurd h59 (by decide))
              rw [bI_t ⟨rfl, h59⟩]
              refine g_istore_n (pc := 45) (L' := [_, some (.ref _), _, _]) C dX1_read_45 rfl rfl ?_
              refine g_iinc (pc := 46) (L' := [_, _, some (.int _), _]) C dX1_read_46 rfl (nI_1 _) rfl ?_
              refine g_goto (pc := 49) C 26 dX1_read_49 rfl ?_
              exact ih (k + 1) (skN T L n' + 1) P' D' U3 (by omega) (by omega) (r1.trans r3) (hw1.ch r3 (by omega)) hz3 (Or.inr ⟨by omega, h01⟩) hR2
            · rw [if_neg h59] at hR2 ⊢
              rw [bI_f (fun z => h59 z.2)]
              by_cases hm1 : seeV T L (skN T L n') = -1
              · rw [if_pos hm1] at hR2 ⊢
                refine g_istore_n (pc := 45) (L' := [_, some (.ref _), _, _]) C dX1_read_45 rfl rfl ?_
                refine g_iinc (pc := 46) (L' := [_, _, some (.int _), _]) C dX1_read_46 rfl (nI_1 _) rfl ?_
                refine g_goto (pc := 49) C 26 dX1_read_49 rfl ?_
                refine exit U3 (skN T L n') 0 _ zu3 ?_
                obtain ⟨o1, o2, o3⟩ := out U3 (skN T L n') 0 (r1.trans r3)
                rw [← hpost, hR2]
                exact ⟨o1, o2, o3, rfl, hz3.rk⟩
              · rw [if_neg hm1] at hR2 ⊢
                refine g_istore_n (pc := 45) (L' := [_, some (.ref _), _, _]) C dX1_read_45 rfl rfl ?_
                refine g_iinc (pc := 46) (L' := [_, _, some (.int _), _]) C dX1_read_46 rfl (nI_1 _) rfl ?_
                refine g_goto (pc := 49) C 26 dX1_read_49 rfl ?_
                refine exit U3 (skN T L n') (nI (ftN 0 (skN T L n'))) _ zu3 ?_
                obtain ⟨o1, o2, o3⟩ := out U3 (skN T L n') (nI (ftN 0 (skN T L n'))) (r1.trans r3)
                rw [← hpost, hR2]
                exact ⟨o1, o2, o3, rfl, by unfold ftN; omega⟩
  have zu0 : 121 ≤ s_z U0 := hw0.1.2.1.1
  refine g_aload_n (pc := 12) C dX1_read_12 rfl ?_
  refine g_iconst (pc := 13) (v := nI 0) C dX1_read_13 (by decide) ?_
  refine fp_X1_21 (pc := 14) C (by exact (o3 _ zu0).1) (zk (by exact (o3 _ zu0).2)) dX1_read_14 ?_
  refine g_aload_n (pc := 17) C dX1_read_17 rfl ?_
  refine g_iconst (pc := 18) (v := nI 0) C dX1_read_18 (by decide) ?_
  refine fp_X1_25 (pc := 19) C (by exact (o3 _ zu0).1) (zk (by exact (o3 _ zu0).2)) dX1_read_19 ?_
  refine gx_S (S' := rk3 U0 0 0) rfl ?_
  refine g_iconst (pc := 22) (v := nI 1) C dX1_read_22 (by decide) ?_
  refine g_istore_n (pc := 23) (L' := [_, some (.ref _), _, _]) C dX1_read_23 rfl rfl ?_
  refine g_iconst (pc := 24) (v := nI 0) C dX1_read_24 (by decide) ?_
  refine g_istore_n (pc := 25) (L' := [_, _, some (.int _), _]) C dX1_read_25 rfl rfl ?_
  exact loop 401 0 0 0 D0 U0 rfl (by omega) cch.refl hw0 hz0 (Or.inl ⟨rfl, hD0 0 (by omega)⟩) hR.symm
