/-! ===== THE CLASS: CrossingReader: what it keeps ===== -/
def cch (c ca cg cl ce : Nat) (S S' : St) : Prop := eqO (fun k => k = 3 ∨ k = c ∨ k = ca ∨ k = cg ∨ k = cl ∨ k = ce) S S' ∧ (∀ f, s_R S' f 3 = s_R S f 3) ∧ ∀ f, s_R S' f c = s_R S f c
section
variable {c ca cg cl ce : Nat} {S T U : St}
theorem cch.refl : cch c ca cg cl ce S S := ⟨eqO.refl, fun _ => rfl, fun _ => rfl⟩
theorem cch.trans (h : cch c ca cg cl ce S T) (g : cch c ca cg cl ce T U) : cch c ca cg cl ce S U := ⟨h.1.trans g.1, fun f => (g.2.1 f).trans (h.2.1 f), fun f => (g.2.2 f).trans (h.2.2 f)⟩
theorem cch_rk {n : Nat} {f : Int32} : cch c ca cg cl ce U (rk3 U n f) := ⟨(eqO.sI (Or.inl rfl)).trans (eqO.sI (Or.inl rfl)), fun _ => rfl, fun _ => rfl⟩
theorem cch_I {g : Nat} {v : Int32} : cch c ca cg cl ce U (s_setI U g c v) := ⟨eqO.sI (Or.inr (Or.inl rfl)), fun _ => rfl, fun _ => rfl⟩
theorem cch_L {g : Nat} {v : Int64} : cch c ca cg cl ce U (s_setL U g c v) := ⟨eqO.sL (Or.inr (Or.inl rfl)), fun _ => rfl, fun _ => rfl⟩
theorem cch_E {g : Nat → Int32} : cch c ca cg cl ce U (s_setA U ce g) := ⟨eqO.sA (Or.inr (Or.inr (Or.inr (Or.inr (Or.inr rfl))))), fun _ => rfl, fun _ => rfl⟩
theorem cch_A {P : Nat} {x y z : Int32} : cch c ca cg cl ce U (crA U c ca cg cl P x y z) := ⟨(((eqO.sA (Or.inr (Or.inr (Or.inl rfl)))).trans (eqO.sA (Or.inr (Or.inr (Or.inr (Or.inl rfl)))))).trans (eqO.sA (Or.inr (Or.inr (Or.inr (Or.inr (Or.inl rfl))))))).trans (eqO.sI (Or.inr (Or.inl rfl))), fun _ => rfl, fun _ => rfl⟩
end
/-- five cells that are apart, and none of the reader's -/
def k5D (c ca cg cl ce : Nat) : Prop := cK5 c ca cg cl ce ∧ ca ≠ cg ∧ ca ≠ cl ∧ cg ≠ cl ∧ ca ≠ ce ∧ cg ≠ ce ∧ cl ≠ ce
theorem ck_lo {k : Nat} (h : ck k) : ¬ k = 1 ∧ ¬ k = 2 ∧ ¬ k = 3 := by unfold ck at h; omega
theorem rd3K.ch {c ca cg cl ce : Nat} {S U : St} {L : Nat} (h : rd3K S L) (hk : k5D c ca cg cl ce) (e : cch c ca cg cl ce S U) : rd3K U L := by
  obtain ⟨⟨k1, k2, k3, k4, k5⟩, -⟩ := hk
  have a1 := ck_lo k1
  have a2 := ck_lo k2
  have a3 := ck_lo k3
  have a4 := ck_lo k4
  have a5 := ck_lo k5
  exact ⟨(e.2.1 _).trans h.1, ⟨by rw [e.1.1]; exact h.2.1.1, (e.1.R (by omega)).trans h.2.1.2.1, (e.1.I (by omega)).trans h.2.1.2.2.1, h.2.1.2.2.2⟩, by rw [e.1.A (by omega)]; exact h.2.2⟩
theorem crK.ch {c ca cg cl ce : Nat} {S U : St} (h : crK S c ca cg cl ce) (e : cch c ca cg cl ce S U) : crK U c ca cg cl ce := ⟨e.1.o h.1, (e.2.2 _).trans h.2.1, e.1.a h.2.2.1, (e.2.2 _).trans h.2.2.2.1, e.1.a h.2.2.2.2.1, (e.2.2 _).trans h.2.2.2.2.2.1, e.1.a h.2.2.2.2.2.2.1, (e.2.2 _).trans h.2.2.2.2.2.2.2.1, e.1.a h.2.2.2.2.2.2.2.2⟩
/-- the Crossing that is read into says D, of P people; what is behind them is empty -/
def crZ (U : St) (c ca cg cl ce P : Nat) (D : Nat → Int32) : Prop := (s_I U 0 c = D 0 ∧ s_I U 1 c = D 1 ∧ s_I U 2 c = D 2 ∧ s_I U 3 c = D 3 ∧ s_I U 4 c = nI P) ∧ D 4 = nI P ∧ P ≤ 7 ∧ (∀ p, p < P → s_A U ca p = D (42 + p) ∧ s_A U cg p = D (28 + p) ∧ s_A U cl p = D (35 + p)) ∧ (∀ p, P ≤ p → p < 7 → D (42 + p) = nI 0 ∧ D (28 + p) = nI 0 ∧ D (35 + p) = nI 0) ∧ (∀ p, p < 7 → ∀ q, q < 7 → s_A U ce (7 * p + q) = D (49 + 7 * p + q)) ∧ ∀ h, h ≤ 60 → (fgB (s_L U 5 c) h ↔ D (98 + h) = nI 1)
theorem crZ.cr {U : St} {c ca cg cl ce P : Nat} {D : Nat → Int32} (h : crZ U c ca cg cl ce P D) (hk : crK U c ca cg cl ce) : crS U c ca cg cl ce P D := ⟨hk, ⟨h.1.1, h.1.2.1, h.1.2.2.1, h.1.2.2.2.1, h.1.2.2.2.2, h.2.2.2.1, fun p hp q hq => h.2.2.2.2.2.1 p (by have := h.2.2.1; omega) q (by have := h.2.2.1; omega), h.2.2.2.2.2.2⟩, h.2.2.1⟩
def pxCr (U : St) (c ca cg cl ce L : Nat) (r : RC) : Option Value → St → Prop := fun v S' => v = none ∧ ∃ U', cch c ca cg cl ce U U' ∧ match r with
  | .error f => ∃ n, n ≤ L ∧ S' = rk3 U' n (nI f)
  | .ok (n', P', D') => S' = rk3 U' n' 0 ∧ crZ U' c ca cg cl ce P' D'
theorem pxCr_e {U U' S' : St} {c ca cg cl ce L f n : Nat} {r : RC} (hr : r = .error f) (h : cch c ca cg cl ce U U') (hn : n ≤ L) (e : S' = rk3 U' n (nI f)) : pxCr U c ca cg cl ce L r none S' := by
  subst hr; exact ⟨rfl, U', h, n, hn, e⟩
theorem pxCr_o {U U' S' : St} {c ca cg cl ce L n' P' : Nat} {D' : Nat → Int32} {r : RC} (hr : r = .ok (n', P', D')) (h : cch c ca cg cl ce U U') (e : S' = rk3 U' n' 0) (hz : crZ U' c ca cg cl ce P' D') : pxCr U c ca cg cl ce L r none S' := by
  subst hr; exact ⟨rfl, U', h, e, hz⟩
theorem rk3_I (U : St) (n g k : Nat) (f v : Int32) (h1 : g ≠ 101) (h2 : g ≠ 102) : s_setI (rk3 U n f) g k v = rk3 (s_setI U g k v) n f := by
  unfold rk3
  rw [s_IIc _ 102 3 g k _ _ (fun q => h2 q.symm), s_IIc _ 101 3 g k _ _ (fun q => h1 q.symm)]
theorem rk3_g {U : St} {n g k : Nat} {f : Int32} (h1 : g ≠ 101) (h2 : g ≠ 102) : s_I (rk3 U n f) g k = s_I U g k := (gI_ne (Or.inl h2)).trans (gI_ne (Or.inl h1))
theorem rk3_crA (U : St) (n c ca cg cl P : Nat) (f x y z : Int32) : crA (rk3 U n f) c ca cg cl P x y z = rk3 (crA U c ca cg cl P x y z) n f := by
  unfold crA
  rw [← rk3_I _ _ _ _ _ _ (by decide) (by decide)]; rfl
/-! a number, as the class takes it -/
def tnN (T : Nat → Int32) (L n : Nat) : Nat := dgN T L (skN T L n)
def tnV (T : Nat → Int32) (L n : Nat) : Int32 := nbV T (skN T L n) (dgN T L (skN T L n) - skN T L n)
def tnF (T : Nat → Int32) (L n : Nat) (lo hi f : Int32) : Int32 := nfT T L (skN T L n) lo hi f
theorem t3_num (w : Wd) (l : Launch) {U : St} {T : Nat → Int32} {L n : Nat} (hT : s_A U 2 = T) (h : rd3K U L) (hn : n ≤ L) (f lo hi : Int32) : gx_M w l yX5_takeNumber cX5_takeNumber 3 (some .int) rmX5_takeNumber [.ref (ad (w_b w) 3), .int lo, .int hi] (rk3 U n f) (pI (tnV T L n) (rk3 U (tnN T L n) (tnF T L n lo hi f))) := by
  subst hT; exact c_X5_takeNumber_X1 w l U L h n hn f lo hi
theorem tn_le {T : Nat → Int32} {L n : Nat} (hn : n ≤ L) : n ≤ tnN T L n ∧ tnN T L n ≤ L := by
  have h1 := sk_bd (T := T) hn
  have h2 := dg_le (T := T) (L := L) (n := skN T L n) h1.2
  unfold tnN; omega
theorem tn_f {T : Nat → Int32} {L n : Nat} {lo hi f : Int32} (h : ¬ f = 0) : tnF T L n lo hi f = f := by unfold tnF nfT; rw [if_neg h]
theorem tn_c {T : Nat → Int32} {L n : Nat} (hL : L ≤ 400) (hn : n ≤ L) (lo hi : Int32) : (numF T L n lo hi = .ok (tnN T L n, tnV T L n) ∧ tnF T L n lo hi 0 = 0 ∧ lo ≤ tnV T L n ∧ tnV T L n ≤ hi) ∨ ∃ e, numF T L n lo hi = .error e ∧ tnF T L n lo hi 0 = nI e ∧ ¬ nI e = 0 := by
  have h1 := sk_bd (T := T) hn
  unfold numF tnF nfT
  rw [if_pos rfl]
  by_cases a : chP 48 57 T L (skN T L n)
  · rw [if_pos a, if_pos a]
    by_cases b : nbOK T L (skN T L n) lo hi
    · rw [if_pos b, if_pos b]; exact Or.inl ⟨rfl, rfl, b.2⟩
    · rw [if_neg b, if_neg b]; exact Or.inr ⟨_, rfl, rfl, nI_ne0 (by unfold ftN; omega) (by unfold ftN; omega)⟩
  · rw [if_neg a, if_neg a]; exact Or.inr ⟨_, rfl, rfl, nI_ne0 (by unfold ftN; omega) (by unfold ftN; omega)⟩
theorem ft4 {q L : Nat} (hL : L ≤ 400) (hq : q ≤ L) : ¬ nI (ftN 4 q) = 0 := nI_ne0 (by unfold ftN; omega) (by unfold ftN; omega)
theorem al4 (q : Nat) : alw (nI 0) 0 (nI q) (nI 4) = nI (ftN 4 q) := by unfold alw; rw [if_pos ⟨rfl, rfl⟩, ft_I]
theorem al1 (f p k : Int32) : alw (nI 1) f p k = f := by unfold alw; rw [if_neg (fun z => absurd z.1 (by decide))]
/-! the boat, behind its word -/
def boatN (T : Nat → Int32) (L n P : Nat) (D : Nat → Int32) : RC := match cellF T L P (nI 0) (nI 99) 1 n D with
  | .error f => .error f
  | .ok (n1, _, D1) => match cellF T L P (nI 1) (nI 7) 2 n1 D1 with
    | .error f => .error f
    | .ok (n2, _, D2) => match cellF T L P (nI 0) (nI 20) 3 n2 D2 with
      | .error f => .error f
      | .ok (n3, _, D3) => .ok (n3, P, upd D3 0 (nI 1))
theorem cell_o {T : Nat → Int32} {L P c n n' : Nat} {lo hi x : Int32} {D : Nat → Int32} (h : numF T L n lo hi = .ok (n', x)) : cellF T L P lo hi c n D = .ok (n', P, upd D c x) := by unfold cellF; rw [h]
theorem cell_e {T : Nat → Int32} {L P c n e : Nat} {lo hi : Int32} {D : Nat → Int32} (h : numF T L n lo hi = .error e) : cellF T L P lo hi c n D = .error e := by unfold cellF; rw [h]
theorem crZ.boat {U : St} {c ca cg cl ce P : Nat} {D : Nat → Int32} {a b d : Int32} (h : crZ U c ca cg cl ce P D) : crZ (s_setI (s_setI (s_setI (s_setI U 0 c (nI 1)) 1 c a) 2 c b) 3 c d) c ca cg cl ce P (upd (upd (upd (upd D 1 a) 2 b) 3 d) 0 (nI 1)) := by
  obtain ⟨⟨h0, h1, h2, h3, h4⟩, h5, h6, h7, h8, h9, hA⟩ := h
  have e : ∀ j, 4 ≤ j → upd (upd (upd (upd D 1 a) 2 b) 3 d) 0 (nI 1) j = D j := fun j hj => by
    rw [pk_un (by omega), pk_un (by omega), pk_un (by omega), pk_un (by omega)]
  refine ⟨⟨?_, ?_, ?_, ?_, ?_⟩, (e 4 (by omega)).trans h5, h6, fun p hp => by rw [e _ (by omega), e _ (by omega), e _ (by omega)]; exact h7 p hp, fun p hp hp7 => by rw [e _ (by omega), e _ (by omega), e _ (by omega)]; exact h8 p hp hp7, fun p hp q hq => by rw [e _ (by omega)]; exact h9 p hp q hq, fun i hi => by rw [e _ (by omega)]; exact hA i hi⟩
  · rw [gI_ne (Or.inl (by decide)), gI_ne (Or.inl (by decide)), gI_ne (Or.inl (by decide)), gI_at, pk_us]
  · rw [gI_ne (Or.inl (by decide)), gI_ne (Or.inl (by decide)), gI_at, pk_un (by decide), pk_un (by decide), pk_un (by decide), pk_us]
  · rw [gI_ne (Or.inl (by decide)), gI_at, pk_un (by decide), pk_un (by decide), pk_us]
  · rw [gI_at, pk_un (by decide), pk_us]
  · rw [gI_ne (Or.inl (by decide)), gI_ne (Or.inl (by decide)), gI_ne (Or.inl (by decide)), gI_ne (Or.inl (by decide))]; exact h4
/-- what the reader's frame has: the Crossing it reads into -/
def cwP (U : St) (T : Nat → Int32) (c ca cg cl ce L n : Nat) : Prop := rd3K U L ∧ s_A U 2 = T ∧ s_R U 103 3 = some c ∧ n ≤ L ∧ crK U c ca cg cl ce ∧ k5D c ca cg cl ce
theorem cwP.ch {U V : St} {T : Nat → Int32} {c ca cg cl ce L n n' : Nat} (h : cwP U T c ca cg cl ce L n) (e : cch c ca cg cl ce U V) (hn : n' ≤ L) : cwP V T c ca cg cl ce L n' := by
  obtain ⟨a1, a2, a3, a4, a5, a6⟩ := h
  have k := a6.1
  refine ⟨a1.ch a6 e, (e.1.A ?_).trans a2, (e.2.1 _).trans a3, hn, a5.ch e, a6⟩
  have b1 := ck_lo k.1
  have b2 := ck_lo k.2.1
  have b3 := ck_lo k.2.2.1
  have b4 := ck_lo k.2.2.2.1
  have b5 := ck_lo k.2.2.2.2
  omega
theorem c_X1_readBoat (w : Wd) (l : Launch) (U : St) (T : Nat → Int32) (c ca cg cl ce L n q P : Nat) (D : Nat → Int32) (h : cwP U T c ca cg cl ce L n) (hz : crZ U c ca cg cl ce P D) (fine : Prop) [Decidable fine] : gx_M w l yX1_readBoat cX1_readBoat 3 none rmX1_readBoat [.ref (ad (w_b w) 3), .int (bI fine), .int (nI q)] (rk3 U n 0) (pxCr U c ca cg cl ce L (if fine then boatN T L n P D else .error (ftN 4 q))) := by
  obtain ⟨hd, hT, hi, hn, hK, hk5⟩ := id h
  have hL := hd.2.1.2.2.2
  have o3 : ∀ S, 121 ≤ s_z S → gx_o S 3 1 := fun S q => o_st q rfl rfl
  have zu : 121 ≤ s_z U := hd.2.1.1
  generalize hR : (if fine then boatN T L n P D else .error (ftN 4 q)) = R
  generalize hpost : pxCr U c ca cg cl ce L R = post
  refine gx_start rfl 0 rfl (Nat.le_of_ble_eq_true rfl) ?_
  intro X C _ hl
  subst hl
  refine gx_L (L' := [_, _, _]) rfl ?_
  by_cases hf : fine
  · rw [if_pos hf] at hR
    rw [bI_t hf]
    refine g_aload_n (pc := 0) C dX1_readBoat_0 rfl ?_
    refine g_iload_n (pc := 1) C dX1_readBoat_1 rfl ?_
    refine g_iload_n (pc := 2) C dX1_readBoat_2 rfl ?_
    refine g_iconst (pc := 3) (v := nI 4) C dX1_readBoat_3 (by decide) ?_
    refine cf_X1_73 (pc := 4) C (by exact (o3 _ zu).1) (zk (by exact (o3 _ zu).2)) (c_X5_allow_X1 _ _ U L hd n 0 (nI 1) (nI q) (nI 4) (Or.inr rfl)) ⟨rfl, rfl⟩ ⟨rfl, rfl⟩ ⟨Nat.zero_le _, Nat.zero_le _⟩ rfl (Nat.le_of_ble_eq_true rfl) dX1_readBoat_4 ?_
    rw [al1]
    refine g_if_eq (pc := 7) C 60 dX1_readBoat_7 rfl (fun c1 => ?_) (fun c1 => ?_)
    · exact absurd c1 (by decide)
    · refine g_aload_n (pc := 10) C dX1_readBoat_10 rfl ?_
      refine fgr_X1_9 (pc := 11) C (by exact (o3 _ zu).1) (zk (by exact (o3 _ zu).2)) (by exact hi) dX1_readBoat_11 ?_
      refine g_iconst (pc := 14) (v := nI 1) C dX1_readBoat_14 (by decide) ?_
      refine fp_X1_77 (pc := 15) C (by exact hK.1.1) (zk (by exact hK.1.2)) (by first | exact Or.inl rfl | exact Or.inr rfl) dX1_readBoat_15 ?_
      refine gx_S (S' := rk3 (s_setI U 0 c (nI 1)) n 0) (rk3_I _ _ _ _ _ _ (by decide) (by decide)) ?_
      have r1 : cch c ca cg cl ce U (s_setI U 0 c (nI 1)) := cch_I
      have w1 := h.ch r1 hn
      have t1 := tn_le (T := T) hn
      refine g_aload_n (pc := 18) C dX1_readBoat_18 rfl ?_
      refine fgr_X1_9 (pc := 19) C (by exact (o3 _ zu).1) (zk (by exact (o3 _ zu).2)) (by exact hi) dX1_readBoat_19 ?_
      refine g_aload_n (pc := 22) C dX1_readBoat_22 rfl ?_
      refine g_iconst (pc := 23) (v := nI 0) C dX1_readBoat_23 (by decide) ?_
      refine g_bipush (pc := 24) (v := nI 99) C dX1_readBoat_24 (by decide) ?_
      refine cf_X1_81 (pc := 26) C (by exact (o3 _ zu).1) (zk (by exact (o3 _ zu).2)) (t3_num _ _ w1.2.1 w1.1 hn 0 (nI 0) (nI 99)) ⟨rfl, rfl⟩ ⟨rfl, rfl⟩ ⟨Nat.zero_le _, Nat.zero_le _⟩ rfl (Nat.le_of_ble_eq_true rfl) dX1_readBoat_26 ?_
      refine fp_X1_85 (pc := 29) C (by exact hK.1.1) (zk (by exact hK.1.2)) dX1_readBoat_29 ?_
      refine gx_S (S' := rk3 (s_setI (s_setI U 0 c (nI 1)) 1 c (tnV T L n)) (tnN T L n) (tnF T L n (nI 0) (nI 99) 0)) (rk3_I _ _ _ _ _ _ (by decide) (by decide)) ?_
      have r2 : cch c ca cg cl ce U (s_setI (s_setI U 0 c (nI 1)) 1 c (tnV T L n)) := r1.trans cch_I
      have w2 := h.ch r2 t1.2
      have c1 := tn_c (T := T) hL hn (nI 0) (nI 99)
      generalize tnF T L n (nI 0) (nI 99) 0 = f1 at c1 ⊢
      generalize tnV T L n = v1 at c1 r2 w2 ⊢
      generalize tnN T L n = n1 at c1 t1 w2 ⊢
      have t2 := tn_le (T := T) t1.2
      refine g_aload_n (pc := 32) C dX1_readBoat_32 rfl ?_
      refine fgr_X1_9 (pc := 33) C (by exact (o3 _ zu).1) (zk (by exact (o3 _ zu).2)) (by exact hi) dX1_readBoat_33 ?_
      refine g_aload_n (pc := 36) C dX1_readBoat_36 rfl ?_
      refine g_iconst (pc := 37) (v := nI 1) C dX1_readBoat_37 (by decide) ?_
      refine g_bipush (pc := 38) (v := nI 7) C dX1_readBoat_38 (by decide) ?_
      refine cf_X1_81 (pc := 40) C (by exact (o3 _ zu).1) (zk (by exact (o3 _ zu).2)) (t3_num _ _ w2.2.1 w2.1 t1.2 f1 (nI 1) (nI 7)) ⟨rfl, rfl⟩ ⟨rfl, rfl⟩ ⟨Nat.zero_le _, Nat.zero_le _⟩ rfl (Nat.le_of_ble_eq_true rfl) dX1_readBoat_40 ?_
      refine fp_X1_88 (pc := 43) C (by exact hK.1.1) (zk (by exact hK.1.2)) dX1_readBoat_43 ?_
      refine gx_S (S' := rk3 (s_setI (s_setI (s_setI U 0 c (nI 1)) 1 c v1) 2 c (tnV T L n1)) (tnN T L n1) (tnF T L n1 (nI 1) (nI 7) f1)) (rk3_I _ _ _ _ _ _ (by decide) (by decide)) ?_
      have r3 : cch c ca cg cl ce U (s_setI (s_setI (s_setI U 0 c (nI 1)) 1 c v1) 2 c (tnV T L n1)) := r2.trans cch_I
      have w3 := h.ch r3 t2.2
      have c2 := tn_c (T := T) hL t1.2 (nI 1) (nI 7)
      have g2 : ¬ f1 = 0 → tnF T L n1 (nI 1) (nI 7) f1 = f1 := tn_f
      have g2' : f1 = 0 → tnF T L n1 (nI 1) (nI 7) f1 = tnF T L n1 (nI 1) (nI 7) 0 := fun z => by rw [z]
      generalize tnF T L n1 (nI 1) (nI 7) 0 = f20 at c2 g2'
      generalize tnF T L n1 (nI 1) (nI 7) f1 = f2 at g2 g2' ⊢
      generalize tnV T L n1 = v2 at c2 r3 w3 ⊢
      generalize tnN T L n1 = n2 at c2 t2 w3 ⊢
      have t3 := tn_le (T := T) t2.2
      refine g_aload_n (pc := 46) C dX1_readBoat_46 rfl ?_
      refine fgr_X1_9 (pc := 47) C (by exact (o3 _ zu).1) (zk (by exact (o3 _ zu).2)) (by exact hi) dX1_readBoat_47 ?_
      refine g_aload_n (pc := 50) C dX1_readBoat_50 rfl ?_
      refine g_iconst (pc := 51) (v := nI 0) C dX1_readBoat_51 (by decide) ?_
      refine g_bipush (pc := 52) (v := nI 20) C dX1_readBoat_52 (by decide) ?_
      refine cf_X1_81 (pc := 54) C (by exact (o3 _ zu).1) (zk (by exact (o3 _ zu).2)) (t3_num _ _ w3.2.1 w3.1 t2.2 f2 (nI 0) (nI 20)) ⟨rfl, rfl⟩ ⟨rfl, rfl⟩ ⟨Nat.zero_le _, Nat.zero_le _⟩ rfl (Nat.le_of_ble_eq_true rfl) dX1_readBoat_54 ?_
      refine fp_X1_91 (pc := 57) C (by exact hK.1.1) (zk (by exact hK.1.2)) dX1_readBoat_57 ?_
      refine gx_S (S' := rk3 (s_setI (s_setI (s_setI (s_setI U 0 c (nI 1)) 1 c v1) 2 c v2) 3 c (tnV T L n2)) (tnN T L n2) (tnF T L n2 (nI 0) (nI 20) f2)) (rk3_I _ _ _ _ _ _ (by decide) (by decide)) ?_
      have r4 : cch c ca cg cl ce U (s_setI (s_setI (s_setI (s_setI U 0 c (nI 1)) 1 c v1) 2 c v2) 3 c (tnV T L n2)) := r3.trans cch_I
      have c3 := tn_c (T := T) hL t2.2 (nI 0) (nI 20)
      have g3 : ¬ f2 = 0 → tnF T L n2 (nI 0) (nI 20) f2 = f2 := tn_f
      rw [← hpost]
      unfold boatN at hR
      rcases c1 with ⟨a1, a2, -⟩ | ⟨e1, a1, a2, a3⟩
      · rw [cell_o a1] at hR
        have e2 := g2' a2
        rcases c2 with ⟨b1, b2, -⟩ | ⟨e2', b1, b2, b3⟩
        · simp only [cell_o b1] at hR
          have e3 : f2 = 0 := e2.trans b2
          rw [e3]
          rcases c3 with ⟨d1, d2, -⟩ | ⟨e3', d1, d2, d3⟩
          · simp only [cell_o d1] at hR
            exact g_return (pc := 60) C ⟨rfl, rfl⟩ dX1_readBoat_60 (pxCr_o hR.symm r4 (by rw [d2]) hz.boat)
          · simp only [cell_e d1] at hR
            exact g_return (pc := 60) C ⟨rfl, rfl⟩ dX1_readBoat_60 (pxCr_e hR.symm r4 t3.2 (by rw [d2]))
        · simp only [cell_e b1] at hR
          have e3 : f2 = nI e2' := e2.trans b2
          rw [e3, tn_f b3]
          exact g_return (pc := 60) C ⟨rfl, rfl⟩ dX1_readBoat_60 (pxCr_e hR.symm r4 t3.2 rfl)
      · rw [cell_e a1] at hR
        have e2 : f2 = f1 := g2 (by rw [a2]; exact a3)
        rw [e2, a2, tn_f a3]
        exact g_return (pc := 60) C ⟨rfl, rfl⟩ dX1_readBoat_60 (pxCr_e hR.symm r4 t3.2 rfl)
  · rw [if_neg hf] at hR
    rw [bI_f hf]
    refine g_aload_n (pc := 0) C dX1_readBoat_0 rfl ?_
    refine g_iload_n (pc := 1) C dX1_readBoat_1 rfl ?_
    refine g_iload_n (pc := 2) C dX1_readBoat_2 rfl ?_
    refine g_iconst (pc := 3) (v := nI 4) C dX1_readBoat_3 (by decide) ?_
    refine cf_X1_73 (pc := 4) C (by exact (o3 _ zu).1) (zk (by exact (o3 _ zu).2)) (c_X5_allow_X1 _ _ U L hd n 0 (nI 0) (nI q) (nI 4) (Or.inl rfl)) ⟨rfl, rfl⟩ ⟨rfl, rfl⟩ ⟨Nat.zero_le _, Nat.zero_le _⟩ rfl (Nat.le_of_ble_eq_true rfl) dX1_readBoat_4 ?_
    refine g_if_eq (pc := 7) C 60 dX1_readBoat_7 rfl (fun c1 => ?_) (fun c1 => ?_)
    · rw [← hpost]
      exact g_return (pc := 60) C ⟨rfl, rfl⟩ dX1_readBoat_60 (pxCr_e hR.symm cch.refl hn (by rw [al4]))
    · exact absurd rfl c1
