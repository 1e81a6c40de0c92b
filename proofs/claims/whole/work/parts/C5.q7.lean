/-! ===== a RULE is told: what holds goes on ===== -/
section
variable {S T : St} {q : K5} {c ca cg cl ce P H m nr j z L : Nat} {u : Nat → Int32} {f x : Int32} {Fs : Nat → (Nat → Int64) → Int64} {W : Nat → Nat → Int32} {Tp : Nat → Int32} {im : Nat → Option IMt}
theorem CI.zz (h : CI S q c ca cg cl ce P H m nr j z L u f x Fs W Tp im) : 121 ≤ s_z S := (aK.af h.1).1
theorem rd4_of (h : CI S q c ca cg cl ce P H m nr j z L u f x Fs W Tp im) : rd4K S L := ⟨h.2.2.2.1.2.2.2.1, h.2.2.1.1, by rw [h.2.2.1.2.1]; exact h.2.2.1.2.2⟩
theorem rd3_of (h : CI S q c ca cg cl ce P H m nr j z L u f x Fs W Tp im) : rd3K S L := ⟨h.2.2.2.1.2.2.1, h.2.2.1.1, by rw [h.2.2.1.2.1]; exact h.2.2.1.2.2⟩
theorem CI.rd {D : Nat → Prop} {L' : Nat} {T' : Nat → Int32} (h : CI S q c ca cg cl ce P H m nr j z L u f x Fs W Tp im) (e : eqO D S T) (hD : ∀ k, D k → 1 ≤ k ∧ k ≤ 5) (eR : ∀ g k, k ≠ 5 → s_R T g k = s_R S g k) (ht : tpX T L' T') : CI T q c ca cg cl ce P H m nr j z L' u f x Fs W T' im := by
  obtain ⟨h1, h2, h3, h4, h5, h6, h7⟩ := h
  have nd : ∀ k, ¬ (1 ≤ k ∧ k ≤ 5) → ¬ D k := fun k hk g => hk (hD k g)
  have hc : ∀ k, ck k → ¬ D k := fun k hk => nd k (by unfold ck at hk; omega)
  refine CI.mk (aK.off h1 e (fun k g => Or.inl (hD k g))) (h2.to e (fun k g => by have := hD k g; omega)) ⟨ht, ⟨(eR _ _ (by decide)).trans h4.1, (eR _ _ (by decide)).trans h4.2.1, (eR _ _ (by decide)).trans h4.2.2.1, (eR _ _ (by decide)).trans h4.2.2.2.1, (eR _ _ (by decide)).trans h4.2.2.2.2⟩, ⟨⟨(eR _ _ (by decide)).trans h5.1.1, crK.to e (hc _ h5.1.2.2.1.1) h5.1.2.1, h5.1.2.2⟩, h5.2.1, h5.2.2.o (aK.rls h1) e (nd _ (by omega)) (fun k hk _ => nd _ (by omega))⟩, h6.o e (fun i h1 h2 => nd _ (by omega)), fun k hk => im_to (h7 k hk) e hk (fun i h1 h2 => nd _ (by omega)) (fun _ _ _ _ _ hc5 _ => ⟨hc _ hc5.1, hc _ hc5.2.1, hc _ hc5.2.2.1, hc _ hc5.2.2.2.1, hc _ hc5.2.2.2.2⟩)⟩
theorem rl_ok (h : rlS S nr Fs) {r rk : Nat} (hr : r < nr) (hq : s_Q S 6 r = some rk) : okK S rk := by
  have hf := h.2.2 r hr
  rw [hq] at hf
  obtain ⟨kc, cs, g1, g2, g3, g4⟩ := hf
  exact g1.1.2
theorem imV.nn {k : Nat} {o : Option IMt} (h : imV S q nr k o) (e : eqN S T) (hz : 121 ≤ s_z S) (hk : k < 4) : imV T q nr k o := by
  have o0 : okK S (17 + 4 * k) := ok5 hz (by omega)
  cases o with
  | none => exact (e.I o0).trans h
  | some p =>
    obtain ⟨c, ca, cg, cl, ce, P, H, m, h1, h2, h3, h4, h5, h6⟩ := h
    exact ⟨c, ca, cg, cl, ce, P, H, m, ⟨(e.I o0).trans h1.1, (e.R o0).trans h1.2⟩, ⟨h2.1.nw e, h2.2⟩, ⟨h3.1.nw e, h3.2.nw e o0 (ok5 hz (by omega))⟩, h4, ⟨(e.I o0).trans h5.1, h5.2⟩, (e.I o0).trans h6.1, h6.2⟩
theorem CI.nn (h : CI S q c ca cg cl ce P H m nr j z L u f x Fs W Tp im) (e : eqN S T) : CI T q c ca cg cl ce P H m nr j z L u f x Fs W Tp im := by
  have hz := h.zz
  obtain ⟨h1, h2, h3, h4, h5, h6, h7⟩ := h
  have R : ∀ g k, k < 95 → s_R T g k = s_R S g k := fun g k hk => e.R (ok5 hz hk)
  refine CI.mk (aK.nn h1 e) (h2.nw e hz) ⟨⟨h3.1.nw e, (e.A (ok5 hz (by decide))).trans h3.2.1, h3.2.2⟩, ⟨(R _ _ (by decide)).trans h4.1, (R _ _ (by decide)).trans h4.2.1, (R _ _ (by decide)).trans h4.2.2.1, (R _ _ (by decide)).trans h4.2.2.2.1, (R _ _ (by decide)).trans h4.2.2.2.2⟩, ⟨⟨(R _ _ (by decide)).trans h5.1.1, h5.1.2.1.nw e, h5.1.2.2⟩, h5.2.1, fun r hr rk hq => ?_⟩, h6.nw e hz, fun k hk => (h7 k hk).nn e hz hk⟩
  rw [e.Q (ok5 hz (by decide))] at hq
  obtain ⟨a1, a2⟩ := h5.2.2 r hr rk hq
  refine ⟨a1, fun kc hk => a2 kc ?_⟩
  rw [← hk]
  exact (e.R (rl_ok (aK.rls h1) hr hq)).symm
theorem fOK.up (h : fOK f nr) : fOK f (nr + 1) := h.imp id (fun ⟨k, hk, e⟩ => ⟨k, by omega, e⟩)
def ruF (Fs : Nat → (Nat → Int64) → Int64) (t : Nat) (cs : List CL) : Nat → (Nat → Int64) → Int64 := fun r => if r = t then (fun wd => evC wd cs) else Fs r
theorem ap_new {k : Nat} (h : spK S q) (hk : ∀ i, okK S i → i ≠ k) : ap q k := by
  obtain ⟨-, ⟨k0, -, k1, -, k2, -, k3, -, k4⟩, -⟩ := h
  exact ⟨(hk _ k0.2).symm, (hk _ k1.2.2).symm, (hk _ k2.2.2).symm, (hk _ k3.2.2).symm, (hk _ k4.2.2).symm⟩
theorem CI.rul {cs : List CL} (h : CI S q c ca cg cl ce P H m nr j z L u f x Fs W Tp im) (h6 : nr < 6) (h420 : (cdC cs).length ≤ 420) (hA : ∀ i, i < (cdC cs).length → s_A S 5 i = nI ((cdC cs).getD i 0)) (hw : ∀ q, q ∈ cs → wfC q) : CI (ruS S (cdC cs).length nr) q c ca cg cl ce P H m (nr + 1) j z L u f x (ruF Fs nr cs) W Tp im := by
  have hz := h.zz
  have hU := h.nn (eqN_rl (S := S) (n := (cdC cs).length))
  have n1 := kz_dyn hz
  have n2 : kz (s_z S + 1) = 2000 + (s_z S + 1 - 121) := kz_dyn (by omega)
  have p1 : ap q (kz (s_z S)) := ap_new h.2.2.2.2.1.1 (fun i hi => ok_ne hi)
  have p2 : ap q (kz (s_z S + 1)) := ap_new h.2.2.2.2.1.1 (fun i hi g => ok_ne (ok_nw (kd := 6) (n := 0) hi) (g.trans kz_s.symm))
  have r600 : s_R (rlN S (cdC cs).length) 600 (kz (s_z S)) = some (kz (s_z S + 1)) := (gR_at : s_R (s_setR (cpS (s_new S 6 0) 5 (cdC cs).length) 600 (kz (s_z S)) (some (kz (s_z S + 1)))) 600 (kz (s_z S)) = some (kz (s_z S + 1)))
  have hrc : rcS (rlN S (cdC cs).length) (kz (s_z S)) (kz (s_z S + 1)) cs := ⟨rl_o hz, r600, rl_a hz, by omega, fun i hi => by
    rw [rl_A hz]
    simp only [va_cpy]
    rw [if_pos ⟨by omega, by omega⟩, ← hA i hi]
    exact congrArg (s_A S 5) (by omega), hw⟩
  generalize hn : (cdC cs).length = n at *
  unfold ruS
  generalize kz (s_z S + 1) = k2 at *
  generalize kz (s_z S) = k1 at *
  generalize rlN S n = U at *
  obtain ⟨⟨⟨a1, a2, a3, a4, a5⟩, a6, a7, a8, a9, ⟨a10, a11⟩, ⟨a12, a13⟩, a14, a15⟩, g2, g3, g4, ⟨g5, g51, g52⟩, g6, g7⟩ := hU
  refine CI.mk ⟨⟨a1, a2, a3, a4, a5⟩, a6, a7, a8, a9, ⟨⟨a10.1, by omega, fun r hr => ?_⟩, gI_at⟩, ⟨a12, a13.up⟩, a14, a15⟩ g2 ⟨g3, g4, ⟨g5, g51, fun r hr rk hq => ?_⟩, g6, fun k hk => ?_⟩
  · show frC2 _ (va_up (s_Q U 6) nr (some k1) r) (some (ruF Fs nr cs r))
    unfold ruF
    by_cases e : r = nr
    · rw [e, va_up_self, if_pos rfl]
      exact ⟨k2, cs, hrc, rfl, by omega, by omega⟩
    · rw [va_up_ne _ _ e, if_neg e]
      have hf := a10.2.2 r (by omega)
      generalize s_Q U 6 r = o at hf
      cases o with
      | none => exact hf
      | some rk => exact hf
  · have hq' : va_up (s_Q U 6) nr (some k1) r = some rk := hq
    by_cases e : r = nr
    · rw [e, va_up_self] at hq'
      cases hq'
      refine ⟨p1, fun kc hk => ?_⟩
      have hk' : s_R U 600 k1 = some kc := hk
      rw [r600] at hk'
      cases hk'
      exact p2
    · rw [va_up_ne _ _ e] at hq'
      exact g52 r (by omega) rk hq'
  · have h7 := g7 k hk
    generalize im k = o at h7
    cases o with
    | none => exact h7
    | some p =>
      obtain ⟨c, ca, cg, cl, ce, P, H, m, h1, h2, h3, h4, h5, h6⟩ := h7
      exact ⟨c, ca, cg, cl, ce, P, H, m, h1, h2, h3, h4, ⟨h5.1, h5.2.up⟩, h6⟩
theorem eqO_6 {t : Nat} {g : Nat → Option Nat} {v : Int32} : eqO (fun k => k = 0 ∨ k = 6) S (s_setI (s_setQ S 6 g) 1010 0 v) := (eqO.sQ (Or.inr rfl)).trans (eqO.sI (Or.inl rfl))
theorem eqM_rul {n t : Nat} (hz : 121 ≤ s_z S) : eqM S (ruS S n t) := (eqM.ofN (eqN_rl (n := n)) hz).trans (eqM.of (eqO_6 (t := t)) (fun k hk q => by unfold dM at q; omega))
theorem rul_1 {S1 : St} (e : rch S S1) : eqO (fun k => k = 1 ∨ k = 4 ∨ k = 5) S (s_setI S1 901 1 (nI 0)) := (e.1.mono (fun k g => by omega)).trans (eqO.sI (Or.inl rfl))
theorem rul1 {t : Nat} {R : Except Nat (List CL)} {v : Option Value} (hz : 121 ≤ s_z S) (g : RI S P H nr z L u f x Fs W Tp im) (p : pxRul S t R v T) : ∃ a, v = some (.int a) ∧ RI T P H nr z L u f x Fs W Tp im := by
  obtain ⟨S1, hc, p⟩ := p
  have e1 := rul_1 hc
  have m1 : eqM S (s_setI S1 901 1 (nI 0)) := eqM.of e1 (fun k hk q => by unfold dM at q; omega)
  cases R with
  | error f => obtain ⟨rfl, rfl⟩ := p; exact ⟨_, rfl, g.to m1⟩
  | ok cs =>
    obtain ⟨rfl, -, -, rfl⟩ := p
    exact ⟨_, rfl, g.to (m1.trans (eqM_rul (by rw [e1.1]; exact hz)))⟩
theorem ruleW.ext {r : Nat} {F : (Nat → Int64) → Int64} (h : ruleW S r F) (e2 : ∀ i, i < 400 → s_A T 1002 (400 * r + i) = s_A S 1002 (400 * r + i)) (e4 : ∀ i, i < 48 → s_A T 1004 (48 * r + i) = s_A S 1004 (48 * r + i)) (e5 : s_A T 1005 r = s_A S 1005 r) : ruleW T r F := by
  obtain ⟨nc, len, sg, b1, n1, b2, n2, hasT, h1, h2, h3, h4, h5, h6⟩ := h
  refine ⟨nc, len, sg, b1, n1, b2, n2, hasT, h1, h2, e5.trans h3, fun i hi => by rw [e2 i (by omega)]; exact h4 i hi, fun c hc => ?_, h6⟩
  rw [e4 (4 * c) (by omega), show 48 * r + 4 * c + 1 = 48 * r + (4 * c + 1) by omega, show 48 * r + 4 * c + 2 = 48 * r + (4 * c + 2) by omega, show 48 * r + 4 * c + 3 = 48 * r + (4 * c + 3) by omega, e4 (4 * c + 1) (by omega), e4 (4 * c + 2) (by omega), e4 (4 * c + 3) (by omega)]
  exact h5 c hc
theorem eq_rdS {i : Nat → Int32} {a : Nat → Nat → Int32} : eqO dM S (rdS S i a) := by
  refine ⟨rfl, fun k => rfl, fun k => rfl, fun k hk => ⟨fun f => ?_, fun f => rfl, fun f => rfl, ?_, rfl, rfl⟩⟩
  · show (if 1108 ≤ f ∧ f ≤ 1116 ∧ k = 1000 then i f else s_I S f k) = s_I S f k
    rw [if_neg (fun g => hk ⟨by omega, by omega⟩)]
  · show (if 1002 ≤ k ∧ k ≤ 1007 then a k else s_A S k) = s_A S k
    rw [if_neg (fun g => hk ⟨by omega, by omega⟩)]
theorem RI.rer {i' : Nat → Int32} {a' : Nat → Nat → Int32} (g : RI S P H nr z L u f x Fs W Tp im) (hr : ∀ r, r < nr → ruleW (rdS S i' a') r (Fs r)) : RI (s_setI (rdS S i' a') 1101 1000 (nI 0)) P H nr z 0 u f x Fs W Tp im := by
  obtain ⟨h1, h2, h3, h4, h5, h6, h7⟩ := g
  exact ⟨⟨h1.1, h1.2⟩, h2, h3, ⟨h4.1, h4.2.1, fun r hr' => (hr r hr').mv rfl rfl rfl⟩, h5, ⟨gI_at, by omega, h6.2.2⟩, fun k hk => (h7 k hk).mv rfl rfl rfl rfl⟩
theorem fx_W {t r : Nat} {i' : Nat → Int32} {a' : Nat → Nat → Int32} {F : (Nat → Int64) → Int64} (hx : fxR t (s_A S) a') (h : r ≠ t) (hw : ruleW S r F) : ruleW (rdS S i' a') r F := by
  obtain ⟨-, x2, x4, x5⟩ := hx
  refine hw.ext (fun i hi => ?_) (fun i hi => ?_) ?_
  · show a' 1002 _ = _
    exact x2 _ (by omega)
  · show a' 1004 _ = _
    exact x4 _ (by omega)
  · show a' 1005 _ = _
    exact x5 _ h
theorem rul2 {S1 : St} {R : Except Nat (List CL)} {a : Int32} {v : Option Value} (h : CI S q c ca cg cl ce P H m nr j z L u f x Fs W Tp im) (g1 : RI S1 P H nr z L u f x Fs W Tp im) (h6 : nr < 6) (hR : rdR Tp L 401 0 0 [] = R) (p1 : pxRul S nr R (some (.int a)) S1) (p2 : pxRule S1 nr R v T) : v = some (.int a) ∧ INV T := by
  obtain ⟨S0, hc, p1⟩ := p1
  obtain ⟨i', a', hx, p2⟩ := p2
  have ht := h.2.2.1
  have e1 := rul_1 hc
  have c0 : CI (s_setI S0 901 1 (nI 0)) q c ca cg cl ce P H m nr j z 0 u f x Fs W Tp im := h.rd e1 (fun k g => by omega) (fun g k hk => by
    by_cases e : k = 4
    · rw [e]; exact hc.2 g
    · exact hc.1.R (by omega)) ⟨⟨by rw [e1.1]; exact ht.1.1, (hc.1.R (by omega)).trans ht.1.2.1, gI_at, by omega⟩, (hc.1.A (by omega)).trans ht.2.1, fun i hi => absurd hi (by omega)⟩
  have hrr := g1.2.2.2.1.2.2
  cases R with
  | error f =>
    obtain ⟨e, rfl⟩ := p1
    obtain ⟨rfl, rfl⟩ := p2
    exact ⟨e.symm, INV.mk (c0.ref (eq_rdS.trans (dm1 ⟨by decide, by decide⟩))) (g1.rer (fun r hr => fx_W hx (by omega) (hrr r hr)))⟩
  | ok cs =>
    obtain ⟨e, k420, kA, rfl⟩ := p1
    obtain ⟨rfl, rfl, l400, l12, y5, y4, y2⟩ := p2
    have hw := wf_rdR ht.1.2.2.2 401 0 0 [] cs (by omega) (by omega) (by show 0 ≤ 12; omega) (fun q hq => by cases hq) hR
    have c1 := c0.rul h6 k420 kA hw
    have hnew : ruleW (rdS (ruS (s_setI S0 901 1 (nI 0)) (cdC cs).length nr) i' a') nr (fun wd => evC wd cs) := ruleW_of l400 l12 y5 y4 y2 hw
    generalize ruS (s_setI S0 901 1 (nI 0)) (cdC cs).length nr = U at *
    refine ⟨e.symm, INV.mk (c1.ref (eq_rdS.trans ((dm1 ⟨by decide, by decide⟩).trans (dm1 ⟨by decide, by decide⟩)))) ?_⟩
    obtain ⟨h1, h2, h3, h4, h5, h6', h7⟩ := g1
    refine ⟨⟨h1.1, h1.2⟩, h2, h3, ⟨gI_at, by omega, fun r hr => ?_⟩, h5, ⟨rfl, by omega, h6'.2.2⟩, fun k hk => (h7 k hk).mv rfl rfl rfl rfl⟩
    unfold ruF
    by_cases er : r = nr
    · rw [if_pos er, er]
      exact hnew.mv rfl rfl rfl
    · rw [if_neg er]
      exact (fx_W (i' := i') hx er (hrr r (by omega))).mv rfl rfl rfl
end
theorem law_rule6 {w : Wd} {X : FX} {j : SJ} {b Ln i n1 n2 : Nat} {xs : Nat → Int32} {Q : State → Prop} {S : St} {q : K5} {c ca cg cl ce P H m nr jj z L : Nat} {u : Nat → Int32} {f x : Int32} {Fs : Nat → (Nat → Int64) → Int64} {W : Nat → Nat → Int32} {Tp : Nat → Int32} {im : Nat → Option IMt} (K : lwK w X j b Ln xs) (hi : i + 6 ≤ Ln) (hn1 : n1 ≤ 10000) (hn2 : n2 ≤ 3000000) (h6 : nr = 6) (hC : CI S q c ca cg cl ce P H m nr jj z L u f x Fs W Tp im) (hR : RI S P H nr z L u f x Fs W Tp im) (k : lwN w X b i n1 n2 Q) : gx_G w X S n1 n2 279 (lwL w b i) [] Q := by
  obtain ⟨C, V, hX, hb, hn⟩ := K
  refine g_aload_n (pc := 279) C dL_law_279 rfl ?_
  refine cgj_L_28 (pc := 280) C V.1 rfl (zk (ok5 (aK.af hC.1).1 (by decide))) (c_X11_rule6 w j _ S (aK.af hC.1) (by rw [aK.nrv hC.1, h6])) ⟨rfl, rfl⟩ ⟨by show n1 + 2 ≤ 600000; omega, by show n2 + 520 ≤ 7302250; omega⟩ rfl (Nat.le_of_ble_eq_true rfl) dL_law_280 ?_
  rintro v1 S1 p1
  obtain ⟨rfl, rfl⟩ := p1
  have hR1 := hR
  refine g_aload_n (pc := 283) C dL_law_283 rfl ?_
  refine cg_L_31 (pc := 284) C rfl (m_z hR1.1 rfl) (c_X12_rule6 w _ S1 hR1.1 (by rw [hR1.2.2.2.1.1, h6])) ⟨rfl, rfl⟩ ⟨by show n1 + 2 + 0 ≤ 600000; omega, by show n2 + 520 + 0 ≤ 7302250; omega⟩ rfl (Nat.le_of_ble_eq_true rfl) dL_law_284 ?_
  rintro v2 S2 p2
  obtain ⟨rfl, rfl⟩ := p2
  have hI := INV.mk hC hR
  refine g_icmp_eq (pc := 287) C 1099 dL_law_287 rfl (fun _ => ?_) (fun cn => absurd rfl cn)
  exact k S2 _ _ (by show n1 + 2 + 0 ≤ n1 + 5; omega) (by show n2 + 520 + 0 ≤ n2 + 600; omega) hI
theorem law_rule {w : Wd} {X : FX} {j : SJ} {b Ln i n1 n2 : Nat} {xs : Nat → Int32} {Q : State → Prop} {S : St} {q : K5} {c ca cg cl ce P H m nr jj z L : Nat} {u : Nat → Int32} {f x : Int32} {Fs : Nat → (Nat → Int64) → Int64} {W : Nat → Nat → Int32} {Tp : Nat → Int32} {im : Nat → Option IMt} (K : lwK w X j b Ln xs) (hi : i + 6 ≤ Ln) (hn1 : n1 ≤ 10000) (hn2 : n2 ≤ 3000000) (h6 : nr < 6) (hC : CI S q c ca cg cl ce P H m nr jj z L u f x Fs W Tp im) (hR : RI S P H nr z L u f x Fs W Tp im) (k : lwN w X b i n1 n2 Q) : gx_G w X S n1 n2 279 (lwL w b i) [] Q := by
  obtain ⟨C, V, hX, hb, hn⟩ := K
  refine g_aload_n (pc := 279) C dL_law_279 rfl ?_
  refine cgj_L_28 (pc := 280) C V.1 rfl (zk (ok5 (aK.af hC.1).1 (by decide))) (c_X11_rule w j _ S L nr (aK.af hC.1) (rd4_of hC) hC.2.2.2.1.2.1 hC.2.2.2.1.2.2.2.2 (aK.nrv hC.1) h6 (aK.rls hC.1).1) ⟨rfl, rfl⟩ ⟨by show n1 + 2 ≤ 600000; omega, by show n2 + 520 ≤ 7302250; omega⟩ rfl (Nat.le_of_ble_eq_true rfl) dL_law_280 ?_
  rintro v1 S1 p1
  rw [hC.2.2.1.2.1] at p1
  obtain ⟨a, rfl, hR1⟩ := rul1 hC.zz hR p1
  refine g_aload_n (pc := 283) C dL_law_283 rfl ?_
  refine cg_L_31 (pc := 284) C rfl (m_z hR1.1 rfl) (c_X12_rule w _ S1 L ⟨hR1.1, ⟨hR1.2.2.2.2.2.1.1, hR1.2.2.2.2.2.1.2.1⟩, by rw [hR1.2.2.2.2.2.1.2.2]; exact hC.2.2.1.2.2⟩ nr h6 hR1.2.2.2.1.1) ⟨rfl, rfl⟩ ⟨by show n1 + 2 + 0 ≤ 600000; omega, by show n2 + 520 + 0 ≤ 7302250; omega⟩ rfl (Nat.le_of_ble_eq_true rfl) dL_law_284 ?_
  rintro v2 S2 p2
  rw [hR1.2.2.2.2.2.1.2.2] at p2
  obtain ⟨rfl, hI⟩ := rul2 hC hR1 h6 rfl p1 p2
  refine g_icmp_eq (pc := 287) C 1099 dL_law_287 rfl (fun _ => ?_) (fun cn => absurd rfl cn)
  exact k S2 _ _ (by show n1 + 2 + 0 ≤ n1 + 5; omega) (by show n2 + 520 + 0 ≤ n2 + 600; omega) hI
