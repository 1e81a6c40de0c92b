/-! ===== THE CLASS: AimFerry: count ===== -/
section
variable (w : Wd) (l : Launch) (S : St) (c ca cg cl ce P H m nr : Nat) (u : Nat → Int32) (f x : Int32) (Fs : Nat → (Nat → Int64) → Int64)
theorem c_X11_countN (h : aK S c ca cg cl ce P H m nr u f x Fs) (what : Int32) (hw : what < 0 ∨ nI 16 ≤ what) : gx_M w l yX11_count cX11_count 2 (some .int) rmX11_count [.ref (ad (w_b w) 0), .int what] S (pI (-1) S) := by
  refine gx_start rfl 0 rfl (Nat.le_of_ble_eq_true rfl) ?_
  intro X C _ hl
  subst hl
  refine gx_L (L' := [_, _]) rfl ?_
  refine g_iload_n (pc := 0) C dX11_count_0 rfl ?_
  refine g_tableOut (pc := 1) C 237 dX11_count_1 (hw.elim (fun q => Or.inl (ti_neg q)) (fun q => Or.inr (Int.lt_of_lt_of_le (by decide) (ti_ge (by omega) q)))) rfl ?_
  refine g_iconst (pc := 237) (v := -1) C dX11_count_237 (by decide) ?_
  exact g_ireturn (pc := 238) C ⟨rfl, rfl⟩ dX11_count_238 ⟨rfl, rfl⟩
def cntA (u : Nat → Int32) (P H nr z n : Nat) (f x : Int32) (k : Nat) : Int32 := if k < 4 then u (k + 1) else if k = 4 then nI nr else if k = 5 then f else if k = 6 then u 10 else if k = 7 then u 11 else if k = 8 then nI (onN u (nI 1) P) else if k = 9 then u 12 else if k = 10 then u 13 else if k = 11 then bI (fogF 0 u H) else if k = 12 then u 189 else if k = 13 then nI z else if k = 14 then x else nI n
theorem c_X11_count (h : aK S c ca cg cl ce P H m nr u f x Fs) (z n : Nat) (hz : s_I S 1011 0 = nI z) (ht : tpK S n) (k : Nat) (hk : k < 16) : gx_M w l yX11_count cX11_count 2 (some .int) rmX11_count [.ref (ad (w_b w) 0), .int (nI k)] S (pI (cntA u P H nr z n f x k) S) := by
  refine gx_start rfl 0 rfl (Nat.le_of_ble_eq_true rfl) ?_
  intro X C _ hl
  subst hl
  refine gx_L (L' := [_, _]) rfl ?_
  refine g_iload_n (pc := 0) C dX11_count_0 rfl ?_
  have : k = 0 ∨ k = 1 ∨ k = 2 ∨ k = 3 ∨ k = 4 ∨ k = 5 ∨ k = 6 ∨ k = 7 ∨ k = 8 ∨ k = 9 ∨ k = 10 ∨ k = 11 ∨ k = 12 ∨ k = 13 ∨ k = 14 ∨ k = 15 := by omega
  rcases this with rfl | rfl | rfl | rfl | rfl | rfl | rfl | rfl | rfl | rfl | rfl | rfl | rfl | rfl | rfl | rfl
  · refine g_tableIn (pc := 1) C 80 dX11_count_1 (by decide) (by decide) rfl rfl ?_
    refine g_aload_n (pc := 80) C dX11_count_80 rfl ?_
    refine fgr_X11_46 (pc := 81) C (by exact (aK.o0 h).1) (zk (by exact (aK.o0 h).2)) (by exact (aK.rn h)) dX11_count_81 ?_
    refine fgr_X11_54 (pc := 84) C (by exact (aK.o7 h).1) (zk (by exact (aK.o7 h).2)) (by exact (aK.rc h)) dX11_count_84 ?_
    refine fg_X11_320 (pc := 87) C (by exact (aK.oc h).1) (zk (by exact (aK.oc h).2)) dX11_count_87 ?_
    exact g_ireturn (pc := 90) C ⟨rfl, rfl⟩ dX11_count_90 ⟨congrArg (fun z => some (Value.int z)) ((aK.cr h).2.1.2.1), rfl⟩
  · refine g_tableIn (pc := 1) C 91 dX11_count_1 (by decide) (by decide) rfl rfl ?_
    refine g_aload_n (pc := 91) C dX11_count_91 rfl ?_
    refine fgr_X11_46 (pc := 92) C (by exact (aK.o0 h).1) (zk (by exact (aK.o0 h).2)) (by exact (aK.rn h)) dX11_count_92 ?_
    refine fgr_X11_54 (pc := 95) C (by exact (aK.o7 h).1) (zk (by exact (aK.o7 h).2)) (by exact (aK.rc h)) dX11_count_95 ?_
    refine fg_X11_231 (pc := 98) C (by exact (aK.oc h).1) (zk (by exact (aK.oc h).2)) dX11_count_98 ?_
    exact g_ireturn (pc := 101) C ⟨rfl, rfl⟩ dX11_count_101 ⟨congrArg (fun z => some (Value.int z)) ((aK.cr h).2.1.2.2.1), rfl⟩
  · refine g_tableIn (pc := 1) C 102 dX11_count_1 (by decide) (by decide) rfl rfl ?_
    refine g_aload_n (pc := 102) C dX11_count_102 rfl ?_
    refine fgr_X11_46 (pc := 103) C (by exact (aK.o0 h).1) (zk (by exact (aK.o0 h).2)) (by exact (aK.rn h)) dX11_count_103 ?_
    refine fgr_X11_54 (pc := 106) C (by exact (aK.o7 h).1) (zk (by exact (aK.o7 h).2)) (by exact (aK.rc h)) dX11_count_106 ?_
    refine fg_X11_323 (pc := 109) C (by exact (aK.oc h).1) (zk (by exact (aK.oc h).2)) dX11_count_109 ?_
    exact g_ireturn (pc := 112) C ⟨rfl, rfl⟩ dX11_count_112 ⟨congrArg (fun z => some (Value.int z)) ((aK.cr h).2.1.2.2.2.1), rfl⟩
  · refine g_tableIn (pc := 1) C 113 dX11_count_1 (by decide) (by decide) rfl rfl ?_
    refine g_aload_n (pc := 113) C dX11_count_113 rfl ?_
    refine fgr_X11_46 (pc := 114) C (by exact (aK.o0 h).1) (zk (by exact (aK.o0 h).2)) (by exact (aK.rn h)) dX11_count_114 ?_
    refine fgr_X11_54 (pc := 117) C (by exact (aK.o7 h).1) (zk (by exact (aK.o7 h).2)) (by exact (aK.rc h)) dX11_count_117 ?_
    refine fg_X11_100 (pc := 120) C (by exact (aK.oc h).1) (zk (by exact (aK.oc h).2)) dX11_count_120 ?_
    exact g_ireturn (pc := 123) C ⟨rfl, rfl⟩ dX11_count_123 ⟨congrArg (fun z => some (Value.int z)) (((aK.cr h).2.1.2.2.2.2.1.trans (aK.u4 h).symm)), rfl⟩
  · refine g_tableIn (pc := 1) C 124 dX11_count_1 (by decide) (by decide) rfl rfl ?_
    refine g_aload_n (pc := 124) C dX11_count_124 rfl ?_
    refine fg_X11_103 (pc := 125) C (by exact (aK.o0 h).1) (zk (by exact (aK.o0 h).2)) dX11_count_125 ?_
    exact g_ireturn (pc := 128) C ⟨rfl, rfl⟩ dX11_count_128 ⟨congrArg (fun z => some (Value.int z)) ((aK.nrv h)), rfl⟩
  · refine g_tableIn (pc := 1) C 129 dX11_count_1 (by decide) (by decide) rfl rfl ?_
    refine g_aload_n (pc := 129) C dX11_count_129 rfl ?_
    refine fgr_X11_46 (pc := 130) C (by exact (aK.o0 h).1) (zk (by exact (aK.o0 h).2)) (by exact (aK.rn h)) dX11_count_130 ?_
    refine fg_X11_113 (pc := 133) C (by exact (aK.o7 h).1) (zk (by exact (aK.o7 h).2)) dX11_count_133 ?_
    exact g_ireturn (pc := 136) C ⟨rfl, rfl⟩ dX11_count_136 ⟨congrArg (fun z => some (Value.int z)) ((aK.fv h)), rfl⟩
  · refine g_tableIn (pc := 1) C 137 dX11_count_1 (by decide) (by decide) rfl rfl ?_
    refine g_aload_n (pc := 137) C dX11_count_137 rfl ?_
    refine fgr_X11_46 (pc := 138) C (by exact (aK.o0 h).1) (zk (by exact (aK.o0 h).2)) (by exact (aK.rn h)) dX11_count_138 ?_
    refine fgr_X11_120 (pc := 141) C (by exact (aK.o7 h).1) (zk (by exact (aK.o7 h).2)) (by exact (aK.rr h)) dX11_count_141 ?_
    refine fg_X11_146 (pc := 144) C (by exact (aK.ov h).1) (zk (by exact (aK.ov h).2)) dX11_count_144 ?_
    exact g_ireturn (pc := 147) C ⟨rfl, rfl⟩ dX11_count_147 ⟨congrArg (fun z => some (Value.int z)) ((aK.rv h).2.1.1), rfl⟩
  · refine g_tableIn (pc := 1) C 148 dX11_count_1 (by decide) (by decide) rfl rfl ?_
    refine g_aload_n (pc := 148) C dX11_count_148 rfl ?_
    refine fgr_X11_46 (pc := 149) C (by exact (aK.o0 h).1) (zk (by exact (aK.o0 h).2)) (by exact (aK.rn h)) dX11_count_149 ?_
    refine fgr_X11_120 (pc := 152) C (by exact (aK.o7 h).1) (zk (by exact (aK.o7 h).2)) (by exact (aK.rr h)) dX11_count_152 ?_
    refine fg_X11_326 (pc := 155) C (by exact (aK.ov h).1) (zk (by exact (aK.ov h).2)) dX11_count_155 ?_
    exact g_ireturn (pc := 158) C ⟨rfl, rfl⟩ dX11_count_158 ⟨congrArg (fun z => some (Value.int z)) ((aK.rv h).2.1.2.1), rfl⟩
  · refine g_tableIn (pc := 1) C 159 dX11_count_1 (by decide) (by decide) rfl rfl ?_
    refine g_aload_n (pc := 159) C dX11_count_159 rfl ?_
    refine fgr_X11_46 (pc := 160) C (by exact (aK.o0 h).1) (zk (by exact (aK.o0 h).2)) (by exact (aK.rn h)) dX11_count_160 ?_
    refine fgr_X11_120 (pc := 163) C (by exact (aK.o7 h).1) (zk (by exact (aK.o7 h).2)) (by exact (aK.rr h)) dX11_count_163 ?_
    refine fg_X11_329 (pc := 166) C (by exact (aK.ov h).1) (zk (by exact (aK.ov h).2)) dX11_count_166 ?_
    exact g_ireturn (pc := 169) C ⟨rfl, rfl⟩ dX11_count_169 ⟨congrArg (fun z => some (Value.int z)) ((aK.rv h).2.1.2.2.1), rfl⟩
  · refine g_tableIn (pc := 1) C 170 dX11_count_1 (by decide) (by decide) rfl rfl ?_
    refine g_aload_n (pc := 170) C dX11_count_170 rfl ?_
    refine fgr_X11_46 (pc := 171) C (by exact (aK.o0 h).1) (zk (by exact (aK.o0 h).2)) (by exact (aK.rn h)) dX11_count_171 ?_
    refine fgr_X11_120 (pc := 174) C (by exact (aK.o7 h).1) (zk (by exact (aK.o7 h).2)) (by exact (aK.rr h)) dX11_count_174 ?_
    refine fg_X11_202 (pc := 177) C (by exact (aK.ov h).1) (zk (by exact (aK.ov h).2)) dX11_count_177 ?_
    exact g_ireturn (pc := 180) C ⟨rfl, rfl⟩ dX11_count_180 ⟨congrArg (fun z => some (Value.int z)) ((aK.rv h).2.1.2.2.2.1), rfl⟩
  · refine g_tableIn (pc := 1) C 181 dX11_count_1 (by decide) (by decide) rfl rfl ?_
    refine g_aload_n (pc := 181) C dX11_count_181 rfl ?_
    refine fgr_X11_46 (pc := 182) C (by exact (aK.o0 h).1) (zk (by exact (aK.o0 h).2)) (by exact (aK.rn h)) dX11_count_182 ?_
    refine fgr_X11_120 (pc := 185) C (by exact (aK.o7 h).1) (zk (by exact (aK.o7 h).2)) (by exact (aK.rr h)) dX11_count_185 ?_
    refine fg_X11_176 (pc := 188) C (by exact (aK.ov h).1) (zk (by exact (aK.ov h).2)) dX11_count_188 ?_
    exact g_ireturn (pc := 191) C ⟨rfl, rfl⟩ dX11_count_191 ⟨congrArg (fun z => some (Value.int z)) ((aK.rv h).2.1.2.2.2.2.1), rfl⟩
  · refine g_tableIn (pc := 1) C 192 dX11_count_1 (by decide) (by decide) rfl rfl ?_
    refine g_aload_n (pc := 192) C dX11_count_192 rfl ?_
    refine fgr_X11_46 (pc := 193) C (by exact (aK.o0 h).1) (zk (by exact (aK.o0 h).2)) (by exact (aK.rn h)) dX11_count_193 ?_
    refine cf_X11_165 (pc := 196) C (by exact (aK.o7 h).1) (zk (by exact (aK.o7 h).2)) (c_X9_isFog _ _ S 7 13 14 15 c ca cg cl ce P H u (aK.sc h) (aK.rc h) (aK.cr h) (aK.rv h) (aK.hr h) (aK.hr2 h)) ⟨rfl, rfl⟩ ⟨rfl, rfl⟩ ⟨Nat.zero_le _, Nat.zero_le _⟩ rfl (Nat.le_of_ble_eq_true rfl) dX11_count_196 ?_
    refine g_if_eq (pc := 199) C 206 dX11_count_199 rfl (fun c1 => ?_) (fun c1 => ?_)
    · refine g_iconst (pc := 206) (v := nI 0) C dX11_count_206 (by decide) ?_
      exact g_ireturn (pc := 207) C ⟨rfl, rfl⟩ dX11_count_207 ⟨congrArg (fun z => some (Value.int z)) (bI_f (bI_0.mp c1)).symm, rfl⟩
    · refine g_iconst (pc := 202) (v := nI 1) C dX11_count_202 (by decide) ?_
      refine g_goto (pc := 203) C 207 dX11_count_203 rfl ?_
      exact g_ireturn (pc := 207) C ⟨rfl, rfl⟩ dX11_count_207 ⟨congrArg (fun z => some (Value.int z)) (bI_t (Decidable.not_not.mp (fun q => c1 (bI_0.mpr q)))).symm, rfl⟩
  · refine g_tableIn (pc := 1) C 208 dX11_count_1 (by decide) (by decide) rfl rfl ?_
    refine g_aload_n (pc := 208) C dX11_count_208 rfl ?_
    refine fgr_X11_46 (pc := 209) C (by exact (aK.o0 h).1) (zk (by exact (aK.o0 h).2)) (by exact (aK.rn h)) dX11_count_209 ?_
    refine fg_X11_286 (pc := 212) C (by exact (aK.o7 h).1) (zk (by exact (aK.o7 h).2)) dX11_count_212 ?_
    exact g_ireturn (pc := 215) C ⟨rfl, rfl⟩ dX11_count_215 ⟨congrArg (fun z => some (Value.int z)) (((aK.no h).1.trans (aK.no h).2.2.1.symm)), rfl⟩
  · refine g_tableIn (pc := 1) C 216 dX11_count_1 (by decide) (by decide) rfl rfl ?_
    refine g_aload_n (pc := 216) C dX11_count_216 rfl ?_
    refine fg_X11_184 (pc := 217) C (by exact (aK.o0 h).1) (zk (by exact (aK.o0 h).2)) dX11_count_217 ?_
    exact g_ireturn (pc := 220) C ⟨rfl, rfl⟩ dX11_count_220 ⟨congrArg (fun z => some (Value.int z)) (hz), rfl⟩
  · refine g_tableIn (pc := 1) C 221 dX11_count_1 (by decide) (by decide) rfl rfl ?_
    refine g_aload_n (pc := 221) C dX11_count_221 rfl ?_
    refine fgr_X11_46 (pc := 222) C (by exact (aK.o0 h).1) (zk (by exact (aK.o0 h).2)) (by exact (aK.rn h)) dX11_count_222 ?_
    refine fg_X11_307 (pc := 225) C (by exact (aK.o7 h).1) (zk (by exact (aK.o7 h).2)) dX11_count_225 ?_
    exact g_ireturn (pc := 228) C ⟨rfl, rfl⟩ dX11_count_228 ⟨congrArg (fun z => some (Value.int z)) ((aK.xv h)), rfl⟩
  · refine g_tableIn (pc := 1) C 229 dX11_count_1 (by decide) (by decide) rfl rfl ?_
    refine g_aload_n (pc := 229) C dX11_count_229 rfl ?_
    refine fgr_X11_10 (pc := 230) C (by exact (aK.o0 h).1) (zk (by exact (aK.o0 h).2)) (by exact (aK.rt h)) dX11_count_230 ?_
    refine fg_X11_82 (pc := 233) C (by exact (aK.ot h).1) (zk (by exact (aK.ot h).2)) dX11_count_233 ?_
    exact g_ireturn (pc := 236) C ⟨rfl, rfl⟩ dX11_count_236 ⟨congrArg (fun z => some (Value.int z)) (ht.2.2.1), rfl⟩
end
