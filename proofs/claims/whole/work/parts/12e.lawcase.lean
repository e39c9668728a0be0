/-! ===== the law: one turn by the call that it makes ===== -/
set_option maxRecDepth 100000 in
set_option maxHeartbeats 4000000 in
theorem lc_feed {X : mj_XT} {G : mj_GT} {nm : String} {ad : Nat → Nat} {kc ks : Nat} {I : mj_IT} {L : mj_LT} {N : Nat} {xs : Nat → Int32} (hsc : mj_scr X G N xs) (hN : N ≤ 3072) (hlt : X.2.1.stackTraces = false) (F j : Nat) (hj : 6 * j + 6 ≤ N) (hroom : kc + 7 ≤ X.2.2.2.1.cells ∧ ks + 42 ≤ X.2.2.2.1.slots) (v : Int32) (I1 I2 : mj_IT) (L1 L2 : mj_LT) (hc : stX10_feed F I L (xs (6 * j + 1)) (xs (6 * j + 2)) (xs (6 * j + 3)) (xs (6 * j + 4)) (xs (6 * j + 5)) = some (v, I1, L1)) (hm : stX11_feed F I1 L1 (xs (6 * j + 1)) (xs (6 * j + 2)) (xs (6 * j + 3)) (xs (6 * j + 4)) (xs (6 * j + 5)) = some (v, I2, L2)) (k : ∀ ad' : Nat → Nat, mj_ag ad ad' → mj_W X G RL nm cL_law 8 51 (some .boolean) mj_P0 mj_S0 98 ad' (kc + 7) (ks + 42) 1617 [(0, .ref 2050), (1, .ref 1), (2, .ref 71), (3, .ref 98), (4, .int (Int32.ofNat (6 * j)))] [] I2 L2) : mj_W X G RL nm cL_law 8 51 (some .boolean) mj_P0 mj_S0 98 ad kc ks 156 [(0, .ref 2050), (1, .ref 1), (2, .ref 71), (3, .ref 98), (4, .int (Int32.ofNat (6 * j)))] [] I L := by
  have hM1 := csX10_feed X.2.1 G F (xs (6 * j + 1)) (xs (6 * j + 2)) (xs (6 * j + 3)) (xs (6 * j + 4)) (xs (6 * j + 5)) I L _ hc
  have hM2 := csX11_feed X.2.1 G F (xs (6 * j + 1)) (xs (6 * j + 2)) (xs (6 * j + 3)) (xs (6 * j + 4)) (xs (6 * j + 5)) I1 L1 _ hm
  refine mj_aload_n 1 dL_law_156 rfl ?_
  refine mj_aload_n 0 dL_law_157 rfl ?_
  refine mj_iload 4 dL_law_158 rfl ?_
  refine mj_iconst (v := 1) dL_law_160 (by decide +kernel) ?_
  refine mj_iadd dL_law_161 ?_
  refine mj_sld (6 * j + 1) hsc (mj_ix (i := 6 * j) (t := 1) hN (by omega)) dL_law_162 ?_
  refine mj_aload_n 0 dL_law_163 rfl ?_
  refine mj_iload 4 dL_law_164 rfl ?_
  refine mj_iconst (v := 2) dL_law_166 (by decide +kernel) ?_
  refine mj_iadd dL_law_167 ?_
  refine mj_sld (6 * j + 2) hsc (mj_ix (i := 6 * j) (t := 2) hN (by omega)) dL_law_168 ?_
  refine mj_aload_n 0 dL_law_169 rfl ?_
  refine mj_iload 4 dL_law_170 rfl ?_
  refine mj_iconst (v := 3) dL_law_172 (by decide +kernel) ?_
  refine mj_iadd dL_law_173 ?_
  refine mj_sld (6 * j + 3) hsc (mj_ix (i := 6 * j) (t := 3) hN (by omega)) dL_law_174 ?_
  refine mj_aload_n 0 dL_law_175 rfl ?_
  refine mj_iload 4 dL_law_176 rfl ?_
  refine mj_iconst (v := 4) dL_law_178 (by decide +kernel) ?_
  refine mj_iadd dL_law_179 ?_
  refine mj_sld (6 * j + 4) hsc (mj_ix (i := 6 * j) (t := 4) hN (by omega)) dL_law_180 ?_
  refine mj_aload_n 0 dL_law_181 rfl ?_
  refine mj_iload 4 dL_law_182 rfl ?_
  refine mj_iconst (v := 5) dL_law_184 (by decide +kernel) ?_
  refine mj_iadd dL_law_185 ?_
  refine mj_sld (6 * j + 5) hsc (mj_ix (i := 6 * j) (t := 5) hN (by omega)) dL_law_186 ?_
  refine mj_callVd (I2 := I1) (L2 := L1) (s1 := [.int v]) (st := []) [.int (xs (6 * j + 1)), .int (xs (6 * j + 2)), .int (xs (6 * j + 3)), .int (xs (6 * j + 4)), .int (xs (6 * j + 5))] hM1 rfl rfl cw_L_84 s0_1 (by decide) (by decide) rfl rfl (by decide) ⟨by omega, by omega⟩ dL_law_187 rfl ?_
  refine mj_aload_n 2 dL_law_190 rfl ?_
  refine mj_aload_n 0 dL_law_191 rfl ?_
  refine mj_iload 4 dL_law_192 rfl ?_
  refine mj_iconst (v := 1) dL_law_194 (by decide +kernel) ?_
  refine mj_iadd dL_law_195 ?_
  refine mj_sld (6 * j + 1) hsc (mj_ix (i := 6 * j) (t := 1) hN (by omega)) dL_law_196 ?_
  refine mj_aload_n 0 dL_law_197 rfl ?_
  refine mj_iload 4 dL_law_198 rfl ?_
  refine mj_iconst (v := 2) dL_law_200 (by decide +kernel) ?_
  refine mj_iadd dL_law_201 ?_
  refine mj_sld (6 * j + 2) hsc (mj_ix (i := 6 * j) (t := 2) hN (by omega)) dL_law_202 ?_
  refine mj_aload_n 0 dL_law_203 rfl ?_
  refine mj_iload 4 dL_law_204 rfl ?_
  refine mj_iconst (v := 3) dL_law_206 (by decide +kernel) ?_
  refine mj_iadd dL_law_207 ?_
  refine mj_sld (6 * j + 3) hsc (mj_ix (i := 6 * j) (t := 3) hN (by omega)) dL_law_208 ?_
  refine mj_aload_n 0 dL_law_209 rfl ?_
  refine mj_iload 4 dL_law_210 rfl ?_
  refine mj_iconst (v := 4) dL_law_212 (by decide +kernel) ?_
  refine mj_iadd dL_law_213 ?_
  refine mj_sld (6 * j + 4) hsc (mj_ix (i := 6 * j) (t := 4) hN (by omega)) dL_law_214 ?_
  refine mj_aload_n 0 dL_law_215 rfl ?_
  refine mj_iload 4 dL_law_216 rfl ?_
  refine mj_iconst (v := 5) dL_law_218 (by decide +kernel) ?_
  refine mj_iadd dL_law_219 ?_
  refine mj_sld (6 * j + 5) hsc (mj_ix (i := 6 * j) (t := 5) hN (by omega)) dL_law_220 ?_
  refine mj_callVd (I2 := I2) (L2 := L2) (s1 := [.int v, .int v]) (st := [.int v]) [.int (xs (6 * j + 1)), .int (xs (6 * j + 2)), .int (xs (6 * j + 3)), .int (xs (6 * j + 4)), .int (xs (6 * j + 5))] hM2 rfl rfl cw_L_87 s0_71 (by decide) (by decide) rfl rfl (Nat.le_of_ble_eq_true rfl) ⟨by omega, by omega⟩ dL_law_221 rfl ?_
  refine mj_icmp_eq 1617 dL_law_224 (by decide) (fun _ => ?_) (fun h => absurd rfl h)
  exact mj_wid (by omega) (by omega) (k ad mj_ag.rf)
theorem cx_text : mj_cX RL 88 yL_text cL_text 4 (some .int) hh_text 3 := ⟨mj_seg_3 (j := 58) (by decide +kernel) rfl, mj_seg_3 (j := 56) (by decide +kernel) rfl, mj_seg_3 (j := 57) (by decide +kernel) rfl, mj_seg_1 (j := 0) (by decide +kernel) rfl, ⟨by decide, by decide, by decide +kernel⟩, by decide⟩
set_option maxRecDepth 100000 in
set_option maxHeartbeats 4000000 in
theorem lc_text {X : mj_XT} {G : mj_GT} {nm : String} {ad : Nat → Nat} {kc ks : Nat} {I : mj_IT} {L : mj_LT} {N : Nat} {xs : Nat → Int32} (hsc : mj_scr X G N xs) (hN : N ≤ 3072) (hlt : X.2.1.stackTraces = false) (F j : Nat) (hj : 6 * j + 6 ≤ N) (hroom : kc + 7 ≤ X.2.2.2.1.cells ∧ ks + 42 ≤ X.2.2.2.1.slots) (o : (Int32 × mj_IT × mj_LT) ⊕ (Nat × mj_IT × mj_LT)) (hc : stX10_text F I L (xs (6 * j + 1)) = some o) (hk : ∀ q, o = .inr q → ok_text q.1 = true) (b : Int32) (t : Int32) (I2 I3 : mj_IT) (L2 L3 : mj_LT) (hm : stX11_text F (wr_text o).2.1 (wr_text o).2.2 (xs (6 * j + 1)) = some (b, I2, L2)) (ht : stX11_thrown F I2 L2 = some (t, I3, L3)) (he : t = (wr_text o).1) (hv : (wr_text o).1 = 0 → L3 98 0 = b.toInt64) (k : ∀ ad' : Nat → Nat, mj_ag ad ad' → mj_W X G RL nm cL_law 8 51 (some .boolean) mj_P0 mj_S0 98 ad' (kc + 7) (ks + 42) 1617 [(0, .ref 2050), (1, .ref 1), (2, .ref 71), (3, .ref 98), (4, .int (Int32.ofNat (6 * j)))] [] I3 L3) : mj_W X G RL nm cL_law 8 51 (some .boolean) mj_P0 mj_S0 98 ad kc ks 229 [(0, .ref 2050), (1, .ref 1), (2, .ref 71), (3, .ref 98), (4, .int (Int32.ofNat (6 * j)))] [] I L := by
  have hM1 := csL_text X.2.1 G hlt F (xs (6 * j + 1)) I L o hc hk
  have hM2 := csX11_text X.2.1 G F (xs (6 * j + 1)) _ _ _ hm
  have hM3 := csX11_thrown X.2.1 G F I2 L2 _ ht
  generalize wr_text o = w at hM1 hM2 he hv
  obtain ⟨v, I1, L1⟩ := w
  obtain rfl : t = v := he
  refine mj_aload_n 1 dL_law_229 rfl ?_
  refine mj_aload_n 0 dL_law_230 rfl ?_
  refine mj_iload 4 dL_law_231 rfl ?_
  refine mj_iconst (v := 1) dL_law_233 (by decide +kernel) ?_
  refine mj_iadd dL_law_234 ?_
  refine mj_sld (6 * j + 1) hsc (mj_ix (i := 6 * j) (t := 1) hN (by omega)) dL_law_235 ?_
  refine mj_aload_n 3 dL_law_236 rfl ?_
  refine mj_callW (st := []) [.ref 1, .int (xs (6 * j + 1)), .ref 98] hM1 cx_text (by decide) rfl rfl (by decide) ⟨by omega, by omega⟩ dL_law_237 rfl rfl (fun r P9 I9 L9 ad9 hag hq => ?_)
  obtain ⟨rfl, rfl, rfl, rfl⟩ := hq
  refine mj_wid (kc' := kc + 7) (ks' := ks + 42) (by omega) (by omega) ?_
  refine mj_istore [(5, .int t), (0, .ref 2050), (1, .ref 1), (2, .ref 71), (3, .ref 98), (4, .int (Int32.ofNat (6 * j)))] dL_law_240 (by decide) rfl ?_
  refine mj_aload_n 3 dL_law_242 rfl ?_
  refine mj_aload_n 1 dL_law_243 rfl ?_
  refine mj_iload 5 dL_law_244 rfl ?_
  refine mj_iconst (v := 1) dL_law_246 (by decide +kernel) ?_
  refine mj_iadd dL_law_247 ?_
  refine mj_sld (6 * j + 1) hsc (mj_ix (i := 6 * j) (t := 1) hN (by omega)) dL_law_248 ?_
  refine mj_callVd (I2 := I2) (L2 := L2) (s1 := [.int b]) (st := []) [.int (xs (6 * j + 1))] hM2 rfl rfl cw_L_93 s0_71 (by decide) (by decide) rfl rfl (by decide) ⟨by omega, by omega⟩ dL_law_249 rfl ?_
  refine mj_istore [(6, .int b), (5, .int t), (0, .ref 2050), (1, .ref 1), (2, .ref 71), (3, .ref 98), (4, .int (Int32.ofNat (6 * j)))] dL_law_252 (by decide) rfl ?_
  refine mj_aload_n 4 dL_law_254 rfl ?_
  refine mj_callVd (I2 := I3) (L2 := L3) (s1 := [.int t]) (st := []) [] hM3 rfl rfl cw_L_94 s0_71 (by decide) (by decide) rfl rfl (by decide) ⟨by omega, by omega⟩ dL_law_255 rfl ?_
  refine mj_iload 1 dL_law_258 rfl ?_
  refine mj_icmp_eq 265 dL_law_260 (by decide) (fun _ => ?_) (fun h => absurd rfl h)
  refine mj_iload 1 dL_law_265 rfl ?_
  refine mj_if_ne 282 dL_law_267 (by decide) (fun h0 => ?_) (fun h0 => ?_)
  · refine mj_goto 1617 dL_law_282 (by decide) ?_
    refine mj_sub [2, 3, 4, 5, 6] [(0, .ref 2050), (1, .ref 1), (2, .ref 71), (3, .ref 98), (4, .int (Int32.ofNat (6 * j)))] rfl ?_
    exact k ad9 hag
  · refine mj_aload_n 5 dL_law_270 rfl ?_
    refine mj_iconst (v := 0) dL_law_271 (by decide +kernel) ?_
    refine mj_lald (i := 0) s0_98 (by decide) (mj_ib_in (by decide +kernel)) dL_law_272 ?_
    refine mj_iload 0 dL_law_273 rfl ?_
    refine mj_i2l dL_law_275 ?_
    refine mj_lc_eq 282 dL_law_276 dL_law_277 (by decide) (fun _ => ?_) (fun h => absurd (hv h0) h)
    refine mj_goto 1617 dL_law_282 (by decide) ?_
    refine mj_sub [2, 3, 4, 5, 6] [(0, .ref 2050), (1, .ref 1), (2, .ref 71), (3, .ref 98), (4, .int (Int32.ofNat (6 * j)))] rfl ?_
    exact k ad9 hag
set_option maxRecDepth 100000 in
set_option maxHeartbeats 4000000 in
theorem lc_fault {X : mj_XT} {G : mj_GT} {nm : String} {ad : Nat → Nat} {kc ks : Nat} {I : mj_IT} {L : mj_LT} {N : Nat} {xs : Nat → Int32} (hsc : mj_scr X G N xs) (hN : N ≤ 3072) (hlt : X.2.1.stackTraces = false) (F j : Nat) (hj : 6 * j + 6 ≤ N) (hroom : kc + 7 ≤ X.2.2.2.1.cells ∧ ks + 42 ≤ X.2.2.2.1.slots) (v : Int32) (I1 I2 : mj_IT) (L1 L2 : mj_LT) (hc : stX10_fault F I L = some (v, I1, L1)) (hm : stX11_fault F I1 L1 = some (v, I2, L2)) (k : ∀ ad' : Nat → Nat, mj_ag ad ad' → mj_W X G RL nm cL_law 8 51 (some .boolean) mj_P0 mj_S0 98 ad' (kc + 7) (ks + 42) 1617 [(0, .ref 2050), (1, .ref 1), (2, .ref 71), (3, .ref 98), (4, .int (Int32.ofNat (6 * j)))] [] I2 L2) : mj_W X G RL nm cL_law 8 51 (some .boolean) mj_P0 mj_S0 98 ad kc ks 285 [(0, .ref 2050), (1, .ref 1), (2, .ref 71), (3, .ref 98), (4, .int (Int32.ofNat (6 * j)))] [] I L := by
  have hM1 := csX10_fault X.2.1 G F I L _ hc
  have hM2 := csX11_fault X.2.1 G F I1 L1 _ hm
  refine mj_aload_n 1 dL_law_285 rfl ?_
  refine mj_callVd (I2 := I1) (L2 := L1) (s1 := [.int v]) (st := []) [] hM1 rfl rfl cw_L_98 s0_1 (by decide) (by decide) rfl rfl (by decide) ⟨by omega, by omega⟩ dL_law_286 rfl ?_
  refine mj_aload_n 2 dL_law_289 rfl ?_
  refine mj_callVd (I2 := I2) (L2 := L2) (s1 := [.int v, .int v]) (st := [.int v]) [] hM2 rfl rfl cw_L_101 s0_71 (by decide) (by decide) rfl rfl (Nat.le_of_ble_eq_true rfl) ⟨by omega, by omega⟩ dL_law_290 rfl ?_
  refine mj_icmp_eq 1617 dL_law_293 (by decide) (fun _ => ?_) (fun h => absurd rfl h)
  exact mj_wid (by omega) (by omega) (k ad mj_ag.rf)
theorem cx_first : mj_cX RL 102 yL_first cL_first 5 (some .int) hh_first 4 := ⟨mj_seg_4 (j := 63) (by decide +kernel) rfl, mj_seg_4 (j := 61) (by decide +kernel) rfl, mj_seg_4 (j := 62) (by decide +kernel) rfl, mj_seg_1 (j := 0) (by decide +kernel) rfl, ⟨by decide, by decide, by decide +kernel⟩, by decide⟩
set_option maxRecDepth 100000 in
set_option maxHeartbeats 4000000 in
theorem lc_first {X : mj_XT} {G : mj_GT} {nm : String} {ad : Nat → Nat} {kc ks : Nat} {I : mj_IT} {L : mj_LT} {N : Nat} {xs : Nat → Int32} (hsc : mj_scr X G N xs) (hN : N ≤ 3072) (hlt : X.2.1.stackTraces = false) (F j : Nat) (hj : 6 * j + 6 ≤ N) (hroom : kc + 7 ≤ X.2.2.2.1.cells ∧ ks + 42 ≤ X.2.2.2.1.slots) (o : (Int32 × mj_IT × mj_LT) ⊕ (Nat × mj_IT × mj_LT)) (hc : stX10_first F I L (xs (6 * j + 1)) (xs (6 * j + 2)) = some o) (hk : ∀ q, o = .inr q → ok_first q.1 = true) (b : Int32) (t : Int32) (I2 I3 : mj_IT) (L2 L3 : mj_LT) (hm : stX11_first F (wr_first o).2.1 (wr_first o).2.2 (xs (6 * j + 1)) (xs (6 * j + 2)) = some (b, I2, L2)) (ht : stX11_thrown F I2 L2 = some (t, I3, L3)) (he : t = (wr_first o).1) (hv : (wr_first o).1 = 0 → L3 98 0 = b.toInt64) (k : ∀ ad' : Nat → Nat, mj_ag ad ad' → mj_W X G RL nm cL_law 8 51 (some .boolean) mj_P0 mj_S0 98 ad' (kc + 7) (ks + 42) 1617 [(0, .ref 2050), (1, .ref 1), (2, .ref 71), (3, .ref 98), (4, .int (Int32.ofNat (6 * j)))] [] I3 L3) : mj_W X G RL nm cL_law 8 51 (some .boolean) mj_P0 mj_S0 98 ad kc ks 298 [(0, .ref 2050), (1, .ref 1), (2, .ref 71), (3, .ref 98), (4, .int (Int32.ofNat (6 * j)))] [] I L := by
  have hM1 := csL_first X.2.1 G hlt F (xs (6 * j + 1)) (xs (6 * j + 2)) I L o hc hk
  have hM2 := csX11_first X.2.1 G F (xs (6 * j + 1)) (xs (6 * j + 2)) _ _ _ hm
  have hM3 := csX11_thrown X.2.1 G F I2 L2 _ ht
  generalize wr_first o = w at hM1 hM2 he hv
  obtain ⟨v, I1, L1⟩ := w
  obtain rfl : t = v := he
  refine mj_aload_n 1 dL_law_298 rfl ?_
  refine mj_aload_n 0 dL_law_299 rfl ?_
  refine mj_iload 4 dL_law_300 rfl ?_
  refine mj_iconst (v := 1) dL_law_302 (by decide +kernel) ?_
  refine mj_iadd dL_law_303 ?_
  refine mj_sld (6 * j + 1) hsc (mj_ix (i := 6 * j) (t := 1) hN (by omega)) dL_law_304 ?_
  refine mj_aload_n 0 dL_law_305 rfl ?_
  refine mj_iload 4 dL_law_306 rfl ?_
  refine mj_iconst (v := 2) dL_law_308 (by decide +kernel) ?_
  refine mj_iadd dL_law_309 ?_
  refine mj_sld (6 * j + 2) hsc (mj_ix (i := 6 * j) (t := 2) hN (by omega)) dL_law_310 ?_
  refine mj_aload_n 3 dL_law_311 rfl ?_
  refine mj_callW (st := []) [.ref 1, .int (xs (6 * j + 1)), .int (xs (6 * j + 2)), .ref 98] hM1 cx_first (by decide) rfl rfl (by decide) ⟨by omega, by omega⟩ dL_law_312 rfl rfl (fun r P9 I9 L9 ad9 hag hq => ?_)
  obtain ⟨rfl, rfl, rfl, rfl⟩ := hq
  refine mj_wid (kc' := kc + 7) (ks' := ks + 42) (by omega) (by omega) ?_
  refine mj_istore [(5, .int t), (0, .ref 2050), (1, .ref 1), (2, .ref 71), (3, .ref 98), (4, .int (Int32.ofNat (6 * j)))] dL_law_315 (by decide) rfl ?_
  refine mj_aload_n 3 dL_law_317 rfl ?_
  refine mj_aload_n 1 dL_law_318 rfl ?_
  refine mj_iload 5 dL_law_319 rfl ?_
  refine mj_iconst (v := 1) dL_law_321 (by decide +kernel) ?_
  refine mj_iadd dL_law_322 ?_
  refine mj_sld (6 * j + 1) hsc (mj_ix (i := 6 * j) (t := 1) hN (by omega)) dL_law_323 ?_
  refine mj_aload_n 1 dL_law_324 rfl ?_
  refine mj_iload 5 dL_law_325 rfl ?_
  refine mj_iconst (v := 2) dL_law_327 (by decide +kernel) ?_
  refine mj_iadd dL_law_328 ?_
  refine mj_sld (6 * j + 2) hsc (mj_ix (i := 6 * j) (t := 2) hN (by omega)) dL_law_329 ?_
  refine mj_callVd (I2 := I2) (L2 := L2) (s1 := [.int b]) (st := []) [.int (xs (6 * j + 1)), .int (xs (6 * j + 2))] hM2 rfl rfl cw_L_105 s0_71 (by decide) (by decide) rfl rfl (by decide) ⟨by omega, by omega⟩ dL_law_330 rfl ?_
  refine mj_istore [(6, .int b), (5, .int t), (0, .ref 2050), (1, .ref 1), (2, .ref 71), (3, .ref 98), (4, .int (Int32.ofNat (6 * j)))] dL_law_333 (by decide) rfl ?_
  refine mj_aload_n 4 dL_law_335 rfl ?_
  refine mj_callVd (I2 := I3) (L2 := L3) (s1 := [.int t]) (st := []) [] hM3 rfl rfl cw_L_94 s0_71 (by decide) (by decide) rfl rfl (by decide) ⟨by omega, by omega⟩ dL_law_336 rfl ?_
  refine mj_iload 1 dL_law_339 rfl ?_
  refine mj_icmp_eq 346 dL_law_341 (by decide) (fun _ => ?_) (fun h => absurd rfl h)
  refine mj_iload 1 dL_law_346 rfl ?_
  refine mj_if_ne 363 dL_law_348 (by decide) (fun h0 => ?_) (fun h0 => ?_)
  · refine mj_goto 1617 dL_law_363 (by decide) ?_
    refine mj_sub [2, 3, 4, 5, 6] [(0, .ref 2050), (1, .ref 1), (2, .ref 71), (3, .ref 98), (4, .int (Int32.ofNat (6 * j)))] rfl ?_
    exact k ad9 hag
  · refine mj_aload_n 5 dL_law_351 rfl ?_
    refine mj_iconst (v := 0) dL_law_352 (by decide +kernel) ?_
    refine mj_lald (i := 0) s0_98 (by decide) (mj_ib_in (by decide +kernel)) dL_law_353 ?_
    refine mj_iload 0 dL_law_354 rfl ?_
    refine mj_i2l dL_law_356 ?_
    refine mj_lc_eq 363 dL_law_357 dL_law_358 (by decide) (fun _ => ?_) (fun h => absurd (hv h0) h)
    refine mj_goto 1617 dL_law_363 (by decide) ?_
    refine mj_sub [2, 3, 4, 5, 6] [(0, .ref 2050), (1, .ref 1), (2, .ref 71), (3, .ref 98), (4, .int (Int32.ofNat (6 * j)))] rfl ?_
    exact k ad9 hag
theorem cx_chance : mj_cX RL 106 yL_chance cL_chance 5 (some .int) hh_chance 4 := ⟨mj_seg_4 (j := 103) (by decide +kernel) rfl, mj_seg_4 (j := 101) (by decide +kernel) rfl, mj_seg_4 (j := 102) (by decide +kernel) rfl, mj_seg_1 (j := 0) (by decide +kernel) rfl, ⟨by decide, by decide, by decide +kernel⟩, by decide⟩
set_option maxRecDepth 100000 in
set_option maxHeartbeats 4000000 in
theorem lc_chance {X : mj_XT} {G : mj_GT} {nm : String} {ad : Nat → Nat} {kc ks : Nat} {I : mj_IT} {L : mj_LT} {N : Nat} {xs : Nat → Int32} (hsc : mj_scr X G N xs) (hN : N ≤ 3072) (hlt : X.2.1.stackTraces = false) (F j : Nat) (hj : 6 * j + 6 ≤ N) (hroom : kc + 7 ≤ X.2.2.2.1.cells ∧ ks + 42 ≤ X.2.2.2.1.slots) (o : (Int32 × mj_IT × mj_LT) ⊕ (Nat × mj_IT × mj_LT)) (hc : stX10_chance F I L (xs (6 * j + 1)) (xs (6 * j + 2)) = some o) (hk : ∀ q, o = .inr q → ok_chance q.1 = true) (b : Int32) (t : Int32) (I2 I3 : mj_IT) (L2 L3 : mj_LT) (hm : stX11_chance F (wr_chance o).2.1 (wr_chance o).2.2 (xs (6 * j + 1)) (xs (6 * j + 2)) = some (b, I2, L2)) (ht : stX11_thrown F I2 L2 = some (t, I3, L3)) (he : t = (wr_chance o).1) (hv : (wr_chance o).1 = 0 → L3 98 0 = b.toInt64) (k : ∀ ad' : Nat → Nat, mj_ag ad ad' → mj_W X G RL nm cL_law 8 51 (some .boolean) mj_P0 mj_S0 98 ad' (kc + 7) (ks + 42) 1617 [(0, .ref 2050), (1, .ref 1), (2, .ref 71), (3, .ref 98), (4, .int (Int32.ofNat (6 * j)))] [] I3 L3) : mj_W X G RL nm cL_law 8 51 (some .boolean) mj_P0 mj_S0 98 ad kc ks 366 [(0, .ref 2050), (1, .ref 1), (2, .ref 71), (3, .ref 98), (4, .int (Int32.ofNat (6 * j)))] [] I L := by
  have hM1 := csL_chance X.2.1 G hlt F (xs (6 * j + 1)) (xs (6 * j + 2)) I L o hc hk
  have hM2 := csX11_chance X.2.1 G F (xs (6 * j + 1)) (xs (6 * j + 2)) _ _ _ hm
  have hM3 := csX11_thrown X.2.1 G F I2 L2 _ ht
  generalize wr_chance o = w at hM1 hM2 he hv
  obtain ⟨v, I1, L1⟩ := w
  obtain rfl : t = v := he
  refine mj_aload_n 1 dL_law_366 rfl ?_
  refine mj_aload_n 0 dL_law_367 rfl ?_
  refine mj_iload 4 dL_law_368 rfl ?_
  refine mj_iconst (v := 1) dL_law_370 (by decide +kernel) ?_
  refine mj_iadd dL_law_371 ?_
  refine mj_sld (6 * j + 1) hsc (mj_ix (i := 6 * j) (t := 1) hN (by omega)) dL_law_372 ?_
  refine mj_aload_n 0 dL_law_373 rfl ?_
  refine mj_iload 4 dL_law_374 rfl ?_
  refine mj_iconst (v := 2) dL_law_376 (by decide +kernel) ?_
  refine mj_iadd dL_law_377 ?_
  refine mj_sld (6 * j + 2) hsc (mj_ix (i := 6 * j) (t := 2) hN (by omega)) dL_law_378 ?_
  refine mj_aload_n 3 dL_law_379 rfl ?_
  refine mj_callW (st := []) [.ref 1, .int (xs (6 * j + 1)), .int (xs (6 * j + 2)), .ref 98] hM1 cx_chance (by decide) rfl rfl (by decide) ⟨by omega, by omega⟩ dL_law_380 rfl rfl (fun r P9 I9 L9 ad9 hag hq => ?_)
  obtain ⟨rfl, rfl, rfl, rfl⟩ := hq
  refine mj_wid (kc' := kc + 7) (ks' := ks + 42) (by omega) (by omega) ?_
  refine mj_istore [(5, .int t), (0, .ref 2050), (1, .ref 1), (2, .ref 71), (3, .ref 98), (4, .int (Int32.ofNat (6 * j)))] dL_law_383 (by decide) rfl ?_
  refine mj_aload_n 3 dL_law_385 rfl ?_
  refine mj_aload_n 1 dL_law_386 rfl ?_
  refine mj_iload 5 dL_law_387 rfl ?_
  refine mj_iconst (v := 1) dL_law_389 (by decide +kernel) ?_
  refine mj_iadd dL_law_390 ?_
  refine mj_sld (6 * j + 1) hsc (mj_ix (i := 6 * j) (t := 1) hN (by omega)) dL_law_391 ?_
  refine mj_aload_n 1 dL_law_392 rfl ?_
  refine mj_iload 5 dL_law_393 rfl ?_
  refine mj_iconst (v := 2) dL_law_395 (by decide +kernel) ?_
  refine mj_iadd dL_law_396 ?_
  refine mj_sld (6 * j + 2) hsc (mj_ix (i := 6 * j) (t := 2) hN (by omega)) dL_law_397 ?_
  refine mj_callVd (I2 := I2) (L2 := L2) (s1 := [.int b]) (st := []) [.int (xs (6 * j + 1)), .int (xs (6 * j + 2))] hM2 rfl rfl cw_L_108 s0_71 (by decide) (by decide) rfl rfl (by decide) ⟨by omega, by omega⟩ dL_law_398 rfl ?_
  refine mj_istore [(6, .int b), (5, .int t), (0, .ref 2050), (1, .ref 1), (2, .ref 71), (3, .ref 98), (4, .int (Int32.ofNat (6 * j)))] dL_law_401 (by decide) rfl ?_
  refine mj_aload_n 4 dL_law_403 rfl ?_
  refine mj_callVd (I2 := I3) (L2 := L3) (s1 := [.int t]) (st := []) [] hM3 rfl rfl cw_L_94 s0_71 (by decide) (by decide) rfl rfl (by decide) ⟨by omega, by omega⟩ dL_law_404 rfl ?_
  refine mj_iload 1 dL_law_407 rfl ?_
  refine mj_icmp_eq 414 dL_law_409 (by decide) (fun _ => ?_) (fun h => absurd rfl h)
  refine mj_iload 1 dL_law_414 rfl ?_
  refine mj_if_ne 431 dL_law_416 (by decide) (fun h0 => ?_) (fun h0 => ?_)
  · refine mj_goto 1617 dL_law_431 (by decide) ?_
    refine mj_sub [2, 3, 4, 5, 6] [(0, .ref 2050), (1, .ref 1), (2, .ref 71), (3, .ref 98), (4, .int (Int32.ofNat (6 * j)))] rfl ?_
    exact k ad9 hag
  · refine mj_aload_n 5 dL_law_419 rfl ?_
    refine mj_iconst (v := 0) dL_law_420 (by decide +kernel) ?_
    refine mj_lald (i := 0) s0_98 (by decide) (mj_ib_in (by decide +kernel)) dL_law_421 ?_
    refine mj_iload 0 dL_law_422 rfl ?_
    refine mj_i2l dL_law_424 ?_
    refine mj_lc_eq 431 dL_law_425 dL_law_426 (by decide) (fun _ => ?_) (fun h => absurd (hv h0) h)
    refine mj_goto 1617 dL_law_431 (by decide) ?_
    refine mj_sub [2, 3, 4, 5, 6] [(0, .ref 2050), (1, .ref 1), (2, .ref 71), (3, .ref 98), (4, .int (Int32.ofNat (6 * j)))] rfl ?_
    exact k ad9 hag
set_option maxRecDepth 100000 in
set_option maxHeartbeats 4000000 in
theorem lc_undo {X : mj_XT} {G : mj_GT} {nm : String} {ad : Nat → Nat} {kc ks : Nat} {I : mj_IT} {L : mj_LT} {N : Nat} {xs : Nat → Int32} (hsc : mj_scr X G N xs) (hN : N ≤ 3072) (hlt : X.2.1.stackTraces = false) (F j : Nat) (hj : 6 * j + 6 ≤ N) (hroom : kc + 7 ≤ X.2.2.2.1.cells ∧ ks + 42 ≤ X.2.2.2.1.slots) (v : Int32) (I1 I2 : mj_IT) (L1 L2 : mj_LT) (hc : stX10_undo F I L = some (v, I1, L1)) (hm : stX11_undo F I1 L1 = some (v, I2, L2)) (k : ∀ ad' : Nat → Nat, mj_ag ad ad' → mj_W X G RL nm cL_law 8 51 (some .boolean) mj_P0 mj_S0 98 ad' (kc + 7) (ks + 42) 1617 [(0, .ref 2050), (1, .ref 1), (2, .ref 71), (3, .ref 98), (4, .int (Int32.ofNat (6 * j)))] [] I2 L2) : mj_W X G RL nm cL_law 8 51 (some .boolean) mj_P0 mj_S0 98 ad kc ks 434 [(0, .ref 2050), (1, .ref 1), (2, .ref 71), (3, .ref 98), (4, .int (Int32.ofNat (6 * j)))] [] I L := by
  have hM1 := csX10_undo X.2.1 G F I L _ hc
  have hM2 := csX11_undo X.2.1 G F I1 L1 _ hm
  refine mj_aload_n 1 dL_law_434 rfl ?_
  refine mj_callVd (I2 := I1) (L2 := L1) (s1 := [.int v]) (st := []) [] hM1 rfl rfl cw_L_109 s0_1 (by decide) (by decide) rfl rfl (by decide) ⟨by omega, by omega⟩ dL_law_435 rfl ?_
  refine mj_aload_n 2 dL_law_438 rfl ?_
  refine mj_callVd (I2 := I2) (L2 := L2) (s1 := [.int v, .int v]) (st := [.int v]) [] hM2 rfl rfl cw_L_112 s0_71 (by decide) (by decide) rfl rfl (Nat.le_of_ble_eq_true rfl) ⟨by omega, by omega⟩ dL_law_439 rfl ?_
  refine mj_icmp_eq 1617 dL_law_442 (by decide) (fun _ => ?_) (fun h => absurd rfl h)
  exact mj_wid (by omega) (by omega) (k ad mj_ag.rf)
theorem cx_told : mj_cX RL 113 yL_told cL_told 4 (some .int) hh_told 3 := ⟨mj_seg_4 (j := 114) (by decide +kernel) rfl, mj_seg_4 (j := 112) (by decide +kernel) rfl, mj_seg_4 (j := 113) (by decide +kernel) rfl, mj_seg_1 (j := 0) (by decide +kernel) rfl, ⟨by decide, by decide, by decide +kernel⟩, by decide⟩
set_option maxRecDepth 100000 in
set_option maxHeartbeats 4000000 in
theorem lc_told {X : mj_XT} {G : mj_GT} {nm : String} {ad : Nat → Nat} {kc ks : Nat} {I : mj_IT} {L : mj_LT} {N : Nat} {xs : Nat → Int32} (hsc : mj_scr X G N xs) (hN : N ≤ 3072) (hlt : X.2.1.stackTraces = false) (F j : Nat) (hj : 6 * j + 6 ≤ N) (hroom : kc + 7 ≤ X.2.2.2.1.cells ∧ ks + 42 ≤ X.2.2.2.1.slots) (o : (Int32 × mj_IT × mj_LT) ⊕ (Nat × mj_IT × mj_LT)) (hc : stX10_told F I L (xs (6 * j + 1)) = some o) (hk : ∀ q, o = .inr q → ok_told q.1 = true) (b : Int32) (t : Int32) (I2 I3 : mj_IT) (L2 L3 : mj_LT) (hm : stX11_told F (wr_told o).2.1 (wr_told o).2.2 (xs (6 * j + 1)) = some (b, I2, L2)) (ht : stX11_thrown F I2 L2 = some (t, I3, L3)) (he : t = (wr_told o).1) (hv : (wr_told o).1 = 0 → L3 98 0 = b.toInt64) (k : ∀ ad' : Nat → Nat, mj_ag ad ad' → mj_W X G RL nm cL_law 8 51 (some .boolean) mj_P0 mj_S0 98 ad' (kc + 7) (ks + 42) 1617 [(0, .ref 2050), (1, .ref 1), (2, .ref 71), (3, .ref 98), (4, .int (Int32.ofNat (6 * j)))] [] I3 L3) : mj_W X G RL nm cL_law 8 51 (some .boolean) mj_P0 mj_S0 98 ad kc ks 447 [(0, .ref 2050), (1, .ref 1), (2, .ref 71), (3, .ref 98), (4, .int (Int32.ofNat (6 * j)))] [] I L := by
  have hM1 := csL_told X.2.1 G hlt F (xs (6 * j + 1)) I L o hc hk
  have hM2 := csX11_told X.2.1 G F (xs (6 * j + 1)) _ _ _ hm
  have hM3 := csX11_thrown X.2.1 G F I2 L2 _ ht
  generalize wr_told o = w at hM1 hM2 he hv
  obtain ⟨v, I1, L1⟩ := w
  obtain rfl : t = v := he
  refine mj_aload_n 1 dL_law_447 rfl ?_
  refine mj_aload_n 0 dL_law_448 rfl ?_
  refine mj_iload 4 dL_law_449 rfl ?_
  refine mj_iconst (v := 1) dL_law_451 (by decide +kernel) ?_
  refine mj_iadd dL_law_452 ?_
  refine mj_sld (6 * j + 1) hsc (mj_ix (i := 6 * j) (t := 1) hN (by omega)) dL_law_453 ?_
  refine mj_aload_n 3 dL_law_454 rfl ?_
  refine mj_callW (st := []) [.ref 1, .int (xs (6 * j + 1)), .ref 98] hM1 cx_told (by decide) rfl rfl (by decide) ⟨by omega, by omega⟩ dL_law_455 rfl rfl (fun r P9 I9 L9 ad9 hag hq => ?_)
  obtain ⟨rfl, rfl, rfl, rfl⟩ := hq
  refine mj_wid (kc' := kc + 7) (ks' := ks + 42) (by omega) (by omega) ?_
  refine mj_istore [(5, .int t), (0, .ref 2050), (1, .ref 1), (2, .ref 71), (3, .ref 98), (4, .int (Int32.ofNat (6 * j)))] dL_law_458 (by decide) rfl ?_
  refine mj_aload_n 3 dL_law_460 rfl ?_
  refine mj_aload_n 1 dL_law_461 rfl ?_
  refine mj_iload 5 dL_law_462 rfl ?_
  refine mj_iconst (v := 1) dL_law_464 (by decide +kernel) ?_
  refine mj_iadd dL_law_465 ?_
  refine mj_sld (6 * j + 1) hsc (mj_ix (i := 6 * j) (t := 1) hN (by omega)) dL_law_466 ?_
  refine mj_callVd (I2 := I2) (L2 := L2) (s1 := [.int b]) (st := []) [.int (xs (6 * j + 1))] hM2 rfl rfl cw_L_115 s0_71 (by decide) (by decide) rfl rfl (by decide) ⟨by omega, by omega⟩ dL_law_467 rfl ?_
  refine mj_istore [(6, .int b), (5, .int t), (0, .ref 2050), (1, .ref 1), (2, .ref 71), (3, .ref 98), (4, .int (Int32.ofNat (6 * j)))] dL_law_470 (by decide) rfl ?_
  refine mj_aload_n 4 dL_law_472 rfl ?_
  refine mj_callVd (I2 := I3) (L2 := L3) (s1 := [.int t]) (st := []) [] hM3 rfl rfl cw_L_94 s0_71 (by decide) (by decide) rfl rfl (by decide) ⟨by omega, by omega⟩ dL_law_473 rfl ?_
  refine mj_iload 1 dL_law_476 rfl ?_
  refine mj_icmp_eq 483 dL_law_478 (by decide) (fun _ => ?_) (fun h => absurd rfl h)
  refine mj_iload 1 dL_law_483 rfl ?_
  refine mj_if_ne 500 dL_law_485 (by decide) (fun h0 => ?_) (fun h0 => ?_)
  · refine mj_goto 1617 dL_law_500 (by decide) ?_
    refine mj_sub [2, 3, 4, 5, 6] [(0, .ref 2050), (1, .ref 1), (2, .ref 71), (3, .ref 98), (4, .int (Int32.ofNat (6 * j)))] rfl ?_
    exact k ad9 hag
  · refine mj_aload_n 5 dL_law_488 rfl ?_
    refine mj_iconst (v := 0) dL_law_489 (by decide +kernel) ?_
    refine mj_lald (i := 0) s0_98 (by decide) (mj_ib_in (by decide +kernel)) dL_law_490 ?_
    refine mj_iload 0 dL_law_491 rfl ?_
    refine mj_i2l dL_law_493 ?_
    refine mj_lc_eq 500 dL_law_494 dL_law_495 (by decide) (fun _ => ?_) (fun h => absurd (hv h0) h)
    refine mj_goto 1617 dL_law_500 (by decide) ?_
    refine mj_sub [2, 3, 4, 5, 6] [(0, .ref 2050), (1, .ref 1), (2, .ref 71), (3, .ref 98), (4, .int (Int32.ofNat (6 * j)))] rfl ?_
    exact k ad9 hag
theorem cx_statement : mj_cX RL 116 yL_statement cL_statement 5 (some .int) hh_statement 4 := ⟨mj_seg_4 (j := 125) (by decide +kernel) rfl, mj_seg_4 (j := 123) (by decide +kernel) rfl, mj_seg_4 (j := 124) (by decide +kernel) rfl, mj_seg_1 (j := 0) (by decide +kernel) rfl, ⟨by decide, by decide, by decide +kernel⟩, by decide⟩
set_option maxRecDepth 100000 in
set_option maxHeartbeats 4000000 in
theorem lc_statement {X : mj_XT} {G : mj_GT} {nm : String} {ad : Nat → Nat} {kc ks : Nat} {I : mj_IT} {L : mj_LT} {N : Nat} {xs : Nat → Int32} (hsc : mj_scr X G N xs) (hN : N ≤ 3072) (hlt : X.2.1.stackTraces = false) (F j : Nat) (hj : 6 * j + 6 ≤ N) (hroom : kc + 7 ≤ X.2.2.2.1.cells ∧ ks + 42 ≤ X.2.2.2.1.slots) (o : (Int32 × mj_IT × mj_LT) ⊕ (Nat × mj_IT × mj_LT)) (hc : stX10_statement F I L (xs (6 * j + 1)) (xs (6 * j + 2)) = some o) (hk : ∀ q, o = .inr q → ok_statement q.1 = true) (b : Int32) (t : Int32) (I2 I3 : mj_IT) (L2 L3 : mj_LT) (hm : stX11_statement F (wr_statement o).2.1 (wr_statement o).2.2 (xs (6 * j + 1)) (xs (6 * j + 2)) = some (b, I2, L2)) (ht : stX11_thrown F I2 L2 = some (t, I3, L3)) (he : t = (wr_statement o).1) (hv : (wr_statement o).1 = 0 → L3 98 0 = b.toInt64) (k : ∀ ad' : Nat → Nat, mj_ag ad ad' → mj_W X G RL nm cL_law 8 51 (some .boolean) mj_P0 mj_S0 98 ad' (kc + 7) (ks + 42) 1617 [(0, .ref 2050), (1, .ref 1), (2, .ref 71), (3, .ref 98), (4, .int (Int32.ofNat (6 * j)))] [] I3 L3) : mj_W X G RL nm cL_law 8 51 (some .boolean) mj_P0 mj_S0 98 ad kc ks 503 [(0, .ref 2050), (1, .ref 1), (2, .ref 71), (3, .ref 98), (4, .int (Int32.ofNat (6 * j)))] [] I L := by
  have hM1 := csL_statement X.2.1 G hlt F (xs (6 * j + 1)) (xs (6 * j + 2)) I L o hc hk
  have hM2 := csX11_statement X.2.1 G F (xs (6 * j + 1)) (xs (6 * j + 2)) _ _ _ hm
  have hM3 := csX11_thrown X.2.1 G F I2 L2 _ ht
  generalize wr_statement o = w at hM1 hM2 he hv
  obtain ⟨v, I1, L1⟩ := w
  obtain rfl : t = v := he
  refine mj_aload_n 1 dL_law_503 rfl ?_
  refine mj_aload_n 0 dL_law_504 rfl ?_
  refine mj_iload 4 dL_law_505 rfl ?_
  refine mj_iconst (v := 1) dL_law_507 (by decide +kernel) ?_
  refine mj_iadd dL_law_508 ?_
  refine mj_sld (6 * j + 1) hsc (mj_ix (i := 6 * j) (t := 1) hN (by omega)) dL_law_509 ?_
  refine mj_aload_n 0 dL_law_510 rfl ?_
  refine mj_iload 4 dL_law_511 rfl ?_
  refine mj_iconst (v := 2) dL_law_513 (by decide +kernel) ?_
  refine mj_iadd dL_law_514 ?_
  refine mj_sld (6 * j + 2) hsc (mj_ix (i := 6 * j) (t := 2) hN (by omega)) dL_law_515 ?_
  refine mj_aload_n 3 dL_law_516 rfl ?_
  refine mj_callW (st := []) [.ref 1, .int (xs (6 * j + 1)), .int (xs (6 * j + 2)), .ref 98] hM1 cx_statement (by decide) rfl rfl (by decide) ⟨by omega, by omega⟩ dL_law_517 rfl rfl (fun r P9 I9 L9 ad9 hag hq => ?_)
  obtain ⟨rfl, rfl, rfl, rfl⟩ := hq
  refine mj_wid (kc' := kc + 7) (ks' := ks + 42) (by omega) (by omega) ?_
  refine mj_istore [(5, .int t), (0, .ref 2050), (1, .ref 1), (2, .ref 71), (3, .ref 98), (4, .int (Int32.ofNat (6 * j)))] dL_law_520 (by decide) rfl ?_
  refine mj_aload_n 3 dL_law_522 rfl ?_
  refine mj_aload_n 1 dL_law_523 rfl ?_
  refine mj_iload 5 dL_law_524 rfl ?_
  refine mj_iconst (v := 1) dL_law_526 (by decide +kernel) ?_
  refine mj_iadd dL_law_527 ?_
  refine mj_sld (6 * j + 1) hsc (mj_ix (i := 6 * j) (t := 1) hN (by omega)) dL_law_528 ?_
  refine mj_aload_n 1 dL_law_529 rfl ?_
  refine mj_iload 5 dL_law_530 rfl ?_
  refine mj_iconst (v := 2) dL_law_532 (by decide +kernel) ?_
  refine mj_iadd dL_law_533 ?_
  refine mj_sld (6 * j + 2) hsc (mj_ix (i := 6 * j) (t := 2) hN (by omega)) dL_law_534 ?_
  refine mj_callVd (I2 := I2) (L2 := L2) (s1 := [.int b]) (st := []) [.int (xs (6 * j + 1)), .int (xs (6 * j + 2))] hM2 rfl rfl cw_L_118 s0_71 (by decide) (by decide) rfl rfl (by decide) ⟨by omega, by omega⟩ dL_law_535 rfl ?_
  refine mj_istore [(6, .int b), (5, .int t), (0, .ref 2050), (1, .ref 1), (2, .ref 71), (3, .ref 98), (4, .int (Int32.ofNat (6 * j)))] dL_law_538 (by decide) rfl ?_
  refine mj_aload_n 4 dL_law_540 rfl ?_
  refine mj_callVd (I2 := I3) (L2 := L3) (s1 := [.int t]) (st := []) [] hM3 rfl rfl cw_L_94 s0_71 (by decide) (by decide) rfl rfl (by decide) ⟨by omega, by omega⟩ dL_law_541 rfl ?_
  refine mj_iload 1 dL_law_544 rfl ?_
  refine mj_icmp_eq 551 dL_law_546 (by decide) (fun _ => ?_) (fun h => absurd rfl h)
  refine mj_iload 1 dL_law_551 rfl ?_
  refine mj_if_ne 568 dL_law_553 (by decide) (fun h0 => ?_) (fun h0 => ?_)
  · refine mj_goto 1617 dL_law_568 (by decide) ?_
    refine mj_sub [2, 3, 4, 5, 6] [(0, .ref 2050), (1, .ref 1), (2, .ref 71), (3, .ref 98), (4, .int (Int32.ofNat (6 * j)))] rfl ?_
    exact k ad9 hag
  · refine mj_aload_n 5 dL_law_556 rfl ?_
    refine mj_iconst (v := 0) dL_law_557 (by decide +kernel) ?_
    refine mj_lald (i := 0) s0_98 (by decide) (mj_ib_in (by decide +kernel)) dL_law_558 ?_
    refine mj_iload 0 dL_law_559 rfl ?_
    refine mj_i2l dL_law_561 ?_
    refine mj_lc_eq 568 dL_law_562 dL_law_563 (by decide) (fun _ => ?_) (fun h => absurd (hv h0) h)
    refine mj_goto 1617 dL_law_568 (by decide) ?_
    refine mj_sub [2, 3, 4, 5, 6] [(0, .ref 2050), (1, .ref 1), (2, .ref 71), (3, .ref 98), (4, .int (Int32.ofNat (6 * j)))] rfl ?_
    exact k ad9 hag
theorem cx_firstOf : mj_cX RL 119 yL_firstOf cL_firstOf 4 (some .int) hh_firstOf 3 := ⟨mj_seg_4 (j := 132) (by decide +kernel) rfl, mj_seg_4 (j := 130) (by decide +kernel) rfl, mj_seg_4 (j := 131) (by decide +kernel) rfl, mj_seg_1 (j := 0) (by decide +kernel) rfl, ⟨by decide, by decide, by decide +kernel⟩, by decide⟩
set_option maxRecDepth 100000 in
set_option maxHeartbeats 4000000 in
theorem lc_firstOf {X : mj_XT} {G : mj_GT} {nm : String} {ad : Nat → Nat} {kc ks : Nat} {I : mj_IT} {L : mj_LT} {N : Nat} {xs : Nat → Int32} (hsc : mj_scr X G N xs) (hN : N ≤ 3072) (hlt : X.2.1.stackTraces = false) (F j : Nat) (hj : 6 * j + 6 ≤ N) (hroom : kc + 7 ≤ X.2.2.2.1.cells ∧ ks + 42 ≤ X.2.2.2.1.slots) (o : (Int32 × mj_IT × mj_LT) ⊕ (Nat × mj_IT × mj_LT)) (hc : stX10_firstOf F I L (xs (6 * j + 1)) = some o) (hk : ∀ q, o = .inr q → ok_firstOf q.1 = true) (b : Int32) (t : Int32) (I2 I3 : mj_IT) (L2 L3 : mj_LT) (hm : stX11_firstOf F (wr_firstOf o).2.1 (wr_firstOf o).2.2 (xs (6 * j + 1)) = some (b, I2, L2)) (ht : stX11_thrown F I2 L2 = some (t, I3, L3)) (he : t = (wr_firstOf o).1) (hv : (wr_firstOf o).1 = 0 → L3 98 0 = b.toInt64) (k : ∀ ad' : Nat → Nat, mj_ag ad ad' → mj_W X G RL nm cL_law 8 51 (some .boolean) mj_P0 mj_S0 98 ad' (kc + 7) (ks + 42) 1617 [(0, .ref 2050), (1, .ref 1), (2, .ref 71), (3, .ref 98), (4, .int (Int32.ofNat (6 * j)))] [] I3 L3) : mj_W X G RL nm cL_law 8 51 (some .boolean) mj_P0 mj_S0 98 ad kc ks 571 [(0, .ref 2050), (1, .ref 1), (2, .ref 71), (3, .ref 98), (4, .int (Int32.ofNat (6 * j)))] [] I L := by
  have hM1 := csL_firstOf X.2.1 G hlt F (xs (6 * j + 1)) I L o hc hk
  have hM2 := csX11_firstOf X.2.1 G F (xs (6 * j + 1)) _ _ _ hm
  have hM3 := csX11_thrown X.2.1 G F I2 L2 _ ht
  generalize wr_firstOf o = w at hM1 hM2 he hv
  obtain ⟨v, I1, L1⟩ := w
  obtain rfl : t = v := he
  refine mj_aload_n 1 dL_law_571 rfl ?_
  refine mj_aload_n 0 dL_law_572 rfl ?_
  refine mj_iload 4 dL_law_573 rfl ?_
  refine mj_iconst (v := 1) dL_law_575 (by decide +kernel) ?_
  refine mj_iadd dL_law_576 ?_
  refine mj_sld (6 * j + 1) hsc (mj_ix (i := 6 * j) (t := 1) hN (by omega)) dL_law_577 ?_
  refine mj_aload_n 3 dL_law_578 rfl ?_
  refine mj_callW (st := []) [.ref 1, .int (xs (6 * j + 1)), .ref 98] hM1 cx_firstOf (by decide) rfl rfl (by decide) ⟨by omega, by omega⟩ dL_law_579 rfl rfl (fun r P9 I9 L9 ad9 hag hq => ?_)
  obtain ⟨rfl, rfl, rfl, rfl⟩ := hq
  refine mj_wid (kc' := kc + 7) (ks' := ks + 42) (by omega) (by omega) ?_
  refine mj_istore [(5, .int t), (0, .ref 2050), (1, .ref 1), (2, .ref 71), (3, .ref 98), (4, .int (Int32.ofNat (6 * j)))] dL_law_582 (by decide) rfl ?_
  refine mj_aload_n 3 dL_law_584 rfl ?_
  refine mj_aload_n 1 dL_law_585 rfl ?_
  refine mj_iload 5 dL_law_586 rfl ?_
  refine mj_iconst (v := 1) dL_law_588 (by decide +kernel) ?_
  refine mj_iadd dL_law_589 ?_
  refine mj_sld (6 * j + 1) hsc (mj_ix (i := 6 * j) (t := 1) hN (by omega)) dL_law_590 ?_
  refine mj_callVd (I2 := I2) (L2 := L2) (s1 := [.int b]) (st := []) [.int (xs (6 * j + 1))] hM2 rfl rfl cw_L_121 s0_71 (by decide) (by decide) rfl rfl (by decide) ⟨by omega, by omega⟩ dL_law_591 rfl ?_
  refine mj_istore [(6, .int b), (5, .int t), (0, .ref 2050), (1, .ref 1), (2, .ref 71), (3, .ref 98), (4, .int (Int32.ofNat (6 * j)))] dL_law_594 (by decide) rfl ?_
  refine mj_aload_n 4 dL_law_596 rfl ?_
  refine mj_callVd (I2 := I3) (L2 := L3) (s1 := [.int t]) (st := []) [] hM3 rfl rfl cw_L_94 s0_71 (by decide) (by decide) rfl rfl (by decide) ⟨by omega, by omega⟩ dL_law_597 rfl ?_
  refine mj_iload 1 dL_law_600 rfl ?_
  refine mj_icmp_eq 607 dL_law_602 (by decide) (fun _ => ?_) (fun h => absurd rfl h)
  refine mj_iload 1 dL_law_607 rfl ?_
  refine mj_if_ne 624 dL_law_609 (by decide) (fun h0 => ?_) (fun h0 => ?_)
  · refine mj_goto 1617 dL_law_624 (by decide) ?_
    refine mj_sub [2, 3, 4, 5, 6] [(0, .ref 2050), (1, .ref 1), (2, .ref 71), (3, .ref 98), (4, .int (Int32.ofNat (6 * j)))] rfl ?_
    exact k ad9 hag
  · refine mj_aload_n 5 dL_law_612 rfl ?_
    refine mj_iconst (v := 0) dL_law_613 (by decide +kernel) ?_
    refine mj_lald (i := 0) s0_98 (by decide) (mj_ib_in (by decide +kernel)) dL_law_614 ?_
    refine mj_iload 0 dL_law_615 rfl ?_
    refine mj_i2l dL_law_617 ?_
    refine mj_lc_eq 624 dL_law_618 dL_law_619 (by decide) (fun _ => ?_) (fun h => absurd (hv h0) h)
    refine mj_goto 1617 dL_law_624 (by decide) ?_
    refine mj_sub [2, 3, 4, 5, 6] [(0, .ref 2050), (1, .ref 1), (2, .ref 71), (3, .ref 98), (4, .int (Int32.ofNat (6 * j)))] rfl ?_
    exact k ad9 hag
theorem cx_state : mj_cX RL 122 yL_state cL_state 5 (some .int) hh_state 4 := ⟨mj_seg_4 (j := 139) (by decide +kernel) rfl, mj_seg_4 (j := 137) (by decide +kernel) rfl, mj_seg_4 (j := 138) (by decide +kernel) rfl, mj_seg_1 (j := 0) (by decide +kernel) rfl, ⟨by decide, by decide, by decide +kernel⟩, by decide⟩
set_option maxRecDepth 100000 in
set_option maxHeartbeats 4000000 in
theorem lc_state {X : mj_XT} {G : mj_GT} {nm : String} {ad : Nat → Nat} {kc ks : Nat} {I : mj_IT} {L : mj_LT} {N : Nat} {xs : Nat → Int32} (hsc : mj_scr X G N xs) (hN : N ≤ 3072) (hlt : X.2.1.stackTraces = false) (F j : Nat) (hj : 6 * j + 6 ≤ N) (hroom : kc + 7 ≤ X.2.2.2.1.cells ∧ ks + 42 ≤ X.2.2.2.1.slots) (o : (Int32 × mj_IT × mj_LT) ⊕ (Nat × mj_IT × mj_LT)) (hc : stX10_state F I L (xs (6 * j + 1)) (xs (6 * j + 2)) = some o) (hk : ∀ q, o = .inr q → ok_state q.1 = true) (b : Int32) (t : Int32) (I2 I3 : mj_IT) (L2 L3 : mj_LT) (hm : stX11_state F (wr_state o).2.1 (wr_state o).2.2 (xs (6 * j + 1)) (xs (6 * j + 2)) = some (b, I2, L2)) (ht : stX11_thrown F I2 L2 = some (t, I3, L3)) (he : t = (wr_state o).1) (hv : (wr_state o).1 = 0 → L3 98 0 = b.toInt64) (k : ∀ ad' : Nat → Nat, mj_ag ad ad' → mj_W X G RL nm cL_law 8 51 (some .boolean) mj_P0 mj_S0 98 ad' (kc + 7) (ks + 42) 1617 [(0, .ref 2050), (1, .ref 1), (2, .ref 71), (3, .ref 98), (4, .int (Int32.ofNat (6 * j)))] [] I3 L3) : mj_W X G RL nm cL_law 8 51 (some .boolean) mj_P0 mj_S0 98 ad kc ks 627 [(0, .ref 2050), (1, .ref 1), (2, .ref 71), (3, .ref 98), (4, .int (Int32.ofNat (6 * j)))] [] I L := by
  have hM1 := csL_state X.2.1 G hlt F (xs (6 * j + 1)) (xs (6 * j + 2)) I L o hc hk
  have hM2 := csX11_state X.2.1 G F (xs (6 * j + 1)) (xs (6 * j + 2)) _ _ _ hm
  have hM3 := csX11_thrown X.2.1 G F I2 L2 _ ht
  generalize wr_state o = w at hM1 hM2 he hv
  obtain ⟨v, I1, L1⟩ := w
  obtain rfl : t = v := he
  refine mj_aload_n 1 dL_law_627 rfl ?_
  refine mj_aload_n 0 dL_law_628 rfl ?_
  refine mj_iload 4 dL_law_629 rfl ?_
  refine mj_iconst (v := 1) dL_law_631 (by decide +kernel) ?_
  refine mj_iadd dL_law_632 ?_
  refine mj_sld (6 * j + 1) hsc (mj_ix (i := 6 * j) (t := 1) hN (by omega)) dL_law_633 ?_
  refine mj_aload_n 0 dL_law_634 rfl ?_
  refine mj_iload 4 dL_law_635 rfl ?_
  refine mj_iconst (v := 2) dL_law_637 (by decide +kernel) ?_
  refine mj_iadd dL_law_638 ?_
  refine mj_sld (6 * j + 2) hsc (mj_ix (i := 6 * j) (t := 2) hN (by omega)) dL_law_639 ?_
  refine mj_aload_n 3 dL_law_640 rfl ?_
  refine mj_callW (st := []) [.ref 1, .int (xs (6 * j + 1)), .int (xs (6 * j + 2)), .ref 98] hM1 cx_state (by decide) rfl rfl (by decide) ⟨by omega, by omega⟩ dL_law_641 rfl rfl (fun r P9 I9 L9 ad9 hag hq => ?_)
  obtain ⟨rfl, rfl, rfl, rfl⟩ := hq
  refine mj_wid (kc' := kc + 7) (ks' := ks + 42) (by omega) (by omega) ?_
  refine mj_istore [(5, .int t), (0, .ref 2050), (1, .ref 1), (2, .ref 71), (3, .ref 98), (4, .int (Int32.ofNat (6 * j)))] dL_law_644 (by decide) rfl ?_
  refine mj_aload_n 3 dL_law_646 rfl ?_
  refine mj_aload_n 1 dL_law_647 rfl ?_
  refine mj_iload 5 dL_law_648 rfl ?_
  refine mj_iconst (v := 1) dL_law_650 (by decide +kernel) ?_
  refine mj_iadd dL_law_651 ?_
  refine mj_sld (6 * j + 1) hsc (mj_ix (i := 6 * j) (t := 1) hN (by omega)) dL_law_652 ?_
  refine mj_aload_n 1 dL_law_653 rfl ?_
  refine mj_iload 5 dL_law_654 rfl ?_
  refine mj_iconst (v := 2) dL_law_656 (by decide +kernel) ?_
  refine mj_iadd dL_law_657 ?_
  refine mj_sld (6 * j + 2) hsc (mj_ix (i := 6 * j) (t := 2) hN (by omega)) dL_law_658 ?_
  refine mj_callVd (I2 := I2) (L2 := L2) (s1 := [.int b]) (st := []) [.int (xs (6 * j + 1)), .int (xs (6 * j + 2))] hM2 rfl rfl cw_L_124 s0_71 (by decide) (by decide) rfl rfl (by decide) ⟨by omega, by omega⟩ dL_law_659 rfl ?_
  refine mj_istore [(6, .int b), (5, .int t), (0, .ref 2050), (1, .ref 1), (2, .ref 71), (3, .ref 98), (4, .int (Int32.ofNat (6 * j)))] dL_law_662 (by decide) rfl ?_
  refine mj_aload_n 4 dL_law_664 rfl ?_
  refine mj_callVd (I2 := I3) (L2 := L3) (s1 := [.int t]) (st := []) [] hM3 rfl rfl cw_L_94 s0_71 (by decide) (by decide) rfl rfl (by decide) ⟨by omega, by omega⟩ dL_law_665 rfl ?_
  refine mj_iload 1 dL_law_668 rfl ?_
  refine mj_icmp_eq 675 dL_law_670 (by decide) (fun _ => ?_) (fun h => absurd rfl h)
  refine mj_iload 1 dL_law_675 rfl ?_
  refine mj_if_ne 692 dL_law_677 (by decide) (fun h0 => ?_) (fun h0 => ?_)
  · refine mj_goto 1617 dL_law_692 (by decide) ?_
    refine mj_sub [2, 3, 4, 5, 6] [(0, .ref 2050), (1, .ref 1), (2, .ref 71), (3, .ref 98), (4, .int (Int32.ofNat (6 * j)))] rfl ?_
    exact k ad9 hag
  · refine mj_aload_n 5 dL_law_680 rfl ?_
    refine mj_iconst (v := 0) dL_law_681 (by decide +kernel) ?_
    refine mj_lald (i := 0) s0_98 (by decide) (mj_ib_in (by decide +kernel)) dL_law_682 ?_
    refine mj_iload 0 dL_law_683 rfl ?_
    refine mj_i2l dL_law_685 ?_
    refine mj_lc_eq 692 dL_law_686 dL_law_687 (by decide) (fun _ => ?_) (fun h => absurd (hv h0) h)
    refine mj_goto 1617 dL_law_692 (by decide) ?_
    refine mj_sub [2, 3, 4, 5, 6] [(0, .ref 2050), (1, .ref 1), (2, .ref 71), (3, .ref 98), (4, .int (Int32.ofNat (6 * j)))] rfl ?_
    exact k ad9 hag
theorem cx_arc : mj_cX RL 125 yL_arc cL_arc 6 (some .int) hh_arc 5 := ⟨mj_seg_4 (j := 179) (by decide +kernel) rfl, mj_seg_4 (j := 177) (by decide +kernel) rfl, mj_seg_4 (j := 178) (by decide +kernel) rfl, mj_seg_1 (j := 0) (by decide +kernel) rfl, ⟨by decide, by decide, by decide +kernel⟩, by decide⟩
set_option maxRecDepth 100000 in
set_option maxHeartbeats 4000000 in
theorem lc_arc {X : mj_XT} {G : mj_GT} {nm : String} {ad : Nat → Nat} {kc ks : Nat} {I : mj_IT} {L : mj_LT} {N : Nat} {xs : Nat → Int32} (hsc : mj_scr X G N xs) (hN : N ≤ 3072) (hlt : X.2.1.stackTraces = false) (F j : Nat) (hj : 6 * j + 6 ≤ N) (hroom : kc + 7 ≤ X.2.2.2.1.cells ∧ ks + 42 ≤ X.2.2.2.1.slots) (o : (Int32 × mj_IT × mj_LT) ⊕ (Nat × mj_IT × mj_LT)) (hc : stX10_arc F I L (xs (6 * j + 1)) (xs (6 * j + 2)) (xs (6 * j + 3)) = some o) (hk : ∀ q, o = .inr q → ok_arc q.1 = true) (b : Int32) (t : Int32) (I2 I3 : mj_IT) (L2 L3 : mj_LT) (hm : stX11_arc F (wr_arc o).2.1 (wr_arc o).2.2 (xs (6 * j + 1)) (xs (6 * j + 2)) (xs (6 * j + 3)) = some (b, I2, L2)) (ht : stX11_thrown F I2 L2 = some (t, I3, L3)) (he : t = (wr_arc o).1) (hv : (wr_arc o).1 = 0 → L3 98 0 = b.toInt64) (k : ∀ ad' : Nat → Nat, mj_ag ad ad' → mj_W X G RL nm cL_law 8 51 (some .boolean) mj_P0 mj_S0 98 ad' (kc + 7) (ks + 42) 1617 [(0, .ref 2050), (1, .ref 1), (2, .ref 71), (3, .ref 98), (4, .int (Int32.ofNat (6 * j)))] [] I3 L3) : mj_W X G RL nm cL_law 8 51 (some .boolean) mj_P0 mj_S0 98 ad kc ks 695 [(0, .ref 2050), (1, .ref 1), (2, .ref 71), (3, .ref 98), (4, .int (Int32.ofNat (6 * j)))] [] I L := by
  have hM1 := csL_arc X.2.1 G hlt F (xs (6 * j + 1)) (xs (6 * j + 2)) (xs (6 * j + 3)) I L o hc hk
  have hM2 := csX11_arc X.2.1 G F (xs (6 * j + 1)) (xs (6 * j + 2)) (xs (6 * j + 3)) _ _ _ hm
  have hM3 := csX11_thrown X.2.1 G F I2 L2 _ ht
  generalize wr_arc o = w at hM1 hM2 he hv
  obtain ⟨v, I1, L1⟩ := w
  obtain rfl : t = v := he
  refine mj_aload_n 1 dL_law_695 rfl ?_
  refine mj_aload_n 0 dL_law_696 rfl ?_
  refine mj_iload 4 dL_law_697 rfl ?_
  refine mj_iconst (v := 1) dL_law_699 (by decide +kernel) ?_
  refine mj_iadd dL_law_700 ?_
  refine mj_sld (6 * j + 1) hsc (mj_ix (i := 6 * j) (t := 1) hN (by omega)) dL_law_701 ?_
  refine mj_aload_n 0 dL_law_702 rfl ?_
  refine mj_iload 4 dL_law_703 rfl ?_
  refine mj_iconst (v := 2) dL_law_705 (by decide +kernel) ?_
  refine mj_iadd dL_law_706 ?_
  refine mj_sld (6 * j + 2) hsc (mj_ix (i := 6 * j) (t := 2) hN (by omega)) dL_law_707 ?_
  refine mj_aload_n 0 dL_law_708 rfl ?_
  refine mj_iload 4 dL_law_709 rfl ?_
  refine mj_iconst (v := 3) dL_law_711 (by decide +kernel) ?_
  refine mj_iadd dL_law_712 ?_
  refine mj_sld (6 * j + 3) hsc (mj_ix (i := 6 * j) (t := 3) hN (by omega)) dL_law_713 ?_
  refine mj_aload_n 3 dL_law_714 rfl ?_
  refine mj_callW (st := []) [.ref 1, .int (xs (6 * j + 1)), .int (xs (6 * j + 2)), .int (xs (6 * j + 3)), .ref 98] hM1 cx_arc (by decide) rfl rfl (by decide) ⟨by omega, by omega⟩ dL_law_715 rfl rfl (fun r P9 I9 L9 ad9 hag hq => ?_)
  obtain ⟨rfl, rfl, rfl, rfl⟩ := hq
  refine mj_wid (kc' := kc + 7) (ks' := ks + 42) (by omega) (by omega) ?_
  refine mj_istore [(5, .int t), (0, .ref 2050), (1, .ref 1), (2, .ref 71), (3, .ref 98), (4, .int (Int32.ofNat (6 * j)))] dL_law_718 (by decide) rfl ?_
  refine mj_aload_n 3 dL_law_720 rfl ?_
  refine mj_aload_n 1 dL_law_721 rfl ?_
  refine mj_iload 5 dL_law_722 rfl ?_
  refine mj_iconst (v := 1) dL_law_724 (by decide +kernel) ?_
  refine mj_iadd dL_law_725 ?_
  refine mj_sld (6 * j + 1) hsc (mj_ix (i := 6 * j) (t := 1) hN (by omega)) dL_law_726 ?_
  refine mj_aload_n 1 dL_law_727 rfl ?_
  refine mj_iload 5 dL_law_728 rfl ?_
  refine mj_iconst (v := 2) dL_law_730 (by decide +kernel) ?_
  refine mj_iadd dL_law_731 ?_
  refine mj_sld (6 * j + 2) hsc (mj_ix (i := 6 * j) (t := 2) hN (by omega)) dL_law_732 ?_
  refine mj_aload_n 1 dL_law_733 rfl ?_
  refine mj_iload 5 dL_law_734 rfl ?_
  refine mj_iconst (v := 3) dL_law_736 (by decide +kernel) ?_
  refine mj_iadd dL_law_737 ?_
  refine mj_sld (6 * j + 3) hsc (mj_ix (i := 6 * j) (t := 3) hN (by omega)) dL_law_738 ?_
  refine mj_callVd (I2 := I2) (L2 := L2) (s1 := [.int b]) (st := []) [.int (xs (6 * j + 1)), .int (xs (6 * j + 2)), .int (xs (6 * j + 3))] hM2 rfl rfl cw_L_128 s0_71 (by decide) (by decide) rfl rfl (by decide) ⟨by omega, by omega⟩ dL_law_739 rfl ?_
  refine mj_istore [(6, .int b), (5, .int t), (0, .ref 2050), (1, .ref 1), (2, .ref 71), (3, .ref 98), (4, .int (Int32.ofNat (6 * j)))] dL_law_742 (by decide) rfl ?_
  refine mj_aload_n 4 dL_law_744 rfl ?_
  refine mj_callVd (I2 := I3) (L2 := L3) (s1 := [.int t]) (st := []) [] hM3 rfl rfl cw_L_94 s0_71 (by decide) (by decide) rfl rfl (by decide) ⟨by omega, by omega⟩ dL_law_745 rfl ?_
  refine mj_iload 1 dL_law_748 rfl ?_
  refine mj_icmp_eq 755 dL_law_750 (by decide) (fun _ => ?_) (fun h => absurd rfl h)
  refine mj_iload 1 dL_law_755 rfl ?_
  refine mj_if_ne 772 dL_law_757 (by decide) (fun h0 => ?_) (fun h0 => ?_)
  · refine mj_goto 1617 dL_law_772 (by decide) ?_
    refine mj_sub [2, 3, 4, 5, 6] [(0, .ref 2050), (1, .ref 1), (2, .ref 71), (3, .ref 98), (4, .int (Int32.ofNat (6 * j)))] rfl ?_
    exact k ad9 hag
  · refine mj_aload_n 5 dL_law_760 rfl ?_
    refine mj_iconst (v := 0) dL_law_761 (by decide +kernel) ?_
    refine mj_lald (i := 0) s0_98 (by decide) (mj_ib_in (by decide +kernel)) dL_law_762 ?_
    refine mj_iload 0 dL_law_763 rfl ?_
    refine mj_i2l dL_law_765 ?_
    refine mj_lc_eq 772 dL_law_766 dL_law_767 (by decide) (fun _ => ?_) (fun h => absurd (hv h0) h)
    refine mj_goto 1617 dL_law_772 (by decide) ?_
    refine mj_sub [2, 3, 4, 5, 6] [(0, .ref 2050), (1, .ref 1), (2, .ref 71), (3, .ref 98), (4, .int (Int32.ofNat (6 * j)))] rfl ?_
    exact k ad9 hag
theorem cx_total : mj_cX RL 129 yL_total cL_total 5 (some .int) hh_total 4 := ⟨mj_seg_4 (j := 186) (by decide +kernel) rfl, mj_seg_4 (j := 184) (by decide +kernel) rfl, mj_seg_4 (j := 185) (by decide +kernel) rfl, mj_seg_1 (j := 0) (by decide +kernel) rfl, ⟨by decide, by decide, by decide +kernel⟩, by decide⟩
set_option maxRecDepth 100000 in
set_option maxHeartbeats 4000000 in
theorem lc_total {X : mj_XT} {G : mj_GT} {nm : String} {ad : Nat → Nat} {kc ks : Nat} {I : mj_IT} {L : mj_LT} {N : Nat} {xs : Nat → Int32} (hsc : mj_scr X G N xs) (hN : N ≤ 3072) (hlt : X.2.1.stackTraces = false) (F j : Nat) (hj : 6 * j + 6 ≤ N) (hroom : kc + 7 ≤ X.2.2.2.1.cells ∧ ks + 42 ≤ X.2.2.2.1.slots) (o : (Int32 × mj_IT × mj_LT) ⊕ (Nat × mj_IT × mj_LT)) (hc : stX10_total F I L (xs (6 * j + 1)) (xs (6 * j + 2)) = some o) (hk : ∀ q, o = .inr q → ok_total q.1 = true) (b : Int32) (t : Int32) (I2 I3 : mj_IT) (L2 L3 : mj_LT) (hm : stX11_total F (wr_total o).2.1 (wr_total o).2.2 (xs (6 * j + 1)) (xs (6 * j + 2)) = some (b, I2, L2)) (ht : stX11_thrown F I2 L2 = some (t, I3, L3)) (he : t = (wr_total o).1) (hv : (wr_total o).1 = 0 → L3 98 0 = b.toInt64) (k : ∀ ad' : Nat → Nat, mj_ag ad ad' → mj_W X G RL nm cL_law 8 51 (some .boolean) mj_P0 mj_S0 98 ad' (kc + 7) (ks + 42) 1617 [(0, .ref 2050), (1, .ref 1), (2, .ref 71), (3, .ref 98), (4, .int (Int32.ofNat (6 * j)))] [] I3 L3) : mj_W X G RL nm cL_law 8 51 (some .boolean) mj_P0 mj_S0 98 ad kc ks 775 [(0, .ref 2050), (1, .ref 1), (2, .ref 71), (3, .ref 98), (4, .int (Int32.ofNat (6 * j)))] [] I L := by
  have hM1 := csL_total X.2.1 G hlt F (xs (6 * j + 1)) (xs (6 * j + 2)) I L o hc hk
  have hM2 := csX11_total X.2.1 G F (xs (6 * j + 1)) (xs (6 * j + 2)) _ _ _ hm
  have hM3 := csX11_thrown X.2.1 G F I2 L2 _ ht
  generalize wr_total o = w at hM1 hM2 he hv
  obtain ⟨v, I1, L1⟩ := w
  obtain rfl : t = v := he
  refine mj_aload_n 1 dL_law_775 rfl ?_
  refine mj_aload_n 0 dL_law_776 rfl ?_
  refine mj_iload 4 dL_law_777 rfl ?_
  refine mj_iconst (v := 1) dL_law_779 (by decide +kernel) ?_
  refine mj_iadd dL_law_780 ?_
  refine mj_sld (6 * j + 1) hsc (mj_ix (i := 6 * j) (t := 1) hN (by omega)) dL_law_781 ?_
  refine mj_aload_n 0 dL_law_782 rfl ?_
  refine mj_iload 4 dL_law_783 rfl ?_
  refine mj_iconst (v := 2) dL_law_785 (by decide +kernel) ?_
  refine mj_iadd dL_law_786 ?_
  refine mj_sld (6 * j + 2) hsc (mj_ix (i := 6 * j) (t := 2) hN (by omega)) dL_law_787 ?_
  refine mj_aload_n 3 dL_law_788 rfl ?_
  refine mj_callW (st := []) [.ref 1, .int (xs (6 * j + 1)), .int (xs (6 * j + 2)), .ref 98] hM1 cx_total (by decide) rfl rfl (by decide) ⟨by omega, by omega⟩ dL_law_789 rfl rfl (fun r P9 I9 L9 ad9 hag hq => ?_)
  obtain ⟨rfl, rfl, rfl, rfl⟩ := hq
  refine mj_wid (kc' := kc + 7) (ks' := ks + 42) (by omega) (by omega) ?_
  refine mj_istore [(5, .int t), (0, .ref 2050), (1, .ref 1), (2, .ref 71), (3, .ref 98), (4, .int (Int32.ofNat (6 * j)))] dL_law_792 (by decide) rfl ?_
  refine mj_aload_n 3 dL_law_794 rfl ?_
  refine mj_aload_n 1 dL_law_795 rfl ?_
  refine mj_iload 5 dL_law_796 rfl ?_
  refine mj_iconst (v := 1) dL_law_798 (by decide +kernel) ?_
  refine mj_iadd dL_law_799 ?_
  refine mj_sld (6 * j + 1) hsc (mj_ix (i := 6 * j) (t := 1) hN (by omega)) dL_law_800 ?_
  refine mj_aload_n 1 dL_law_801 rfl ?_
  refine mj_iload 5 dL_law_802 rfl ?_
  refine mj_iconst (v := 2) dL_law_804 (by decide +kernel) ?_
  refine mj_iadd dL_law_805 ?_
  refine mj_sld (6 * j + 2) hsc (mj_ix (i := 6 * j) (t := 2) hN (by omega)) dL_law_806 ?_
  refine mj_callVd (I2 := I2) (L2 := L2) (s1 := [.int b]) (st := []) [.int (xs (6 * j + 1)), .int (xs (6 * j + 2))] hM2 rfl rfl cw_L_131 s0_71 (by decide) (by decide) rfl rfl (by decide) ⟨by omega, by omega⟩ dL_law_807 rfl ?_
  refine mj_istore [(6, .int b), (5, .int t), (0, .ref 2050), (1, .ref 1), (2, .ref 71), (3, .ref 98), (4, .int (Int32.ofNat (6 * j)))] dL_law_810 (by decide) rfl ?_
  refine mj_aload_n 4 dL_law_812 rfl ?_
  refine mj_callVd (I2 := I3) (L2 := L3) (s1 := [.int t]) (st := []) [] hM3 rfl rfl cw_L_94 s0_71 (by decide) (by decide) rfl rfl (by decide) ⟨by omega, by omega⟩ dL_law_813 rfl ?_
  refine mj_iload 1 dL_law_816 rfl ?_
  refine mj_icmp_eq 823 dL_law_818 (by decide) (fun _ => ?_) (fun h => absurd rfl h)
  refine mj_iload 1 dL_law_823 rfl ?_
  refine mj_if_ne 840 dL_law_825 (by decide) (fun h0 => ?_) (fun h0 => ?_)
  · refine mj_goto 1617 dL_law_840 (by decide) ?_
    refine mj_sub [2, 3, 4, 5, 6] [(0, .ref 2050), (1, .ref 1), (2, .ref 71), (3, .ref 98), (4, .int (Int32.ofNat (6 * j)))] rfl ?_
    exact k ad9 hag
  · refine mj_aload_n 5 dL_law_828 rfl ?_
    refine mj_iconst (v := 0) dL_law_829 (by decide +kernel) ?_
    refine mj_lald (i := 0) s0_98 (by decide) (mj_ib_in (by decide +kernel)) dL_law_830 ?_
    refine mj_iload 0 dL_law_831 rfl ?_
    refine mj_i2l dL_law_833 ?_
    refine mj_lc_eq 840 dL_law_834 dL_law_835 (by decide) (fun _ => ?_) (fun h => absurd (hv h0) h)
    refine mj_goto 1617 dL_law_840 (by decide) ?_
    refine mj_sub [2, 3, 4, 5, 6] [(0, .ref 2050), (1, .ref 1), (2, .ref 71), (3, .ref 98), (4, .int (Int32.ofNat (6 * j)))] rfl ?_
    exact k ad9 hag
theorem cx_value : mj_cX RL 132 yL_value cL_value 6 (some .int) hh_value 5 := ⟨mj_seg_6 (j := 8) (by decide +kernel) rfl, mj_seg_6 (j := 6) (by decide +kernel) rfl, mj_seg_6 (j := 7) (by decide +kernel) rfl, mj_seg_1 (j := 0) (by decide +kernel) rfl, ⟨by decide, by decide, by decide +kernel⟩, by decide⟩
set_option maxRecDepth 100000 in
set_option maxHeartbeats 4000000 in
theorem lc_value {X : mj_XT} {G : mj_GT} {nm : String} {ad : Nat → Nat} {kc ks : Nat} {I : mj_IT} {L : mj_LT} {N : Nat} {xs : Nat → Int32} (hsc : mj_scr X G N xs) (hN : N ≤ 3072) (hlt : X.2.1.stackTraces = false) (F j : Nat) (hj : 6 * j + 6 ≤ N) (hroom : kc + 7 ≤ X.2.2.2.1.cells ∧ ks + 42 ≤ X.2.2.2.1.slots) (o : (Int32 × mj_IT × mj_LT) ⊕ (Nat × mj_IT × mj_LT)) (hc : stX10_value F I L (xs (6 * j + 1)) (xs (6 * j + 2)) (xs (6 * j + 3)) = some o) (hk : ∀ q, o = .inr q → ok_value q.1 = true) (b : Int32) (t : Int32) (I2 I3 : mj_IT) (L2 L3 : mj_LT) (hm : stX11_value F (wr_value o).2.1 (wr_value o).2.2 (xs (6 * j + 1)) (xs (6 * j + 2)) (xs (6 * j + 3)) = some (b, I2, L2)) (ht : stX11_thrown F I2 L2 = some (t, I3, L3)) (he : t = (wr_value o).1) (hv : (wr_value o).1 = 0 → L3 98 0 = b.toInt64) (k : ∀ ad' : Nat → Nat, mj_ag ad ad' → mj_W X G RL nm cL_law 8 51 (some .boolean) mj_P0 mj_S0 98 ad' (kc + 7) (ks + 42) 1617 [(0, .ref 2050), (1, .ref 1), (2, .ref 71), (3, .ref 98), (4, .int (Int32.ofNat (6 * j)))] [] I3 L3) : mj_W X G RL nm cL_law 8 51 (some .boolean) mj_P0 mj_S0 98 ad kc ks 843 [(0, .ref 2050), (1, .ref 1), (2, .ref 71), (3, .ref 98), (4, .int (Int32.ofNat (6 * j)))] [] I L := by
  have hM1 := csL_value X.2.1 G hlt F (xs (6 * j + 1)) (xs (6 * j + 2)) (xs (6 * j + 3)) I L o hc hk
  have hM2 := csX11_value X.2.1 G F (xs (6 * j + 1)) (xs (6 * j + 2)) (xs (6 * j + 3)) _ _ _ hm
  have hM3 := csX11_thrown X.2.1 G F I2 L2 _ ht
  generalize wr_value o = w at hM1 hM2 he hv
  obtain ⟨v, I1, L1⟩ := w
  obtain rfl : t = v := he
  refine mj_aload_n 1 dL_law_843 rfl ?_
  refine mj_aload_n 0 dL_law_844 rfl ?_
  refine mj_iload 4 dL_law_845 rfl ?_
  refine mj_iconst (v := 1) dL_law_847 (by decide +kernel) ?_
  refine mj_iadd dL_law_848 ?_
  refine mj_sld (6 * j + 1) hsc (mj_ix (i := 6 * j) (t := 1) hN (by omega)) dL_law_849 ?_
  refine mj_aload_n 0 dL_law_850 rfl ?_
  refine mj_iload 4 dL_law_851 rfl ?_
  refine mj_iconst (v := 2) dL_law_853 (by decide +kernel) ?_
  refine mj_iadd dL_law_854 ?_
  refine mj_sld (6 * j + 2) hsc (mj_ix (i := 6 * j) (t := 2) hN (by omega)) dL_law_855 ?_
  refine mj_aload_n 0 dL_law_856 rfl ?_
  refine mj_iload 4 dL_law_857 rfl ?_
  refine mj_iconst (v := 3) dL_law_859 (by decide +kernel) ?_
  refine mj_iadd dL_law_860 ?_
  refine mj_sld (6 * j + 3) hsc (mj_ix (i := 6 * j) (t := 3) hN (by omega)) dL_law_861 ?_
  refine mj_aload_n 3 dL_law_862 rfl ?_
  refine mj_callW (st := []) [.ref 1, .int (xs (6 * j + 1)), .int (xs (6 * j + 2)), .int (xs (6 * j + 3)), .ref 98] hM1 cx_value (by decide) rfl rfl (by decide) ⟨by omega, by omega⟩ dL_law_863 rfl rfl (fun r P9 I9 L9 ad9 hag hq => ?_)
  obtain ⟨rfl, rfl, rfl, rfl⟩ := hq
  refine mj_wid (kc' := kc + 7) (ks' := ks + 42) (by omega) (by omega) ?_
  refine mj_istore [(5, .int t), (0, .ref 2050), (1, .ref 1), (2, .ref 71), (3, .ref 98), (4, .int (Int32.ofNat (6 * j)))] dL_law_866 (by decide) rfl ?_
  refine mj_aload_n 3 dL_law_868 rfl ?_
  refine mj_aload_n 1 dL_law_869 rfl ?_
  refine mj_iload 5 dL_law_870 rfl ?_
  refine mj_iconst (v := 1) dL_law_872 (by decide +kernel) ?_
  refine mj_iadd dL_law_873 ?_
  refine mj_sld (6 * j + 1) hsc (mj_ix (i := 6 * j) (t := 1) hN (by omega)) dL_law_874 ?_
  refine mj_aload_n 1 dL_law_875 rfl ?_
  refine mj_iload 5 dL_law_876 rfl ?_
  refine mj_iconst (v := 2) dL_law_878 (by decide +kernel) ?_
  refine mj_iadd dL_law_879 ?_
  refine mj_sld (6 * j + 2) hsc (mj_ix (i := 6 * j) (t := 2) hN (by omega)) dL_law_880 ?_
  refine mj_aload_n 1 dL_law_881 rfl ?_
  refine mj_iload 5 dL_law_882 rfl ?_
  refine mj_iconst (v := 3) dL_law_884 (by decide +kernel) ?_
  refine mj_iadd dL_law_885 ?_
  refine mj_sld (6 * j + 3) hsc (mj_ix (i := 6 * j) (t := 3) hN (by omega)) dL_law_886 ?_
  refine mj_callVd (I2 := I2) (L2 := L2) (s1 := [.int b]) (st := []) [.int (xs (6 * j + 1)), .int (xs (6 * j + 2)), .int (xs (6 * j + 3))] hM2 rfl rfl cw_L_134 s0_71 (by decide) (by decide) rfl rfl (by decide) ⟨by omega, by omega⟩ dL_law_887 rfl ?_
  refine mj_istore [(6, .int b), (5, .int t), (0, .ref 2050), (1, .ref 1), (2, .ref 71), (3, .ref 98), (4, .int (Int32.ofNat (6 * j)))] dL_law_890 (by decide) rfl ?_
  refine mj_aload_n 4 dL_law_892 rfl ?_
  refine mj_callVd (I2 := I3) (L2 := L3) (s1 := [.int t]) (st := []) [] hM3 rfl rfl cw_L_94 s0_71 (by decide) (by decide) rfl rfl (by decide) ⟨by omega, by omega⟩ dL_law_893 rfl ?_
  refine mj_iload 1 dL_law_896 rfl ?_
  refine mj_icmp_eq 903 dL_law_898 (by decide) (fun _ => ?_) (fun h => absurd rfl h)
  refine mj_iload 1 dL_law_903 rfl ?_
  refine mj_if_ne 920 dL_law_905 (by decide) (fun h0 => ?_) (fun h0 => ?_)
  · refine mj_goto 1617 dL_law_920 (by decide) ?_
    refine mj_sub [2, 3, 4, 5, 6] [(0, .ref 2050), (1, .ref 1), (2, .ref 71), (3, .ref 98), (4, .int (Int32.ofNat (6 * j)))] rfl ?_
    exact k ad9 hag
  · refine mj_aload_n 5 dL_law_908 rfl ?_
    refine mj_iconst (v := 0) dL_law_909 (by decide +kernel) ?_
    refine mj_lald (i := 0) s0_98 (by decide) (mj_ib_in (by decide +kernel)) dL_law_910 ?_
    refine mj_iload 0 dL_law_911 rfl ?_
    refine mj_i2l dL_law_913 ?_
    refine mj_lc_eq 920 dL_law_914 dL_law_915 (by decide) (fun _ => ?_) (fun h => absurd (hv h0) h)
    refine mj_goto 1617 dL_law_920 (by decide) ?_
    refine mj_sub [2, 3, 4, 5, 6] [(0, .ref 2050), (1, .ref 1), (2, .ref 71), (3, .ref 98), (4, .int (Int32.ofNat (6 * j)))] rfl ?_
    exact k ad9 hag
theorem cx_both : mj_cX RL 135 yL_both cL_both 8 (some .int) hh_both 7 := ⟨mj_seg_6 (j := 37) (by decide +kernel) rfl, mj_seg_6 (j := 35) (by decide +kernel) rfl, mj_seg_6 (j := 36) (by decide +kernel) rfl, mj_seg_1 (j := 0) (by decide +kernel) rfl, ⟨by decide, by decide, by decide +kernel⟩, by decide⟩
set_option maxRecDepth 100000 in
set_option maxHeartbeats 4000000 in
theorem lc_both {X : mj_XT} {G : mj_GT} {nm : String} {ad : Nat → Nat} {kc ks : Nat} {I : mj_IT} {L : mj_LT} {N : Nat} {xs : Nat → Int32} (hsc : mj_scr X G N xs) (hN : N ≤ 3072) (hlt : X.2.1.stackTraces = false) (F j : Nat) (hj : 6 * j + 6 ≤ N) (hroom : kc + 7 ≤ X.2.2.2.1.cells ∧ ks + 42 ≤ X.2.2.2.1.slots) (o : (Int32 × mj_IT × mj_LT) ⊕ (Nat × mj_IT × mj_LT)) (hc : stX10_both F I L (xs (6 * j + 1)) (xs (6 * j + 2)) (xs (6 * j + 3)) (xs (6 * j + 4)) (xs (6 * j + 5)) = some o) (hk : ∀ q, o = .inr q → ok_both q.1 = true) (b : Int32) (t : Int32) (I2 I3 : mj_IT) (L2 L3 : mj_LT) (hm : stX11_both F (wr_both o).2.1 (wr_both o).2.2 (xs (6 * j + 1)) (xs (6 * j + 2)) (xs (6 * j + 3)) (xs (6 * j + 4)) (xs (6 * j + 5)) = some (b, I2, L2)) (ht : stX11_thrown F I2 L2 = some (t, I3, L3)) (he : t = (wr_both o).1) (hv : (wr_both o).1 = 0 → L3 98 0 = b.toInt64) (k : ∀ ad' : Nat → Nat, mj_ag ad ad' → mj_W X G RL nm cL_law 8 51 (some .boolean) mj_P0 mj_S0 98 ad' (kc + 7) (ks + 42) 1617 [(0, .ref 2050), (1, .ref 1), (2, .ref 71), (3, .ref 98), (4, .int (Int32.ofNat (6 * j)))] [] I3 L3) : mj_W X G RL nm cL_law 8 51 (some .boolean) mj_P0 mj_S0 98 ad kc ks 923 [(0, .ref 2050), (1, .ref 1), (2, .ref 71), (3, .ref 98), (4, .int (Int32.ofNat (6 * j)))] [] I L := by
  have hM1 := csL_both X.2.1 G hlt F (xs (6 * j + 1)) (xs (6 * j + 2)) (xs (6 * j + 3)) (xs (6 * j + 4)) (xs (6 * j + 5)) I L o hc hk
  have hM2 := csX11_both X.2.1 G F (xs (6 * j + 1)) (xs (6 * j + 2)) (xs (6 * j + 3)) (xs (6 * j + 4)) (xs (6 * j + 5)) _ _ _ hm
  have hM3 := csX11_thrown X.2.1 G F I2 L2 _ ht
  generalize wr_both o = w at hM1 hM2 he hv
  obtain ⟨v, I1, L1⟩ := w
  obtain rfl : t = v := he
  refine mj_aload_n 1 dL_law_923 rfl ?_
  refine mj_aload_n 0 dL_law_924 rfl ?_
  refine mj_iload 4 dL_law_925 rfl ?_
  refine mj_iconst (v := 1) dL_law_927 (by decide +kernel) ?_
  refine mj_iadd dL_law_928 ?_
  refine mj_sld (6 * j + 1) hsc (mj_ix (i := 6 * j) (t := 1) hN (by omega)) dL_law_929 ?_
  refine mj_aload_n 0 dL_law_930 rfl ?_
  refine mj_iload 4 dL_law_931 rfl ?_
  refine mj_iconst (v := 2) dL_law_933 (by decide +kernel) ?_
  refine mj_iadd dL_law_934 ?_
  refine mj_sld (6 * j + 2) hsc (mj_ix (i := 6 * j) (t := 2) hN (by omega)) dL_law_935 ?_
  refine mj_aload_n 0 dL_law_936 rfl ?_
  refine mj_iload 4 dL_law_937 rfl ?_
  refine mj_iconst (v := 3) dL_law_939 (by decide +kernel) ?_
  refine mj_iadd dL_law_940 ?_
  refine mj_sld (6 * j + 3) hsc (mj_ix (i := 6 * j) (t := 3) hN (by omega)) dL_law_941 ?_
  refine mj_aload_n 0 dL_law_942 rfl ?_
  refine mj_iload 4 dL_law_943 rfl ?_
  refine mj_iconst (v := 4) dL_law_945 (by decide +kernel) ?_
  refine mj_iadd dL_law_946 ?_
  refine mj_sld (6 * j + 4) hsc (mj_ix (i := 6 * j) (t := 4) hN (by omega)) dL_law_947 ?_
  refine mj_aload_n 0 dL_law_948 rfl ?_
  refine mj_iload 4 dL_law_949 rfl ?_
  refine mj_iconst (v := 5) dL_law_951 (by decide +kernel) ?_
  refine mj_iadd dL_law_952 ?_
  refine mj_sld (6 * j + 5) hsc (mj_ix (i := 6 * j) (t := 5) hN (by omega)) dL_law_953 ?_
  refine mj_aload_n 3 dL_law_954 rfl ?_
  refine mj_callW (st := []) [.ref 1, .int (xs (6 * j + 1)), .int (xs (6 * j + 2)), .int (xs (6 * j + 3)), .int (xs (6 * j + 4)), .int (xs (6 * j + 5)), .ref 98] hM1 cx_both (by decide) rfl rfl (by decide) ⟨by omega, by omega⟩ dL_law_955 rfl rfl (fun r P9 I9 L9 ad9 hag hq => ?_)
  obtain ⟨rfl, rfl, rfl, rfl⟩ := hq
  refine mj_wid (kc' := kc + 7) (ks' := ks + 42) (by omega) (by omega) ?_
  refine mj_istore [(5, .int t), (0, .ref 2050), (1, .ref 1), (2, .ref 71), (3, .ref 98), (4, .int (Int32.ofNat (6 * j)))] dL_law_958 (by decide) rfl ?_
  refine mj_aload_n 3 dL_law_960 rfl ?_
  refine mj_aload_n 1 dL_law_961 rfl ?_
  refine mj_iload 5 dL_law_962 rfl ?_
  refine mj_iconst (v := 1) dL_law_964 (by decide +kernel) ?_
  refine mj_iadd dL_law_965 ?_
  refine mj_sld (6 * j + 1) hsc (mj_ix (i := 6 * j) (t := 1) hN (by omega)) dL_law_966 ?_
  refine mj_aload_n 1 dL_law_967 rfl ?_
  refine mj_iload 5 dL_law_968 rfl ?_
  refine mj_iconst (v := 2) dL_law_970 (by decide +kernel) ?_
  refine mj_iadd dL_law_971 ?_
  refine mj_sld (6 * j + 2) hsc (mj_ix (i := 6 * j) (t := 2) hN (by omega)) dL_law_972 ?_
  refine mj_aload_n 1 dL_law_973 rfl ?_
  refine mj_iload 5 dL_law_974 rfl ?_
  refine mj_iconst (v := 3) dL_law_976 (by decide +kernel) ?_
  refine mj_iadd dL_law_977 ?_
  refine mj_sld (6 * j + 3) hsc (mj_ix (i := 6 * j) (t := 3) hN (by omega)) dL_law_978 ?_
  refine mj_aload_n 1 dL_law_979 rfl ?_
  refine mj_iload 5 dL_law_980 rfl ?_
  refine mj_iconst (v := 4) dL_law_982 (by decide +kernel) ?_
  refine mj_iadd dL_law_983 ?_
  refine mj_sld (6 * j + 4) hsc (mj_ix (i := 6 * j) (t := 4) hN (by omega)) dL_law_984 ?_
  refine mj_aload_n 1 dL_law_985 rfl ?_
  refine mj_iload 5 dL_law_986 rfl ?_
  refine mj_iconst (v := 5) dL_law_988 (by decide +kernel) ?_
  refine mj_iadd dL_law_989 ?_
  refine mj_sld (6 * j + 5) hsc (mj_ix (i := 6 * j) (t := 5) hN (by omega)) dL_law_990 ?_
  refine mj_callVd (I2 := I2) (L2 := L2) (s1 := [.int b]) (st := []) [.int (xs (6 * j + 1)), .int (xs (6 * j + 2)), .int (xs (6 * j + 3)), .int (xs (6 * j + 4)), .int (xs (6 * j + 5))] hM2 rfl rfl cw_L_138 s0_71 (by decide) (by decide) rfl rfl (by decide) ⟨by omega, by omega⟩ dL_law_991 rfl ?_
  refine mj_istore [(6, .int b), (5, .int t), (0, .ref 2050), (1, .ref 1), (2, .ref 71), (3, .ref 98), (4, .int (Int32.ofNat (6 * j)))] dL_law_994 (by decide) rfl ?_
  refine mj_aload_n 4 dL_law_996 rfl ?_
  refine mj_callVd (I2 := I3) (L2 := L3) (s1 := [.int t]) (st := []) [] hM3 rfl rfl cw_L_94 s0_71 (by decide) (by decide) rfl rfl (by decide) ⟨by omega, by omega⟩ dL_law_997 rfl ?_
  refine mj_iload 1 dL_law_1000 rfl ?_
  refine mj_icmp_eq 1007 dL_law_1002 (by decide) (fun _ => ?_) (fun h => absurd rfl h)
  refine mj_iload 1 dL_law_1007 rfl ?_
  refine mj_if_ne 1024 dL_law_1009 (by decide) (fun h0 => ?_) (fun h0 => ?_)
  · refine mj_goto 1617 dL_law_1024 (by decide) ?_
    refine mj_sub [2, 3, 4, 5, 6] [(0, .ref 2050), (1, .ref 1), (2, .ref 71), (3, .ref 98), (4, .int (Int32.ofNat (6 * j)))] rfl ?_
    exact k ad9 hag
  · refine mj_aload_n 5 dL_law_1012 rfl ?_
    refine mj_iconst (v := 0) dL_law_1013 (by decide +kernel) ?_
    refine mj_lald (i := 0) s0_98 (by decide) (mj_ib_in (by decide +kernel)) dL_law_1014 ?_
    refine mj_iload 0 dL_law_1015 rfl ?_
    refine mj_i2l dL_law_1017 ?_
    refine mj_lc_eq 1024 dL_law_1018 dL_law_1019 (by decide) (fun _ => ?_) (fun h => absurd (hv h0) h)
    refine mj_goto 1617 dL_law_1024 (by decide) ?_
    refine mj_sub [2, 3, 4, 5, 6] [(0, .ref 2050), (1, .ref 1), (2, .ref 71), (3, .ref 98), (4, .int (Int32.ofNat (6 * j)))] rfl ?_
    exact k ad9 hag
theorem cx_mean : mj_cX RL 139 yL_mean cL_mean 5 (some .int) hh_mean 4 := ⟨mj_seg_6 (j := 44) (by decide +kernel) rfl, mj_seg_6 (j := 42) (by decide +kernel) rfl, mj_seg_6 (j := 43) (by decide +kernel) rfl, mj_seg_1 (j := 0) (by decide +kernel) rfl, ⟨by decide, by decide, by decide +kernel⟩, by decide⟩
set_option maxRecDepth 100000 in
set_option maxHeartbeats 4000000 in
theorem lc_mean {X : mj_XT} {G : mj_GT} {nm : String} {ad : Nat → Nat} {kc ks : Nat} {I : mj_IT} {L : mj_LT} {N : Nat} {xs : Nat → Int32} (hsc : mj_scr X G N xs) (hN : N ≤ 3072) (hlt : X.2.1.stackTraces = false) (F j : Nat) (hj : 6 * j + 6 ≤ N) (hroom : kc + 7 ≤ X.2.2.2.1.cells ∧ ks + 42 ≤ X.2.2.2.1.slots) (o : (Int32 × mj_IT × mj_LT) ⊕ (Nat × mj_IT × mj_LT)) (hc : stX10_mean F I L (xs (6 * j + 1)) (xs (6 * j + 2)) = some o) (hk : ∀ q, o = .inr q → ok_mean q.1 = true) (b : Int32) (t : Int32) (I2 I3 : mj_IT) (L2 L3 : mj_LT) (hm : stX11_mean F (wr_mean o).2.1 (wr_mean o).2.2 (xs (6 * j + 1)) (xs (6 * j + 2)) = some (b, I2, L2)) (ht : stX11_thrown F I2 L2 = some (t, I3, L3)) (he : t = (wr_mean o).1) (hv : (wr_mean o).1 = 0 → L3 98 0 = b.toInt64) (k : ∀ ad' : Nat → Nat, mj_ag ad ad' → mj_W X G RL nm cL_law 8 51 (some .boolean) mj_P0 mj_S0 98 ad' (kc + 7) (ks + 42) 1617 [(0, .ref 2050), (1, .ref 1), (2, .ref 71), (3, .ref 98), (4, .int (Int32.ofNat (6 * j)))] [] I3 L3) : mj_W X G RL nm cL_law 8 51 (some .boolean) mj_P0 mj_S0 98 ad kc ks 1027 [(0, .ref 2050), (1, .ref 1), (2, .ref 71), (3, .ref 98), (4, .int (Int32.ofNat (6 * j)))] [] I L := by
  have hM1 := csL_mean X.2.1 G hlt F (xs (6 * j + 1)) (xs (6 * j + 2)) I L o hc hk
  have hM2 := csX11_mean X.2.1 G F (xs (6 * j + 1)) (xs (6 * j + 2)) _ _ _ hm
  have hM3 := csX11_thrown X.2.1 G F I2 L2 _ ht
  generalize wr_mean o = w at hM1 hM2 he hv
  obtain ⟨v, I1, L1⟩ := w
  obtain rfl : t = v := he
  refine mj_aload_n 1 dL_law_1027 rfl ?_
  refine mj_aload_n 0 dL_law_1028 rfl ?_
  refine mj_iload 4 dL_law_1029 rfl ?_
  refine mj_iconst (v := 1) dL_law_1031 (by decide +kernel) ?_
  refine mj_iadd dL_law_1032 ?_
  refine mj_sld (6 * j + 1) hsc (mj_ix (i := 6 * j) (t := 1) hN (by omega)) dL_law_1033 ?_
  refine mj_aload_n 0 dL_law_1034 rfl ?_
  refine mj_iload 4 dL_law_1035 rfl ?_
  refine mj_iconst (v := 2) dL_law_1037 (by decide +kernel) ?_
  refine mj_iadd dL_law_1038 ?_
  refine mj_sld (6 * j + 2) hsc (mj_ix (i := 6 * j) (t := 2) hN (by omega)) dL_law_1039 ?_
  refine mj_aload_n 3 dL_law_1040 rfl ?_
  refine mj_callW (st := []) [.ref 1, .int (xs (6 * j + 1)), .int (xs (6 * j + 2)), .ref 98] hM1 cx_mean (by decide) rfl rfl (by decide) ⟨by omega, by omega⟩ dL_law_1041 rfl rfl (fun r P9 I9 L9 ad9 hag hq => ?_)
  obtain ⟨rfl, rfl, rfl, rfl⟩ := hq
  refine mj_wid (kc' := kc + 7) (ks' := ks + 42) (by omega) (by omega) ?_
  refine mj_istore [(5, .int t), (0, .ref 2050), (1, .ref 1), (2, .ref 71), (3, .ref 98), (4, .int (Int32.ofNat (6 * j)))] dL_law_1044 (by decide) rfl ?_
  refine mj_aload_n 3 dL_law_1046 rfl ?_
  refine mj_aload_n 1 dL_law_1047 rfl ?_
  refine mj_iload 5 dL_law_1048 rfl ?_
  refine mj_iconst (v := 1) dL_law_1050 (by decide +kernel) ?_
  refine mj_iadd dL_law_1051 ?_
  refine mj_sld (6 * j + 1) hsc (mj_ix (i := 6 * j) (t := 1) hN (by omega)) dL_law_1052 ?_
  refine mj_aload_n 1 dL_law_1053 rfl ?_
  refine mj_iload 5 dL_law_1054 rfl ?_
  refine mj_iconst (v := 2) dL_law_1056 (by decide +kernel) ?_
  refine mj_iadd dL_law_1057 ?_
  refine mj_sld (6 * j + 2) hsc (mj_ix (i := 6 * j) (t := 2) hN (by omega)) dL_law_1058 ?_
  refine mj_callVd (I2 := I2) (L2 := L2) (s1 := [.int b]) (st := []) [.int (xs (6 * j + 1)), .int (xs (6 * j + 2))] hM2 rfl rfl cw_L_141 s0_71 (by decide) (by decide) rfl rfl (by decide) ⟨by omega, by omega⟩ dL_law_1059 rfl ?_
  refine mj_istore [(6, .int b), (5, .int t), (0, .ref 2050), (1, .ref 1), (2, .ref 71), (3, .ref 98), (4, .int (Int32.ofNat (6 * j)))] dL_law_1062 (by decide) rfl ?_
  refine mj_aload_n 4 dL_law_1064 rfl ?_
  refine mj_callVd (I2 := I3) (L2 := L3) (s1 := [.int t]) (st := []) [] hM3 rfl rfl cw_L_94 s0_71 (by decide) (by decide) rfl rfl (by decide) ⟨by omega, by omega⟩ dL_law_1065 rfl ?_
  refine mj_iload 1 dL_law_1068 rfl ?_
  refine mj_icmp_eq 1075 dL_law_1070 (by decide) (fun _ => ?_) (fun h => absurd rfl h)
  refine mj_iload 1 dL_law_1075 rfl ?_
  refine mj_if_ne 1092 dL_law_1077 (by decide) (fun h0 => ?_) (fun h0 => ?_)
  · refine mj_goto 1617 dL_law_1092 (by decide) ?_
    refine mj_sub [2, 3, 4, 5, 6] [(0, .ref 2050), (1, .ref 1), (2, .ref 71), (3, .ref 98), (4, .int (Int32.ofNat (6 * j)))] rfl ?_
    exact k ad9 hag
  · refine mj_aload_n 5 dL_law_1080 rfl ?_
    refine mj_iconst (v := 0) dL_law_1081 (by decide +kernel) ?_
    refine mj_lald (i := 0) s0_98 (by decide) (mj_ib_in (by decide +kernel)) dL_law_1082 ?_
    refine mj_iload 0 dL_law_1083 rfl ?_
    refine mj_i2l dL_law_1085 ?_
    refine mj_lc_eq 1092 dL_law_1086 dL_law_1087 (by decide) (fun _ => ?_) (fun h => absurd (hv h0) h)
    refine mj_goto 1617 dL_law_1092 (by decide) ?_
    refine mj_sub [2, 3, 4, 5, 6] [(0, .ref 2050), (1, .ref 1), (2, .ref 71), (3, .ref 98), (4, .int (Int32.ofNat (6 * j)))] rfl ?_
    exact k ad9 hag
theorem cx_independent : mj_cX RL 142 yL_independent cL_independent 5 (some .int) hh_independent 4 := ⟨mj_seg_6 (j := 55) (by decide +kernel) rfl, mj_seg_6 (j := 53) (by decide +kernel) rfl, mj_seg_6 (j := 54) (by decide +kernel) rfl, mj_seg_1 (j := 0) (by decide +kernel) rfl, ⟨by decide, by decide, by decide +kernel⟩, by decide⟩
set_option maxRecDepth 100000 in
set_option maxHeartbeats 4000000 in
theorem lc_independent {X : mj_XT} {G : mj_GT} {nm : String} {ad : Nat → Nat} {kc ks : Nat} {I : mj_IT} {L : mj_LT} {N : Nat} {xs : Nat → Int32} (hsc : mj_scr X G N xs) (hN : N ≤ 3072) (hlt : X.2.1.stackTraces = false) (F j : Nat) (hj : 6 * j + 6 ≤ N) (hroom : kc + 7 ≤ X.2.2.2.1.cells ∧ ks + 42 ≤ X.2.2.2.1.slots) (o : (Int32 × mj_IT × mj_LT) ⊕ (Nat × mj_IT × mj_LT)) (hc : stX10_independent F I L (xs (6 * j + 1)) (xs (6 * j + 2)) = some o) (hk : ∀ q, o = .inr q → ok_independent q.1 = true) (b : Int32) (t : Int32) (I2 I3 : mj_IT) (L2 L3 : mj_LT) (hm : stX11_independent F (wr_independent o).2.1 (wr_independent o).2.2 (xs (6 * j + 1)) (xs (6 * j + 2)) = some (b, I2, L2)) (ht : stX11_thrown F I2 L2 = some (t, I3, L3)) (he : t = (wr_independent o).1) (hv : (wr_independent o).1 = 0 → L3 98 0 = b.toInt64) (k : ∀ ad' : Nat → Nat, mj_ag ad ad' → mj_W X G RL nm cL_law 8 51 (some .boolean) mj_P0 mj_S0 98 ad' (kc + 7) (ks + 42) 1617 [(0, .ref 2050), (1, .ref 1), (2, .ref 71), (3, .ref 98), (4, .int (Int32.ofNat (6 * j)))] [] I3 L3) : mj_W X G RL nm cL_law 8 51 (some .boolean) mj_P0 mj_S0 98 ad kc ks 1095 [(0, .ref 2050), (1, .ref 1), (2, .ref 71), (3, .ref 98), (4, .int (Int32.ofNat (6 * j)))] [] I L := by
  have hM1 := csL_independent X.2.1 G hlt F (xs (6 * j + 1)) (xs (6 * j + 2)) I L o hc hk
  have hM2 := csX11_independent X.2.1 G F (xs (6 * j + 1)) (xs (6 * j + 2)) _ _ _ hm
  have hM3 := csX11_thrown X.2.1 G F I2 L2 _ ht
  generalize wr_independent o = w at hM1 hM2 he hv
  obtain ⟨v, I1, L1⟩ := w
  obtain rfl : t = v := he
  refine mj_aload_n 1 dL_law_1095 rfl ?_
  refine mj_aload_n 0 dL_law_1096 rfl ?_
  refine mj_iload 4 dL_law_1097 rfl ?_
  refine mj_iconst (v := 1) dL_law_1099 (by decide +kernel) ?_
  refine mj_iadd dL_law_1100 ?_
  refine mj_sld (6 * j + 1) hsc (mj_ix (i := 6 * j) (t := 1) hN (by omega)) dL_law_1101 ?_
  refine mj_aload_n 0 dL_law_1102 rfl ?_
  refine mj_iload 4 dL_law_1103 rfl ?_
  refine mj_iconst (v := 2) dL_law_1105 (by decide +kernel) ?_
  refine mj_iadd dL_law_1106 ?_
  refine mj_sld (6 * j + 2) hsc (mj_ix (i := 6 * j) (t := 2) hN (by omega)) dL_law_1107 ?_
  refine mj_aload_n 3 dL_law_1108 rfl ?_
  refine mj_callW (st := []) [.ref 1, .int (xs (6 * j + 1)), .int (xs (6 * j + 2)), .ref 98] hM1 cx_independent (by decide) rfl rfl (by decide) ⟨by omega, by omega⟩ dL_law_1109 rfl rfl (fun r P9 I9 L9 ad9 hag hq => ?_)
  obtain ⟨rfl, rfl, rfl, rfl⟩ := hq
  refine mj_wid (kc' := kc + 7) (ks' := ks + 42) (by omega) (by omega) ?_
  refine mj_istore [(5, .int t), (0, .ref 2050), (1, .ref 1), (2, .ref 71), (3, .ref 98), (4, .int (Int32.ofNat (6 * j)))] dL_law_1112 (by decide) rfl ?_
  refine mj_aload_n 3 dL_law_1114 rfl ?_
  refine mj_aload_n 1 dL_law_1115 rfl ?_
  refine mj_iload 5 dL_law_1116 rfl ?_
  refine mj_iconst (v := 1) dL_law_1118 (by decide +kernel) ?_
  refine mj_iadd dL_law_1119 ?_
  refine mj_sld (6 * j + 1) hsc (mj_ix (i := 6 * j) (t := 1) hN (by omega)) dL_law_1120 ?_
  refine mj_aload_n 1 dL_law_1121 rfl ?_
  refine mj_iload 5 dL_law_1122 rfl ?_
  refine mj_iconst (v := 2) dL_law_1124 (by decide +kernel) ?_
  refine mj_iadd dL_law_1125 ?_
  refine mj_sld (6 * j + 2) hsc (mj_ix (i := 6 * j) (t := 2) hN (by omega)) dL_law_1126 ?_
  refine mj_callVd (I2 := I2) (L2 := L2) (s1 := [.int b]) (st := []) [.int (xs (6 * j + 1)), .int (xs (6 * j + 2))] hM2 rfl rfl cw_L_144 s0_71 (by decide) (by decide) rfl rfl (by decide) ⟨by omega, by omega⟩ dL_law_1127 rfl ?_
  refine mj_istore [(6, .int b), (5, .int t), (0, .ref 2050), (1, .ref 1), (2, .ref 71), (3, .ref 98), (4, .int (Int32.ofNat (6 * j)))] dL_law_1130 (by decide) rfl ?_
  refine mj_aload_n 4 dL_law_1132 rfl ?_
  refine mj_callVd (I2 := I3) (L2 := L3) (s1 := [.int t]) (st := []) [] hM3 rfl rfl cw_L_94 s0_71 (by decide) (by decide) rfl rfl (by decide) ⟨by omega, by omega⟩ dL_law_1133 rfl ?_
  refine mj_iload 1 dL_law_1136 rfl ?_
  refine mj_icmp_eq 1143 dL_law_1138 (by decide) (fun _ => ?_) (fun h => absurd rfl h)
  refine mj_iload 1 dL_law_1143 rfl ?_
  refine mj_if_ne 1160 dL_law_1145 (by decide) (fun h0 => ?_) (fun h0 => ?_)
  · refine mj_goto 1617 dL_law_1160 (by decide) ?_
    refine mj_sub [2, 3, 4, 5, 6] [(0, .ref 2050), (1, .ref 1), (2, .ref 71), (3, .ref 98), (4, .int (Int32.ofNat (6 * j)))] rfl ?_
    exact k ad9 hag
  · refine mj_aload_n 5 dL_law_1148 rfl ?_
    refine mj_iconst (v := 0) dL_law_1149 (by decide +kernel) ?_
    refine mj_lald (i := 0) s0_98 (by decide) (mj_ib_in (by decide +kernel)) dL_law_1150 ?_
    refine mj_iload 0 dL_law_1151 rfl ?_
    refine mj_i2l dL_law_1153 ?_
    refine mj_lc_eq 1160 dL_law_1154 dL_law_1155 (by decide) (fun _ => ?_) (fun h => absurd (hv h0) h)
    refine mj_goto 1617 dL_law_1160 (by decide) ?_
    refine mj_sub [2, 3, 4, 5, 6] [(0, .ref 2050), (1, .ref 1), (2, .ref 71), (3, .ref 98), (4, .int (Int32.ofNat (6 * j)))] rfl ?_
    exact k ad9 hag
theorem cx_visits : mj_cX RL 145 yL_visits cL_visits 5 (some .int) hh_visits 4 := ⟨mj_seg_6 (j := 67) (by decide +kernel) rfl, mj_seg_6 (j := 65) (by decide +kernel) rfl, mj_seg_6 (j := 66) (by decide +kernel) rfl, mj_seg_1 (j := 0) (by decide +kernel) rfl, ⟨by decide, by decide, by decide +kernel⟩, by decide⟩
set_option maxRecDepth 100000 in
set_option maxHeartbeats 4000000 in
theorem lc_visits {X : mj_XT} {G : mj_GT} {nm : String} {ad : Nat → Nat} {kc ks : Nat} {I : mj_IT} {L : mj_LT} {N : Nat} {xs : Nat → Int32} (hsc : mj_scr X G N xs) (hN : N ≤ 3072) (hlt : X.2.1.stackTraces = false) (F j : Nat) (hj : 6 * j + 6 ≤ N) (hroom : kc + 7 ≤ X.2.2.2.1.cells ∧ ks + 42 ≤ X.2.2.2.1.slots) (o : (Int32 × mj_IT × mj_LT) ⊕ (Nat × mj_IT × mj_LT)) (hc : stX10_visits F I L (xs (6 * j + 1)) (xs (6 * j + 2)) = some o) (hk : ∀ q, o = .inr q → ok_visits q.1 = true) (b : Int32) (t : Int32) (I2 I3 : mj_IT) (L2 L3 : mj_LT) (hm : stX11_visits F (wr_visits o).2.1 (wr_visits o).2.2 (xs (6 * j + 1)) (xs (6 * j + 2)) = some (b, I2, L2)) (ht : stX11_thrown F I2 L2 = some (t, I3, L3)) (he : t = (wr_visits o).1) (hv : (wr_visits o).1 = 0 → L3 98 0 = b.toInt64) (k : ∀ ad' : Nat → Nat, mj_ag ad ad' → mj_W X G RL nm cL_law 8 51 (some .boolean) mj_P0 mj_S0 98 ad' (kc + 7) (ks + 42) 1617 [(0, .ref 2050), (1, .ref 1), (2, .ref 71), (3, .ref 98), (4, .int (Int32.ofNat (6 * j)))] [] I3 L3) : mj_W X G RL nm cL_law 8 51 (some .boolean) mj_P0 mj_S0 98 ad kc ks 1163 [(0, .ref 2050), (1, .ref 1), (2, .ref 71), (3, .ref 98), (4, .int (Int32.ofNat (6 * j)))] [] I L := by
  have hM1 := csL_visits X.2.1 G hlt F (xs (6 * j + 1)) (xs (6 * j + 2)) I L o hc hk
  have hM2 := csX11_visits X.2.1 G F (xs (6 * j + 1)) (xs (6 * j + 2)) _ _ _ hm
  have hM3 := csX11_thrown X.2.1 G F I2 L2 _ ht
  generalize wr_visits o = w at hM1 hM2 he hv
  obtain ⟨v, I1, L1⟩ := w
  obtain rfl : t = v := he
  refine mj_aload_n 1 dL_law_1163 rfl ?_
  refine mj_aload_n 0 dL_law_1164 rfl ?_
  refine mj_iload 4 dL_law_1165 rfl ?_
  refine mj_iconst (v := 1) dL_law_1167 (by decide +kernel) ?_
  refine mj_iadd dL_law_1168 ?_
  refine mj_sld (6 * j + 1) hsc (mj_ix (i := 6 * j) (t := 1) hN (by omega)) dL_law_1169 ?_
  refine mj_aload_n 0 dL_law_1170 rfl ?_
  refine mj_iload 4 dL_law_1171 rfl ?_
  refine mj_iconst (v := 2) dL_law_1173 (by decide +kernel) ?_
  refine mj_iadd dL_law_1174 ?_
  refine mj_sld (6 * j + 2) hsc (mj_ix (i := 6 * j) (t := 2) hN (by omega)) dL_law_1175 ?_
  refine mj_aload_n 3 dL_law_1176 rfl ?_
  refine mj_callW (st := []) [.ref 1, .int (xs (6 * j + 1)), .int (xs (6 * j + 2)), .ref 98] hM1 cx_visits (by decide) rfl rfl (by decide) ⟨by omega, by omega⟩ dL_law_1177 rfl rfl (fun r P9 I9 L9 ad9 hag hq => ?_)
  obtain ⟨rfl, rfl, rfl, rfl⟩ := hq
  refine mj_wid (kc' := kc + 7) (ks' := ks + 42) (by omega) (by omega) ?_
  refine mj_istore [(5, .int t), (0, .ref 2050), (1, .ref 1), (2, .ref 71), (3, .ref 98), (4, .int (Int32.ofNat (6 * j)))] dL_law_1180 (by decide) rfl ?_
  refine mj_aload_n 3 dL_law_1182 rfl ?_
  refine mj_aload_n 1 dL_law_1183 rfl ?_
  refine mj_iload 5 dL_law_1184 rfl ?_
  refine mj_iconst (v := 1) dL_law_1186 (by decide +kernel) ?_
  refine mj_iadd dL_law_1187 ?_
  refine mj_sld (6 * j + 1) hsc (mj_ix (i := 6 * j) (t := 1) hN (by omega)) dL_law_1188 ?_
  refine mj_aload_n 1 dL_law_1189 rfl ?_
  refine mj_iload 5 dL_law_1190 rfl ?_
  refine mj_iconst (v := 2) dL_law_1192 (by decide +kernel) ?_
  refine mj_iadd dL_law_1193 ?_
  refine mj_sld (6 * j + 2) hsc (mj_ix (i := 6 * j) (t := 2) hN (by omega)) dL_law_1194 ?_
  refine mj_callVd (I2 := I2) (L2 := L2) (s1 := [.int b]) (st := []) [.int (xs (6 * j + 1)), .int (xs (6 * j + 2))] hM2 rfl rfl cw_L_147 s0_71 (by decide) (by decide) rfl rfl (by decide) ⟨by omega, by omega⟩ dL_law_1195 rfl ?_
  refine mj_istore [(6, .int b), (5, .int t), (0, .ref 2050), (1, .ref 1), (2, .ref 71), (3, .ref 98), (4, .int (Int32.ofNat (6 * j)))] dL_law_1198 (by decide) rfl ?_
  refine mj_aload_n 4 dL_law_1200 rfl ?_
  refine mj_callVd (I2 := I3) (L2 := L3) (s1 := [.int t]) (st := []) [] hM3 rfl rfl cw_L_94 s0_71 (by decide) (by decide) rfl rfl (by decide) ⟨by omega, by omega⟩ dL_law_1201 rfl ?_
  refine mj_iload 1 dL_law_1204 rfl ?_
  refine mj_icmp_eq 1211 dL_law_1206 (by decide) (fun _ => ?_) (fun h => absurd rfl h)
  refine mj_iload 1 dL_law_1211 rfl ?_
  refine mj_if_ne 1228 dL_law_1213 (by decide) (fun h0 => ?_) (fun h0 => ?_)
  · refine mj_goto 1617 dL_law_1228 (by decide) ?_
    refine mj_sub [2, 3, 4, 5, 6] [(0, .ref 2050), (1, .ref 1), (2, .ref 71), (3, .ref 98), (4, .int (Int32.ofNat (6 * j)))] rfl ?_
    exact k ad9 hag
  · refine mj_aload_n 5 dL_law_1216 rfl ?_
    refine mj_iconst (v := 0) dL_law_1217 (by decide +kernel) ?_
    refine mj_lald (i := 0) s0_98 (by decide) (mj_ib_in (by decide +kernel)) dL_law_1218 ?_
    refine mj_iload 0 dL_law_1219 rfl ?_
    refine mj_i2l dL_law_1221 ?_
    refine mj_lc_eq 1228 dL_law_1222 dL_law_1223 (by decide) (fun _ => ?_) (fun h => absurd (hv h0) h)
    refine mj_goto 1617 dL_law_1228 (by decide) ?_
    refine mj_sub [2, 3, 4, 5, 6] [(0, .ref 2050), (1, .ref 1), (2, .ref 71), (3, .ref 98), (4, .int (Int32.ofNat (6 * j)))] rfl ?_
    exact k ad9 hag
theorem cx_steps : mj_cX RL 148 yL_steps cL_steps 4 (some .int) hh_steps 3 := ⟨mj_seg_6 (j := 74) (by decide +kernel) rfl, mj_seg_6 (j := 72) (by decide +kernel) rfl, mj_seg_6 (j := 73) (by decide +kernel) rfl, mj_seg_1 (j := 0) (by decide +kernel) rfl, ⟨by decide, by decide, by decide +kernel⟩, by decide⟩
set_option maxRecDepth 100000 in
set_option maxHeartbeats 4000000 in
theorem lc_steps {X : mj_XT} {G : mj_GT} {nm : String} {ad : Nat → Nat} {kc ks : Nat} {I : mj_IT} {L : mj_LT} {N : Nat} {xs : Nat → Int32} (hsc : mj_scr X G N xs) (hN : N ≤ 3072) (hlt : X.2.1.stackTraces = false) (F j : Nat) (hj : 6 * j + 6 ≤ N) (hroom : kc + 7 ≤ X.2.2.2.1.cells ∧ ks + 42 ≤ X.2.2.2.1.slots) (o : (Int32 × mj_IT × mj_LT) ⊕ (Nat × mj_IT × mj_LT)) (hc : stX10_steps F I L (xs (6 * j + 1)) = some o) (hk : ∀ q, o = .inr q → ok_steps q.1 = true) (b : Int32) (t : Int32) (I2 I3 : mj_IT) (L2 L3 : mj_LT) (hm : stX11_steps F (wr_steps o).2.1 (wr_steps o).2.2 (xs (6 * j + 1)) = some (b, I2, L2)) (ht : stX11_thrown F I2 L2 = some (t, I3, L3)) (he : t = (wr_steps o).1) (hv : (wr_steps o).1 = 0 → L3 98 0 = b.toInt64) (k : ∀ ad' : Nat → Nat, mj_ag ad ad' → mj_W X G RL nm cL_law 8 51 (some .boolean) mj_P0 mj_S0 98 ad' (kc + 7) (ks + 42) 1617 [(0, .ref 2050), (1, .ref 1), (2, .ref 71), (3, .ref 98), (4, .int (Int32.ofNat (6 * j)))] [] I3 L3) : mj_W X G RL nm cL_law 8 51 (some .boolean) mj_P0 mj_S0 98 ad kc ks 1231 [(0, .ref 2050), (1, .ref 1), (2, .ref 71), (3, .ref 98), (4, .int (Int32.ofNat (6 * j)))] [] I L := by
  have hM1 := csL_steps X.2.1 G hlt F (xs (6 * j + 1)) I L o hc hk
  have hM2 := csX11_steps X.2.1 G F (xs (6 * j + 1)) _ _ _ hm
  have hM3 := csX11_thrown X.2.1 G F I2 L2 _ ht
  generalize wr_steps o = w at hM1 hM2 he hv
  obtain ⟨v, I1, L1⟩ := w
  obtain rfl : t = v := he
  refine mj_aload_n 1 dL_law_1231 rfl ?_
  refine mj_aload_n 0 dL_law_1232 rfl ?_
  refine mj_iload 4 dL_law_1233 rfl ?_
  refine mj_iconst (v := 1) dL_law_1235 (by decide +kernel) ?_
  refine mj_iadd dL_law_1236 ?_
  refine mj_sld (6 * j + 1) hsc (mj_ix (i := 6 * j) (t := 1) hN (by omega)) dL_law_1237 ?_
  refine mj_aload_n 3 dL_law_1238 rfl ?_
  refine mj_callW (st := []) [.ref 1, .int (xs (6 * j + 1)), .ref 98] hM1 cx_steps (by decide) rfl rfl (by decide) ⟨by omega, by omega⟩ dL_law_1239 rfl rfl (fun r P9 I9 L9 ad9 hag hq => ?_)
  obtain ⟨rfl, rfl, rfl, rfl⟩ := hq
  refine mj_wid (kc' := kc + 7) (ks' := ks + 42) (by omega) (by omega) ?_
  refine mj_istore [(5, .int t), (0, .ref 2050), (1, .ref 1), (2, .ref 71), (3, .ref 98), (4, .int (Int32.ofNat (6 * j)))] dL_law_1242 (by decide) rfl ?_
  refine mj_aload_n 3 dL_law_1244 rfl ?_
  refine mj_aload_n 1 dL_law_1245 rfl ?_
  refine mj_iload 5 dL_law_1246 rfl ?_
  refine mj_iconst (v := 1) dL_law_1248 (by decide +kernel) ?_
  refine mj_iadd dL_law_1249 ?_
  refine mj_sld (6 * j + 1) hsc (mj_ix (i := 6 * j) (t := 1) hN (by omega)) dL_law_1250 ?_
  refine mj_callVd (I2 := I2) (L2 := L2) (s1 := [.int b]) (st := []) [.int (xs (6 * j + 1))] hM2 rfl rfl cw_L_150 s0_71 (by decide) (by decide) rfl rfl (by decide) ⟨by omega, by omega⟩ dL_law_1251 rfl ?_
  refine mj_istore [(6, .int b), (5, .int t), (0, .ref 2050), (1, .ref 1), (2, .ref 71), (3, .ref 98), (4, .int (Int32.ofNat (6 * j)))] dL_law_1254 (by decide) rfl ?_
  refine mj_aload_n 4 dL_law_1256 rfl ?_
  refine mj_callVd (I2 := I3) (L2 := L3) (s1 := [.int t]) (st := []) [] hM3 rfl rfl cw_L_94 s0_71 (by decide) (by decide) rfl rfl (by decide) ⟨by omega, by omega⟩ dL_law_1257 rfl ?_
  refine mj_iload 1 dL_law_1260 rfl ?_
  refine mj_icmp_eq 1267 dL_law_1262 (by decide) (fun _ => ?_) (fun h => absurd rfl h)
  refine mj_iload 1 dL_law_1267 rfl ?_
  refine mj_if_ne 1284 dL_law_1269 (by decide) (fun h0 => ?_) (fun h0 => ?_)
  · refine mj_goto 1617 dL_law_1284 (by decide) ?_
    refine mj_sub [2, 3, 4, 5, 6] [(0, .ref 2050), (1, .ref 1), (2, .ref 71), (3, .ref 98), (4, .int (Int32.ofNat (6 * j)))] rfl ?_
    exact k ad9 hag
  · refine mj_aload_n 5 dL_law_1272 rfl ?_
    refine mj_iconst (v := 0) dL_law_1273 (by decide +kernel) ?_
    refine mj_lald (i := 0) s0_98 (by decide) (mj_ib_in (by decide +kernel)) dL_law_1274 ?_
    refine mj_iload 0 dL_law_1275 rfl ?_
    refine mj_i2l dL_law_1277 ?_
    refine mj_lc_eq 1284 dL_law_1278 dL_law_1279 (by decide) (fun _ => ?_) (fun h => absurd (hv h0) h)
    refine mj_goto 1617 dL_law_1284 (by decide) ?_
    refine mj_sub [2, 3, 4, 5, 6] [(0, .ref 2050), (1, .ref 1), (2, .ref 71), (3, .ref 98), (4, .int (Int32.ofNat (6 * j)))] rfl ?_
    exact k ad9 hag
theorem cx_within : mj_cX RL 151 yL_within cL_within 5 (some .int) hh_within 4 := ⟨mj_seg_6 (j := 81) (by decide +kernel) rfl, mj_seg_6 (j := 79) (by decide +kernel) rfl, mj_seg_6 (j := 80) (by decide +kernel) rfl, mj_seg_1 (j := 0) (by decide +kernel) rfl, ⟨by decide, by decide, by decide +kernel⟩, by decide⟩
set_option maxRecDepth 100000 in
set_option maxHeartbeats 4000000 in
theorem lc_within {X : mj_XT} {G : mj_GT} {nm : String} {ad : Nat → Nat} {kc ks : Nat} {I : mj_IT} {L : mj_LT} {N : Nat} {xs : Nat → Int32} (hsc : mj_scr X G N xs) (hN : N ≤ 3072) (hlt : X.2.1.stackTraces = false) (F j : Nat) (hj : 6 * j + 6 ≤ N) (hroom : kc + 7 ≤ X.2.2.2.1.cells ∧ ks + 42 ≤ X.2.2.2.1.slots) (o : (Int32 × mj_IT × mj_LT) ⊕ (Nat × mj_IT × mj_LT)) (hc : stX10_within F I L (xs (6 * j + 1)) (xs (6 * j + 2)) = some o) (hk : ∀ q, o = .inr q → ok_within q.1 = true) (b : Int32) (t : Int32) (I2 I3 : mj_IT) (L2 L3 : mj_LT) (hm : stX11_within F (wr_within o).2.1 (wr_within o).2.2 (xs (6 * j + 1)) (xs (6 * j + 2)) = some (b, I2, L2)) (ht : stX11_thrown F I2 L2 = some (t, I3, L3)) (he : t = (wr_within o).1) (hv : (wr_within o).1 = 0 → L3 98 0 = b.toInt64) (k : ∀ ad' : Nat → Nat, mj_ag ad ad' → mj_W X G RL nm cL_law 8 51 (some .boolean) mj_P0 mj_S0 98 ad' (kc + 7) (ks + 42) 1617 [(0, .ref 2050), (1, .ref 1), (2, .ref 71), (3, .ref 98), (4, .int (Int32.ofNat (6 * j)))] [] I3 L3) : mj_W X G RL nm cL_law 8 51 (some .boolean) mj_P0 mj_S0 98 ad kc ks 1287 [(0, .ref 2050), (1, .ref 1), (2, .ref 71), (3, .ref 98), (4, .int (Int32.ofNat (6 * j)))] [] I L := by
  have hM1 := csL_within X.2.1 G hlt F (xs (6 * j + 1)) (xs (6 * j + 2)) I L o hc hk
  have hM2 := csX11_within X.2.1 G F (xs (6 * j + 1)) (xs (6 * j + 2)) _ _ _ hm
  have hM3 := csX11_thrown X.2.1 G F I2 L2 _ ht
  generalize wr_within o = w at hM1 hM2 he hv
  obtain ⟨v, I1, L1⟩ := w
  obtain rfl : t = v := he
  refine mj_aload_n 1 dL_law_1287 rfl ?_
  refine mj_aload_n 0 dL_law_1288 rfl ?_
  refine mj_iload 4 dL_law_1289 rfl ?_
  refine mj_iconst (v := 1) dL_law_1291 (by decide +kernel) ?_
  refine mj_iadd dL_law_1292 ?_
  refine mj_sld (6 * j + 1) hsc (mj_ix (i := 6 * j) (t := 1) hN (by omega)) dL_law_1293 ?_
  refine mj_aload_n 0 dL_law_1294 rfl ?_
  refine mj_iload 4 dL_law_1295 rfl ?_
  refine mj_iconst (v := 2) dL_law_1297 (by decide +kernel) ?_
  refine mj_iadd dL_law_1298 ?_
  refine mj_sld (6 * j + 2) hsc (mj_ix (i := 6 * j) (t := 2) hN (by omega)) dL_law_1299 ?_
  refine mj_aload_n 3 dL_law_1300 rfl ?_
  refine mj_callW (st := []) [.ref 1, .int (xs (6 * j + 1)), .int (xs (6 * j + 2)), .ref 98] hM1 cx_within (by decide) rfl rfl (by decide) ⟨by omega, by omega⟩ dL_law_1301 rfl rfl (fun r P9 I9 L9 ad9 hag hq => ?_)
  obtain ⟨rfl, rfl, rfl, rfl⟩ := hq
  refine mj_wid (kc' := kc + 7) (ks' := ks + 42) (by omega) (by omega) ?_
  refine mj_istore [(5, .int t), (0, .ref 2050), (1, .ref 1), (2, .ref 71), (3, .ref 98), (4, .int (Int32.ofNat (6 * j)))] dL_law_1304 (by decide) rfl ?_
  refine mj_aload_n 3 dL_law_1306 rfl ?_
  refine mj_aload_n 1 dL_law_1307 rfl ?_
  refine mj_iload 5 dL_law_1308 rfl ?_
  refine mj_iconst (v := 1) dL_law_1310 (by decide +kernel) ?_
  refine mj_iadd dL_law_1311 ?_
  refine mj_sld (6 * j + 1) hsc (mj_ix (i := 6 * j) (t := 1) hN (by omega)) dL_law_1312 ?_
  refine mj_aload_n 1 dL_law_1313 rfl ?_
  refine mj_iload 5 dL_law_1314 rfl ?_
  refine mj_iconst (v := 2) dL_law_1316 (by decide +kernel) ?_
  refine mj_iadd dL_law_1317 ?_
  refine mj_sld (6 * j + 2) hsc (mj_ix (i := 6 * j) (t := 2) hN (by omega)) dL_law_1318 ?_
  refine mj_callVd (I2 := I2) (L2 := L2) (s1 := [.int b]) (st := []) [.int (xs (6 * j + 1)), .int (xs (6 * j + 2))] hM2 rfl rfl cw_L_153 s0_71 (by decide) (by decide) rfl rfl (by decide) ⟨by omega, by omega⟩ dL_law_1319 rfl ?_
  refine mj_istore [(6, .int b), (5, .int t), (0, .ref 2050), (1, .ref 1), (2, .ref 71), (3, .ref 98), (4, .int (Int32.ofNat (6 * j)))] dL_law_1322 (by decide) rfl ?_
  refine mj_aload_n 4 dL_law_1324 rfl ?_
  refine mj_callVd (I2 := I3) (L2 := L3) (s1 := [.int t]) (st := []) [] hM3 rfl rfl cw_L_94 s0_71 (by decide) (by decide) rfl rfl (by decide) ⟨by omega, by omega⟩ dL_law_1325 rfl ?_
  refine mj_iload 1 dL_law_1328 rfl ?_
  refine mj_icmp_eq 1335 dL_law_1330 (by decide) (fun _ => ?_) (fun h => absurd rfl h)
  refine mj_iload 1 dL_law_1335 rfl ?_
  refine mj_if_ne 1352 dL_law_1337 (by decide) (fun h0 => ?_) (fun h0 => ?_)
  · refine mj_goto 1617 dL_law_1352 (by decide) ?_
    refine mj_sub [2, 3, 4, 5, 6] [(0, .ref 2050), (1, .ref 1), (2, .ref 71), (3, .ref 98), (4, .int (Int32.ofNat (6 * j)))] rfl ?_
    exact k ad9 hag
  · refine mj_aload_n 5 dL_law_1340 rfl ?_
    refine mj_iconst (v := 0) dL_law_1341 (by decide +kernel) ?_
    refine mj_lald (i := 0) s0_98 (by decide) (mj_ib_in (by decide +kernel)) dL_law_1342 ?_
    refine mj_iload 0 dL_law_1343 rfl ?_
    refine mj_i2l dL_law_1345 ?_
    refine mj_lc_eq 1352 dL_law_1346 dL_law_1347 (by decide) (fun _ => ?_) (fun h => absurd (hv h0) h)
    refine mj_goto 1617 dL_law_1352 (by decide) ?_
    refine mj_sub [2, 3, 4, 5, 6] [(0, .ref 2050), (1, .ref 1), (2, .ref 71), (3, .ref 98), (4, .int (Int32.ofNat (6 * j)))] rfl ?_
    exact k ad9 hag
theorem cx_classes : mj_cX RL 154 yL_classes cL_classes 4 (some .int) hh_classes 3 := ⟨mj_seg_6 (j := 105) (by decide +kernel) rfl, mj_seg_6 (j := 103) (by decide +kernel) rfl, mj_seg_6 (j := 104) (by decide +kernel) rfl, mj_seg_1 (j := 0) (by decide +kernel) rfl, ⟨by decide, by decide, by decide +kernel⟩, by decide⟩
set_option maxRecDepth 100000 in
set_option maxHeartbeats 4000000 in
theorem lc_classes {X : mj_XT} {G : mj_GT} {nm : String} {ad : Nat → Nat} {kc ks : Nat} {I : mj_IT} {L : mj_LT} {N : Nat} {xs : Nat → Int32} (hsc : mj_scr X G N xs) (hN : N ≤ 3072) (hlt : X.2.1.stackTraces = false) (F j : Nat) (hj : 6 * j + 6 ≤ N) (hroom : kc + 7 ≤ X.2.2.2.1.cells ∧ ks + 42 ≤ X.2.2.2.1.slots) (o : (Int32 × mj_IT × mj_LT) ⊕ (Nat × mj_IT × mj_LT)) (hc : stX10_classes F I L (xs (6 * j + 1)) = some o) (hk : ∀ q, o = .inr q → ok_classes q.1 = true) (b : Int32) (t : Int32) (I2 I3 : mj_IT) (L2 L3 : mj_LT) (hm : stX11_classes F (wr_classes o).2.1 (wr_classes o).2.2 (xs (6 * j + 1)) = some (b, I2, L2)) (ht : stX11_thrown F I2 L2 = some (t, I3, L3)) (he : t = (wr_classes o).1) (hv : (wr_classes o).1 = 0 → L3 98 0 = b.toInt64) (k : ∀ ad' : Nat → Nat, mj_ag ad ad' → mj_W X G RL nm cL_law 8 51 (some .boolean) mj_P0 mj_S0 98 ad' (kc + 7) (ks + 42) 1617 [(0, .ref 2050), (1, .ref 1), (2, .ref 71), (3, .ref 98), (4, .int (Int32.ofNat (6 * j)))] [] I3 L3) : mj_W X G RL nm cL_law 8 51 (some .boolean) mj_P0 mj_S0 98 ad kc ks 1355 [(0, .ref 2050), (1, .ref 1), (2, .ref 71), (3, .ref 98), (4, .int (Int32.ofNat (6 * j)))] [] I L := by
  have hM1 := csL_classes X.2.1 G hlt F (xs (6 * j + 1)) I L o hc hk
  have hM2 := csX11_classes X.2.1 G F (xs (6 * j + 1)) _ _ _ hm
  have hM3 := csX11_thrown X.2.1 G F I2 L2 _ ht
  generalize wr_classes o = w at hM1 hM2 he hv
  obtain ⟨v, I1, L1⟩ := w
  obtain rfl : t = v := he
  refine mj_aload_n 1 dL_law_1355 rfl ?_
  refine mj_aload_n 0 dL_law_1356 rfl ?_
  refine mj_iload 4 dL_law_1357 rfl ?_
  refine mj_iconst (v := 1) dL_law_1359 (by decide +kernel) ?_
  refine mj_iadd dL_law_1360 ?_
  refine mj_sld (6 * j + 1) hsc (mj_ix (i := 6 * j) (t := 1) hN (by omega)) dL_law_1361 ?_
  refine mj_aload_n 3 dL_law_1362 rfl ?_
  refine mj_callW (st := []) [.ref 1, .int (xs (6 * j + 1)), .ref 98] hM1 cx_classes (by decide) rfl rfl (by decide) ⟨by omega, by omega⟩ dL_law_1363 rfl rfl (fun r P9 I9 L9 ad9 hag hq => ?_)
  obtain ⟨rfl, rfl, rfl, rfl⟩ := hq
  refine mj_wid (kc' := kc + 7) (ks' := ks + 42) (by omega) (by omega) ?_
  refine mj_istore [(5, .int t), (0, .ref 2050), (1, .ref 1), (2, .ref 71), (3, .ref 98), (4, .int (Int32.ofNat (6 * j)))] dL_law_1366 (by decide) rfl ?_
  refine mj_aload_n 3 dL_law_1368 rfl ?_
  refine mj_aload_n 1 dL_law_1369 rfl ?_
  refine mj_iload 5 dL_law_1370 rfl ?_
  refine mj_iconst (v := 1) dL_law_1372 (by decide +kernel) ?_
  refine mj_iadd dL_law_1373 ?_
  refine mj_sld (6 * j + 1) hsc (mj_ix (i := 6 * j) (t := 1) hN (by omega)) dL_law_1374 ?_
  refine mj_callVd (I2 := I2) (L2 := L2) (s1 := [.int b]) (st := []) [.int (xs (6 * j + 1))] hM2 rfl rfl cw_L_156 s0_71 (by decide) (by decide) rfl rfl (by decide) ⟨by omega, by omega⟩ dL_law_1375 rfl ?_
  refine mj_istore [(6, .int b), (5, .int t), (0, .ref 2050), (1, .ref 1), (2, .ref 71), (3, .ref 98), (4, .int (Int32.ofNat (6 * j)))] dL_law_1378 (by decide) rfl ?_
  refine mj_aload_n 4 dL_law_1380 rfl ?_
  refine mj_callVd (I2 := I3) (L2 := L3) (s1 := [.int t]) (st := []) [] hM3 rfl rfl cw_L_94 s0_71 (by decide) (by decide) rfl rfl (by decide) ⟨by omega, by omega⟩ dL_law_1381 rfl ?_
  refine mj_iload 1 dL_law_1384 rfl ?_
  refine mj_icmp_eq 1391 dL_law_1386 (by decide) (fun _ => ?_) (fun h => absurd rfl h)
  refine mj_iload 1 dL_law_1391 rfl ?_
  refine mj_if_ne 1408 dL_law_1393 (by decide) (fun h0 => ?_) (fun h0 => ?_)
  · refine mj_goto 1617 dL_law_1408 (by decide) ?_
    refine mj_sub [2, 3, 4, 5, 6] [(0, .ref 2050), (1, .ref 1), (2, .ref 71), (3, .ref 98), (4, .int (Int32.ofNat (6 * j)))] rfl ?_
    exact k ad9 hag
  · refine mj_aload_n 5 dL_law_1396 rfl ?_
    refine mj_iconst (v := 0) dL_law_1397 (by decide +kernel) ?_
    refine mj_lald (i := 0) s0_98 (by decide) (mj_ib_in (by decide +kernel)) dL_law_1398 ?_
    refine mj_iload 0 dL_law_1399 rfl ?_
    refine mj_i2l dL_law_1401 ?_
    refine mj_lc_eq 1408 dL_law_1402 dL_law_1403 (by decide) (fun _ => ?_) (fun h => absurd (hv h0) h)
    refine mj_goto 1617 dL_law_1408 (by decide) ?_
    refine mj_sub [2, 3, 4, 5, 6] [(0, .ref 2050), (1, .ref 1), (2, .ref 71), (3, .ref 98), (4, .int (Int32.ofNat (6 * j)))] rfl ?_
    exact k ad9 hag
theorem cx_classOf : mj_cX RL 157 yL_classOf cL_classOf 5 (some .int) hh_classOf 4 := ⟨mj_seg_6 (j := 141) (by decide +kernel) rfl, mj_seg_6 (j := 139) (by decide +kernel) rfl, mj_seg_6 (j := 140) (by decide +kernel) rfl, mj_seg_1 (j := 0) (by decide +kernel) rfl, ⟨by decide, by decide, by decide +kernel⟩, by decide⟩
set_option maxRecDepth 100000 in
set_option maxHeartbeats 4000000 in
theorem lc_classOf {X : mj_XT} {G : mj_GT} {nm : String} {ad : Nat → Nat} {kc ks : Nat} {I : mj_IT} {L : mj_LT} {N : Nat} {xs : Nat → Int32} (hsc : mj_scr X G N xs) (hN : N ≤ 3072) (hlt : X.2.1.stackTraces = false) (F j : Nat) (hj : 6 * j + 6 ≤ N) (hroom : kc + 7 ≤ X.2.2.2.1.cells ∧ ks + 42 ≤ X.2.2.2.1.slots) (o : (Int32 × mj_IT × mj_LT) ⊕ (Nat × mj_IT × mj_LT)) (hc : stX10_classOf F I L (xs (6 * j + 1)) (xs (6 * j + 2)) = some o) (hk : ∀ q, o = .inr q → ok_classOf q.1 = true) (b : Int32) (t : Int32) (I2 I3 : mj_IT) (L2 L3 : mj_LT) (hm : stX11_classOf F (wr_classOf o).2.1 (wr_classOf o).2.2 (xs (6 * j + 1)) (xs (6 * j + 2)) = some (b, I2, L2)) (ht : stX11_thrown F I2 L2 = some (t, I3, L3)) (he : t = (wr_classOf o).1) (hv : (wr_classOf o).1 = 0 → L3 98 0 = b.toInt64) (k : ∀ ad' : Nat → Nat, mj_ag ad ad' → mj_W X G RL nm cL_law 8 51 (some .boolean) mj_P0 mj_S0 98 ad' (kc + 7) (ks + 42) 1617 [(0, .ref 2050), (1, .ref 1), (2, .ref 71), (3, .ref 98), (4, .int (Int32.ofNat (6 * j)))] [] I3 L3) : mj_W X G RL nm cL_law 8 51 (some .boolean) mj_P0 mj_S0 98 ad kc ks 1411 [(0, .ref 2050), (1, .ref 1), (2, .ref 71), (3, .ref 98), (4, .int (Int32.ofNat (6 * j)))] [] I L := by
  have hM1 := csL_classOf X.2.1 G hlt F (xs (6 * j + 1)) (xs (6 * j + 2)) I L o hc hk
  have hM2 := csX11_classOf X.2.1 G F (xs (6 * j + 1)) (xs (6 * j + 2)) _ _ _ hm
  have hM3 := csX11_thrown X.2.1 G F I2 L2 _ ht
  generalize wr_classOf o = w at hM1 hM2 he hv
  obtain ⟨v, I1, L1⟩ := w
  obtain rfl : t = v := he
  refine mj_aload_n 1 dL_law_1411 rfl ?_
  refine mj_aload_n 0 dL_law_1412 rfl ?_
  refine mj_iload 4 dL_law_1413 rfl ?_
  refine mj_iconst (v := 1) dL_law_1415 (by decide +kernel) ?_
  refine mj_iadd dL_law_1416 ?_
  refine mj_sld (6 * j + 1) hsc (mj_ix (i := 6 * j) (t := 1) hN (by omega)) dL_law_1417 ?_
  refine mj_aload_n 0 dL_law_1418 rfl ?_
  refine mj_iload 4 dL_law_1419 rfl ?_
  refine mj_iconst (v := 2) dL_law_1421 (by decide +kernel) ?_
  refine mj_iadd dL_law_1422 ?_
  refine mj_sld (6 * j + 2) hsc (mj_ix (i := 6 * j) (t := 2) hN (by omega)) dL_law_1423 ?_
  refine mj_aload_n 3 dL_law_1424 rfl ?_
  refine mj_callW (st := []) [.ref 1, .int (xs (6 * j + 1)), .int (xs (6 * j + 2)), .ref 98] hM1 cx_classOf (by decide) rfl rfl (by decide) ⟨by omega, by omega⟩ dL_law_1425 rfl rfl (fun r P9 I9 L9 ad9 hag hq => ?_)
  obtain ⟨rfl, rfl, rfl, rfl⟩ := hq
  refine mj_wid (kc' := kc + 7) (ks' := ks + 42) (by omega) (by omega) ?_
  refine mj_istore [(5, .int t), (0, .ref 2050), (1, .ref 1), (2, .ref 71), (3, .ref 98), (4, .int (Int32.ofNat (6 * j)))] dL_law_1428 (by decide) rfl ?_
  refine mj_aload_n 3 dL_law_1430 rfl ?_
  refine mj_aload_n 1 dL_law_1431 rfl ?_
  refine mj_iload 5 dL_law_1432 rfl ?_
  refine mj_iconst (v := 1) dL_law_1434 (by decide +kernel) ?_
  refine mj_iadd dL_law_1435 ?_
  refine mj_sld (6 * j + 1) hsc (mj_ix (i := 6 * j) (t := 1) hN (by omega)) dL_law_1436 ?_
  refine mj_aload_n 1 dL_law_1437 rfl ?_
  refine mj_iload 5 dL_law_1438 rfl ?_
  refine mj_iconst (v := 2) dL_law_1440 (by decide +kernel) ?_
  refine mj_iadd dL_law_1441 ?_
  refine mj_sld (6 * j + 2) hsc (mj_ix (i := 6 * j) (t := 2) hN (by omega)) dL_law_1442 ?_
  refine mj_callVd (I2 := I2) (L2 := L2) (s1 := [.int b]) (st := []) [.int (xs (6 * j + 1)), .int (xs (6 * j + 2))] hM2 rfl rfl cw_L_159 s0_71 (by decide) (by decide) rfl rfl (by decide) ⟨by omega, by omega⟩ dL_law_1443 rfl ?_
  refine mj_istore [(6, .int b), (5, .int t), (0, .ref 2050), (1, .ref 1), (2, .ref 71), (3, .ref 98), (4, .int (Int32.ofNat (6 * j)))] dL_law_1446 (by decide) rfl ?_
  refine mj_aload_n 4 dL_law_1448 rfl ?_
  refine mj_callVd (I2 := I3) (L2 := L3) (s1 := [.int t]) (st := []) [] hM3 rfl rfl cw_L_94 s0_71 (by decide) (by decide) rfl rfl (by decide) ⟨by omega, by omega⟩ dL_law_1449 rfl ?_
  refine mj_iload 1 dL_law_1452 rfl ?_
  refine mj_icmp_eq 1459 dL_law_1454 (by decide) (fun _ => ?_) (fun h => absurd rfl h)
  refine mj_iload 1 dL_law_1459 rfl ?_
  refine mj_if_ne 1476 dL_law_1461 (by decide) (fun h0 => ?_) (fun h0 => ?_)
  · refine mj_goto 1617 dL_law_1476 (by decide) ?_
    refine mj_sub [2, 3, 4, 5, 6] [(0, .ref 2050), (1, .ref 1), (2, .ref 71), (3, .ref 98), (4, .int (Int32.ofNat (6 * j)))] rfl ?_
    exact k ad9 hag
  · refine mj_aload_n 5 dL_law_1464 rfl ?_
    refine mj_iconst (v := 0) dL_law_1465 (by decide +kernel) ?_
    refine mj_lald (i := 0) s0_98 (by decide) (mj_ib_in (by decide +kernel)) dL_law_1466 ?_
    refine mj_iload 0 dL_law_1467 rfl ?_
    refine mj_i2l dL_law_1469 ?_
    refine mj_lc_eq 1476 dL_law_1470 dL_law_1471 (by decide) (fun _ => ?_) (fun h => absurd (hv h0) h)
    refine mj_goto 1617 dL_law_1476 (by decide) ?_
    refine mj_sub [2, 3, 4, 5, 6] [(0, .ref 2050), (1, .ref 1), (2, .ref 71), (3, .ref 98), (4, .int (Int32.ofNat (6 * j)))] rfl ?_
    exact k ad9 hag
theorem cx_run : mj_cX RL 160 yL_run cL_run 4 (some .int) hh_run 3 := ⟨mj_seg_6 (j := 152) (by decide +kernel) rfl, mj_seg_6 (j := 150) (by decide +kernel) rfl, mj_seg_6 (j := 151) (by decide +kernel) rfl, mj_seg_1 (j := 0) (by decide +kernel) rfl, ⟨by decide, by decide, by decide +kernel⟩, by decide⟩
set_option maxRecDepth 100000 in
set_option maxHeartbeats 4000000 in
theorem lc_run {X : mj_XT} {G : mj_GT} {nm : String} {ad : Nat → Nat} {kc ks : Nat} {I : mj_IT} {L : mj_LT} {N : Nat} {xs : Nat → Int32} (hsc : mj_scr X G N xs) (hN : N ≤ 3072) (hlt : X.2.1.stackTraces = false) (F j : Nat) (hj : 6 * j + 6 ≤ N) (hroom : kc + 7 ≤ X.2.2.2.1.cells ∧ ks + 42 ≤ X.2.2.2.1.slots) (o : (Int32 × mj_IT × mj_LT) ⊕ (Nat × mj_IT × mj_LT)) (hc : stX10_run F I L (xs (6 * j + 1)) = some o) (hk : ∀ q, o = .inr q → ok_run q.1 = true) (b : Int32) (t : Int32) (I2 I3 : mj_IT) (L2 L3 : mj_LT) (hm : stX11_run F (wr_run o).2.1 (wr_run o).2.2 (xs (6 * j + 1)) = some (b, I2, L2)) (ht : stX11_thrown F I2 L2 = some (t, I3, L3)) (he : t = (wr_run o).1) (hv : (wr_run o).1 = 0 → L3 98 0 = b.toInt64) (k : ∀ ad' : Nat → Nat, mj_ag ad ad' → mj_W X G RL nm cL_law 8 51 (some .boolean) mj_P0 mj_S0 98 ad' (kc + 7) (ks + 42) 1617 [(0, .ref 2050), (1, .ref 1), (2, .ref 71), (3, .ref 98), (4, .int (Int32.ofNat (6 * j)))] [] I3 L3) : mj_W X G RL nm cL_law 8 51 (some .boolean) mj_P0 mj_S0 98 ad kc ks 1479 [(0, .ref 2050), (1, .ref 1), (2, .ref 71), (3, .ref 98), (4, .int (Int32.ofNat (6 * j)))] [] I L := by
  have hM1 := csL_run X.2.1 G hlt F (xs (6 * j + 1)) I L o hc hk
  have hM2 := csX11_run X.2.1 G F (xs (6 * j + 1)) _ _ _ hm
  have hM3 := csX11_thrown X.2.1 G F I2 L2 _ ht
  generalize wr_run o = w at hM1 hM2 he hv
  obtain ⟨v, I1, L1⟩ := w
  obtain rfl : t = v := he
  refine mj_aload_n 1 dL_law_1479 rfl ?_
  refine mj_aload_n 0 dL_law_1480 rfl ?_
  refine mj_iload 4 dL_law_1481 rfl ?_
  refine mj_iconst (v := 1) dL_law_1483 (by decide +kernel) ?_
  refine mj_iadd dL_law_1484 ?_
  refine mj_sld (6 * j + 1) hsc (mj_ix (i := 6 * j) (t := 1) hN (by omega)) dL_law_1485 ?_
  refine mj_aload_n 3 dL_law_1486 rfl ?_
  refine mj_callW (st := []) [.ref 1, .int (xs (6 * j + 1)), .ref 98] hM1 cx_run (by decide) rfl rfl (by decide) ⟨by omega, by omega⟩ dL_law_1487 rfl rfl (fun r P9 I9 L9 ad9 hag hq => ?_)
  obtain ⟨rfl, rfl, rfl, rfl⟩ := hq
  refine mj_wid (kc' := kc + 7) (ks' := ks + 42) (by omega) (by omega) ?_
  refine mj_istore [(5, .int t), (0, .ref 2050), (1, .ref 1), (2, .ref 71), (3, .ref 98), (4, .int (Int32.ofNat (6 * j)))] dL_law_1490 (by decide) rfl ?_
  refine mj_aload_n 3 dL_law_1492 rfl ?_
  refine mj_aload_n 1 dL_law_1493 rfl ?_
  refine mj_iload 5 dL_law_1494 rfl ?_
  refine mj_iconst (v := 1) dL_law_1496 (by decide +kernel) ?_
  refine mj_iadd dL_law_1497 ?_
  refine mj_sld (6 * j + 1) hsc (mj_ix (i := 6 * j) (t := 1) hN (by omega)) dL_law_1498 ?_
  refine mj_callVd (I2 := I2) (L2 := L2) (s1 := [.int b]) (st := []) [.int (xs (6 * j + 1))] hM2 rfl rfl cw_L_162 s0_71 (by decide) (by decide) rfl rfl (by decide) ⟨by omega, by omega⟩ dL_law_1499 rfl ?_
  refine mj_istore [(6, .int b), (5, .int t), (0, .ref 2050), (1, .ref 1), (2, .ref 71), (3, .ref 98), (4, .int (Int32.ofNat (6 * j)))] dL_law_1502 (by decide) rfl ?_
  refine mj_aload_n 4 dL_law_1504 rfl ?_
  refine mj_callVd (I2 := I3) (L2 := L3) (s1 := [.int t]) (st := []) [] hM3 rfl rfl cw_L_94 s0_71 (by decide) (by decide) rfl rfl (by decide) ⟨by omega, by omega⟩ dL_law_1505 rfl ?_
  refine mj_iload 1 dL_law_1508 rfl ?_
  refine mj_icmp_eq 1515 dL_law_1510 (by decide) (fun _ => ?_) (fun h => absurd rfl h)
  refine mj_iload 1 dL_law_1515 rfl ?_
  refine mj_if_ne 1532 dL_law_1517 (by decide) (fun h0 => ?_) (fun h0 => ?_)
  · refine mj_goto 1617 dL_law_1532 (by decide) ?_
    refine mj_sub [2, 3, 4, 5, 6] [(0, .ref 2050), (1, .ref 1), (2, .ref 71), (3, .ref 98), (4, .int (Int32.ofNat (6 * j)))] rfl ?_
    exact k ad9 hag
  · refine mj_aload_n 5 dL_law_1520 rfl ?_
    refine mj_iconst (v := 0) dL_law_1521 (by decide +kernel) ?_
    refine mj_lald (i := 0) s0_98 (by decide) (mj_ib_in (by decide +kernel)) dL_law_1522 ?_
    refine mj_iload 0 dL_law_1523 rfl ?_
    refine mj_i2l dL_law_1525 ?_
    refine mj_lc_eq 1532 dL_law_1526 dL_law_1527 (by decide) (fun _ => ?_) (fun h => absurd (hv h0) h)
    refine mj_goto 1617 dL_law_1532 (by decide) ?_
    refine mj_sub [2, 3, 4, 5, 6] [(0, .ref 2050), (1, .ref 1), (2, .ref 71), (3, .ref 98), (4, .int (Int32.ofNat (6 * j)))] rfl ?_
    exact k ad9 hag
theorem cx_worth : mj_cX RL 163 yL_worth cL_worth 3 (some .int) hh_worth 2 := ⟨mj_seg_6 (j := 187) (by decide +kernel) rfl, mj_seg_6 (j := 185) (by decide +kernel) rfl, mj_seg_6 (j := 186) (by decide +kernel) rfl, mj_seg_1 (j := 0) (by decide +kernel) rfl, ⟨by decide, by decide, by decide +kernel⟩, by decide⟩
set_option maxRecDepth 100000 in
set_option maxHeartbeats 4000000 in
theorem lc_worth {X : mj_XT} {G : mj_GT} {nm : String} {ad : Nat → Nat} {kc ks : Nat} {I : mj_IT} {L : mj_LT} {N : Nat} {xs : Nat → Int32} (hsc : mj_scr X G N xs) (hN : N ≤ 3072) (hlt : X.2.1.stackTraces = false) (F j : Nat) (hj : 6 * j + 6 ≤ N) (hroom : kc + 7 ≤ X.2.2.2.1.cells ∧ ks + 42 ≤ X.2.2.2.1.slots) (o : (Int64 × mj_IT × mj_LT) ⊕ (Nat × mj_IT × mj_LT)) (hc : stX10_worth F I L = some o) (hk : ∀ q, o = .inr q → ok_worth q.1 = true) (b : Int64) (t : Int32) (I2 I3 : mj_IT) (L2 L3 : mj_LT) (hm : stX11_worth F (wr_worth o).2.1 (wr_worth o).2.2 = some (b, I2, L2)) (ht : stX11_thrown F I2 L2 = some (t, I3, L3)) (he : t = (wr_worth o).1) (hv : (wr_worth o).1 = 0 → L3 98 0 = b) (k : ∀ ad' : Nat → Nat, mj_ag ad ad' → mj_W X G RL nm cL_law 8 51 (some .boolean) mj_P0 mj_S0 98 ad' (kc + 7) (ks + 42) 1617 [(0, .ref 2050), (1, .ref 1), (2, .ref 71), (3, .ref 98), (4, .int (Int32.ofNat (6 * j)))] [] I3 L3) : mj_W X G RL nm cL_law 8 51 (some .boolean) mj_P0 mj_S0 98 ad kc ks 1535 [(0, .ref 2050), (1, .ref 1), (2, .ref 71), (3, .ref 98), (4, .int (Int32.ofNat (6 * j)))] [] I L := by
  have hM1 := csL_worth X.2.1 G hlt F I L o hc hk
  have hM2 := csX11_worth X.2.1 G F _ _ _ hm
  have hM3 := csX11_thrown X.2.1 G F I2 L2 _ ht
  generalize wr_worth o = w at hM1 hM2 he hv
  obtain ⟨v, I1, L1⟩ := w
  obtain rfl : t = v := he
  refine mj_aload_n 1 dL_law_1535 rfl ?_
  refine mj_aload_n 3 dL_law_1536 rfl ?_
  refine mj_callW (st := []) [.ref 1, .ref 98] hM1 cx_worth (by decide) rfl rfl (by decide) ⟨by omega, by omega⟩ dL_law_1537 rfl rfl (fun r P9 I9 L9 ad9 hag hq => ?_)
  obtain ⟨rfl, rfl, rfl, rfl⟩ := hq
  refine mj_wid (kc' := kc + 7) (ks' := ks + 42) (by omega) (by omega) ?_
  refine mj_istore [(5, .int t), (0, .ref 2050), (1, .ref 1), (2, .ref 71), (3, .ref 98), (4, .int (Int32.ofNat (6 * j)))] dL_law_1540 (by decide) rfl ?_
  refine mj_aload_n 3 dL_law_1542 rfl ?_
  refine mj_callVd (I2 := I2) (L2 := L2) (s1 := [.long b]) (st := []) [] hM2 rfl rfl cw_L_166 s0_71 (by decide) (by decide) rfl rfl (by decide) ⟨by omega, by omega⟩ dL_law_1543 rfl ?_
  refine mj_lstore [(6, .long b), (5, .int t), (0, .ref 2050), (1, .ref 1), (2, .ref 71), (3, .ref 98), (4, .int (Int32.ofNat (6 * j)))] dL_law_1546 (by decide) rfl ?_
  refine mj_aload_n 4 dL_law_1548 rfl ?_
  refine mj_callVd (I2 := I3) (L2 := L3) (s1 := [.int t]) (st := []) [] hM3 rfl rfl cw_L_94 s0_71 (by decide) (by decide) rfl rfl (by decide) ⟨by omega, by omega⟩ dL_law_1549 rfl ?_
  refine mj_iload 1 dL_law_1552 rfl ?_
  refine mj_icmp_eq 1559 dL_law_1554 (by decide) (fun _ => ?_) (fun h => absurd rfl h)
  refine mj_iload 1 dL_law_1559 rfl ?_
  refine mj_if_ne 1575 dL_law_1561 (by decide) (fun h0 => ?_) (fun h0 => ?_)
  · refine mj_goto 1617 dL_law_1575 (by decide) ?_
    refine mj_sub [2, 3, 4, 5, 6] [(0, .ref 2050), (1, .ref 1), (2, .ref 71), (3, .ref 98), (4, .int (Int32.ofNat (6 * j)))] rfl ?_
    exact k ad9 hag
  · refine mj_aload_n 5 dL_law_1564 rfl ?_
    refine mj_iconst (v := 0) dL_law_1565 (by decide +kernel) ?_
    refine mj_lald (i := 0) s0_98 (by decide) (mj_ib_in (by decide +kernel)) dL_law_1566 ?_
    refine mj_lload 0 dL_law_1567 rfl ?_
    refine mj_lc_eq 1575 dL_law_1569 dL_law_1570 (by decide) (fun _ => ?_) (fun h => absurd (hv h0) h)
    refine mj_goto 1617 dL_law_1575 (by decide) ?_
    refine mj_sub [2, 3, 4, 5, 6] [(0, .ref 2050), (1, .ref 1), (2, .ref 71), (3, .ref 98), (4, .int (Int32.ofNat (6 * j)))] rfl ?_
    exact k ad9 hag
set_option maxRecDepth 100000 in
set_option maxHeartbeats 4000000 in
theorem lc_print {X : mj_XT} {G : mj_GT} {nm : String} {ad : Nat → Nat} {kc ks : Nat} {I : mj_IT} {L : mj_LT} {N : Nat} {xs : Nat → Int32} (hsc : mj_scr X G N xs) (hN : N ≤ 3072) (hlt : X.2.1.stackTraces = false) (F j : Nat) (hj : 6 * j + 6 ≤ N) (hroom : kc + 7 ≤ X.2.2.2.1.cells ∧ ks + 42 ≤ X.2.2.2.1.slots) (v : Int64) (I1 I2 : mj_IT) (L1 L2 : mj_LT) (hc : stX10_print F I L = some (v, I1, L1)) (hm : stX11_print F I1 L1 = some (v, I2, L2)) (k : ∀ ad' : Nat → Nat, mj_ag ad ad' → mj_W X G RL nm cL_law 8 51 (some .boolean) mj_P0 mj_S0 98 ad' (kc + 7) (ks + 42) 1617 [(0, .ref 2050), (1, .ref 1), (2, .ref 71), (3, .ref 98), (4, .int (Int32.ofNat (6 * j)))] [] I2 L2) : mj_W X G RL nm cL_law 8 51 (some .boolean) mj_P0 mj_S0 98 ad kc ks 1578 [(0, .ref 2050), (1, .ref 1), (2, .ref 71), (3, .ref 98), (4, .int (Int32.ofNat (6 * j)))] [] I L := by
  have hM1 := csX10_print X.2.1 G F I L _ hc
  have hM2 := csX11_print X.2.1 G F I1 L1 _ hm
  refine mj_aload_n 1 dL_law_1578 rfl ?_
  refine mj_callVd (I2 := I1) (L2 := L1) (s1 := [.long v]) (st := []) [] hM1 rfl rfl cw_L_167 s0_1 (by decide) (by decide) rfl rfl (by decide) ⟨by omega, by omega⟩ dL_law_1579 rfl ?_
  refine mj_aload_n 2 dL_law_1582 rfl ?_
  refine mj_callVd (I2 := I2) (L2 := L2) (s1 := [.long v, .long v]) (st := [.long v]) [] hM2 rfl rfl cw_L_170 s0_71 (by decide) (by decide) rfl rfl (Nat.le_of_ble_eq_true rfl) ⟨by omega, by omega⟩ dL_law_1583 rfl ?_
  refine mj_lc_eq 1617 dL_law_1586 dL_law_1587 (by decide) (fun _ => ?_) (fun h => absurd rfl h)
  exact mj_wid (by omega) (by omega) (k ad mj_ag.rf)
set_option maxRecDepth 100000 in
set_option maxHeartbeats 4000000 in
theorem lc_status {X : mj_XT} {G : mj_GT} {nm : String} {ad : Nat → Nat} {kc ks : Nat} {I : mj_IT} {L : mj_LT} {N : Nat} {xs : Nat → Int32} (hsc : mj_scr X G N xs) (hN : N ≤ 3072) (hlt : X.2.1.stackTraces = false) (F j : Nat) (hj : 6 * j + 6 ≤ N) (hroom : kc + 7 ≤ X.2.2.2.1.cells ∧ ks + 42 ≤ X.2.2.2.1.slots) (v : Int32) (I1 I2 : mj_IT) (L1 L2 : mj_LT) (hc : stX10_status F I L (xs (6 * j + 1)) = some (v, I1, L1)) (hm : stX11_status F I1 L1 (xs (6 * j + 1)) = some (v, I2, L2)) (k : ∀ ad' : Nat → Nat, mj_ag ad ad' → mj_W X G RL nm cL_law 8 51 (some .boolean) mj_P0 mj_S0 98 ad' (kc + 7) (ks + 42) 1617 [(0, .ref 2050), (1, .ref 1), (2, .ref 71), (3, .ref 98), (4, .int (Int32.ofNat (6 * j)))] [] I2 L2) : mj_W X G RL nm cL_law 8 51 (some .boolean) mj_P0 mj_S0 98 ad kc ks 1592 [(0, .ref 2050), (1, .ref 1), (2, .ref 71), (3, .ref 98), (4, .int (Int32.ofNat (6 * j)))] [] I L := by
  have hM1 := csX10_status X.2.1 G F (xs (6 * j + 1)) I L _ hc
  have hM2 := csX11_status X.2.1 G F (xs (6 * j + 1)) I1 L1 _ hm
  refine mj_aload_n 1 dL_law_1592 rfl ?_
  refine mj_aload_n 0 dL_law_1593 rfl ?_
  refine mj_iload 4 dL_law_1594 rfl ?_
  refine mj_iconst (v := 1) dL_law_1596 (by decide +kernel) ?_
  refine mj_iadd dL_law_1597 ?_
  refine mj_sld (6 * j + 1) hsc (mj_ix (i := 6 * j) (t := 1) hN (by omega)) dL_law_1598 ?_
  refine mj_callVd (I2 := I1) (L2 := L1) (s1 := [.int v]) (st := []) [.int (xs (6 * j + 1))] hM1 rfl rfl cw_L_171 s0_1 (by decide) (by decide) rfl rfl (by decide) ⟨by omega, by omega⟩ dL_law_1599 rfl ?_
  refine mj_aload_n 2 dL_law_1602 rfl ?_
  refine mj_aload_n 0 dL_law_1603 rfl ?_
  refine mj_iload 4 dL_law_1604 rfl ?_
  refine mj_iconst (v := 1) dL_law_1606 (by decide +kernel) ?_
  refine mj_iadd dL_law_1607 ?_
  refine mj_sld (6 * j + 1) hsc (mj_ix (i := 6 * j) (t := 1) hN (by omega)) dL_law_1608 ?_
  refine mj_callVd (I2 := I2) (L2 := L2) (s1 := [.int v, .int v]) (st := [.int v]) [.int (xs (6 * j + 1))] hM2 rfl rfl cw_L_174 s0_71 (by decide) (by decide) rfl rfl (Nat.le_of_ble_eq_true rfl) ⟨by omega, by omega⟩ dL_law_1609 rfl ?_
  refine mj_icmp_eq 1617 dL_law_1612 (by decide) (fun _ => ?_) (fun h => absurd rfl h)
  exact mj_wid (by omega) (by omega) (k ad mj_ag.rf)
