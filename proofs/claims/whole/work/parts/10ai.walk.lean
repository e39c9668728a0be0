-- X8_readStatement
def jnX8_readStatement_127 (F : Nat) (r3 : Nat → Int32) (x1 : Int32) (x2 : Int32) (r2 : Nat → Int32) (r4 : Nat → Int32) (r5 : Nat → Int32) (r6 : Nat → Int32) (r7 : Nat → Int32) (r8 : Nat → Int32) (r9 : Nat → Int32) (r10 : Nat → Int32) (r11 : Nat → Int32) (r12 : Nat → Int32) (r13 : Nat → Int32) (r14 : Nat → Int32) (r15 : Nat → Int32) (r16 : Nat → Int32) (r17 : Nat → Int32) : Option ((Nat → Int32) × (Nat → Int32) × (Nat → Int32) × (Nat → Int32) × (Nat → Int32) × (Nat → Int32) × (Nat → Int32) × (Nat → Int32) × (Nat → Int32) × (Nat → Int32) × (Nat → Int32) × (Nat → Int32) × (Nat → Int32) × (Nat → Int32) × (Nat → Int32)) := (if x1 = (2 : Int32) then (fnX8_openBlock F r2 r3 r15 r16 r17 x2 (0 : Int32)).bind (fun o2 => some (o2.1, r4, r5, r6, r7, r8, r9, r10, r11, r12, r13, r14, o2.2.1, o2.2.2.1, o2.2.2.2)) else (if x1 = (3 : Int32) then (fnX8_openBlock F r2 r3 r15 r16 r17 x2 (0 : Int32)).bind (fun o4 => some (o4.1, r4, r5, r6, r7, r8, r9, r10, r11, r12, r13, r14, o4.2.1, o4.2.2.1, o4.2.2.2)) else (if x1 = (4 : Int32) then (fnX8_openBlock F r2 r3 r15 r16 r17 x2 (0 : Int32)).bind (fun o7 => some (o7.1, r4, r5, r6, r7, r8, r9, r10, r11, r12, r13, r14, o7.2.1, o7.2.2.1, o7.2.2.2)) else (fnX8_readSign F r2 r3 (59 : Int32)).bind (fun o6 => some (o6, r4, r5, r6, r7, r8, r9, r10, r11, r12, r13, r14, r15, r16, r17)))))
def fnX8_readStatement (F : Nat) (r2 : Nat → Int32) (r3 : Nat → Int32) (r4 : Nat → Int32) (r5 : Nat → Int32) (r6 : Nat → Int32) (r7 : Nat → Int32) (r8 : Nat → Int32) (r9 : Nat → Int32) (r10 : Nat → Int32) (r11 : Nat → Int32) (r12 : Nat → Int32) (r13 : Nat → Int32) (r14 : Nat → Int32) (r15 : Nat → Int32) (r16 : Nat → Int32) (r17 : Nat → Int32) : Option ((Nat → Int32) × (Nat → Int32) × (Nat → Int32) × (Nat → Int32) × (Nat → Int32) × (Nat → Int32) × (Nat → Int32) × (Nat → Int32) × (Nat → Int32) × (Nat → Int32) × (Nat → Int32) × (Nat → Int32) × (Nat → Int32) × (Nat → Int32) × (Nat → Int32)) := (fnX8_kindHere F r2 r3).bind (fun o8 => (if o8 = (-1 : Int32) then (fnX8_fail F r2 (1 : Int32)).bind (fun o26 => some (o26, r4, r5, r6, r7, r8, r9, r10, r11, r12, r13, r14, r15, r16, r17)) else (fnX7_isFull_4 F r4).bind (fun o10 => (if o10 = 0 then (if mj_ib (r2 10) 7 = true then (if mj_ib (r2 10) 7 = true then (if mj_ib (r2 10) 7 = true then (fnX7_begin_4 F r4 r5 r6 r7 r8 r9 r10 r11 r12 r13 r14 o8 (r15 ((r2 10).toNatClampNeg)) (r16 ((r2 10).toNatClampNeg)) (r17 ((r2 10).toNatClampNeg))).bind (fun o15 => (if mj_ib (r2 10) 7 = true then (if o8 = 0 then (fnX8_readVariable F r2 r3).bind (fun o20 => (if mj_ib o15.1 40 = true then (fnX8_readSign F o20.2 r3 (61 : Int32)).bind (fun o22 => (fnX8_readSum F o22 r3).bind (fun o23 => (if mj_ib o15.1 40 = true then jnX8_readStatement_127 F r3 o8 o15.1 o23.2 o15.2.1 o15.2.2.1 (upd o15.2.2.2.1 o15.1.toNatClampNeg o20.1) o15.2.2.2.2.1 (upd o15.2.2.2.2.2.1 o15.1.toNatClampNeg o23.1) o15.2.2.2.2.2.2.1 o15.2.2.2.2.2.2.2.1 o15.2.2.2.2.2.2.2.2.1 o15.2.2.2.2.2.2.2.2.2.1 o15.2.2.2.2.2.2.2.2.2.2.1 o15.2.2.2.2.2.2.2.2.2.2.2 r15 (upd r16 ((r2 10).toNatClampNeg) o15.1) r17 else none))) else none)) else (fnX8_goOn F r2 r3).bind (fun o18 => (fnX8_readBehindWord F o18 r3 o15.2.2.2.1 o15.2.2.2.2.1 o15.2.2.2.2.2.1 o15.2.2.2.2.2.2.1 o15.2.2.2.2.2.2.2.1 o15.1 o8).bind (fun o19 => jnX8_readStatement_127 F r3 o8 o15.1 o19.1 o15.2.1 o15.2.2.1 o19.2.1 o19.2.2.1 o19.2.2.2.1 o19.2.2.2.2.1 o19.2.2.2.2.2 o15.2.2.2.2.2.2.2.2.1 o15.2.2.2.2.2.2.2.2.2.1 o15.2.2.2.2.2.2.2.2.2.2.1 o15.2.2.2.2.2.2.2.2.2.2.2 r15 (upd r16 ((r2 10).toNatClampNeg) o15.1) r17))) else none)) else none) else none) else none) else (fnX8_fail F r2 (3 : Int32)).bind (fun o25 => some (o25, r4, r5, r6, r7, r8, r9, r10, r11, r12, r13, r14, r15, r16, r17))))))
set_option maxRecDepth 100000 in
set_option maxHeartbeats 4000000 in
theorem jtX8_readStatement_127 {X : mj_XT} {l : Launch} {G : mj_GT} {ad : Nat → Nat} {Qn : Option Value → mj_IT → mj_LT → Prop} (hR : mj_R X l G mj_P0 mj_S0 98 ad 0 0 Qn) (F : Nat) (I : mj_IT) (L : mj_LT) (r2 : Nat → Int32) (r3 : Nat → Int32) (r4 : Nat → Int32) (r5 : Nat → Int32) (r6 : Nat → Int32) (r7 : Nat → Int32) (r8 : Nat → Int32) (r9 : Nat → Int32) (r10 : Nat → Int32) (r11 : Nat → Int32) (r12 : Nat → Int32) (r13 : Nat → Int32) (r14 : Nat → Int32) (r15 : Nat → Int32) (r16 : Nat → Int32) (r17 : Nat → Int32) (x1 : Int32) (x2 : Int32) (o : ((Nat → Int32) × (Nat → Int32) × (Nat → Int32) × (Nat → Int32) × (Nat → Int32) × (Nat → Int32) × (Nat → Int32) × (Nat → Int32) × (Nat → Int32) × (Nat → Int32) × (Nat → Int32) × (Nat → Int32) × (Nat → Int32) × (Nat → Int32) × (Nat → Int32))) (hf : jnX8_readStatement_127 F r3 x1 x2 r2 r4 r5 r6 r7 r8 r9 r10 r11 r12 r13 r14 r15 r16 r17 = some o) (hq : (mj_u2 (fun r2 => (mj_u2 (fun r4 => (mj_u2 (fun r5 => (mj_u2 (fun r6 => (mj_u2 (fun r7 => (mj_u2 (fun r8 => (mj_u2 (fun r9 => (mj_u2 (fun r10 => (mj_u2 (fun r11 => (mj_u2 (fun r12 => (mj_u2 (fun r13 => (mj_u2 (fun r14 => (mj_u2 (fun r15 => (mj_u2 (fun r16 r17 => Qn none (mj_rows I [(2, r2), (3, r3), (4, r4), (5, r5), (6, r6), (7, r7), (8, r8), (9, r9), (10, r10), (11, r11), (12, r12), (13, r13), (14, r14), (15, r15), (16, r16), (17, r17)]) L)))))))))))))))))))))))))))) o) : mj_W X G RX8 "readStatement" cX8_readStatement 3 7 none mj_P0 mj_S0 98 ad 0 0 127 [(0, .ref 2), (1, .int x1), (2, .int x2)] [] (mj_rows I [(2, r2), (3, r3), (4, r4), (5, r5), (6, r6), (7, r7), (8, r8), (9, r9), (10, r10), (11, r11), (12, r12), (13, r13), (14, r14), (15, r15), (16, r16), (17, r17)]) L := by
  unfold jnX8_readStatement_127 at hf
  refine mj_iload_n 1 dX8_readStatement_127 rfl ?_
  refine mj_iconst dX8_readStatement_128 kc_iconst_2 ?_
  refine mj_icmp_eq 142 dX8_readStatement_129 (by decide) (fun c1 => ?_) (fun c1 => ?_)
  · replace hf := mj_pos c1 hf
    refine mj_aload_n 0 dX8_readStatement_142 rfl ?_
    refine mj_iload_n 2 dX8_readStatement_143 rfl ?_
    refine mj_iconst dX8_readStatement_144 kc_iconst_0 ?_
    obtain ⟨o2, ho2, hf⟩ := mj_bd hf
    refine mj_callVd (I2 := (mj_rows I [(2, o2.1), (3, r3), (4, r4), (5, r5), (6, r6), (7, r7), (8, r8), (9, r9), (10, r10), (11, r11), (12, r12), (13, r13), (14, r14), (15, o2.2.1), (16, o2.2.2.1), (17, o2.2.2.2)])) (L2 := L) (s1 := []) (st := []) [.int x2, .int (0 : Int32)] (cmX8_openBlock X.2.1 G F x2 (0 : Int32) _ _ r2 r3 r15 r16 r17 rfl rfl rfl rfl rfl o2 ho2) (mj_rr rfl) rfl cw_X8_147 s0_2 a0_2 (by decide) rfl rfl (Nat.le_of_ble_eq_true rfl) ⟨Nat.zero_le _, Nat.zero_le _⟩ dX8_readStatement_145 rfl ?_
    refine mj_goto 157 dX8_readStatement_148 (by decide) ?_
    obtain rfl := Option.some.inj hf
    have hZ := hq
    replace hZ := mj_u2p hZ
    replace hZ := mj_u2p hZ
    replace hZ := mj_u2p hZ
    replace hZ := mj_u2p hZ
    replace hZ := mj_u2p hZ
    replace hZ := mj_u2p hZ
    replace hZ := mj_u2p hZ
    replace hZ := mj_u2p hZ
    replace hZ := mj_u2p hZ
    replace hZ := mj_u2p hZ
    replace hZ := mj_u2p hZ
    replace hZ := mj_u2p hZ
    replace hZ := mj_u2p hZ
    replace hZ := mj_u2p hZ
    exact mj_vret hR ⟨Nat.le_refl _, Nat.le_refl _⟩ rfl dX8_readStatement_157 hZ
  · replace hf := mj_neg c1 hf
    refine mj_iload_n 1 dX8_readStatement_132 rfl ?_
    refine mj_iconst dX8_readStatement_133 kc_iconst_3 ?_
    refine mj_icmp_eq 142 dX8_readStatement_134 (by decide) (fun c3 => ?_) (fun c3 => ?_)
    · replace hf := mj_pos c3 hf
      refine mj_aload_n 0 dX8_readStatement_142 rfl ?_
      refine mj_iload_n 2 dX8_readStatement_143 rfl ?_
      refine mj_iconst dX8_readStatement_144 kc_iconst_0 ?_
      obtain ⟨o4, ho4, hf⟩ := mj_bd hf
      refine mj_callVd (I2 := (mj_rows I [(2, o4.1), (3, r3), (4, r4), (5, r5), (6, r6), (7, r7), (8, r8), (9, r9), (10, r10), (11, r11), (12, r12), (13, r13), (14, r14), (15, o4.2.1), (16, o4.2.2.1), (17, o4.2.2.2)])) (L2 := L) (s1 := []) (st := []) [.int x2, .int (0 : Int32)] (cmX8_openBlock X.2.1 G F x2 (0 : Int32) _ _ r2 r3 r15 r16 r17 rfl rfl rfl rfl rfl o4 ho4) (mj_rr rfl) rfl cw_X8_147 s0_2 a0_2 (by decide) rfl rfl (Nat.le_of_ble_eq_true rfl) ⟨Nat.zero_le _, Nat.zero_le _⟩ dX8_readStatement_145 rfl ?_
      refine mj_goto 157 dX8_readStatement_148 (by decide) ?_
      obtain rfl := Option.some.inj hf
      have hZ := hq
      replace hZ := mj_u2p hZ
      replace hZ := mj_u2p hZ
      replace hZ := mj_u2p hZ
      replace hZ := mj_u2p hZ
      replace hZ := mj_u2p hZ
      replace hZ := mj_u2p hZ
      replace hZ := mj_u2p hZ
      replace hZ := mj_u2p hZ
      replace hZ := mj_u2p hZ
      replace hZ := mj_u2p hZ
      replace hZ := mj_u2p hZ
      replace hZ := mj_u2p hZ
      replace hZ := mj_u2p hZ
      replace hZ := mj_u2p hZ
      exact mj_vret hR ⟨Nat.le_refl _, Nat.le_refl _⟩ rfl dX8_readStatement_157 hZ
    · replace hf := mj_neg c3 hf
      refine mj_iload_n 1 dX8_readStatement_137 rfl ?_
      refine mj_iconst dX8_readStatement_138 kc_iconst_4 ?_
      refine mj_icmp_ne 151 dX8_readStatement_139 (by decide) (fun c5 => ?_) (fun c5 => ?_)
      · replace hf := mj_neg c5 hf
        refine mj_aload_n 0 dX8_readStatement_151 rfl ?_
        refine mj_bipush dX8_readStatement_152 kc_bipush_59 ?_
        obtain ⟨o6, ho6, hf⟩ := mj_bd hf
        refine mj_callVd (I2 := (mj_rows I [(2, o6), (3, r3), (4, r4), (5, r5), (6, r6), (7, r7), (8, r8), (9, r9), (10, r10), (11, r11), (12, r12), (13, r13), (14, r14), (15, r15), (16, r16), (17, r17)])) (L2 := L) (s1 := []) (st := []) [.int (59 : Int32)] (cmX8_readSign X.2.1 G F (59 : Int32) _ _ r2 r3 rfl rfl o6 ho6) (mj_rr rfl) rfl cw_X8_134 s0_2 a0_2 (by decide) rfl rfl (Nat.le_of_ble_eq_true rfl) ⟨Nat.zero_le _, Nat.zero_le _⟩ dX8_readStatement_154 rfl ?_
        obtain rfl := Option.some.inj hf
        have hZ := hq
        replace hZ := mj_u2p hZ
        replace hZ := mj_u2p hZ
        replace hZ := mj_u2p hZ
        replace hZ := mj_u2p hZ
        replace hZ := mj_u2p hZ
        replace hZ := mj_u2p hZ
        replace hZ := mj_u2p hZ
        replace hZ := mj_u2p hZ
        replace hZ := mj_u2p hZ
        replace hZ := mj_u2p hZ
        replace hZ := mj_u2p hZ
        replace hZ := mj_u2p hZ
        replace hZ := mj_u2p hZ
        replace hZ := mj_u2p hZ
        exact mj_vret hR ⟨Nat.le_refl _, Nat.le_refl _⟩ rfl dX8_readStatement_157 hZ
      · replace hf := mj_pos c5 hf
        refine mj_aload_n 0 dX8_readStatement_142 rfl ?_
        refine mj_iload_n 2 dX8_readStatement_143 rfl ?_
        refine mj_iconst dX8_readStatement_144 kc_iconst_0 ?_
        obtain ⟨o7, ho7, hf⟩ := mj_bd hf
        refine mj_callVd (I2 := (mj_rows I [(2, o7.1), (3, r3), (4, r4), (5, r5), (6, r6), (7, r7), (8, r8), (9, r9), (10, r10), (11, r11), (12, r12), (13, r13), (14, r14), (15, o7.2.1), (16, o7.2.2.1), (17, o7.2.2.2)])) (L2 := L) (s1 := []) (st := []) [.int x2, .int (0 : Int32)] (cmX8_openBlock X.2.1 G F x2 (0 : Int32) _ _ r2 r3 r15 r16 r17 rfl rfl rfl rfl rfl o7 ho7) (mj_rr rfl) rfl cw_X8_147 s0_2 a0_2 (by decide) rfl rfl (Nat.le_of_ble_eq_true rfl) ⟨Nat.zero_le _, Nat.zero_le _⟩ dX8_readStatement_145 rfl ?_
        refine mj_goto 157 dX8_readStatement_148 (by decide) ?_
        obtain rfl := Option.some.inj hf
        have hZ := hq
        replace hZ := mj_u2p hZ
        replace hZ := mj_u2p hZ
        replace hZ := mj_u2p hZ
        replace hZ := mj_u2p hZ
        replace hZ := mj_u2p hZ
        replace hZ := mj_u2p hZ
        replace hZ := mj_u2p hZ
        replace hZ := mj_u2p hZ
        replace hZ := mj_u2p hZ
        replace hZ := mj_u2p hZ
        replace hZ := mj_u2p hZ
        replace hZ := mj_u2p hZ
        replace hZ := mj_u2p hZ
        replace hZ := mj_u2p hZ
        exact mj_vret hR ⟨Nat.le_refl _, Nat.le_refl _⟩ rfl dX8_readStatement_157 hZ
set_option maxRecDepth 100000 in
set_option maxHeartbeats 4000000 in
theorem mtX8_readStatement {X : mj_XT} {l : Launch} {G : mj_GT} {ad : Nat → Nat} {Qn : Option Value → mj_IT → mj_LT → Prop} (hR : mj_R X l G mj_P0 mj_S0 98 ad 0 0 Qn) (F : Nat) (I : mj_IT) (L : mj_LT) (r2 : Nat → Int32) (r3 : Nat → Int32) (r4 : Nat → Int32) (r5 : Nat → Int32) (r6 : Nat → Int32) (r7 : Nat → Int32) (r8 : Nat → Int32) (r9 : Nat → Int32) (r10 : Nat → Int32) (r11 : Nat → Int32) (r12 : Nat → Int32) (r13 : Nat → Int32) (r14 : Nat → Int32) (r15 : Nat → Int32) (r16 : Nat → Int32) (r17 : Nat → Int32) (o : ((Nat → Int32) × (Nat → Int32) × (Nat → Int32) × (Nat → Int32) × (Nat → Int32) × (Nat → Int32) × (Nat → Int32) × (Nat → Int32) × (Nat → Int32) × (Nat → Int32) × (Nat → Int32) × (Nat → Int32) × (Nat → Int32) × (Nat → Int32) × (Nat → Int32))) (hf : fnX8_readStatement F r2 r3 r4 r5 r6 r7 r8 r9 r10 r11 r12 r13 r14 r15 r16 r17 = some o) (hq : (mj_u2 (fun r2 => (mj_u2 (fun r4 => (mj_u2 (fun r5 => (mj_u2 (fun r6 => (mj_u2 (fun r7 => (mj_u2 (fun r8 => (mj_u2 (fun r9 => (mj_u2 (fun r10 => (mj_u2 (fun r11 => (mj_u2 (fun r12 => (mj_u2 (fun r13 => (mj_u2 (fun r14 => (mj_u2 (fun r15 => (mj_u2 (fun r16 r17 => Qn none (mj_rows I [(2, r2), (3, r3), (4, r4), (5, r5), (6, r6), (7, r7), (8, r8), (9, r9), (10, r10), (11, r11), (12, r12), (13, r13), (14, r14), (15, r15), (16, r16), (17, r17)]) L)))))))))))))))))))))))))))) o) : mj_W X G RX8 "readStatement" cX8_readStatement 3 7 none mj_P0 mj_S0 98 ad 0 0 0 [(0, .ref 2)] [] (mj_rows I [(2, r2), (3, r3), (4, r4), (5, r5), (6, r6), (7, r7), (8, r8), (9, r9), (10, r10), (11, r11), (12, r12), (13, r13), (14, r14), (15, r15), (16, r16), (17, r17)]) L := by
  unfold fnX8_readStatement at hf
  refine mj_aload_n 0 dX8_readStatement_0 rfl ?_
  obtain ⟨o8, ho8, hf⟩ := mj_bd hf
  refine mj_callVd (I2 := (mj_rows I [(2, r2), (3, r3), (4, r4), (5, r5), (6, r6), (7, r7), (8, r8), (9, r9), (10, r10), (11, r11), (12, r12), (13, r13), (14, r14), (15, r15), (16, r16), (17, r17)])) (L2 := L) (s1 := [.int o8]) (st := []) [] (cmX8_kindHere X.2.1 G F  _ _ r2 r3 rfl rfl o8 ho8) (mj_rr rfl) rfl cw_X8_113 s0_2 a0_2 (by decide) rfl rfl (Nat.le_of_ble_eq_true rfl) ⟨Nat.zero_le _, Nat.zero_le _⟩ dX8_readStatement_1 rfl ?_
  refine mj_istore_n [(1, .int o8), (0, .ref 2)] dX8_readStatement_4 rfl (by decide) rfl ?_
  refine mj_iload_n 0 dX8_readStatement_5 rfl ?_
  refine mj_iconst dX8_readStatement_6 kc_iconst_m1 ?_
  refine mj_icmp_ne 16 dX8_readStatement_7 (by decide) (fun c9 => ?_) (fun c9 => ?_)
  · replace hf := mj_neg c9 hf
    refine mj_aload_n 1 dX8_readStatement_16 rfl ?_
    refine mj_getP p0_2_2 (by decide) fl_X8_18 rfl s0_2 a0_2 dX8_readStatement_17 ?_
    obtain ⟨o10, ho10, hf⟩ := mj_bd hf
    refine mj_callVd (I2 := (mj_rows I [(2, r2), (3, r3), (4, r4), (5, r5), (6, r6), (7, r7), (8, r8), (9, r9), (10, r10), (11, r11), (12, r12), (13, r13), (14, r14), (15, r15), (16, r16), (17, r17)])) (L2 := L) (s1 := [.int o10]) (st := []) [] (cmX7_isFull_4 X.2.1 G F  _ _ r4 rfl o10 ho10) (mj_rr rfl) rfl cw_X8_120 s0_4 a0_4 (by decide) rfl rfl (Nat.le_of_ble_eq_true rfl) ⟨Nat.zero_le _, Nat.zero_le _⟩ dX8_readStatement_20 rfl ?_
    refine mj_if_eq 32 dX8_readStatement_23 (by decide) (fun c11 => ?_) (fun c11 => ?_)
    · replace hf := mj_pos c11 hf
      refine mj_aload_n 1 dX8_readStatement_32 rfl ?_
      refine mj_getP p0_2_2 (by decide) fl_X8_18 rfl s0_2 a0_2 dX8_readStatement_33 ?_
      refine mj_iload_n 0 dX8_readStatement_36 rfl ?_
      refine mj_aload_n 1 dX8_readStatement_37 rfl ?_
      refine mj_getP p0_2_11 (by decide) fl_X8_26 rfl s0_2 a0_2 dX8_readStatement_38 ?_
      refine mj_aload_n 1 dX8_readStatement_41 rfl ?_
      refine mj_getIv (v := (r2 10)) rfl fl_X8_54 rfl s0_2 a0_2 dX8_readStatement_42 ?_
      obtain ⟨z12, hf⟩ := mj_ck hf
      refine mj_ialdv (x := r15) rfl s0_15 a0_15 z12 dX8_readStatement_45 ?_
      refine mj_aload_n 1 dX8_readStatement_46 rfl ?_
      refine mj_getP p0_2_12 (by decide) fl_X8_29 rfl s0_2 a0_2 dX8_readStatement_47 ?_
      refine mj_aload_n 1 dX8_readStatement_50 rfl ?_
      refine mj_getIv (v := (r2 10)) rfl fl_X8_54 rfl s0_2 a0_2 dX8_readStatement_51 ?_
      obtain ⟨z13, hf⟩ := mj_ck hf
      refine mj_ialdv (x := r16) rfl s0_16 a0_16 z13 dX8_readStatement_54 ?_
      refine mj_aload_n 1 dX8_readStatement_55 rfl ?_
      refine mj_getP p0_2_13 (by decide) fl_X8_32 rfl s0_2 a0_2 dX8_readStatement_56 ?_
      refine mj_aload_n 1 dX8_readStatement_59 rfl ?_
      refine mj_getIv (v := (r2 10)) rfl fl_X8_54 rfl s0_2 a0_2 dX8_readStatement_60 ?_
      obtain ⟨z14, hf⟩ := mj_ck hf
      refine mj_zaldv (x := r17) rfl s0_17 a0_17 z14 dX8_readStatement_63 ?_
      obtain ⟨o15, ho15, hf⟩ := mj_bd hf
      refine mj_callVd (I2 := (mj_rows I [(2, r2), (3, r3), (4, o15.2.1), (5, o15.2.2.1), (6, o15.2.2.2.1), (7, o15.2.2.2.2.1), (8, o15.2.2.2.2.2.1), (9, o15.2.2.2.2.2.2.1), (10, o15.2.2.2.2.2.2.2.1), (11, o15.2.2.2.2.2.2.2.2.1), (12, o15.2.2.2.2.2.2.2.2.2.1), (13, o15.2.2.2.2.2.2.2.2.2.2.1), (14, o15.2.2.2.2.2.2.2.2.2.2.2), (15, r15), (16, r16), (17, r17)])) (L2 := L) (s1 := [.int o15.1]) (st := []) [.int o8, .int (r15 ((r2 10).toNatClampNeg)), .int (r16 ((r2 10).toNatClampNeg)), .int (r17 ((r2 10).toNatClampNeg))] (cmX7_begin_4 X.2.1 G F o8 (r15 ((r2 10).toNatClampNeg)) (r16 ((r2 10).toNatClampNeg)) (r17 ((r2 10).toNatClampNeg)) _ _ r4 r5 r6 r7 r8 r9 r10 r11 r12 r13 r14 rfl rfl rfl rfl rfl rfl rfl rfl rfl rfl rfl o15 ho15) (mj_rr rfl) rfl cw_X8_124 s0_4 a0_4 (by decide) rfl rfl (Nat.le_of_ble_eq_true rfl) ⟨Nat.zero_le _, Nat.zero_le _⟩ dX8_readStatement_64 rfl ?_
      refine mj_istore_n [(2, .int o15.1), (1, .int o8), (0, .ref 2)] dX8_readStatement_67 rfl (by decide) rfl ?_
      refine mj_aload_n 2 dX8_readStatement_68 rfl ?_
      refine mj_getP p0_2_12 (by decide) fl_X8_29 rfl s0_2 a0_2 dX8_readStatement_69 ?_
      refine mj_aload_n 2 dX8_readStatement_72 rfl ?_
      refine mj_getIv (v := (r2 10)) rfl fl_X8_54 rfl s0_2 a0_2 dX8_readStatement_73 ?_
      refine mj_iload_n 0 dX8_readStatement_76 rfl ?_
      obtain ⟨z16, hf⟩ := mj_ck hf
      refine mj_iastr [(2, r2), (3, r3), (4, o15.2.1), (5, o15.2.2.1), (6, o15.2.2.2.1), (7, o15.2.2.2.2.1), (8, o15.2.2.2.2.2.1), (9, o15.2.2.2.2.2.2.1), (10, o15.2.2.2.2.2.2.2.1), (11, o15.2.2.2.2.2.2.2.2.1), (12, o15.2.2.2.2.2.2.2.2.2.1), (13, o15.2.2.2.2.2.2.2.2.2.2.1), (14, o15.2.2.2.2.2.2.2.2.2.2.2), (15, r15), (16, (upd r16 ((r2 10).toNatClampNeg) o15.1)), (17, r17)] rfl s0_16 a0_16 z16 dX8_readStatement_77 ?_
      refine mj_iload_n 1 dX8_readStatement_78 rfl ?_
      refine mj_if_ne 117 dX8_readStatement_79 (by decide) (fun c17 => ?_) (fun c17 => ?_)
      · replace hf := mj_neg c17 hf
        refine mj_aload_n 2 dX8_readStatement_117 rfl ?_
        obtain ⟨o18, ho18, hf⟩ := mj_bd hf
        refine mj_callVd (I2 := (mj_rows I [(2, o18), (3, r3), (4, o15.2.1), (5, o15.2.2.1), (6, o15.2.2.2.1), (7, o15.2.2.2.2.1), (8, o15.2.2.2.2.2.1), (9, o15.2.2.2.2.2.2.1), (10, o15.2.2.2.2.2.2.2.1), (11, o15.2.2.2.2.2.2.2.2.1), (12, o15.2.2.2.2.2.2.2.2.2.1), (13, o15.2.2.2.2.2.2.2.2.2.2.1), (14, o15.2.2.2.2.2.2.2.2.2.2.2), (15, r15), (16, (upd r16 ((r2 10).toNatClampNeg) o15.1)), (17, r17)])) (L2 := L) (s1 := []) (st := []) [] (cmX8_goOn X.2.1 G F  _ _ r2 r3 rfl rfl o18 ho18) (mj_rr rfl) rfl cw_X8_60 s0_2 a0_2 (by decide) rfl rfl (Nat.le_of_ble_eq_true rfl) ⟨Nat.zero_le _, Nat.zero_le _⟩ dX8_readStatement_118 rfl ?_
        refine mj_aload_n 2 dX8_readStatement_121 rfl ?_
        refine mj_iload_n 0 dX8_readStatement_122 rfl ?_
        refine mj_iload_n 1 dX8_readStatement_123 rfl ?_
        obtain ⟨o19, ho19, hf⟩ := mj_bd hf
        refine mj_callVd (I2 := (mj_rows I [(2, o19.1), (3, r3), (4, o15.2.1), (5, o15.2.2.1), (6, o19.2.1), (7, o19.2.2.1), (8, o19.2.2.2.1), (9, o19.2.2.2.2.1), (10, o19.2.2.2.2.2), (11, o15.2.2.2.2.2.2.2.2.1), (12, o15.2.2.2.2.2.2.2.2.2.1), (13, o15.2.2.2.2.2.2.2.2.2.2.1), (14, o15.2.2.2.2.2.2.2.2.2.2.2), (15, r15), (16, (upd r16 ((r2 10).toNatClampNeg) o15.1)), (17, r17)])) (L2 := L) (s1 := []) (st := []) [.int o15.1, .int o8] (cmX8_readBehindWord X.2.1 G F o15.1 o8 _ _ o18 r3 o15.2.2.2.1 o15.2.2.2.2.1 o15.2.2.2.2.2.1 o15.2.2.2.2.2.2.1 o15.2.2.2.2.2.2.2.1 rfl rfl rfl rfl rfl rfl rfl o19 ho19) (mj_rr rfl) rfl cw_X8_143 s0_2 a0_2 (by decide) rfl rfl (Nat.le_of_ble_eq_true rfl) ⟨Nat.zero_le _, Nat.zero_le _⟩ dX8_readStatement_124 rfl ?_
        refine mj_sub [2, 1, 0] [(0, .ref 2), (1, .int o8), (2, .int o15.1)] rfl ?_
        exact jtX8_readStatement_127 hR F I L o19.1 r3 o15.2.1 o15.2.2.1 o19.2.1 o19.2.2.1 o19.2.2.2.1 o19.2.2.2.2.1 o19.2.2.2.2.2 o15.2.2.2.2.2.2.2.2.1 o15.2.2.2.2.2.2.2.2.2.1 o15.2.2.2.2.2.2.2.2.2.2.1 o15.2.2.2.2.2.2.2.2.2.2.2 r15 (upd r16 ((r2 10).toNatClampNeg) o15.1) r17 o8 o15.1 o hf hq
      · replace hf := mj_pos c17 hf
        refine mj_aload_n 2 dX8_readStatement_82 rfl ?_
        refine mj_getP p0_2_2 (by decide) fl_X8_18 rfl s0_2 a0_2 dX8_readStatement_83 ?_
        refine mj_getP p0_4_2 (by decide) fl_X8_128 rfl s0_4 a0_4 dX8_readStatement_86 ?_
        refine mj_iload_n 0 dX8_readStatement_89 rfl ?_
        refine mj_aload_n 2 dX8_readStatement_90 rfl ?_
        obtain ⟨o20, ho20, hf⟩ := mj_bd hf
        refine mj_callVd (I2 := (mj_rows I [(2, o20.2), (3, r3), (4, o15.2.1), (5, o15.2.2.1), (6, o15.2.2.2.1), (7, o15.2.2.2.2.1), (8, o15.2.2.2.2.2.1), (9, o15.2.2.2.2.2.2.1), (10, o15.2.2.2.2.2.2.2.1), (11, o15.2.2.2.2.2.2.2.2.1), (12, o15.2.2.2.2.2.2.2.2.2.1), (13, o15.2.2.2.2.2.2.2.2.2.2.1), (14, o15.2.2.2.2.2.2.2.2.2.2.2), (15, r15), (16, (upd r16 ((r2 10).toNatClampNeg) o15.1)), (17, r17)])) (L2 := L) (s1 := [.int o20.1, .int o15.1, .ref 6]) (st := [.int o15.1, .ref 6]) [] (cmX8_readVariable X.2.1 G F  _ _ r2 r3 rfl rfl o20 ho20) (mj_rr rfl) rfl cw_X8_131 s0_2 a0_2 (by decide) rfl rfl (Nat.le_of_ble_eq_true rfl) ⟨Nat.zero_le _, Nat.zero_le _⟩ dX8_readStatement_91 rfl ?_
        obtain ⟨z21, hf⟩ := mj_ck hf
        refine mj_iastr [(2, o20.2), (3, r3), (4, o15.2.1), (5, o15.2.2.1), (6, (upd o15.2.2.2.1 o15.1.toNatClampNeg o20.1)), (7, o15.2.2.2.2.1), (8, o15.2.2.2.2.2.1), (9, o15.2.2.2.2.2.2.1), (10, o15.2.2.2.2.2.2.2.1), (11, o15.2.2.2.2.2.2.2.2.1), (12, o15.2.2.2.2.2.2.2.2.2.1), (13, o15.2.2.2.2.2.2.2.2.2.2.1), (14, o15.2.2.2.2.2.2.2.2.2.2.2), (15, r15), (16, (upd r16 ((r2 10).toNatClampNeg) o15.1)), (17, r17)] rfl s0_6 a0_6 z21 dX8_readStatement_94 ?_
        refine mj_aload_n 2 dX8_readStatement_95 rfl ?_
        refine mj_bipush dX8_readStatement_96 kc_bipush_61 ?_
        obtain ⟨o22, ho22, hf⟩ := mj_bd hf
        refine mj_callVd (I2 := (mj_rows I [(2, o22), (3, r3), (4, o15.2.1), (5, o15.2.2.1), (6, (upd o15.2.2.2.1 o15.1.toNatClampNeg o20.1)), (7, o15.2.2.2.2.1), (8, o15.2.2.2.2.2.1), (9, o15.2.2.2.2.2.2.1), (10, o15.2.2.2.2.2.2.2.1), (11, o15.2.2.2.2.2.2.2.2.1), (12, o15.2.2.2.2.2.2.2.2.2.1), (13, o15.2.2.2.2.2.2.2.2.2.2.1), (14, o15.2.2.2.2.2.2.2.2.2.2.2), (15, r15), (16, (upd r16 ((r2 10).toNatClampNeg) o15.1)), (17, r17)])) (L2 := L) (s1 := []) (st := []) [.int (61 : Int32)] (cmX8_readSign X.2.1 G F (61 : Int32) _ _ o20.2 r3 rfl rfl o22 ho22) (mj_rr rfl) rfl cw_X8_134 s0_2 a0_2 (by decide) rfl rfl (Nat.le_of_ble_eq_true rfl) ⟨Nat.zero_le _, Nat.zero_le _⟩ dX8_readStatement_98 rfl ?_
        refine mj_aload_n 2 dX8_readStatement_101 rfl ?_
        refine mj_getP p0_2_2 (by decide) fl_X8_18 rfl s0_2 a0_2 dX8_readStatement_102 ?_
        refine mj_getP p0_4_4 (by decide) fl_X8_137 rfl s0_4 a0_4 dX8_readStatement_105 ?_
        refine mj_iload_n 0 dX8_readStatement_108 rfl ?_
        refine mj_aload_n 2 dX8_readStatement_109 rfl ?_
        obtain ⟨o23, ho23, hf⟩ := mj_bd hf
        refine mj_callVd (I2 := (mj_rows I [(2, o23.2), (3, r3), (4, o15.2.1), (5, o15.2.2.1), (6, (upd o15.2.2.2.1 o15.1.toNatClampNeg o20.1)), (7, o15.2.2.2.2.1), (8, o15.2.2.2.2.2.1), (9, o15.2.2.2.2.2.2.1), (10, o15.2.2.2.2.2.2.2.1), (11, o15.2.2.2.2.2.2.2.2.1), (12, o15.2.2.2.2.2.2.2.2.2.1), (13, o15.2.2.2.2.2.2.2.2.2.2.1), (14, o15.2.2.2.2.2.2.2.2.2.2.2), (15, r15), (16, (upd r16 ((r2 10).toNatClampNeg) o15.1)), (17, r17)])) (L2 := L) (s1 := [.int o23.1, .int o15.1, .ref 8]) (st := [.int o15.1, .ref 8]) [] (cmX8_readSum X.2.1 G F  _ _ o22 r3 rfl rfl o23 ho23) (mj_rr rfl) rfl cw_X8_140 s0_2 a0_2 (by decide) rfl rfl (Nat.le_of_ble_eq_true rfl) ⟨Nat.zero_le _, Nat.zero_le _⟩ dX8_readStatement_110 rfl ?_
        obtain ⟨z24, hf⟩ := mj_ck hf
        refine mj_iastr [(2, o23.2), (3, r3), (4, o15.2.1), (5, o15.2.2.1), (6, (upd o15.2.2.2.1 o15.1.toNatClampNeg o20.1)), (7, o15.2.2.2.2.1), (8, (upd o15.2.2.2.2.2.1 o15.1.toNatClampNeg o23.1)), (9, o15.2.2.2.2.2.2.1), (10, o15.2.2.2.2.2.2.2.1), (11, o15.2.2.2.2.2.2.2.2.1), (12, o15.2.2.2.2.2.2.2.2.2.1), (13, o15.2.2.2.2.2.2.2.2.2.2.1), (14, o15.2.2.2.2.2.2.2.2.2.2.2), (15, r15), (16, (upd r16 ((r2 10).toNatClampNeg) o15.1)), (17, r17)] rfl s0_8 a0_8 z24 dX8_readStatement_113 ?_
        refine mj_goto 127 dX8_readStatement_114 (by decide) ?_
        refine mj_sub [2, 1, 0] [(0, .ref 2), (1, .int o8), (2, .int o15.1)] rfl ?_
        exact jtX8_readStatement_127 hR F I L o23.2 r3 o15.2.1 o15.2.2.1 (upd o15.2.2.2.1 o15.1.toNatClampNeg o20.1) o15.2.2.2.2.1 (upd o15.2.2.2.2.2.1 o15.1.toNatClampNeg o23.1) o15.2.2.2.2.2.2.1 o15.2.2.2.2.2.2.2.1 o15.2.2.2.2.2.2.2.2.1 o15.2.2.2.2.2.2.2.2.2.1 o15.2.2.2.2.2.2.2.2.2.2.1 o15.2.2.2.2.2.2.2.2.2.2.2 r15 (upd r16 ((r2 10).toNatClampNeg) o15.1) r17 o8 o15.1 o hf hq
    · replace hf := mj_neg c11 hf
      refine mj_aload_n 1 dX8_readStatement_26 rfl ?_
      refine mj_iconst dX8_readStatement_27 kc_iconst_3 ?_
      obtain ⟨o25, ho25, hf⟩ := mj_bd hf
      refine mj_callVd (I2 := (mj_rows I [(2, o25), (3, r3), (4, r4), (5, r5), (6, r6), (7, r7), (8, r8), (9, r9), (10, r10), (11, r11), (12, r12), (13, r13), (14, r14), (15, r15), (16, r16), (17, r17)])) (L2 := L) (s1 := []) (st := []) [.int (3 : Int32)] (cmX8_fail X.2.1 G F (3 : Int32) _ _ r2 rfl o25 ho25) (mj_rr rfl) rfl cw_X8_116 s0_2 a0_2 (by decide) rfl rfl (Nat.le_of_ble_eq_true rfl) ⟨Nat.zero_le _, Nat.zero_le _⟩ dX8_readStatement_28 rfl ?_
      obtain rfl := Option.some.inj hf
      have hZ := hq
      replace hZ := mj_u2p hZ
      replace hZ := mj_u2p hZ
      replace hZ := mj_u2p hZ
      replace hZ := mj_u2p hZ
      replace hZ := mj_u2p hZ
      replace hZ := mj_u2p hZ
      replace hZ := mj_u2p hZ
      replace hZ := mj_u2p hZ
      replace hZ := mj_u2p hZ
      replace hZ := mj_u2p hZ
      replace hZ := mj_u2p hZ
      replace hZ := mj_u2p hZ
      replace hZ := mj_u2p hZ
      replace hZ := mj_u2p hZ
      exact mj_vret hR ⟨Nat.le_refl _, Nat.le_refl _⟩ rfl dX8_readStatement_31 hZ
  · replace hf := mj_pos c9 hf
    refine mj_aload_n 1 dX8_readStatement_10 rfl ?_
    refine mj_iconst dX8_readStatement_11 kc_iconst_1 ?_
    obtain ⟨o26, ho26, hf⟩ := mj_bd hf
    refine mj_callVd (I2 := (mj_rows I [(2, o26), (3, r3), (4, r4), (5, r5), (6, r6), (7, r7), (8, r8), (9, r9), (10, r10), (11, r11), (12, r12), (13, r13), (14, r14), (15, r15), (16, r16), (17, r17)])) (L2 := L) (s1 := []) (st := []) [.int (1 : Int32)] (cmX8_fail X.2.1 G F (1 : Int32) _ _ r2 rfl o26 ho26) (mj_rr rfl) rfl cw_X8_116 s0_2 a0_2 (by decide) rfl rfl (Nat.le_of_ble_eq_true rfl) ⟨Nat.zero_le _, Nat.zero_le _⟩ dX8_readStatement_12 rfl ?_
    obtain rfl := Option.some.inj hf
    have hZ := hq
    replace hZ := mj_u2p hZ
    replace hZ := mj_u2p hZ
    replace hZ := mj_u2p hZ
    replace hZ := mj_u2p hZ
    replace hZ := mj_u2p hZ
    replace hZ := mj_u2p hZ
    replace hZ := mj_u2p hZ
    replace hZ := mj_u2p hZ
    replace hZ := mj_u2p hZ
    replace hZ := mj_u2p hZ
    replace hZ := mj_u2p hZ
    replace hZ := mj_u2p hZ
    replace hZ := mj_u2p hZ
    replace hZ := mj_u2p hZ
    exact mj_vret hR ⟨Nat.le_refl _, Nat.le_refl _⟩ rfl dX8_readStatement_15 hZ
set_option maxRecDepth 100000 in
set_option maxHeartbeats 4000000 in
theorem cmX8_readStatement (l : Launch) (G : mj_GT) (F : Nat) (I : mj_IT) (L : mj_LT) (r2 : Nat → Int32) (r3 : Nat → Int32) (r4 : Nat → Int32) (r5 : Nat → Int32) (r6 : Nat → Int32) (r7 : Nat → Int32) (r8 : Nat → Int32) (r9 : Nat → Int32) (r10 : Nat → Int32) (r11 : Nat → Int32) (r12 : Nat → Int32) (r13 : Nat → Int32) (r14 : Nat → Int32) (r15 : Nat → Int32) (r16 : Nat → Int32) (r17 : Nat → Int32) (hr2 : I 2 = r2) (hr3 : I 3 = r3) (hr4 : I 4 = r4) (hr5 : I 5 = r5) (hr6 : I 6 = r6) (hr7 : I 7 = r7) (hr8 : I 8 = r8) (hr9 : I 9 = r9) (hr10 : I 10 = r10) (hr11 : I 11 = r11) (hr12 : I 12 = r12) (hr13 : I 13 = r13) (hr14 : I 14 = r14) (hr15 : I 15 = r15) (hr16 : I 16 = r16) (hr17 : I 17 = r17) (o : ((Nat → Int32) × (Nat → Int32) × (Nat → Int32) × (Nat → Int32) × (Nat → Int32) × (Nat → Int32) × (Nat → Int32) × (Nat → Int32) × (Nat → Int32) × (Nat → Int32) × (Nat → Int32) × (Nat → Int32) × (Nat → Int32) × (Nat → Int32) × (Nat → Int32))) (hf : fnX8_readStatement F r2 r3 r4 r5 r6 r7 r8 r9 r10 r11 r12 r13 r14 r15 r16 r17 = some o) : mj_M l G yX8_readStatement cX8_readStatement 3 7 none 0 0 mj_P0 mj_S0 98 [.ref 2] I L (mj_qd none (mj_rows I [(2, o.1), (3, r3), (4, o.2.1), (5, o.2.2.1), (6, o.2.2.2.1), (7, o.2.2.2.2.1), (8, o.2.2.2.2.2.1), (9, o.2.2.2.2.2.2.1), (10, o.2.2.2.2.2.2.2.1), (11, o.2.2.2.2.2.2.2.2.1), (12, o.2.2.2.2.2.2.2.2.2.1), (13, o.2.2.2.2.2.2.2.2.2.2.1), (14, o.2.2.2.2.2.2.2.2.2.2.2.1), (15, o.2.2.2.2.2.2.2.2.2.2.2.2.1), (16, o.2.2.2.2.2.2.2.2.2.2.2.2.2.1), (17, o.2.2.2.2.2.2.2.2.2.2.2.2.2.2)]) L) := by
  refine mj_in RX8 "readStatement" [(0, .ref 2)] rfl rfl rfl (by decide) (Nat.le_of_ble_eq_true rfl) (fun X ad hR => ?_)
  refine mj_toI [(2, r2), (3, r3), (4, r4), (5, r5), (6, r6), (7, r7), (8, r8), (9, r9), (10, r10), (11, r11), (12, r12), (13, r13), (14, r14), (15, r15), (16, r16), (17, r17)] (by intro q hq; simp only [List.mem_cons, List.not_mem_nil, or_false] at hq; rcases hq with rfl | rfl | rfl | rfl | rfl | rfl | rfl | rfl | rfl | rfl | rfl | rfl | rfl | rfl | rfl | rfl <;> assumption) ?_
  refine mtX8_readStatement hR F I L r2 r3 r4 r5 r6 r7 r8 r9 r10 r11 r12 r13 r14 r15 r16 r17 o hf ?_
  obtain ⟨w0, w1, w2, w3, w4, w5, w6, w7, w8, w9, w10, w11, w12, w13, w14⟩ := o
  refine mj_u2q ?_
  refine mj_u2q ?_
  refine mj_u2q ?_
  refine mj_u2q ?_
  refine mj_u2q ?_
  refine mj_u2q ?_
  refine mj_u2q ?_
  refine mj_u2q ?_
  refine mj_u2q ?_
  refine mj_u2q ?_
  refine mj_u2q ?_
  refine mj_u2q ?_
  refine mj_u2q ?_
  refine mj_u2q ?_
  exact ⟨rfl, rfl, rfl⟩

-- X7_placeBehind_4
def fnX7_placeBehind_4 (F : Nat) (r4 : Nat → Int32) (r5 : Nat → Int32) (r13 : Nat → Int32) (r14 : Nat → Int32) (x1 : Int32) : Option ((Int32)) := (if mj_ib x1 40 = true then (if (r14 x1.toNatClampNeg) = (-1 : Int32) then (if mj_ib x1 40 = true then (if (r13 x1.toNatClampNeg) = (-1 : Int32) then some (r4 0) else (if mj_ib (r13 x1.toNatClampNeg) 40 = true then (if (r5 ((r13 x1.toNatClampNeg).toNatClampNeg)) = (4 : Int32) then some (r13 x1.toNatClampNeg) else (if mj_ib (r13 x1.toNatClampNeg) 40 = true then some (r14 ((r13 x1.toNatClampNeg).toNatClampNeg)) else none)) else none)) else none) else (if mj_ib x1 40 = true then some (r14 x1.toNatClampNeg) else none)) else none)
set_option maxRecDepth 100000 in
set_option maxHeartbeats 4000000 in
theorem mtX7_placeBehind_4 {X : mj_XT} {l : Launch} {G : mj_GT} {ad : Nat → Nat} {Qn : Option Value → mj_IT → mj_LT → Prop} (hR : mj_R X l G mj_P0 mj_S0 98 ad 0 0 Qn) (F : Nat) (I : mj_IT) (L : mj_LT) (r4 : Nat → Int32) (r5 : Nat → Int32) (r13 : Nat → Int32) (r14 : Nat → Int32) (x1 : Int32) (o : ((Int32))) (hf : fnX7_placeBehind_4 F r4 r5 r13 r14 x1 = some o) (hq : (fun ov => Qn (some (.int ov)) (mj_rows I [(4, r4), (5, r5), (13, r13), (14, r14)]) L) o) : mj_W X G RX7 "placeBehind" cX7_placeBehind 3 1 (some .int) mj_P0 mj_S0 98 ad 0 0 0 [(0, .ref 4), (1, .int x1)] [] (mj_rows I [(4, r4), (5, r5), (13, r13), (14, r14)]) L := by
  unfold fnX7_placeBehind_4 at hf
  refine mj_aload_n 0 dX7_placeBehind_0 rfl ?_
  refine mj_getP p0_4_10 (by decide) fl_X7_39 rfl s0_4 a0_4 dX7_placeBehind_1 ?_
  refine mj_iload_n 1 dX7_placeBehind_4 rfl ?_
  obtain ⟨z1, hf⟩ := mj_ck hf
  refine mj_ialdv (x := r14) rfl s0_14 a0_14 z1 dX7_placeBehind_5 ?_
  refine mj_iconst dX7_placeBehind_6 kc_iconst_m1 ?_
  refine mj_icmp_eq 17 dX7_placeBehind_7 (by decide) (fun c2 => ?_) (fun c2 => ?_)
  · replace hf := mj_pos c2 hf
    refine mj_aload_n 0 dX7_placeBehind_17 rfl ?_
    refine mj_getP p0_4_9 (by decide) fl_X7_36 rfl s0_4 a0_4 dX7_placeBehind_18 ?_
    refine mj_iload_n 1 dX7_placeBehind_21 rfl ?_
    obtain ⟨z3, hf⟩ := mj_ck hf
    refine mj_ialdv (x := r13) rfl s0_13 a0_13 z3 dX7_placeBehind_22 ?_
    refine mj_istore_n [(2, .int (r13 x1.toNatClampNeg)), (0, .ref 4), (1, .int x1)] dX7_placeBehind_23 rfl (by decide) rfl ?_
    refine mj_iload_n 0 dX7_placeBehind_24 rfl ?_
    refine mj_iconst dX7_placeBehind_25 kc_iconst_m1 ?_
    refine mj_icmp_ne 34 dX7_placeBehind_26 (by decide) (fun c4 => ?_) (fun c4 => ?_)
    · replace hf := mj_neg c4 hf
      refine mj_aload_n 1 dX7_placeBehind_34 rfl ?_
      refine mj_getP p0_4_1 (by decide) fl_X7_9 rfl s0_4 a0_4 dX7_placeBehind_35 ?_
      refine mj_iload_n 0 dX7_placeBehind_38 rfl ?_
      obtain ⟨z5, hf⟩ := mj_ck hf
      refine mj_ialdv (x := r5) rfl s0_5 a0_5 z5 dX7_placeBehind_39 ?_
      refine mj_iconst dX7_placeBehind_40 kc_iconst_4 ?_
      refine mj_icmp_ne 48 dX7_placeBehind_41 (by decide) (fun c6 => ?_) (fun c6 => ?_)
      · replace hf := mj_neg c6 hf
        refine mj_aload_n 1 dX7_placeBehind_48 rfl ?_
        refine mj_getP p0_4_10 (by decide) fl_X7_39 rfl s0_4 a0_4 dX7_placeBehind_49 ?_
        refine mj_iload_n 0 dX7_placeBehind_52 rfl ?_
        obtain ⟨z7, hf⟩ := mj_ck hf
        refine mj_ialdv (x := r14) rfl s0_14 a0_14 z7 dX7_placeBehind_53 ?_
        obtain rfl := Option.some.inj hf
        have hZ := hq
        exact mj_iret hR ⟨Nat.le_refl _, Nat.le_refl _⟩ rfl rfl dX7_placeBehind_54 hZ
      · replace hf := mj_pos c6 hf
        refine mj_iload_n 0 dX7_placeBehind_44 rfl ?_
        refine mj_goto 54 dX7_placeBehind_45 (by decide) ?_
        obtain rfl := Option.some.inj hf
        have hZ := hq
        exact mj_iret hR ⟨Nat.le_refl _, Nat.le_refl _⟩ rfl rfl dX7_placeBehind_54 hZ
    · replace hf := mj_pos c4 hf
      refine mj_aload_n 1 dX7_placeBehind_29 rfl ?_
      refine mj_getIv (v := (r4 0)) rfl fl_X7_42 rfl s0_4 a0_4 dX7_placeBehind_30 ?_
      obtain rfl := Option.some.inj hf
      have hZ := hq
      exact mj_iret hR ⟨Nat.le_refl _, Nat.le_refl _⟩ rfl rfl dX7_placeBehind_33 hZ
  · replace hf := mj_neg c2 hf
    refine mj_aload_n 0 dX7_placeBehind_10 rfl ?_
    refine mj_getP p0_4_10 (by decide) fl_X7_39 rfl s0_4 a0_4 dX7_placeBehind_11 ?_
    refine mj_iload_n 1 dX7_placeBehind_14 rfl ?_
    obtain ⟨z8, hf⟩ := mj_ck hf
    refine mj_ialdv (x := r14) rfl s0_14 a0_14 z8 dX7_placeBehind_15 ?_
    obtain rfl := Option.some.inj hf
    have hZ := hq
    exact mj_iret hR ⟨Nat.le_refl _, Nat.le_refl _⟩ rfl rfl dX7_placeBehind_16 hZ
set_option maxRecDepth 100000 in
set_option maxHeartbeats 4000000 in
theorem cmX7_placeBehind_4 (l : Launch) (G : mj_GT) (F : Nat) (x1 : Int32) (I : mj_IT) (L : mj_LT) (r4 : Nat → Int32) (r5 : Nat → Int32) (r13 : Nat → Int32) (r14 : Nat → Int32) (hr4 : I 4 = r4) (hr5 : I 5 = r5) (hr13 : I 13 = r13) (hr14 : I 14 = r14) (o : ((Int32))) (hf : fnX7_placeBehind_4 F r4 r5 r13 r14 x1 = some o) : mj_M l G yX7_placeBehind cX7_placeBehind 3 1 (some .int) 0 0 mj_P0 mj_S0 98 [.ref 4, .int x1] I L (mj_qd (some (.int o)) (mj_rows I [(4, r4), (5, r5), (13, r13), (14, r14)]) L) := by
  refine mj_in RX7 "placeBehind" [(0, .ref 4), (1, .int x1)] rfl rfl rfl (by decide) (Nat.le_of_ble_eq_true rfl) (fun X ad hR => ?_)
  refine mj_toI [(4, r4), (5, r5), (13, r13), (14, r14)] (by intro q hq; simp only [List.mem_cons, List.not_mem_nil, or_false] at hq; rcases hq with rfl | rfl | rfl | rfl <;> assumption) ?_
  refine mtX7_placeBehind_4 hR F I L r4 r5 r13 r14 x1 o hf ?_
  exact ⟨rfl, rfl, rfl⟩

-- X7_link_4
def bdX7_link_4_2 (F : Nat) (r4 : Nat → Int32) (r5 : Nat → Int32) (r13 : Nat → Int32) (x1 : Int32) (r14 : Nat → Int32) : Option (((Int32) × (Nat → Int32)) ⊕ ((Nat → Int32))) := (if (r4 0) ≤ x1 then some (.inr r14) else (fnX7_placeBehind_4 F r4 r5 r13 r14 x1).bind (fun o2 => (if mj_ib x1 40 = true then some (.inl ((x1 + (1)), (upd r14 x1.toNatClampNeg o2))) else none)))
def jnX7_link_4_94 (F : Nat) (r4 : Nat → Int32) (r5 : Nat → Int32) (r14 : Nat → Int32) (x1 : Int32) (x2 : Int32) (r11 : Nat → Int32) (r12 : Nat → Int32) : Option (((Int32) × (Nat → Int32) × (Nat → Int32)) ⊕ ((Nat → Int32) × (Nat → Int32))) := (if x2 = (5 : Int32) then (if mj_ib x1 40 = true then some (.inl ((x1 + (1)), r11, (upd r12 x1.toNatClampNeg ((r4 0) + (1 : Int32))))) else none) else (if mj_ib x1 40 = true then (if (r12 x1.toNatClampNeg) = (-1 : Int32) then (if x2 = (2 : Int32) then (if mj_ib x1 40 = true then (if mj_ib x1 40 = true then some (.inl ((x1 + (1)), r11, (upd r12 x1.toNatClampNeg (r14 x1.toNatClampNeg)))) else none) else none) else (if x2 = (3 : Int32) then (if mj_ib x1 40 = true then (if mj_ib x1 40 = true then some (.inl ((x1 + (1)), r11, (upd r12 x1.toNatClampNeg (r14 x1.toNatClampNeg)))) else none) else none) else (if x2 = (4 : Int32) then (if mj_ib x1 40 = true then (if mj_ib x1 40 = true then some (.inl ((x1 + (1)), r11, (upd r12 x1.toNatClampNeg (r14 x1.toNatClampNeg)))) else none) else none) else some (.inl ((x1 + (1)), r11, r12))))) else some (.inl ((x1 + (1)), r11, r12))) else none))
def jnX7_link_4_93 (F : Nat) (r4 : Nat → Int32) (r5 : Nat → Int32) (r14 : Nat → Int32) (x1 : Int32) (x2 : Int32) (t1 : Int32) (t2 : Int32) (r11 : Nat → Int32) (r12 : Nat → Int32) : Option (((Int32) × (Nat → Int32) × (Nat → Int32)) ⊕ ((Nat → Int32) × (Nat → Int32))) := (if mj_ib t1 40 = true then jnX7_link_4_94 F r4 r5 r14 x1 x2 (upd r11 t1.toNatClampNeg t2) r12 else none)
def bdX7_link_4_29 (F : Nat) (r4 : Nat → Int32) (r5 : Nat → Int32) (r14 : Nat → Int32) (x1 : Int32) (r11 : Nat → Int32) (r12 : Nat → Int32) : Option (((Int32) × (Nat → Int32) × (Nat → Int32)) ⊕ ((Nat → Int32) × (Nat → Int32))) := (if (r4 0) ≤ x1 then some (.inr (r11, r12)) else (if mj_ib x1 40 = true then (if (r5 x1.toNatClampNeg) = (6 : Int32) then (if mj_ib x1 40 = true then jnX7_link_4_94 F r4 r5 r14 x1 (r5 x1.toNatClampNeg) (upd r11 x1.toNatClampNeg (r4 0)) r12 else none) else (if mj_ib x1 40 = true then (if (r11 x1.toNatClampNeg) = (-1 : Int32) then (if (r5 x1.toNatClampNeg) = (4 : Int32) then jnX7_link_4_93 F r4 r5 r14 x1 (r5 x1.toNatClampNeg) x1 x1 r11 r12 else (if mj_ib x1 40 = true then jnX7_link_4_93 F r4 r5 r14 x1 (r5 x1.toNatClampNeg) x1 (r14 x1.toNatClampNeg) r11 r12 else none)) else jnX7_link_4_94 F r4 r5 r14 x1 (r5 x1.toNatClampNeg) r11 r12) else none)) else none))
def fnX7_link_4 (F : Nat) (r4 : Nat → Int32) (r5 : Nat → Int32) (r11 : Nat → Int32) (r12 : Nat → Int32) (r13 : Nat → Int32) (r14 : Nat → Int32) : Option ((Nat → Int32) × (Nat → Int32) × (Nat → Int32)) := (mj_it (mj_u2 (fun z0 z1 => bdX7_link_4_2 F r4 r5 r13 z0 z1)) F ((0 : Int32), r14)).bind (fun r14_26 => (mj_it (mj_u2 (fun z0 => (mj_u2 (fun z1 z2 => bdX7_link_4_29 F r4 r5 r14_26 z0 z1 z2)))) F ((0 : Int32), r11, r12)).bind (mj_u2 (fun r11_27 r12_27 => some (r11_27, r12_27, r14_26))))
set_option maxRecDepth 100000 in
set_option maxHeartbeats 4000000 in
theorem lpX7_link_4_2 {X : mj_XT} {l : Launch} {G : mj_GT} {ad : Nat → Nat} {Qn : Option Value → mj_IT → mj_LT → Prop} (hR : mj_R X l G mj_P0 mj_S0 98 ad 0 0 Qn) (F : Nat) (I : mj_IT) (L : mj_LT) (r4 : Nat → Int32) (r5 : Nat → Int32) (r11 : Nat → Int32) (r12 : Nat → Int32) (r13 : Nat → Int32) (r14 : Nat → Int32) : ∀ (n : Nat) (s : ((Int32) × (Nat → Int32))) (e : ((Nat → Int32))), mj_it (mj_u2 (fun z0 z1 => bdX7_link_4_2 F r4 r5 r13 z0 z1)) n s = some e → (fun r14 => mj_W X G RX7 "link" cX7_link 3 2 none mj_P0 mj_S0 98 ad 0 0 27 [(0, .ref 4)] [] (mj_rows I [(4, r4), (5, r5), (11, r11), (12, r12), (13, r13), (14, r14)]) L) e → (mj_u2 (fun x1 r14 => mj_W X G RX7 "link" cX7_link 3 2 none mj_P0 mj_S0 98 ad 0 0 2 [(0, .ref 4), (1, .int x1)] [] (mj_rows I [(4, r4), (5, r5), (11, r11), (12, r12), (13, r13), (14, r14)]) L)) s := by
  refine mj_loop (fun s o hf hc hx => ?_)
  obtain ⟨x1, r14⟩ := s
  replace hf := mj_u2e hf
  refine mj_u2q ?_
  unfold bdX7_link_4_2 at hf
  refine mj_iload_n 1 dX7_link_2 rfl ?_
  refine mj_aload_n 0 dX7_link_3 rfl ?_
  refine mj_getIv (v := (r4 0)) rfl fl_X7_42 rfl s0_4 a0_4 dX7_link_4 ?_
  refine mj_icmp_ge 27 dX7_link_7 (by decide) (fun c1 => ?_) (fun c1 => ?_)
  · replace hf := mj_pos c1 hf
    refine mj_sub [0] [(0, .ref 4)] rfl ?_
    obtain rfl := Option.some.inj hf
    have hZ := hx r14 rfl
    exact hZ
  · replace hf := mj_neg c1 hf
    refine mj_aload_n 0 dX7_link_10 rfl ?_
    refine mj_getP p0_4_10 (by decide) fl_X7_39 rfl s0_4 a0_4 dX7_link_11 ?_
    refine mj_iload_n 1 dX7_link_14 rfl ?_
    refine mj_aload_n 0 dX7_link_15 rfl ?_
    refine mj_iload_n 1 dX7_link_16 rfl ?_
    obtain ⟨o2, ho2, hf⟩ := mj_bd hf
    refine mj_callVd (I2 := (mj_rows I [(4, r4), (5, r5), (11, r11), (12, r12), (13, r13), (14, r14)])) (L2 := L) (s1 := [.int o2, .int x1, .ref 14]) (st := [.int x1, .ref 14]) [.int x1] (cmX7_placeBehind_4 X.2.1 G F x1 _ _ r4 r5 r13 r14 rfl rfl rfl rfl o2 ho2) (mj_rr rfl) rfl cw_X7_46 s0_4 a0_4 (by decide) rfl rfl (Nat.le_of_ble_eq_true rfl) ⟨Nat.zero_le _, Nat.zero_le _⟩ dX7_link_17 rfl ?_
    obtain ⟨z3, hf⟩ := mj_ck hf
    refine mj_iastr [(4, r4), (5, r5), (11, r11), (12, r12), (13, r13), (14, (upd r14 x1.toNatClampNeg o2))] rfl s0_14 a0_14 z3 dX7_link_20 ?_
    refine mj_iinc 1 [(1, .int (x1 + (1))), (0, .ref 4)] dX7_link_21 rfl (kz_1 _) (by decide) rfl ?_
    refine mj_goto 2 dX7_link_24 (by decide) ?_
    refine mj_sub [1, 0] [(0, .ref 4), (1, .int (x1 + (1)))] rfl ?_
    obtain rfl := Option.some.inj hf
    have hZ := hc ((x1 + (1)), (upd r14 x1.toNatClampNeg o2)) rfl
    replace hZ := mj_u2p hZ
    exact hZ
set_option maxRecDepth 100000 in
set_option maxHeartbeats 4000000 in
theorem jtX7_link_4_94 {X : mj_XT} {l : Launch} {G : mj_GT} {ad : Nat → Nat} {Qn : Option Value → mj_IT → mj_LT → Prop} (hR : mj_R X l G mj_P0 mj_S0 98 ad 0 0 Qn) (F : Nat) (I : mj_IT) (L : mj_LT) (r4 : Nat → Int32) (r5 : Nat → Int32) (r11 : Nat → Int32) (r12 : Nat → Int32) (r13 : Nat → Int32) (r14 : Nat → Int32) (x1 : Int32) (x2 : Int32) (o : (((Int32) × (Nat → Int32) × (Nat → Int32)) ⊕ ((Nat → Int32) × (Nat → Int32)))) (hf : jnX7_link_4_94 F r4 r5 r14 x1 x2 r11 r12 = some o) (hc : ∀ s2 : ((Int32) × (Nat → Int32) × (Nat → Int32)), o = .inl s2 → (mj_u2 (fun x1 => (mj_u2 (fun r11 r12 => mj_W X G RX7 "link" cX7_link 3 2 none mj_P0 mj_S0 98 ad 0 0 29 [(0, .ref 4), (1, .int x1)] [] (mj_rows I [(4, r4), (5, r5), (11, r11), (12, r12), (13, r13), (14, r14)]) L)))) s2) (hx : ∀ e2 : ((Nat → Int32) × (Nat → Int32)), o = .inr e2 → (mj_u2 (fun r11 r12 => mj_W X G RX7 "link" cX7_link 3 2 none mj_P0 mj_S0 98 ad 0 0 157 [] [] (mj_rows I [(4, r4), (5, r5), (11, r11), (12, r12), (13, r13), (14, r14)]) L)) e2) : mj_W X G RX7 "link" cX7_link 3 2 none mj_P0 mj_S0 98 ad 0 0 94 [(0, .ref 4), (1, .int x1), (2, .int x2)] [] (mj_rows I [(4, r4), (5, r5), (11, r11), (12, r12), (13, r13), (14, r14)]) L := by
  unfold jnX7_link_4_94 at hf
  refine mj_iload_n 2 dX7_link_94 rfl ?_
  refine mj_iconst dX7_link_95 kc_iconst_5 ?_
  refine mj_icmp_ne 114 dX7_link_96 (by decide) (fun c4 => ?_) (fun c4 => ?_)
  · replace hf := mj_neg c4 hf
    refine mj_aload_n 0 dX7_link_114 rfl ?_
    refine mj_getP p0_4_8 (by decide) fl_X7_33 rfl s0_4 a0_4 dX7_link_115 ?_
    refine mj_iload_n 1 dX7_link_118 rfl ?_
    obtain ⟨z5, hf⟩ := mj_ck hf
    refine mj_ialdv (x := r12) rfl s0_12 a0_12 z5 dX7_link_119 ?_
    refine mj_iconst dX7_link_120 kc_iconst_m1 ?_
    refine mj_icmp_ne 151 dX7_link_121 (by decide) (fun c6 => ?_) (fun c6 => ?_)
    · replace hf := mj_neg c6 hf
      refine mj_iinc 1 [(1, .int (x1 + (1))), (0, .ref 4), (2, .int x2)] dX7_link_151 rfl (kz_1 _) (by decide) rfl ?_
      refine mj_goto 29 dX7_link_154 (by decide) ?_
      refine mj_sub [1, 0] [(0, .ref 4), (1, .int (x1 + (1)))] rfl ?_
      obtain rfl := Option.some.inj hf
      have hZ := hc ((x1 + (1)), r11, r12) rfl
      replace hZ := mj_u2p hZ
      replace hZ := mj_u2p hZ
      exact hZ
    · replace hf := mj_pos c6 hf
      refine mj_iload_n 2 dX7_link_124 rfl ?_
      refine mj_iconst dX7_link_125 kc_iconst_2 ?_
      refine mj_icmp_eq 139 dX7_link_126 (by decide) (fun c7 => ?_) (fun c7 => ?_)
      · replace hf := mj_pos c7 hf
        refine mj_aload_n 0 dX7_link_139 rfl ?_
        refine mj_getP p0_4_8 (by decide) fl_X7_33 rfl s0_4 a0_4 dX7_link_140 ?_
        refine mj_iload_n 1 dX7_link_143 rfl ?_
        refine mj_aload_n 0 dX7_link_144 rfl ?_
        refine mj_getP p0_4_10 (by decide) fl_X7_39 rfl s0_4 a0_4 dX7_link_145 ?_
        refine mj_iload_n 1 dX7_link_148 rfl ?_
        obtain ⟨z8, hf⟩ := mj_ck hf
        refine mj_ialdv (x := r14) rfl s0_14 a0_14 z8 dX7_link_149 ?_
        obtain ⟨z9, hf⟩ := mj_ck hf
        refine mj_iastr [(4, r4), (5, r5), (11, r11), (12, (upd r12 x1.toNatClampNeg (r14 x1.toNatClampNeg))), (13, r13), (14, r14)] rfl s0_12 a0_12 z9 dX7_link_150 ?_
        refine mj_iinc 1 [(1, .int (x1 + (1))), (0, .ref 4), (2, .int x2)] dX7_link_151 rfl (kz_1 _) (by decide) rfl ?_
        refine mj_goto 29 dX7_link_154 (by decide) ?_
        refine mj_sub [1, 0] [(0, .ref 4), (1, .int (x1 + (1)))] rfl ?_
        obtain rfl := Option.some.inj hf
        have hZ := hc ((x1 + (1)), r11, (upd r12 x1.toNatClampNeg (r14 x1.toNatClampNeg))) rfl
        replace hZ := mj_u2p hZ
        replace hZ := mj_u2p hZ
        exact hZ
      · replace hf := mj_neg c7 hf
        refine mj_iload_n 2 dX7_link_129 rfl ?_
        refine mj_iconst dX7_link_130 kc_iconst_3 ?_
        refine mj_icmp_eq 139 dX7_link_131 (by decide) (fun c10 => ?_) (fun c10 => ?_)
        · replace hf := mj_pos c10 hf
          refine mj_aload_n 0 dX7_link_139 rfl ?_
          refine mj_getP p0_4_8 (by decide) fl_X7_33 rfl s0_4 a0_4 dX7_link_140 ?_
          refine mj_iload_n 1 dX7_link_143 rfl ?_
          refine mj_aload_n 0 dX7_link_144 rfl ?_
          refine mj_getP p0_4_10 (by decide) fl_X7_39 rfl s0_4 a0_4 dX7_link_145 ?_
          refine mj_iload_n 1 dX7_link_148 rfl ?_
          obtain ⟨z11, hf⟩ := mj_ck hf
          refine mj_ialdv (x := r14) rfl s0_14 a0_14 z11 dX7_link_149 ?_
          obtain ⟨z12, hf⟩ := mj_ck hf
          refine mj_iastr [(4, r4), (5, r5), (11, r11), (12, (upd r12 x1.toNatClampNeg (r14 x1.toNatClampNeg))), (13, r13), (14, r14)] rfl s0_12 a0_12 z12 dX7_link_150 ?_
          refine mj_iinc 1 [(1, .int (x1 + (1))), (0, .ref 4), (2, .int x2)] dX7_link_151 rfl (kz_1 _) (by decide) rfl ?_
          refine mj_goto 29 dX7_link_154 (by decide) ?_
          refine mj_sub [1, 0] [(0, .ref 4), (1, .int (x1 + (1)))] rfl ?_
          obtain rfl := Option.some.inj hf
          have hZ := hc ((x1 + (1)), r11, (upd r12 x1.toNatClampNeg (r14 x1.toNatClampNeg))) rfl
          replace hZ := mj_u2p hZ
          replace hZ := mj_u2p hZ
          exact hZ
        · replace hf := mj_neg c10 hf
          refine mj_iload_n 2 dX7_link_134 rfl ?_
          refine mj_iconst dX7_link_135 kc_iconst_4 ?_
          refine mj_icmp_ne 151 dX7_link_136 (by decide) (fun c13 => ?_) (fun c13 => ?_)
          · replace hf := mj_neg c13 hf
            refine mj_iinc 1 [(1, .int (x1 + (1))), (0, .ref 4), (2, .int x2)] dX7_link_151 rfl (kz_1 _) (by decide) rfl ?_
            refine mj_goto 29 dX7_link_154 (by decide) ?_
            refine mj_sub [1, 0] [(0, .ref 4), (1, .int (x1 + (1)))] rfl ?_
            obtain rfl := Option.some.inj hf
            have hZ := hc ((x1 + (1)), r11, r12) rfl
            replace hZ := mj_u2p hZ
            replace hZ := mj_u2p hZ
            exact hZ
          · replace hf := mj_pos c13 hf
            refine mj_aload_n 0 dX7_link_139 rfl ?_
            refine mj_getP p0_4_8 (by decide) fl_X7_33 rfl s0_4 a0_4 dX7_link_140 ?_
            refine mj_iload_n 1 dX7_link_143 rfl ?_
            refine mj_aload_n 0 dX7_link_144 rfl ?_
            refine mj_getP p0_4_10 (by decide) fl_X7_39 rfl s0_4 a0_4 dX7_link_145 ?_
            refine mj_iload_n 1 dX7_link_148 rfl ?_
            obtain ⟨z14, hf⟩ := mj_ck hf
            refine mj_ialdv (x := r14) rfl s0_14 a0_14 z14 dX7_link_149 ?_
            obtain ⟨z15, hf⟩ := mj_ck hf
            refine mj_iastr [(4, r4), (5, r5), (11, r11), (12, (upd r12 x1.toNatClampNeg (r14 x1.toNatClampNeg))), (13, r13), (14, r14)] rfl s0_12 a0_12 z15 dX7_link_150 ?_
            refine mj_iinc 1 [(1, .int (x1 + (1))), (0, .ref 4), (2, .int x2)] dX7_link_151 rfl (kz_1 _) (by decide) rfl ?_
            refine mj_goto 29 dX7_link_154 (by decide) ?_
            refine mj_sub [1, 0] [(0, .ref 4), (1, .int (x1 + (1)))] rfl ?_
            obtain rfl := Option.some.inj hf
            have hZ := hc ((x1 + (1)), r11, (upd r12 x1.toNatClampNeg (r14 x1.toNatClampNeg))) rfl
            replace hZ := mj_u2p hZ
            replace hZ := mj_u2p hZ
            exact hZ
  · replace hf := mj_pos c4 hf
    refine mj_aload_n 0 dX7_link_99 rfl ?_
    refine mj_getP p0_4_8 (by decide) fl_X7_33 rfl s0_4 a0_4 dX7_link_100 ?_
    refine mj_iload_n 1 dX7_link_103 rfl ?_
    refine mj_aload_n 0 dX7_link_104 rfl ?_
    refine mj_getIv (v := (r4 0)) rfl fl_X7_42 rfl s0_4 a0_4 dX7_link_105 ?_
    refine mj_iconst dX7_link_108 kc_iconst_1 ?_
    refine mj_iadd dX7_link_109 ?_
    obtain ⟨z16, hf⟩ := mj_ck hf
    refine mj_iastr [(4, r4), (5, r5), (11, r11), (12, (upd r12 x1.toNatClampNeg ((r4 0) + (1 : Int32)))), (13, r13), (14, r14)] rfl s0_12 a0_12 z16 dX7_link_110 ?_
    refine mj_goto 151 dX7_link_111 (by decide) ?_
    refine mj_iinc 1 [(1, .int (x1 + (1))), (0, .ref 4), (2, .int x2)] dX7_link_151 rfl (kz_1 _) (by decide) rfl ?_
    refine mj_goto 29 dX7_link_154 (by decide) ?_
    refine mj_sub [1, 0] [(0, .ref 4), (1, .int (x1 + (1)))] rfl ?_
    obtain rfl := Option.some.inj hf
    have hZ := hc ((x1 + (1)), r11, (upd r12 x1.toNatClampNeg ((r4 0) + (1 : Int32)))) rfl
    replace hZ := mj_u2p hZ
    replace hZ := mj_u2p hZ
    exact hZ
set_option maxRecDepth 100000 in
set_option maxHeartbeats 4000000 in
theorem jtX7_link_4_93 {X : mj_XT} {l : Launch} {G : mj_GT} {ad : Nat → Nat} {Qn : Option Value → mj_IT → mj_LT → Prop} (hR : mj_R X l G mj_P0 mj_S0 98 ad 0 0 Qn) (F : Nat) (I : mj_IT) (L : mj_LT) (r4 : Nat → Int32) (r5 : Nat → Int32) (r11 : Nat → Int32) (r12 : Nat → Int32) (r13 : Nat → Int32) (r14 : Nat → Int32) (x1 : Int32) (x2 : Int32) (t1 : Int32) (t2 : Int32) (o : (((Int32) × (Nat → Int32) × (Nat → Int32)) ⊕ ((Nat → Int32) × (Nat → Int32)))) (hf : jnX7_link_4_93 F r4 r5 r14 x1 x2 t1 t2 r11 r12 = some o) (hc : ∀ s2 : ((Int32) × (Nat → Int32) × (Nat → Int32)), o = .inl s2 → (mj_u2 (fun x1 => (mj_u2 (fun r11 r12 => mj_W X G RX7 "link" cX7_link 3 2 none mj_P0 mj_S0 98 ad 0 0 29 [(0, .ref 4), (1, .int x1)] [] (mj_rows I [(4, r4), (5, r5), (11, r11), (12, r12), (13, r13), (14, r14)]) L)))) s2) (hx : ∀ e2 : ((Nat → Int32) × (Nat → Int32)), o = .inr e2 → (mj_u2 (fun r11 r12 => mj_W X G RX7 "link" cX7_link 3 2 none mj_P0 mj_S0 98 ad 0 0 157 [] [] (mj_rows I [(4, r4), (5, r5), (11, r11), (12, r12), (13, r13), (14, r14)]) L)) e2) : mj_W X G RX7 "link" cX7_link 3 2 none mj_P0 mj_S0 98 ad 0 0 93 [(0, .ref 4), (1, .int x1), (2, .int x2)] [.int t2, .int t1, .ref 11] (mj_rows I [(4, r4), (5, r5), (11, r11), (12, r12), (13, r13), (14, r14)]) L := by
  unfold jnX7_link_4_93 at hf
  obtain ⟨z17, hf⟩ := mj_ck hf
  refine mj_iastr [(4, r4), (5, r5), (11, (upd r11 t1.toNatClampNeg t2)), (12, r12), (13, r13), (14, r14)] rfl s0_11 a0_11 z17 dX7_link_93 ?_
  exact jtX7_link_4_94 hR F I L r4 r5 (upd r11 t1.toNatClampNeg t2) r12 r13 r14 x1 x2 o hf hc hx
set_option maxRecDepth 100000 in
set_option maxHeartbeats 4000000 in
theorem lpX7_link_4_29 {X : mj_XT} {l : Launch} {G : mj_GT} {ad : Nat → Nat} {Qn : Option Value → mj_IT → mj_LT → Prop} (hR : mj_R X l G mj_P0 mj_S0 98 ad 0 0 Qn) (F : Nat) (I : mj_IT) (L : mj_LT) (r4 : Nat → Int32) (r5 : Nat → Int32) (r11 : Nat → Int32) (r12 : Nat → Int32) (r13 : Nat → Int32) (r14 : Nat → Int32) : ∀ (n : Nat) (s : ((Int32) × (Nat → Int32) × (Nat → Int32))) (e : ((Nat → Int32) × (Nat → Int32))), mj_it (mj_u2 (fun z0 => (mj_u2 (fun z1 z2 => bdX7_link_4_29 F r4 r5 r14 z0 z1 z2)))) n s = some e → (mj_u2 (fun r11 r12 => mj_W X G RX7 "link" cX7_link 3 2 none mj_P0 mj_S0 98 ad 0 0 157 [] [] (mj_rows I [(4, r4), (5, r5), (11, r11), (12, r12), (13, r13), (14, r14)]) L)) e → (mj_u2 (fun x1 => (mj_u2 (fun r11 r12 => mj_W X G RX7 "link" cX7_link 3 2 none mj_P0 mj_S0 98 ad 0 0 29 [(0, .ref 4), (1, .int x1)] [] (mj_rows I [(4, r4), (5, r5), (11, r11), (12, r12), (13, r13), (14, r14)]) L)))) s := by
  refine mj_loop (fun s o hf hc hx => ?_)
  obtain ⟨x1, r11, r12⟩ := s
  replace hf := mj_u2e hf
  refine mj_u2q ?_
  replace hf := mj_u2e hf
  refine mj_u2q ?_
  unfold bdX7_link_4_29 at hf
  refine mj_iload_n 1 dX7_link_29 rfl ?_
  refine mj_aload_n 0 dX7_link_30 rfl ?_
  refine mj_getIv (v := (r4 0)) rfl fl_X7_42 rfl s0_4 a0_4 dX7_link_31 ?_
  refine mj_icmp_ge 157 dX7_link_34 (by decide) (fun c18 => ?_) (fun c18 => ?_)
  · replace hf := mj_pos c18 hf
    refine mj_sub [] [] rfl ?_
    obtain rfl := Option.some.inj hf
    have hZ := hx (r11, r12) rfl
    replace hZ := mj_u2p hZ
    exact hZ
  · replace hf := mj_neg c18 hf
    refine mj_aload_n 0 dX7_link_37 rfl ?_
    refine mj_getP p0_4_1 (by decide) fl_X7_9 rfl s0_4 a0_4 dX7_link_38 ?_
    refine mj_iload_n 1 dX7_link_41 rfl ?_
    obtain ⟨z19, hf⟩ := mj_ck hf
    refine mj_ialdv (x := r5) rfl s0_5 a0_5 z19 dX7_link_42 ?_
    refine mj_istore_n [(2, .int (r5 x1.toNatClampNeg)), (0, .ref 4), (1, .int x1)] dX7_link_43 rfl (by decide) rfl ?_
    refine mj_iload_n 0 dX7_link_44 rfl ?_
    refine mj_bipush dX7_link_45 kc_bipush_6 ?_
    refine mj_icmp_ne 63 dX7_link_47 (by decide) (fun c20 => ?_) (fun c20 => ?_)
    · replace hf := mj_neg c20 hf
      refine mj_aload_n 1 dX7_link_63 rfl ?_
      refine mj_getP p0_4_7 (by decide) fl_X7_30 rfl s0_4 a0_4 dX7_link_64 ?_
      refine mj_iload_n 2 dX7_link_67 rfl ?_
      obtain ⟨z21, hf⟩ := mj_ck hf
      refine mj_ialdv (x := r11) rfl s0_11 a0_11 z21 dX7_link_68 ?_
      refine mj_iconst dX7_link_69 kc_iconst_m1 ?_
      refine mj_icmp_ne 94 dX7_link_70 (by decide) (fun c22 => ?_) (fun c22 => ?_)
      · replace hf := mj_neg c22 hf
        refine mj_sub [1, 2, 0] [(0, .ref 4), (1, .int x1), (2, .int (r5 x1.toNatClampNeg))] rfl ?_
        exact jtX7_link_4_94 hR F I L r4 r5 r11 r12 r13 r14 x1 (r5 x1.toNatClampNeg) o hf hc hx
      · replace hf := mj_pos c22 hf
        refine mj_aload_n 1 dX7_link_73 rfl ?_
        refine mj_getP p0_4_7 (by decide) fl_X7_30 rfl s0_4 a0_4 dX7_link_74 ?_
        refine mj_iload_n 2 dX7_link_77 rfl ?_
        refine mj_iload_n 0 dX7_link_78 rfl ?_
        refine mj_iconst dX7_link_79 kc_iconst_4 ?_
        refine mj_icmp_ne 87 dX7_link_80 (by decide) (fun c23 => ?_) (fun c23 => ?_)
        · replace hf := mj_neg c23 hf
          refine mj_aload_n 1 dX7_link_87 rfl ?_
          refine mj_getP p0_4_10 (by decide) fl_X7_39 rfl s0_4 a0_4 dX7_link_88 ?_
          refine mj_iload_n 2 dX7_link_91 rfl ?_
          obtain ⟨z24, hf⟩ := mj_ck hf
          refine mj_ialdv (x := r14) rfl s0_14 a0_14 z24 dX7_link_92 ?_
          refine mj_sub [1, 2, 0] [(0, .ref 4), (1, .int x1), (2, .int (r5 x1.toNatClampNeg))] rfl ?_
          exact jtX7_link_4_93 hR F I L r4 r5 r11 r12 r13 r14 x1 (r5 x1.toNatClampNeg) x1 (r14 x1.toNatClampNeg) o hf hc hx
        · replace hf := mj_pos c23 hf
          refine mj_iload_n 2 dX7_link_83 rfl ?_
          refine mj_goto 93 dX7_link_84 (by decide) ?_
          refine mj_sub [1, 2, 0] [(0, .ref 4), (1, .int x1), (2, .int (r5 x1.toNatClampNeg))] rfl ?_
          exact jtX7_link_4_93 hR F I L r4 r5 r11 r12 r13 r14 x1 (r5 x1.toNatClampNeg) x1 x1 o hf hc hx
    · replace hf := mj_pos c20 hf
      refine mj_aload_n 1 dX7_link_50 rfl ?_
      refine mj_getP p0_4_7 (by decide) fl_X7_30 rfl s0_4 a0_4 dX7_link_51 ?_
      refine mj_iload_n 2 dX7_link_54 rfl ?_
      refine mj_aload_n 1 dX7_link_55 rfl ?_
      refine mj_getIv (v := (r4 0)) rfl fl_X7_42 rfl s0_4 a0_4 dX7_link_56 ?_
      obtain ⟨z25, hf⟩ := mj_ck hf
      refine mj_iastr [(4, r4), (5, r5), (11, (upd r11 x1.toNatClampNeg (r4 0))), (12, r12), (13, r13), (14, r14)] rfl s0_11 a0_11 z25 dX7_link_59 ?_
      refine mj_goto 94 dX7_link_60 (by decide) ?_
      refine mj_sub [1, 2, 0] [(0, .ref 4), (1, .int x1), (2, .int (r5 x1.toNatClampNeg))] rfl ?_
      exact jtX7_link_4_94 hR F I L r4 r5 (upd r11 x1.toNatClampNeg (r4 0)) r12 r13 r14 x1 (r5 x1.toNatClampNeg) o hf hc hx
set_option maxRecDepth 100000 in
set_option maxHeartbeats 4000000 in
theorem mtX7_link_4 {X : mj_XT} {l : Launch} {G : mj_GT} {ad : Nat → Nat} {Qn : Option Value → mj_IT → mj_LT → Prop} (hR : mj_R X l G mj_P0 mj_S0 98 ad 0 0 Qn) (F : Nat) (I : mj_IT) (L : mj_LT) (r4 : Nat → Int32) (r5 : Nat → Int32) (r11 : Nat → Int32) (r12 : Nat → Int32) (r13 : Nat → Int32) (r14 : Nat → Int32) (o : ((Nat → Int32) × (Nat → Int32) × (Nat → Int32))) (hf : fnX7_link_4 F r4 r5 r11 r12 r13 r14 = some o) (hq : (mj_u2 (fun r11 => (mj_u2 (fun r12 r14 => Qn none (mj_rows I [(4, r4), (5, r5), (11, r11), (12, r12), (13, r13), (14, r14)]) L)))) o) : mj_W X G RX7 "link" cX7_link 3 2 none mj_P0 mj_S0 98 ad 0 0 0 [(0, .ref 4)] [] (mj_rows I [(4, r4), (5, r5), (11, r11), (12, r12), (13, r13), (14, r14)]) L := by
  unfold fnX7_link_4 at hf
  refine mj_iconst dX7_link_0 kc_iconst_0 ?_
  refine mj_istore_n [(1, .int (0 : Int32)), (0, .ref 4)] dX7_link_1 rfl (by decide) rfl ?_
  refine mj_sub [1, 0] [(0, .ref 4), (1, .int (0 : Int32))] rfl ?_
  obtain ⟨r14_26, ho26, hf⟩ := mj_bd hf
  refine lpX7_link_4_2 hR F I L r4 r5 r11 r12 r13 r14 F ((0 : Int32), r14) r14_26 ho26 ?_
  refine ?_
  refine mj_iconst dX7_link_27 kc_iconst_0 ?_
  refine mj_istore_n [(1, .int (0 : Int32)), (0, .ref 4)] dX7_link_28 rfl (by decide) rfl ?_
  refine mj_sub [1, 0] [(0, .ref 4), (1, .int (0 : Int32))] rfl ?_
  obtain ⟨e27, ho27, hf⟩ := mj_bd hf
  refine lpX7_link_4_29 hR F I L r4 r5 r11 r12 r13 r14_26 F ((0 : Int32), r11, r12) e27 ho27 ?_
  obtain ⟨r11_27, r12_27⟩ := e27
  replace hf := mj_u2e hf
  refine ?_
  refine mj_u2q ?_
  obtain rfl := Option.some.inj hf
  have hZ := hq
  replace hZ := mj_u2p hZ
  replace hZ := mj_u2p hZ
  exact mj_vret hR ⟨Nat.le_refl _, Nat.le_refl _⟩ rfl dX7_link_157 hZ
set_option maxRecDepth 100000 in
set_option maxHeartbeats 4000000 in
theorem cmX7_link_4 (l : Launch) (G : mj_GT) (F : Nat) (I : mj_IT) (L : mj_LT) (r4 : Nat → Int32) (r5 : Nat → Int32) (r11 : Nat → Int32) (r12 : Nat → Int32) (r13 : Nat → Int32) (r14 : Nat → Int32) (hr4 : I 4 = r4) (hr5 : I 5 = r5) (hr11 : I 11 = r11) (hr12 : I 12 = r12) (hr13 : I 13 = r13) (hr14 : I 14 = r14) (o : ((Nat → Int32) × (Nat → Int32) × (Nat → Int32))) (hf : fnX7_link_4 F r4 r5 r11 r12 r13 r14 = some o) : mj_M l G yX7_link cX7_link 3 2 none 0 0 mj_P0 mj_S0 98 [.ref 4] I L (mj_qd none (mj_rows I [(4, r4), (5, r5), (11, o.1), (12, o.2.1), (13, r13), (14, o.2.2)]) L) := by
  refine mj_in RX7 "link" [(0, .ref 4)] rfl rfl rfl (by decide) (Nat.le_of_ble_eq_true rfl) (fun X ad hR => ?_)
  refine mj_toI [(4, r4), (5, r5), (11, r11), (12, r12), (13, r13), (14, r14)] (by intro q hq; simp only [List.mem_cons, List.not_mem_nil, or_false] at hq; rcases hq with rfl | rfl | rfl | rfl | rfl | rfl <;> assumption) ?_
  refine mtX7_link_4 hR F I L r4 r5 r11 r12 r13 r14 o hf ?_
  obtain ⟨w0, w1, w2⟩ := o
  refine mj_u2q ?_
  refine mj_u2q ?_
  exact ⟨rfl, rfl, rfl⟩

-- X8_read
def jnX8_read_93 (F : Nat) (r3 : Nat → Int32) (x2 : Int32) (r2 : Nat → Int32) (r4 : Nat → Int32) (r5 : Nat → Int32) (r6 : Nat → Int32) (r7 : Nat → Int32) (r8 : Nat → Int32) (r9 : Nat → Int32) (r10 : Nat → Int32) (r11 : Nat → Int32) (r12 : Nat → Int32) (r13 : Nat → Int32) (r14 : Nat → Int32) (r15 : Nat → Int32) (r16 : Nat → Int32) (r17 : Nat → Int32) : Option (((Int32) × (Nat → Int32) × (Nat → Int32) × (Nat → Int32) × (Nat → Int32) × (Nat → Int32) × (Nat → Int32) × (Nat → Int32) × (Nat → Int32) × (Nat → Int32) × (Nat → Int32) × (Nat → Int32) × (Nat → Int32) × (Nat → Int32) × (Nat → Int32) × (Nat → Int32)) ⊕ ((Nat → Int32) × (Nat → Int32) × (Nat → Int32) × (Nat → Int32) × (Nat → Int32) × (Nat → Int32) × (Nat → Int32) × (Nat → Int32) × (Nat → Int32) × (Nat → Int32) × (Nat → Int32) × (Nat → Int32) × (Nat → Int32) × (Nat → Int32) × (Nat → Int32))) := (if (r2 10) ≤ 0 then (fnX8_readStatement F r2 r3 r4 r5 r6 r7 r8 r9 r10 r11 r12 r13 r14 r15 r16 r17).bind (fun o2 => some (.inl ((x2 + (1)), o2.1, o2.2.1, o2.2.2.1, o2.2.2.2.1, o2.2.2.2.2.1, o2.2.2.2.2.2.1, o2.2.2.2.2.2.2.1, o2.2.2.2.2.2.2.2.1, o2.2.2.2.2.2.2.2.2.1, o2.2.2.2.2.2.2.2.2.2.1, o2.2.2.2.2.2.2.2.2.2.2.1, o2.2.2.2.2.2.2.2.2.2.2.2.1, o2.2.2.2.2.2.2.2.2.2.2.2.2.1, o2.2.2.2.2.2.2.2.2.2.2.2.2.2.1, o2.2.2.2.2.2.2.2.2.2.2.2.2.2.2))) else (fnX8_isSign F r2 r3 (125 : Int32)).bind (fun o3 => (if o3 = 0 then (fnX8_readStatement F r2 r3 r4 r5 r6 r7 r8 r9 r10 r11 r12 r13 r14 r15 r16 r17).bind (fun o5 => some (.inl ((x2 + (1)), o5.1, o5.2.1, o5.2.2.1, o5.2.2.2.1, o5.2.2.2.2.1, o5.2.2.2.2.2.1, o5.2.2.2.2.2.2.1, o5.2.2.2.2.2.2.2.1, o5.2.2.2.2.2.2.2.2.1, o5.2.2.2.2.2.2.2.2.2.1, o5.2.2.2.2.2.2.2.2.2.2.1, o5.2.2.2.2.2.2.2.2.2.2.2.1, o5.2.2.2.2.2.2.2.2.2.2.2.2.1, o5.2.2.2.2.2.2.2.2.2.2.2.2.2.1, o5.2.2.2.2.2.2.2.2.2.2.2.2.2.2))) else (fnX8_closeBlock F r2 r3 r5 r15 r16 r17).bind (fun o6 => some (.inl ((x2 + (1)), o6.1, r4, r5, r6, r7, r8, r9, r10, r11, r12, r13, r14, o6.2.1, o6.2.2.1, o6.2.2.2))))))
def bdX8_read_64 (F : Nat) (r3 : Nat → Int32) (x2 : Int32) (r2 : Nat → Int32) (r4 : Nat → Int32) (r5 : Nat → Int32) (r6 : Nat → Int32) (r7 : Nat → Int32) (r8 : Nat → Int32) (r9 : Nat → Int32) (r10 : Nat → Int32) (r11 : Nat → Int32) (r12 : Nat → Int32) (r13 : Nat → Int32) (r14 : Nat → Int32) (r15 : Nat → Int32) (r16 : Nat → Int32) (r17 : Nat → Int32) : Option (((Int32) × (Nat → Int32) × (Nat → Int32) × (Nat → Int32) × (Nat → Int32) × (Nat → Int32) × (Nat → Int32) × (Nat → Int32) × (Nat → Int32) × (Nat → Int32) × (Nat → Int32) × (Nat → Int32) × (Nat → Int32) × (Nat → Int32) × (Nat → Int32) × (Nat → Int32)) ⊕ ((Nat → Int32) × (Nat → Int32) × (Nat → Int32) × (Nat → Int32) × (Nat → Int32) × (Nat → Int32) × (Nat → Int32) × (Nat → Int32) × (Nat → Int32) × (Nat → Int32) × (Nat → Int32) × (Nat → Int32) × (Nat → Int32) × (Nat → Int32) × (Nat → Int32))) := (if (r2 3) < x2 then some (.inr (r2, r4, r5, r6, r7, r8, r9, r10, r11, r12, r13, r14, r15, r16, r17)) else (if (r2 8) = 0 then (if 0 < (r2 10) then jnX8_read_93 F r3 x2 r2 r4 r5 r6 r7 r8 r9 r10 r11 r12 r13 r14 r15 r16 r17 else (if (r2 4) = 0 then some (.inr (r2, r4, r5, r6, r7, r8, r9, r10, r11, r12, r13, r14, r15, r16, r17)) else jnX8_read_93 F r3 x2 r2 r4 r5 r6 r7 r8 r9 r10 r11 r12 r13 r14 r15 r16 r17)) else some (.inr (r2, r4, r5, r6, r7, r8, r9, r10, r11, r12, r13, r14, r15, r16, r17))))
def fnX8_read (F : Nat) (r2 : Nat → Int32) (r3 : Nat → Int32) (r4 : Nat → Int32) (r5 : Nat → Int32) (r6 : Nat → Int32) (r7 : Nat → Int32) (r8 : Nat → Int32) (r9 : Nat → Int32) (r10 : Nat → Int32) (r11 : Nat → Int32) (r12 : Nat → Int32) (r13 : Nat → Int32) (r14 : Nat → Int32) (r15 : Nat → Int32) (r16 : Nat → Int32) (r17 : Nat → Int32) (x1 : Int32) : Option ((Int32) × (Nat → Int32) × (Nat → Int32) × (Nat → Int32) × (Nat → Int32) × (Nat → Int32) × (Nat → Int32) × (Nat → Int32) × (Nat → Int32) × (Nat → Int32) × (Nat → Int32) × (Nat → Int32) × (Nat → Int32) × (Nat → Int32) × (Nat → Int32) × (Nat → Int32)) := (if mj_ib (0 : Int32) 7 = true then (if mj_ib (0 : Int32) 7 = true then (fnX7_clear_4 F r4).bind (fun o13 => (fnX8_goOn F (upd (upd (upd (upd (upd (upd r2 3 (if (r2 0) < x1 then (r2 0) else x1)) 0 (0 : Int32)) 6 (0 : Int32)) 8 (0 : Int32)) 9 (-1 : Int32)) 10 (0 : Int32)) r3).bind (fun o14 => (mj_it (mj_u2 (fun z0 => (mj_u2 (fun z1 => (mj_u2 (fun z2 => (mj_u2 (fun z3 => (mj_u2 (fun z4 => (mj_u2 (fun z5 => (mj_u2 (fun z6 => (mj_u2 (fun z7 => (mj_u2 (fun z8 => (mj_u2 (fun z9 => (mj_u2 (fun z10 => (mj_u2 (fun z11 => (mj_u2 (fun z12 => (mj_u2 (fun z13 => (mj_u2 (fun z14 z15 => bdX8_read_64 F r3 z0 z1 z2 z3 z4 z5 z6 z7 z8 z9 z10 z11 z12 z13 z14 z15)))))))))))))))))))))))))))))) F ((0 : Int32), o14, o13, r5, r6, r7, r8, r9, r10, r11, r12, r13, r14, (upd r15 ((0 : Int32).toNatClampNeg) (-1 : Int32)), (upd r16 ((0 : Int32).toNatClampNeg) (-1 : Int32)), r17)).bind (mj_u2 (fun r2_15 => (mj_u2 (fun r4_15 => (mj_u2 (fun r5_15 => (mj_u2 (fun r6_15 => (mj_u2 (fun r7_15 => (mj_u2 (fun r8_15 => (mj_u2 (fun r9_15 => (mj_u2 (fun r10_15 => (mj_u2 (fun r11_15 => (mj_u2 (fun r12_15 => (mj_u2 (fun r13_15 => (mj_u2 (fun r14_15 => (mj_u2 (fun r15_15 => (mj_u2 (fun r16_15 r17_15 => (if (r2_15 8) = 0 then (fnX7_link_4 F r4_15 r5_15 r11_15 r12_15 r13_15 r14_15).bind (fun o17 => some ((r2_15 8), r2_15, r4_15, r5_15, r6_15, r7_15, r8_15, r9_15, r10_15, o17.1, o17.2.1, r13_15, o17.2.2, r15_15, r16_15, r17_15)) else some ((r2_15 8), r2_15, r4_15, r5_15, r6_15, r7_15, r8_15, r9_15, r10_15, r11_15, r12_15, r13_15, r14_15, r15_15, r16_15, r17_15)))))))))))))))))))))))))))))))) else none) else none)
set_option maxRecDepth 100000 in
set_option maxHeartbeats 4000000 in
theorem jtX8_read_93 {X : mj_XT} {l : Launch} {G : mj_GT} {ad : Nat → Nat} {Qn : Option Value → mj_IT → mj_LT → Prop} (hR : mj_R X l G mj_P0 mj_S0 98 ad 0 0 Qn) (F : Nat) (I : mj_IT) (L : mj_LT) (r2 : Nat → Int32) (r3 : Nat → Int32) (r4 : Nat → Int32) (r5 : Nat → Int32) (r6 : Nat → Int32) (r7 : Nat → Int32) (r8 : Nat → Int32) (r9 : Nat → Int32) (r10 : Nat → Int32) (r11 : Nat → Int32) (r12 : Nat → Int32) (r13 : Nat → Int32) (r14 : Nat → Int32) (r15 : Nat → Int32) (r16 : Nat → Int32) (r17 : Nat → Int32) (x2 : Int32) (o : (((Int32) × (Nat → Int32) × (Nat → Int32) × (Nat → Int32) × (Nat → Int32) × (Nat → Int32) × (Nat → Int32) × (Nat → Int32) × (Nat → Int32) × (Nat → Int32) × (Nat → Int32) × (Nat → Int32) × (Nat → Int32) × (Nat → Int32) × (Nat → Int32) × (Nat → Int32)) ⊕ ((Nat → Int32) × (Nat → Int32) × (Nat → Int32) × (Nat → Int32) × (Nat → Int32) × (Nat → Int32) × (Nat → Int32) × (Nat → Int32) × (Nat → Int32) × (Nat → Int32) × (Nat → Int32) × (Nat → Int32) × (Nat → Int32) × (Nat → Int32) × (Nat → Int32)))) (hf : jnX8_read_93 F r3 x2 r2 r4 r5 r6 r7 r8 r9 r10 r11 r12 r13 r14 r15 r16 r17 = some o) (hc : ∀ s2 : ((Int32) × (Nat → Int32) × (Nat → Int32) × (Nat → Int32) × (Nat → Int32) × (Nat → Int32) × (Nat → Int32) × (Nat → Int32) × (Nat → Int32) × (Nat → Int32) × (Nat → Int32) × (Nat → Int32) × (Nat → Int32) × (Nat → Int32) × (Nat → Int32) × (Nat → Int32)), o = .inl s2 → (mj_u2 (fun x2 => (mj_u2 (fun r2 => (mj_u2 (fun r4 => (mj_u2 (fun r5 => (mj_u2 (fun r6 => (mj_u2 (fun r7 => (mj_u2 (fun r8 => (mj_u2 (fun r9 => (mj_u2 (fun r10 => (mj_u2 (fun r11 => (mj_u2 (fun r12 => (mj_u2 (fun r13 => (mj_u2 (fun r14 => (mj_u2 (fun r15 => (mj_u2 (fun r16 r17 => mj_W X G RX8 "read" cX8_read 3 8 (some .int) mj_P0 mj_S0 98 ad 0 0 64 [(0, .ref 2), (2, .int x2)] [] (mj_rows I [(2, r2), (3, r3), (4, r4), (5, r5), (6, r6), (7, r7), (8, r8), (9, r9), (10, r10), (11, r11), (12, r12), (13, r13), (14, r14), (15, r15), (16, r16), (17, r17)]) L)))))))))))))))))))))))))))))) s2) (hx : ∀ e2 : ((Nat → Int32) × (Nat → Int32) × (Nat → Int32) × (Nat → Int32) × (Nat → Int32) × (Nat → Int32) × (Nat → Int32) × (Nat → Int32) × (Nat → Int32) × (Nat → Int32) × (Nat → Int32) × (Nat → Int32) × (Nat → Int32) × (Nat → Int32) × (Nat → Int32)), o = .inr e2 → (mj_u2 (fun r2 => (mj_u2 (fun r4 => (mj_u2 (fun r5 => (mj_u2 (fun r6 => (mj_u2 (fun r7 => (mj_u2 (fun r8 => (mj_u2 (fun r9 => (mj_u2 (fun r10 => (mj_u2 (fun r11 => (mj_u2 (fun r12 => (mj_u2 (fun r13 => (mj_u2 (fun r14 => (mj_u2 (fun r15 => (mj_u2 (fun r16 r17 => mj_W X G RX8 "read" cX8_read 3 8 (some .int) mj_P0 mj_S0 98 ad 0 0 126 [(0, .ref 2)] [] (mj_rows I [(2, r2), (3, r3), (4, r4), (5, r5), (6, r6), (7, r7), (8, r8), (9, r9), (10, r10), (11, r11), (12, r12), (13, r13), (14, r14), (15, r15), (16, r16), (17, r17)]) L)))))))))))))))))))))))))))) e2) : mj_W X G RX8 "read" cX8_read 3 8 (some .int) mj_P0 mj_S0 98 ad 0 0 93 [(0, .ref 2), (2, .int x2)] [] (mj_rows I [(2, r2), (3, r3), (4, r4), (5, r5), (6, r6), (7, r7), (8, r8), (9, r9), (10, r10), (11, r11), (12, r12), (13, r13), (14, r14), (15, r15), (16, r16), (17, r17)]) L := by
  unfold jnX8_read_93 at hf
  refine mj_aload_n 0 dX8_read_93 rfl ?_
  refine mj_getIv (v := (r2 10)) rfl fl_X8_54 rfl s0_2 a0_2 dX8_read_94 ?_
  refine mj_if_le 116 dX8_read_97 (by decide) (fun c1 => ?_) (fun c1 => ?_)
  · replace hf := mj_pos c1 hf
    refine mj_aload_n 0 dX8_read_116 rfl ?_
    obtain ⟨o2, ho2, hf⟩ := mj_bd hf
    refine mj_callVd (I2 := (mj_rows I [(2, o2.1), (3, r3), (4, o2.2.1), (5, o2.2.2.1), (6, o2.2.2.2.1), (7, o2.2.2.2.2.1), (8, o2.2.2.2.2.2.1), (9, o2.2.2.2.2.2.2.1), (10, o2.2.2.2.2.2.2.2.1), (11, o2.2.2.2.2.2.2.2.2.1), (12, o2.2.2.2.2.2.2.2.2.2.1), (13, o2.2.2.2.2.2.2.2.2.2.2.1), (14, o2.2.2.2.2.2.2.2.2.2.2.2.1), (15, o2.2.2.2.2.2.2.2.2.2.2.2.2.1), (16, o2.2.2.2.2.2.2.2.2.2.2.2.2.2.1), (17, o2.2.2.2.2.2.2.2.2.2.2.2.2.2.2)])) (L2 := L) (s1 := []) (st := []) [] (cmX8_readStatement X.2.1 G F  _ _ r2 r3 r4 r5 r6 r7 r8 r9 r10 r11 r12 r13 r14 r15 r16 r17 rfl rfl rfl rfl rfl rfl rfl rfl rfl rfl rfl rfl rfl rfl rfl rfl o2 ho2) (mj_rr rfl) rfl cw_X8_73 s0_2 a0_2 (by decide) rfl rfl (Nat.le_of_ble_eq_true rfl) ⟨Nat.zero_le _, Nat.zero_le _⟩ dX8_read_117 rfl ?_
    refine mj_iinc 1 [(2, .int (x2 + (1))), (0, .ref 2)] dX8_read_120 rfl (kz_1 _) (by decide) rfl ?_
    refine mj_goto 64 dX8_read_123 (by decide) ?_
    refine mj_sub [1, 0] [(0, .ref 2), (2, .int (x2 + (1)))] rfl ?_
    obtain rfl := Option.some.inj hf
    have hZ := hc ((x2 + (1)), o2.1, o2.2.1, o2.2.2.1, o2.2.2.2.1, o2.2.2.2.2.1, o2.2.2.2.2.2.1, o2.2.2.2.2.2.2.1, o2.2.2.2.2.2.2.2.1, o2.2.2.2.2.2.2.2.2.1, o2.2.2.2.2.2.2.2.2.2.1, o2.2.2.2.2.2.2.2.2.2.2.1, o2.2.2.2.2.2.2.2.2.2.2.2.1, o2.2.2.2.2.2.2.2.2.2.2.2.2.1, o2.2.2.2.2.2.2.2.2.2.2.2.2.2.1, o2.2.2.2.2.2.2.2.2.2.2.2.2.2.2) rfl
    replace hZ := mj_u2p hZ
    replace hZ := mj_u2p hZ
    replace hZ := mj_u2p hZ
    replace hZ := mj_u2p hZ
    replace hZ := mj_u2p hZ
    replace hZ := mj_u2p hZ
    replace hZ := mj_u2p hZ
    replace hZ := mj_u2p hZ
    replace hZ := mj_u2p hZ
    replace hZ := mj_u2p hZ
    replace hZ := mj_u2p hZ
    replace hZ := mj_u2p hZ
    replace hZ := mj_u2p hZ
    replace hZ := mj_u2p hZ
    replace hZ := mj_u2p hZ
    exact hZ
  · replace hf := mj_neg c1 hf
    refine mj_aload_n 0 dX8_read_100 rfl ?_
    refine mj_bipush dX8_read_101 kc_bipush_125 ?_
    obtain ⟨o3, ho3, hf⟩ := mj_bd hf
    refine mj_callVd (I2 := (mj_rows I [(2, r2), (3, r3), (4, r4), (5, r5), (6, r6), (7, r7), (8, r8), (9, r9), (10, r10), (11, r11), (12, r12), (13, r13), (14, r14), (15, r15), (16, r16), (17, r17)])) (L2 := L) (s1 := [.int o3]) (st := []) [.int (125 : Int32)] (cmX8_isSign X.2.1 G F (125 : Int32) _ _ r2 r3 rfl rfl o3 ho3) (mj_rr rfl) rfl cw_X8_66 s0_2 a0_2 (by decide) rfl rfl (Nat.le_of_ble_eq_true rfl) ⟨Nat.zero_le _, Nat.zero_le _⟩ dX8_read_103 rfl ?_
    refine mj_if_eq 116 dX8_read_106 (by decide) (fun c4 => ?_) (fun c4 => ?_)
    · replace hf := mj_pos c4 hf
      refine mj_aload_n 0 dX8_read_116 rfl ?_
      obtain ⟨o5, ho5, hf⟩ := mj_bd hf
      refine mj_callVd (I2 := (mj_rows I [(2, o5.1), (3, r3), (4, o5.2.1), (5, o5.2.2.1), (6, o5.2.2.2.1), (7, o5.2.2.2.2.1), (8, o5.2.2.2.2.2.1), (9, o5.2.2.2.2.2.2.1), (10, o5.2.2.2.2.2.2.2.1), (11, o5.2.2.2.2.2.2.2.2.1), (12, o5.2.2.2.2.2.2.2.2.2.1), (13, o5.2.2.2.2.2.2.2.2.2.2.1), (14, o5.2.2.2.2.2.2.2.2.2.2.2.1), (15, o5.2.2.2.2.2.2.2.2.2.2.2.2.1), (16, o5.2.2.2.2.2.2.2.2.2.2.2.2.2.1), (17, o5.2.2.2.2.2.2.2.2.2.2.2.2.2.2)])) (L2 := L) (s1 := []) (st := []) [] (cmX8_readStatement X.2.1 G F  _ _ r2 r3 r4 r5 r6 r7 r8 r9 r10 r11 r12 r13 r14 r15 r16 r17 rfl rfl rfl rfl rfl rfl rfl rfl rfl rfl rfl rfl rfl rfl rfl rfl o5 ho5) (mj_rr rfl) rfl cw_X8_73 s0_2 a0_2 (by decide) rfl rfl (Nat.le_of_ble_eq_true rfl) ⟨Nat.zero_le _, Nat.zero_le _⟩ dX8_read_117 rfl ?_
      refine mj_iinc 1 [(2, .int (x2 + (1))), (0, .ref 2)] dX8_read_120 rfl (kz_1 _) (by decide) rfl ?_
      refine mj_goto 64 dX8_read_123 (by decide) ?_
      refine mj_sub [1, 0] [(0, .ref 2), (2, .int (x2 + (1)))] rfl ?_
      obtain rfl := Option.some.inj hf
      have hZ := hc ((x2 + (1)), o5.1, o5.2.1, o5.2.2.1, o5.2.2.2.1, o5.2.2.2.2.1, o5.2.2.2.2.2.1, o5.2.2.2.2.2.2.1, o5.2.2.2.2.2.2.2.1, o5.2.2.2.2.2.2.2.2.1, o5.2.2.2.2.2.2.2.2.2.1, o5.2.2.2.2.2.2.2.2.2.2.1, o5.2.2.2.2.2.2.2.2.2.2.2.1, o5.2.2.2.2.2.2.2.2.2.2.2.2.1, o5.2.2.2.2.2.2.2.2.2.2.2.2.2.1, o5.2.2.2.2.2.2.2.2.2.2.2.2.2.2) rfl
      replace hZ := mj_u2p hZ
      replace hZ := mj_u2p hZ
      replace hZ := mj_u2p hZ
      replace hZ := mj_u2p hZ
      replace hZ := mj_u2p hZ
      replace hZ := mj_u2p hZ
      replace hZ := mj_u2p hZ
      replace hZ := mj_u2p hZ
      replace hZ := mj_u2p hZ
      replace hZ := mj_u2p hZ
      replace hZ := mj_u2p hZ
      replace hZ := mj_u2p hZ
      replace hZ := mj_u2p hZ
      replace hZ := mj_u2p hZ
      replace hZ := mj_u2p hZ
      exact hZ
    · replace hf := mj_neg c4 hf
      refine mj_aload_n 0 dX8_read_109 rfl ?_
      obtain ⟨o6, ho6, hf⟩ := mj_bd hf
      refine mj_callVd (I2 := (mj_rows I [(2, o6.1), (3, r3), (4, r4), (5, r5), (6, r6), (7, r7), (8, r8), (9, r9), (10, r10), (11, r11), (12, r12), (13, r13), (14, r14), (15, o6.2.1), (16, o6.2.2.1), (17, o6.2.2.2)])) (L2 := L) (s1 := []) (st := []) [] (cmX8_closeBlock X.2.1 G F  _ _ r2 r3 r5 r15 r16 r17 rfl rfl rfl rfl rfl rfl o6 ho6) (mj_rr rfl) rfl cw_X8_70 s0_2 a0_2 (by decide) rfl rfl (Nat.le_of_ble_eq_true rfl) ⟨Nat.zero_le _, Nat.zero_le _⟩ dX8_read_110 rfl ?_
      refine mj_goto 120 dX8_read_113 (by decide) ?_
      refine mj_iinc 1 [(2, .int (x2 + (1))), (0, .ref 2)] dX8_read_120 rfl (kz_1 _) (by decide) rfl ?_
      refine mj_goto 64 dX8_read_123 (by decide) ?_
      refine mj_sub [1, 0] [(0, .ref 2), (2, .int (x2 + (1)))] rfl ?_
      obtain rfl := Option.some.inj hf
      have hZ := hc ((x2 + (1)), o6.1, r4, r5, r6, r7, r8, r9, r10, r11, r12, r13, r14, o6.2.1, o6.2.2.1, o6.2.2.2) rfl
      replace hZ := mj_u2p hZ
      replace hZ := mj_u2p hZ
      replace hZ := mj_u2p hZ
      replace hZ := mj_u2p hZ
      replace hZ := mj_u2p hZ
      replace hZ := mj_u2p hZ
      replace hZ := mj_u2p hZ
      replace hZ := mj_u2p hZ
      replace hZ := mj_u2p hZ
      replace hZ := mj_u2p hZ
      replace hZ := mj_u2p hZ
      replace hZ := mj_u2p hZ
      replace hZ := mj_u2p hZ
      replace hZ := mj_u2p hZ
      replace hZ := mj_u2p hZ
      exact hZ
set_option maxRecDepth 100000 in
set_option maxHeartbeats 4000000 in
theorem lpX8_read_64 {X : mj_XT} {l : Launch} {G : mj_GT} {ad : Nat → Nat} {Qn : Option Value → mj_IT → mj_LT → Prop} (hR : mj_R X l G mj_P0 mj_S0 98 ad 0 0 Qn) (F : Nat) (I : mj_IT) (L : mj_LT) (r2 : Nat → Int32) (r3 : Nat → Int32) (r4 : Nat → Int32) (r5 : Nat → Int32) (r6 : Nat → Int32) (r7 : Nat → Int32) (r8 : Nat → Int32) (r9 : Nat → Int32) (r10 : Nat → Int32) (r11 : Nat → Int32) (r12 : Nat → Int32) (r13 : Nat → Int32) (r14 : Nat → Int32) (r15 : Nat → Int32) (r16 : Nat → Int32) (r17 : Nat → Int32) : ∀ (n : Nat) (s : ((Int32) × (Nat → Int32) × (Nat → Int32) × (Nat → Int32) × (Nat → Int32) × (Nat → Int32) × (Nat → Int32) × (Nat → Int32) × (Nat → Int32) × (Nat → Int32) × (Nat → Int32) × (Nat → Int32) × (Nat → Int32) × (Nat → Int32) × (Nat → Int32) × (Nat → Int32))) (e : ((Nat → Int32) × (Nat → Int32) × (Nat → Int32) × (Nat → Int32) × (Nat → Int32) × (Nat → Int32) × (Nat → Int32) × (Nat → Int32) × (Nat → Int32) × (Nat → Int32) × (Nat → Int32) × (Nat → Int32) × (Nat → Int32) × (Nat → Int32) × (Nat → Int32))), mj_it (mj_u2 (fun z0 => (mj_u2 (fun z1 => (mj_u2 (fun z2 => (mj_u2 (fun z3 => (mj_u2 (fun z4 => (mj_u2 (fun z5 => (mj_u2 (fun z6 => (mj_u2 (fun z7 => (mj_u2 (fun z8 => (mj_u2 (fun z9 => (mj_u2 (fun z10 => (mj_u2 (fun z11 => (mj_u2 (fun z12 => (mj_u2 (fun z13 => (mj_u2 (fun z14 z15 => bdX8_read_64 F r3 z0 z1 z2 z3 z4 z5 z6 z7 z8 z9 z10 z11 z12 z13 z14 z15)))))))))))))))))))))))))))))) n s = some e → (mj_u2 (fun r2 => (mj_u2 (fun r4 => (mj_u2 (fun r5 => (mj_u2 (fun r6 => (mj_u2 (fun r7 => (mj_u2 (fun r8 => (mj_u2 (fun r9 => (mj_u2 (fun r10 => (mj_u2 (fun r11 => (mj_u2 (fun r12 => (mj_u2 (fun r13 => (mj_u2 (fun r14 => (mj_u2 (fun r15 => (mj_u2 (fun r16 r17 => mj_W X G RX8 "read" cX8_read 3 8 (some .int) mj_P0 mj_S0 98 ad 0 0 126 [(0, .ref 2)] [] (mj_rows I [(2, r2), (3, r3), (4, r4), (5, r5), (6, r6), (7, r7), (8, r8), (9, r9), (10, r10), (11, r11), (12, r12), (13, r13), (14, r14), (15, r15), (16, r16), (17, r17)]) L)))))))))))))))))))))))))))) e → (mj_u2 (fun x2 => (mj_u2 (fun r2 => (mj_u2 (fun r4 => (mj_u2 (fun r5 => (mj_u2 (fun r6 => (mj_u2 (fun r7 => (mj_u2 (fun r8 => (mj_u2 (fun r9 => (mj_u2 (fun r10 => (mj_u2 (fun r11 => (mj_u2 (fun r12 => (mj_u2 (fun r13 => (mj_u2 (fun r14 => (mj_u2 (fun r15 => (mj_u2 (fun r16 r17 => mj_W X G RX8 "read" cX8_read 3 8 (some .int) mj_P0 mj_S0 98 ad 0 0 64 [(0, .ref 2), (2, .int x2)] [] (mj_rows I [(2, r2), (3, r3), (4, r4), (5, r5), (6, r6), (7, r7), (8, r8), (9, r9), (10, r10), (11, r11), (12, r12), (13, r13), (14, r14), (15, r15), (16, r16), (17, r17)]) L)))))))))))))))))))))))))))))) s := by
  refine mj_loop (fun s o hf hc hx => ?_)
  obtain ⟨x2, r2, r4, r5, r6, r7, r8, r9, r10, r11, r12, r13, r14, r15, r16, r17⟩ := s
  replace hf := mj_u2e hf
  refine mj_u2q ?_
  replace hf := mj_u2e hf
  refine mj_u2q ?_
  replace hf := mj_u2e hf
  refine mj_u2q ?_
  replace hf := mj_u2e hf
  refine mj_u2q ?_
  replace hf := mj_u2e hf
  refine mj_u2q ?_
  replace hf := mj_u2e hf
  refine mj_u2q ?_
  replace hf := mj_u2e hf
  refine mj_u2q ?_
  replace hf := mj_u2e hf
  refine mj_u2q ?_
  replace hf := mj_u2e hf
  refine mj_u2q ?_
  replace hf := mj_u2e hf
  refine mj_u2q ?_
  replace hf := mj_u2e hf
  refine mj_u2q ?_
  replace hf := mj_u2e hf
  refine mj_u2q ?_
  replace hf := mj_u2e hf
  refine mj_u2q ?_
  replace hf := mj_u2e hf
  refine mj_u2q ?_
  replace hf := mj_u2e hf
  refine mj_u2q ?_
  unfold bdX8_read_64 at hf
  refine mj_iload_n 1 dX8_read_64 rfl ?_
  refine mj_aload_n 0 dX8_read_65 rfl ?_
  refine mj_getIv (v := (r2 3)) rfl fl_X8_45 rfl s0_2 a0_2 dX8_read_66 ?_
  refine mj_icmp_gt 126 dX8_read_69 (by decide) (fun c7 => ?_) (fun c7 => ?_)
  · replace hf := mj_pos c7 hf
    refine mj_sub [0] [(0, .ref 2)] rfl ?_
    obtain rfl := Option.some.inj hf
    have hZ := hx (r2, r4, r5, r6, r7, r8, r9, r10, r11, r12, r13, r14, r15, r16, r17) rfl
    replace hZ := mj_u2p hZ
    replace hZ := mj_u2p hZ
    replace hZ := mj_u2p hZ
    replace hZ := mj_u2p hZ
    replace hZ := mj_u2p hZ
    replace hZ := mj_u2p hZ
    replace hZ := mj_u2p hZ
    replace hZ := mj_u2p hZ
    replace hZ := mj_u2p hZ
    replace hZ := mj_u2p hZ
    replace hZ := mj_u2p hZ
    replace hZ := mj_u2p hZ
    replace hZ := mj_u2p hZ
    replace hZ := mj_u2p hZ
    exact hZ
  · replace hf := mj_neg c7 hf
    refine mj_aload_n 0 dX8_read_72 rfl ?_
    refine mj_getIv (v := (r2 8)) rfl fl_X8_51 rfl s0_2 a0_2 dX8_read_73 ?_
    refine mj_if_ne 126 dX8_read_76 (by decide) (fun c8 => ?_) (fun c8 => ?_)
    · replace hf := mj_neg c8 hf
      refine mj_sub [0] [(0, .ref 2)] rfl ?_
      obtain rfl := Option.some.inj hf
      have hZ := hx (r2, r4, r5, r6, r7, r8, r9, r10, r11, r12, r13, r14, r15, r16, r17) rfl
      replace hZ := mj_u2p hZ
      replace hZ := mj_u2p hZ
      replace hZ := mj_u2p hZ
      replace hZ := mj_u2p hZ
      replace hZ := mj_u2p hZ
      replace hZ := mj_u2p hZ
      replace hZ := mj_u2p hZ
      replace hZ := mj_u2p hZ
      replace hZ := mj_u2p hZ
      replace hZ := mj_u2p hZ
      replace hZ := mj_u2p hZ
      replace hZ := mj_u2p hZ
      replace hZ := mj_u2p hZ
      replace hZ := mj_u2p hZ
      exact hZ
    · replace hf := mj_pos c8 hf
      refine mj_aload_n 0 dX8_read_79 rfl ?_
      refine mj_getIv (v := (r2 10)) rfl fl_X8_54 rfl s0_2 a0_2 dX8_read_80 ?_
      refine mj_if_gt 93 dX8_read_83 (by decide) (fun c9 => ?_) (fun c9 => ?_)
      · replace hf := mj_pos c9 hf
        exact jtX8_read_93 hR F I L r2 r3 r4 r5 r6 r7 r8 r9 r10 r11 r12 r13 r14 r15 r16 r17 x2 o hf hc hx
      · replace hf := mj_neg c9 hf
        refine mj_aload_n 0 dX8_read_86 rfl ?_
        refine mj_getIv (v := (r2 4)) rfl fl_X8_63 rfl s0_2 a0_2 dX8_read_87 ?_
        refine mj_if_eq 126 dX8_read_90 (by decide) (fun c10 => ?_) (fun c10 => ?_)
        · replace hf := mj_pos c10 hf
          refine mj_sub [0] [(0, .ref 2)] rfl ?_
          obtain rfl := Option.some.inj hf
          have hZ := hx (r2, r4, r5, r6, r7, r8, r9, r10, r11, r12, r13, r14, r15, r16, r17) rfl
          replace hZ := mj_u2p hZ
          replace hZ := mj_u2p hZ
          replace hZ := mj_u2p hZ
          replace hZ := mj_u2p hZ
          replace hZ := mj_u2p hZ
          replace hZ := mj_u2p hZ
          replace hZ := mj_u2p hZ
          replace hZ := mj_u2p hZ
          replace hZ := mj_u2p hZ
          replace hZ := mj_u2p hZ
          replace hZ := mj_u2p hZ
          replace hZ := mj_u2p hZ
          replace hZ := mj_u2p hZ
          replace hZ := mj_u2p hZ
          exact hZ
        · replace hf := mj_neg c10 hf
          exact jtX8_read_93 hR F I L r2 r3 r4 r5 r6 r7 r8 r9 r10 r11 r12 r13 r14 r15 r16 r17 x2 o hf hc hx
set_option maxRecDepth 100000 in
set_option maxHeartbeats 4000000 in
theorem mtX8_read {X : mj_XT} {l : Launch} {G : mj_GT} {ad : Nat → Nat} {Qn : Option Value → mj_IT → mj_LT → Prop} (hR : mj_R X l G mj_P0 mj_S0 98 ad 0 0 Qn) (F : Nat) (I : mj_IT) (L : mj_LT) (r2 : Nat → Int32) (r3 : Nat → Int32) (r4 : Nat → Int32) (r5 : Nat → Int32) (r6 : Nat → Int32) (r7 : Nat → Int32) (r8 : Nat → Int32) (r9 : Nat → Int32) (r10 : Nat → Int32) (r11 : Nat → Int32) (r12 : Nat → Int32) (r13 : Nat → Int32) (r14 : Nat → Int32) (r15 : Nat → Int32) (r16 : Nat → Int32) (r17 : Nat → Int32) (x1 : Int32) (o : ((Int32) × (Nat → Int32) × (Nat → Int32) × (Nat → Int32) × (Nat → Int32) × (Nat → Int32) × (Nat → Int32) × (Nat → Int32) × (Nat → Int32) × (Nat → Int32) × (Nat → Int32) × (Nat → Int32) × (Nat → Int32) × (Nat → Int32) × (Nat → Int32) × (Nat → Int32))) (hf : fnX8_read F r2 r3 r4 r5 r6 r7 r8 r9 r10 r11 r12 r13 r14 r15 r16 r17 x1 = some o) (hq : (mj_u2 (fun ov => (mj_u2 (fun r2 => (mj_u2 (fun r4 => (mj_u2 (fun r5 => (mj_u2 (fun r6 => (mj_u2 (fun r7 => (mj_u2 (fun r8 => (mj_u2 (fun r9 => (mj_u2 (fun r10 => (mj_u2 (fun r11 => (mj_u2 (fun r12 => (mj_u2 (fun r13 => (mj_u2 (fun r14 => (mj_u2 (fun r15 => (mj_u2 (fun r16 r17 => Qn (some (.int ov)) (mj_rows I [(2, r2), (3, r3), (4, r4), (5, r5), (6, r6), (7, r7), (8, r8), (9, r9), (10, r10), (11, r11), (12, r12), (13, r13), (14, r14), (15, r15), (16, r16), (17, r17)]) L)))))))))))))))))))))))))))))) o) : mj_W X G RX8 "read" cX8_read 3 8 (some .int) mj_P0 mj_S0 98 ad 0 0 0 [(0, .ref 2), (1, .int x1)] [] (mj_rows I [(2, r2), (3, r3), (4, r4), (5, r5), (6, r6), (7, r7), (8, r8), (9, r9), (10, r10), (11, r11), (12, r12), (13, r13), (14, r14), (15, r15), (16, r16), (17, r17)]) L := by
  unfold fnX8_read at hf
  refine mj_aload_n 0 dX8_read_0 rfl ?_
  refine mj_iload_n 1 dX8_read_1 rfl ?_
  refine mj_aload_n 0 dX8_read_2 rfl ?_
  refine mj_getIv (v := (r2 0)) rfl fl_X8_36 rfl s0_2 a0_2 dX8_read_3 ?_
  refine mj_mmin mn_X8_39 (by decide) (Nat.le_of_ble_eq_true rfl) ⟨Nat.zero_le _, Nat.zero_le _⟩ dX8_read_6 ?_
  refine mj_putIr (ci := 6) (j := 3) [(2, (upd r2 3 (if (r2 0) < x1 then (r2 0) else x1))), (3, r3), (4, r4), (5, r5), (6, r6), (7, r7), (8, r8), (9, r9), (10, r10), (11, r11), (12, r12), (13, r13), (14, r14), (15, r15), (16, r16), (17, r17)] rfl ⟨rfl, rfl⟩ fl_X8_45 rfl rfl s0_2 a0_2 dX8_read_9 ?_
  refine mj_aload_n 0 dX8_read_12 rfl ?_
  refine mj_iconst dX8_read_13 kc_iconst_0 ?_
  refine mj_putIr (ci := 6) (j := 0) [(2, (upd (upd r2 3 (if (r2 0) < x1 then (r2 0) else x1)) 0 (0 : Int32))), (3, r3), (4, r4), (5, r5), (6, r6), (7, r7), (8, r8), (9, r9), (10, r10), (11, r11), (12, r12), (13, r13), (14, r14), (15, r15), (16, r16), (17, r17)] rfl ⟨rfl, rfl⟩ fl_X8_36 rfl rfl s0_2 a0_2 dX8_read_14 ?_
  refine mj_aload_n 0 dX8_read_17 rfl ?_
  refine mj_iconst dX8_read_18 kc_iconst_0 ?_
  refine mj_putIr (ci := 6) (j := 6) [(2, (upd (upd (upd r2 3 (if (r2 0) < x1 then (r2 0) else x1)) 0 (0 : Int32)) 6 (0 : Int32))), (3, r3), (4, r4), (5, r5), (6, r6), (7, r7), (8, r8), (9, r9), (10, r10), (11, r11), (12, r12), (13, r13), (14, r14), (15, r15), (16, r16), (17, r17)] rfl ⟨rfl, rfl⟩ fl_X8_48 rfl rfl s0_2 a0_2 dX8_read_19 ?_
  refine mj_aload_n 0 dX8_read_22 rfl ?_
  refine mj_iconst dX8_read_23 kc_iconst_0 ?_
  refine mj_putIr (ci := 6) (j := 8) [(2, (upd (upd (upd (upd r2 3 (if (r2 0) < x1 then (r2 0) else x1)) 0 (0 : Int32)) 6 (0 : Int32)) 8 (0 : Int32))), (3, r3), (4, r4), (5, r5), (6, r6), (7, r7), (8, r8), (9, r9), (10, r10), (11, r11), (12, r12), (13, r13), (14, r14), (15, r15), (16, r16), (17, r17)] rfl ⟨rfl, rfl⟩ fl_X8_51 rfl rfl s0_2 a0_2 dX8_read_24 ?_
  refine mj_aload_n 0 dX8_read_27 rfl ?_
  refine mj_iconst dX8_read_28 kc_iconst_m1 ?_
  refine mj_putIr (ci := 6) (j := 9) [(2, (upd (upd (upd (upd (upd r2 3 (if (r2 0) < x1 then (r2 0) else x1)) 0 (0 : Int32)) 6 (0 : Int32)) 8 (0 : Int32)) 9 (-1 : Int32))), (3, r3), (4, r4), (5, r5), (6, r6), (7, r7), (8, r8), (9, r9), (10, r10), (11, r11), (12, r12), (13, r13), (14, r14), (15, r15), (16, r16), (17, r17)] rfl ⟨rfl, rfl⟩ fl_X8_22 rfl rfl s0_2 a0_2 dX8_read_29 ?_
  refine mj_aload_n 0 dX8_read_32 rfl ?_
  refine mj_iconst dX8_read_33 kc_iconst_0 ?_
  refine mj_putIr (ci := 6) (j := 10) [(2, (upd (upd (upd (upd (upd (upd r2 3 (if (r2 0) < x1 then (r2 0) else x1)) 0 (0 : Int32)) 6 (0 : Int32)) 8 (0 : Int32)) 9 (-1 : Int32)) 10 (0 : Int32))), (3, r3), (4, r4), (5, r5), (6, r6), (7, r7), (8, r8), (9, r9), (10, r10), (11, r11), (12, r12), (13, r13), (14, r14), (15, r15), (16, r16), (17, r17)] rfl ⟨rfl, rfl⟩ fl_X8_54 rfl rfl s0_2 a0_2 dX8_read_34 ?_
  refine mj_aload_n 0 dX8_read_37 rfl ?_
  refine mj_getP p0_2_11 (by decide) fl_X8_26 rfl s0_2 a0_2 dX8_read_38 ?_
  refine mj_iconst dX8_read_41 kc_iconst_0 ?_
  refine mj_iconst dX8_read_42 kc_iconst_m1 ?_
  obtain ⟨z11, hf⟩ := mj_ck hf
  refine mj_iastr [(2, (upd (upd (upd (upd (upd (upd r2 3 (if (r2 0) < x1 then (r2 0) else x1)) 0 (0 : Int32)) 6 (0 : Int32)) 8 (0 : Int32)) 9 (-1 : Int32)) 10 (0 : Int32))), (3, r3), (4, r4), (5, r5), (6, r6), (7, r7), (8, r8), (9, r9), (10, r10), (11, r11), (12, r12), (13, r13), (14, r14), (15, (upd r15 ((0 : Int32).toNatClampNeg) (-1 : Int32))), (16, r16), (17, r17)] rfl s0_15 a0_15 z11 dX8_read_43 ?_
  refine mj_aload_n 0 dX8_read_44 rfl ?_
  refine mj_getP p0_2_12 (by decide) fl_X8_29 rfl s0_2 a0_2 dX8_read_45 ?_
  refine mj_iconst dX8_read_48 kc_iconst_0 ?_
  refine mj_iconst dX8_read_49 kc_iconst_m1 ?_
  obtain ⟨z12, hf⟩ := mj_ck hf
  refine mj_iastr [(2, (upd (upd (upd (upd (upd (upd r2 3 (if (r2 0) < x1 then (r2 0) else x1)) 0 (0 : Int32)) 6 (0 : Int32)) 8 (0 : Int32)) 9 (-1 : Int32)) 10 (0 : Int32))), (3, r3), (4, r4), (5, r5), (6, r6), (7, r7), (8, r8), (9, r9), (10, r10), (11, r11), (12, r12), (13, r13), (14, r14), (15, (upd r15 ((0 : Int32).toNatClampNeg) (-1 : Int32))), (16, (upd r16 ((0 : Int32).toNatClampNeg) (-1 : Int32))), (17, r17)] rfl s0_16 a0_16 z12 dX8_read_50 ?_
  refine mj_aload_n 0 dX8_read_51 rfl ?_
  refine mj_getP p0_2_2 (by decide) fl_X8_18 rfl s0_2 a0_2 dX8_read_52 ?_
  obtain ⟨o13, ho13, hf⟩ := mj_bd hf
  refine mj_callVd (I2 := (mj_rows I [(2, (upd (upd (upd (upd (upd (upd r2 3 (if (r2 0) < x1 then (r2 0) else x1)) 0 (0 : Int32)) 6 (0 : Int32)) 8 (0 : Int32)) 9 (-1 : Int32)) 10 (0 : Int32))), (3, r3), (4, o13), (5, r5), (6, r6), (7, r7), (8, r8), (9, r9), (10, r10), (11, r11), (12, r12), (13, r13), (14, r14), (15, (upd r15 ((0 : Int32).toNatClampNeg) (-1 : Int32))), (16, (upd r16 ((0 : Int32).toNatClampNeg) (-1 : Int32))), (17, r17)])) (L2 := L) (s1 := []) (st := []) [] (cmX7_clear_4 X.2.1 G F  _ _ r4 rfl o13 ho13) (mj_rr rfl) rfl cw_X8_57 s0_4 a0_4 (by decide) rfl rfl (Nat.le_of_ble_eq_true rfl) ⟨Nat.zero_le _, Nat.zero_le _⟩ dX8_read_55 rfl ?_
  refine mj_aload_n 0 dX8_read_58 rfl ?_
  obtain ⟨o14, ho14, hf⟩ := mj_bd hf
  refine mj_callVd (I2 := (mj_rows I [(2, o14), (3, r3), (4, o13), (5, r5), (6, r6), (7, r7), (8, r8), (9, r9), (10, r10), (11, r11), (12, r12), (13, r13), (14, r14), (15, (upd r15 ((0 : Int32).toNatClampNeg) (-1 : Int32))), (16, (upd r16 ((0 : Int32).toNatClampNeg) (-1 : Int32))), (17, r17)])) (L2 := L) (s1 := []) (st := []) [] (cmX8_goOn X.2.1 G F  _ _ (upd (upd (upd (upd (upd (upd r2 3 (if (r2 0) < x1 then (r2 0) else x1)) 0 (0 : Int32)) 6 (0 : Int32)) 8 (0 : Int32)) 9 (-1 : Int32)) 10 (0 : Int32)) r3 rfl rfl o14 ho14) (mj_rr rfl) rfl cw_X8_60 s0_2 a0_2 (by decide) rfl rfl (Nat.le_of_ble_eq_true rfl) ⟨Nat.zero_le _, Nat.zero_le _⟩ dX8_read_59 rfl ?_
  refine mj_iconst dX8_read_62 kc_iconst_0 ?_
  refine mj_istore_n [(2, .int (0 : Int32)), (0, .ref 2), (1, .int x1)] dX8_read_63 rfl (by decide) rfl ?_
  refine mj_sub [1, 0] [(0, .ref 2), (2, .int (0 : Int32))] rfl ?_
  obtain ⟨e15, ho15, hf⟩ := mj_bd hf
  refine lpX8_read_64 hR F I L o14 r3 o13 r5 r6 r7 r8 r9 r10 r11 r12 r13 r14 (upd r15 ((0 : Int32).toNatClampNeg) (-1 : Int32)) (upd r16 ((0 : Int32).toNatClampNeg) (-1 : Int32)) r17 F ((0 : Int32), o14, o13, r5, r6, r7, r8, r9, r10, r11, r12, r13, r14, (upd r15 ((0 : Int32).toNatClampNeg) (-1 : Int32)), (upd r16 ((0 : Int32).toNatClampNeg) (-1 : Int32)), r17) e15 ho15 ?_
  obtain ⟨r2_15, r4_15, r5_15, r6_15, r7_15, r8_15, r9_15, r10_15, r11_15, r12_15, r13_15, r14_15, r15_15, r16_15, r17_15⟩ := e15
  replace hf := mj_u2e hf
  replace hf := mj_u2e hf
  replace hf := mj_u2e hf
  replace hf := mj_u2e hf
  replace hf := mj_u2e hf
  replace hf := mj_u2e hf
  replace hf := mj_u2e hf
  replace hf := mj_u2e hf
  replace hf := mj_u2e hf
  replace hf := mj_u2e hf
  replace hf := mj_u2e hf
  replace hf := mj_u2e hf
  replace hf := mj_u2e hf
  replace hf := mj_u2e hf
  refine ?_
  refine mj_u2q ?_
  refine mj_u2q ?_
  refine mj_u2q ?_
  refine mj_u2q ?_
  refine mj_u2q ?_
  refine mj_u2q ?_
  refine mj_u2q ?_
  refine mj_u2q ?_
  refine mj_u2q ?_
  refine mj_u2q ?_
  refine mj_u2q ?_
  refine mj_u2q ?_
  refine mj_u2q ?_
  refine mj_u2q ?_
  refine mj_aload_n 0 dX8_read_126 rfl ?_
  refine mj_getIv (v := (r2_15 8)) rfl fl_X8_51 rfl s0_2 a0_2 dX8_read_127 ?_
  refine mj_if_ne 140 dX8_read_130 (by decide) (fun c16 => ?_) (fun c16 => ?_)
  · replace hf := mj_neg c16 hf
    refine mj_aload_n 0 dX8_read_140 rfl ?_
    refine mj_getIv (v := (r2_15 8)) rfl fl_X8_51 rfl s0_2 a0_2 dX8_read_141 ?_
    obtain rfl := Option.some.inj hf
    have hZ := hq
    replace hZ := mj_u2p hZ
    replace hZ := mj_u2p hZ
    replace hZ := mj_u2p hZ
    replace hZ := mj_u2p hZ
    replace hZ := mj_u2p hZ
    replace hZ := mj_u2p hZ
    replace hZ := mj_u2p hZ
    replace hZ := mj_u2p hZ
    replace hZ := mj_u2p hZ
    replace hZ := mj_u2p hZ
    replace hZ := mj_u2p hZ
    replace hZ := mj_u2p hZ
    replace hZ := mj_u2p hZ
    replace hZ := mj_u2p hZ
    replace hZ := mj_u2p hZ
    exact mj_iret hR ⟨Nat.le_refl _, Nat.le_refl _⟩ rfl rfl dX8_read_144 hZ
  · replace hf := mj_pos c16 hf
    refine mj_aload_n 0 dX8_read_133 rfl ?_
    refine mj_getP p0_2_2 (by decide) fl_X8_18 rfl s0_2 a0_2 dX8_read_134 ?_
    obtain ⟨o17, ho17, hf⟩ := mj_bd hf
    refine mj_callVd (I2 := (mj_rows I [(2, r2_15), (3, r3), (4, r4_15), (5, r5_15), (6, r6_15), (7, r7_15), (8, r8_15), (9, r9_15), (10, r10_15), (11, o17.1), (12, o17.2.1), (13, r13_15), (14, o17.2.2), (15, r15_15), (16, r16_15), (17, r17_15)])) (L2 := L) (s1 := []) (st := []) [] (cmX7_link_4 X.2.1 G F  _ _ r4_15 r5_15 r11_15 r12_15 r13_15 r14_15 rfl rfl rfl rfl rfl rfl o17 ho17) (mj_rr rfl) rfl cw_X8_76 s0_4 a0_4 (by decide) rfl rfl (Nat.le_of_ble_eq_true rfl) ⟨Nat.zero_le _, Nat.zero_le _⟩ dX8_read_137 rfl ?_
    refine mj_aload_n 0 dX8_read_140 rfl ?_
    refine mj_getIv (v := (r2_15 8)) rfl fl_X8_51 rfl s0_2 a0_2 dX8_read_141 ?_
    obtain rfl := Option.some.inj hf
    have hZ := hq
    replace hZ := mj_u2p hZ
    replace hZ := mj_u2p hZ
    replace hZ := mj_u2p hZ
    replace hZ := mj_u2p hZ
    replace hZ := mj_u2p hZ
    replace hZ := mj_u2p hZ
    replace hZ := mj_u2p hZ
    replace hZ := mj_u2p hZ
    replace hZ := mj_u2p hZ
    replace hZ := mj_u2p hZ
    replace hZ := mj_u2p hZ
    replace hZ := mj_u2p hZ
    replace hZ := mj_u2p hZ
    replace hZ := mj_u2p hZ
    replace hZ := mj_u2p hZ
    exact mj_iret hR ⟨Nat.le_refl _, Nat.le_refl _⟩ rfl rfl dX8_read_144 hZ
set_option maxRecDepth 100000 in
set_option maxHeartbeats 4000000 in
theorem cmX8_read (l : Launch) (G : mj_GT) (F : Nat) (x1 : Int32) (I : mj_IT) (L : mj_LT) (r2 : Nat → Int32) (r3 : Nat → Int32) (r4 : Nat → Int32) (r5 : Nat → Int32) (r6 : Nat → Int32) (r7 : Nat → Int32) (r8 : Nat → Int32) (r9 : Nat → Int32) (r10 : Nat → Int32) (r11 : Nat → Int32) (r12 : Nat → Int32) (r13 : Nat → Int32) (r14 : Nat → Int32) (r15 : Nat → Int32) (r16 : Nat → Int32) (r17 : Nat → Int32) (hr2 : I 2 = r2) (hr3 : I 3 = r3) (hr4 : I 4 = r4) (hr5 : I 5 = r5) (hr6 : I 6 = r6) (hr7 : I 7 = r7) (hr8 : I 8 = r8) (hr9 : I 9 = r9) (hr10 : I 10 = r10) (hr11 : I 11 = r11) (hr12 : I 12 = r12) (hr13 : I 13 = r13) (hr14 : I 14 = r14) (hr15 : I 15 = r15) (hr16 : I 16 = r16) (hr17 : I 17 = r17) (o : ((Int32) × (Nat → Int32) × (Nat → Int32) × (Nat → Int32) × (Nat → Int32) × (Nat → Int32) × (Nat → Int32) × (Nat → Int32) × (Nat → Int32) × (Nat → Int32) × (Nat → Int32) × (Nat → Int32) × (Nat → Int32) × (Nat → Int32) × (Nat → Int32) × (Nat → Int32))) (hf : fnX8_read F r2 r3 r4 r5 r6 r7 r8 r9 r10 r11 r12 r13 r14 r15 r16 r17 x1 = some o) : mj_M l G yX8_read cX8_read 3 8 (some .int) 0 0 mj_P0 mj_S0 98 [.ref 2, .int x1] I L (mj_qd (some (.int o.1)) (mj_rows I [(2, o.2.1), (3, r3), (4, o.2.2.1), (5, o.2.2.2.1), (6, o.2.2.2.2.1), (7, o.2.2.2.2.2.1), (8, o.2.2.2.2.2.2.1), (9, o.2.2.2.2.2.2.2.1), (10, o.2.2.2.2.2.2.2.2.1), (11, o.2.2.2.2.2.2.2.2.2.1), (12, o.2.2.2.2.2.2.2.2.2.2.1), (13, o.2.2.2.2.2.2.2.2.2.2.2.1), (14, o.2.2.2.2.2.2.2.2.2.2.2.2.1), (15, o.2.2.2.2.2.2.2.2.2.2.2.2.2.1), (16, o.2.2.2.2.2.2.2.2.2.2.2.2.2.2.1), (17, o.2.2.2.2.2.2.2.2.2.2.2.2.2.2.2)]) L) := by
  refine mj_in RX8 "read" [(0, .ref 2), (1, .int x1)] rfl rfl rfl (by decide) (Nat.le_of_ble_eq_true rfl) (fun X ad hR => ?_)
  refine mj_toI [(2, r2), (3, r3), (4, r4), (5, r5), (6, r6), (7, r7), (8, r8), (9, r9), (10, r10), (11, r11), (12, r12), (13, r13), (14, r14), (15, r15), (16, r16), (17, r17)] (by intro q hq; simp only [List.mem_cons, List.not_mem_nil, or_false] at hq; rcases hq with rfl | rfl | rfl | rfl | rfl | rfl | rfl | rfl | rfl | rfl | rfl | rfl | rfl | rfl | rfl | rfl <;> assumption) ?_
  refine mtX8_read hR F I L r2 r3 r4 r5 r6 r7 r8 r9 r10 r11 r12 r13 r14 r15 r16 r17 x1 o hf ?_
  obtain ⟨w0, w1, w2, w3, w4, w5, w6, w7, w8, w9, w10, w11, w12, w13, w14, w15⟩ := o
  refine mj_u2q ?_
  refine mj_u2q ?_
  refine mj_u2q ?_
  refine mj_u2q ?_
  refine mj_u2q ?_
  refine mj_u2q ?_
  refine mj_u2q ?_
  refine mj_u2q ?_
  refine mj_u2q ?_
  refine mj_u2q ?_
  refine mj_u2q ?_
  refine mj_u2q ?_
  refine mj_u2q ?_
  refine mj_u2q ?_
  refine mj_u2q ?_
  exact ⟨rfl, rfl, rfl⟩

-- X8_faultPlace
def fnX8_faultPlace (F : Nat) (r2 : Nat → Int32) : Option ((Int32)) := some (r2 9)
set_option maxRecDepth 100000 in
set_option maxHeartbeats 4000000 in
theorem mtX8_faultPlace {X : mj_XT} {l : Launch} {G : mj_GT} {ad : Nat → Nat} {Qn : Option Value → mj_IT → mj_LT → Prop} (hR : mj_R X l G mj_P0 mj_S0 98 ad 0 0 Qn) (F : Nat) (I : mj_IT) (L : mj_LT) (r2 : Nat → Int32) (o : ((Int32))) (hf : fnX8_faultPlace F r2 = some o) (hq : (fun ov => Qn (some (.int ov)) (mj_rows I [(2, r2)]) L) o) : mj_W X G RX8 "faultPlace" cX8_faultPlace 1 1 (some .int) mj_P0 mj_S0 98 ad 0 0 0 [(0, .ref 2)] [] (mj_rows I [(2, r2)]) L := by
  unfold fnX8_faultPlace at hf
  refine mj_aload_n 0 dX8_faultPlace_0 rfl ?_
  refine mj_getIv (v := (r2 9)) rfl fl_X8_22 rfl s0_2 a0_2 dX8_faultPlace_1 ?_
  obtain rfl := Option.some.inj hf
  have hZ := hq
  exact mj_iret hR ⟨Nat.le_refl _, Nat.le_refl _⟩ rfl rfl dX8_faultPlace_4 hZ
set_option maxRecDepth 100000 in
set_option maxHeartbeats 4000000 in
theorem cmX8_faultPlace (l : Launch) (G : mj_GT) (F : Nat) (I : mj_IT) (L : mj_LT) (r2 : Nat → Int32) (hr2 : I 2 = r2) (o : ((Int32))) (hf : fnX8_faultPlace F r2 = some o) : mj_M l G yX8_faultPlace cX8_faultPlace 1 1 (some .int) 0 0 mj_P0 mj_S0 98 [.ref 2] I L (mj_qd (some (.int o)) (mj_rows I [(2, r2)]) L) := by
  refine mj_in RX8 "faultPlace" [(0, .ref 2)] rfl rfl rfl (by decide) (Nat.le_of_ble_eq_true rfl) (fun X ad hR => ?_)
  refine mj_toI [(2, r2)] (by intro q hq; simp only [List.mem_cons, List.not_mem_nil, or_false] at hq; rcases hq with rfl <;> assumption) ?_
  refine mtX8_faultPlace hR F I L r2 o hf ?_
  exact ⟨rfl, rfl, rfl⟩

-- J7_fill_53178_52
def bdJ7_fill_53178_52_5 (F : Nat) (x1 : Int32) (x3 : Int32) (x2 : Int32) (r52 : Nat → Int32) : Option (((Int32) × (Nat → Int32)) ⊕ ((Nat → Int32))) := (if x3 ≤ x2 then some (.inr r52) else (if mj_ib x2 200 = true then some (.inl ((x2 + (1)), (upd r52 x2.toNatClampNeg x1))) else none))
def fnJ7_fill_53178_52 (F : Nat) (r52 : Nat → Int32) (x1 : Int32) : Option ((Nat → Int32)) := (mj_it (mj_u2 (fun z0 z1 => bdJ7_fill_53178_52_5 F x1 (200 : Int32) z0 z1)) F ((0 : Int32), r52)).bind (fun r52_3 => some r52_3)
set_option maxRecDepth 100000 in
set_option maxHeartbeats 4000000 in
theorem lpJ7_fill_53178_52_5 {X : mj_XT} {l : Launch} {G : mj_GT} {ad : Nat → Nat} {Qn : Option Value → mj_IT → mj_LT → Prop} (hR : mj_R X l G mj_P0 mj_S0 98 ad 0 0 Qn) (F : Nat) (I : mj_IT) (L : mj_LT) (r52 : Nat → Int32) (x1 : Int32) (x3 : Int32) : ∀ (n : Nat) (s : ((Int32) × (Nat → Int32))) (e : ((Nat → Int32))), mj_it (mj_u2 (fun z0 z1 => bdJ7_fill_53178_52_5 F x1 x3 z0 z1)) n s = some e → (fun r52 => mj_W X G RJ7 "fill" cJ7_fill_53178 4 1 none mj_P0 mj_S0 98 ad 0 0 20 [] [] (mj_rows I [(52, r52)]) L) e → (mj_u2 (fun x2 r52 => mj_W X G RJ7 "fill" cJ7_fill_53178 4 1 none mj_P0 mj_S0 98 ad 0 0 5 [(0, .ref 52), (1, .int x1), (2, .int x2), (3, .int x3)] [] (mj_rows I [(52, r52)]) L)) s := by
  refine mj_loop (fun s o hf hc hx => ?_)
  obtain ⟨x2, r52⟩ := s
  replace hf := mj_u2e hf
  refine mj_u2q ?_
  unfold bdJ7_fill_53178_52_5 at hf
  refine mj_iload_n 2 dJ7_fill_53178_5 rfl ?_
  refine mj_iload_n 3 dJ7_fill_53178_6 rfl ?_
  refine mj_icmp_ge 20 dJ7_fill_53178_7 (by decide) (fun c1 => ?_) (fun c1 => ?_)
  · replace hf := mj_pos c1 hf
    refine mj_sub [] [] rfl ?_
    obtain rfl := Option.some.inj hf
    have hZ := hx r52 rfl
    exact hZ
  · replace hf := mj_neg c1 hf
    refine mj_aload_n 0 dJ7_fill_53178_10 rfl ?_
    refine mj_iload_n 2 dJ7_fill_53178_11 rfl ?_
    refine mj_iload_n 1 dJ7_fill_53178_12 rfl ?_
    obtain ⟨z2, hf⟩ := mj_ck hf
    refine mj_iastr [(52, (upd r52 x2.toNatClampNeg x1))] rfl s0_52 a0_52 z2 dJ7_fill_53178_13 ?_
    refine mj_iinc 2 [(2, .int (x2 + (1))), (0, .ref 52), (1, .int x1), (3, .int x3)] dJ7_fill_53178_14 rfl (kz_1 _) (by decide) rfl ?_
    refine mj_goto 5 dJ7_fill_53178_17 (by decide) ?_
    refine mj_sub [1, 2, 0, 3] [(0, .ref 52), (1, .int x1), (2, .int (x2 + (1))), (3, .int x3)] rfl ?_
    obtain rfl := Option.some.inj hf
    have hZ := hc ((x2 + (1)), (upd r52 x2.toNatClampNeg x1)) rfl
    replace hZ := mj_u2p hZ
    exact hZ
set_option maxRecDepth 100000 in
set_option maxHeartbeats 4000000 in
theorem mtJ7_fill_53178_52 {X : mj_XT} {l : Launch} {G : mj_GT} {ad : Nat → Nat} {Qn : Option Value → mj_IT → mj_LT → Prop} (hR : mj_R X l G mj_P0 mj_S0 98 ad 0 0 Qn) (F : Nat) (I : mj_IT) (L : mj_LT) (r52 : Nat → Int32) (x1 : Int32) (o : ((Nat → Int32))) (hf : fnJ7_fill_53178_52 F r52 x1 = some o) (hq : (fun r52 => Qn none (mj_rows I [(52, r52)]) L) o) : mj_W X G RJ7 "fill" cJ7_fill_53178 4 1 none mj_P0 mj_S0 98 ad 0 0 0 [(0, .ref 52), (1, .int x1)] [] (mj_rows I [(52, r52)]) L := by
  unfold fnJ7_fill_53178_52 at hf
  refine mj_iconst dJ7_fill_53178_0 kc_iconst_0 ?_
  refine mj_istore_n [(2, .int (0 : Int32)), (0, .ref 52), (1, .int x1)] dJ7_fill_53178_1 rfl (by decide) rfl ?_
  refine mj_aload_n 1 dJ7_fill_53178_2 rfl ?_
  refine mj_alen (v := 200) s0_52 (by decide) a0_52 (by decide +kernel) dJ7_fill_53178_3 ?_
  refine mj_istore_n [(3, .int (200 : Int32)), (2, .int (0 : Int32)), (0, .ref 52), (1, .int x1)] dJ7_fill_53178_4 rfl (by decide) rfl ?_
  refine mj_sub [2, 3, 1, 0] [(0, .ref 52), (1, .int x1), (2, .int (0 : Int32)), (3, .int (200 : Int32))] rfl ?_
  obtain ⟨r52_3, ho3, hf⟩ := mj_bd hf
  refine lpJ7_fill_53178_52_5 hR F I L r52 x1 (200 : Int32) F ((0 : Int32), r52) r52_3 ho3 ?_
  refine ?_
  obtain rfl := Option.some.inj hf
  have hZ := hq
  exact mj_vret hR ⟨Nat.le_refl _, Nat.le_refl _⟩ rfl dJ7_fill_53178_20 hZ
set_option maxRecDepth 100000 in
set_option maxHeartbeats 4000000 in
theorem cmJ7_fill_53178_52 (l : Launch) (G : mj_GT) (F : Nat) (x1 : Int32) (I : mj_IT) (L : mj_LT) (r52 : Nat → Int32) (hr52 : I 52 = r52) (o : ((Nat → Int32))) (hf : fnJ7_fill_53178_52 F r52 x1 = some o) : mj_M l G yJ7_fill_53178 cJ7_fill_53178 4 1 none 0 0 mj_P0 mj_S0 98 [.ref 52, .int x1] I L (mj_qd none (mj_rows I [(52, o)]) L) := by
  refine mj_in RJ7 "fill" [(0, .ref 52), (1, .int x1)] rfl rfl rfl (by decide) (Nat.le_of_ble_eq_true rfl) (fun X ad hR => ?_)
  refine mj_toI [(52, r52)] (by intro q hq; simp only [List.mem_cons, List.not_mem_nil, or_false] at hq; rcases hq with rfl <;> assumption) ?_
  refine mtJ7_fill_53178_52 hR F I L r52 x1 o hf ?_
  exact ⟨rfl, rfl, rfl⟩

-- X9_atEnd
def bdX9_atEnd_4 (F : Nat) (r32 : Nat → Int32) (r33 : Nat → Int32) (r52 : Nat → Int32) (x2 : Int32) (x3 : Int32) : Option (((Int32) × (Int32)) ⊕ ((Int32))) := (if (r32 2) ≤ x3 then some (.inr x2) else (fnX4_isEnd F r32 r33 x3).bind (fun o2 => (if o2 = 0 then some (.inl (x2, (x3 + (1)))) else (if mj_ib x3 200 = true then (fnX3_plus F x2 (r52 x3.toNatClampNeg)).bind (fun o5 => some (.inl (o5, (x3 + (1))))) else none))))
def fnX9_atEnd (F : Nat) (r32 : Nat → Int32) (r33 : Nat → Int32) (r52 : Nat → Int32) : Option ((Int32)) := (mj_it (mj_u2 (fun z0 z1 => bdX9_atEnd_4 F r32 r33 r52 z0 z1)) F ((0 : Int32), (0 : Int32))).bind (fun x2_6 => some x2_6)
set_option maxRecDepth 100000 in
set_option maxHeartbeats 4000000 in
theorem lpX9_atEnd_4 {X : mj_XT} {l : Launch} {G : mj_GT} {ad : Nat → Nat} {Qn : Option Value → mj_IT → mj_LT → Prop} (hR : mj_R X l G mj_P0 mj_S0 98 ad 0 0 Qn) (F : Nat) (I : mj_IT) (L : mj_LT) (r32 : Nat → Int32) (r33 : Nat → Int32) (r52 : Nat → Int32) : ∀ (n : Nat) (s : ((Int32) × (Int32))) (e : ((Int32))), mj_it (mj_u2 (fun z0 z1 => bdX9_atEnd_4 F r32 r33 r52 z0 z1)) n s = some e → (fun x2 => mj_W X G RX9 "atEnd" cX9_atEnd 4 2 (some .int) mj_P0 mj_S0 98 ad 0 0 37 [(2, .int x2)] [] (mj_rows I [(32, r32), (33, r33), (52, r52)]) L) e → (mj_u2 (fun x2 x3 => mj_W X G RX9 "atEnd" cX9_atEnd 4 2 (some .int) mj_P0 mj_S0 98 ad 0 0 4 [(0, .ref 51), (1, .ref 32), (2, .int x2), (3, .int x3)] [] (mj_rows I [(32, r32), (33, r33), (52, r52)]) L)) s := by
  refine mj_loop (fun s o hf hc hx => ?_)
  obtain ⟨x2, x3⟩ := s
  replace hf := mj_u2e hf
  refine mj_u2q ?_
  unfold bdX9_atEnd_4 at hf
  refine mj_iload_n 3 dX9_atEnd_4 rfl ?_
  refine mj_aload_n 1 dX9_atEnd_5 rfl ?_
  refine mj_getIv (v := (r32 2)) rfl fl_X9_51 rfl s0_32 a0_32 dX9_atEnd_6 ?_
  refine mj_icmp_ge 37 dX9_atEnd_9 (by decide) (fun c1 => ?_) (fun c1 => ?_)
  · replace hf := mj_pos c1 hf
    refine mj_sub [2] [(2, .int x2)] rfl ?_
    obtain rfl := Option.some.inj hf
    have hZ := hx x2 rfl
    exact hZ
  · replace hf := mj_neg c1 hf
    refine mj_aload_n 1 dX9_atEnd_12 rfl ?_
    refine mj_iload_n 3 dX9_atEnd_13 rfl ?_
    obtain ⟨o2, ho2, hf⟩ := mj_bd hf
    refine mj_callVd (I2 := (mj_rows I [(32, r32), (33, r33), (52, r52)])) (L2 := L) (s1 := [.int o2]) (st := []) [.int x3] (cmX4_isEnd X.2.1 G F x3 _ _ r32 r33 rfl rfl o2 ho2) (mj_rr rfl) rfl cw_X9_54 s0_32 a0_32 (by decide) rfl rfl (Nat.le_of_ble_eq_true rfl) ⟨Nat.zero_le _, Nat.zero_le _⟩ dX9_atEnd_14 rfl ?_
    refine mj_if_eq 31 dX9_atEnd_17 (by decide) (fun c3 => ?_) (fun c3 => ?_)
    · replace hf := mj_pos c3 hf
      refine mj_iinc 3 [(3, .int (x3 + (1))), (0, .ref 51), (1, .ref 32), (2, .int x2)] dX9_atEnd_31 rfl (kz_1 _) (by decide) rfl ?_
      refine mj_goto 4 dX9_atEnd_34 (by decide) ?_
      refine mj_sub [1, 2, 3, 0] [(0, .ref 51), (1, .ref 32), (2, .int x2), (3, .int (x3 + (1)))] rfl ?_
      obtain rfl := Option.some.inj hf
      have hZ := hc (x2, (x3 + (1))) rfl
      replace hZ := mj_u2p hZ
      exact hZ
    · replace hf := mj_neg c3 hf
      refine mj_iload_n 2 dX9_atEnd_20 rfl ?_
      refine mj_aload_n 0 dX9_atEnd_21 rfl ?_
      refine mj_getP p0_51_2 (by decide) fl_X9_9 rfl s0_51 a0_51 dX9_atEnd_22 ?_
      refine mj_iload_n 3 dX9_atEnd_25 rfl ?_
      obtain ⟨z4, hf⟩ := mj_ck hf
      refine mj_ialdv (x := r52) rfl s0_52 a0_52 z4 dX9_atEnd_26 ?_
      obtain ⟨o5, ho5, hf⟩ := mj_bd hf
      refine mj_callSd (I2 := (mj_rows I [(32, r32), (33, r33), (52, r52)])) (L2 := L) (s1 := [.int o5]) (st := []) [.int x2, .int (r52 x3.toNatClampNeg)] (cmX3_plus X.2.1 G F x2 (r52 x3.toNatClampNeg) _ _   o5 ho5) rfl rfl cw_X9_45 (by decide) rfl rfl (Nat.le_of_ble_eq_true rfl) ⟨Nat.zero_le _, Nat.zero_le _⟩ dX9_atEnd_27 rfl ?_
      refine mj_istore_n [(2, .int o5), (0, .ref 51), (1, .ref 32), (3, .int x3)] dX9_atEnd_30 rfl (by decide) rfl ?_
      refine mj_iinc 3 [(3, .int (x3 + (1))), (2, .int o5), (0, .ref 51), (1, .ref 32)] dX9_atEnd_31 rfl (kz_1 _) (by decide) rfl ?_
      refine mj_goto 4 dX9_atEnd_34 (by decide) ?_
      refine mj_sub [2, 3, 1, 0] [(0, .ref 51), (1, .ref 32), (2, .int o5), (3, .int (x3 + (1)))] rfl ?_
      obtain rfl := Option.some.inj hf
      have hZ := hc (o5, (x3 + (1))) rfl
      replace hZ := mj_u2p hZ
      exact hZ
set_option maxRecDepth 100000 in
set_option maxHeartbeats 4000000 in
theorem mtX9_atEnd {X : mj_XT} {l : Launch} {G : mj_GT} {ad : Nat → Nat} {Qn : Option Value → mj_IT → mj_LT → Prop} (hR : mj_R X l G mj_P0 mj_S0 98 ad 0 0 Qn) (F : Nat) (I : mj_IT) (L : mj_LT) (r32 : Nat → Int32) (r33 : Nat → Int32) (r52 : Nat → Int32) (o : ((Int32))) (hf : fnX9_atEnd F r32 r33 r52 = some o) (hq : (fun ov => Qn (some (.int ov)) (mj_rows I [(32, r32), (33, r33), (52, r52)]) L) o) : mj_W X G RX9 "atEnd" cX9_atEnd 4 2 (some .int) mj_P0 mj_S0 98 ad 0 0 0 [(0, .ref 51), (1, .ref 32)] [] (mj_rows I [(32, r32), (33, r33), (52, r52)]) L := by
  unfold fnX9_atEnd at hf
  refine mj_iconst dX9_atEnd_0 kc_iconst_0 ?_
  refine mj_istore_n [(2, .int (0 : Int32)), (0, .ref 51), (1, .ref 32)] dX9_atEnd_1 rfl (by decide) rfl ?_
  refine mj_iconst dX9_atEnd_2 kc_iconst_0 ?_
  refine mj_istore_n [(3, .int (0 : Int32)), (2, .int (0 : Int32)), (0, .ref 51), (1, .ref 32)] dX9_atEnd_3 rfl (by decide) rfl ?_
  refine mj_sub [2, 3, 1, 0] [(0, .ref 51), (1, .ref 32), (2, .int (0 : Int32)), (3, .int (0 : Int32))] rfl ?_
  obtain ⟨x2_6, ho6, hf⟩ := mj_bd hf
  refine lpX9_atEnd_4 hR F I L r32 r33 r52 F ((0 : Int32), (0 : Int32)) x2_6 ho6 ?_
  refine ?_
  refine mj_iload_n 0 dX9_atEnd_37 rfl ?_
  obtain rfl := Option.some.inj hf
  have hZ := hq
  exact mj_iret hR ⟨Nat.le_refl _, Nat.le_refl _⟩ rfl rfl dX9_atEnd_38 hZ
set_option maxRecDepth 100000 in
set_option maxHeartbeats 4000000 in
theorem cmX9_atEnd (l : Launch) (G : mj_GT) (F : Nat) (I : mj_IT) (L : mj_LT) (r32 : Nat → Int32) (r33 : Nat → Int32) (r52 : Nat → Int32) (hr32 : I 32 = r32) (hr33 : I 33 = r33) (hr52 : I 52 = r52) (o : ((Int32))) (hf : fnX9_atEnd F r32 r33 r52 = some o) : mj_M l G yX9_atEnd cX9_atEnd 4 2 (some .int) 0 0 mj_P0 mj_S0 98 [.ref 51, .ref 32] I L (mj_qd (some (.int o)) (mj_rows I [(32, r32), (33, r33), (52, r52)]) L) := by
  refine mj_in RX9 "atEnd" [(0, .ref 51), (1, .ref 32)] rfl rfl rfl (by decide) (Nat.le_of_ble_eq_true rfl) (fun X ad hR => ?_)
  refine mj_toI [(32, r32), (33, r33), (52, r52)] (by intro q hq; simp only [List.mem_cons, List.not_mem_nil, or_false] at hq; rcases hq with rfl | rfl | rfl <;> assumption) ?_
  refine mtX9_atEnd hR F I L r32 r33 r52 o hf ?_
  exact ⟨rfl, rfl, rfl⟩

-- J7_fill_53178_53
def bdJ7_fill_53178_53_5 (F : Nat) (x1 : Int32) (x3 : Int32) (x2 : Int32) (r53 : Nat → Int32) : Option (((Int32) × (Nat → Int32)) ⊕ ((Nat → Int32))) := (if x3 ≤ x2 then some (.inr r53) else (if mj_ib x2 200 = true then some (.inl ((x2 + (1)), (upd r53 x2.toNatClampNeg x1))) else none))
def fnJ7_fill_53178_53 (F : Nat) (r53 : Nat → Int32) (x1 : Int32) : Option ((Nat → Int32)) := (mj_it (mj_u2 (fun z0 z1 => bdJ7_fill_53178_53_5 F x1 (200 : Int32) z0 z1)) F ((0 : Int32), r53)).bind (fun r53_3 => some r53_3)
set_option maxRecDepth 100000 in
set_option maxHeartbeats 4000000 in
theorem lpJ7_fill_53178_53_5 {X : mj_XT} {l : Launch} {G : mj_GT} {ad : Nat → Nat} {Qn : Option Value → mj_IT → mj_LT → Prop} (hR : mj_R X l G mj_P0 mj_S0 98 ad 0 0 Qn) (F : Nat) (I : mj_IT) (L : mj_LT) (r53 : Nat → Int32) (x1 : Int32) (x3 : Int32) : ∀ (n : Nat) (s : ((Int32) × (Nat → Int32))) (e : ((Nat → Int32))), mj_it (mj_u2 (fun z0 z1 => bdJ7_fill_53178_53_5 F x1 x3 z0 z1)) n s = some e → (fun r53 => mj_W X G RJ7 "fill" cJ7_fill_53178 4 1 none mj_P0 mj_S0 98 ad 0 0 20 [] [] (mj_rows I [(53, r53)]) L) e → (mj_u2 (fun x2 r53 => mj_W X G RJ7 "fill" cJ7_fill_53178 4 1 none mj_P0 mj_S0 98 ad 0 0 5 [(0, .ref 53), (1, .int x1), (2, .int x2), (3, .int x3)] [] (mj_rows I [(53, r53)]) L)) s := by
  refine mj_loop (fun s o hf hc hx => ?_)
  obtain ⟨x2, r53⟩ := s
  replace hf := mj_u2e hf
  refine mj_u2q ?_
  unfold bdJ7_fill_53178_53_5 at hf
  refine mj_iload_n 2 dJ7_fill_53178_5 rfl ?_
  refine mj_iload_n 3 dJ7_fill_53178_6 rfl ?_
  refine mj_icmp_ge 20 dJ7_fill_53178_7 (by decide) (fun c1 => ?_) (fun c1 => ?_)
  · replace hf := mj_pos c1 hf
    refine mj_sub [] [] rfl ?_
    obtain rfl := Option.some.inj hf
    have hZ := hx r53 rfl
    exact hZ
  · replace hf := mj_neg c1 hf
    refine mj_aload_n 0 dJ7_fill_53178_10 rfl ?_
    refine mj_iload_n 2 dJ7_fill_53178_11 rfl ?_
    refine mj_iload_n 1 dJ7_fill_53178_12 rfl ?_
    obtain ⟨z2, hf⟩ := mj_ck hf
    refine mj_iastr [(53, (upd r53 x2.toNatClampNeg x1))] rfl s0_53 a0_53 z2 dJ7_fill_53178_13 ?_
    refine mj_iinc 2 [(2, .int (x2 + (1))), (0, .ref 53), (1, .int x1), (3, .int x3)] dJ7_fill_53178_14 rfl (kz_1 _) (by decide) rfl ?_
    refine mj_goto 5 dJ7_fill_53178_17 (by decide) ?_
    refine mj_sub [1, 2, 0, 3] [(0, .ref 53), (1, .int x1), (2, .int (x2 + (1))), (3, .int x3)] rfl ?_
    obtain rfl := Option.some.inj hf
    have hZ := hc ((x2 + (1)), (upd r53 x2.toNatClampNeg x1)) rfl
    replace hZ := mj_u2p hZ
    exact hZ
set_option maxRecDepth 100000 in
set_option maxHeartbeats 4000000 in
theorem mtJ7_fill_53178_53 {X : mj_XT} {l : Launch} {G : mj_GT} {ad : Nat → Nat} {Qn : Option Value → mj_IT → mj_LT → Prop} (hR : mj_R X l G mj_P0 mj_S0 98 ad 0 0 Qn) (F : Nat) (I : mj_IT) (L : mj_LT) (r53 : Nat → Int32) (x1 : Int32) (o : ((Nat → Int32))) (hf : fnJ7_fill_53178_53 F r53 x1 = some o) (hq : (fun r53 => Qn none (mj_rows I [(53, r53)]) L) o) : mj_W X G RJ7 "fill" cJ7_fill_53178 4 1 none mj_P0 mj_S0 98 ad 0 0 0 [(0, .ref 53), (1, .int x1)] [] (mj_rows I [(53, r53)]) L := by
  unfold fnJ7_fill_53178_53 at hf
  refine mj_iconst dJ7_fill_53178_0 kc_iconst_0 ?_
  refine mj_istore_n [(2, .int (0 : Int32)), (0, .ref 53), (1, .int x1)] dJ7_fill_53178_1 rfl (by decide) rfl ?_
  refine mj_aload_n 1 dJ7_fill_53178_2 rfl ?_
  refine mj_alen (v := 200) s0_53 (by decide) a0_53 (by decide +kernel) dJ7_fill_53178_3 ?_
  refine mj_istore_n [(3, .int (200 : Int32)), (2, .int (0 : Int32)), (0, .ref 53), (1, .int x1)] dJ7_fill_53178_4 rfl (by decide) rfl ?_
  refine mj_sub [2, 3, 1, 0] [(0, .ref 53), (1, .int x1), (2, .int (0 : Int32)), (3, .int (200 : Int32))] rfl ?_
  obtain ⟨r53_3, ho3, hf⟩ := mj_bd hf
  refine lpJ7_fill_53178_53_5 hR F I L r53 x1 (200 : Int32) F ((0 : Int32), r53) r53_3 ho3 ?_
  refine ?_
  obtain rfl := Option.some.inj hf
  have hZ := hq
  exact mj_vret hR ⟨Nat.le_refl _, Nat.le_refl _⟩ rfl dJ7_fill_53178_20 hZ
set_option maxRecDepth 100000 in
set_option maxHeartbeats 4000000 in
theorem cmJ7_fill_53178_53 (l : Launch) (G : mj_GT) (F : Nat) (x1 : Int32) (I : mj_IT) (L : mj_LT) (r53 : Nat → Int32) (hr53 : I 53 = r53) (o : ((Nat → Int32))) (hf : fnJ7_fill_53178_53 F r53 x1 = some o) : mj_M l G yJ7_fill_53178 cJ7_fill_53178 4 1 none 0 0 mj_P0 mj_S0 98 [.ref 53, .int x1] I L (mj_qd none (mj_rows I [(53, o)]) L) := by
  refine mj_in RJ7 "fill" [(0, .ref 53), (1, .int x1)] rfl rfl rfl (by decide) (Nat.le_of_ble_eq_true rfl) (fun X ad hR => ?_)
  refine mj_toI [(53, r53)] (by intro q hq; simp only [List.mem_cons, List.not_mem_nil, or_false] at hq; rcases hq with rfl <;> assumption) ?_
  refine mtJ7_fill_53178_53 hR F I L r53 x1 o hf ?_
  exact ⟨rfl, rfl, rfl⟩

-- X11_thrown
def fnX11_thrown (F : Nat) (r71 : Nat → Int32) : Option ((Int32)) := some (r71 0)
set_option maxRecDepth 100000 in
set_option maxHeartbeats 4000000 in
theorem mtX11_thrown {X : mj_XT} {l : Launch} {G : mj_GT} {ad : Nat → Nat} {Qn : Option Value → mj_IT → mj_LT → Prop} (hR : mj_R X l G mj_P0 mj_S0 98 ad 0 0 Qn) (F : Nat) (I : mj_IT) (L : mj_LT) (r71 : Nat → Int32) (o : ((Int32))) (hf : fnX11_thrown F r71 = some o) (hq : (fun ov => Qn (some (.int ov)) (mj_rows I [(71, r71)]) L) o) : mj_W X G RX11 "thrown" cX11_thrown 1 1 (some .int) mj_P0 mj_S0 98 ad 0 0 0 [(0, .ref 71)] [] (mj_rows I [(71, r71)]) L := by
  unfold fnX11_thrown at hf
  refine mj_aload_n 0 dX11_thrown_0 rfl ?_
  refine mj_getIv (v := (r71 0)) rfl fl_X11_1 rfl s0_71 a0_71 dX11_thrown_1 ?_
  obtain rfl := Option.some.inj hf
  have hZ := hq
  exact mj_iret hR ⟨Nat.le_refl _, Nat.le_refl _⟩ rfl rfl dX11_thrown_4 hZ
set_option maxRecDepth 100000 in
set_option maxHeartbeats 4000000 in
theorem cmX11_thrown (l : Launch) (G : mj_GT) (F : Nat) (I : mj_IT) (L : mj_LT) (r71 : Nat → Int32) (hr71 : I 71 = r71) (o : ((Int32))) (hf : fnX11_thrown F r71 = some o) : mj_M l G yX11_thrown cX11_thrown 1 1 (some .int) 0 0 mj_P0 mj_S0 98 [.ref 71] I L (mj_qd (some (.int o)) (mj_rows I [(71, r71)]) L) := by
  refine mj_in RX11 "thrown" [(0, .ref 71)] rfl rfl rfl (by decide) (Nat.le_of_ble_eq_true rfl) (fun X ad hR => ?_)
  refine mj_toI [(71, r71)] (by intro q hq; simp only [List.mem_cons, List.not_mem_nil, or_false] at hq; rcases hq with rfl <;> assumption) ?_
  refine mtX11_thrown hR F I L r71 o hf ?_
  exact ⟨rfl, rfl, rfl⟩

-- X11_isFine
def fnX11_isFine (F : Nat) (r71 : Nat → Int32) (r72 : Nat → Int32) (x1 : Int32) (x2 : Int32) (x3 : Int32) : Option ((Int32) × (Nat → Int32) × (Nat → Int32)) := (if x1 = 0 then (if (r71 0) = 0 then (if mj_ib x3 3 = true then (if mj_ib x3 3 = true then (if x2 = 0 then some ((1 : Int32), (upd r71 0 x2), (upd r72 x3.toNatClampNeg ((r72 x3.toNatClampNeg) + (1 : Int32)))) else some ((0 : Int32), (upd r71 0 x2), (upd r72 x3.toNatClampNeg ((r72 x3.toNatClampNeg) + (1 : Int32))))) else none) else none) else (if (r71 0) = 0 then some ((1 : Int32), r71, r72) else some ((0 : Int32), r71, r72))) else (if (r71 0) = 0 then some ((1 : Int32), r71, r72) else some ((0 : Int32), r71, r72)))
set_option maxRecDepth 100000 in
set_option maxHeartbeats 4000000 in
theorem mtX11_isFine {X : mj_XT} {l : Launch} {G : mj_GT} {ad : Nat → Nat} {Qn : Option Value → mj_IT → mj_LT → Prop} (hR : mj_R X l G mj_P0 mj_S0 98 ad 0 0 Qn) (F : Nat) (I : mj_IT) (L : mj_LT) (r71 : Nat → Int32) (r72 : Nat → Int32) (x1 : Int32) (x2 : Int32) (x3 : Int32) (o : ((Int32) × (Nat → Int32) × (Nat → Int32))) (hf : fnX11_isFine F r71 r72 x1 x2 x3 = some o) (hq : (mj_u2 (fun ov => (mj_u2 (fun r71 r72 => Qn (some (.int ov)) (mj_rows I [(71, r71), (72, r72)]) L)))) o) : mj_W X G RX11 "isFine" cX11_isFine 4 1 (some .boolean) mj_P0 mj_S0 98 ad 0 0 0 [(0, .ref 71), (1, .int x1), (2, .int x2), (3, .int x3)] [] (mj_rows I [(71, r71), (72, r72)]) L := by
  unfold fnX11_isFine at hf
  refine mj_iload_n 1 dX11_isFine_0 rfl ?_
  refine mj_if_ne 26 dX11_isFine_1 (by decide) (fun c1 => ?_) (fun c1 => ?_)
  · replace hf := mj_neg c1 hf
    refine mj_aload_n 0 dX11_isFine_26 rfl ?_
    refine mj_getIv (v := (r71 0)) rfl fl_X11_1 rfl s0_71 a0_71 dX11_isFine_27 ?_
    refine mj_if_ne 37 dX11_isFine_30 (by decide) (fun c2 => ?_) (fun c2 => ?_)
    · replace hf := mj_neg c2 hf
      refine mj_iconst dX11_isFine_37 kc_iconst_0 ?_
      obtain rfl := Option.some.inj hf
      have hZ := hq
      replace hZ := mj_u2p hZ
      replace hZ := mj_u2p hZ
      exact mj_iret hR ⟨Nat.le_refl _, Nat.le_refl _⟩ rfl (by decide) dX11_isFine_38 hZ
    · replace hf := mj_pos c2 hf
      refine mj_iconst dX11_isFine_33 kc_iconst_1 ?_
      refine mj_goto 38 dX11_isFine_34 (by decide) ?_
      obtain rfl := Option.some.inj hf
      have hZ := hq
      replace hZ := mj_u2p hZ
      replace hZ := mj_u2p hZ
      exact mj_iret hR ⟨Nat.le_refl _, Nat.le_refl _⟩ rfl (by decide) dX11_isFine_38 hZ
  · replace hf := mj_pos c1 hf
    refine mj_aload_n 0 dX11_isFine_4 rfl ?_
    refine mj_getIv (v := (r71 0)) rfl fl_X11_1 rfl s0_71 a0_71 dX11_isFine_5 ?_
    refine mj_if_ne 26 dX11_isFine_8 (by decide) (fun c3 => ?_) (fun c3 => ?_)
    · replace hf := mj_neg c3 hf
      refine mj_aload_n 0 dX11_isFine_26 rfl ?_
      refine mj_getIv (v := (r71 0)) rfl fl_X11_1 rfl s0_71 a0_71 dX11_isFine_27 ?_
      refine mj_if_ne 37 dX11_isFine_30 (by decide) (fun c4 => ?_) (fun c4 => ?_)
      · replace hf := mj_neg c4 hf
        refine mj_iconst dX11_isFine_37 kc_iconst_0 ?_
        obtain rfl := Option.some.inj hf
        have hZ := hq
        replace hZ := mj_u2p hZ
        replace hZ := mj_u2p hZ
        exact mj_iret hR ⟨Nat.le_refl _, Nat.le_refl _⟩ rfl (by decide) dX11_isFine_38 hZ
      · replace hf := mj_pos c4 hf
        refine mj_iconst dX11_isFine_33 kc_iconst_1 ?_
        refine mj_goto 38 dX11_isFine_34 (by decide) ?_
        obtain rfl := Option.some.inj hf
        have hZ := hq
        replace hZ := mj_u2p hZ
        replace hZ := mj_u2p hZ
        exact mj_iret hR ⟨Nat.le_refl _, Nat.le_refl _⟩ rfl (by decide) dX11_isFine_38 hZ
    · replace hf := mj_pos c3 hf
      refine mj_aload_n 0 dX11_isFine_11 rfl ?_
      refine mj_iload_n 2 dX11_isFine_12 rfl ?_
      refine mj_putIr (ci := 9) (j := 0) [(71, (upd r71 0 x2)), (72, r72)] rfl ⟨rfl, rfl⟩ fl_X11_1 rfl rfl s0_71 a0_71 dX11_isFine_13 ?_
      refine mj_aload_n 0 dX11_isFine_16 rfl ?_
      refine mj_getP p0_71_1 (by decide) fl_X11_7 rfl s0_71 a0_71 dX11_isFine_17 ?_
      refine mj_iload_n 3 dX11_isFine_20 rfl ?_
      refine mj_dup2 dX11_isFine_21 rfl rfl ?_
      obtain ⟨z5, hf⟩ := mj_ck hf
      refine mj_ialdv (x := r72) rfl s0_72 a0_72 z5 dX11_isFine_22 ?_
      refine mj_iconst dX11_isFine_23 kc_iconst_1 ?_
      refine mj_iadd dX11_isFine_24 ?_
      obtain ⟨z6, hf⟩ := mj_ck hf
      refine mj_iastr [(71, (upd r71 0 x2)), (72, (upd r72 x3.toNatClampNeg ((r72 x3.toNatClampNeg) + (1 : Int32))))] rfl s0_72 a0_72 z6 dX11_isFine_25 ?_
      refine mj_aload_n 0 dX11_isFine_26 rfl ?_
      refine mj_getIv (v := x2) rfl fl_X11_1 rfl s0_71 a0_71 dX11_isFine_27 ?_
      refine mj_if_ne 37 dX11_isFine_30 (by decide) (fun c7 => ?_) (fun c7 => ?_)
      · replace hf := mj_neg c7 hf
        refine mj_iconst dX11_isFine_37 kc_iconst_0 ?_
        obtain rfl := Option.some.inj hf
        have hZ := hq
        replace hZ := mj_u2p hZ
        replace hZ := mj_u2p hZ
        exact mj_iret hR ⟨Nat.le_refl _, Nat.le_refl _⟩ rfl (by decide) dX11_isFine_38 hZ
      · replace hf := mj_pos c7 hf
        refine mj_iconst dX11_isFine_33 kc_iconst_1 ?_
        refine mj_goto 38 dX11_isFine_34 (by decide) ?_
        obtain rfl := Option.some.inj hf
        have hZ := hq
        replace hZ := mj_u2p hZ
        replace hZ := mj_u2p hZ
        exact mj_iret hR ⟨Nat.le_refl _, Nat.le_refl _⟩ rfl (by decide) dX11_isFine_38 hZ
set_option maxRecDepth 100000 in
set_option maxHeartbeats 4000000 in
theorem cmX11_isFine (l : Launch) (G : mj_GT) (F : Nat) (x1 : Int32) (x2 : Int32) (x3 : Int32) (I : mj_IT) (L : mj_LT) (r71 : Nat → Int32) (r72 : Nat → Int32) (hr71 : I 71 = r71) (hr72 : I 72 = r72) (o : ((Int32) × (Nat → Int32) × (Nat → Int32))) (hf : fnX11_isFine F r71 r72 x1 x2 x3 = some o) : mj_M l G yX11_isFine cX11_isFine 4 1 (some .boolean) 0 0 mj_P0 mj_S0 98 [.ref 71, .int x1, .int x2, .int x3] I L (mj_qd (some (.int o.1)) (mj_rows I [(71, o.2.1), (72, o.2.2)]) L) := by
  refine mj_in RX11 "isFine" [(0, .ref 71), (1, .int x1), (2, .int x2), (3, .int x3)] rfl rfl rfl (by decide) (Nat.le_of_ble_eq_true rfl) (fun X ad hR => ?_)
  refine mj_toI [(71, r71), (72, r72)] (by intro q hq; simp only [List.mem_cons, List.not_mem_nil, or_false] at hq; rcases hq with rfl | rfl <;> assumption) ?_
  refine mtX11_isFine hR F I L r71 r72 x1 x2 x3 o hf ?_
  obtain ⟨w0, w1, w2⟩ := o
  refine mj_u2q ?_
  refine mj_u2q ?_
  exact ⟨rfl, rfl, rfl⟩

