-- X4_leave
def bdX4_leave_117 (F : Nat) (r20 : Nat → Int32) (r25 : Nat → Int32) (x2 : Int32) (x3 : Int32) (x4 : Int32) (x5 : Int32) (x6 : Int32) (r32 : Nat → Int32) (r33 : Nat → Int32) (r34 : Nat → Int32) (r35 : Nat → Int32) (r38 : Nat → Int32) (r39 : Nat → Int32) (r40 : Nat → Int32) : Option (((Int32) × (Nat → Int32) × (Nat → Int32) × (Nat → Int32) × (Nat → Int32) × (Nat → Int32) × (Nat → Int32) × (Nat → Int32)) ⊕ ((Nat → Int32) × (Nat → Int32) × (Nat → Int32) × (Nat → Int32) × (Nat → Int32) × (Nat → Int32) × (Nat → Int32))) := (if x5 ≤ x6 then some (.inr (r32, r33, r34, r35, r38, r39, r40)) else (if mj_ib x3 40 = true then (if mj_ib x3 40 = true then (fnX1_put F x4 (r20 x3.toNatClampNeg) x6).bind (fun o4 => (if x5 = 0 then none else (fnX4_lead F r32 r33 r34 r35 r38 r39 r40 x2 (r25 x3.toNatClampNeg) o4 ((60 : Int32) / x5)).bind (fun o6 => some (.inl ((x6 + (1)), o6.1, o6.2.1, o6.2.2.1, o6.2.2.2.1, o6.2.2.2.2.1, o6.2.2.2.2.2.1, o6.2.2.2.2.2.2))))) else none) else none))
def jnX4_leave_216 (F : Nat) (r18 : Nat → Int32) (r19 : Nat → Int32) (r20 : Nat → Int32) (r21 : Nat → Int32) (r22 : Nat → Int32) (r23 : Nat → Int32) (r24 : Nat → Int32) (r25 : Nat → Int32) (r26 : Nat → Int32) (x2 : Int32) (x3 : Int32) (x4 : Int32) (r32 : Nat → Int32) (r33 : Nat → Int32) (r34 : Nat → Int32) (r35 : Nat → Int32) (r38 : Nat → Int32) (r39 : Nat → Int32) (r40 : Nat → Int32) : Option ((Nat → Int32) × (Nat → Int32) × (Nat → Int32) × (Nat → Int32) × (Nat → Int32) × (Nat → Int32) × (Nat → Int32)) := (fnX7_holds F r22 r23 r24 x3 x4).bind (fun o7 => (if o7 = 0 then (if mj_ib x3 40 = true then (fnX4_lead F r32 r33 r34 r35 r38 r39 r40 x2 (r26 x3.toNatClampNeg) x4 (60 : Int32)).bind (fun o10 => some (o10.1, o10.2.1, o10.2.2.1, o10.2.2.2.1, o10.2.2.2.2.1, o10.2.2.2.2.2.1, o10.2.2.2.2.2.2)) else none) else (if mj_ib x3 40 = true then (fnX4_lead F r32 r33 r34 r35 r38 r39 r40 x2 (r25 x3.toNatClampNeg) x4 (60 : Int32)).bind (fun o12 => some (o12.1, o12.2.1, o12.2.2.1, o12.2.2.2.1, o12.2.2.2.2.1, o12.2.2.2.2.2.1, o12.2.2.2.2.2.2)) else none)))
def fnX4_leave (F : Nat) (r18 : Nat → Int32) (r19 : Nat → Int32) (r20 : Nat → Int32) (r21 : Nat → Int32) (r22 : Nat → Int32) (r23 : Nat → Int32) (r24 : Nat → Int32) (r25 : Nat → Int32) (r26 : Nat → Int32) (r32 : Nat → Int32) (r33 : Nat → Int32) (r34 : Nat → Int32) (r35 : Nat → Int32) (r38 : Nat → Int32) (r39 : Nat → Int32) (r40 : Nat → Int32) (x2 : Int32) : Option ((Nat → Int32) × (Nat → Int32) × (Nat → Int32) × (Nat → Int32) × (Nat → Int32) × (Nat → Int32) × (Nat → Int32)) := (if mj_ib x2 200 = true then (if (r33 x2.toNatClampNeg) < (r18 0) then (if mj_ib x2 200 = true then (if mj_ib (r33 x2.toNatClampNeg) 40 = true then (if mj_ib (r33 x2.toNatClampNeg) 40 = true then (if (r19 ((r33 x2.toNatClampNeg).toNatClampNeg)) = (0 : Int32) then (if mj_ib (r33 x2.toNatClampNeg) 40 = true then (if mj_ib (r33 x2.toNatClampNeg) 40 = true then (fnX7_assigned F r22 (r33 x2.toNatClampNeg) (r34 x2.toNatClampNeg)).bind (fun o21 => (fnX1_put F (r34 x2.toNatClampNeg) (r20 ((r33 x2.toNatClampNeg).toNatClampNeg)) o21).bind (fun o22 => (fnX4_lead F r32 r33 r34 r35 r38 r39 r40 x2 (r25 ((r33 x2.toNatClampNeg).toNatClampNeg)) o22 (60 : Int32)).bind (fun o23 => some (o23.1, o23.2.1, o23.2.2.1, o23.2.2.2.1, o23.2.2.2.2.1, o23.2.2.2.2.2.1, o23.2.2.2.2.2.2)))) else none) else none) else (if (r19 ((r33 x2.toNatClampNeg).toNatClampNeg)) = (1 : Int32) then (mj_it (mj_u2 (fun z0 => (mj_u2 (fun z1 => (mj_u2 (fun z2 => (mj_u2 (fun z3 => (mj_u2 (fun z4 => (mj_u2 (fun z5 => (mj_u2 (fun z6 z7 => bdX4_leave_117 F r20 r25 x2 (r33 x2.toNatClampNeg) (r34 x2.toNatClampNeg) (r21 ((r33 x2.toNatClampNeg).toNatClampNeg)) z0 z1 z2 z3 z4 z5 z6 z7)))))))))))))) F ((0 : Int32), r32, r33, r34, r35, r38, r39, r40)).bind (mj_u2 (fun r32_24 => (mj_u2 (fun r33_24 => (mj_u2 (fun r34_24 => (mj_u2 (fun r35_24 => (mj_u2 (fun r38_24 => (mj_u2 (fun r39_24 r40_24 => some (r32_24, r33_24, r34_24, r35_24, r38_24, r39_24, r40_24))))))))))))) else (if (r19 ((r33 x2.toNatClampNeg).toNatClampNeg)) = (2 : Int32) then (if mj_ib (r33 x2.toNatClampNeg) 40 = true then (fnX4_lead F r32 r33 r34 r35 r38 r39 r40 x2 (r25 ((r33 x2.toNatClampNeg).toNatClampNeg)) (r34 x2.toNatClampNeg) (r21 ((r33 x2.toNatClampNeg).toNatClampNeg))).bind (fun o26 => (if mj_ib (r33 x2.toNatClampNeg) 40 = true then (fnX4_lead F o26.1 o26.2.1 o26.2.2.1 o26.2.2.2.1 o26.2.2.2.2.1 o26.2.2.2.2.2.1 o26.2.2.2.2.2.2 x2 (r26 ((r33 x2.toNatClampNeg).toNatClampNeg)) (r34 x2.toNatClampNeg) ((60 : Int32) - (r21 ((r33 x2.toNatClampNeg).toNatClampNeg)))).bind (fun o28 => some (o28.1, o28.2.1, o28.2.2.1, o28.2.2.2.1, o28.2.2.2.2.1, o28.2.2.2.2.2.1, o28.2.2.2.2.2.2)) else none)) else none) else (if (r19 ((r33 x2.toNatClampNeg).toNatClampNeg)) = (3 : Int32) then jnX4_leave_216 F r18 r19 r20 r21 r22 r23 r24 r25 r26 x2 (r33 x2.toNatClampNeg) (r34 x2.toNatClampNeg) r32 r33 r34 r35 r38 r39 r40 else (if (r19 ((r33 x2.toNatClampNeg).toNatClampNeg)) = (4 : Int32) then jnX4_leave_216 F r18 r19 r20 r21 r22 r23 r24 r25 r26 x2 (r33 x2.toNatClampNeg) (r34 x2.toNatClampNeg) r32 r33 r34 r35 r38 r39 r40 else (if (r19 ((r33 x2.toNatClampNeg).toNatClampNeg)) = (5 : Int32) then jnX4_leave_216 F r18 r19 r20 r21 r22 r23 r24 r25 r26 x2 (r33 x2.toNatClampNeg) (r34 x2.toNatClampNeg) r32 r33 r34 r35 r38 r39 r40 else (if (r19 ((r33 x2.toNatClampNeg).toNatClampNeg)) = (6 : Int32) then (if mj_ib (r33 x2.toNatClampNeg) 40 = true then (fnX4_lead F r32 r33 r34 r35 r38 r39 r40 x2 (r25 ((r33 x2.toNatClampNeg).toNatClampNeg)) (r34 x2.toNatClampNeg) (60 : Int32)).bind (fun o30 => some (o30.1, o30.2.1, o30.2.2.1, o30.2.2.2.1, o30.2.2.2.2.1, o30.2.2.2.2.2.1, o30.2.2.2.2.2.2)) else none) else jnX4_leave_216 F r18 r19 r20 r21 r22 r23 r24 r25 r26 x2 (r33 x2.toNatClampNeg) (r34 x2.toNatClampNeg) r32 r33 r34 r35 r38 r39 r40))))))) else none) else none) else none) else some (r32, r33, r34, r35, r38, r39, r40)) else none)
set_option maxRecDepth 100000 in
set_option maxHeartbeats 4000000 in
theorem lpX4_leave_117 {X : mj_XT} {l : Launch} {G : mj_GT} {ad : Nat → Nat} {Qn : Option Value → mj_IT → mj_LT → Prop} (hR : mj_R X l G mj_P0 mj_S0 98 ad 0 0 Qn) (F : Nat) (I : mj_IT) (L : mj_LT) (r18 : Nat → Int32) (r19 : Nat → Int32) (r20 : Nat → Int32) (r21 : Nat → Int32) (r22 : Nat → Int32) (r23 : Nat → Int32) (r24 : Nat → Int32) (r25 : Nat → Int32) (r26 : Nat → Int32) (r32 : Nat → Int32) (r33 : Nat → Int32) (r34 : Nat → Int32) (r35 : Nat → Int32) (r38 : Nat → Int32) (r39 : Nat → Int32) (r40 : Nat → Int32) (x2 : Int32) (x3 : Int32) (x4 : Int32) (x5 : Int32) : ∀ (n : Nat) (s : ((Int32) × (Nat → Int32) × (Nat → Int32) × (Nat → Int32) × (Nat → Int32) × (Nat → Int32) × (Nat → Int32) × (Nat → Int32))) (e : ((Nat → Int32) × (Nat → Int32) × (Nat → Int32) × (Nat → Int32) × (Nat → Int32) × (Nat → Int32) × (Nat → Int32))), mj_it (mj_u2 (fun z0 => (mj_u2 (fun z1 => (mj_u2 (fun z2 => (mj_u2 (fun z3 => (mj_u2 (fun z4 => (mj_u2 (fun z5 => (mj_u2 (fun z6 z7 => bdX4_leave_117 F r20 r25 x2 x3 x4 x5 z0 z1 z2 z3 z4 z5 z6 z7)))))))))))))) n s = some e → (mj_u2 (fun r32 => (mj_u2 (fun r33 => (mj_u2 (fun r34 => (mj_u2 (fun r35 => (mj_u2 (fun r38 => (mj_u2 (fun r39 r40 => mj_W X G RX4 "leave" cX4_leave 7 4 none mj_P0 mj_S0 98 ad 0 0 159 [] [] (mj_rows I [(18, r18), (19, r19), (20, r20), (21, r21), (22, r22), (23, r23), (24, r24), (25, r25), (26, r26), (32, r32), (33, r33), (34, r34), (35, r35), (38, r38), (39, r39), (40, r40)]) L)))))))))))) e → (mj_u2 (fun x6 => (mj_u2 (fun r32 => (mj_u2 (fun r33 => (mj_u2 (fun r34 => (mj_u2 (fun r35 => (mj_u2 (fun r38 => (mj_u2 (fun r39 r40 => mj_W X G RX4 "leave" cX4_leave 7 4 none mj_P0 mj_S0 98 ad 0 0 117 [(0, .ref 32), (1, .ref 18), (2, .int x2), (3, .int x3), (4, .int x4), (5, .int x5), (6, .int x6)] [] (mj_rows I [(18, r18), (19, r19), (20, r20), (21, r21), (22, r22), (23, r23), (24, r24), (25, r25), (26, r26), (32, r32), (33, r33), (34, r34), (35, r35), (38, r38), (39, r39), (40, r40)]) L)))))))))))))) s := by
  refine mj_loop (fun s o hf hc hx => ?_)
  obtain ⟨x6, r32, r33, r34, r35, r38, r39, r40⟩ := s
  replace hf := mj_u2e hf
  refine mj_u2q ?_
  replace hf := mj_u2e hf
  refine mj_u2q ?_
  replace hf := mj_u2e hf
  refine mj_u2q ?_
  replace hf := mj_u2e hf
  refine mj_u2q ?_
  replace hf := mj_u2e hf
  refine mj_u2q ?_
  replace hf := mj_u2e hf
  refine mj_u2q ?_
  replace hf := mj_u2e hf
  refine mj_u2q ?_
  unfold bdX4_leave_117 at hf
  refine mj_iload 6 dX4_leave_117 rfl ?_
  refine mj_iload 5 dX4_leave_119 rfl ?_
  refine mj_icmp_ge 159 dX4_leave_121 (by decide) (fun c1 => ?_) (fun c1 => ?_)
  · replace hf := mj_pos c1 hf
    refine mj_sub [] [] rfl ?_
    obtain rfl := Option.some.inj hf
    have hZ := hx (r32, r33, r34, r35, r38, r39, r40) rfl
    replace hZ := mj_u2p hZ
    replace hZ := mj_u2p hZ
    replace hZ := mj_u2p hZ
    replace hZ := mj_u2p hZ
    replace hZ := mj_u2p hZ
    replace hZ := mj_u2p hZ
    exact hZ
  · replace hf := mj_neg c1 hf
    refine mj_aload_n 0 dX4_leave_124 rfl ?_
    refine mj_iload_n 2 dX4_leave_125 rfl ?_
    refine mj_aload_n 1 dX4_leave_126 rfl ?_
    refine mj_getP p0_18_7 (by decide) fl_X4_90 rfl s0_18 a0_18 dX4_leave_127 ?_
    refine mj_iload_n 3 dX4_leave_130 rfl ?_
    obtain ⟨z2, hf⟩ := mj_ck hf
    refine mj_ialdv (x := r25) rfl s0_25 a0_25 z2 dX4_leave_131 ?_
    refine mj_iload 4 dX4_leave_132 rfl ?_
    refine mj_aload_n 1 dX4_leave_134 rfl ?_
    refine mj_getP p0_18_2 (by decide) fl_X4_93 rfl s0_18 a0_18 dX4_leave_135 ?_
    refine mj_iload_n 3 dX4_leave_138 rfl ?_
    obtain ⟨z3, hf⟩ := mj_ck hf
    refine mj_ialdv (x := r20) rfl s0_20 a0_20 z3 dX4_leave_139 ?_
    refine mj_iload 6 dX4_leave_140 rfl ?_
    obtain ⟨o4, ho4, hf⟩ := mj_bd hf
    refine mj_callSd (I2 := (mj_rows I [(18, r18), (19, r19), (20, r20), (21, r21), (22, r22), (23, r23), (24, r24), (25, r25), (26, r26), (32, r32), (33, r33), (34, r34), (35, r35), (38, r38), (39, r39), (40, r40)])) (L2 := L) (s1 := [.int o4, .int (r25 x3.toNatClampNeg), .int x2, .ref 32]) (st := [.int (r25 x3.toNatClampNeg), .int x2, .ref 32]) [.int x4, .int (r20 x3.toNatClampNeg), .int x6] (cmX1_put X.2.1 G F x4 (r20 x3.toNatClampNeg) x6 _ _   o4 ho4) rfl rfl cw_X4_100 (by decide) rfl rfl (Nat.le_of_ble_eq_true rfl) ⟨Nat.zero_le _, Nat.zero_le _⟩ dX4_leave_142 rfl ?_
    refine mj_bipush dX4_leave_145 kc_bipush_60 ?_
    refine mj_iload 5 dX4_leave_147 rfl ?_
    obtain ⟨z5, hf⟩ := mj_nz hf
    refine mj_idiv dX4_leave_149 z5 ?_
    obtain ⟨o6, ho6, hf⟩ := mj_bd hf
    refine mj_callVd (I2 := (mj_rows I [(18, r18), (19, r19), (20, r20), (21, r21), (22, r22), (23, r23), (24, r24), (25, r25), (26, r26), (32, o6.1), (33, o6.2.1), (34, o6.2.2.1), (35, o6.2.2.2.1), (38, o6.2.2.2.2.1), (39, o6.2.2.2.2.2.1), (40, o6.2.2.2.2.2.2)])) (L2 := L) (s1 := []) (st := []) [.int x2, .int (r25 x3.toNatClampNeg), .int o4, .int ((60 : Int32) / x5)] (cmX4_lead X.2.1 G F x2 (r25 x3.toNatClampNeg) o4 ((60 : Int32) / x5) _ _ r32 r33 r34 r35 r38 r39 r40 rfl rfl rfl rfl rfl rfl rfl o6 ho6) (mj_rr rfl) rfl cw_X4_105 s0_32 a0_32 (by decide) rfl rfl (Nat.le_of_ble_eq_true rfl) ⟨Nat.zero_le _, Nat.zero_le _⟩ dX4_leave_150 rfl ?_
    refine mj_iinc 6 [(6, .int (x6 + (1))), (0, .ref 32), (1, .ref 18), (2, .int x2), (3, .int x3), (4, .int x4), (5, .int x5)] dX4_leave_153 rfl (kz_1 _) (by decide) rfl ?_
    refine mj_goto 117 dX4_leave_156 (by decide) ?_
    refine mj_sub [1, 2, 3, 4, 5, 6, 0] [(0, .ref 32), (1, .ref 18), (2, .int x2), (3, .int x3), (4, .int x4), (5, .int x5), (6, .int (x6 + (1)))] rfl ?_
    obtain rfl := Option.some.inj hf
    have hZ := hc ((x6 + (1)), o6.1, o6.2.1, o6.2.2.1, o6.2.2.2.1, o6.2.2.2.2.1, o6.2.2.2.2.2.1, o6.2.2.2.2.2.2) rfl
    replace hZ := mj_u2p hZ
    replace hZ := mj_u2p hZ
    replace hZ := mj_u2p hZ
    replace hZ := mj_u2p hZ
    replace hZ := mj_u2p hZ
    replace hZ := mj_u2p hZ
    replace hZ := mj_u2p hZ
    exact hZ
set_option maxRecDepth 100000 in
set_option maxHeartbeats 4000000 in
theorem jtX4_leave_216 {X : mj_XT} {l : Launch} {G : mj_GT} {ad : Nat → Nat} {Qn : Option Value → mj_IT → mj_LT → Prop} (hR : mj_R X l G mj_P0 mj_S0 98 ad 0 0 Qn) (F : Nat) (I : mj_IT) (L : mj_LT) (r18 : Nat → Int32) (r19 : Nat → Int32) (r20 : Nat → Int32) (r21 : Nat → Int32) (r22 : Nat → Int32) (r23 : Nat → Int32) (r24 : Nat → Int32) (r25 : Nat → Int32) (r26 : Nat → Int32) (r32 : Nat → Int32) (r33 : Nat → Int32) (r34 : Nat → Int32) (r35 : Nat → Int32) (r38 : Nat → Int32) (r39 : Nat → Int32) (r40 : Nat → Int32) (x2 : Int32) (x3 : Int32) (x4 : Int32) (o : ((Nat → Int32) × (Nat → Int32) × (Nat → Int32) × (Nat → Int32) × (Nat → Int32) × (Nat → Int32) × (Nat → Int32))) (hf : jnX4_leave_216 F r18 r19 r20 r21 r22 r23 r24 r25 r26 x2 x3 x4 r32 r33 r34 r35 r38 r39 r40 = some o) (hq : (mj_u2 (fun r32 => (mj_u2 (fun r33 => (mj_u2 (fun r34 => (mj_u2 (fun r35 => (mj_u2 (fun r38 => (mj_u2 (fun r39 r40 => Qn none (mj_rows I [(18, r18), (19, r19), (20, r20), (21, r21), (22, r22), (23, r23), (24, r24), (25, r25), (26, r26), (32, r32), (33, r33), (34, r34), (35, r35), (38, r38), (39, r39), (40, r40)]) L)))))))))))) o) : mj_W X G RX4 "leave" cX4_leave 7 4 none mj_P0 mj_S0 98 ad 0 0 216 [(0, .ref 32), (1, .ref 18), (2, .int x2), (3, .int x3), (4, .int x4)] [] (mj_rows I [(18, r18), (19, r19), (20, r20), (21, r21), (22, r22), (23, r23), (24, r24), (25, r25), (26, r26), (32, r32), (33, r33), (34, r34), (35, r35), (38, r38), (39, r39), (40, r40)]) L := by
  unfold jnX4_leave_216 at hf
  refine mj_aload_n 0 dX4_leave_216 rfl ?_
  refine mj_iload_n 2 dX4_leave_217 rfl ?_
  refine mj_aload_n 1 dX4_leave_218 rfl ?_
  refine mj_iload_n 3 dX4_leave_219 rfl ?_
  refine mj_iload 4 dX4_leave_220 rfl ?_
  obtain ⟨o7, ho7, hf⟩ := mj_bd hf
  refine mj_callVd (I2 := (mj_rows I [(18, r18), (19, r19), (20, r20), (21, r21), (22, r22), (23, r23), (24, r24), (25, r25), (26, r26), (32, r32), (33, r33), (34, r34), (35, r35), (38, r38), (39, r39), (40, r40)])) (L2 := L) (s1 := [.int o7, .int x2, .ref 32]) (st := [.int x2, .ref 32]) [.int x3, .int x4] (cmX7_holds X.2.1 G F x3 x4 _ _ r22 r23 r24 rfl rfl rfl o7 ho7) (mj_rr rfl) rfl cw_X4_112 s0_18 a0_18 (by decide) rfl rfl (Nat.le_of_ble_eq_true rfl) ⟨Nat.zero_le _, Nat.zero_le _⟩ dX4_leave_222 rfl ?_
  refine mj_if_eq 237 dX4_leave_225 (by decide) (fun c8 => ?_) (fun c8 => ?_)
  · replace hf := mj_pos c8 hf
    refine mj_aload_n 1 dX4_leave_237 rfl ?_
    refine mj_getP p0_18_8 (by decide) fl_X4_109 rfl s0_18 a0_18 dX4_leave_238 ?_
    refine mj_iload_n 3 dX4_leave_241 rfl ?_
    obtain ⟨z9, hf⟩ := mj_ck hf
    refine mj_ialdv (x := r26) rfl s0_26 a0_26 z9 dX4_leave_242 ?_
    refine mj_iload 4 dX4_leave_243 rfl ?_
    refine mj_bipush dX4_leave_245 kc_bipush_60 ?_
    obtain ⟨o10, ho10, hf⟩ := mj_bd hf
    refine mj_callVd (I2 := (mj_rows I [(18, r18), (19, r19), (20, r20), (21, r21), (22, r22), (23, r23), (24, r24), (25, r25), (26, r26), (32, o10.1), (33, o10.2.1), (34, o10.2.2.1), (35, o10.2.2.2.1), (38, o10.2.2.2.2.1), (39, o10.2.2.2.2.2.1), (40, o10.2.2.2.2.2.2)])) (L2 := L) (s1 := []) (st := []) [.int x2, .int (r26 x3.toNatClampNeg), .int x4, .int (60 : Int32)] (cmX4_lead X.2.1 G F x2 (r26 x3.toNatClampNeg) x4 (60 : Int32) _ _ r32 r33 r34 r35 r38 r39 r40 rfl rfl rfl rfl rfl rfl rfl o10 ho10) (mj_rr rfl) rfl cw_X4_105 s0_32 a0_32 (by decide) rfl rfl (Nat.le_of_ble_eq_true rfl) ⟨Nat.zero_le _, Nat.zero_le _⟩ dX4_leave_247 rfl ?_
    obtain rfl := Option.some.inj hf
    have hZ := hq
    replace hZ := mj_u2p hZ
    replace hZ := mj_u2p hZ
    replace hZ := mj_u2p hZ
    replace hZ := mj_u2p hZ
    replace hZ := mj_u2p hZ
    replace hZ := mj_u2p hZ
    exact mj_vret hR ⟨Nat.le_refl _, Nat.le_refl _⟩ rfl dX4_leave_250 hZ
  · replace hf := mj_neg c8 hf
    refine mj_aload_n 1 dX4_leave_228 rfl ?_
    refine mj_getP p0_18_7 (by decide) fl_X4_90 rfl s0_18 a0_18 dX4_leave_229 ?_
    refine mj_iload_n 3 dX4_leave_232 rfl ?_
    obtain ⟨z11, hf⟩ := mj_ck hf
    refine mj_ialdv (x := r25) rfl s0_25 a0_25 z11 dX4_leave_233 ?_
    refine mj_goto 243 dX4_leave_234 (by decide) ?_
    refine mj_iload 4 dX4_leave_243 rfl ?_
    refine mj_bipush dX4_leave_245 kc_bipush_60 ?_
    obtain ⟨o12, ho12, hf⟩ := mj_bd hf
    refine mj_callVd (I2 := (mj_rows I [(18, r18), (19, r19), (20, r20), (21, r21), (22, r22), (23, r23), (24, r24), (25, r25), (26, r26), (32, o12.1), (33, o12.2.1), (34, o12.2.2.1), (35, o12.2.2.2.1), (38, o12.2.2.2.2.1), (39, o12.2.2.2.2.2.1), (40, o12.2.2.2.2.2.2)])) (L2 := L) (s1 := []) (st := []) [.int x2, .int (r25 x3.toNatClampNeg), .int x4, .int (60 : Int32)] (cmX4_lead X.2.1 G F x2 (r25 x3.toNatClampNeg) x4 (60 : Int32) _ _ r32 r33 r34 r35 r38 r39 r40 rfl rfl rfl rfl rfl rfl rfl o12 ho12) (mj_rr rfl) rfl cw_X4_105 s0_32 a0_32 (by decide) rfl rfl (Nat.le_of_ble_eq_true rfl) ⟨Nat.zero_le _, Nat.zero_le _⟩ dX4_leave_247 rfl ?_
    obtain rfl := Option.some.inj hf
    have hZ := hq
    replace hZ := mj_u2p hZ
    replace hZ := mj_u2p hZ
    replace hZ := mj_u2p hZ
    replace hZ := mj_u2p hZ
    replace hZ := mj_u2p hZ
    replace hZ := mj_u2p hZ
    exact mj_vret hR ⟨Nat.le_refl _, Nat.le_refl _⟩ rfl dX4_leave_250 hZ
set_option maxRecDepth 100000 in
set_option maxHeartbeats 4000000 in
theorem mtX4_leave {X : mj_XT} {l : Launch} {G : mj_GT} {ad : Nat → Nat} {Qn : Option Value → mj_IT → mj_LT → Prop} (hR : mj_R X l G mj_P0 mj_S0 98 ad 0 0 Qn) (F : Nat) (I : mj_IT) (L : mj_LT) (r18 : Nat → Int32) (r19 : Nat → Int32) (r20 : Nat → Int32) (r21 : Nat → Int32) (r22 : Nat → Int32) (r23 : Nat → Int32) (r24 : Nat → Int32) (r25 : Nat → Int32) (r26 : Nat → Int32) (r32 : Nat → Int32) (r33 : Nat → Int32) (r34 : Nat → Int32) (r35 : Nat → Int32) (r38 : Nat → Int32) (r39 : Nat → Int32) (r40 : Nat → Int32) (x2 : Int32) (o : ((Nat → Int32) × (Nat → Int32) × (Nat → Int32) × (Nat → Int32) × (Nat → Int32) × (Nat → Int32) × (Nat → Int32))) (hf : fnX4_leave F r18 r19 r20 r21 r22 r23 r24 r25 r26 r32 r33 r34 r35 r38 r39 r40 x2 = some o) (hq : (mj_u2 (fun r32 => (mj_u2 (fun r33 => (mj_u2 (fun r34 => (mj_u2 (fun r35 => (mj_u2 (fun r38 => (mj_u2 (fun r39 r40 => Qn none (mj_rows I [(18, r18), (19, r19), (20, r20), (21, r21), (22, r22), (23, r23), (24, r24), (25, r25), (26, r26), (32, r32), (33, r33), (34, r34), (35, r35), (38, r38), (39, r39), (40, r40)]) L)))))))))))) o) : mj_W X G RX4 "leave" cX4_leave 7 4 none mj_P0 mj_S0 98 ad 0 0 0 [(0, .ref 32), (1, .ref 18), (2, .int x2)] [] (mj_rows I [(18, r18), (19, r19), (20, r20), (21, r21), (22, r22), (23, r23), (24, r24), (25, r25), (26, r26), (32, r32), (33, r33), (34, r34), (35, r35), (38, r38), (39, r39), (40, r40)]) L := by
  unfold fnX4_leave at hf
  refine mj_aload_n 0 dX4_leave_0 rfl ?_
  refine mj_getP p0_32_8 (by decide) fl_X4_9 rfl s0_32 a0_32 dX4_leave_1 ?_
  refine mj_iload_n 2 dX4_leave_4 rfl ?_
  obtain ⟨z13, hf⟩ := mj_ck hf
  refine mj_ialdv (x := r33) rfl s0_33 a0_33 z13 dX4_leave_5 ?_
  refine mj_istore_n [(3, .int (r33 x2.toNatClampNeg)), (0, .ref 32), (1, .ref 18), (2, .int x2)] dX4_leave_6 rfl (by decide) rfl ?_
  refine mj_iload_n 0 dX4_leave_7 rfl ?_
  refine mj_aload_n 2 dX4_leave_8 rfl ?_
  refine mj_getIv (v := (r18 0)) rfl fl_X4_54 rfl s0_18 a0_18 dX4_leave_9 ?_
  refine mj_icmp_lt 16 dX4_leave_12 (by decide) (fun c14 => ?_) (fun c14 => ?_)
  · replace hf := mj_pos c14 hf
    refine mj_aload_n 1 dX4_leave_16 rfl ?_
    refine mj_getP p0_32_9 (by decide) fl_X4_15 rfl s0_32 a0_32 dX4_leave_17 ?_
    refine mj_iload_n 3 dX4_leave_20 rfl ?_
    obtain ⟨z15, hf⟩ := mj_ck hf
    refine mj_ialdv (x := r34) rfl s0_34 a0_34 z15 dX4_leave_21 ?_
    refine mj_istore [(4, .int (r34 x2.toNatClampNeg)), (3, .int (r33 x2.toNatClampNeg)), (0, .ref 32), (1, .ref 18), (2, .int x2)] dX4_leave_22 (by decide) rfl ?_
    refine mj_aload_n 3 dX4_leave_24 rfl ?_
    refine mj_getP p0_18_3 (by decide) fl_X4_84 rfl s0_18 a0_18 dX4_leave_25 ?_
    refine mj_iload_n 1 dX4_leave_28 rfl ?_
    obtain ⟨z16, hf⟩ := mj_ck hf
    refine mj_ialdv (x := r21) rfl s0_21 a0_21 z16 dX4_leave_29 ?_
    refine mj_istore [(5, .int (r21 ((r33 x2.toNatClampNeg).toNatClampNeg))), (4, .int (r34 x2.toNatClampNeg)), (3, .int (r33 x2.toNatClampNeg)), (0, .ref 32), (1, .ref 18), (2, .int x2)] dX4_leave_30 (by decide) rfl ?_
    refine mj_aload_n 4 dX4_leave_32 rfl ?_
    refine mj_getP p0_18_1 (by decide) fl_X4_87 rfl s0_18 a0_18 dX4_leave_33 ?_
    refine mj_iload_n 2 dX4_leave_36 rfl ?_
    obtain ⟨z17, hf⟩ := mj_ck hf
    refine mj_ialdv (x := r19) rfl s0_19 a0_19 z17 dX4_leave_37 ?_
    by_cases c18_0 : (r19 ((r33 x2.toNatClampNeg).toNatClampNeg)) = (0 : Int32)
    · replace hf := mj_pos c18_0 hf
      refine mj_tsI (off := 42) 80 c18_0 dX4_leave_38 (by decide) (by decide) (by decide) (by decide) ?_
      refine mj_aload_n 3 dX4_leave_80 rfl ?_
      refine mj_iload_n 5 dX4_leave_81 rfl ?_
      refine mj_aload_n 4 dX4_leave_82 rfl ?_
      refine mj_getP p0_18_7 (by decide) fl_X4_90 rfl s0_18 a0_18 dX4_leave_83 ?_
      refine mj_iload_n 2 dX4_leave_86 rfl ?_
      obtain ⟨z19, hf⟩ := mj_ck hf
      refine mj_ialdv (x := r25) rfl s0_25 a0_25 z19 dX4_leave_87 ?_
      refine mj_iload 1 dX4_leave_88 rfl ?_
      refine mj_aload_n 4 dX4_leave_90 rfl ?_
      refine mj_getP p0_18_2 (by decide) fl_X4_93 rfl s0_18 a0_18 dX4_leave_91 ?_
      refine mj_iload_n 2 dX4_leave_94 rfl ?_
      obtain ⟨z20, hf⟩ := mj_ck hf
      refine mj_ialdv (x := r20) rfl s0_20 a0_20 z20 dX4_leave_95 ?_
      refine mj_aload_n 4 dX4_leave_96 rfl ?_
      refine mj_iload_n 2 dX4_leave_97 rfl ?_
      refine mj_iload 1 dX4_leave_98 rfl ?_
      obtain ⟨o21, ho21, hf⟩ := mj_bd hf
      refine mj_callVd (I2 := (mj_rows I [(18, r18), (19, r19), (20, r20), (21, r21), (22, r22), (23, r23), (24, r24), (25, r25), (26, r26), (32, r32), (33, r33), (34, r34), (35, r35), (38, r38), (39, r39), (40, r40)])) (L2 := L) (s1 := [.int o21, .int (r20 ((r33 x2.toNatClampNeg).toNatClampNeg)), .int (r34 x2.toNatClampNeg), .int (r25 ((r33 x2.toNatClampNeg).toNatClampNeg)), .int x2, .ref 32]) (st := [.int (r20 ((r33 x2.toNatClampNeg).toNatClampNeg)), .int (r34 x2.toNatClampNeg), .int (r25 ((r33 x2.toNatClampNeg).toNatClampNeg)), .int x2, .ref 32]) [.int (r33 x2.toNatClampNeg), .int (r34 x2.toNatClampNeg)] (cmX7_assigned X.2.1 G F (r33 x2.toNatClampNeg) (r34 x2.toNatClampNeg) _ _ r22 rfl o21 ho21) (mj_rr rfl) rfl cw_X4_96 s0_18 a0_18 (by decide) rfl rfl (Nat.le_of_ble_eq_true rfl) ⟨Nat.zero_le _, Nat.zero_le _⟩ dX4_leave_100 rfl ?_
      obtain ⟨o22, ho22, hf⟩ := mj_bd hf
      refine mj_callSd (I2 := (mj_rows I [(18, r18), (19, r19), (20, r20), (21, r21), (22, r22), (23, r23), (24, r24), (25, r25), (26, r26), (32, r32), (33, r33), (34, r34), (35, r35), (38, r38), (39, r39), (40, r40)])) (L2 := L) (s1 := [.int o22, .int (r25 ((r33 x2.toNatClampNeg).toNatClampNeg)), .int x2, .ref 32]) (st := [.int (r25 ((r33 x2.toNatClampNeg).toNatClampNeg)), .int x2, .ref 32]) [.int (r34 x2.toNatClampNeg), .int (r20 ((r33 x2.toNatClampNeg).toNatClampNeg)), .int o21] (cmX1_put X.2.1 G F (r34 x2.toNatClampNeg) (r20 ((r33 x2.toNatClampNeg).toNatClampNeg)) o21 _ _   o22 ho22) rfl rfl cw_X4_100 (by decide) rfl rfl (Nat.le_of_ble_eq_true rfl) ⟨Nat.zero_le _, Nat.zero_le _⟩ dX4_leave_103 rfl ?_
      refine mj_bipush dX4_leave_106 kc_bipush_60 ?_
      obtain ⟨o23, ho23, hf⟩ := mj_bd hf
      refine mj_callVd (I2 := (mj_rows I [(18, r18), (19, r19), (20, r20), (21, r21), (22, r22), (23, r23), (24, r24), (25, r25), (26, r26), (32, o23.1), (33, o23.2.1), (34, o23.2.2.1), (35, o23.2.2.2.1), (38, o23.2.2.2.2.1), (39, o23.2.2.2.2.2.1), (40, o23.2.2.2.2.2.2)])) (L2 := L) (s1 := []) (st := []) [.int x2, .int (r25 ((r33 x2.toNatClampNeg).toNatClampNeg)), .int o22, .int (60 : Int32)] (cmX4_lead X.2.1 G F x2 (r25 ((r33 x2.toNatClampNeg).toNatClampNeg)) o22 (60 : Int32) _ _ r32 r33 r34 r35 r38 r39 r40 rfl rfl rfl rfl rfl rfl rfl o23 ho23) (mj_rr rfl) rfl cw_X4_105 s0_32 a0_32 (by decide) rfl rfl (Nat.le_of_ble_eq_true rfl) ⟨Nat.zero_le _, Nat.zero_le _⟩ dX4_leave_108 rfl ?_
      refine mj_goto 250 dX4_leave_111 (by decide) ?_
      obtain rfl := Option.some.inj hf
      have hZ := hq
      replace hZ := mj_u2p hZ
      replace hZ := mj_u2p hZ
      replace hZ := mj_u2p hZ
      replace hZ := mj_u2p hZ
      replace hZ := mj_u2p hZ
      replace hZ := mj_u2p hZ
      exact mj_vret hR ⟨Nat.le_refl _, Nat.le_refl _⟩ rfl dX4_leave_250 hZ
    · replace hf := mj_neg c18_0 hf
      by_cases c18_1 : (r19 ((r33 x2.toNatClampNeg).toNatClampNeg)) = (1 : Int32)
      · replace hf := mj_pos c18_1 hf
        refine mj_tsI (off := 76) 114 c18_1 dX4_leave_38 (by decide) (by decide) (by decide) (by decide) ?_
        refine mj_iconst dX4_leave_114 kc_iconst_0 ?_
        refine mj_istore [(6, .int (0 : Int32)), (5, .int (r21 ((r33 x2.toNatClampNeg).toNatClampNeg))), (4, .int (r34 x2.toNatClampNeg)), (3, .int (r33 x2.toNatClampNeg)), (0, .ref 32), (1, .ref 18), (2, .int x2)] dX4_leave_115 (by decide) rfl ?_
        refine mj_sub [4, 5, 6, 3, 2, 1, 0] [(0, .ref 32), (1, .ref 18), (2, .int x2), (3, .int (r33 x2.toNatClampNeg)), (4, .int (r34 x2.toNatClampNeg)), (5, .int (r21 ((r33 x2.toNatClampNeg).toNatClampNeg))), (6, .int (0 : Int32))] rfl ?_
        obtain ⟨e24, ho24, hf⟩ := mj_bd hf
        refine lpX4_leave_117 hR F I L r18 r19 r20 r21 r22 r23 r24 r25 r26 r32 r33 r34 r35 r38 r39 r40 x2 (r33 x2.toNatClampNeg) (r34 x2.toNatClampNeg) (r21 ((r33 x2.toNatClampNeg).toNatClampNeg)) F ((0 : Int32), r32, r33, r34, r35, r38, r39, r40) e24 ho24 ?_
        obtain ⟨r32_24, r33_24, r34_24, r35_24, r38_24, r39_24, r40_24⟩ := e24
        replace hf := mj_u2e hf
        replace hf := mj_u2e hf
        replace hf := mj_u2e hf
        replace hf := mj_u2e hf
        replace hf := mj_u2e hf
        replace hf := mj_u2e hf
        refine ?_
        refine mj_u2q ?_
        refine mj_u2q ?_
        refine mj_u2q ?_
        refine mj_u2q ?_
        refine mj_u2q ?_
        refine mj_u2q ?_
        refine mj_goto 250 dX4_leave_159 (by decide) ?_
        obtain rfl := Option.some.inj hf
        have hZ := hq
        replace hZ := mj_u2p hZ
        replace hZ := mj_u2p hZ
        replace hZ := mj_u2p hZ
        replace hZ := mj_u2p hZ
        replace hZ := mj_u2p hZ
        replace hZ := mj_u2p hZ
        exact mj_vret hR ⟨Nat.le_refl _, Nat.le_refl _⟩ rfl dX4_leave_250 hZ
      · replace hf := mj_neg c18_1 hf
        by_cases c18_2 : (r19 ((r33 x2.toNatClampNeg).toNatClampNeg)) = (2 : Int32)
        · replace hf := mj_pos c18_2 hf
          refine mj_tsI (off := 124) 162 c18_2 dX4_leave_38 (by decide) (by decide) (by decide) (by decide) ?_
          refine mj_aload_n 3 dX4_leave_162 rfl ?_
          refine mj_iload_n 5 dX4_leave_163 rfl ?_
          refine mj_aload_n 4 dX4_leave_164 rfl ?_
          refine mj_getP p0_18_7 (by decide) fl_X4_90 rfl s0_18 a0_18 dX4_leave_165 ?_
          refine mj_iload_n 2 dX4_leave_168 rfl ?_
          obtain ⟨z25, hf⟩ := mj_ck hf
          refine mj_ialdv (x := r25) rfl s0_25 a0_25 z25 dX4_leave_169 ?_
          refine mj_iload 1 dX4_leave_170 rfl ?_
          refine mj_iload 0 dX4_leave_172 rfl ?_
          obtain ⟨o26, ho26, hf⟩ := mj_bd hf
          refine mj_callVd (I2 := (mj_rows I [(18, r18), (19, r19), (20, r20), (21, r21), (22, r22), (23, r23), (24, r24), (25, r25), (26, r26), (32, o26.1), (33, o26.2.1), (34, o26.2.2.1), (35, o26.2.2.2.1), (38, o26.2.2.2.2.1), (39, o26.2.2.2.2.2.1), (40, o26.2.2.2.2.2.2)])) (L2 := L) (s1 := []) (st := []) [.int x2, .int (r25 ((r33 x2.toNatClampNeg).toNatClampNeg)), .int (r34 x2.toNatClampNeg), .int (r21 ((r33 x2.toNatClampNeg).toNatClampNeg))] (cmX4_lead X.2.1 G F x2 (r25 ((r33 x2.toNatClampNeg).toNatClampNeg)) (r34 x2.toNatClampNeg) (r21 ((r33 x2.toNatClampNeg).toNatClampNeg)) _ _ r32 r33 r34 r35 r38 r39 r40 rfl rfl rfl rfl rfl rfl rfl o26 ho26) (mj_rr rfl) rfl cw_X4_105 s0_32 a0_32 (by decide) rfl rfl (Nat.le_of_ble_eq_true rfl) ⟨Nat.zero_le _, Nat.zero_le _⟩ dX4_leave_174 rfl ?_
          refine mj_aload_n 3 dX4_leave_177 rfl ?_
          refine mj_iload_n 5 dX4_leave_178 rfl ?_
          refine mj_aload_n 4 dX4_leave_179 rfl ?_
          refine mj_getP p0_18_8 (by decide) fl_X4_109 rfl s0_18 a0_18 dX4_leave_180 ?_
          refine mj_iload_n 2 dX4_leave_183 rfl ?_
          obtain ⟨z27, hf⟩ := mj_ck hf
          refine mj_ialdv (x := r26) rfl s0_26 a0_26 z27 dX4_leave_184 ?_
          refine mj_iload 1 dX4_leave_185 rfl ?_
          refine mj_bipush dX4_leave_187 kc_bipush_60 ?_
          refine mj_iload 0 dX4_leave_189 rfl ?_
          refine mj_isub dX4_leave_191 ?_
          obtain ⟨o28, ho28, hf⟩ := mj_bd hf
          refine mj_callVd (I2 := (mj_rows I [(18, r18), (19, r19), (20, r20), (21, r21), (22, r22), (23, r23), (24, r24), (25, r25), (26, r26), (32, o28.1), (33, o28.2.1), (34, o28.2.2.1), (35, o28.2.2.2.1), (38, o28.2.2.2.2.1), (39, o28.2.2.2.2.2.1), (40, o28.2.2.2.2.2.2)])) (L2 := L) (s1 := []) (st := []) [.int x2, .int (r26 ((r33 x2.toNatClampNeg).toNatClampNeg)), .int (r34 x2.toNatClampNeg), .int ((60 : Int32) - (r21 ((r33 x2.toNatClampNeg).toNatClampNeg)))] (cmX4_lead X.2.1 G F x2 (r26 ((r33 x2.toNatClampNeg).toNatClampNeg)) (r34 x2.toNatClampNeg) ((60 : Int32) - (r21 ((r33 x2.toNatClampNeg).toNatClampNeg))) _ _ o26.1 o26.2.1 o26.2.2.1 o26.2.2.2.1 o26.2.2.2.2.1 o26.2.2.2.2.2.1 o26.2.2.2.2.2.2 rfl rfl rfl rfl rfl rfl rfl o28 ho28) (mj_rr rfl) rfl cw_X4_105 s0_32 a0_32 (by decide) rfl rfl (Nat.le_of_ble_eq_true rfl) ⟨Nat.zero_le _, Nat.zero_le _⟩ dX4_leave_192 rfl ?_
          refine mj_goto 250 dX4_leave_195 (by decide) ?_
          obtain rfl := Option.some.inj hf
          have hZ := hq
          replace hZ := mj_u2p hZ
          replace hZ := mj_u2p hZ
          replace hZ := mj_u2p hZ
          replace hZ := mj_u2p hZ
          replace hZ := mj_u2p hZ
          replace hZ := mj_u2p hZ
          exact mj_vret hR ⟨Nat.le_refl _, Nat.le_refl _⟩ rfl dX4_leave_250 hZ
        · replace hf := mj_neg c18_2 hf
          by_cases c18_3 : (r19 ((r33 x2.toNatClampNeg).toNatClampNeg)) = (3 : Int32)
          · replace hf := mj_pos c18_3 hf
            refine mj_tsI (off := 178) 216 c18_3 dX4_leave_38 (by decide) (by decide) (by decide) (by decide) ?_
            refine mj_sub [3, 4, 5, 2, 1] [(0, .ref 32), (1, .ref 18), (2, .int x2), (3, .int (r33 x2.toNatClampNeg)), (4, .int (r34 x2.toNatClampNeg))] rfl ?_
            exact jtX4_leave_216 hR F I L r18 r19 r20 r21 r22 r23 r24 r25 r26 r32 r33 r34 r35 r38 r39 r40 x2 (r33 x2.toNatClampNeg) (r34 x2.toNatClampNeg) o hf hq
          · replace hf := mj_neg c18_3 hf
            by_cases c18_4 : (r19 ((r33 x2.toNatClampNeg).toNatClampNeg)) = (4 : Int32)
            · replace hf := mj_pos c18_4 hf
              refine mj_tsI (off := 178) 216 c18_4 dX4_leave_38 (by decide) (by decide) (by decide) (by decide) ?_
              refine mj_sub [3, 4, 5, 2, 1] [(0, .ref 32), (1, .ref 18), (2, .int x2), (3, .int (r33 x2.toNatClampNeg)), (4, .int (r34 x2.toNatClampNeg))] rfl ?_
              exact jtX4_leave_216 hR F I L r18 r19 r20 r21 r22 r23 r24 r25 r26 r32 r33 r34 r35 r38 r39 r40 x2 (r33 x2.toNatClampNeg) (r34 x2.toNatClampNeg) o hf hq
            · replace hf := mj_neg c18_4 hf
              by_cases c18_5 : (r19 ((r33 x2.toNatClampNeg).toNatClampNeg)) = (5 : Int32)
              · replace hf := mj_pos c18_5 hf
                refine mj_tsI (off := 178) 216 c18_5 dX4_leave_38 (by decide) (by decide) (by decide) (by decide) ?_
                refine mj_sub [3, 4, 5, 2, 1] [(0, .ref 32), (1, .ref 18), (2, .int x2), (3, .int (r33 x2.toNatClampNeg)), (4, .int (r34 x2.toNatClampNeg))] rfl ?_
                exact jtX4_leave_216 hR F I L r18 r19 r20 r21 r22 r23 r24 r25 r26 r32 r33 r34 r35 r38 r39 r40 x2 (r33 x2.toNatClampNeg) (r34 x2.toNatClampNeg) o hf hq
              · replace hf := mj_neg c18_5 hf
                by_cases c18_6 : (r19 ((r33 x2.toNatClampNeg).toNatClampNeg)) = (6 : Int32)
                · replace hf := mj_pos c18_6 hf
                  refine mj_tsI (off := 160) 198 c18_6 dX4_leave_38 (by decide) (by decide) (by decide) (by decide) ?_
                  refine mj_aload_n 3 dX4_leave_198 rfl ?_
                  refine mj_iload_n 5 dX4_leave_199 rfl ?_
                  refine mj_aload_n 4 dX4_leave_200 rfl ?_
                  refine mj_getP p0_18_7 (by decide) fl_X4_90 rfl s0_18 a0_18 dX4_leave_201 ?_
                  refine mj_iload_n 2 dX4_leave_204 rfl ?_
                  obtain ⟨z29, hf⟩ := mj_ck hf
                  refine mj_ialdv (x := r25) rfl s0_25 a0_25 z29 dX4_leave_205 ?_
                  refine mj_iload 1 dX4_leave_206 rfl ?_
                  refine mj_bipush dX4_leave_208 kc_bipush_60 ?_
                  obtain ⟨o30, ho30, hf⟩ := mj_bd hf
                  refine mj_callVd (I2 := (mj_rows I [(18, r18), (19, r19), (20, r20), (21, r21), (22, r22), (23, r23), (24, r24), (25, r25), (26, r26), (32, o30.1), (33, o30.2.1), (34, o30.2.2.1), (35, o30.2.2.2.1), (38, o30.2.2.2.2.1), (39, o30.2.2.2.2.2.1), (40, o30.2.2.2.2.2.2)])) (L2 := L) (s1 := []) (st := []) [.int x2, .int (r25 ((r33 x2.toNatClampNeg).toNatClampNeg)), .int (r34 x2.toNatClampNeg), .int (60 : Int32)] (cmX4_lead X.2.1 G F x2 (r25 ((r33 x2.toNatClampNeg).toNatClampNeg)) (r34 x2.toNatClampNeg) (60 : Int32) _ _ r32 r33 r34 r35 r38 r39 r40 rfl rfl rfl rfl rfl rfl rfl o30 ho30) (mj_rr rfl) rfl cw_X4_105 s0_32 a0_32 (by decide) rfl rfl (Nat.le_of_ble_eq_true rfl) ⟨Nat.zero_le _, Nat.zero_le _⟩ dX4_leave_210 rfl ?_
                  refine mj_goto 250 dX4_leave_213 (by decide) ?_
                  obtain rfl := Option.some.inj hf
                  have hZ := hq
                  replace hZ := mj_u2p hZ
                  replace hZ := mj_u2p hZ
                  replace hZ := mj_u2p hZ
                  replace hZ := mj_u2p hZ
                  replace hZ := mj_u2p hZ
                  replace hZ := mj_u2p hZ
                  exact mj_vret hR ⟨Nat.le_refl _, Nat.le_refl _⟩ rfl dX4_leave_250 hZ
                · replace hf := mj_neg c18_6 hf
                  refine mj_tsO 216 (ts_0_6 _ c18_0 c18_1 c18_2 c18_3 c18_4 c18_5 c18_6) dX4_leave_38 (by decide) ?_
                  refine mj_sub [3, 4, 5, 2, 1] [(0, .ref 32), (1, .ref 18), (2, .int x2), (3, .int (r33 x2.toNatClampNeg)), (4, .int (r34 x2.toNatClampNeg))] rfl ?_
                  exact jtX4_leave_216 hR F I L r18 r19 r20 r21 r22 r23 r24 r25 r26 r32 r33 r34 r35 r38 r39 r40 x2 (r33 x2.toNatClampNeg) (r34 x2.toNatClampNeg) o hf hq
  · replace hf := mj_neg c14 hf
    obtain rfl := Option.some.inj hf
    have hZ := hq
    replace hZ := mj_u2p hZ
    replace hZ := mj_u2p hZ
    replace hZ := mj_u2p hZ
    replace hZ := mj_u2p hZ
    replace hZ := mj_u2p hZ
    replace hZ := mj_u2p hZ
    exact mj_vret hR ⟨Nat.le_refl _, Nat.le_refl _⟩ rfl dX4_leave_15 hZ
set_option maxRecDepth 100000 in
set_option maxHeartbeats 4000000 in
theorem cmX4_leave (l : Launch) (G : mj_GT) (F : Nat) (x2 : Int32) (I : mj_IT) (L : mj_LT) (r18 : Nat → Int32) (r19 : Nat → Int32) (r20 : Nat → Int32) (r21 : Nat → Int32) (r22 : Nat → Int32) (r23 : Nat → Int32) (r24 : Nat → Int32) (r25 : Nat → Int32) (r26 : Nat → Int32) (r32 : Nat → Int32) (r33 : Nat → Int32) (r34 : Nat → Int32) (r35 : Nat → Int32) (r38 : Nat → Int32) (r39 : Nat → Int32) (r40 : Nat → Int32) (hr18 : I 18 = r18) (hr19 : I 19 = r19) (hr20 : I 20 = r20) (hr21 : I 21 = r21) (hr22 : I 22 = r22) (hr23 : I 23 = r23) (hr24 : I 24 = r24) (hr25 : I 25 = r25) (hr26 : I 26 = r26) (hr32 : I 32 = r32) (hr33 : I 33 = r33) (hr34 : I 34 = r34) (hr35 : I 35 = r35) (hr38 : I 38 = r38) (hr39 : I 39 = r39) (hr40 : I 40 = r40) (o : ((Nat → Int32) × (Nat → Int32) × (Nat → Int32) × (Nat → Int32) × (Nat → Int32) × (Nat → Int32) × (Nat → Int32))) (hf : fnX4_leave F r18 r19 r20 r21 r22 r23 r24 r25 r26 r32 r33 r34 r35 r38 r39 r40 x2 = some o) : mj_M l G yX4_leave cX4_leave 7 4 none 0 0 mj_P0 mj_S0 98 [.ref 32, .ref 18, .int x2] I L (mj_qd none (mj_rows I [(18, r18), (19, r19), (20, r20), (21, r21), (22, r22), (23, r23), (24, r24), (25, r25), (26, r26), (32, o.1), (33, o.2.1), (34, o.2.2.1), (35, o.2.2.2.1), (38, o.2.2.2.2.1), (39, o.2.2.2.2.2.1), (40, o.2.2.2.2.2.2)]) L) := by
  refine mj_in RX4 "leave" [(0, .ref 32), (1, .ref 18), (2, .int x2)] rfl rfl rfl (by decide) (Nat.le_of_ble_eq_true rfl) (fun X ad hR => ?_)
  refine mj_toI [(18, r18), (19, r19), (20, r20), (21, r21), (22, r22), (23, r23), (24, r24), (25, r25), (26, r26), (32, r32), (33, r33), (34, r34), (35, r35), (38, r38), (39, r39), (40, r40)] (by intro q hq; simp only [List.mem_cons, List.not_mem_nil, or_false] at hq; rcases hq with rfl | rfl | rfl | rfl | rfl | rfl | rfl | rfl | rfl | rfl | rfl | rfl | rfl | rfl | rfl | rfl <;> assumption) ?_
  refine mtX4_leave hR F I L r18 r19 r20 r21 r22 r23 r24 r25 r26 r32 r33 r34 r35 r38 r39 r40 x2 o hf ?_
  obtain ⟨w0, w1, w2, w3, w4, w5, w6⟩ := o
  refine mj_u2q ?_
  refine mj_u2q ?_
  refine mj_u2q ?_
  refine mj_u2q ?_
  refine mj_u2q ?_
  refine mj_u2q ?_
  exact ⟨rfl, rfl, rfl⟩

-- X4_leadsOut
def bdX4_leadsOut_7 (F : Nat) (r36 : Nat → Int32) (r37 : Nat → Int32) (r38 : Nat → Int32) (x1 : Int32) (x2 : Int32) : Option (((Int32)) ⊕ (Unit ⊕ Unit)) := (if mj_ib (x1 + (1 : Int32)) 201 = true then (if (r37 ((x1 + (1 : Int32)).toNatClampNeg)) ≤ x2 then some (.inr (.inl ())) else (if mj_ib x2 2000 = true then (if mj_ib (r38 x2.toNatClampNeg) 200 = true then (if (r36 ((r38 x2.toNatClampNeg).toNatClampNeg)) = 0 then some (.inr (.inr ())) else some (.inl (x2 + (1)))) else none) else none)) else none)
def fnX4_leadsOut (F : Nat) (r36 : Nat → Int32) (r37 : Nat → Int32) (r38 : Nat → Int32) (x1 : Int32) : Option ((Int32)) := (if mj_ib x1 201 = true then (mj_it (bdX4_leadsOut_7 F r36 r37 r38 x1) F (r37 x1.toNatClampNeg)).bind (Sum.elim (fun _ => some (0 : Int32)) (fun _ => some (1 : Int32))) else none)
set_option maxRecDepth 100000 in
set_option maxHeartbeats 4000000 in
theorem lpX4_leadsOut_7 {X : mj_XT} {l : Launch} {G : mj_GT} {ad : Nat → Nat} {Qn : Option Value → mj_IT → mj_LT → Prop} (hR : mj_R X l G mj_P0 mj_S0 98 ad 0 0 Qn) (F : Nat) (I : mj_IT) (L : mj_LT) (r36 : Nat → Int32) (r37 : Nat → Int32) (r38 : Nat → Int32) (x1 : Int32) : ∀ (n : Nat) (s : ((Int32))) (e : (Unit ⊕ Unit)), mj_it (bdX4_leadsOut_7 F r36 r37 r38 x1) n s = some e → (Sum.elim (fun _ => mj_W X G RX4 "leadsOut" cX4_leadsOut 3 1 (some .boolean) mj_P0 mj_S0 98 ad 0 0 41 [] [] (mj_rows I [(36, r36), (37, r37), (38, r38)]) L) (fun _ => mj_W X G RX4 "leadsOut" cX4_leadsOut 3 1 (some .boolean) mj_P0 mj_S0 98 ad 0 0 33 [] [] (mj_rows I [(36, r36), (37, r37), (38, r38)]) L)) e → (fun x2 => mj_W X G RX4 "leadsOut" cX4_leadsOut 3 1 (some .boolean) mj_P0 mj_S0 98 ad 0 0 7 [(0, .ref 32), (1, .int x1), (2, .int x2)] [] (mj_rows I [(36, r36), (37, r37), (38, r38)]) L) s := by
  refine mj_loop (fun x2 o hf hc hx => ?_)
  unfold bdX4_leadsOut_7 at hf
  refine mj_iload_n 2 dX4_leadsOut_7 rfl ?_
  refine mj_aload_n 0 dX4_leadsOut_8 rfl ?_
  refine mj_getP p0_32_12 (by decide) fl_X4_25 rfl s0_32 a0_32 dX4_leadsOut_9 ?_
  refine mj_iload_n 1 dX4_leadsOut_12 rfl ?_
  refine mj_iconst dX4_leadsOut_13 kc_iconst_1 ?_
  refine mj_iadd dX4_leadsOut_14 ?_
  obtain ⟨z1, hf⟩ := mj_ck hf
  refine mj_ialdv (x := r37) rfl s0_37 a0_37 z1 dX4_leadsOut_15 ?_
  refine mj_icmp_ge 41 dX4_leadsOut_16 (by decide) (fun c2 => ?_) (fun c2 => ?_)
  · replace hf := mj_pos c2 hf
    refine mj_sub [] [] rfl ?_
    obtain rfl := Option.some.inj hf
    have hZ := hx (.inl ()) rfl
    replace hZ := mj_el hZ
    exact hZ
  · replace hf := mj_neg c2 hf
    refine mj_aload_n 0 dX4_leadsOut_19 rfl ?_
    refine mj_getP p0_32_11 (by decide) fl_X4_21 rfl s0_32 a0_32 dX4_leadsOut_20 ?_
    refine mj_aload_n 0 dX4_leadsOut_23 rfl ?_
    refine mj_getP p0_32_13 (by decide) fl_X4_28 rfl s0_32 a0_32 dX4_leadsOut_24 ?_
    refine mj_iload_n 2 dX4_leadsOut_27 rfl ?_
    obtain ⟨z3, hf⟩ := mj_ck hf
    refine mj_ialdv (x := r38) rfl s0_38 a0_38 z3 dX4_leadsOut_28 ?_
    obtain ⟨z4, hf⟩ := mj_ck hf
    refine mj_zaldv (x := r36) rfl s0_36 a0_36 z4 dX4_leadsOut_29 ?_
    refine mj_if_ne 35 dX4_leadsOut_30 (by decide) (fun c5 => ?_) (fun c5 => ?_)
    · replace hf := mj_neg c5 hf
      refine mj_iinc 2 [(2, .int (x2 + (1))), (0, .ref 32), (1, .int x1)] dX4_leadsOut_35 rfl (kz_1 _) (by decide) rfl ?_
      refine mj_goto 7 dX4_leadsOut_38 (by decide) ?_
      refine mj_sub [1, 2, 0] [(0, .ref 32), (1, .int x1), (2, .int (x2 + (1)))] rfl ?_
      obtain rfl := Option.some.inj hf
      have hZ := hc (x2 + (1)) rfl
      exact hZ
    · replace hf := mj_pos c5 hf
      refine mj_sub [] [] rfl ?_
      obtain rfl := Option.some.inj hf
      have hZ := hx (.inr ()) rfl
      replace hZ := mj_er hZ
      exact hZ
set_option maxRecDepth 100000 in
set_option maxHeartbeats 4000000 in
theorem mtX4_leadsOut {X : mj_XT} {l : Launch} {G : mj_GT} {ad : Nat → Nat} {Qn : Option Value → mj_IT → mj_LT → Prop} (hR : mj_R X l G mj_P0 mj_S0 98 ad 0 0 Qn) (F : Nat) (I : mj_IT) (L : mj_LT) (r36 : Nat → Int32) (r37 : Nat → Int32) (r38 : Nat → Int32) (x1 : Int32) (o : ((Int32))) (hf : fnX4_leadsOut F r36 r37 r38 x1 = some o) (hq : (fun ov => Qn (some (.int ov)) (mj_rows I [(36, r36), (37, r37), (38, r38)]) L) o) : mj_W X G RX4 "leadsOut" cX4_leadsOut 3 1 (some .boolean) mj_P0 mj_S0 98 ad 0 0 0 [(0, .ref 32), (1, .int x1)] [] (mj_rows I [(36, r36), (37, r37), (38, r38)]) L := by
  unfold fnX4_leadsOut at hf
  refine mj_aload_n 0 dX4_leadsOut_0 rfl ?_
  refine mj_getP p0_32_12 (by decide) fl_X4_25 rfl s0_32 a0_32 dX4_leadsOut_1 ?_
  refine mj_iload_n 1 dX4_leadsOut_4 rfl ?_
  obtain ⟨z6, hf⟩ := mj_ck hf
  refine mj_ialdv (x := r37) rfl s0_37 a0_37 z6 dX4_leadsOut_5 ?_
  refine mj_istore_n [(2, .int (r37 x1.toNatClampNeg)), (0, .ref 32), (1, .int x1)] dX4_leadsOut_6 rfl (by decide) rfl ?_
  refine mj_sub [1, 2, 0] [(0, .ref 32), (1, .int x1), (2, .int (r37 x1.toNatClampNeg))] rfl ?_
  obtain ⟨e7, ho7, hf⟩ := mj_bd hf
  refine lpX4_leadsOut_7 hR F I L r36 r37 r38 x1 F (r37 x1.toNatClampNeg) e7 ho7 ?_
  rcases e7 with e7 | e7
  · replace hf := mj_ele hf
    refine mj_elq (?_)
    refine mj_iconst dX4_leadsOut_41 kc_iconst_0 ?_
    obtain rfl := Option.some.inj hf
    have hZ := hq
    exact mj_iret hR ⟨Nat.le_refl _, Nat.le_refl _⟩ rfl (by decide) dX4_leadsOut_42 hZ
  · replace hf := mj_ere hf
    refine mj_erq (?_)
    refine mj_iconst dX4_leadsOut_33 kc_iconst_1 ?_
    obtain rfl := Option.some.inj hf
    have hZ := hq
    exact mj_iret hR ⟨Nat.le_refl _, Nat.le_refl _⟩ rfl (by decide) dX4_leadsOut_34 hZ
set_option maxRecDepth 100000 in
set_option maxHeartbeats 4000000 in
theorem cmX4_leadsOut (l : Launch) (G : mj_GT) (F : Nat) (x1 : Int32) (I : mj_IT) (L : mj_LT) (r36 : Nat → Int32) (r37 : Nat → Int32) (r38 : Nat → Int32) (hr36 : I 36 = r36) (hr37 : I 37 = r37) (hr38 : I 38 = r38) (o : ((Int32))) (hf : fnX4_leadsOut F r36 r37 r38 x1 = some o) : mj_M l G yX4_leadsOut cX4_leadsOut 3 1 (some .boolean) 0 0 mj_P0 mj_S0 98 [.ref 32, .int x1] I L (mj_qd (some (.int o)) (mj_rows I [(36, r36), (37, r37), (38, r38)]) L) := by
  refine mj_in RX4 "leadsOut" [(0, .ref 32), (1, .int x1)] rfl rfl rfl (by decide) (Nat.le_of_ble_eq_true rfl) (fun X ad hR => ?_)
  refine mj_toI [(36, r36), (37, r37), (38, r38)] (by intro q hq; simp only [List.mem_cons, List.not_mem_nil, or_false] at hq; rcases hq with rfl | rfl | rfl <;> assumption) ?_
  refine mtX4_leadsOut hR F I L r36 r37 r38 x1 o hf ?_
  exact ⟨rfl, rfl, rfl⟩

-- X4_findTrapped
def jnX4_findTrapped_38 (F : Nat) (r33 : Nat → Int32) (x1 : Int32) (t1 : Int32) (t2 : Int32) (r32 : Nat → Int32) (r36 : Nat → Int32) : Option (((Int32) × (Nat → Int32) × (Nat → Int32)) ⊕ ((Nat → Int32) × (Nat → Int32))) := (if mj_ib t1 200 = true then (if mj_ib x1 200 = true then (if ((upd r36 t1.toNatClampNeg (vp_nar .boolean t2)) x1.toNatClampNeg) = 0 then some (.inl ((x1 + (1)), (upd r32 5 ((r32 5) + (0 : Int32))), (upd r36 t1.toNatClampNeg (vp_nar .boolean t2)))) else some (.inl ((x1 + (1)), (upd r32 5 ((r32 5) + (1 : Int32))), (upd r36 t1.toNatClampNeg (vp_nar .boolean t2))))) else none) else none)
def bdX4_findTrapped_7 (F : Nat) (r33 : Nat → Int32) (x1 : Int32) (r32 : Nat → Int32) (r36 : Nat → Int32) : Option (((Int32) × (Nat → Int32) × (Nat → Int32)) ⊕ ((Nat → Int32) × (Nat → Int32))) := (if (r32 2) ≤ x1 then some (.inr (r32, r36)) else (if mj_ib x1 200 = true then (if (r32 7) ≤ (r33 x1.toNatClampNeg) then jnX4_findTrapped_38 F r33 x1 x1 (0 : Int32) r32 r36 else jnX4_findTrapped_38 F r33 x1 x1 (1 : Int32) r32 r36) else none))
def bdX4_findTrapped_92 (F : Nat) (r37 : Nat → Int32) (r38 : Nat → Int32) (x2 : Int32) (x1 : Int32) (x3 : Int32) (r32 : Nat → Int32) (r36 : Nat → Int32) : Option (((Int32) × (Int32) × (Nat → Int32) × (Nat → Int32)) ⊕ ((Int32) × (Nat → Int32) × (Nat → Int32))) := (if x3 < 0 then some (.inr (x1, r32, r36)) else (if mj_ib x3 200 = true then (if (r36 x3.toNatClampNeg) = 0 then some (.inl (x1, (x3 + (-1)), r32, r36)) else (fnX4_leadsOut F r36 r37 r38 x3).bind (fun o10 => (if o10 = 0 then some (.inl (x1, (x3 + (-1)), r32, r36)) else (if mj_ib x3 200 = true then some (.inl ((1 : Int32), (x3 + (-1)), (upd r32 5 ((r32 5) - (1 : Int32))), (upd r36 x3.toNatClampNeg (vp_nar .boolean (0 : Int32))))) else none)))) else none))
def bdX4_findTrapped_72 (F : Nat) (r37 : Nat → Int32) (r38 : Nat → Int32) (x1 : Int32) (x2 : Int32) (r32 : Nat → Int32) (r36 : Nat → Int32) : Option (((Int32) × (Int32) × (Nat → Int32) × (Nat → Int32)) ⊕ ((Nat → Int32) × (Nat → Int32))) := (if (200 : Int32) ≤ x2 then some (.inr (r32, r36)) else (if x1 = 0 then some (.inr (r32, r36)) else (mj_it (mj_u2 (fun z0 => (mj_u2 (fun z1 => (mj_u2 (fun z2 z3 => bdX4_findTrapped_92 F r37 r38 x2 z0 z1 z2 z3)))))) F ((0 : Int32), ((r32 2) - (1 : Int32)), r32, r36)).bind (mj_u2 (fun x1_15 => (mj_u2 (fun r32_15 r36_15 => some (.inl (x1_15, (x2 + (1)), r32_15, r36_15))))))))
def fnX4_findTrapped (F : Nat) (r32 : Nat → Int32) (r33 : Nat → Int32) (r36 : Nat → Int32) (r37 : Nat → Int32) (r38 : Nat → Int32) : Option ((Nat → Int32) × (Nat → Int32)) := (mj_it (mj_u2 (fun z0 => (mj_u2 (fun z1 z2 => bdX4_findTrapped_7 F r33 z0 z1 z2)))) F ((0 : Int32), (upd r32 5 (0 : Int32)), r36)).bind (mj_u2 (fun r32_16 r36_16 => (mj_it (mj_u2 (fun z0 => (mj_u2 (fun z1 => (mj_u2 (fun z2 z3 => bdX4_findTrapped_72 F r37 r38 z0 z1 z2 z3)))))) F ((1 : Int32), (0 : Int32), r32_16, r36_16)).bind (mj_u2 (fun r32_17 r36_17 => some (r32_17, r36_17)))))
set_option maxRecDepth 100000 in
set_option maxHeartbeats 4000000 in
theorem jtX4_findTrapped_38 {X : mj_XT} {l : Launch} {G : mj_GT} {ad : Nat → Nat} {Qn : Option Value → mj_IT → mj_LT → Prop} (hR : mj_R X l G mj_P0 mj_S0 98 ad 0 0 Qn) (F : Nat) (I : mj_IT) (L : mj_LT) (r32 : Nat → Int32) (r33 : Nat → Int32) (r36 : Nat → Int32) (r37 : Nat → Int32) (r38 : Nat → Int32) (x1 : Int32) (t1 : Int32) (t2 : Int32) (o : (((Int32) × (Nat → Int32) × (Nat → Int32)) ⊕ ((Nat → Int32) × (Nat → Int32)))) (hf : jnX4_findTrapped_38 F r33 x1 t1 t2 r32 r36 = some o) (hc : ∀ s2 : ((Int32) × (Nat → Int32) × (Nat → Int32)), o = .inl s2 → (mj_u2 (fun x1 => (mj_u2 (fun r32 r36 => mj_W X G RX4 "findTrapped" cX4_findTrapped 4 2 none mj_P0 mj_S0 98 ad 0 0 7 [(0, .ref 32), (1, .int x1)] [] (mj_rows I [(32, r32), (33, r33), (36, r36), (37, r37), (38, r38)]) L)))) s2) (hx : ∀ e2 : ((Nat → Int32) × (Nat → Int32)), o = .inr e2 → (mj_u2 (fun r32 r36 => mj_W X G RX4 "findTrapped" cX4_findTrapped 4 2 none mj_P0 mj_S0 98 ad 0 0 68 [(0, .ref 32)] [] (mj_rows I [(32, r32), (33, r33), (36, r36), (37, r37), (38, r38)]) L)) e2) : mj_W X G RX4 "findTrapped" cX4_findTrapped 4 2 none mj_P0 mj_S0 98 ad 0 0 38 [(0, .ref 32), (1, .int x1)] [.int t2, .int t1, .ref 36] (mj_rows I [(32, r32), (33, r33), (36, r36), (37, r37), (38, r38)]) L := by
  unfold jnX4_findTrapped_38 at hf
  obtain ⟨z1, hf⟩ := mj_ck hf
  refine mj_zastr [(32, r32), (33, r33), (36, (upd r36 t1.toNatClampNeg (vp_nar .boolean t2))), (37, r37), (38, r38)] rfl s0_36 a0_36 z1 dX4_findTrapped_38 ?_
  refine mj_aload_n 0 dX4_findTrapped_39 rfl ?_
  refine mj_dup dX4_findTrapped_40 rfl ?_
  refine mj_getIv (v := (r32 5)) rfl fl_X4_118 rfl s0_32 a0_32 dX4_findTrapped_41 ?_
  refine mj_aload_n 0 dX4_findTrapped_44 rfl ?_
  refine mj_getP p0_32_11 (by decide) fl_X4_21 rfl s0_32 a0_32 dX4_findTrapped_45 ?_
  refine mj_iload_n 1 dX4_findTrapped_48 rfl ?_
  obtain ⟨z2, hf⟩ := mj_ck hf
  refine mj_zaldv (x := (upd r36 t1.toNatClampNeg (vp_nar .boolean t2))) rfl s0_36 a0_36 z2 dX4_findTrapped_49 ?_
  refine mj_if_eq 57 dX4_findTrapped_50 (by decide) (fun c3 => ?_) (fun c3 => ?_)
  · replace hf := mj_pos c3 hf
    refine mj_iconst dX4_findTrapped_57 kc_iconst_0 ?_
    refine mj_iadd dX4_findTrapped_58 ?_
    refine mj_putIr (ci := 2) (j := 5) [(32, (upd r32 5 ((r32 5) + (0 : Int32)))), (33, r33), (36, (upd r36 t1.toNatClampNeg (vp_nar .boolean t2))), (37, r37), (38, r38)] rfl ⟨rfl, rfl⟩ fl_X4_118 rfl rfl s0_32 a0_32 dX4_findTrapped_59 ?_
    refine mj_iinc 1 [(1, .int (x1 + (1))), (0, .ref 32)] dX4_findTrapped_62 rfl (kz_1 _) (by decide) rfl ?_
    refine mj_goto 7 dX4_findTrapped_65 (by decide) ?_
    refine mj_sub [1, 0] [(0, .ref 32), (1, .int (x1 + (1)))] rfl ?_
    obtain rfl := Option.some.inj hf
    have hZ := hc ((x1 + (1)), (upd r32 5 ((r32 5) + (0 : Int32))), (upd r36 t1.toNatClampNeg (vp_nar .boolean t2))) rfl
    replace hZ := mj_u2p hZ
    replace hZ := mj_u2p hZ
    exact hZ
  · replace hf := mj_neg c3 hf
    refine mj_iconst dX4_findTrapped_53 kc_iconst_1 ?_
    refine mj_goto 58 dX4_findTrapped_54 (by decide) ?_
    refine mj_iadd dX4_findTrapped_58 ?_
    refine mj_putIr (ci := 2) (j := 5) [(32, (upd r32 5 ((r32 5) + (1 : Int32)))), (33, r33), (36, (upd r36 t1.toNatClampNeg (vp_nar .boolean t2))), (37, r37), (38, r38)] rfl ⟨rfl, rfl⟩ fl_X4_118 rfl rfl s0_32 a0_32 dX4_findTrapped_59 ?_
    refine mj_iinc 1 [(1, .int (x1 + (1))), (0, .ref 32)] dX4_findTrapped_62 rfl (kz_1 _) (by decide) rfl ?_
    refine mj_goto 7 dX4_findTrapped_65 (by decide) ?_
    refine mj_sub [1, 0] [(0, .ref 32), (1, .int (x1 + (1)))] rfl ?_
    obtain rfl := Option.some.inj hf
    have hZ := hc ((x1 + (1)), (upd r32 5 ((r32 5) + (1 : Int32))), (upd r36 t1.toNatClampNeg (vp_nar .boolean t2))) rfl
    replace hZ := mj_u2p hZ
    replace hZ := mj_u2p hZ
    exact hZ
set_option maxRecDepth 100000 in
set_option maxHeartbeats 4000000 in
theorem lpX4_findTrapped_7 {X : mj_XT} {l : Launch} {G : mj_GT} {ad : Nat → Nat} {Qn : Option Value → mj_IT → mj_LT → Prop} (hR : mj_R X l G mj_P0 mj_S0 98 ad 0 0 Qn) (F : Nat) (I : mj_IT) (L : mj_LT) (r32 : Nat → Int32) (r33 : Nat → Int32) (r36 : Nat → Int32) (r37 : Nat → Int32) (r38 : Nat → Int32) : ∀ (n : Nat) (s : ((Int32) × (Nat → Int32) × (Nat → Int32))) (e : ((Nat → Int32) × (Nat → Int32))), mj_it (mj_u2 (fun z0 => (mj_u2 (fun z1 z2 => bdX4_findTrapped_7 F r33 z0 z1 z2)))) n s = some e → (mj_u2 (fun r32 r36 => mj_W X G RX4 "findTrapped" cX4_findTrapped 4 2 none mj_P0 mj_S0 98 ad 0 0 68 [(0, .ref 32)] [] (mj_rows I [(32, r32), (33, r33), (36, r36), (37, r37), (38, r38)]) L)) e → (mj_u2 (fun x1 => (mj_u2 (fun r32 r36 => mj_W X G RX4 "findTrapped" cX4_findTrapped 4 2 none mj_P0 mj_S0 98 ad 0 0 7 [(0, .ref 32), (1, .int x1)] [] (mj_rows I [(32, r32), (33, r33), (36, r36), (37, r37), (38, r38)]) L)))) s := by
  refine mj_loop (fun s o hf hc hx => ?_)
  obtain ⟨x1, r32, r36⟩ := s
  replace hf := mj_u2e hf
  refine mj_u2q ?_
  replace hf := mj_u2e hf
  refine mj_u2q ?_
  unfold bdX4_findTrapped_7 at hf
  refine mj_iload_n 1 dX4_findTrapped_7 rfl ?_
  refine mj_aload_n 0 dX4_findTrapped_8 rfl ?_
  refine mj_getIv (v := (r32 2)) rfl fl_X4_45 rfl s0_32 a0_32 dX4_findTrapped_9 ?_
  refine mj_icmp_ge 68 dX4_findTrapped_12 (by decide) (fun c4 => ?_) (fun c4 => ?_)
  · replace hf := mj_pos c4 hf
    refine mj_sub [0] [(0, .ref 32)] rfl ?_
    obtain rfl := Option.some.inj hf
    have hZ := hx (r32, r36) rfl
    replace hZ := mj_u2p hZ
    exact hZ
  · replace hf := mj_neg c4 hf
    refine mj_aload_n 0 dX4_findTrapped_15 rfl ?_
    refine mj_getP p0_32_11 (by decide) fl_X4_21 rfl s0_32 a0_32 dX4_findTrapped_16 ?_
    refine mj_iload_n 1 dX4_findTrapped_19 rfl ?_
    refine mj_aload_n 0 dX4_findTrapped_20 rfl ?_
    refine mj_getP p0_32_8 (by decide) fl_X4_9 rfl s0_32 a0_32 dX4_findTrapped_21 ?_
    refine mj_iload_n 1 dX4_findTrapped_24 rfl ?_
    obtain ⟨z5, hf⟩ := mj_ck hf
    refine mj_ialdv (x := r33) rfl s0_33 a0_33 z5 dX4_findTrapped_25 ?_
    refine mj_aload_n 0 dX4_findTrapped_26 rfl ?_
    refine mj_getIv (v := (r32 7)) rfl fl_X4_57 rfl s0_32 a0_32 dX4_findTrapped_27 ?_
    refine mj_icmp_ge 37 dX4_findTrapped_30 (by decide) (fun c6 => ?_) (fun c6 => ?_)
    · replace hf := mj_pos c6 hf
      refine mj_iconst dX4_findTrapped_37 kc_iconst_0 ?_
      exact jtX4_findTrapped_38 hR F I L r32 r33 r36 r37 r38 x1 x1 (0 : Int32) o hf hc hx
    · replace hf := mj_neg c6 hf
      refine mj_iconst dX4_findTrapped_33 kc_iconst_1 ?_
      refine mj_goto 38 dX4_findTrapped_34 (by decide) ?_
      exact jtX4_findTrapped_38 hR F I L r32 r33 r36 r37 r38 x1 x1 (1 : Int32) o hf hc hx
set_option maxRecDepth 100000 in
set_option maxHeartbeats 4000000 in
theorem lpX4_findTrapped_92 {X : mj_XT} {l : Launch} {G : mj_GT} {ad : Nat → Nat} {Qn : Option Value → mj_IT → mj_LT → Prop} (hR : mj_R X l G mj_P0 mj_S0 98 ad 0 0 Qn) (F : Nat) (I : mj_IT) (L : mj_LT) (r32 : Nat → Int32) (r33 : Nat → Int32) (r36 : Nat → Int32) (r37 : Nat → Int32) (r38 : Nat → Int32) (x2 : Int32) : ∀ (n : Nat) (s : ((Int32) × (Int32) × (Nat → Int32) × (Nat → Int32))) (e : ((Int32) × (Nat → Int32) × (Nat → Int32))), mj_it (mj_u2 (fun z0 => (mj_u2 (fun z1 => (mj_u2 (fun z2 z3 => bdX4_findTrapped_92 F r37 r38 x2 z0 z1 z2 z3)))))) n s = some e → (mj_u2 (fun x1 => (mj_u2 (fun r32 r36 => mj_W X G RX4 "findTrapped" cX4_findTrapped 4 2 none mj_P0 mj_S0 98 ad 0 0 138 [(0, .ref 32), (1, .int x1), (2, .int x2)] [] (mj_rows I [(32, r32), (33, r33), (36, r36), (37, r37), (38, r38)]) L)))) e → (mj_u2 (fun x1 => (mj_u2 (fun x3 => (mj_u2 (fun r32 r36 => mj_W X G RX4 "findTrapped" cX4_findTrapped 4 2 none mj_P0 mj_S0 98 ad 0 0 92 [(0, .ref 32), (1, .int x1), (2, .int x2), (3, .int x3)] [] (mj_rows I [(32, r32), (33, r33), (36, r36), (37, r37), (38, r38)]) L)))))) s := by
  refine mj_loop (fun s o hf hc hx => ?_)
  obtain ⟨x1, x3, r32, r36⟩ := s
  replace hf := mj_u2e hf
  refine mj_u2q ?_
  replace hf := mj_u2e hf
  refine mj_u2q ?_
  replace hf := mj_u2e hf
  refine mj_u2q ?_
  unfold bdX4_findTrapped_92 at hf
  refine mj_iload_n 3 dX4_findTrapped_92 rfl ?_
  refine mj_if_lt 138 dX4_findTrapped_93 (by decide) (fun c7 => ?_) (fun c7 => ?_)
  · replace hf := mj_pos c7 hf
    refine mj_sub [0, 1, 2] [(0, .ref 32), (1, .int x1), (2, .int x2)] rfl ?_
    obtain rfl := Option.some.inj hf
    have hZ := hx (x1, r32, r36) rfl
    replace hZ := mj_u2p hZ
    replace hZ := mj_u2p hZ
    exact hZ
  · replace hf := mj_neg c7 hf
    refine mj_aload_n 0 dX4_findTrapped_96 rfl ?_
    refine mj_getP p0_32_11 (by decide) fl_X4_21 rfl s0_32 a0_32 dX4_findTrapped_97 ?_
    refine mj_iload_n 3 dX4_findTrapped_100 rfl ?_
    obtain ⟨z8, hf⟩ := mj_ck hf
    refine mj_zaldv (x := r36) rfl s0_36 a0_36 z8 dX4_findTrapped_101 ?_
    refine mj_if_eq 132 dX4_findTrapped_102 (by decide) (fun c9 => ?_) (fun c9 => ?_)
    · replace hf := mj_pos c9 hf
      refine mj_iinc 3 [(3, .int (x3 + (-1))), (0, .ref 32), (1, .int x1), (2, .int x2)] dX4_findTrapped_132 rfl (kz_m1 _) (by decide) rfl ?_
      refine mj_goto 92 dX4_findTrapped_135 (by decide) ?_
      refine mj_sub [1, 2, 3, 0] [(0, .ref 32), (1, .int x1), (2, .int x2), (3, .int (x3 + (-1)))] rfl ?_
      obtain rfl := Option.some.inj hf
      have hZ := hc (x1, (x3 + (-1)), r32, r36) rfl
      replace hZ := mj_u2p hZ
      replace hZ := mj_u2p hZ
      replace hZ := mj_u2p hZ
      exact hZ
    · replace hf := mj_neg c9 hf
      refine mj_aload_n 0 dX4_findTrapped_105 rfl ?_
      refine mj_iload_n 3 dX4_findTrapped_106 rfl ?_
      obtain ⟨o10, ho10, hf⟩ := mj_bd hf
      refine mj_callVd (I2 := (mj_rows I [(32, r32), (33, r33), (36, r36), (37, r37), (38, r38)])) (L2 := L) (s1 := [.int o10]) (st := []) [.int x3] (cmX4_leadsOut X.2.1 G F x3 _ _ r36 r37 r38 rfl rfl rfl o10 ho10) (mj_rr rfl) rfl cw_X4_121 s0_32 a0_32 (by decide) rfl rfl (Nat.le_of_ble_eq_true rfl) ⟨Nat.zero_le _, Nat.zero_le _⟩ dX4_findTrapped_107 rfl ?_
      refine mj_if_eq 132 dX4_findTrapped_110 (by decide) (fun c11 => ?_) (fun c11 => ?_)
      · replace hf := mj_pos c11 hf
        refine mj_iinc 3 [(3, .int (x3 + (-1))), (0, .ref 32), (1, .int x1), (2, .int x2)] dX4_findTrapped_132 rfl (kz_m1 _) (by decide) rfl ?_
        refine mj_goto 92 dX4_findTrapped_135 (by decide) ?_
        refine mj_sub [1, 2, 3, 0] [(0, .ref 32), (1, .int x1), (2, .int x2), (3, .int (x3 + (-1)))] rfl ?_
        obtain rfl := Option.some.inj hf
        have hZ := hc (x1, (x3 + (-1)), r32, r36) rfl
        replace hZ := mj_u2p hZ
        replace hZ := mj_u2p hZ
        replace hZ := mj_u2p hZ
        exact hZ
      · replace hf := mj_neg c11 hf
        refine mj_aload_n 0 dX4_findTrapped_113 rfl ?_
        refine mj_getP p0_32_11 (by decide) fl_X4_21 rfl s0_32 a0_32 dX4_findTrapped_114 ?_
        refine mj_iload_n 3 dX4_findTrapped_117 rfl ?_
        refine mj_iconst dX4_findTrapped_118 kc_iconst_0 ?_
        obtain ⟨z12, hf⟩ := mj_ck hf
        refine mj_zastr [(32, r32), (33, r33), (36, (upd r36 x3.toNatClampNeg (vp_nar .boolean (0 : Int32)))), (37, r37), (38, r38)] rfl s0_36 a0_36 z12 dX4_findTrapped_119 ?_
        refine mj_aload_n 0 dX4_findTrapped_120 rfl ?_
        refine mj_dup dX4_findTrapped_121 rfl ?_
        refine mj_getIv (v := (r32 5)) rfl fl_X4_118 rfl s0_32 a0_32 dX4_findTrapped_122 ?_
        refine mj_iconst dX4_findTrapped_125 kc_iconst_1 ?_
        refine mj_isub dX4_findTrapped_126 ?_
        refine mj_putIr (ci := 2) (j := 5) [(32, (upd r32 5 ((r32 5) - (1 : Int32)))), (33, r33), (36, (upd r36 x3.toNatClampNeg (vp_nar .boolean (0 : Int32)))), (37, r37), (38, r38)] rfl ⟨rfl, rfl⟩ fl_X4_118 rfl rfl s0_32 a0_32 dX4_findTrapped_127 ?_
        refine mj_iconst dX4_findTrapped_130 kc_iconst_1 ?_
        refine mj_istore_n [(1, .int (1 : Int32)), (0, .ref 32), (2, .int x2), (3, .int x3)] dX4_findTrapped_131 rfl (by decide) rfl ?_
        refine mj_iinc 3 [(3, .int (x3 + (-1))), (1, .int (1 : Int32)), (0, .ref 32), (2, .int x2)] dX4_findTrapped_132 rfl (kz_m1 _) (by decide) rfl ?_
        refine mj_goto 92 dX4_findTrapped_135 (by decide) ?_
        refine mj_sub [2, 1, 3, 0] [(0, .ref 32), (1, .int (1 : Int32)), (2, .int x2), (3, .int (x3 + (-1)))] rfl ?_
        obtain rfl := Option.some.inj hf
        have hZ := hc ((1 : Int32), (x3 + (-1)), (upd r32 5 ((r32 5) - (1 : Int32))), (upd r36 x3.toNatClampNeg (vp_nar .boolean (0 : Int32)))) rfl
        replace hZ := mj_u2p hZ
        replace hZ := mj_u2p hZ
        replace hZ := mj_u2p hZ
        exact hZ
set_option maxRecDepth 100000 in
set_option maxHeartbeats 4000000 in
theorem lpX4_findTrapped_72 {X : mj_XT} {l : Launch} {G : mj_GT} {ad : Nat → Nat} {Qn : Option Value → mj_IT → mj_LT → Prop} (hR : mj_R X l G mj_P0 mj_S0 98 ad 0 0 Qn) (F : Nat) (I : mj_IT) (L : mj_LT) (r32 : Nat → Int32) (r33 : Nat → Int32) (r36 : Nat → Int32) (r37 : Nat → Int32) (r38 : Nat → Int32) : ∀ (n : Nat) (s : ((Int32) × (Int32) × (Nat → Int32) × (Nat → Int32))) (e : ((Nat → Int32) × (Nat → Int32))), mj_it (mj_u2 (fun z0 => (mj_u2 (fun z1 => (mj_u2 (fun z2 z3 => bdX4_findTrapped_72 F r37 r38 z0 z1 z2 z3)))))) n s = some e → (mj_u2 (fun r32 r36 => mj_W X G RX4 "findTrapped" cX4_findTrapped 4 2 none mj_P0 mj_S0 98 ad 0 0 144 [] [] (mj_rows I [(32, r32), (33, r33), (36, r36), (37, r37), (38, r38)]) L)) e → (mj_u2 (fun x1 => (mj_u2 (fun x2 => (mj_u2 (fun r32 r36 => mj_W X G RX4 "findTrapped" cX4_findTrapped 4 2 none mj_P0 mj_S0 98 ad 0 0 72 [(0, .ref 32), (1, .int x1), (2, .int x2)] [] (mj_rows I [(32, r32), (33, r33), (36, r36), (37, r37), (38, r38)]) L)))))) s := by
  refine mj_loop (fun s o hf hc hx => ?_)
  obtain ⟨x1, x2, r32, r36⟩ := s
  replace hf := mj_u2e hf
  refine mj_u2q ?_
  replace hf := mj_u2e hf
  refine mj_u2q ?_
  replace hf := mj_u2e hf
  refine mj_u2q ?_
  unfold bdX4_findTrapped_72 at hf
  refine mj_iload_n 2 dX4_findTrapped_72 rfl ?_
  refine mj_sipush dX4_findTrapped_73 kc_sipush_200 ?_
  refine mj_icmp_ge 144 dX4_findTrapped_76 (by decide) (fun c13 => ?_) (fun c13 => ?_)
  · replace hf := mj_pos c13 hf
    refine mj_sub [] [] rfl ?_
    obtain rfl := Option.some.inj hf
    have hZ := hx (r32, r36) rfl
    replace hZ := mj_u2p hZ
    exact hZ
  · replace hf := mj_neg c13 hf
    refine mj_iload_n 1 dX4_findTrapped_79 rfl ?_
    refine mj_if_eq 144 dX4_findTrapped_80 (by decide) (fun c14 => ?_) (fun c14 => ?_)
    · replace hf := mj_pos c14 hf
      refine mj_sub [] [] rfl ?_
      obtain rfl := Option.some.inj hf
      have hZ := hx (r32, r36) rfl
      replace hZ := mj_u2p hZ
      exact hZ
    · replace hf := mj_neg c14 hf
      refine mj_iconst dX4_findTrapped_83 kc_iconst_0 ?_
      refine mj_istore_n [(1, .int (0 : Int32)), (0, .ref 32), (2, .int x2)] dX4_findTrapped_84 rfl (by decide) rfl ?_
      refine mj_aload_n 1 dX4_findTrapped_85 rfl ?_
      refine mj_getIv (v := (r32 2)) rfl fl_X4_45 rfl s0_32 a0_32 dX4_findTrapped_86 ?_
      refine mj_iconst dX4_findTrapped_89 kc_iconst_1 ?_
      refine mj_isub dX4_findTrapped_90 ?_
      refine mj_istore_n [(3, .int ((r32 2) - (1 : Int32))), (1, .int (0 : Int32)), (0, .ref 32), (2, .int x2)] dX4_findTrapped_91 rfl (by decide) rfl ?_
      refine mj_sub [2, 1, 3, 0] [(0, .ref 32), (1, .int (0 : Int32)), (2, .int x2), (3, .int ((r32 2) - (1 : Int32)))] rfl ?_
      obtain ⟨e15, ho15, hf⟩ := mj_bd hf
      refine lpX4_findTrapped_92 hR F I L r32 r33 r36 r37 r38 x2 F ((0 : Int32), ((r32 2) - (1 : Int32)), r32, r36) e15 ho15 ?_
      obtain ⟨x1_15, r32_15, r36_15⟩ := e15
      replace hf := mj_u2e hf
      replace hf := mj_u2e hf
      refine ?_
      refine mj_u2q ?_
      refine mj_u2q ?_
      refine mj_iinc 2 [(2, .int (x2 + (1))), (0, .ref 32), (1, .int x1_15)] dX4_findTrapped_138 rfl (kz_1 _) (by decide) rfl ?_
      refine mj_goto 72 dX4_findTrapped_141 (by decide) ?_
      refine mj_sub [1, 2, 0] [(0, .ref 32), (1, .int x1_15), (2, .int (x2 + (1)))] rfl ?_
      obtain rfl := Option.some.inj hf
      have hZ := hc (x1_15, (x2 + (1)), r32_15, r36_15) rfl
      replace hZ := mj_u2p hZ
      replace hZ := mj_u2p hZ
      replace hZ := mj_u2p hZ
      exact hZ
set_option maxRecDepth 100000 in
set_option maxHeartbeats 4000000 in
theorem mtX4_findTrapped {X : mj_XT} {l : Launch} {G : mj_GT} {ad : Nat → Nat} {Qn : Option Value → mj_IT → mj_LT → Prop} (hR : mj_R X l G mj_P0 mj_S0 98 ad 0 0 Qn) (F : Nat) (I : mj_IT) (L : mj_LT) (r32 : Nat → Int32) (r33 : Nat → Int32) (r36 : Nat → Int32) (r37 : Nat → Int32) (r38 : Nat → Int32) (o : ((Nat → Int32) × (Nat → Int32))) (hf : fnX4_findTrapped F r32 r33 r36 r37 r38 = some o) (hq : (mj_u2 (fun r32 r36 => Qn none (mj_rows I [(32, r32), (33, r33), (36, r36), (37, r37), (38, r38)]) L)) o) : mj_W X G RX4 "findTrapped" cX4_findTrapped 4 2 none mj_P0 mj_S0 98 ad 0 0 0 [(0, .ref 32)] [] (mj_rows I [(32, r32), (33, r33), (36, r36), (37, r37), (38, r38)]) L := by
  unfold fnX4_findTrapped at hf
  refine mj_aload_n 0 dX4_findTrapped_0 rfl ?_
  refine mj_iconst dX4_findTrapped_1 kc_iconst_0 ?_
  refine mj_putIr (ci := 2) (j := 5) [(32, (upd r32 5 (0 : Int32))), (33, r33), (36, r36), (37, r37), (38, r38)] rfl ⟨rfl, rfl⟩ fl_X4_118 rfl rfl s0_32 a0_32 dX4_findTrapped_2 ?_
  refine mj_iconst dX4_findTrapped_5 kc_iconst_0 ?_
  refine mj_istore_n [(1, .int (0 : Int32)), (0, .ref 32)] dX4_findTrapped_6 rfl (by decide) rfl ?_
  refine mj_sub [1, 0] [(0, .ref 32), (1, .int (0 : Int32))] rfl ?_
  obtain ⟨e16, ho16, hf⟩ := mj_bd hf
  refine lpX4_findTrapped_7 hR F I L (upd r32 5 (0 : Int32)) r33 r36 r37 r38 F ((0 : Int32), (upd r32 5 (0 : Int32)), r36) e16 ho16 ?_
  obtain ⟨r32_16, r36_16⟩ := e16
  replace hf := mj_u2e hf
  refine ?_
  refine mj_u2q ?_
  refine mj_iconst dX4_findTrapped_68 kc_iconst_1 ?_
  refine mj_istore_n [(1, .int (1 : Int32)), (0, .ref 32)] dX4_findTrapped_69 rfl (by decide) rfl ?_
  refine mj_iconst dX4_findTrapped_70 kc_iconst_0 ?_
  refine mj_istore_n [(2, .int (0 : Int32)), (1, .int (1 : Int32)), (0, .ref 32)] dX4_findTrapped_71 rfl (by decide) rfl ?_
  refine mj_sub [2, 1, 0] [(0, .ref 32), (1, .int (1 : Int32)), (2, .int (0 : Int32))] rfl ?_
  obtain ⟨e17, ho17, hf⟩ := mj_bd hf
  refine lpX4_findTrapped_72 hR F I L r32_16 r33 r36_16 r37 r38 F ((1 : Int32), (0 : Int32), r32_16, r36_16) e17 ho17 ?_
  obtain ⟨r32_17, r36_17⟩ := e17
  replace hf := mj_u2e hf
  refine ?_
  refine mj_u2q ?_
  obtain rfl := Option.some.inj hf
  have hZ := hq
  replace hZ := mj_u2p hZ
  exact mj_vret hR ⟨Nat.le_refl _, Nat.le_refl _⟩ rfl dX4_findTrapped_144 hZ
set_option maxRecDepth 100000 in
set_option maxHeartbeats 4000000 in
theorem cmX4_findTrapped (l : Launch) (G : mj_GT) (F : Nat) (I : mj_IT) (L : mj_LT) (r32 : Nat → Int32) (r33 : Nat → Int32) (r36 : Nat → Int32) (r37 : Nat → Int32) (r38 : Nat → Int32) (hr32 : I 32 = r32) (hr33 : I 33 = r33) (hr36 : I 36 = r36) (hr37 : I 37 = r37) (hr38 : I 38 = r38) (o : ((Nat → Int32) × (Nat → Int32))) (hf : fnX4_findTrapped F r32 r33 r36 r37 r38 = some o) : mj_M l G yX4_findTrapped cX4_findTrapped 4 2 none 0 0 mj_P0 mj_S0 98 [.ref 32] I L (mj_qd none (mj_rows I [(32, o.1), (33, r33), (36, o.2), (37, r37), (38, r38)]) L) := by
  refine mj_in RX4 "findTrapped" [(0, .ref 32)] rfl rfl rfl (by decide) (Nat.le_of_ble_eq_true rfl) (fun X ad hR => ?_)
  refine mj_toI [(32, r32), (33, r33), (36, r36), (37, r37), (38, r38)] (by intro q hq; simp only [List.mem_cons, List.not_mem_nil, or_false] at hq; rcases hq with rfl | rfl | rfl | rfl | rfl <;> assumption) ?_
  refine mtX4_findTrapped hR F I L r32 r33 r36 r37 r38 o hf ?_
  obtain ⟨w0, w1⟩ := o
  refine mj_u2q ?_
  exact ⟨rfl, rfl, rfl⟩

-- X4_explore
def bdX4_explore_64 (F : Nat) (r18 : Nat → Int32) (r19 : Nat → Int32) (r20 : Nat → Int32) (r21 : Nat → Int32) (r22 : Nat → Int32) (r23 : Nat → Int32) (r24 : Nat → Int32) (r25 : Nat → Int32) (r26 : Nat → Int32) (x3 : Int32) (r32 : Nat → Int32) (r33 : Nat → Int32) (r34 : Nat → Int32) (r35 : Nat → Int32) (r37 : Nat → Int32) (r38 : Nat → Int32) (r39 : Nat → Int32) (r40 : Nat → Int32) : Option (((Int32) × (Nat → Int32) × (Nat → Int32) × (Nat → Int32) × (Nat → Int32) × (Nat → Int32) × (Nat → Int32) × (Nat → Int32) × (Nat → Int32)) ⊕ ((Nat → Int32) × (Nat → Int32) × (Nat → Int32) × (Nat → Int32) × (Nat → Int32) × (Nat → Int32) × (Nat → Int32) × (Nat → Int32))) := (if (r32 2) ≤ x3 then some (.inr (r32, r33, r34, r35, r37, r38, r39, r40)) else (if (200 : Int32) ≤ x3 then some (.inr (r32, r33, r34, r35, r37, r38, r39, r40)) else (if (r32 6) = 0 then (if mj_ib x3 201 = true then (fnX4_leave F r18 r19 r20 r21 r22 r23 r24 r25 r26 r32 r33 r34 r35 r38 r39 r40 x3).bind (fun o5 => (if mj_ib (x3 + (1 : Int32)) 201 = true then some (.inl ((x3 + (1)), o5.1, o5.2.1, o5.2.2.1, o5.2.2.2.1, (upd (upd r37 x3.toNatClampNeg (r32 3)) ((x3 + (1 : Int32)).toNatClampNeg) (o5.1 3)), o5.2.2.2.2.1, o5.2.2.2.2.2.1, o5.2.2.2.2.2.2)) else none)) else none) else some (.inr (r32, r33, r34, r35, r37, r38, r39, r40)))))
def bdX4_explore_127 (F : Nat) (r33 : Nat → Int32) (x3 : Int32) (r32 : Nat → Int32) : Option (((Int32) × (Nat → Int32)) ⊕ ((Nat → Int32))) := (if (r32 2) ≤ x3 then some (.inr r32) else (fnX4_isEnd F r32 r33 x3).bind (fun o8 => (if o8 = 0 then some (.inl ((x3 + (1)), (upd r32 4 ((r32 4) + (0 : Int32))))) else some (.inl ((x3 + (1)), (upd r32 4 ((r32 4) + (1 : Int32))))))))
def fnX4_explore (F : Nat) (r18 : Nat → Int32) (r19 : Nat → Int32) (r20 : Nat → Int32) (r21 : Nat → Int32) (r22 : Nat → Int32) (r23 : Nat → Int32) (r24 : Nat → Int32) (r25 : Nat → Int32) (r26 : Nat → Int32) (r32 : Nat → Int32) (r33 : Nat → Int32) (r34 : Nat → Int32) (r35 : Nat → Int32) (r36 : Nat → Int32) (r37 : Nat → Int32) (r38 : Nat → Int32) (r39 : Nat → Int32) (r40 : Nat → Int32) (x2 : Int32) : Option ((Nat → Int32) × (Nat → Int32) × (Nat → Int32) × (Nat → Int32) × (Nat → Int32) × (Nat → Int32) × (Nat → Int32) × (Nat → Int32) × (Nat → Int32)) := (if (r32 1) = 0 then (fnJ7_fill_53178_40 F r40 (0 : Int32)).bind (fun o11 => (fnX4_stateAt F (upd (upd (upd (upd (upd (upd r32 1 (1 : Int32)) 0 ((r32 0) + (1 : Int32))) 2 (0 : Int32)) 3 (0 : Int32)) 6 (0 : Int32)) 7 (r18 0)) r33 r34 r35 o11 (0 : Int32) x2 (0 : Int32)).bind (fun o12 => (mj_it (mj_u2 (fun z0 => (mj_u2 (fun z1 => (mj_u2 (fun z2 => (mj_u2 (fun z3 => (mj_u2 (fun z4 => (mj_u2 (fun z5 => (mj_u2 (fun z6 => (mj_u2 (fun z7 z8 => bdX4_explore_64 F r18 r19 r20 r21 r22 r23 r24 r25 r26 z0 z1 z2 z3 z4 z5 z6 z7 z8)))))))))))))))) F ((0 : Int32), o12.2.1, o12.2.2.1, o12.2.2.2.1, o12.2.2.2.2.1, r37, r38, r39, o12.2.2.2.2.2)).bind (mj_u2 (fun r32_13 => (mj_u2 (fun r33_13 => (mj_u2 (fun r34_13 => (mj_u2 (fun r35_13 => (mj_u2 (fun r37_13 => (mj_u2 (fun r38_13 => (mj_u2 (fun r39_13 r40_13 => (mj_it (mj_u2 (fun z0 z1 => bdX4_explore_127 F r33_13 z0 z1)) F ((0 : Int32), (upd r32_13 4 (0 : Int32)))).bind (fun r32_14 => (if (r32_14 6) = 0 then (fnX4_findTrapped F r32_14 r33_13 r36 r37_13 r38_13).bind (fun o16 => some (o16.1, r33_13, r34_13, r35_13, o16.2, r37_13, r38_13, r39_13, r40_13)) else some (r32_14, r33_13, r34_13, r35_13, r36, r37_13, r38_13, r39_13, r40_13))))))))))))))))))) else some (r32, r33, r34, r35, r36, r37, r38, r39, r40))
set_option maxRecDepth 100000 in
set_option maxHeartbeats 4000000 in
theorem lpX4_explore_64 {X : mj_XT} {l : Launch} {G : mj_GT} {ad : Nat → Nat} {Qn : Option Value → mj_IT → mj_LT → Prop} (hR : mj_R X l G mj_P0 mj_S0 98 ad 0 0 Qn) (F : Nat) (I : mj_IT) (L : mj_LT) (r18 : Nat → Int32) (r19 : Nat → Int32) (r20 : Nat → Int32) (r21 : Nat → Int32) (r22 : Nat → Int32) (r23 : Nat → Int32) (r24 : Nat → Int32) (r25 : Nat → Int32) (r26 : Nat → Int32) (r32 : Nat → Int32) (r33 : Nat → Int32) (r34 : Nat → Int32) (r35 : Nat → Int32) (r36 : Nat → Int32) (r37 : Nat → Int32) (r38 : Nat → Int32) (r39 : Nat → Int32) (r40 : Nat → Int32) : ∀ (n : Nat) (s : ((Int32) × (Nat → Int32) × (Nat → Int32) × (Nat → Int32) × (Nat → Int32) × (Nat → Int32) × (Nat → Int32) × (Nat → Int32) × (Nat → Int32))) (e : ((Nat → Int32) × (Nat → Int32) × (Nat → Int32) × (Nat → Int32) × (Nat → Int32) × (Nat → Int32) × (Nat → Int32) × (Nat → Int32))), mj_it (mj_u2 (fun z0 => (mj_u2 (fun z1 => (mj_u2 (fun z2 => (mj_u2 (fun z3 => (mj_u2 (fun z4 => (mj_u2 (fun z5 => (mj_u2 (fun z6 => (mj_u2 (fun z7 z8 => bdX4_explore_64 F r18 r19 r20 r21 r22 r23 r24 r25 r26 z0 z1 z2 z3 z4 z5 z6 z7 z8)))))))))))))))) n s = some e → (mj_u2 (fun r32 => (mj_u2 (fun r33 => (mj_u2 (fun r34 => (mj_u2 (fun r35 => (mj_u2 (fun r37 => (mj_u2 (fun r38 => (mj_u2 (fun r39 r40 => mj_W X G RX4 "explore" cX4_explore 4 5 none mj_P0 mj_S0 98 ad 0 0 120 [(0, .ref 32)] [] (mj_rows I [(18, r18), (19, r19), (20, r20), (21, r21), (22, r22), (23, r23), (24, r24), (25, r25), (26, r26), (32, r32), (33, r33), (34, r34), (35, r35), (36, r36), (37, r37), (38, r38), (39, r39), (40, r40)]) L)))))))))))))) e → (mj_u2 (fun x3 => (mj_u2 (fun r32 => (mj_u2 (fun r33 => (mj_u2 (fun r34 => (mj_u2 (fun r35 => (mj_u2 (fun r37 => (mj_u2 (fun r38 => (mj_u2 (fun r39 r40 => mj_W X G RX4 "explore" cX4_explore 4 5 none mj_P0 mj_S0 98 ad 0 0 64 [(0, .ref 32), (1, .ref 18), (3, .int x3)] [] (mj_rows I [(18, r18), (19, r19), (20, r20), (21, r21), (22, r22), (23, r23), (24, r24), (25, r25), (26, r26), (32, r32), (33, r33), (34, r34), (35, r35), (36, r36), (37, r37), (38, r38), (39, r39), (40, r40)]) L)))))))))))))))) s := by
  refine mj_loop (fun s o hf hc hx => ?_)
  obtain ⟨x3, r32, r33, r34, r35, r37, r38, r39, r40⟩ := s
  replace hf := mj_u2e hf
  refine mj_u2q ?_
  replace hf := mj_u2e hf
  refine mj_u2q ?_
  replace hf := mj_u2e hf
  refine mj_u2q ?_
  replace hf := mj_u2e hf
  refine mj_u2q ?_
  replace hf := mj_u2e hf
  refine mj_u2q ?_
  replace hf := mj_u2e hf
  refine mj_u2q ?_
  replace hf := mj_u2e hf
  refine mj_u2q ?_
  replace hf := mj_u2e hf
  refine mj_u2q ?_
  unfold bdX4_explore_64 at hf
  refine mj_iload_n 2 dX4_explore_64 rfl ?_
  refine mj_aload_n 0 dX4_explore_65 rfl ?_
  refine mj_getIv (v := (r32 2)) rfl fl_X4_45 rfl s0_32 a0_32 dX4_explore_66 ?_
  refine mj_icmp_ge 120 dX4_explore_69 (by decide) (fun c1 => ?_) (fun c1 => ?_)
  · replace hf := mj_pos c1 hf
    refine mj_sub [0] [(0, .ref 32)] rfl ?_
    obtain rfl := Option.some.inj hf
    have hZ := hx (r32, r33, r34, r35, r37, r38, r39, r40) rfl
    replace hZ := mj_u2p hZ
    replace hZ := mj_u2p hZ
    replace hZ := mj_u2p hZ
    replace hZ := mj_u2p hZ
    replace hZ := mj_u2p hZ
    replace hZ := mj_u2p hZ
    replace hZ := mj_u2p hZ
    exact hZ
  · replace hf := mj_neg c1 hf
    refine mj_iload_n 2 dX4_explore_72 rfl ?_
    refine mj_sipush dX4_explore_73 kc_sipush_200 ?_
    refine mj_icmp_ge 120 dX4_explore_76 (by decide) (fun c2 => ?_) (fun c2 => ?_)
    · replace hf := mj_pos c2 hf
      refine mj_sub [0] [(0, .ref 32)] rfl ?_
      obtain rfl := Option.some.inj hf
      have hZ := hx (r32, r33, r34, r35, r37, r38, r39, r40) rfl
      replace hZ := mj_u2p hZ
      replace hZ := mj_u2p hZ
      replace hZ := mj_u2p hZ
      replace hZ := mj_u2p hZ
      replace hZ := mj_u2p hZ
      replace hZ := mj_u2p hZ
      replace hZ := mj_u2p hZ
      exact hZ
    · replace hf := mj_neg c2 hf
      refine mj_aload_n 0 dX4_explore_79 rfl ?_
      refine mj_getIv (v := (r32 6)) rfl fl_X4_51 rfl s0_32 a0_32 dX4_explore_80 ?_
      refine mj_if_ne 120 dX4_explore_83 (by decide) (fun c3 => ?_) (fun c3 => ?_)
      · replace hf := mj_neg c3 hf
        refine mj_sub [0] [(0, .ref 32)] rfl ?_
        obtain rfl := Option.some.inj hf
        have hZ := hx (r32, r33, r34, r35, r37, r38, r39, r40) rfl
        replace hZ := mj_u2p hZ
        replace hZ := mj_u2p hZ
        replace hZ := mj_u2p hZ
        replace hZ := mj_u2p hZ
        replace hZ := mj_u2p hZ
        replace hZ := mj_u2p hZ
        replace hZ := mj_u2p hZ
        exact hZ
      · replace hf := mj_pos c3 hf
        refine mj_aload_n 0 dX4_explore_86 rfl ?_
        refine mj_getP p0_32_12 (by decide) fl_X4_25 rfl s0_32 a0_32 dX4_explore_87 ?_
        refine mj_iload_n 2 dX4_explore_90 rfl ?_
        refine mj_aload_n 0 dX4_explore_91 rfl ?_
        refine mj_getIv (v := (r32 3)) rfl fl_X4_48 rfl s0_32 a0_32 dX4_explore_92 ?_
        obtain ⟨z4, hf⟩ := mj_ck hf
        refine mj_iastr [(18, r18), (19, r19), (20, r20), (21, r21), (22, r22), (23, r23), (24, r24), (25, r25), (26, r26), (32, r32), (33, r33), (34, r34), (35, r35), (36, r36), (37, (upd r37 x3.toNatClampNeg (r32 3))), (38, r38), (39, r39), (40, r40)] rfl s0_37 a0_37 z4 dX4_explore_95 ?_
        refine mj_aload_n 0 dX4_explore_96 rfl ?_
        refine mj_aload_n 1 dX4_explore_97 rfl ?_
        refine mj_iload_n 2 dX4_explore_98 rfl ?_
        obtain ⟨o5, ho5, hf⟩ := mj_bd hf
        refine mj_callVd (I2 := (mj_rows I [(18, r18), (19, r19), (20, r20), (21, r21), (22, r22), (23, r23), (24, r24), (25, r25), (26, r26), (32, o5.1), (33, o5.2.1), (34, o5.2.2.1), (35, o5.2.2.2.1), (36, r36), (37, (upd r37 x3.toNatClampNeg (r32 3))), (38, o5.2.2.2.2.1), (39, o5.2.2.2.2.2.1), (40, o5.2.2.2.2.2.2)])) (L2 := L) (s1 := []) (st := []) [.ref 18, .int x3] (cmX4_leave X.2.1 G F x3 _ _ r18 r19 r20 r21 r22 r23 r24 r25 r26 r32 r33 r34 r35 r38 r39 r40 rfl rfl rfl rfl rfl rfl rfl rfl rfl rfl rfl rfl rfl rfl rfl rfl o5 ho5) (mj_rr rfl) rfl cw_X4_70 s0_32 a0_32 (by decide) rfl rfl (Nat.le_of_ble_eq_true rfl) ⟨Nat.zero_le _, Nat.zero_le _⟩ dX4_explore_99 rfl ?_
        refine mj_aload_n 0 dX4_explore_102 rfl ?_
        refine mj_getP p0_32_12 (by decide) fl_X4_25 rfl s0_32 a0_32 dX4_explore_103 ?_
        refine mj_iload_n 2 dX4_explore_106 rfl ?_
        refine mj_iconst dX4_explore_107 kc_iconst_1 ?_
        refine mj_iadd dX4_explore_108 ?_
        refine mj_aload_n 0 dX4_explore_109 rfl ?_
        refine mj_getIv (v := (o5.1 3)) rfl fl_X4_48 rfl s0_32 a0_32 dX4_explore_110 ?_
        obtain ⟨z6, hf⟩ := mj_ck hf
        refine mj_iastr [(18, r18), (19, r19), (20, r20), (21, r21), (22, r22), (23, r23), (24, r24), (25, r25), (26, r26), (32, o5.1), (33, o5.2.1), (34, o5.2.2.1), (35, o5.2.2.2.1), (36, r36), (37, (upd (upd r37 x3.toNatClampNeg (r32 3)) ((x3 + (1 : Int32)).toNatClampNeg) (o5.1 3))), (38, o5.2.2.2.2.1), (39, o5.2.2.2.2.2.1), (40, o5.2.2.2.2.2.2)] rfl s0_37 a0_37 z6 dX4_explore_113 ?_
        refine mj_iinc 2 [(3, .int (x3 + (1))), (0, .ref 32), (1, .ref 18)] dX4_explore_114 rfl (kz_1 _) (by decide) rfl ?_
        refine mj_goto 64 dX4_explore_117 (by decide) ?_
        refine mj_sub [1, 2, 0] [(0, .ref 32), (1, .ref 18), (3, .int (x3 + (1)))] rfl ?_
        obtain rfl := Option.some.inj hf
        have hZ := hc ((x3 + (1)), o5.1, o5.2.1, o5.2.2.1, o5.2.2.2.1, (upd (upd r37 x3.toNatClampNeg (r32 3)) ((x3 + (1 : Int32)).toNatClampNeg) (o5.1 3)), o5.2.2.2.2.1, o5.2.2.2.2.2.1, o5.2.2.2.2.2.2) rfl
        replace hZ := mj_u2p hZ
        replace hZ := mj_u2p hZ
        replace hZ := mj_u2p hZ
        replace hZ := mj_u2p hZ
        replace hZ := mj_u2p hZ
        replace hZ := mj_u2p hZ
        replace hZ := mj_u2p hZ
        replace hZ := mj_u2p hZ
        exact hZ
set_option maxRecDepth 100000 in
set_option maxHeartbeats 4000000 in
theorem lpX4_explore_127 {X : mj_XT} {l : Launch} {G : mj_GT} {ad : Nat → Nat} {Qn : Option Value → mj_IT → mj_LT → Prop} (hR : mj_R X l G mj_P0 mj_S0 98 ad 0 0 Qn) (F : Nat) (I : mj_IT) (L : mj_LT) (r18 : Nat → Int32) (r19 : Nat → Int32) (r20 : Nat → Int32) (r21 : Nat → Int32) (r22 : Nat → Int32) (r23 : Nat → Int32) (r24 : Nat → Int32) (r25 : Nat → Int32) (r26 : Nat → Int32) (r32 : Nat → Int32) (r33 : Nat → Int32) (r34 : Nat → Int32) (r35 : Nat → Int32) (r36 : Nat → Int32) (r37 : Nat → Int32) (r38 : Nat → Int32) (r39 : Nat → Int32) (r40 : Nat → Int32) : ∀ (n : Nat) (s : ((Int32) × (Nat → Int32))) (e : ((Nat → Int32))), mj_it (mj_u2 (fun z0 z1 => bdX4_explore_127 F r33 z0 z1)) n s = some e → (fun r32 => mj_W X G RX4 "explore" cX4_explore 4 5 none mj_P0 mj_S0 98 ad 0 0 163 [(0, .ref 32)] [] (mj_rows I [(18, r18), (19, r19), (20, r20), (21, r21), (22, r22), (23, r23), (24, r24), (25, r25), (26, r26), (32, r32), (33, r33), (34, r34), (35, r35), (36, r36), (37, r37), (38, r38), (39, r39), (40, r40)]) L) e → (mj_u2 (fun x3 r32 => mj_W X G RX4 "explore" cX4_explore 4 5 none mj_P0 mj_S0 98 ad 0 0 127 [(0, .ref 32), (3, .int x3)] [] (mj_rows I [(18, r18), (19, r19), (20, r20), (21, r21), (22, r22), (23, r23), (24, r24), (25, r25), (26, r26), (32, r32), (33, r33), (34, r34), (35, r35), (36, r36), (37, r37), (38, r38), (39, r39), (40, r40)]) L)) s := by
  refine mj_loop (fun s o hf hc hx => ?_)
  obtain ⟨x3, r32⟩ := s
  replace hf := mj_u2e hf
  refine mj_u2q ?_
  unfold bdX4_explore_127 at hf
  refine mj_iload_n 1 dX4_explore_127 rfl ?_
  refine mj_aload_n 0 dX4_explore_128 rfl ?_
  refine mj_getIv (v := (r32 2)) rfl fl_X4_45 rfl s0_32 a0_32 dX4_explore_129 ?_
  refine mj_icmp_ge 163 dX4_explore_132 (by decide) (fun c7 => ?_) (fun c7 => ?_)
  · replace hf := mj_pos c7 hf
    refine mj_sub [0] [(0, .ref 32)] rfl ?_
    obtain rfl := Option.some.inj hf
    have hZ := hx r32 rfl
    exact hZ
  · replace hf := mj_neg c7 hf
    refine mj_aload_n 0 dX4_explore_135 rfl ?_
    refine mj_dup dX4_explore_136 rfl ?_
    refine mj_getIv (v := (r32 4)) rfl fl_X4_74 rfl s0_32 a0_32 dX4_explore_137 ?_
    refine mj_aload_n 0 dX4_explore_140 rfl ?_
    refine mj_iload_n 1 dX4_explore_141 rfl ?_
    obtain ⟨o8, ho8, hf⟩ := mj_bd hf
    refine mj_callVd (I2 := (mj_rows I [(18, r18), (19, r19), (20, r20), (21, r21), (22, r22), (23, r23), (24, r24), (25, r25), (26, r26), (32, r32), (33, r33), (34, r34), (35, r35), (36, r36), (37, r37), (38, r38), (39, r39), (40, r40)])) (L2 := L) (s1 := [.int o8, .int (r32 4), .ref 32]) (st := [.int (r32 4), .ref 32]) [.int x3] (cmX4_isEnd X.2.1 G F x3 _ _ r32 r33 rfl rfl o8 ho8) (mj_rr rfl) rfl cw_X4_77 s0_32 a0_32 (by decide) rfl rfl (Nat.le_of_ble_eq_true rfl) ⟨Nat.zero_le _, Nat.zero_le _⟩ dX4_explore_142 rfl ?_
    refine mj_if_eq 152 dX4_explore_145 (by decide) (fun c9 => ?_) (fun c9 => ?_)
    · replace hf := mj_pos c9 hf
      refine mj_iconst dX4_explore_152 kc_iconst_0 ?_
      refine mj_iadd dX4_explore_153 ?_
      refine mj_putIr (ci := 2) (j := 4) [(18, r18), (19, r19), (20, r20), (21, r21), (22, r22), (23, r23), (24, r24), (25, r25), (26, r26), (32, (upd r32 4 ((r32 4) + (0 : Int32)))), (33, r33), (34, r34), (35, r35), (36, r36), (37, r37), (38, r38), (39, r39), (40, r40)] rfl ⟨rfl, rfl⟩ fl_X4_74 rfl rfl s0_32 a0_32 dX4_explore_154 ?_
      refine mj_iinc 1 [(3, .int (x3 + (1))), (0, .ref 32)] dX4_explore_157 rfl (kz_1 _) (by decide) rfl ?_
      refine mj_goto 127 dX4_explore_160 (by decide) ?_
      refine mj_sub [1, 0] [(0, .ref 32), (3, .int (x3 + (1)))] rfl ?_
      obtain rfl := Option.some.inj hf
      have hZ := hc ((x3 + (1)), (upd r32 4 ((r32 4) + (0 : Int32)))) rfl
      replace hZ := mj_u2p hZ
      exact hZ
    · replace hf := mj_neg c9 hf
      refine mj_iconst dX4_explore_148 kc_iconst_1 ?_
      refine mj_goto 153 dX4_explore_149 (by decide) ?_
      refine mj_iadd dX4_explore_153 ?_
      refine mj_putIr (ci := 2) (j := 4) [(18, r18), (19, r19), (20, r20), (21, r21), (22, r22), (23, r23), (24, r24), (25, r25), (26, r26), (32, (upd r32 4 ((r32 4) + (1 : Int32)))), (33, r33), (34, r34), (35, r35), (36, r36), (37, r37), (38, r38), (39, r39), (40, r40)] rfl ⟨rfl, rfl⟩ fl_X4_74 rfl rfl s0_32 a0_32 dX4_explore_154 ?_
      refine mj_iinc 1 [(3, .int (x3 + (1))), (0, .ref 32)] dX4_explore_157 rfl (kz_1 _) (by decide) rfl ?_
      refine mj_goto 127 dX4_explore_160 (by decide) ?_
      refine mj_sub [1, 0] [(0, .ref 32), (3, .int (x3 + (1)))] rfl ?_
      obtain rfl := Option.some.inj hf
      have hZ := hc ((x3 + (1)), (upd r32 4 ((r32 4) + (1 : Int32)))) rfl
      replace hZ := mj_u2p hZ
      exact hZ
set_option maxRecDepth 100000 in
set_option maxHeartbeats 4000000 in
theorem mtX4_explore {X : mj_XT} {l : Launch} {G : mj_GT} {ad : Nat → Nat} {Qn : Option Value → mj_IT → mj_LT → Prop} (hR : mj_R X l G mj_P0 mj_S0 98 ad 0 0 Qn) (F : Nat) (I : mj_IT) (L : mj_LT) (r18 : Nat → Int32) (r19 : Nat → Int32) (r20 : Nat → Int32) (r21 : Nat → Int32) (r22 : Nat → Int32) (r23 : Nat → Int32) (r24 : Nat → Int32) (r25 : Nat → Int32) (r26 : Nat → Int32) (r32 : Nat → Int32) (r33 : Nat → Int32) (r34 : Nat → Int32) (r35 : Nat → Int32) (r36 : Nat → Int32) (r37 : Nat → Int32) (r38 : Nat → Int32) (r39 : Nat → Int32) (r40 : Nat → Int32) (x2 : Int32) (o : ((Nat → Int32) × (Nat → Int32) × (Nat → Int32) × (Nat → Int32) × (Nat → Int32) × (Nat → Int32) × (Nat → Int32) × (Nat → Int32) × (Nat → Int32))) (hf : fnX4_explore F r18 r19 r20 r21 r22 r23 r24 r25 r26 r32 r33 r34 r35 r36 r37 r38 r39 r40 x2 = some o) (hq : (mj_u2 (fun r32 => (mj_u2 (fun r33 => (mj_u2 (fun r34 => (mj_u2 (fun r35 => (mj_u2 (fun r36 => (mj_u2 (fun r37 => (mj_u2 (fun r38 => (mj_u2 (fun r39 r40 => Qn none (mj_rows I [(18, r18), (19, r19), (20, r20), (21, r21), (22, r22), (23, r23), (24, r24), (25, r25), (26, r26), (32, r32), (33, r33), (34, r34), (35, r35), (36, r36), (37, r37), (38, r38), (39, r39), (40, r40)]) L)))))))))))))))) o) : mj_W X G RX4 "explore" cX4_explore 4 5 none mj_P0 mj_S0 98 ad 0 0 0 [(0, .ref 32), (1, .ref 18), (2, .int x2)] [] (mj_rows I [(18, r18), (19, r19), (20, r20), (21, r21), (22, r22), (23, r23), (24, r24), (25, r25), (26, r26), (32, r32), (33, r33), (34, r34), (35, r35), (36, r36), (37, r37), (38, r38), (39, r39), (40, r40)]) L := by
  unfold fnX4_explore at hf
  refine mj_aload_n 0 dX4_explore_0 rfl ?_
  refine mj_getIv (v := (r32 1)) rfl fl_X4_37 rfl s0_32 a0_32 dX4_explore_1 ?_
  refine mj_if_eq 8 dX4_explore_4 (by decide) (fun c10 => ?_) (fun c10 => ?_)
  · replace hf := mj_pos c10 hf
    refine mj_aload_n 0 dX4_explore_8 rfl ?_
    refine mj_iconst dX4_explore_9 kc_iconst_1 ?_
    refine mj_putIr (ci := 2) (j := 1) [(18, r18), (19, r19), (20, r20), (21, r21), (22, r22), (23, r23), (24, r24), (25, r25), (26, r26), (32, (upd r32 1 (1 : Int32))), (33, r33), (34, r34), (35, r35), (36, r36), (37, r37), (38, r38), (39, r39), (40, r40)] rfl (by decide) fl_X4_37 rfl rfl s0_32 a0_32 dX4_explore_10 ?_
    refine mj_aload_n 0 dX4_explore_13 rfl ?_
    refine mj_dup dX4_explore_14 rfl ?_
    refine mj_getIv (v := (r32 0)) rfl fl_X4_41 rfl s0_32 a0_32 dX4_explore_15 ?_
    refine mj_iconst dX4_explore_18 kc_iconst_1 ?_
    refine mj_iadd dX4_explore_19 ?_
    refine mj_putIr (ci := 2) (j := 0) [(18, r18), (19, r19), (20, r20), (21, r21), (22, r22), (23, r23), (24, r24), (25, r25), (26, r26), (32, (upd (upd r32 1 (1 : Int32)) 0 ((r32 0) + (1 : Int32)))), (33, r33), (34, r34), (35, r35), (36, r36), (37, r37), (38, r38), (39, r39), (40, r40)] rfl ⟨rfl, rfl⟩ fl_X4_41 rfl rfl s0_32 a0_32 dX4_explore_20 ?_
    refine mj_aload_n 0 dX4_explore_23 rfl ?_
    refine mj_iconst dX4_explore_24 kc_iconst_0 ?_
    refine mj_putIr (ci := 2) (j := 2) [(18, r18), (19, r19), (20, r20), (21, r21), (22, r22), (23, r23), (24, r24), (25, r25), (26, r26), (32, (upd (upd (upd r32 1 (1 : Int32)) 0 ((r32 0) + (1 : Int32))) 2 (0 : Int32))), (33, r33), (34, r34), (35, r35), (36, r36), (37, r37), (38, r38), (39, r39), (40, r40)] rfl ⟨rfl, rfl⟩ fl_X4_45 rfl rfl s0_32 a0_32 dX4_explore_25 ?_
    refine mj_aload_n 0 dX4_explore_28 rfl ?_
    refine mj_iconst dX4_explore_29 kc_iconst_0 ?_
    refine mj_putIr (ci := 2) (j := 3) [(18, r18), (19, r19), (20, r20), (21, r21), (22, r22), (23, r23), (24, r24), (25, r25), (26, r26), (32, (upd (upd (upd (upd r32 1 (1 : Int32)) 0 ((r32 0) + (1 : Int32))) 2 (0 : Int32)) 3 (0 : Int32))), (33, r33), (34, r34), (35, r35), (36, r36), (37, r37), (38, r38), (39, r39), (40, r40)] rfl ⟨rfl, rfl⟩ fl_X4_48 rfl rfl s0_32 a0_32 dX4_explore_30 ?_
    refine mj_aload_n 0 dX4_explore_33 rfl ?_
    refine mj_iconst dX4_explore_34 kc_iconst_0 ?_
    refine mj_putIr (ci := 2) (j := 6) [(18, r18), (19, r19), (20, r20), (21, r21), (22, r22), (23, r23), (24, r24), (25, r25), (26, r26), (32, (upd (upd (upd (upd (upd r32 1 (1 : Int32)) 0 ((r32 0) + (1 : Int32))) 2 (0 : Int32)) 3 (0 : Int32)) 6 (0 : Int32))), (33, r33), (34, r34), (35, r35), (36, r36), (37, r37), (38, r38), (39, r39), (40, r40)] rfl (by decide) fl_X4_51 rfl rfl s0_32 a0_32 dX4_explore_35 ?_
    refine mj_aload_n 0 dX4_explore_38 rfl ?_
    refine mj_aload_n 1 dX4_explore_39 rfl ?_
    refine mj_getIv (v := (r18 0)) rfl fl_X4_54 rfl s0_18 a0_18 dX4_explore_40 ?_
    refine mj_putIr (ci := 2) (j := 7) [(18, r18), (19, r19), (20, r20), (21, r21), (22, r22), (23, r23), (24, r24), (25, r25), (26, r26), (32, (upd (upd (upd (upd (upd (upd r32 1 (1 : Int32)) 0 ((r32 0) + (1 : Int32))) 2 (0 : Int32)) 3 (0 : Int32)) 6 (0 : Int32)) 7 (r18 0))), (33, r33), (34, r34), (35, r35), (36, r36), (37, r37), (38, r38), (39, r39), (40, r40)] rfl ⟨rfl, rfl⟩ fl_X4_57 rfl rfl s0_32 a0_32 dX4_explore_43 ?_
    refine mj_aload_n 0 dX4_explore_46 rfl ?_
    refine mj_getP p0_32_15 (by decide) fl_X4_34 rfl s0_32 a0_32 dX4_explore_47 ?_
    refine mj_iconst dX4_explore_50 kc_iconst_0 ?_
    obtain ⟨o11, ho11, hf⟩ := mj_bd hf
    refine mj_callSd (I2 := (mj_rows I [(18, r18), (19, r19), (20, r20), (21, r21), (22, r22), (23, r23), (24, r24), (25, r25), (26, r26), (32, (upd (upd (upd (upd (upd (upd r32 1 (1 : Int32)) 0 ((r32 0) + (1 : Int32))) 2 (0 : Int32)) 3 (0 : Int32)) 6 (0 : Int32)) 7 (r18 0))), (33, r33), (34, r34), (35, r35), (36, r36), (37, r37), (38, r38), (39, r39), (40, o11)])) (L2 := L) (s1 := []) (st := []) [.ref 40, .int (0 : Int32)] (cmJ7_fill_53178_40 X.2.1 G F (0 : Int32) _ _ r40 rfl o11 ho11) (mj_rr rfl) rfl cw_X4_60 (by decide) rfl rfl (Nat.le_of_ble_eq_true rfl) ⟨Nat.zero_le _, Nat.zero_le _⟩ dX4_explore_51 rfl ?_
    refine mj_aload_n 0 dX4_explore_54 rfl ?_
    refine mj_iconst dX4_explore_55 kc_iconst_0 ?_
    refine mj_iload_n 2 dX4_explore_56 rfl ?_
    refine mj_iconst dX4_explore_57 kc_iconst_0 ?_
    obtain ⟨o12, ho12, hf⟩ := mj_bd hf
    refine mj_callVd (I2 := (mj_rows I [(18, r18), (19, r19), (20, r20), (21, r21), (22, r22), (23, r23), (24, r24), (25, r25), (26, r26), (32, o12.2.1), (33, o12.2.2.1), (34, o12.2.2.2.1), (35, o12.2.2.2.2.1), (36, r36), (37, r37), (38, r38), (39, r39), (40, o12.2.2.2.2.2)])) (L2 := L) (s1 := [.int o12.1]) (st := []) [.int (0 : Int32), .int x2, .int (0 : Int32)] (cmX4_stateAt X.2.1 G F (0 : Int32) x2 (0 : Int32) _ _ (upd (upd (upd (upd (upd (upd r32 1 (1 : Int32)) 0 ((r32 0) + (1 : Int32))) 2 (0 : Int32)) 3 (0 : Int32)) 6 (0 : Int32)) 7 (r18 0)) r33 r34 r35 o11 rfl rfl rfl rfl rfl o12 ho12) (mj_rr rfl) rfl cw_X4_66 s0_32 a0_32 (by decide) rfl rfl (Nat.le_of_ble_eq_true rfl) ⟨Nat.zero_le _, Nat.zero_le _⟩ dX4_explore_58 rfl ?_
    refine mj_pop dX4_explore_61 rfl ?_
    refine mj_iconst dX4_explore_62 kc_iconst_0 ?_
    refine mj_istore_n [(3, .int (0 : Int32)), (0, .ref 32), (1, .ref 18), (2, .int x2)] dX4_explore_63 rfl (by decide) rfl ?_
    refine mj_sub [1, 2, 0] [(0, .ref 32), (1, .ref 18), (3, .int (0 : Int32))] rfl ?_
    obtain ⟨e13, ho13, hf⟩ := mj_bd hf
    refine lpX4_explore_64 hR F I L r18 r19 r20 r21 r22 r23 r24 r25 r26 o12.2.1 o12.2.2.1 o12.2.2.2.1 o12.2.2.2.2.1 r36 r37 r38 r39 o12.2.2.2.2.2 F ((0 : Int32), o12.2.1, o12.2.2.1, o12.2.2.2.1, o12.2.2.2.2.1, r37, r38, r39, o12.2.2.2.2.2) e13 ho13 ?_
    obtain ⟨r32_13, r33_13, r34_13, r35_13, r37_13, r38_13, r39_13, r40_13⟩ := e13
    replace hf := mj_u2e hf
    replace hf := mj_u2e hf
    replace hf := mj_u2e hf
    replace hf := mj_u2e hf
    replace hf := mj_u2e hf
    replace hf := mj_u2e hf
    replace hf := mj_u2e hf
    refine ?_
    refine mj_u2q ?_
    refine mj_u2q ?_
    refine mj_u2q ?_
    refine mj_u2q ?_
    refine mj_u2q ?_
    refine mj_u2q ?_
    refine mj_u2q ?_
    refine mj_aload_n 0 dX4_explore_120 rfl ?_
    refine mj_iconst dX4_explore_121 kc_iconst_0 ?_
    refine mj_putIr (ci := 2) (j := 4) [(18, r18), (19, r19), (20, r20), (21, r21), (22, r22), (23, r23), (24, r24), (25, r25), (26, r26), (32, (upd r32_13 4 (0 : Int32))), (33, r33_13), (34, r34_13), (35, r35_13), (36, r36), (37, r37_13), (38, r38_13), (39, r39_13), (40, r40_13)] rfl ⟨rfl, rfl⟩ fl_X4_74 rfl rfl s0_32 a0_32 dX4_explore_122 ?_
    refine mj_iconst dX4_explore_125 kc_iconst_0 ?_
    refine mj_istore_n [(3, .int (0 : Int32)), (0, .ref 32)] dX4_explore_126 rfl (by decide) rfl ?_
    refine mj_sub [1, 0] [(0, .ref 32), (3, .int (0 : Int32))] rfl ?_
    obtain ⟨r32_14, ho14, hf⟩ := mj_bd hf
    refine lpX4_explore_127 hR F I L r18 r19 r20 r21 r22 r23 r24 r25 r26 (upd r32_13 4 (0 : Int32)) r33_13 r34_13 r35_13 r36 r37_13 r38_13 r39_13 r40_13 F ((0 : Int32), (upd r32_13 4 (0 : Int32))) r32_14 ho14 ?_
    refine ?_
    refine mj_aload_n 0 dX4_explore_163 rfl ?_
    refine mj_getIv (v := (r32_14 6)) rfl fl_X4_51 rfl s0_32 a0_32 dX4_explore_164 ?_
    refine mj_if_ne 174 dX4_explore_167 (by decide) (fun c15 => ?_) (fun c15 => ?_)
    · replace hf := mj_neg c15 hf
      obtain rfl := Option.some.inj hf
      have hZ := hq
      replace hZ := mj_u2p hZ
      replace hZ := mj_u2p hZ
      replace hZ := mj_u2p hZ
      replace hZ := mj_u2p hZ
      replace hZ := mj_u2p hZ
      replace hZ := mj_u2p hZ
      replace hZ := mj_u2p hZ
      replace hZ := mj_u2p hZ
      exact mj_vret hR ⟨Nat.le_refl _, Nat.le_refl _⟩ rfl dX4_explore_174 hZ
    · replace hf := mj_pos c15 hf
      refine mj_aload_n 0 dX4_explore_170 rfl ?_
      obtain ⟨o16, ho16, hf⟩ := mj_bd hf
      refine mj_callVd (I2 := (mj_rows I [(18, r18), (19, r19), (20, r20), (21, r21), (22, r22), (23, r23), (24, r24), (25, r25), (26, r26), (32, o16.1), (33, r33_13), (34, r34_13), (35, r35_13), (36, o16.2), (37, r37_13), (38, r38_13), (39, r39_13), (40, r40_13)])) (L2 := L) (s1 := []) (st := []) [] (cmX4_findTrapped X.2.1 G F  _ _ r32_14 r33_13 r36 r37_13 r38_13 rfl rfl rfl rfl rfl o16 ho16) (mj_rr rfl) rfl cw_X4_81 s0_32 a0_32 (by decide) rfl rfl (Nat.le_of_ble_eq_true rfl) ⟨Nat.zero_le _, Nat.zero_le _⟩ dX4_explore_171 rfl ?_
      obtain rfl := Option.some.inj hf
      have hZ := hq
      replace hZ := mj_u2p hZ
      replace hZ := mj_u2p hZ
      replace hZ := mj_u2p hZ
      replace hZ := mj_u2p hZ
      replace hZ := mj_u2p hZ
      replace hZ := mj_u2p hZ
      replace hZ := mj_u2p hZ
      replace hZ := mj_u2p hZ
      exact mj_vret hR ⟨Nat.le_refl _, Nat.le_refl _⟩ rfl dX4_explore_174 hZ
  · replace hf := mj_neg c10 hf
    obtain rfl := Option.some.inj hf
    have hZ := hq
    replace hZ := mj_u2p hZ
    replace hZ := mj_u2p hZ
    replace hZ := mj_u2p hZ
    replace hZ := mj_u2p hZ
    replace hZ := mj_u2p hZ
    replace hZ := mj_u2p hZ
    replace hZ := mj_u2p hZ
    replace hZ := mj_u2p hZ
    exact mj_vret hR ⟨Nat.le_refl _, Nat.le_refl _⟩ rfl dX4_explore_7 hZ
set_option maxRecDepth 100000 in
set_option maxHeartbeats 4000000 in
theorem cmX4_explore (l : Launch) (G : mj_GT) (F : Nat) (x2 : Int32) (I : mj_IT) (L : mj_LT) (r18 : Nat → Int32) (r19 : Nat → Int32) (r20 : Nat → Int32) (r21 : Nat → Int32) (r22 : Nat → Int32) (r23 : Nat → Int32) (r24 : Nat → Int32) (r25 : Nat → Int32) (r26 : Nat → Int32) (r32 : Nat → Int32) (r33 : Nat → Int32) (r34 : Nat → Int32) (r35 : Nat → Int32) (r36 : Nat → Int32) (r37 : Nat → Int32) (r38 : Nat → Int32) (r39 : Nat → Int32) (r40 : Nat → Int32) (hr18 : I 18 = r18) (hr19 : I 19 = r19) (hr20 : I 20 = r20) (hr21 : I 21 = r21) (hr22 : I 22 = r22) (hr23 : I 23 = r23) (hr24 : I 24 = r24) (hr25 : I 25 = r25) (hr26 : I 26 = r26) (hr32 : I 32 = r32) (hr33 : I 33 = r33) (hr34 : I 34 = r34) (hr35 : I 35 = r35) (hr36 : I 36 = r36) (hr37 : I 37 = r37) (hr38 : I 38 = r38) (hr39 : I 39 = r39) (hr40 : I 40 = r40) (o : ((Nat → Int32) × (Nat → Int32) × (Nat → Int32) × (Nat → Int32) × (Nat → Int32) × (Nat → Int32) × (Nat → Int32) × (Nat → Int32) × (Nat → Int32))) (hf : fnX4_explore F r18 r19 r20 r21 r22 r23 r24 r25 r26 r32 r33 r34 r35 r36 r37 r38 r39 r40 x2 = some o) : mj_M l G yX4_explore cX4_explore 4 5 none 0 0 mj_P0 mj_S0 98 [.ref 32, .ref 18, .int x2] I L (mj_qd none (mj_rows I [(18, r18), (19, r19), (20, r20), (21, r21), (22, r22), (23, r23), (24, r24), (25, r25), (26, r26), (32, o.1), (33, o.2.1), (34, o.2.2.1), (35, o.2.2.2.1), (36, o.2.2.2.2.1), (37, o.2.2.2.2.2.1), (38, o.2.2.2.2.2.2.1), (39, o.2.2.2.2.2.2.2.1), (40, o.2.2.2.2.2.2.2.2)]) L) := by
  refine mj_in RX4 "explore" [(0, .ref 32), (1, .ref 18), (2, .int x2)] rfl rfl rfl (by decide) (Nat.le_of_ble_eq_true rfl) (fun X ad hR => ?_)
  refine mj_toI [(18, r18), (19, r19), (20, r20), (21, r21), (22, r22), (23, r23), (24, r24), (25, r25), (26, r26), (32, r32), (33, r33), (34, r34), (35, r35), (36, r36), (37, r37), (38, r38), (39, r39), (40, r40)] (by intro q hq; simp only [List.mem_cons, List.not_mem_nil, or_false] at hq; rcases hq with rfl | rfl | rfl | rfl | rfl | rfl | rfl | rfl | rfl | rfl | rfl | rfl | rfl | rfl | rfl | rfl | rfl | rfl <;> assumption) ?_
  refine mtX4_explore hR F I L r18 r19 r20 r21 r22 r23 r24 r25 r26 r32 r33 r34 r35 r36 r37 r38 r39 r40 x2 o hf ?_
  obtain ⟨w0, w1, w2, w3, w4, w5, w6, w7, w8⟩ := o
  refine mj_u2q ?_
  refine mj_u2q ?_
  refine mj_u2q ?_
  refine mj_u2q ?_
  refine mj_u2q ?_
  refine mj_u2q ?_
  refine mj_u2q ?_
  refine mj_u2q ?_
  exact ⟨rfl, rfl, rfl⟩

-- X4_greatestLevel
def fnX4_greatestLevel (F : Nat) (r32 : Nat → Int32) (r35 : Nat → Int32) : Option ((Int32)) := (if (r32 2) ≤ 0 then some (0 : Int32) else (if mj_ib ((r32 2) - (1 : Int32)) 200 = true then some (r35 (((r32 2) - (1 : Int32)).toNatClampNeg)) else none))
set_option maxRecDepth 100000 in
set_option maxHeartbeats 4000000 in
theorem mtX4_greatestLevel {X : mj_XT} {l : Launch} {G : mj_GT} {ad : Nat → Nat} {Qn : Option Value → mj_IT → mj_LT → Prop} (hR : mj_R X l G mj_P0 mj_S0 98 ad 0 0 Qn) (F : Nat) (I : mj_IT) (L : mj_LT) (r32 : Nat → Int32) (r35 : Nat → Int32) (o : ((Int32))) (hf : fnX4_greatestLevel F r32 r35 = some o) (hq : (fun ov => Qn (some (.int ov)) (mj_rows I [(32, r32), (35, r35)]) L) o) : mj_W X G RX4 "greatestLevel" cX4_greatestLevel 1 1 (some .int) mj_P0 mj_S0 98 ad 0 0 0 [(0, .ref 32)] [] (mj_rows I [(32, r32), (35, r35)]) L := by
  unfold fnX4_greatestLevel at hf
  refine mj_aload_n 0 dX4_greatestLevel_0 rfl ?_
  refine mj_getIv (v := (r32 2)) rfl fl_X4_45 rfl s0_32 a0_32 dX4_greatestLevel_1 ?_
  refine mj_if_le 21 dX4_greatestLevel_4 (by decide) (fun c1 => ?_) (fun c1 => ?_)
  · replace hf := mj_pos c1 hf
    refine mj_iconst dX4_greatestLevel_21 kc_iconst_0 ?_
    obtain rfl := Option.some.inj hf
    have hZ := hq
    exact mj_iret hR ⟨Nat.le_refl _, Nat.le_refl _⟩ rfl rfl dX4_greatestLevel_22 hZ
  · replace hf := mj_neg c1 hf
    refine mj_aload_n 0 dX4_greatestLevel_7 rfl ?_
    refine mj_getP p0_32_10 (by decide) fl_X4_18 rfl s0_32 a0_32 dX4_greatestLevel_8 ?_
    refine mj_aload_n 0 dX4_greatestLevel_11 rfl ?_
    refine mj_getIv (v := (r32 2)) rfl fl_X4_45 rfl s0_32 a0_32 dX4_greatestLevel_12 ?_
    refine mj_iconst dX4_greatestLevel_15 kc_iconst_1 ?_
    refine mj_isub dX4_greatestLevel_16 ?_
    obtain ⟨z2, hf⟩ := mj_ck hf
    refine mj_ialdv (x := r35) rfl s0_35 a0_35 z2 dX4_greatestLevel_17 ?_
    refine mj_goto 22 dX4_greatestLevel_18 (by decide) ?_
    obtain rfl := Option.some.inj hf
    have hZ := hq
    exact mj_iret hR ⟨Nat.le_refl _, Nat.le_refl _⟩ rfl rfl dX4_greatestLevel_22 hZ
set_option maxRecDepth 100000 in
set_option maxHeartbeats 4000000 in
theorem cmX4_greatestLevel (l : Launch) (G : mj_GT) (F : Nat) (I : mj_IT) (L : mj_LT) (r32 : Nat → Int32) (r35 : Nat → Int32) (hr32 : I 32 = r32) (hr35 : I 35 = r35) (o : ((Int32))) (hf : fnX4_greatestLevel F r32 r35 = some o) : mj_M l G yX4_greatestLevel cX4_greatestLevel 1 1 (some .int) 0 0 mj_P0 mj_S0 98 [.ref 32] I L (mj_qd (some (.int o)) (mj_rows I [(32, r32), (35, r35)]) L) := by
  refine mj_in RX4 "greatestLevel" [(0, .ref 32)] rfl rfl rfl (by decide) (Nat.le_of_ble_eq_true rfl) (fun X ad hR => ?_)
  refine mj_toI [(32, r32), (35, r35)] (by intro q hq; simp only [List.mem_cons, List.not_mem_nil, or_false] at hq; rcases hq with rfl | rfl <;> assumption) ?_
  refine mtX4_greatestLevel hR F I L r32 r35 o hf ?_
  exact ⟨rfl, rfl, rfl⟩

-- X5_exists
def fnX5_exists (F : Nat) (q65 : Nat → Int64) : Option ((Int32)) := (if (q65 1) ≤ (0 : Int64) then some (0 : Int32) else some (1 : Int32))
set_option maxRecDepth 100000 in
set_option maxHeartbeats 4000000 in
theorem mtX5_exists {X : mj_XT} {l : Launch} {G : mj_GT} {ad : Nat → Nat} {Qn : Option Value → mj_IT → mj_LT → Prop} (hR : mj_R X l G mj_P0 mj_S0 98 ad 0 0 Qn) (F : Nat) (I : mj_IT) (L : mj_LT) (q65 : Nat → Int64) (o : ((Int32))) (hf : fnX5_exists F q65 = some o) (hq : (fun ov => Qn (some (.int ov)) I (mj_rows L [(65, q65)])) o) : mj_W X G RX5 "exists" cX5_exists 1 1 (some .boolean) mj_P0 mj_S0 98 ad 0 0 0 [(0, .ref 65)] [] I (mj_rows L [(65, q65)]) := by
  unfold fnX5_exists at hf
  refine mj_aload_n 0 dX5_exists_0 rfl ?_
  refine mj_getLv (v := (q65 1)) rfl fl_X5_25 rfl s0_65 a0_65 dX5_exists_1 ?_
  refine mj_lconst (v := 0) dX5_exists_4 (by decide) ?_
  refine mj_lc_le 13 dX5_exists_5 dX5_exists_6 (by decide) (fun c1 => ?_) (fun c1 => ?_)
  · replace hf := mj_pos c1 hf
    refine mj_iconst dX5_exists_13 kc_iconst_0 ?_
    obtain rfl := Option.some.inj hf
    have hZ := hq
    exact mj_iret hR ⟨Nat.le_refl _, Nat.le_refl _⟩ rfl (by decide) dX5_exists_14 hZ
  · replace hf := mj_neg c1 hf
    refine mj_iconst dX5_exists_9 kc_iconst_1 ?_
    refine mj_goto 14 dX5_exists_10 (by decide) ?_
    obtain rfl := Option.some.inj hf
    have hZ := hq
    exact mj_iret hR ⟨Nat.le_refl _, Nat.le_refl _⟩ rfl (by decide) dX5_exists_14 hZ
set_option maxRecDepth 100000 in
set_option maxHeartbeats 4000000 in
theorem cmX5_exists (l : Launch) (G : mj_GT) (F : Nat) (I : mj_IT) (L : mj_LT) (q65 : Nat → Int64) (hq65 : L 65 = q65) (o : ((Int32))) (hf : fnX5_exists F q65 = some o) : mj_M l G yX5_exists cX5_exists 1 1 (some .boolean) 0 0 mj_P0 mj_S0 98 [.ref 65] I L (mj_qd (some (.int o)) I (mj_rows L [(65, q65)])) := by
  refine mj_in RX5 "exists" [(0, .ref 65)] rfl rfl rfl (by decide) (Nat.le_of_ble_eq_true rfl) (fun X ad hR => ?_)
  refine mj_toL [(65, q65)] (by intro q hq; simp only [List.mem_cons, List.not_mem_nil, or_false] at hq; rcases hq with rfl <;> assumption) ?_
  refine mtX5_exists hR F I L q65 o hf ?_
  exact ⟨rfl, rfl, rfl⟩

-- X5_isDrawn
def fnX5_isDrawn (F : Nat) (r18 : Nat → Int32) (r19 : Nat → Int32) (r33 : Nat → Int32) (x2 : Int32) : Option ((Int32)) := (if mj_ib x2 200 = true then (if (r18 0) ≤ (r33 x2.toNatClampNeg) then some (0 : Int32) else (if mj_ib (r33 x2.toNatClampNeg) 40 = true then (if (r19 ((r33 x2.toNatClampNeg).toNatClampNeg)) = (1 : Int32) then some (1 : Int32) else (if mj_ib (r33 x2.toNatClampNeg) 40 = true then (if (r19 ((r33 x2.toNatClampNeg).toNatClampNeg)) = (2 : Int32) then some (1 : Int32) else some (0 : Int32)) else none)) else none)) else none)
set_option maxRecDepth 100000 in
set_option maxHeartbeats 4000000 in
theorem mtX5_isDrawn {X : mj_XT} {l : Launch} {G : mj_GT} {ad : Nat → Nat} {Qn : Option Value → mj_IT → mj_LT → Prop} (hR : mj_R X l G mj_P0 mj_S0 98 ad 0 0 Qn) (F : Nat) (I : mj_IT) (L : mj_LT) (r18 : Nat → Int32) (r19 : Nat → Int32) (r33 : Nat → Int32) (x2 : Int32) (o : ((Int32))) (hf : fnX5_isDrawn F r18 r19 r33 x2 = some o) (hq : (fun ov => Qn (some (.int ov)) (mj_rows I [(18, r18), (19, r19), (33, r33)]) L) o) : mj_W X G RX5 "isDrawn" cX5_isDrawn 4 1 (some .boolean) mj_P0 mj_S0 98 ad 0 0 0 [(0, .ref 32), (1, .ref 18), (2, .int x2)] [] (mj_rows I [(18, r18), (19, r19), (33, r33)]) L := by
  unfold fnX5_isDrawn at hf
  refine mj_aload_n 0 dX5_isDrawn_0 rfl ?_
  refine mj_getP p0_32_8 (by decide) fl_X5_72 rfl s0_32 a0_32 dX5_isDrawn_1 ?_
  refine mj_iload_n 2 dX5_isDrawn_4 rfl ?_
  obtain ⟨z1, hf⟩ := mj_ck hf
  refine mj_ialdv (x := r33) rfl s0_33 a0_33 z1 dX5_isDrawn_5 ?_
  refine mj_istore_n [(3, .int (r33 x2.toNatClampNeg)), (0, .ref 32), (1, .ref 18), (2, .int x2)] dX5_isDrawn_6 rfl (by decide) rfl ?_
  refine mj_iload_n 0 dX5_isDrawn_7 rfl ?_
  refine mj_aload_n 2 dX5_isDrawn_8 rfl ?_
  refine mj_getIv (v := (r18 0)) rfl fl_X5_75 rfl s0_18 a0_18 dX5_isDrawn_9 ?_
  refine mj_icmp_ge 39 dX5_isDrawn_12 (by decide) (fun c2 => ?_) (fun c2 => ?_)
  · replace hf := mj_pos c2 hf
    refine mj_iconst dX5_isDrawn_39 kc_iconst_0 ?_
    obtain rfl := Option.some.inj hf
    have hZ := hq
    exact mj_iret hR ⟨Nat.le_refl _, Nat.le_refl _⟩ rfl (by decide) dX5_isDrawn_40 hZ
  · replace hf := mj_neg c2 hf
    refine mj_aload_n 2 dX5_isDrawn_15 rfl ?_
    refine mj_getP p0_18_1 (by decide) fl_X5_78 rfl s0_18 a0_18 dX5_isDrawn_16 ?_
    refine mj_iload_n 0 dX5_isDrawn_19 rfl ?_
    obtain ⟨z3, hf⟩ := mj_ck hf
    refine mj_ialdv (x := r19) rfl s0_19 a0_19 z3 dX5_isDrawn_20 ?_
    refine mj_iconst dX5_isDrawn_21 kc_iconst_1 ?_
    refine mj_icmp_eq 35 dX5_isDrawn_22 (by decide) (fun c4 => ?_) (fun c4 => ?_)
    · replace hf := mj_pos c4 hf
      refine mj_iconst dX5_isDrawn_35 kc_iconst_1 ?_
      refine mj_goto 40 dX5_isDrawn_36 (by decide) ?_
      obtain rfl := Option.some.inj hf
      have hZ := hq
      exact mj_iret hR ⟨Nat.le_refl _, Nat.le_refl _⟩ rfl (by decide) dX5_isDrawn_40 hZ
    · replace hf := mj_neg c4 hf
      refine mj_aload_n 2 dX5_isDrawn_25 rfl ?_
      refine mj_getP p0_18_1 (by decide) fl_X5_78 rfl s0_18 a0_18 dX5_isDrawn_26 ?_
      refine mj_iload_n 0 dX5_isDrawn_29 rfl ?_
      obtain ⟨z5, hf⟩ := mj_ck hf
      refine mj_ialdv (x := r19) rfl s0_19 a0_19 z5 dX5_isDrawn_30 ?_
      refine mj_iconst dX5_isDrawn_31 kc_iconst_2 ?_
      refine mj_icmp_ne 39 dX5_isDrawn_32 (by decide) (fun c6 => ?_) (fun c6 => ?_)
      · replace hf := mj_neg c6 hf
        refine mj_iconst dX5_isDrawn_39 kc_iconst_0 ?_
        obtain rfl := Option.some.inj hf
        have hZ := hq
        exact mj_iret hR ⟨Nat.le_refl _, Nat.le_refl _⟩ rfl (by decide) dX5_isDrawn_40 hZ
      · replace hf := mj_pos c6 hf
        refine mj_iconst dX5_isDrawn_35 kc_iconst_1 ?_
        refine mj_goto 40 dX5_isDrawn_36 (by decide) ?_
        obtain rfl := Option.some.inj hf
        have hZ := hq
        exact mj_iret hR ⟨Nat.le_refl _, Nat.le_refl _⟩ rfl (by decide) dX5_isDrawn_40 hZ
set_option maxRecDepth 100000 in
set_option maxHeartbeats 4000000 in
theorem cmX5_isDrawn (l : Launch) (G : mj_GT) (F : Nat) (x2 : Int32) (I : mj_IT) (L : mj_LT) (r18 : Nat → Int32) (r19 : Nat → Int32) (r33 : Nat → Int32) (hr18 : I 18 = r18) (hr19 : I 19 = r19) (hr33 : I 33 = r33) (o : ((Int32))) (hf : fnX5_isDrawn F r18 r19 r33 x2 = some o) : mj_M l G yX5_isDrawn cX5_isDrawn 4 1 (some .boolean) 0 0 mj_P0 mj_S0 98 [.ref 32, .ref 18, .int x2] I L (mj_qd (some (.int o)) (mj_rows I [(18, r18), (19, r19), (33, r33)]) L) := by
  refine mj_in RX5 "isDrawn" [(0, .ref 32), (1, .ref 18), (2, .int x2)] rfl rfl rfl (by decide) (Nat.le_of_ble_eq_true rfl) (fun X ad hR => ?_)
  refine mj_toI [(18, r18), (19, r19), (33, r33)] (by intro q hq; simp only [List.mem_cons, List.not_mem_nil, or_false] at hq; rcases hq with rfl | rfl | rfl <;> assumption) ?_
  refine mtX5_isDrawn hR F I L r18 r19 r33 x2 o hf ?_
  exact ⟨rfl, rfl, rfl⟩

-- X5_stopFrom
def bdX5_stopFrom_5 (F : Nat) (r18 : Nat → Int32) (r19 : Nat → Int32) (r32 : Nat → Int32) (r33 : Nat → Int32) (r37 : Nat → Int32) (r38 : Nat → Int32) (x3 : Int32) (x4 : Int32) : Option (((Int32) × (Int32)) ⊕ (Unit ⊕ (((Int32)) ⊕ Unit))) := (if (200 : Int32) < x4 then some (.inr (.inl ())) else (fnX4_isEnd F r32 r33 x3).bind (fun o2 => (if o2 = 0 then (fnX5_isDrawn F r18 r19 r33 x3).bind (fun o4 => (if o4 = 0 then (fnX4_arcsOf F r37 x3).bind (fun o6 => (if o6 = 0 then some (.inr (.inr (.inr ()))) else (if mj_ib x3 201 = true then (if mj_ib (r37 x3.toNatClampNeg) 2000 = true then some (.inl ((r38 ((r37 x3.toNatClampNeg).toNatClampNeg)), (x4 + (1)))) else none) else none))) else some (.inr (.inr (.inl x3))))) else some (.inr (.inr (.inl x3))))))
def fnX5_stopFrom (F : Nat) (r18 : Nat → Int32) (r19 : Nat → Int32) (r32 : Nat → Int32) (r33 : Nat → Int32) (r37 : Nat → Int32) (r38 : Nat → Int32) (x2 : Int32) : Option ((Int32)) := (mj_it (mj_u2 (fun z0 z1 => bdX5_stopFrom_5 F r18 r19 r32 r33 r37 r38 z0 z1)) F (x2, (0 : Int32))).bind (Sum.elim (fun _ => some (-1 : Int32)) (Sum.elim (fun x3_10 => some x3_10) (fun _ => some (-1 : Int32))))
set_option maxRecDepth 100000 in
set_option maxHeartbeats 4000000 in
theorem lpX5_stopFrom_5 {X : mj_XT} {l : Launch} {G : mj_GT} {ad : Nat → Nat} {Qn : Option Value → mj_IT → mj_LT → Prop} (hR : mj_R X l G mj_P0 mj_S0 98 ad 0 0 Qn) (F : Nat) (I : mj_IT) (L : mj_LT) (r18 : Nat → Int32) (r19 : Nat → Int32) (r32 : Nat → Int32) (r33 : Nat → Int32) (r37 : Nat → Int32) (r38 : Nat → Int32) : ∀ (n : Nat) (s : ((Int32) × (Int32))) (e : (Unit ⊕ (((Int32)) ⊕ Unit))), mj_it (mj_u2 (fun z0 z1 => bdX5_stopFrom_5 F r18 r19 r32 r33 r37 r38 z0 z1)) n s = some e → (Sum.elim (fun _ => mj_W X G RX5 "stopFrom" cX5_stopFrom 5 2 (some .int) mj_P0 mj_S0 98 ad 0 0 60 [] [] (mj_rows I [(18, r18), (19, r19), (32, r32), (33, r33), (37, r37), (38, r38)]) L) (Sum.elim (fun x3 => mj_W X G RX5 "stopFrom" cX5_stopFrom 5 2 (some .int) mj_P0 mj_S0 98 ad 0 0 30 [(3, .int x3)] [] (mj_rows I [(18, r18), (19, r19), (32, r32), (33, r33), (37, r37), (38, r38)]) L) (fun _ => mj_W X G RX5 "stopFrom" cX5_stopFrom 5 2 (some .int) mj_P0 mj_S0 98 ad 0 0 40 [] [] (mj_rows I [(18, r18), (19, r19), (32, r32), (33, r33), (37, r37), (38, r38)]) L))) e → (mj_u2 (fun x3 x4 => mj_W X G RX5 "stopFrom" cX5_stopFrom 5 2 (some .int) mj_P0 mj_S0 98 ad 0 0 5 [(0, .ref 32), (1, .ref 18), (3, .int x3), (4, .int x4)] [] (mj_rows I [(18, r18), (19, r19), (32, r32), (33, r33), (37, r37), (38, r38)]) L)) s := by
  refine mj_loop (fun s o hf hc hx => ?_)
  obtain ⟨x3, x4⟩ := s
  replace hf := mj_u2e hf
  refine mj_u2q ?_
  unfold bdX5_stopFrom_5 at hf
  refine mj_iload 3 dX5_stopFrom_5 rfl ?_
  refine mj_sipush dX5_stopFrom_7 kc_sipush_200 ?_
  refine mj_icmp_gt 60 dX5_stopFrom_10 (by decide) (fun c1 => ?_) (fun c1 => ?_)
  · replace hf := mj_pos c1 hf
    refine mj_sub [] [] rfl ?_
    obtain rfl := Option.some.inj hf
    have hZ := hx (.inl ()) rfl
    replace hZ := mj_el hZ
    exact hZ
  · replace hf := mj_neg c1 hf
    refine mj_aload_n 0 dX5_stopFrom_13 rfl ?_
    refine mj_iload_n 2 dX5_stopFrom_14 rfl ?_
    obtain ⟨o2, ho2, hf⟩ := mj_bd hf
    refine mj_callVd (I2 := (mj_rows I [(18, r18), (19, r19), (32, r32), (33, r33), (37, r37), (38, r38)])) (L2 := L) (s1 := [.int o2]) (st := []) [.int x3] (cmX4_isEnd X.2.1 G F x3 _ _ r32 r33 rfl rfl o2 ho2) (mj_rr rfl) rfl cw_X5_54 s0_32 a0_32 (by decide) rfl rfl (Nat.le_of_ble_eq_true rfl) ⟨Nat.zero_le _, Nat.zero_le _⟩ dX5_stopFrom_15 rfl ?_
    refine mj_if_ne 30 dX5_stopFrom_18 (by decide) (fun c3 => ?_) (fun c3 => ?_)
    · replace hf := mj_neg c3 hf
      refine mj_sub [2] [(3, .int x3)] rfl ?_
      obtain rfl := Option.some.inj hf
      have hZ := hx (.inr (.inl x3)) rfl
      replace hZ := mj_er hZ
      replace hZ := mj_el hZ
      exact hZ
    · replace hf := mj_pos c3 hf
      refine mj_aload_n 0 dX5_stopFrom_21 rfl ?_
      refine mj_aload_n 1 dX5_stopFrom_22 rfl ?_
      refine mj_iload_n 2 dX5_stopFrom_23 rfl ?_
      obtain ⟨o4, ho4, hf⟩ := mj_bd hf
      refine mj_callSd (I2 := (mj_rows I [(18, r18), (19, r19), (32, r32), (33, r33), (37, r37), (38, r38)])) (L2 := L) (s1 := [.int o4]) (st := []) [.ref 32, .ref 18, .int x3] (cmX5_isDrawn X.2.1 G F x3 _ _ r18 r19 r33 rfl rfl rfl o4 ho4) (mj_rr rfl) rfl cw_X5_58 (by decide) rfl rfl (Nat.le_of_ble_eq_true rfl) ⟨Nat.zero_le _, Nat.zero_le _⟩ dX5_stopFrom_24 rfl ?_
      refine mj_if_eq 32 dX5_stopFrom_27 (by decide) (fun c5 => ?_) (fun c5 => ?_)
      · replace hf := mj_pos c5 hf
        refine mj_aload_n 0 dX5_stopFrom_32 rfl ?_
        refine mj_iload_n 2 dX5_stopFrom_33 rfl ?_
        obtain ⟨o6, ho6, hf⟩ := mj_bd hf
        refine mj_callVd (I2 := (mj_rows I [(18, r18), (19, r19), (32, r32), (33, r33), (37, r37), (38, r38)])) (L2 := L) (s1 := [.int o6]) (st := []) [.int x3] (cmX4_arcsOf X.2.1 G F x3 _ _ r37 rfl o6 ho6) (mj_rr rfl) rfl cw_X5_62 s0_32 a0_32 (by decide) rfl rfl (Nat.le_of_ble_eq_true rfl) ⟨Nat.zero_le _, Nat.zero_le _⟩ dX5_stopFrom_34 rfl ?_
        refine mj_if_ne 42 dX5_stopFrom_37 (by decide) (fun c7 => ?_) (fun c7 => ?_)
        · replace hf := mj_neg c7 hf
          refine mj_aload_n 0 dX5_stopFrom_42 rfl ?_
          refine mj_getP p0_32_13 (by decide) fl_X5_66 rfl s0_32 a0_32 dX5_stopFrom_43 ?_
          refine mj_aload_n 0 dX5_stopFrom_46 rfl ?_
          refine mj_getP p0_32_12 (by decide) fl_X5_69 rfl s0_32 a0_32 dX5_stopFrom_47 ?_
          refine mj_iload_n 2 dX5_stopFrom_50 rfl ?_
          obtain ⟨z8, hf⟩ := mj_ck hf
          refine mj_ialdv (x := r37) rfl s0_37 a0_37 z8 dX5_stopFrom_51 ?_
          obtain ⟨z9, hf⟩ := mj_ck hf
          refine mj_ialdv (x := r38) rfl s0_38 a0_38 z9 dX5_stopFrom_52 ?_
          refine mj_istore_n [(3, .int (r38 ((r37 x3.toNatClampNeg).toNatClampNeg))), (0, .ref 32), (1, .ref 18), (4, .int x4)] dX5_stopFrom_53 rfl (by decide) rfl ?_
          refine mj_iinc 3 [(4, .int (x4 + (1))), (3, .int (r38 ((r37 x3.toNatClampNeg).toNatClampNeg))), (0, .ref 32), (1, .ref 18)] dX5_stopFrom_54 rfl (kz_1 _) (by decide) rfl ?_
          refine mj_goto 5 dX5_stopFrom_57 (by decide) ?_
          refine mj_sub [2, 3, 1, 0] [(0, .ref 32), (1, .ref 18), (3, .int (r38 ((r37 x3.toNatClampNeg).toNatClampNeg))), (4, .int (x4 + (1)))] rfl ?_
          obtain rfl := Option.some.inj hf
          have hZ := hc ((r38 ((r37 x3.toNatClampNeg).toNatClampNeg)), (x4 + (1))) rfl
          replace hZ := mj_u2p hZ
          exact hZ
        · replace hf := mj_pos c7 hf
          refine mj_sub [] [] rfl ?_
          obtain rfl := Option.some.inj hf
          have hZ := hx (.inr (.inr ())) rfl
          replace hZ := mj_er hZ
          replace hZ := mj_er hZ
          exact hZ
      · replace hf := mj_neg c5 hf
        refine mj_sub [2] [(3, .int x3)] rfl ?_
        obtain rfl := Option.some.inj hf
        have hZ := hx (.inr (.inl x3)) rfl
        replace hZ := mj_er hZ
        replace hZ := mj_el hZ
        exact hZ
set_option maxRecDepth 100000 in
set_option maxHeartbeats 4000000 in
theorem mtX5_stopFrom {X : mj_XT} {l : Launch} {G : mj_GT} {ad : Nat → Nat} {Qn : Option Value → mj_IT → mj_LT → Prop} (hR : mj_R X l G mj_P0 mj_S0 98 ad 0 0 Qn) (F : Nat) (I : mj_IT) (L : mj_LT) (r18 : Nat → Int32) (r19 : Nat → Int32) (r32 : Nat → Int32) (r33 : Nat → Int32) (r37 : Nat → Int32) (r38 : Nat → Int32) (x2 : Int32) (o : ((Int32))) (hf : fnX5_stopFrom F r18 r19 r32 r33 r37 r38 x2 = some o) (hq : (fun ov => Qn (some (.int ov)) (mj_rows I [(18, r18), (19, r19), (32, r32), (33, r33), (37, r37), (38, r38)]) L) o) : mj_W X G RX5 "stopFrom" cX5_stopFrom 5 2 (some .int) mj_P0 mj_S0 98 ad 0 0 0 [(0, .ref 32), (1, .ref 18), (2, .int x2)] [] (mj_rows I [(18, r18), (19, r19), (32, r32), (33, r33), (37, r37), (38, r38)]) L := by
  unfold fnX5_stopFrom at hf
  refine mj_iload_n 2 dX5_stopFrom_0 rfl ?_
  refine mj_istore_n [(3, .int x2), (0, .ref 32), (1, .ref 18), (2, .int x2)] dX5_stopFrom_1 rfl (by decide) rfl ?_
  refine mj_iconst dX5_stopFrom_2 kc_iconst_0 ?_
  refine mj_istore [(4, .int (0 : Int32)), (3, .int x2), (0, .ref 32), (1, .ref 18), (2, .int x2)] dX5_stopFrom_3 (by decide) rfl ?_
  refine mj_sub [2, 3, 1, 0] [(0, .ref 32), (1, .ref 18), (3, .int x2), (4, .int (0 : Int32))] rfl ?_
  obtain ⟨e10, ho10, hf⟩ := mj_bd hf
  refine lpX5_stopFrom_5 hR F I L r18 r19 r32 r33 r37 r38 F (x2, (0 : Int32)) e10 ho10 ?_
  rcases e10 with e10 | e10
  · replace hf := mj_ele hf
    refine mj_elq (?_)
    refine mj_iconst dX5_stopFrom_60 kc_iconst_m1 ?_
    obtain rfl := Option.some.inj hf
    have hZ := hq
    exact mj_iret hR ⟨Nat.le_refl _, Nat.le_refl _⟩ rfl rfl dX5_stopFrom_61 hZ
  · replace hf := mj_ere hf
    rcases e10 with x3_10 | e10
    · replace hf := mj_ele hf
      refine mj_erq (mj_elq (?_))
      refine mj_iload_n 0 dX5_stopFrom_30 rfl ?_
      obtain rfl := Option.some.inj hf
      have hZ := hq
      exact mj_iret hR ⟨Nat.le_refl _, Nat.le_refl _⟩ rfl rfl dX5_stopFrom_31 hZ
    · replace hf := mj_ere hf
      refine mj_erq (mj_erq (?_))
      refine mj_iconst dX5_stopFrom_40 kc_iconst_m1 ?_
      obtain rfl := Option.some.inj hf
      have hZ := hq
      exact mj_iret hR ⟨Nat.le_refl _, Nat.le_refl _⟩ rfl rfl dX5_stopFrom_41 hZ
set_option maxRecDepth 100000 in
set_option maxHeartbeats 4000000 in
theorem cmX5_stopFrom (l : Launch) (G : mj_GT) (F : Nat) (x2 : Int32) (I : mj_IT) (L : mj_LT) (r18 : Nat → Int32) (r19 : Nat → Int32) (r32 : Nat → Int32) (r33 : Nat → Int32) (r37 : Nat → Int32) (r38 : Nat → Int32) (hr18 : I 18 = r18) (hr19 : I 19 = r19) (hr32 : I 32 = r32) (hr33 : I 33 = r33) (hr37 : I 37 = r37) (hr38 : I 38 = r38) (o : ((Int32))) (hf : fnX5_stopFrom F r18 r19 r32 r33 r37 r38 x2 = some o) : mj_M l G yX5_stopFrom cX5_stopFrom 5 2 (some .int) 0 0 mj_P0 mj_S0 98 [.ref 32, .ref 18, .int x2] I L (mj_qd (some (.int o)) (mj_rows I [(18, r18), (19, r19), (32, r32), (33, r33), (37, r37), (38, r38)]) L) := by
  refine mj_in RX5 "stopFrom" [(0, .ref 32), (1, .ref 18), (2, .int x2)] rfl rfl rfl (by decide) (Nat.le_of_ble_eq_true rfl) (fun X ad hR => ?_)
  refine mj_toI [(18, r18), (19, r19), (32, r32), (33, r33), (37, r37), (38, r38)] (by intro q hq; simp only [List.mem_cons, List.not_mem_nil, or_false] at hq; rcases hq with rfl | rfl | rfl | rfl | rfl | rfl <;> assumption) ?_
  refine mtX5_stopFrom hR F I L r18 r19 r32 r33 r37 r38 x2 o hf ?_
  exact ⟨rfl, rfl, rfl⟩

