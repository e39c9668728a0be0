-- X10_arc
def jnX10_arc_29 (F : Nat) (r1 : Nat → Int32) (r18 : Nat → Int32) (r19 : Nat → Int32) (r20 : Nat → Int32) (r21 : Nat → Int32) (r22 : Nat → Int32) (r23 : Nat → Int32) (r24 : Nat → Int32) (r25 : Nat → Int32) (r26 : Nat → Int32) (x1 : Int32) (x2 : Int32) (x3 : Int32) (r32 : Nat → Int32) (r33 : Nat → Int32) (r34 : Nat → Int32) (r35 : Nat → Int32) (r36 : Nat → Int32) (r37 : Nat → Int32) (r38 : Nat → Int32) (r39 : Nat → Int32) (r40 : Nat → Int32) (r70 : Nat → Int32) : Option (((Int32) × (Nat → Int32) × (Nat → Int32) × (Nat → Int32) × (Nat → Int32) × (Nat → Int32) × (Nat → Int32) × (Nat → Int32) × (Nat → Int32) × (Nat → Int32) × (Nat → Int32)) ⊕ ((Nat) × (Nat → Int32) × (Nat → Int32) × (Nat → Int32) × (Nat → Int32) × (Nat → Int32) × (Nat → Int32) × (Nat → Int32) × (Nat → Int32) × (Nat → Int32) × (Nat → Int32))) := (fnX10_needNumber F r70 x3 (0 : Int32) (1 : Int32)).bind (Sum.elim (fun o1 => (if mj_ib x1 201 = true then (if x3 = 0 then (if mj_ib ((r37 x1.toNatClampNeg) + x2) 2000 = true then some (.inl ((r38 (((r37 x1.toNatClampNeg) + x2).toNatClampNeg)), r32, r33, r34, r35, r36, r37, r38, r39, r40, o1)) else none) else (if mj_ib ((r37 x1.toNatClampNeg) + x2) 2000 = true then some (.inl ((r39 (((r37 x1.toNatClampNeg) + x2).toNatClampNeg)), r32, r33, r34, r35, r36, r37, r38, r39, r40, o1)) else none)) else none)) (fun eo1 => some (.inr (eo1.1, r32, r33, r34, r35, r36, r37, r38, r39, r40, eo1.2))))
def jnX10_arc_25 (F : Nat) (r1 : Nat → Int32) (r18 : Nat → Int32) (r19 : Nat → Int32) (r20 : Nat → Int32) (r21 : Nat → Int32) (r22 : Nat → Int32) (r23 : Nat → Int32) (r24 : Nat → Int32) (r25 : Nat → Int32) (r26 : Nat → Int32) (x1 : Int32) (x2 : Int32) (x3 : Int32) (r32 : Nat → Int32) (r33 : Nat → Int32) (r34 : Nat → Int32) (r35 : Nat → Int32) (r36 : Nat → Int32) (r37 : Nat → Int32) (r38 : Nat → Int32) (r39 : Nat → Int32) (r40 : Nat → Int32) (r70 : Nat → Int32) : Option (((Int32) × (Nat → Int32) × (Nat → Int32) × (Nat → Int32) × (Nat → Int32) × (Nat → Int32) × (Nat → Int32) × (Nat → Int32) × (Nat → Int32) × (Nat → Int32) × (Nat → Int32)) ⊕ ((Nat) × (Nat → Int32) × (Nat → Int32) × (Nat → Int32) × (Nat → Int32) × (Nat → Int32) × (Nat → Int32) × (Nat → Int32) × (Nat → Int32) × (Nat → Int32) × (Nat → Int32))) := (fnX10_refuseElement F r70).bind (Sum.elim (fun o6 => jnX10_arc_29 F r1 r18 r19 r20 r21 r22 r23 r24 r25 r26 x1 x2 x3 r32 r33 r34 r35 r36 r37 r38 r39 r40 o6) (fun eo6 => some (.inr (eo6.1, r32, r33, r34, r35, r36, r37, r38, r39, r40, eo6.2))))
def fnX10_arc (F : Nat) (r1 : Nat → Int32) (r18 : Nat → Int32) (r19 : Nat → Int32) (r20 : Nat → Int32) (r21 : Nat → Int32) (r22 : Nat → Int32) (r23 : Nat → Int32) (r24 : Nat → Int32) (r25 : Nat → Int32) (r26 : Nat → Int32) (r32 : Nat → Int32) (r33 : Nat → Int32) (r34 : Nat → Int32) (r35 : Nat → Int32) (r36 : Nat → Int32) (r37 : Nat → Int32) (r38 : Nat → Int32) (r39 : Nat → Int32) (r40 : Nat → Int32) (r70 : Nat → Int32) (x1 : Int32) (x2 : Int32) (x3 : Int32) : Option (((Int32) × (Nat → Int32) × (Nat → Int32) × (Nat → Int32) × (Nat → Int32) × (Nat → Int32) × (Nat → Int32) × (Nat → Int32) × (Nat → Int32) × (Nat → Int32) × (Nat → Int32)) ⊕ ((Nat) × (Nat → Int32) × (Nat → Int32) × (Nat → Int32) × (Nat → Int32) × (Nat → Int32) × (Nat → Int32) × (Nat → Int32) × (Nat → Int32) × (Nat → Int32) × (Nat → Int32))) := (fnX10_needStates F r1 r18 r19 r20 r21 r22 r23 r24 r25 r26 r32 r33 r34 r35 r36 r37 r38 r39 r40 r70).bind (Sum.elim (fun o7 => (fnX10_needState F o7.1 o7.2.2.2.2.2.2.2.2.2 x1).bind (Sum.elim (fun o8 => (if x2 < 0 then jnX10_arc_25 F r1 r18 r19 r20 r21 r22 r23 r24 r25 r26 x1 x2 x3 o7.1 o7.2.1 o7.2.2.1 o7.2.2.2.1 o7.2.2.2.2.1 o7.2.2.2.2.2.1 o7.2.2.2.2.2.2.1 o7.2.2.2.2.2.2.2.1 o7.2.2.2.2.2.2.2.2.1 o8 else (fnX4_arcsOf F o7.2.2.2.2.2.1 x1).bind (fun o10 => (if x2 < o10 then jnX10_arc_29 F r1 r18 r19 r20 r21 r22 r23 r24 r25 r26 x1 x2 x3 o7.1 o7.2.1 o7.2.2.1 o7.2.2.2.1 o7.2.2.2.2.1 o7.2.2.2.2.2.1 o7.2.2.2.2.2.2.1 o7.2.2.2.2.2.2.2.1 o7.2.2.2.2.2.2.2.2.1 o8 else jnX10_arc_25 F r1 r18 r19 r20 r21 r22 r23 r24 r25 r26 x1 x2 x3 o7.1 o7.2.1 o7.2.2.1 o7.2.2.2.1 o7.2.2.2.2.1 o7.2.2.2.2.2.1 o7.2.2.2.2.2.2.1 o7.2.2.2.2.2.2.2.1 o7.2.2.2.2.2.2.2.2.1 o8)))) (fun eo8 => some (.inr (eo8.1, o7.1, o7.2.1, o7.2.2.1, o7.2.2.2.1, o7.2.2.2.2.1, o7.2.2.2.2.2.1, o7.2.2.2.2.2.2.1, o7.2.2.2.2.2.2.2.1, o7.2.2.2.2.2.2.2.2.1, eo8.2))))) (fun eo7 => some (.inr (eo7.1, eo7.2.1, eo7.2.2.1, eo7.2.2.2.1, eo7.2.2.2.2.1, eo7.2.2.2.2.2.1, eo7.2.2.2.2.2.2.1, eo7.2.2.2.2.2.2.2.1, eo7.2.2.2.2.2.2.2.2.1, eo7.2.2.2.2.2.2.2.2.2.1, eo7.2.2.2.2.2.2.2.2.2.2))))
set_option maxRecDepth 100000 in
set_option maxHeartbeats 4000000 in
theorem jtX10_arc_29 {X : mj_XT} {l : Launch} {G : mj_GT} {ad : Nat → Nat} {Qn : Option Value → mj_IT → mj_LT → Prop} {Qx : String → mj_IT → mj_LT → Prop} (hR : mj_Rx X l G mj_P0 mj_S0 98 ad 4 24 Qn Qx) (hlt : l.stackTraces = false) (F : Nat) (I : mj_IT) (L : mj_LT) (r1 : Nat → Int32) (r18 : Nat → Int32) (r19 : Nat → Int32) (r20 : Nat → Int32) (r21 : Nat → Int32) (r22 : Nat → Int32) (r23 : Nat → Int32) (r24 : Nat → Int32) (r25 : Nat → Int32) (r26 : Nat → Int32) (r32 : Nat → Int32) (r33 : Nat → Int32) (r34 : Nat → Int32) (r35 : Nat → Int32) (r36 : Nat → Int32) (r37 : Nat → Int32) (r38 : Nat → Int32) (r39 : Nat → Int32) (r40 : Nat → Int32) (r70 : Nat → Int32) (x1 : Int32) (x2 : Int32) (x3 : Int32) (o : (((Int32) × (Nat → Int32) × (Nat → Int32) × (Nat → Int32) × (Nat → Int32) × (Nat → Int32) × (Nat → Int32) × (Nat → Int32) × (Nat → Int32) × (Nat → Int32) × (Nat → Int32)) ⊕ ((Nat) × (Nat → Int32) × (Nat → Int32) × (Nat → Int32) × (Nat → Int32) × (Nat → Int32) × (Nat → Int32) × (Nat → Int32) × (Nat → Int32) × (Nat → Int32) × (Nat → Int32)))) (hf : jnX10_arc_29 F r1 r18 r19 r20 r21 r22 r23 r24 r25 r26 x1 x2 x3 r32 r33 r34 r35 r36 r37 r38 r39 r40 r70 = some o) (hq : (Sum.elim (mj_u2 (fun ov => (mj_u2 (fun r32 => (mj_u2 (fun r33 => (mj_u2 (fun r34 => (mj_u2 (fun r35 => (mj_u2 (fun r36 => (mj_u2 (fun r37 => (mj_u2 (fun r38 => (mj_u2 (fun r39 => (mj_u2 (fun r40 r70 => Qn (some (.int ov)) (mj_rows I [(1, r1), (18, r18), (19, r19), (20, r20), (21, r21), (22, r22), (23, r23), (24, r24), (25, r25), (26, r26), (32, r32), (33, r33), (34, r34), (35, r35), (36, r36), (37, r37), (38, r38), (39, r39), (40, r40), (70, r70)]) L)))))))))))))))))))) (mj_u2 (fun kx => (mj_u2 (fun r32 => (mj_u2 (fun r33 => (mj_u2 (fun r34 => (mj_u2 (fun r35 => (mj_u2 (fun r36 => (mj_u2 (fun r37 => (mj_u2 (fun r38 => (mj_u2 (fun r39 => (mj_u2 (fun r40 r70 => Qx (mj_en kx) (mj_rows I [(1, r1), (18, r18), (19, r19), (20, r20), (21, r21), (22, r22), (23, r23), (24, r24), (25, r25), (26, r26), (32, r32), (33, r33), (34, r34), (35, r35), (36, r36), (37, r37), (38, r38), (39, r39), (40, r40), (70, r70)]) L))))))))))))))))))))) o) : mj_W X G RX10 "arc" cX10_arc 5 9 (some .int) mj_P0 mj_S0 98 ad 3 18 29 [(0, .ref 1), (1, .int x1), (2, .int x2), (3, .int x3)] [] (mj_rows I [(1, r1), (18, r18), (19, r19), (20, r20), (21, r21), (22, r22), (23, r23), (24, r24), (25, r25), (26, r26), (32, r32), (33, r33), (34, r34), (35, r35), (36, r36), (37, r37), (38, r38), (39, r39), (40, r40), (70, r70)]) L := by
  unfold jnX10_arc_29 at hf
  refine mj_aload_n 0 dX10_arc_29 rfl ?_
  refine mj_iload_n 3 dX10_arc_30 rfl ?_
  refine mj_iconst dX10_arc_31 kc_iconst_0 ?_
  refine mj_iconst dX10_arc_32 kc_iconst_1 ?_
  obtain ⟨so1, ho1, hf⟩ := mj_bd hf
  refine mj_callVx (st := []) [.int x3, .int (0 : Int32), .int (1 : Int32)] hR (cmX10_needNumber l G hlt F x3 (0 : Int32) (1 : Int32) _ _ r70 rfl so1 ho1) cw_X10_80 s0_1 a0_1 (by decide) rfl rfl (Nat.le_of_ble_eq_true rfl) ⟨by decide, by decide⟩ dX10_arc_33 (fun E I2 L2 hx => ?_) (fun rv I2 L2 hx => ?_)
  · obtain ⟨eo1, hf, hx⟩ := mj_sxr hf hx
    obtain rfl := Option.some.inj hf
    obtain ⟨hE9, hI9, hL9⟩ := hx
    rw [hE9, hI9, hL9]
    have hZ := mj_er hq
    replace hZ := mj_u2p hZ
    replace hZ := mj_u2p hZ
    replace hZ := mj_u2p hZ
    replace hZ := mj_u2p hZ
    replace hZ := mj_u2p hZ
    replace hZ := mj_u2p hZ
    replace hZ := mj_u2p hZ
    replace hZ := mj_u2p hZ
    replace hZ := mj_u2p hZ
    replace hZ := mj_u2p hZ
    rw [mj_rq (l' := [(1, r1), (18, r18), (19, r19), (20, r20), (21, r21), (22, r22), (23, r23), (24, r24), (25, r25), (26, r26), (32, r32), (33, r33), (34, r34), (35, r35), (36, r36), (37, r37), (38, r38), (39, r39), (40, r40), (70, eo1.2)]) rfl rfl]
    exact hZ
  · obtain ⟨o1, hf, hx⟩ := mj_sxl hf hx
    obtain ⟨hr9, hI9, hL9⟩ := hx
    refine mj_cnv (s1 := []) (I2 := (mj_rows I [(1, r1), (18, r18), (19, r19), (20, r20), (21, r21), (22, r22), (23, r23), (24, r24), (25, r25), (26, r26), (32, r32), (33, r33), (34, r34), (35, r35), (36, r36), (37, r37), (38, r38), (39, r39), (40, r40), (70, o1)])) (L2 := L) (by rw [hr9]; rfl) (hI9.trans (mj_rq rfl rfl)) hL9 ?_
    refine mj_aload_n 0 dX10_arc_36 rfl ?_
    refine mj_getP p0_1_5 (by decide) fl_X10_37 rfl s0_1 a0_1 dX10_arc_37 ?_
    refine mj_getP p0_32_12 (by decide) fl_X10_200 rfl s0_32 a0_32 dX10_arc_40 ?_
    refine mj_iload_n 1 dX10_arc_43 rfl ?_
    obtain ⟨z2, hf⟩ := mj_ck hf
    refine mj_ialdv (x := r37) rfl s0_37 a0_37 z2 dX10_arc_44 ?_
    refine mj_iload_n 2 dX10_arc_45 rfl ?_
    refine mj_iadd dX10_arc_46 ?_
    refine mj_istore [(4, .int ((r37 x1.toNatClampNeg) + x2)), (0, .ref 1), (1, .int x1), (2, .int x2), (3, .int x3)] dX10_arc_47 (by decide) rfl ?_
    refine mj_iload_n 4 dX10_arc_49 rfl ?_
    refine mj_if_ne 66 dX10_arc_50 (by decide) (fun c3 => ?_) (fun c3 => ?_)
    · replace hf := mj_neg c3 hf
      refine mj_aload_n 1 dX10_arc_66 rfl ?_
      refine mj_getP p0_1_5 (by decide) fl_X10_37 rfl s0_1 a0_1 dX10_arc_67 ?_
      refine mj_getP p0_32_14 (by decide) fl_X10_206 rfl s0_32 a0_32 dX10_arc_70 ?_
      refine mj_iload 0 dX10_arc_73 rfl ?_
      obtain ⟨z4, hf⟩ := mj_ck hf
      refine mj_ialdv (x := r39) rfl s0_39 a0_39 z4 dX10_arc_75 ?_
      obtain rfl := Option.some.inj hf
      have hZ := mj_el hq
      replace hZ := mj_u2p hZ
      replace hZ := mj_u2p hZ
      replace hZ := mj_u2p hZ
      replace hZ := mj_u2p hZ
      replace hZ := mj_u2p hZ
      replace hZ := mj_u2p hZ
      replace hZ := mj_u2p hZ
      replace hZ := mj_u2p hZ
      replace hZ := mj_u2p hZ
      replace hZ := mj_u2p hZ
      exact mj_iretx hR ⟨by decide, by decide⟩ rfl rfl dX10_arc_76 hZ
    · replace hf := mj_pos c3 hf
      refine mj_aload_n 1 dX10_arc_53 rfl ?_
      refine mj_getP p0_1_5 (by decide) fl_X10_37 rfl s0_1 a0_1 dX10_arc_54 ?_
      refine mj_getP p0_32_13 (by decide) fl_X10_203 rfl s0_32 a0_32 dX10_arc_57 ?_
      refine mj_iload 0 dX10_arc_60 rfl ?_
      obtain ⟨z5, hf⟩ := mj_ck hf
      refine mj_ialdv (x := r38) rfl s0_38 a0_38 z5 dX10_arc_62 ?_
      refine mj_goto 76 dX10_arc_63 (by decide) ?_
      obtain rfl := Option.some.inj hf
      have hZ := mj_el hq
      replace hZ := mj_u2p hZ
      replace hZ := mj_u2p hZ
      replace hZ := mj_u2p hZ
      replace hZ := mj_u2p hZ
      replace hZ := mj_u2p hZ
      replace hZ := mj_u2p hZ
      replace hZ := mj_u2p hZ
      replace hZ := mj_u2p hZ
      replace hZ := mj_u2p hZ
      replace hZ := mj_u2p hZ
      exact mj_iretx hR ⟨by decide, by decide⟩ rfl rfl dX10_arc_76 hZ
set_option maxRecDepth 100000 in
set_option maxHeartbeats 4000000 in
theorem jtX10_arc_25 {X : mj_XT} {l : Launch} {G : mj_GT} {ad : Nat → Nat} {Qn : Option Value → mj_IT → mj_LT → Prop} {Qx : String → mj_IT → mj_LT → Prop} (hR : mj_Rx X l G mj_P0 mj_S0 98 ad 4 24 Qn Qx) (hlt : l.stackTraces = false) (F : Nat) (I : mj_IT) (L : mj_LT) (r1 : Nat → Int32) (r18 : Nat → Int32) (r19 : Nat → Int32) (r20 : Nat → Int32) (r21 : Nat → Int32) (r22 : Nat → Int32) (r23 : Nat → Int32) (r24 : Nat → Int32) (r25 : Nat → Int32) (r26 : Nat → Int32) (r32 : Nat → Int32) (r33 : Nat → Int32) (r34 : Nat → Int32) (r35 : Nat → Int32) (r36 : Nat → Int32) (r37 : Nat → Int32) (r38 : Nat → Int32) (r39 : Nat → Int32) (r40 : Nat → Int32) (r70 : Nat → Int32) (x1 : Int32) (x2 : Int32) (x3 : Int32) (o : (((Int32) × (Nat → Int32) × (Nat → Int32) × (Nat → Int32) × (Nat → Int32) × (Nat → Int32) × (Nat → Int32) × (Nat → Int32) × (Nat → Int32) × (Nat → Int32) × (Nat → Int32)) ⊕ ((Nat) × (Nat → Int32) × (Nat → Int32) × (Nat → Int32) × (Nat → Int32) × (Nat → Int32) × (Nat → Int32) × (Nat → Int32) × (Nat → Int32) × (Nat → Int32) × (Nat → Int32)))) (hf : jnX10_arc_25 F r1 r18 r19 r20 r21 r22 r23 r24 r25 r26 x1 x2 x3 r32 r33 r34 r35 r36 r37 r38 r39 r40 r70 = some o) (hq : (Sum.elim (mj_u2 (fun ov => (mj_u2 (fun r32 => (mj_u2 (fun r33 => (mj_u2 (fun r34 => (mj_u2 (fun r35 => (mj_u2 (fun r36 => (mj_u2 (fun r37 => (mj_u2 (fun r38 => (mj_u2 (fun r39 => (mj_u2 (fun r40 r70 => Qn (some (.int ov)) (mj_rows I [(1, r1), (18, r18), (19, r19), (20, r20), (21, r21), (22, r22), (23, r23), (24, r24), (25, r25), (26, r26), (32, r32), (33, r33), (34, r34), (35, r35), (36, r36), (37, r37), (38, r38), (39, r39), (40, r40), (70, r70)]) L)))))))))))))))))))) (mj_u2 (fun kx => (mj_u2 (fun r32 => (mj_u2 (fun r33 => (mj_u2 (fun r34 => (mj_u2 (fun r35 => (mj_u2 (fun r36 => (mj_u2 (fun r37 => (mj_u2 (fun r38 => (mj_u2 (fun r39 => (mj_u2 (fun r40 r70 => Qx (mj_en kx) (mj_rows I [(1, r1), (18, r18), (19, r19), (20, r20), (21, r21), (22, r22), (23, r23), (24, r24), (25, r25), (26, r26), (32, r32), (33, r33), (34, r34), (35, r35), (36, r36), (37, r37), (38, r38), (39, r39), (40, r40), (70, r70)]) L))))))))))))))))))))) o) : mj_W X G RX10 "arc" cX10_arc 5 9 (some .int) mj_P0 mj_S0 98 ad 2 12 25 [(0, .ref 1), (1, .int x1), (2, .int x2), (3, .int x3)] [] (mj_rows I [(1, r1), (18, r18), (19, r19), (20, r20), (21, r21), (22, r22), (23, r23), (24, r24), (25, r25), (26, r26), (32, r32), (33, r33), (34, r34), (35, r35), (36, r36), (37, r37), (38, r38), (39, r39), (40, r40), (70, r70)]) L := by
  unfold jnX10_arc_25 at hf
  refine mj_aload_n 0 dX10_arc_25 rfl ?_
  obtain ⟨so6, ho6, hf⟩ := mj_bd hf
  refine mj_callVx (st := []) [] hR (cmX10_refuseElement l G hlt F  _ _ r70 rfl so6 ho6) cw_X10_197 s0_1 a0_1 (by decide) rfl rfl (Nat.le_of_ble_eq_true rfl) ⟨by decide, by decide⟩ dX10_arc_26 (fun E I2 L2 hx => ?_) (fun rv I2 L2 hx => ?_)
  · obtain ⟨eo6, hf, hx⟩ := mj_sxr hf hx
    obtain rfl := Option.some.inj hf
    obtain ⟨hE9, hI9, hL9⟩ := hx
    rw [hE9, hI9, hL9]
    have hZ := mj_er hq
    replace hZ := mj_u2p hZ
    replace hZ := mj_u2p hZ
    replace hZ := mj_u2p hZ
    replace hZ := mj_u2p hZ
    replace hZ := mj_u2p hZ
    replace hZ := mj_u2p hZ
    replace hZ := mj_u2p hZ
    replace hZ := mj_u2p hZ
    replace hZ := mj_u2p hZ
    replace hZ := mj_u2p hZ
    rw [mj_rq (l' := [(1, r1), (18, r18), (19, r19), (20, r20), (21, r21), (22, r22), (23, r23), (24, r24), (25, r25), (26, r26), (32, r32), (33, r33), (34, r34), (35, r35), (36, r36), (37, r37), (38, r38), (39, r39), (40, r40), (70, eo6.2)]) rfl rfl]
    exact hZ
  · obtain ⟨o6, hf, hx⟩ := mj_sxl hf hx
    obtain ⟨hr9, hI9, hL9⟩ := hx
    refine mj_cnv (s1 := []) (I2 := (mj_rows I [(1, r1), (18, r18), (19, r19), (20, r20), (21, r21), (22, r22), (23, r23), (24, r24), (25, r25), (26, r26), (32, r32), (33, r33), (34, r34), (35, r35), (36, r36), (37, r37), (38, r38), (39, r39), (40, r40), (70, o6)])) (L2 := L) (by rw [hr9]; rfl) (hI9.trans (mj_rq rfl rfl)) hL9 ?_
    exact jtX10_arc_29 hR hlt F I L r1 r18 r19 r20 r21 r22 r23 r24 r25 r26 r32 r33 r34 r35 r36 r37 r38 r39 r40 o6 x1 x2 x3 o hf hq
set_option maxRecDepth 100000 in
set_option maxHeartbeats 4000000 in
theorem mtX10_arc {X : mj_XT} {l : Launch} {G : mj_GT} {ad : Nat → Nat} {Qn : Option Value → mj_IT → mj_LT → Prop} {Qx : String → mj_IT → mj_LT → Prop} (hR : mj_Rx X l G mj_P0 mj_S0 98 ad 4 24 Qn Qx) (hlt : l.stackTraces = false) (F : Nat) (I : mj_IT) (L : mj_LT) (r1 : Nat → Int32) (r18 : Nat → Int32) (r19 : Nat → Int32) (r20 : Nat → Int32) (r21 : Nat → Int32) (r22 : Nat → Int32) (r23 : Nat → Int32) (r24 : Nat → Int32) (r25 : Nat → Int32) (r26 : Nat → Int32) (r32 : Nat → Int32) (r33 : Nat → Int32) (r34 : Nat → Int32) (r35 : Nat → Int32) (r36 : Nat → Int32) (r37 : Nat → Int32) (r38 : Nat → Int32) (r39 : Nat → Int32) (r40 : Nat → Int32) (r70 : Nat → Int32) (x1 : Int32) (x2 : Int32) (x3 : Int32) (o : (((Int32) × (Nat → Int32) × (Nat → Int32) × (Nat → Int32) × (Nat → Int32) × (Nat → Int32) × (Nat → Int32) × (Nat → Int32) × (Nat → Int32) × (Nat → Int32) × (Nat → Int32)) ⊕ ((Nat) × (Nat → Int32) × (Nat → Int32) × (Nat → Int32) × (Nat → Int32) × (Nat → Int32) × (Nat → Int32) × (Nat → Int32) × (Nat → Int32) × (Nat → Int32) × (Nat → Int32)))) (hf : fnX10_arc F r1 r18 r19 r20 r21 r22 r23 r24 r25 r26 r32 r33 r34 r35 r36 r37 r38 r39 r40 r70 x1 x2 x3 = some o) (hq : (Sum.elim (mj_u2 (fun ov => (mj_u2 (fun r32 => (mj_u2 (fun r33 => (mj_u2 (fun r34 => (mj_u2 (fun r35 => (mj_u2 (fun r36 => (mj_u2 (fun r37 => (mj_u2 (fun r38 => (mj_u2 (fun r39 => (mj_u2 (fun r40 r70 => Qn (some (.int ov)) (mj_rows I [(1, r1), (18, r18), (19, r19), (20, r20), (21, r21), (22, r22), (23, r23), (24, r24), (25, r25), (26, r26), (32, r32), (33, r33), (34, r34), (35, r35), (36, r36), (37, r37), (38, r38), (39, r39), (40, r40), (70, r70)]) L)))))))))))))))))))) (mj_u2 (fun kx => (mj_u2 (fun r32 => (mj_u2 (fun r33 => (mj_u2 (fun r34 => (mj_u2 (fun r35 => (mj_u2 (fun r36 => (mj_u2 (fun r37 => (mj_u2 (fun r38 => (mj_u2 (fun r39 => (mj_u2 (fun r40 r70 => Qx (mj_en kx) (mj_rows I [(1, r1), (18, r18), (19, r19), (20, r20), (21, r21), (22, r22), (23, r23), (24, r24), (25, r25), (26, r26), (32, r32), (33, r33), (34, r34), (35, r35), (36, r36), (37, r37), (38, r38), (39, r39), (40, r40), (70, r70)]) L))))))))))))))))))))) o) : mj_W X G RX10 "arc" cX10_arc 5 9 (some .int) mj_P0 mj_S0 98 ad 0 0 0 [(0, .ref 1), (1, .int x1), (2, .int x2), (3, .int x3)] [] (mj_rows I [(1, r1), (18, r18), (19, r19), (20, r20), (21, r21), (22, r22), (23, r23), (24, r24), (25, r25), (26, r26), (32, r32), (33, r33), (34, r34), (35, r35), (36, r36), (37, r37), (38, r38), (39, r39), (40, r40), (70, r70)]) L := by
  unfold fnX10_arc at hf
  refine mj_aload_n 0 dX10_arc_0 rfl ?_
  obtain ⟨so7, ho7, hf⟩ := mj_bd hf
  refine mj_callVx (st := []) [] hR (cmX10_needStates l G hlt F  _ _ r1 r18 r19 r20 r21 r22 r23 r24 r25 r26 r32 r33 r34 r35 r36 r37 r38 r39 r40 r70 rfl rfl rfl rfl rfl rfl rfl rfl rfl rfl rfl rfl rfl rfl rfl rfl rfl rfl rfl rfl so7 ho7) cw_X10_175 s0_1 a0_1 (by decide) rfl rfl (Nat.le_of_ble_eq_true rfl) ⟨by decide, by decide⟩ dX10_arc_1 (fun E I2 L2 hx => ?_) (fun rv I2 L2 hx => ?_)
  · obtain ⟨eo7, hf, hx⟩ := mj_sxr hf hx
    obtain rfl := Option.some.inj hf
    obtain ⟨hE9, hI9, hL9⟩ := hx
    rw [hE9, hI9, hL9]
    have hZ := mj_er hq
    replace hZ := mj_u2p hZ
    replace hZ := mj_u2p hZ
    replace hZ := mj_u2p hZ
    replace hZ := mj_u2p hZ
    replace hZ := mj_u2p hZ
    replace hZ := mj_u2p hZ
    replace hZ := mj_u2p hZ
    replace hZ := mj_u2p hZ
    replace hZ := mj_u2p hZ
    replace hZ := mj_u2p hZ
    rw [mj_rq (l' := [(1, r1), (18, r18), (19, r19), (20, r20), (21, r21), (22, r22), (23, r23), (24, r24), (25, r25), (26, r26), (32, eo7.2.1), (33, eo7.2.2.1), (34, eo7.2.2.2.1), (35, eo7.2.2.2.2.1), (36, eo7.2.2.2.2.2.1), (37, eo7.2.2.2.2.2.2.1), (38, eo7.2.2.2.2.2.2.2.1), (39, eo7.2.2.2.2.2.2.2.2.1), (40, eo7.2.2.2.2.2.2.2.2.2.1), (70, eo7.2.2.2.2.2.2.2.2.2.2)]) rfl rfl]
    exact hZ
  · obtain ⟨o7, hf, hx⟩ := mj_sxl hf hx
    obtain ⟨hr9, hI9, hL9⟩ := hx
    refine mj_cnv (s1 := []) (I2 := (mj_rows I [(1, r1), (18, r18), (19, r19), (20, r20), (21, r21), (22, r22), (23, r23), (24, r24), (25, r25), (26, r26), (32, o7.1), (33, o7.2.1), (34, o7.2.2.1), (35, o7.2.2.2.1), (36, o7.2.2.2.2.1), (37, o7.2.2.2.2.2.1), (38, o7.2.2.2.2.2.2.1), (39, o7.2.2.2.2.2.2.2.1), (40, o7.2.2.2.2.2.2.2.2.1), (70, o7.2.2.2.2.2.2.2.2.2)])) (L2 := L) (by rw [hr9]; rfl) (hI9.trans (mj_rq rfl rfl)) hL9 ?_
    refine mj_aload_n 0 dX10_arc_4 rfl ?_
    refine mj_iload_n 1 dX10_arc_5 rfl ?_
    obtain ⟨so8, ho8, hf⟩ := mj_bd hf
    refine mj_callVx (st := []) [.int x1] hR (cmX10_needState l G hlt F x1 _ _ o7.1 o7.2.2.2.2.2.2.2.2.2 rfl rfl so8 ho8) cw_X10_178 s0_1 a0_1 (by decide) rfl rfl (Nat.le_of_ble_eq_true rfl) ⟨by decide, by decide⟩ dX10_arc_6 (fun E I2 L2 hx => ?_) (fun rv I2 L2 hx => ?_)
    · obtain ⟨eo8, hf, hx⟩ := mj_sxr hf hx
      obtain rfl := Option.some.inj hf
      obtain ⟨hE9, hI9, hL9⟩ := hx
      rw [hE9, hI9, hL9]
      have hZ := mj_er hq
      replace hZ := mj_u2p hZ
      replace hZ := mj_u2p hZ
      replace hZ := mj_u2p hZ
      replace hZ := mj_u2p hZ
      replace hZ := mj_u2p hZ
      replace hZ := mj_u2p hZ
      replace hZ := mj_u2p hZ
      replace hZ := mj_u2p hZ
      replace hZ := mj_u2p hZ
      replace hZ := mj_u2p hZ
      rw [mj_rq (l' := [(1, r1), (18, r18), (19, r19), (20, r20), (21, r21), (22, r22), (23, r23), (24, r24), (25, r25), (26, r26), (32, o7.1), (33, o7.2.1), (34, o7.2.2.1), (35, o7.2.2.2.1), (36, o7.2.2.2.2.1), (37, o7.2.2.2.2.2.1), (38, o7.2.2.2.2.2.2.1), (39, o7.2.2.2.2.2.2.2.1), (40, o7.2.2.2.2.2.2.2.2.1), (70, eo8.2)]) rfl rfl]
      exact hZ
    · obtain ⟨o8, hf, hx⟩ := mj_sxl hf hx
      obtain ⟨hr9, hI9, hL9⟩ := hx
      refine mj_cnv (s1 := []) (I2 := (mj_rows I [(1, r1), (18, r18), (19, r19), (20, r20), (21, r21), (22, r22), (23, r23), (24, r24), (25, r25), (26, r26), (32, o7.1), (33, o7.2.1), (34, o7.2.2.1), (35, o7.2.2.2.1), (36, o7.2.2.2.2.1), (37, o7.2.2.2.2.2.1), (38, o7.2.2.2.2.2.2.1), (39, o7.2.2.2.2.2.2.2.1), (40, o7.2.2.2.2.2.2.2.2.1), (70, o8)])) (L2 := L) (by rw [hr9]; rfl) (hI9.trans (mj_rq rfl rfl)) hL9 ?_
      refine mj_iload_n 2 dX10_arc_9 rfl ?_
      refine mj_if_lt 25 dX10_arc_10 (by decide) (fun c9 => ?_) (fun c9 => ?_)
      · replace hf := mj_pos c9 hf
        exact jtX10_arc_25 hR hlt F I L r1 r18 r19 r20 r21 r22 r23 r24 r25 r26 o7.1 o7.2.1 o7.2.2.1 o7.2.2.2.1 o7.2.2.2.2.1 o7.2.2.2.2.2.1 o7.2.2.2.2.2.2.1 o7.2.2.2.2.2.2.2.1 o7.2.2.2.2.2.2.2.2.1 o8 x1 x2 x3 o hf hq
      · replace hf := mj_neg c9 hf
        refine mj_iload_n 2 dX10_arc_13 rfl ?_
        refine mj_aload_n 0 dX10_arc_14 rfl ?_
        refine mj_getP p0_1_5 (by decide) fl_X10_37 rfl s0_1 a0_1 dX10_arc_15 ?_
        refine mj_iload_n 1 dX10_arc_18 rfl ?_
        obtain ⟨o10, ho10, hf⟩ := mj_bd hf
        refine mj_callVd (I2 := (mj_rows I [(1, r1), (18, r18), (19, r19), (20, r20), (21, r21), (22, r22), (23, r23), (24, r24), (25, r25), (26, r26), (32, o7.1), (33, o7.2.1), (34, o7.2.2.1), (35, o7.2.2.2.1), (36, o7.2.2.2.2.1), (37, o7.2.2.2.2.2.1), (38, o7.2.2.2.2.2.2.1), (39, o7.2.2.2.2.2.2.2.1), (40, o7.2.2.2.2.2.2.2.2.1), (70, o8)])) (L2 := L) (s1 := [.int o10, .int x2]) (st := [.int x2]) [.int x1] (cmX4_arcsOf X.2.1 G F x1 _ _ o7.2.2.2.2.2.1 rfl o10 ho10) (mj_rq rfl rfl) rfl cw_X10_191 s0_32 a0_32 (by decide) rfl rfl (Nat.le_of_ble_eq_true rfl) (mj_rxc hR ⟨by decide, by decide⟩) dX10_arc_19 rfl ?_
        refine mj_icmp_lt 29 dX10_arc_22 (by decide) (fun c11 => ?_) (fun c11 => ?_)
        · replace hf := mj_pos c11 hf
          refine mj_wid (kc' := 3) (ks' := 18) (by decide) (by decide) ?_
          exact jtX10_arc_29 hR hlt F I L r1 r18 r19 r20 r21 r22 r23 r24 r25 r26 o7.1 o7.2.1 o7.2.2.1 o7.2.2.2.1 o7.2.2.2.2.1 o7.2.2.2.2.2.1 o7.2.2.2.2.2.2.1 o7.2.2.2.2.2.2.2.1 o7.2.2.2.2.2.2.2.2.1 o8 x1 x2 x3 o hf hq
        · replace hf := mj_neg c11 hf
          exact jtX10_arc_25 hR hlt F I L r1 r18 r19 r20 r21 r22 r23 r24 r25 r26 o7.1 o7.2.1 o7.2.2.1 o7.2.2.2.1 o7.2.2.2.2.1 o7.2.2.2.2.2.1 o7.2.2.2.2.2.2.1 o7.2.2.2.2.2.2.2.1 o7.2.2.2.2.2.2.2.2.1 o8 x1 x2 x3 o hf hq
set_option maxRecDepth 100000 in
set_option maxHeartbeats 4000000 in
theorem cmX10_arc (l : Launch) (G : mj_GT) (hlt : l.stackTraces = false) (F : Nat) (x1 : Int32) (x2 : Int32) (x3 : Int32) (I : mj_IT) (L : mj_LT) (r1 : Nat → Int32) (r18 : Nat → Int32) (r19 : Nat → Int32) (r20 : Nat → Int32) (r21 : Nat → Int32) (r22 : Nat → Int32) (r23 : Nat → Int32) (r24 : Nat → Int32) (r25 : Nat → Int32) (r26 : Nat → Int32) (r32 : Nat → Int32) (r33 : Nat → Int32) (r34 : Nat → Int32) (r35 : Nat → Int32) (r36 : Nat → Int32) (r37 : Nat → Int32) (r38 : Nat → Int32) (r39 : Nat → Int32) (r40 : Nat → Int32) (r70 : Nat → Int32) (hr1 : I 1 = r1) (hr18 : I 18 = r18) (hr19 : I 19 = r19) (hr20 : I 20 = r20) (hr21 : I 21 = r21) (hr22 : I 22 = r22) (hr23 : I 23 = r23) (hr24 : I 24 = r24) (hr25 : I 25 = r25) (hr26 : I 26 = r26) (hr32 : I 32 = r32) (hr33 : I 33 = r33) (hr34 : I 34 = r34) (hr35 : I 35 = r35) (hr36 : I 36 = r36) (hr37 : I 37 = r37) (hr38 : I 38 = r38) (hr39 : I 39 = r39) (hr40 : I 40 = r40) (hr70 : I 70 = r70) (o : (((Int32) × (Nat → Int32) × (Nat → Int32) × (Nat → Int32) × (Nat → Int32) × (Nat → Int32) × (Nat → Int32) × (Nat → Int32) × (Nat → Int32) × (Nat → Int32) × (Nat → Int32)) ⊕ ((Nat) × (Nat → Int32) × (Nat → Int32) × (Nat → Int32) × (Nat → Int32) × (Nat → Int32) × (Nat → Int32) × (Nat → Int32) × (Nat → Int32) × (Nat → Int32) × (Nat → Int32)))) (hf : fnX10_arc F r1 r18 r19 r20 r21 r22 r23 r24 r25 r26 r32 r33 r34 r35 r36 r37 r38 r39 r40 r70 x1 x2 x3 = some o) : mj_Mx l G yX10_arc cX10_arc 5 9 (some .int) 4 24 mj_P0 mj_S0 98 [.ref 1, .int x1, .int x2, .int x3] I L (fun rv I2 L2 => Sum.elim (fun o => rv = (some (.int o.1)) ∧ I2 = (mj_rows I [(1, r1), (18, r18), (19, r19), (20, r20), (21, r21), (22, r22), (23, r23), (24, r24), (25, r25), (26, r26), (32, o.2.1), (33, o.2.2.1), (34, o.2.2.2.1), (35, o.2.2.2.2.1), (36, o.2.2.2.2.2.1), (37, o.2.2.2.2.2.2.1), (38, o.2.2.2.2.2.2.2.1), (39, o.2.2.2.2.2.2.2.2.1), (40, o.2.2.2.2.2.2.2.2.2.1), (70, o.2.2.2.2.2.2.2.2.2.2)]) ∧ L2 = L) (fun _ => False) o) (fun E I2 L2 => Sum.elim (fun _ => False) (fun o => E = mj_en o.1 ∧ I2 = (mj_rows I [(1, r1), (18, r18), (19, r19), (20, r20), (21, r21), (22, r22), (23, r23), (24, r24), (25, r25), (26, r26), (32, o.2.1), (33, o.2.2.1), (34, o.2.2.2.1), (35, o.2.2.2.2.1), (36, o.2.2.2.2.2.1), (37, o.2.2.2.2.2.2.1), (38, o.2.2.2.2.2.2.2.1), (39, o.2.2.2.2.2.2.2.2.1), (40, o.2.2.2.2.2.2.2.2.2.1), (70, o.2.2.2.2.2.2.2.2.2.2)]) ∧ L2 = L) o) := by
  refine mj_inx RX10 "arc" [(0, .ref 1), (1, .int x1), (2, .int x2), (3, .int x3)] rfl rfl rfl (by decide) (Nat.le_of_ble_eq_true rfl) (fun X ad hR => ?_)
  refine mj_toI [(1, r1), (18, r18), (19, r19), (20, r20), (21, r21), (22, r22), (23, r23), (24, r24), (25, r25), (26, r26), (32, r32), (33, r33), (34, r34), (35, r35), (36, r36), (37, r37), (38, r38), (39, r39), (40, r40), (70, r70)] (by intro q hq; simp only [List.mem_cons, List.not_mem_nil, or_false] at hq; rcases hq with rfl | rfl | rfl | rfl | rfl | rfl | rfl | rfl | rfl | rfl | rfl | rfl | rfl | rfl | rfl | rfl | rfl | rfl | rfl | rfl <;> assumption) ?_
  refine mtX10_arc hR hlt F I L r1 r18 r19 r20 r21 r22 r23 r24 r25 r26 r32 r33 r34 r35 r36 r37 r38 r39 r40 r70 x1 x2 x3 o hf ?_
  rcases o with o | o
  · refine mj_elq ?_
    obtain ⟨w0, w1, w2, w3, w4, w5, w6, w7, w8, w9, w10⟩ := o
    refine mj_u2q ?_
    refine mj_u2q ?_
    refine mj_u2q ?_
    refine mj_u2q ?_
    refine mj_u2q ?_
    refine mj_u2q ?_
    refine mj_u2q ?_
    refine mj_u2q ?_
    refine mj_u2q ?_
    refine mj_u2q ?_
    refine mj_elq ?_
    exact ⟨rfl, rfl, rfl⟩
  · refine mj_erq ?_
    obtain ⟨w0, w1, w2, w3, w4, w5, w6, w7, w8, w9, w10⟩ := o
    refine mj_u2q ?_
    refine mj_u2q ?_
    refine mj_u2q ?_
    refine mj_u2q ?_
    refine mj_u2q ?_
    refine mj_u2q ?_
    refine mj_u2q ?_
    refine mj_u2q ?_
    refine mj_u2q ?_
    refine mj_u2q ?_
    refine mj_erq ?_
    exact ⟨rfl, rfl, rfl⟩

