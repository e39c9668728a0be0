-- X10_classes
def fnX10_classes (F : Nat) (r1 : Nat → Int32) (r18 : Nat → Int32) (r19 : Nat → Int32) (r20 : Nat → Int32) (r21 : Nat → Int32) (r22 : Nat → Int32) (r23 : Nat → Int32) (r24 : Nat → Int32) (r25 : Nat → Int32) (r26 : Nat → Int32) (r32 : Nat → Int32) (r33 : Nat → Int32) (r34 : Nat → Int32) (r35 : Nat → Int32) (r36 : Nat → Int32) (r37 : Nat → Int32) (r38 : Nat → Int32) (r39 : Nat → Int32) (r40 : Nat → Int32) (r56 : Nat → Int32) (r57 : Nat → Int32) (r58 : Nat → Int32) (r59 : Nat → Int32) (r60 : Nat → Int32) (r61 : Nat → Int32) (r62 : Nat → Int32) (r63 : Nat → Int32) (r64 : Nat → Int32) (r70 : Nat → Int32) (x1 : Int32) : Option (((Int32) × (Nat → Int32) × (Nat → Int32) × (Nat → Int32) × (Nat → Int32) × (Nat → Int32) × (Nat → Int32) × (Nat → Int32) × (Nat → Int32) × (Nat → Int32) × (Nat → Int32) × (Nat → Int32) × (Nat → Int32) × (Nat → Int32) × (Nat → Int32) × (Nat → Int32) × (Nat → Int32) × (Nat → Int32) × (Nat → Int32) × (Nat → Int32)) ⊕ ((Nat) × (Nat → Int32) × (Nat → Int32) × (Nat → Int32) × (Nat → Int32) × (Nat → Int32) × (Nat → Int32) × (Nat → Int32) × (Nat → Int32) × (Nat → Int32) × (Nat → Int32) × (Nat → Int32) × (Nat → Int32) × (Nat → Int32) × (Nat → Int32) × (Nat → Int32) × (Nat → Int32) × (Nat → Int32) × (Nat → Int32) × (Nat → Int32))) := (fnX10_needStates F r1 r18 r19 r20 r21 r22 r23 r24 r25 r26 r32 r33 r34 r35 r36 r37 r38 r39 r40 r70).bind (Sum.elim (fun o1 => (fnX10_needVariable F o1.2.2.2.2.2.2.2.2.2 x1).bind (Sum.elim (fun o2 => (fnX6_find F o1.1 o1.2.1 o1.2.2.1 o1.2.2.2.2.2.1 o1.2.2.2.2.2.2.1 o1.2.2.2.2.2.2.2.1 r56 r57 r58 r59 r60 r61 r62 r63 r64 x1).bind (fun o3 => (fnX6_countBy F o3.2.1 x1).bind (fun o4 => some (.inl (o4, o1.1, o1.2.1, o1.2.2.1, o1.2.2.2.1, o1.2.2.2.2.1, o1.2.2.2.2.2.1, o1.2.2.2.2.2.2.1, o1.2.2.2.2.2.2.2.1, o1.2.2.2.2.2.2.2.2.1, o3.1, o3.2.1, o3.2.2.1, o3.2.2.2.1, o3.2.2.2.2.1, o3.2.2.2.2.2.1, o3.2.2.2.2.2.2.1, o3.2.2.2.2.2.2.2.1, o3.2.2.2.2.2.2.2.2, o2))))) (fun eo2 => some (.inr (eo2.1, o1.1, o1.2.1, o1.2.2.1, o1.2.2.2.1, o1.2.2.2.2.1, o1.2.2.2.2.2.1, o1.2.2.2.2.2.2.1, o1.2.2.2.2.2.2.2.1, o1.2.2.2.2.2.2.2.2.1, r56, r57, r58, r59, r60, r61, r62, r63, r64, eo2.2))))) (fun eo1 => some (.inr (eo1.1, eo1.2.1, eo1.2.2.1, eo1.2.2.2.1, eo1.2.2.2.2.1, eo1.2.2.2.2.2.1, eo1.2.2.2.2.2.2.1, eo1.2.2.2.2.2.2.2.1, eo1.2.2.2.2.2.2.2.2.1, eo1.2.2.2.2.2.2.2.2.2.1, r56, r57, r58, r59, r60, r61, r62, r63, r64, eo1.2.2.2.2.2.2.2.2.2.2))))
set_option maxRecDepth 100000 in
set_option maxHeartbeats 4000000 in
theorem mtX10_classes {X : mj_XT} {l : Launch} {G : mj_GT} {ad : Nat → Nat} {Qn : Option Value → mj_IT → mj_LT → Prop} {Qx : String → mj_IT → mj_LT → Prop} (hR : mj_Rx X l G mj_P0 mj_S0 98 ad 2 12 Qn Qx) (hlt : l.stackTraces = false) (F : Nat) (I : mj_IT) (L : mj_LT) (r1 : Nat → Int32) (r18 : Nat → Int32) (r19 : Nat → Int32) (r20 : Nat → Int32) (r21 : Nat → Int32) (r22 : Nat → Int32) (r23 : Nat → Int32) (r24 : Nat → Int32) (r25 : Nat → Int32) (r26 : Nat → Int32) (r32 : Nat → Int32) (r33 : Nat → Int32) (r34 : Nat → Int32) (r35 : Nat → Int32) (r36 : Nat → Int32) (r37 : Nat → Int32) (r38 : Nat → Int32) (r39 : Nat → Int32) (r40 : Nat → Int32) (r56 : Nat → Int32) (r57 : Nat → Int32) (r58 : Nat → Int32) (r59 : Nat → Int32) (r60 : Nat → Int32) (r61 : Nat → Int32) (r62 : Nat → Int32) (r63 : Nat → Int32) (r64 : Nat → Int32) (r70 : Nat → Int32) (x1 : Int32) (o : (((Int32) × (Nat → Int32) × (Nat → Int32) × (Nat → Int32) × (Nat → Int32) × (Nat → Int32) × (Nat → Int32) × (Nat → Int32) × (Nat → Int32) × (Nat → Int32) × (Nat → Int32) × (Nat → Int32) × (Nat → Int32) × (Nat → Int32) × (Nat → Int32) × (Nat → Int32) × (Nat → Int32) × (Nat → Int32) × (Nat → Int32) × (Nat → Int32)) ⊕ ((Nat) × (Nat → Int32) × (Nat → Int32) × (Nat → Int32) × (Nat → Int32) × (Nat → Int32) × (Nat → Int32) × (Nat → Int32) × (Nat → Int32) × (Nat → Int32) × (Nat → Int32) × (Nat → Int32) × (Nat → Int32) × (Nat → Int32) × (Nat → Int32) × (Nat → Int32) × (Nat → Int32) × (Nat → Int32) × (Nat → Int32) × (Nat → Int32)))) (hf : fnX10_classes F r1 r18 r19 r20 r21 r22 r23 r24 r25 r26 r32 r33 r34 r35 r36 r37 r38 r39 r40 r56 r57 r58 r59 r60 r61 r62 r63 r64 r70 x1 = some o) (hq : (Sum.elim (mj_u2 (fun ov => (mj_u2 (fun r32 => (mj_u2 (fun r33 => (mj_u2 (fun r34 => (mj_u2 (fun r35 => (mj_u2 (fun r36 => (mj_u2 (fun r37 => (mj_u2 (fun r38 => (mj_u2 (fun r39 => (mj_u2 (fun r40 => (mj_u2 (fun r56 => (mj_u2 (fun r57 => (mj_u2 (fun r58 => (mj_u2 (fun r59 => (mj_u2 (fun r60 => (mj_u2 (fun r61 => (mj_u2 (fun r62 => (mj_u2 (fun r63 => (mj_u2 (fun r64 r70 => Qn (some (.int ov)) (mj_rows I [(1, r1), (18, r18), (19, r19), (20, r20), (21, r21), (22, r22), (23, r23), (24, r24), (25, r25), (26, r26), (32, r32), (33, r33), (34, r34), (35, r35), (36, r36), (37, r37), (38, r38), (39, r39), (40, r40), (56, r56), (57, r57), (58, r58), (59, r59), (60, r60), (61, r61), (62, r62), (63, r63), (64, r64), (70, r70)]) L)))))))))))))))))))))))))))))))))))))) (mj_u2 (fun kx => (mj_u2 (fun r32 => (mj_u2 (fun r33 => (mj_u2 (fun r34 => (mj_u2 (fun r35 => (mj_u2 (fun r36 => (mj_u2 (fun r37 => (mj_u2 (fun r38 => (mj_u2 (fun r39 => (mj_u2 (fun r40 => (mj_u2 (fun r56 => (mj_u2 (fun r57 => (mj_u2 (fun r58 => (mj_u2 (fun r59 => (mj_u2 (fun r60 => (mj_u2 (fun r61 => (mj_u2 (fun r62 => (mj_u2 (fun r63 => (mj_u2 (fun r64 r70 => Qx (mj_en kx) (mj_rows I [(1, r1), (18, r18), (19, r19), (20, r20), (21, r21), (22, r22), (23, r23), (24, r24), (25, r25), (26, r26), (32, r32), (33, r33), (34, r34), (35, r35), (36, r36), (37, r37), (38, r38), (39, r39), (40, r40), (56, r56), (57, r57), (58, r58), (59, r59), (60, r60), (61, r61), (62, r62), (63, r63), (64, r64), (70, r70)]) L))))))))))))))))))))))))))))))))))))))) o) : mj_W X G RX10 "classes" cX10_classes 2 9 (some .int) mj_P0 mj_S0 98 ad 0 0 0 [(0, .ref 1), (1, .int x1)] [] (mj_rows I [(1, r1), (18, r18), (19, r19), (20, r20), (21, r21), (22, r22), (23, r23), (24, r24), (25, r25), (26, r26), (32, r32), (33, r33), (34, r34), (35, r35), (36, r36), (37, r37), (38, r38), (39, r39), (40, r40), (56, r56), (57, r57), (58, r58), (59, r59), (60, r60), (61, r61), (62, r62), (63, r63), (64, r64), (70, r70)]) L := by
  unfold fnX10_classes at hf
  refine mj_aload_n 0 dX10_classes_0 rfl ?_
  obtain ⟨so1, ho1, hf⟩ := mj_bd hf
  refine mj_callVx (st := []) [] hR (cmX10_needStates l G hlt F  _ _ r1 r18 r19 r20 r21 r22 r23 r24 r25 r26 r32 r33 r34 r35 r36 r37 r38 r39 r40 r70 rfl rfl rfl rfl rfl rfl rfl rfl rfl rfl rfl rfl rfl rfl rfl rfl rfl rfl rfl rfl so1 ho1) cw_X10_175 s0_1 a0_1 (by decide) rfl rfl (Nat.le_of_ble_eq_true rfl) ⟨by decide, by decide⟩ dX10_classes_1 (fun E I2 L2 hx => ?_) (fun rv I2 L2 hx => ?_)
  · obtain ⟨eo1, hf, hx⟩ := mj_sxr hf hx
    obtain rfl := Option.some.inj hf
    obtain ⟨hE9, hI9, hL9⟩ := hx
    rw [hE9, hI9, hL9]
    have hZ := mj_er hq
    replace hZ := mj_u2p hZ
    replace hZ := mj_u2p hZ
    replace hZ := mj_u2p hZ
    replace hZ := mj_u2p hZ
    replace hZ := mj_u2p hZ
    replace hZ := mj_u2p hZ
    replace hZ := mj_u2p hZ
    replace hZ := mj_u2p hZ
    replace hZ := mj_u2p hZ
    replace hZ := mj_u2p hZ
    replace hZ := mj_u2p hZ
    replace hZ := mj_u2p hZ
    replace hZ := mj_u2p hZ
    replace hZ := mj_u2p hZ
    replace hZ := mj_u2p hZ
    replace hZ := mj_u2p hZ
    replace hZ := mj_u2p hZ
    replace hZ := mj_u2p hZ
    replace hZ := mj_u2p hZ
    rw [mj_rq (l' := [(1, r1), (18, r18), (19, r19), (20, r20), (21, r21), (22, r22), (23, r23), (24, r24), (25, r25), (26, r26), (32, eo1.2.1), (33, eo1.2.2.1), (34, eo1.2.2.2.1), (35, eo1.2.2.2.2.1), (36, eo1.2.2.2.2.2.1), (37, eo1.2.2.2.2.2.2.1), (38, eo1.2.2.2.2.2.2.2.1), (39, eo1.2.2.2.2.2.2.2.2.1), (40, eo1.2.2.2.2.2.2.2.2.2.1), (56, r56), (57, r57), (58, r58), (59, r59), (60, r60), (61, r61), (62, r62), (63, r63), (64, r64), (70, eo1.2.2.2.2.2.2.2.2.2.2)]) rfl rfl]
    exact hZ
  · obtain ⟨o1, hf, hx⟩ := mj_sxl hf hx
    obtain ⟨hr9, hI9, hL9⟩ := hx
    refine mj_cnv (s1 := []) (I2 := (mj_rows I [(1, r1), (18, r18), (19, r19), (20, r20), (21, r21), (22, r22), (23, r23), (24, r24), (25, r25), (26, r26), (32, o1.1), (33, o1.2.1), (34, o1.2.2.1), (35, o1.2.2.2.1), (36, o1.2.2.2.2.1), (37, o1.2.2.2.2.2.1), (38, o1.2.2.2.2.2.2.1), (39, o1.2.2.2.2.2.2.2.1), (40, o1.2.2.2.2.2.2.2.2.1), (56, r56), (57, r57), (58, r58), (59, r59), (60, r60), (61, r61), (62, r62), (63, r63), (64, r64), (70, o1.2.2.2.2.2.2.2.2.2)])) (L2 := L) (by rw [hr9]; rfl) (hI9.trans (mj_rq rfl rfl)) hL9 ?_
    refine mj_aload_n 0 dX10_classes_4 rfl ?_
    refine mj_iload_n 1 dX10_classes_5 rfl ?_
    obtain ⟨so2, ho2, hf⟩ := mj_bd hf
    refine mj_callVx (st := []) [.int x1] hR (cmX10_needVariable l G hlt F x1 _ _ o1.2.2.2.2.2.2.2.2.2 rfl so2 ho2) cw_X10_107 s0_1 a0_1 (by decide) rfl rfl (Nat.le_of_ble_eq_true rfl) ⟨by decide, by decide⟩ dX10_classes_6 (fun E I2 L2 hx => ?_) (fun rv I2 L2 hx => ?_)
    · obtain ⟨eo2, hf, hx⟩ := mj_sxr hf hx
      obtain rfl := Option.some.inj hf
      obtain ⟨hE9, hI9, hL9⟩ := hx
      rw [hE9, hI9, hL9]
      have hZ := mj_er hq
      replace hZ := mj_u2p hZ
      replace hZ := mj_u2p hZ
      replace hZ := mj_u2p hZ
      replace hZ := mj_u2p hZ
      replace hZ := mj_u2p hZ
      replace hZ := mj_u2p hZ
      replace hZ := mj_u2p hZ
      replace hZ := mj_u2p hZ
      replace hZ := mj_u2p hZ
      replace hZ := mj_u2p hZ
      replace hZ := mj_u2p hZ
      replace hZ := mj_u2p hZ
      replace hZ := mj_u2p hZ
      replace hZ := mj_u2p hZ
      replace hZ := mj_u2p hZ
      replace hZ := mj_u2p hZ
      replace hZ := mj_u2p hZ
      replace hZ := mj_u2p hZ
      replace hZ := mj_u2p hZ
      rw [mj_rq (l' := [(1, r1), (18, r18), (19, r19), (20, r20), (21, r21), (22, r22), (23, r23), (24, r24), (25, r25), (26, r26), (32, o1.1), (33, o1.2.1), (34, o1.2.2.1), (35, o1.2.2.2.1), (36, o1.2.2.2.2.1), (37, o1.2.2.2.2.2.1), (38, o1.2.2.2.2.2.2.1), (39, o1.2.2.2.2.2.2.2.1), (40, o1.2.2.2.2.2.2.2.2.1), (56, r56), (57, r57), (58, r58), (59, r59), (60, r60), (61, r61), (62, r62), (63, r63), (64, r64), (70, eo2.2)]) rfl rfl]
      exact hZ
    · obtain ⟨o2, hf, hx⟩ := mj_sxl hf hx
      obtain ⟨hr9, hI9, hL9⟩ := hx
      refine mj_cnv (s1 := []) (I2 := (mj_rows I [(1, r1), (18, r18), (19, r19), (20, r20), (21, r21), (22, r22), (23, r23), (24, r24), (25, r25), (26, r26), (32, o1.1), (33, o1.2.1), (34, o1.2.2.1), (35, o1.2.2.2.1), (36, o1.2.2.2.2.1), (37, o1.2.2.2.2.2.1), (38, o1.2.2.2.2.2.2.1), (39, o1.2.2.2.2.2.2.2.1), (40, o1.2.2.2.2.2.2.2.2.1), (56, r56), (57, r57), (58, r58), (59, r59), (60, r60), (61, r61), (62, r62), (63, r63), (64, r64), (70, o2)])) (L2 := L) (by rw [hr9]; rfl) (hI9.trans (mj_rq rfl rfl)) hL9 ?_
      refine mj_aload_n 0 dX10_classes_9 rfl ?_
      refine mj_getP p0_1_8 (by decide) fl_X10_58 rfl s0_1 a0_1 dX10_classes_10 ?_
      refine mj_aload_n 0 dX10_classes_13 rfl ?_
      refine mj_getP p0_1_5 (by decide) fl_X10_37 rfl s0_1 a0_1 dX10_classes_14 ?_
      refine mj_iload_n 1 dX10_classes_17 rfl ?_
      obtain ⟨o3, ho3, hf⟩ := mj_bd hf
      refine mj_callVd (I2 := (mj_rows I [(1, r1), (18, r18), (19, r19), (20, r20), (21, r21), (22, r22), (23, r23), (24, r24), (25, r25), (26, r26), (32, o1.1), (33, o1.2.1), (34, o1.2.2.1), (35, o1.2.2.2.1), (36, o1.2.2.2.2.1), (37, o1.2.2.2.2.2.1), (38, o1.2.2.2.2.2.2.1), (39, o1.2.2.2.2.2.2.2.1), (40, o1.2.2.2.2.2.2.2.2.1), (56, o3.1), (57, o3.2.1), (58, o3.2.2.1), (59, o3.2.2.2.1), (60, o3.2.2.2.2.1), (61, o3.2.2.2.2.2.1), (62, o3.2.2.2.2.2.2.1), (63, o3.2.2.2.2.2.2.2.1), (64, o3.2.2.2.2.2.2.2.2), (70, o2)])) (L2 := L) (s1 := []) (st := []) [.ref 32, .int x1] (cmX6_find X.2.1 G F x1 _ _ o1.1 o1.2.1 o1.2.2.1 o1.2.2.2.2.2.1 o1.2.2.2.2.2.2.1 o1.2.2.2.2.2.2.2.1 r56 r57 r58 r59 r60 r61 r62 r63 r64 rfl rfl rfl rfl rfl rfl rfl rfl rfl rfl rfl rfl rfl rfl rfl o3 ho3) (mj_rq rfl rfl) rfl cw_X10_260 s0_55 a0_55 (by decide) rfl rfl (Nat.le_of_ble_eq_true rfl) (mj_rxc hR ⟨by decide, by decide⟩) dX10_classes_18 rfl ?_
      refine mj_aload_n 0 dX10_classes_21 rfl ?_
      refine mj_getP p0_1_8 (by decide) fl_X10_58 rfl s0_1 a0_1 dX10_classes_22 ?_
      refine mj_iload_n 1 dX10_classes_25 rfl ?_
      obtain ⟨o4, ho4, hf⟩ := mj_bd hf
      refine mj_callVd (I2 := (mj_rows I [(1, r1), (18, r18), (19, r19), (20, r20), (21, r21), (22, r22), (23, r23), (24, r24), (25, r25), (26, r26), (32, o1.1), (33, o1.2.1), (34, o1.2.2.1), (35, o1.2.2.2.1), (36, o1.2.2.2.2.1), (37, o1.2.2.2.2.2.1), (38, o1.2.2.2.2.2.2.1), (39, o1.2.2.2.2.2.2.2.1), (40, o1.2.2.2.2.2.2.2.2.1), (56, o3.1), (57, o3.2.1), (58, o3.2.2.1), (59, o3.2.2.2.1), (60, o3.2.2.2.2.1), (61, o3.2.2.2.2.2.1), (62, o3.2.2.2.2.2.2.1), (63, o3.2.2.2.2.2.2.2.1), (64, o3.2.2.2.2.2.2.2.2), (70, o2)])) (L2 := L) (s1 := [.int o4]) (st := []) [.int x1] (cmX6_countBy X.2.1 G F x1 _ _ o3.2.1 rfl o4 ho4) (mj_rq rfl rfl) rfl cw_X10_264 s0_55 a0_55 (by decide) rfl rfl (Nat.le_of_ble_eq_true rfl) (mj_rxc hR ⟨by decide, by decide⟩) dX10_classes_26 rfl ?_
      obtain rfl := Option.some.inj hf
      have hZ := mj_el hq
      replace hZ := mj_u2p hZ
      replace hZ := mj_u2p hZ
      replace hZ := mj_u2p hZ
      replace hZ := mj_u2p hZ
      replace hZ := mj_u2p hZ
      replace hZ := mj_u2p hZ
      replace hZ := mj_u2p hZ
      replace hZ := mj_u2p hZ
      replace hZ := mj_u2p hZ
      replace hZ := mj_u2p hZ
      replace hZ := mj_u2p hZ
      replace hZ := mj_u2p hZ
      replace hZ := mj_u2p hZ
      replace hZ := mj_u2p hZ
      replace hZ := mj_u2p hZ
      replace hZ := mj_u2p hZ
      replace hZ := mj_u2p hZ
      replace hZ := mj_u2p hZ
      replace hZ := mj_u2p hZ
      exact mj_iretx hR ⟨by decide, by decide⟩ rfl rfl dX10_classes_29 hZ
set_option maxRecDepth 100000 in
set_option maxHeartbeats 4000000 in
theorem cmX10_classes (l : Launch) (G : mj_GT) (hlt : l.stackTraces = false) (F : Nat) (x1 : Int32) (I : mj_IT) (L : mj_LT) (r1 : Nat → Int32) (r18 : Nat → Int32) (r19 : Nat → Int32) (r20 : Nat → Int32) (r21 : Nat → Int32) (r22 : Nat → Int32) (r23 : Nat → Int32) (r24 : Nat → Int32) (r25 : Nat → Int32) (r26 : Nat → Int32) (r32 : Nat → Int32) (r33 : Nat → Int32) (r34 : Nat → Int32) (r35 : Nat → Int32) (r36 : Nat → Int32) (r37 : Nat → Int32) (r38 : Nat → Int32) (r39 : Nat → Int32) (r40 : Nat → Int32) (r56 : Nat → Int32) (r57 : Nat → Int32) (r58 : Nat → Int32) (r59 : Nat → Int32) (r60 : Nat → Int32) (r61 : Nat → Int32) (r62 : Nat → Int32) (r63 : Nat → Int32) (r64 : Nat → Int32) (r70 : Nat → Int32) (hr1 : I 1 = r1) (hr18 : I 18 = r18) (hr19 : I 19 = r19) (hr20 : I 20 = r20) (hr21 : I 21 = r21) (hr22 : I 22 = r22) (hr23 : I 23 = r23) (hr24 : I 24 = r24) (hr25 : I 25 = r25) (hr26 : I 26 = r26) (hr32 : I 32 = r32) (hr33 : I 33 = r33) (hr34 : I 34 = r34) (hr35 : I 35 = r35) (hr36 : I 36 = r36) (hr37 : I 37 = r37) (hr38 : I 38 = r38) (hr39 : I 39 = r39) (hr40 : I 40 = r40) (hr56 : I 56 = r56) (hr57 : I 57 = r57) (hr58 : I 58 = r58) (hr59 : I 59 = r59) (hr60 : I 60 = r60) (hr61 : I 61 = r61) (hr62 : I 62 = r62) (hr63 : I 63 = r63) (hr64 : I 64 = r64) (hr70 : I 70 = r70) (o : (((Int32) × (Nat → Int32) × (Nat → Int32) × (Nat → Int32) × (Nat → Int32) × (Nat → Int32) × (Nat → Int32) × (Nat → Int32) × (Nat → Int32) × (Nat → Int32) × (Nat → Int32) × (Nat → Int32) × (Nat → Int32) × (Nat → Int32) × (Nat → Int32) × (Nat → Int32) × (Nat → Int32) × (Nat → Int32) × (Nat → Int32) × (Nat → Int32)) ⊕ ((Nat) × (Nat → Int32) × (Nat → Int32) × (Nat → Int32) × (Nat → Int32) × (Nat → Int32) × (Nat → Int32) × (Nat → Int32) × (Nat → Int32) × (Nat → Int32) × (Nat → Int32) × (Nat → Int32) × (Nat → Int32) × (Nat → Int32) × (Nat → Int32) × (Nat → Int32) × (Nat → Int32) × (Nat → Int32) × (Nat → Int32) × (Nat → Int32)))) (hf : fnX10_classes F r1 r18 r19 r20 r21 r22 r23 r24 r25 r26 r32 r33 r34 r35 r36 r37 r38 r39 r40 r56 r57 r58 r59 r60 r61 r62 r63 r64 r70 x1 = some o) : mj_Mx l G yX10_classes cX10_classes 2 9 (some .int) 2 12 mj_P0 mj_S0 98 [.ref 1, .int x1] I L (fun rv I2 L2 => Sum.elim (fun o => rv = (some (.int o.1)) ∧ I2 = (mj_rows I [(1, r1), (18, r18), (19, r19), (20, r20), (21, r21), (22, r22), (23, r23), (24, r24), (25, r25), (26, r26), (32, o.2.1), (33, o.2.2.1), (34, o.2.2.2.1), (35, o.2.2.2.2.1), (36, o.2.2.2.2.2.1), (37, o.2.2.2.2.2.2.1), (38, o.2.2.2.2.2.2.2.1), (39, o.2.2.2.2.2.2.2.2.1), (40, o.2.2.2.2.2.2.2.2.2.1), (56, o.2.2.2.2.2.2.2.2.2.2.1), (57, o.2.2.2.2.2.2.2.2.2.2.2.1), (58, o.2.2.2.2.2.2.2.2.2.2.2.2.1), (59, o.2.2.2.2.2.2.2.2.2.2.2.2.2.1), (60, o.2.2.2.2.2.2.2.2.2.2.2.2.2.2.1), (61, o.2.2.2.2.2.2.2.2.2.2.2.2.2.2.2.1), (62, o.2.2.2.2.2.2.2.2.2.2.2.2.2.2.2.2.1), (63, o.2.2.2.2.2.2.2.2.2.2.2.2.2.2.2.2.2.1), (64, o.2.2.2.2.2.2.2.2.2.2.2.2.2.2.2.2.2.2.1), (70, o.2.2.2.2.2.2.2.2.2.2.2.2.2.2.2.2.2.2.2)]) ∧ L2 = L) (fun _ => False) o) (fun E I2 L2 => Sum.elim (fun _ => False) (fun o => E = mj_en o.1 ∧ I2 = (mj_rows I [(1, r1), (18, r18), (19, r19), (20, r20), (21, r21), (22, r22), (23, r23), (24, r24), (25, r25), (26, r26), (32, o.2.1), (33, o.2.2.1), (34, o.2.2.2.1), (35, o.2.2.2.2.1), (36, o.2.2.2.2.2.1), (37, o.2.2.2.2.2.2.1), (38, o.2.2.2.2.2.2.2.1), (39, o.2.2.2.2.2.2.2.2.1), (40, o.2.2.2.2.2.2.2.2.2.1), (56, o.2.2.2.2.2.2.2.2.2.2.1), (57, o.2.2.2.2.2.2.2.2.2.2.2.1), (58, o.2.2.2.2.2.2.2.2.2.2.2.2.1), (59, o.2.2.2.2.2.2.2.2.2.2.2.2.2.1), (60, o.2.2.2.2.2.2.2.2.2.2.2.2.2.2.1), (61, o.2.2.2.2.2.2.2.2.2.2.2.2.2.2.2.1), (62, o.2.2.2.2.2.2.2.2.2.2.2.2.2.2.2.2.1), (63, o.2.2.2.2.2.2.2.2.2.2.2.2.2.2.2.2.2.1), (64, o.2.2.2.2.2.2.2.2.2.2.2.2.2.2.2.2.2.2.1), (70, o.2.2.2.2.2.2.2.2.2.2.2.2.2.2.2.2.2.2.2)]) ∧ L2 = L) o) := by
  refine mj_inx RX10 "classes" [(0, .ref 1), (1, .int x1)] rfl rfl rfl (by decide) (Nat.le_of_ble_eq_true rfl) (fun X ad hR => ?_)
  refine mj_toI [(1, r1), (18, r18), (19, r19), (20, r20), (21, r21), (22, r22), (23, r23), (24, r24), (25, r25), (26, r26), (32, r32), (33, r33), (34, r34), (35, r35), (36, r36), (37, r37), (38, r38), (39, r39), (40, r40), (56, r56), (57, r57), (58, r58), (59, r59), (60, r60), (61, r61), (62, r62), (63, r63), (64, r64), (70, r70)] (by intro q hq; simp only [List.mem_cons, List.not_mem_nil, or_false] at hq; rcases hq with rfl | rfl | rfl | rfl | rfl | rfl | rfl | rfl | rfl | rfl | rfl | rfl | rfl | rfl | rfl | rfl | rfl | rfl | rfl | rfl | rfl | rfl | rfl | rfl | rfl | rfl | rfl | rfl | rfl <;> assumption) ?_
  refine mtX10_classes hR hlt F I L r1 r18 r19 r20 r21 r22 r23 r24 r25 r26 r32 r33 r34 r35 r36 r37 r38 r39 r40 r56 r57 r58 r59 r60 r61 r62 r63 r64 r70 x1 o hf ?_
  rcases o with o | o
  · refine mj_elq ?_
    obtain ⟨w0, w1, w2, w3, w4, w5, w6, w7, w8, w9, w10, w11, w12, w13, w14, w15, w16, w17, w18, w19⟩ := o
    refine mj_u2q ?_
    refine mj_u2q ?_
    refine mj_u2q ?_
    refine mj_u2q ?_
    refine mj_u2q ?_
    refine mj_u2q ?_
    refine mj_u2q ?_
    refine mj_u2q ?_
    refine mj_u2q ?_
    refine mj_u2q ?_
    refine mj_u2q ?_
    refine mj_u2q ?_
    refine mj_u2q ?_
    refine mj_u2q ?_
    refine mj_u2q ?_
    refine mj_u2q ?_
    refine mj_u2q ?_
    refine mj_u2q ?_
    refine mj_u2q ?_
    refine mj_elq ?_
    exact ⟨rfl, rfl, rfl⟩
  · refine mj_erq ?_
    obtain ⟨w0, w1, w2, w3, w4, w5, w6, w7, w8, w9, w10, w11, w12, w13, w14, w15, w16, w17, w18, w19⟩ := o
    refine mj_u2q ?_
    refine mj_u2q ?_
    refine mj_u2q ?_
    refine mj_u2q ?_
    refine mj_u2q ?_
    refine mj_u2q ?_
    refine mj_u2q ?_
    refine mj_u2q ?_
    refine mj_u2q ?_
    refine mj_u2q ?_
    refine mj_u2q ?_
    refine mj_u2q ?_
    refine mj_u2q ?_
    refine mj_u2q ?_
    refine mj_u2q ?_
    refine mj_u2q ?_
    refine mj_u2q ?_
    refine mj_u2q ?_
    refine mj_u2q ?_
    refine mj_erq ?_
    exact ⟨rfl, rfl, rfl⟩

