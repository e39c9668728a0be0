-- X10_worth
def fnX10_worth (F : Nat) (r1 : Nat → Int32) (r18 : Nat → Int32) (r19 : Nat → Int32) (r20 : Nat → Int32) (r21 : Nat → Int32) (r22 : Nat → Int32) (r23 : Nat → Int32) (r24 : Nat → Int32) (r25 : Nat → Int32) (r26 : Nat → Int32) (r32 : Nat → Int32) (r33 : Nat → Int32) (r34 : Nat → Int32) (r35 : Nat → Int32) (r36 : Nat → Int32) (r37 : Nat → Int32) (r38 : Nat → Int32) (r39 : Nat → Int32) (r40 : Nat → Int32) (r65 : Nat → Int32) (r66 : Nat → Int32) (r67 : Nat → Int32) (r69 : Nat → Int32) (r70 : Nat → Int32) (q65 : Nat → Int64) (q68 : Nat → Int64) : Option (((Int64) × (Nat → Int32) × (Nat → Int32) × (Nat → Int32) × (Nat → Int32) × (Nat → Int32) × (Nat → Int32) × (Nat → Int32) × (Nat → Int32) × (Nat → Int32) × (Nat → Int32) × (Nat → Int32) × (Nat → Int32) × (Nat → Int32) × (Nat → Int32) × (Nat → Int64) × (Nat → Int64)) ⊕ ((Nat) × (Nat → Int32) × (Nat → Int32) × (Nat → Int32) × (Nat → Int32) × (Nat → Int32) × (Nat → Int32) × (Nat → Int32) × (Nat → Int32) × (Nat → Int32) × (Nat → Int32) × (Nat → Int32) × (Nat → Int32) × (Nat → Int32) × (Nat → Int32) × (Nat → Int64) × (Nat → Int64))) := (fnX10_needStates F r1 r18 r19 r20 r21 r22 r23 r24 r25 r26 r32 r33 r34 r35 r36 r37 r38 r39 r40 r70).bind (Sum.elim (fun o1 => (fnX5_find F r18 r19 r21 o1.1 o1.2.1 o1.2.2.2.2.2.1 o1.2.2.2.2.2.2.1 o1.2.2.2.2.2.2.2.1 r65 r66 r67 r69 q65 q68).bind (fun o2 => (fnX5_exists F o2.2.2.2.2.1).bind (fun o3 => (if o3 = 0 then some (.inl ((-1 : Int64), o1.1, o1.2.1, o1.2.2.1, o1.2.2.2.1, o1.2.2.2.2.1, o1.2.2.2.2.2.1, o1.2.2.2.2.2.2.1, o1.2.2.2.2.2.2.2.1, o1.2.2.2.2.2.2.2.2.1, o2.1, o2.2.1, o2.2.2.1, o2.2.2.2.1, o1.2.2.2.2.2.2.2.2.2, o2.2.2.2.2.1, o2.2.2.2.2.2)) else some (.inl ((o2.2.2.2.2.1 1), o1.1, o1.2.1, o1.2.2.1, o1.2.2.2.1, o1.2.2.2.2.1, o1.2.2.2.2.2.1, o1.2.2.2.2.2.2.1, o1.2.2.2.2.2.2.2.1, o1.2.2.2.2.2.2.2.2.1, o2.1, o2.2.1, o2.2.2.1, o2.2.2.2.1, o1.2.2.2.2.2.2.2.2.2, o2.2.2.2.2.1, o2.2.2.2.2.2)))))) (fun eo1 => some (.inr (eo1.1, eo1.2.1, eo1.2.2.1, eo1.2.2.2.1, eo1.2.2.2.2.1, eo1.2.2.2.2.2.1, eo1.2.2.2.2.2.2.1, eo1.2.2.2.2.2.2.2.1, eo1.2.2.2.2.2.2.2.2.1, eo1.2.2.2.2.2.2.2.2.2.1, r65, r66, r67, r69, eo1.2.2.2.2.2.2.2.2.2.2, q65, q68))))
set_option maxRecDepth 100000 in
set_option maxHeartbeats 4000000 in
theorem mtX10_worth {X : mj_XT} {l : Launch} {G : mj_GT} {ad : Nat → Nat} {Qn : Option Value → mj_IT → mj_LT → Prop} {Qx : String → mj_IT → mj_LT → Prop} (hR : mj_Rx X l G mj_P0 mj_S0 98 ad 1 6 Qn Qx) (hlt : l.stackTraces = false) (F : Nat) (I : mj_IT) (L : mj_LT) (r1 : Nat → Int32) (r18 : Nat → Int32) (r19 : Nat → Int32) (r20 : Nat → Int32) (r21 : Nat → Int32) (r22 : Nat → Int32) (r23 : Nat → Int32) (r24 : Nat → Int32) (r25 : Nat → Int32) (r26 : Nat → Int32) (r32 : Nat → Int32) (r33 : Nat → Int32) (r34 : Nat → Int32) (r35 : Nat → Int32) (r36 : Nat → Int32) (r37 : Nat → Int32) (r38 : Nat → Int32) (r39 : Nat → Int32) (r40 : Nat → Int32) (r65 : Nat → Int32) (r66 : Nat → Int32) (r67 : Nat → Int32) (r69 : Nat → Int32) (r70 : Nat → Int32) (q65 : Nat → Int64) (q68 : Nat → Int64) (o : (((Int64) × (Nat → Int32) × (Nat → Int32) × (Nat → Int32) × (Nat → Int32) × (Nat → Int32) × (Nat → Int32) × (Nat → Int32) × (Nat → Int32) × (Nat → Int32) × (Nat → Int32) × (Nat → Int32) × (Nat → Int32) × (Nat → Int32) × (Nat → Int32) × (Nat → Int64) × (Nat → Int64)) ⊕ ((Nat) × (Nat → Int32) × (Nat → Int32) × (Nat → Int32) × (Nat → Int32) × (Nat → Int32) × (Nat → Int32) × (Nat → Int32) × (Nat → Int32) × (Nat → Int32) × (Nat → Int32) × (Nat → Int32) × (Nat → Int32) × (Nat → Int32) × (Nat → Int32) × (Nat → Int64) × (Nat → Int64)))) (hf : fnX10_worth F r1 r18 r19 r20 r21 r22 r23 r24 r25 r26 r32 r33 r34 r35 r36 r37 r38 r39 r40 r65 r66 r67 r69 r70 q65 q68 = some o) (hq : (Sum.elim (mj_u2 (fun ov => (mj_u2 (fun r32 => (mj_u2 (fun r33 => (mj_u2 (fun r34 => (mj_u2 (fun r35 => (mj_u2 (fun r36 => (mj_u2 (fun r37 => (mj_u2 (fun r38 => (mj_u2 (fun r39 => (mj_u2 (fun r40 => (mj_u2 (fun r65 => (mj_u2 (fun r66 => (mj_u2 (fun r67 => (mj_u2 (fun r69 => (mj_u2 (fun r70 => (mj_u2 (fun q65 q68 => Qn (some (.long ov)) (mj_rows I [(1, r1), (18, r18), (19, r19), (20, r20), (21, r21), (22, r22), (23, r23), (24, r24), (25, r25), (26, r26), (32, r32), (33, r33), (34, r34), (35, r35), (36, r36), (37, r37), (38, r38), (39, r39), (40, r40), (65, r65), (66, r66), (67, r67), (69, r69), (70, r70)]) (mj_rows L [(65, q65), (68, q68)]))))))))))))))))))))))))))))))))) (mj_u2 (fun kx => (mj_u2 (fun r32 => (mj_u2 (fun r33 => (mj_u2 (fun r34 => (mj_u2 (fun r35 => (mj_u2 (fun r36 => (mj_u2 (fun r37 => (mj_u2 (fun r38 => (mj_u2 (fun r39 => (mj_u2 (fun r40 => (mj_u2 (fun r65 => (mj_u2 (fun r66 => (mj_u2 (fun r67 => (mj_u2 (fun r69 => (mj_u2 (fun r70 => (mj_u2 (fun q65 q68 => Qx (mj_en kx) (mj_rows I [(1, r1), (18, r18), (19, r19), (20, r20), (21, r21), (22, r22), (23, r23), (24, r24), (25, r25), (26, r26), (32, r32), (33, r33), (34, r34), (35, r35), (36, r36), (37, r37), (38, r38), (39, r39), (40, r40), (65, r65), (66, r66), (67, r67), (69, r69), (70, r70)]) (mj_rows L [(65, q65), (68, q68)])))))))))))))))))))))))))))))))))) o) : mj_W X G RX10 "worth" cX10_worth 1 9 (some .long) mj_P0 mj_S0 98 ad 0 0 0 [(0, .ref 1)] [] (mj_rows I [(1, r1), (18, r18), (19, r19), (20, r20), (21, r21), (22, r22), (23, r23), (24, r24), (25, r25), (26, r26), (32, r32), (33, r33), (34, r34), (35, r35), (36, r36), (37, r37), (38, r38), (39, r39), (40, r40), (65, r65), (66, r66), (67, r67), (69, r69), (70, r70)]) (mj_rows L [(65, q65), (68, q68)]) := by
  unfold fnX10_worth at hf
  refine mj_aload_n 0 dX10_worth_0 rfl ?_
  obtain ⟨so1, ho1, hf⟩ := mj_bd hf
  refine mj_callVx (st := []) [] hR (cmX10_needStates l G hlt F  _ _ r1 r18 r19 r20 r21 r22 r23 r24 r25 r26 r32 r33 r34 r35 r36 r37 r38 r39 r40 r70 rfl rfl rfl rfl rfl rfl rfl rfl rfl rfl rfl rfl rfl rfl rfl rfl rfl rfl rfl rfl so1 ho1) cw_X10_175 s0_1 a0_1 (by decide) rfl rfl (Nat.le_of_ble_eq_true rfl) ⟨by decide, by decide⟩ dX10_worth_1 (fun E I2 L2 hx => ?_) (fun rv I2 L2 hx => ?_)
  · obtain ⟨eo1, hf, hx⟩ := mj_sxr hf hx
    obtain rfl := Option.some.inj hf
    obtain ⟨hE9, hI9, hL9⟩ := hx
    rw [hE9, hI9, hL9]
    have hZ := mj_er hq
    replace hZ := mj_u2p hZ
    replace hZ := mj_u2p hZ
    replace hZ := mj_u2p hZ
    replace hZ := mj_u2p hZ
    replace hZ := mj_u2p hZ
    replace hZ := mj_u2p hZ
    replace hZ := mj_u2p hZ
    replace hZ := mj_u2p hZ
    replace hZ := mj_u2p hZ
    replace hZ := mj_u2p hZ
    replace hZ := mj_u2p hZ
    replace hZ := mj_u2p hZ
    replace hZ := mj_u2p hZ
    replace hZ := mj_u2p hZ
    replace hZ := mj_u2p hZ
    replace hZ := mj_u2p hZ
    rw [mj_rq (l' := [(1, r1), (18, r18), (19, r19), (20, r20), (21, r21), (22, r22), (23, r23), (24, r24), (25, r25), (26, r26), (32, eo1.2.1), (33, eo1.2.2.1), (34, eo1.2.2.2.1), (35, eo1.2.2.2.2.1), (36, eo1.2.2.2.2.2.1), (37, eo1.2.2.2.2.2.2.1), (38, eo1.2.2.2.2.2.2.2.1), (39, eo1.2.2.2.2.2.2.2.2.1), (40, eo1.2.2.2.2.2.2.2.2.2.1), (65, r65), (66, r66), (67, r67), (69, r69), (70, eo1.2.2.2.2.2.2.2.2.2.2)]) rfl rfl]
    exact hZ
  · obtain ⟨o1, hf, hx⟩ := mj_sxl hf hx
    obtain ⟨hr9, hI9, hL9⟩ := hx
    refine mj_cnv (s1 := []) (I2 := (mj_rows I [(1, r1), (18, r18), (19, r19), (20, r20), (21, r21), (22, r22), (23, r23), (24, r24), (25, r25), (26, r26), (32, o1.1), (33, o1.2.1), (34, o1.2.2.1), (35, o1.2.2.2.1), (36, o1.2.2.2.2.1), (37, o1.2.2.2.2.2.1), (38, o1.2.2.2.2.2.2.1), (39, o1.2.2.2.2.2.2.2.1), (40, o1.2.2.2.2.2.2.2.2.1), (65, r65), (66, r66), (67, r67), (69, r69), (70, o1.2.2.2.2.2.2.2.2.2)])) (L2 := (mj_rows L [(65, q65), (68, q68)])) (by rw [hr9]; rfl) (hI9.trans (mj_rq rfl rfl)) hL9 ?_
    refine mj_aload_n 0 dX10_worth_4 rfl ?_
    refine mj_getP p0_1_9 (by decide) fl_X10_65 rfl s0_1 a0_1 dX10_worth_5 ?_
    refine mj_aload_n 0 dX10_worth_8 rfl ?_
    refine mj_getP p0_1_5 (by decide) fl_X10_37 rfl s0_1 a0_1 dX10_worth_9 ?_
    refine mj_aload_n 0 dX10_worth_12 rfl ?_
    refine mj_getP p0_1_2 (by decide) fl_X10_23 rfl s0_1 a0_1 dX10_worth_13 ?_
    obtain ⟨o2, ho2, hf⟩ := mj_bd hf
    refine mj_callVd (I2 := (mj_rows I [(1, r1), (18, r18), (19, r19), (20, r20), (21, r21), (22, r22), (23, r23), (24, r24), (25, r25), (26, r26), (32, o1.1), (33, o1.2.1), (34, o1.2.2.1), (35, o1.2.2.2.1), (36, o1.2.2.2.2.1), (37, o1.2.2.2.2.2.1), (38, o1.2.2.2.2.2.2.1), (39, o1.2.2.2.2.2.2.2.1), (40, o1.2.2.2.2.2.2.2.2.1), (65, o2.1), (66, o2.2.1), (67, o2.2.2.1), (69, o2.2.2.2.1), (70, o1.2.2.2.2.2.2.2.2.2)])) (L2 := (mj_rows L [(65, o2.2.2.2.2.1), (68, o2.2.2.2.2.2)])) (s1 := []) (st := []) [.ref 32, .ref 18] (cmX5_find X.2.1 G F  _ _ r18 r19 r21 o1.1 o1.2.1 o1.2.2.2.2.2.1 o1.2.2.2.2.2.2.1 o1.2.2.2.2.2.2.2.1 r65 r66 r67 r69 q65 q68 rfl rfl rfl rfl rfl rfl rfl rfl rfl rfl rfl rfl rfl rfl o2 ho2) (mj_rq rfl rfl) (mj_rq rfl rfl) cw_X10_270 s0_65 a0_65 (by decide) rfl rfl (Nat.le_of_ble_eq_true rfl) (mj_rxc hR ⟨by decide, by decide⟩) dX10_worth_16 rfl ?_
    refine mj_aload_n 0 dX10_worth_19 rfl ?_
    refine mj_getP p0_1_9 (by decide) fl_X10_65 rfl s0_1 a0_1 dX10_worth_20 ?_
    obtain ⟨o3, ho3, hf⟩ := mj_bd hf
    refine mj_callVd (I2 := (mj_rows I [(1, r1), (18, r18), (19, r19), (20, r20), (21, r21), (22, r22), (23, r23), (24, r24), (25, r25), (26, r26), (32, o1.1), (33, o1.2.1), (34, o1.2.2.1), (35, o1.2.2.2.1), (36, o1.2.2.2.2.1), (37, o1.2.2.2.2.2.1), (38, o1.2.2.2.2.2.2.1), (39, o1.2.2.2.2.2.2.2.1), (40, o1.2.2.2.2.2.2.2.2.1), (65, o2.1), (66, o2.2.1), (67, o2.2.2.1), (69, o2.2.2.2.1), (70, o1.2.2.2.2.2.2.2.2.2)])) (L2 := (mj_rows L [(65, o2.2.2.2.2.1), (68, o2.2.2.2.2.2)])) (s1 := [.int o3]) (st := []) [] (cmX5_exists X.2.1 G F  _ _ o2.2.2.2.2.1 rfl o3 ho3) rfl (mj_rq rfl rfl) cw_X10_273 s0_65 a0_65 (by decide) rfl rfl (Nat.le_of_ble_eq_true rfl) (mj_rxc hR ⟨by decide, by decide⟩) dX10_worth_23 rfl ?_
    refine mj_if_eq 39 dX10_worth_26 (by decide) (fun c4 => ?_) (fun c4 => ?_)
    · replace hf := mj_pos c4 hf
      refine mj_ldc2 kk_X10_285 dX10_worth_39 ?_
      obtain rfl := Option.some.inj hf
      have hZ := mj_el hq
      replace hZ := mj_u2p hZ
      replace hZ := mj_u2p hZ
      replace hZ := mj_u2p hZ
      replace hZ := mj_u2p hZ
      replace hZ := mj_u2p hZ
      replace hZ := mj_u2p hZ
      replace hZ := mj_u2p hZ
      replace hZ := mj_u2p hZ
      replace hZ := mj_u2p hZ
      replace hZ := mj_u2p hZ
      replace hZ := mj_u2p hZ
      replace hZ := mj_u2p hZ
      replace hZ := mj_u2p hZ
      replace hZ := mj_u2p hZ
      replace hZ := mj_u2p hZ
      replace hZ := mj_u2p hZ
      exact mj_lretx hR ⟨by decide, by decide⟩ rfl dX10_worth_42 hZ
    · replace hf := mj_neg c4 hf
      refine mj_aload_n 0 dX10_worth_29 rfl ?_
      refine mj_getP p0_1_9 (by decide) fl_X10_65 rfl s0_1 a0_1 dX10_worth_30 ?_
      refine mj_getLv (v := (o2.2.2.2.2.1 1)) rfl fl_X10_281 rfl s0_65 a0_65 dX10_worth_33 ?_
      refine mj_goto 42 dX10_worth_36 (by decide) ?_
      obtain rfl := Option.some.inj hf
      have hZ := mj_el hq
      replace hZ := mj_u2p hZ
      replace hZ := mj_u2p hZ
      replace hZ := mj_u2p hZ
      replace hZ := mj_u2p hZ
      replace hZ := mj_u2p hZ
      replace hZ := mj_u2p hZ
      replace hZ := mj_u2p hZ
      replace hZ := mj_u2p hZ
      replace hZ := mj_u2p hZ
      replace hZ := mj_u2p hZ
      replace hZ := mj_u2p hZ
      replace hZ := mj_u2p hZ
      replace hZ := mj_u2p hZ
      replace hZ := mj_u2p hZ
      replace hZ := mj_u2p hZ
      replace hZ := mj_u2p hZ
      exact mj_lretx hR ⟨by decide, by decide⟩ rfl dX10_worth_42 hZ
set_option maxRecDepth 100000 in
set_option maxHeartbeats 4000000 in
theorem cmX10_worth (l : Launch) (G : mj_GT) (hlt : l.stackTraces = false) (F : Nat) (I : mj_IT) (L : mj_LT) (r1 : Nat → Int32) (r18 : Nat → Int32) (r19 : Nat → Int32) (r20 : Nat → Int32) (r21 : Nat → Int32) (r22 : Nat → Int32) (r23 : Nat → Int32) (r24 : Nat → Int32) (r25 : Nat → Int32) (r26 : Nat → Int32) (r32 : Nat → Int32) (r33 : Nat → Int32) (r34 : Nat → Int32) (r35 : Nat → Int32) (r36 : Nat → Int32) (r37 : Nat → Int32) (r38 : Nat → Int32) (r39 : Nat → Int32) (r40 : Nat → Int32) (r65 : Nat → Int32) (r66 : Nat → Int32) (r67 : Nat → Int32) (r69 : Nat → Int32) (r70 : Nat → Int32) (q65 : Nat → Int64) (q68 : Nat → Int64) (hr1 : I 1 = r1) (hr18 : I 18 = r18) (hr19 : I 19 = r19) (hr20 : I 20 = r20) (hr21 : I 21 = r21) (hr22 : I 22 = r22) (hr23 : I 23 = r23) (hr24 : I 24 = r24) (hr25 : I 25 = r25) (hr26 : I 26 = r26) (hr32 : I 32 = r32) (hr33 : I 33 = r33) (hr34 : I 34 = r34) (hr35 : I 35 = r35) (hr36 : I 36 = r36) (hr37 : I 37 = r37) (hr38 : I 38 = r38) (hr39 : I 39 = r39) (hr40 : I 40 = r40) (hr65 : I 65 = r65) (hr66 : I 66 = r66) (hr67 : I 67 = r67) (hr69 : I 69 = r69) (hr70 : I 70 = r70) (hq65 : L 65 = q65) (hq68 : L 68 = q68) (o : (((Int64) × (Nat → Int32) × (Nat → Int32) × (Nat → Int32) × (Nat → Int32) × (Nat → Int32) × (Nat → Int32) × (Nat → Int32) × (Nat → Int32) × (Nat → Int32) × (Nat → Int32) × (Nat → Int32) × (Nat → Int32) × (Nat → Int32) × (Nat → Int32) × (Nat → Int64) × (Nat → Int64)) ⊕ ((Nat) × (Nat → Int32) × (Nat → Int32) × (Nat → Int32) × (Nat → Int32) × (Nat → Int32) × (Nat → Int32) × (Nat → Int32) × (Nat → Int32) × (Nat → Int32) × (Nat → Int32) × (Nat → Int32) × (Nat → Int32) × (Nat → Int32) × (Nat → Int32) × (Nat → Int64) × (Nat → Int64)))) (hf : fnX10_worth F r1 r18 r19 r20 r21 r22 r23 r24 r25 r26 r32 r33 r34 r35 r36 r37 r38 r39 r40 r65 r66 r67 r69 r70 q65 q68 = some o) : mj_Mx l G yX10_worth cX10_worth 1 9 (some .long) 1 6 mj_P0 mj_S0 98 [.ref 1] I L (fun rv I2 L2 => Sum.elim (fun o => rv = (some (.long o.1)) ∧ I2 = (mj_rows I [(1, r1), (18, r18), (19, r19), (20, r20), (21, r21), (22, r22), (23, r23), (24, r24), (25, r25), (26, r26), (32, o.2.1), (33, o.2.2.1), (34, o.2.2.2.1), (35, o.2.2.2.2.1), (36, o.2.2.2.2.2.1), (37, o.2.2.2.2.2.2.1), (38, o.2.2.2.2.2.2.2.1), (39, o.2.2.2.2.2.2.2.2.1), (40, o.2.2.2.2.2.2.2.2.2.1), (65, o.2.2.2.2.2.2.2.2.2.2.1), (66, o.2.2.2.2.2.2.2.2.2.2.2.1), (67, o.2.2.2.2.2.2.2.2.2.2.2.2.1), (69, o.2.2.2.2.2.2.2.2.2.2.2.2.2.1), (70, o.2.2.2.2.2.2.2.2.2.2.2.2.2.2.1)]) ∧ L2 = (mj_rows L [(65, o.2.2.2.2.2.2.2.2.2.2.2.2.2.2.2.1), (68, o.2.2.2.2.2.2.2.2.2.2.2.2.2.2.2.2)])) (fun _ => False) o) (fun E I2 L2 => Sum.elim (fun _ => False) (fun o => E = mj_en o.1 ∧ I2 = (mj_rows I [(1, r1), (18, r18), (19, r19), (20, r20), (21, r21), (22, r22), (23, r23), (24, r24), (25, r25), (26, r26), (32, o.2.1), (33, o.2.2.1), (34, o.2.2.2.1), (35, o.2.2.2.2.1), (36, o.2.2.2.2.2.1), (37, o.2.2.2.2.2.2.1), (38, o.2.2.2.2.2.2.2.1), (39, o.2.2.2.2.2.2.2.2.1), (40, o.2.2.2.2.2.2.2.2.2.1), (65, o.2.2.2.2.2.2.2.2.2.2.1), (66, o.2.2.2.2.2.2.2.2.2.2.2.1), (67, o.2.2.2.2.2.2.2.2.2.2.2.2.1), (69, o.2.2.2.2.2.2.2.2.2.2.2.2.2.1), (70, o.2.2.2.2.2.2.2.2.2.2.2.2.2.2.1)]) ∧ L2 = (mj_rows L [(65, o.2.2.2.2.2.2.2.2.2.2.2.2.2.2.2.1), (68, o.2.2.2.2.2.2.2.2.2.2.2.2.2.2.2.2)])) o) := by
  refine mj_inx RX10 "worth" [(0, .ref 1)] rfl rfl rfl (by decide) (Nat.le_of_ble_eq_true rfl) (fun X ad hR => ?_)
  refine mj_toI [(1, r1), (18, r18), (19, r19), (20, r20), (21, r21), (22, r22), (23, r23), (24, r24), (25, r25), (26, r26), (32, r32), (33, r33), (34, r34), (35, r35), (36, r36), (37, r37), (38, r38), (39, r39), (40, r40), (65, r65), (66, r66), (67, r67), (69, r69), (70, r70)] (by intro q hq; simp only [List.mem_cons, List.not_mem_nil, or_false] at hq; rcases hq with rfl | rfl | rfl | rfl | rfl | rfl | rfl | rfl | rfl | rfl | rfl | rfl | rfl | rfl | rfl | rfl | rfl | rfl | rfl | rfl | rfl | rfl | rfl | rfl <;> assumption) ?_
  refine mj_toL [(65, q65), (68, q68)] (by intro q hq; simp only [List.mem_cons, List.not_mem_nil, or_false] at hq; rcases hq with rfl | rfl <;> assumption) ?_
  refine mtX10_worth hR hlt F I L r1 r18 r19 r20 r21 r22 r23 r24 r25 r26 r32 r33 r34 r35 r36 r37 r38 r39 r40 r65 r66 r67 r69 r70 q65 q68 o hf ?_
  rcases o with o | o
  · refine mj_elq ?_
    obtain ⟨w0, w1, w2, w3, w4, w5, w6, w7, w8, w9, w10, w11, w12, w13, w14, w15, w16⟩ := o
    refine mj_u2q ?_
    refine mj_u2q ?_
    refine mj_u2q ?_
    refine mj_u2q ?_
    refine mj_u2q ?_
    refine mj_u2q ?_
    refine mj_u2q ?_
    refine mj_u2q ?_
    refine mj_u2q ?_
    refine mj_u2q ?_
    refine mj_u2q ?_
    refine mj_u2q ?_
    refine mj_u2q ?_
    refine mj_u2q ?_
    refine mj_u2q ?_
    refine mj_u2q ?_
    refine mj_elq ?_
    exact ⟨rfl, rfl, rfl⟩
  · refine mj_erq ?_
    obtain ⟨w0, w1, w2, w3, w4, w5, w6, w7, w8, w9, w10, w11, w12, w13, w14, w15, w16⟩ := o
    refine mj_u2q ?_
    refine mj_u2q ?_
    refine mj_u2q ?_
    refine mj_u2q ?_
    refine mj_u2q ?_
    refine mj_u2q ?_
    refine mj_u2q ?_
    refine mj_u2q ?_
    refine mj_u2q ?_
    refine mj_u2q ?_
    refine mj_u2q ?_
    refine mj_u2q ?_
    refine mj_u2q ?_
    refine mj_u2q ?_
    refine mj_u2q ?_
    refine mj_u2q ?_
    refine mj_erq ?_
    exact ⟨rfl, rfl, rfl⟩

-- X10_print
def bdX10_print_19 (F : Nat) (r32 : Nat → Int32) (r33 : Nat → Int32) (r34 : Nat → Int32) (x1 : Int64) (x3 : Int32) : Option (((Int64) × (Int32)) ⊕ ((Int64))) := (if (r32 2) ≤ x3 then some (.inr x1) else (if (r32 6) = 0 then (if mj_ib x3 200 = true then (if mj_ib x3 200 = true then some (.inl ((((31 : Int64) * (((31 : Int64) * x1) + ((r33 x3.toNatClampNeg).toInt64))) + ((r34 x3.toNatClampNeg).toInt64)), (x3 + (1)))) else none) else none) else some (.inr x1)))
def fnX10_print (F : Nat) (r1 : Nat → Int32) (r18 : Nat → Int32) (r19 : Nat → Int32) (r20 : Nat → Int32) (r21 : Nat → Int32) (r22 : Nat → Int32) (r23 : Nat → Int32) (r24 : Nat → Int32) (r25 : Nat → Int32) (r26 : Nat → Int32) (r32 : Nat → Int32) (r33 : Nat → Int32) (r34 : Nat → Int32) (r35 : Nat → Int32) (r36 : Nat → Int32) (r37 : Nat → Int32) (r38 : Nat → Int32) (r39 : Nat → Int32) (r40 : Nat → Int32) : Option ((Int64) × (Nat → Int32) × (Nat → Int32) × (Nat → Int32) × (Nat → Int32) × (Nat → Int32) × (Nat → Int32) × (Nat → Int32) × (Nat → Int32) × (Nat → Int32)) := (fnX4_explore F r18 r19 r20 r21 r22 r23 r24 r25 r26 r32 r33 r34 r35 r36 r37 r38 r39 r40 (r1 3)).bind (fun o5 => (mj_it (mj_u2 (fun z0 z1 => bdX10_print_19 F o5.1 o5.2.1 o5.2.2.1 z0 z1)) F ((0 : Int64), (0 : Int32))).bind (fun x1_6 => some (x1_6, o5.1, o5.2.1, o5.2.2.1, o5.2.2.2.1, o5.2.2.2.2.1, o5.2.2.2.2.2.1, o5.2.2.2.2.2.2.1, o5.2.2.2.2.2.2.2.1, o5.2.2.2.2.2.2.2.2)))
set_option maxRecDepth 100000 in
set_option maxHeartbeats 4000000 in
theorem lpX10_print_19 {X : mj_XT} {l : Launch} {G : mj_GT} {ad : Nat → Nat} {Qn : Option Value → mj_IT → mj_LT → Prop} (hR : mj_R X l G mj_P0 mj_S0 98 ad 0 0 Qn) (F : Nat) (I : mj_IT) (L : mj_LT) (r1 : Nat → Int32) (r18 : Nat → Int32) (r19 : Nat → Int32) (r20 : Nat → Int32) (r21 : Nat → Int32) (r22 : Nat → Int32) (r23 : Nat → Int32) (r24 : Nat → Int32) (r25 : Nat → Int32) (r26 : Nat → Int32) (r32 : Nat → Int32) (r33 : Nat → Int32) (r34 : Nat → Int32) (r35 : Nat → Int32) (r36 : Nat → Int32) (r37 : Nat → Int32) (r38 : Nat → Int32) (r39 : Nat → Int32) (r40 : Nat → Int32) : ∀ (n : Nat) (s : ((Int64) × (Int32))) (e : ((Int64))), mj_it (mj_u2 (fun z0 z1 => bdX10_print_19 F r32 r33 r34 z0 z1)) n s = some e → (fun x1 => mj_W X G RX10 "print" cX10_print 4 6 (some .long) mj_P0 mj_S0 98 ad 0 0 80 [(1, .long x1)] [] (mj_rows I [(1, r1), (18, r18), (19, r19), (20, r20), (21, r21), (22, r22), (23, r23), (24, r24), (25, r25), (26, r26), (32, r32), (33, r33), (34, r34), (35, r35), (36, r36), (37, r37), (38, r38), (39, r39), (40, r40)]) L) e → (mj_u2 (fun x1 x3 => mj_W X G RX10 "print" cX10_print 4 6 (some .long) mj_P0 mj_S0 98 ad 0 0 19 [(0, .ref 1), (1, .long x1), (3, .int x3)] [] (mj_rows I [(1, r1), (18, r18), (19, r19), (20, r20), (21, r21), (22, r22), (23, r23), (24, r24), (25, r25), (26, r26), (32, r32), (33, r33), (34, r34), (35, r35), (36, r36), (37, r37), (38, r38), (39, r39), (40, r40)]) L)) s := by
  refine mj_loop (fun s o hf hc hx => ?_)
  obtain ⟨x1, x3⟩ := s
  replace hf := mj_u2e hf
  refine mj_u2q ?_
  unfold bdX10_print_19 at hf
  refine mj_iload_n 2 dX10_print_19 rfl ?_
  refine mj_aload_n 0 dX10_print_20 rfl ?_
  refine mj_getP p0_1_5 (by decide) fl_X10_37 rfl s0_1 a0_1 dX10_print_21 ?_
  refine mj_getIv (v := (r32 2)) rfl fl_X10_153 rfl s0_32 a0_32 dX10_print_24 ?_
  refine mj_icmp_ge 80 dX10_print_27 (by decide) (fun c1 => ?_) (fun c1 => ?_)
  · replace hf := mj_pos c1 hf
    refine mj_sub [1] [(1, .long x1)] rfl ?_
    obtain rfl := Option.some.inj hf
    have hZ := hx x1 rfl
    exact hZ
  · replace hf := mj_neg c1 hf
    refine mj_aload_n 0 dX10_print_30 rfl ?_
    refine mj_getP p0_1_5 (by decide) fl_X10_37 rfl s0_1 a0_1 dX10_print_31 ?_
    refine mj_getIv (v := (r32 6)) rfl fl_X10_149 rfl s0_32 a0_32 dX10_print_34 ?_
    refine mj_if_ne 80 dX10_print_37 (by decide) (fun c2 => ?_) (fun c2 => ?_)
    · replace hf := mj_neg c2 hf
      refine mj_sub [1] [(1, .long x1)] rfl ?_
      obtain rfl := Option.some.inj hf
      have hZ := hx x1 rfl
      exact hZ
    · replace hf := mj_pos c2 hf
      refine mj_ldc2 kk_X10_287 dX10_print_40 ?_
      refine mj_lload_n 1 dX10_print_43 rfl ?_
      refine mj_lmul dX10_print_44 ?_
      refine mj_aload_n 0 dX10_print_45 rfl ?_
      refine mj_getP p0_1_5 (by decide) fl_X10_37 rfl s0_1 a0_1 dX10_print_46 ?_
      refine mj_getP p0_32_8 (by decide) fl_X10_181 rfl s0_32 a0_32 dX10_print_49 ?_
      refine mj_iload_n 2 dX10_print_52 rfl ?_
      obtain ⟨z3, hf⟩ := mj_ck hf
      refine mj_ialdv (x := r33) rfl s0_33 a0_33 z3 dX10_print_53 ?_
      refine mj_i2l dX10_print_54 ?_
      refine mj_ladd dX10_print_55 ?_
      refine mj_lstore_n [(1, .long (((31 : Int64) * x1) + ((r33 x3.toNatClampNeg).toInt64))), (0, .ref 1), (3, .int x3)] dX10_print_56 rfl (by decide) rfl ?_
      refine mj_ldc2 kk_X10_287 dX10_print_57 ?_
      refine mj_lload_n 0 dX10_print_60 rfl ?_
      refine mj_lmul dX10_print_61 ?_
      refine mj_aload_n 1 dX10_print_62 rfl ?_
      refine mj_getP p0_1_5 (by decide) fl_X10_37 rfl s0_1 a0_1 dX10_print_63 ?_
      refine mj_getP p0_32_9 (by decide) fl_X10_194 rfl s0_32 a0_32 dX10_print_66 ?_
      refine mj_iload_n 2 dX10_print_69 rfl ?_
      obtain ⟨z4, hf⟩ := mj_ck hf
      refine mj_ialdv (x := r34) rfl s0_34 a0_34 z4 dX10_print_70 ?_
      refine mj_i2l dX10_print_71 ?_
      refine mj_ladd dX10_print_72 ?_
      refine mj_lstore_n [(1, .long (((31 : Int64) * (((31 : Int64) * x1) + ((r33 x3.toNatClampNeg).toInt64))) + ((r34 x3.toNatClampNeg).toInt64))), (0, .ref 1), (3, .int x3)] dX10_print_73 rfl (by decide) rfl ?_
      refine mj_iinc 2 [(3, .int (x3 + (1))), (1, .long (((31 : Int64) * (((31 : Int64) * x1) + ((r33 x3.toNatClampNeg).toInt64))) + ((r34 x3.toNatClampNeg).toInt64))), (0, .ref 1)] dX10_print_74 rfl (kz_1 _) (by decide) rfl ?_
      refine mj_goto 19 dX10_print_77 (by decide) ?_
      refine mj_sub [2, 1, 0] [(0, .ref 1), (1, .long (((31 : Int64) * (((31 : Int64) * x1) + ((r33 x3.toNatClampNeg).toInt64))) + ((r34 x3.toNatClampNeg).toInt64))), (3, .int (x3 + (1)))] rfl ?_
      obtain rfl := Option.some.inj hf
      have hZ := hc ((((31 : Int64) * (((31 : Int64) * x1) + ((r33 x3.toNatClampNeg).toInt64))) + ((r34 x3.toNatClampNeg).toInt64)), (x3 + (1))) rfl
      replace hZ := mj_u2p hZ
      exact hZ
set_option maxRecDepth 100000 in
set_option maxHeartbeats 4000000 in
theorem mtX10_print {X : mj_XT} {l : Launch} {G : mj_GT} {ad : Nat → Nat} {Qn : Option Value → mj_IT → mj_LT → Prop} (hR : mj_R X l G mj_P0 mj_S0 98 ad 0 0 Qn) (F : Nat) (I : mj_IT) (L : mj_LT) (r1 : Nat → Int32) (r18 : Nat → Int32) (r19 : Nat → Int32) (r20 : Nat → Int32) (r21 : Nat → Int32) (r22 : Nat → Int32) (r23 : Nat → Int32) (r24 : Nat → Int32) (r25 : Nat → Int32) (r26 : Nat → Int32) (r32 : Nat → Int32) (r33 : Nat → Int32) (r34 : Nat → Int32) (r35 : Nat → Int32) (r36 : Nat → Int32) (r37 : Nat → Int32) (r38 : Nat → Int32) (r39 : Nat → Int32) (r40 : Nat → Int32) (o : ((Int64) × (Nat → Int32) × (Nat → Int32) × (Nat → Int32) × (Nat → Int32) × (Nat → Int32) × (Nat → Int32) × (Nat → Int32) × (Nat → Int32) × (Nat → Int32))) (hf : fnX10_print F r1 r18 r19 r20 r21 r22 r23 r24 r25 r26 r32 r33 r34 r35 r36 r37 r38 r39 r40 = some o) (hq : (mj_u2 (fun ov => (mj_u2 (fun r32 => (mj_u2 (fun r33 => (mj_u2 (fun r34 => (mj_u2 (fun r35 => (mj_u2 (fun r36 => (mj_u2 (fun r37 => (mj_u2 (fun r38 => (mj_u2 (fun r39 r40 => Qn (some (.long ov)) (mj_rows I [(1, r1), (18, r18), (19, r19), (20, r20), (21, r21), (22, r22), (23, r23), (24, r24), (25, r25), (26, r26), (32, r32), (33, r33), (34, r34), (35, r35), (36, r36), (37, r37), (38, r38), (39, r39), (40, r40)]) L)))))))))))))))))) o) : mj_W X G RX10 "print" cX10_print 4 6 (some .long) mj_P0 mj_S0 98 ad 0 0 0 [(0, .ref 1)] [] (mj_rows I [(1, r1), (18, r18), (19, r19), (20, r20), (21, r21), (22, r22), (23, r23), (24, r24), (25, r25), (26, r26), (32, r32), (33, r33), (34, r34), (35, r35), (36, r36), (37, r37), (38, r38), (39, r39), (40, r40)]) L := by
  unfold fnX10_print at hf
  refine mj_aload_n 0 dX10_print_0 rfl ?_
  refine mj_getP p0_1_5 (by decide) fl_X10_37 rfl s0_1 a0_1 dX10_print_1 ?_
  refine mj_aload_n 0 dX10_print_4 rfl ?_
  refine mj_getP p0_1_2 (by decide) fl_X10_23 rfl s0_1 a0_1 dX10_print_5 ?_
  refine mj_aload_n 0 dX10_print_8 rfl ?_
  refine mj_getIv (v := (r1 3)) rfl fl_X10_95 rfl s0_1 a0_1 dX10_print_9 ?_
  obtain ⟨o5, ho5, hf⟩ := mj_bd hf
  refine mj_callVd (I2 := (mj_rows I [(1, r1), (18, r18), (19, r19), (20, r20), (21, r21), (22, r22), (23, r23), (24, r24), (25, r25), (26, r26), (32, o5.1), (33, o5.2.1), (34, o5.2.2.1), (35, o5.2.2.2.1), (36, o5.2.2.2.2.1), (37, o5.2.2.2.2.2.1), (38, o5.2.2.2.2.2.2.1), (39, o5.2.2.2.2.2.2.2.1), (40, o5.2.2.2.2.2.2.2.2)])) (L2 := L) (s1 := []) (st := []) [.ref 18, .int (r1 3)] (cmX4_explore X.2.1 G F (r1 3) _ _ r18 r19 r20 r21 r22 r23 r24 r25 r26 r32 r33 r34 r35 r36 r37 r38 r39 r40 rfl rfl rfl rfl rfl rfl rfl rfl rfl rfl rfl rfl rfl rfl rfl rfl rfl rfl o5 ho5) (mj_rq rfl rfl) rfl cw_X10_145 s0_32 a0_32 (by decide) rfl rfl (Nat.le_of_ble_eq_true rfl) ⟨Nat.zero_le _, Nat.zero_le _⟩ dX10_print_12 rfl ?_
  refine mj_lconst (v := 0) dX10_print_15 (by decide) ?_
  refine mj_lstore_n [(1, .long (0 : Int64)), (0, .ref 1)] dX10_print_16 rfl (by decide) rfl ?_
  refine mj_iconst dX10_print_17 kc_iconst_0 ?_
  refine mj_istore_n [(3, .int (0 : Int32)), (1, .long (0 : Int64)), (0, .ref 1)] dX10_print_18 rfl (by decide) rfl ?_
  refine mj_sub [2, 1, 0] [(0, .ref 1), (1, .long (0 : Int64)), (3, .int (0 : Int32))] rfl ?_
  obtain ⟨x1_6, ho6, hf⟩ := mj_bd hf
  refine lpX10_print_19 hR F I L r1 r18 r19 r20 r21 r22 r23 r24 r25 r26 o5.1 o5.2.1 o5.2.2.1 o5.2.2.2.1 o5.2.2.2.2.1 o5.2.2.2.2.2.1 o5.2.2.2.2.2.2.1 o5.2.2.2.2.2.2.2.1 o5.2.2.2.2.2.2.2.2 F ((0 : Int64), (0 : Int32)) x1_6 ho6 ?_
  refine ?_
  refine mj_lload_n 0 dX10_print_80 rfl ?_
  obtain rfl := Option.some.inj hf
  have hZ := hq
  replace hZ := mj_u2p hZ
  replace hZ := mj_u2p hZ
  replace hZ := mj_u2p hZ
  replace hZ := mj_u2p hZ
  replace hZ := mj_u2p hZ
  replace hZ := mj_u2p hZ
  replace hZ := mj_u2p hZ
  replace hZ := mj_u2p hZ
  replace hZ := mj_u2p hZ
  exact mj_lret hR ⟨Nat.le_refl _, Nat.le_refl _⟩ rfl dX10_print_81 hZ
set_option maxRecDepth 100000 in
set_option maxHeartbeats 4000000 in
theorem cmX10_print (l : Launch) (G : mj_GT) (F : Nat) (I : mj_IT) (L : mj_LT) (r1 : Nat → Int32) (r18 : Nat → Int32) (r19 : Nat → Int32) (r20 : Nat → Int32) (r21 : Nat → Int32) (r22 : Nat → Int32) (r23 : Nat → Int32) (r24 : Nat → Int32) (r25 : Nat → Int32) (r26 : Nat → Int32) (r32 : Nat → Int32) (r33 : Nat → Int32) (r34 : Nat → Int32) (r35 : Nat → Int32) (r36 : Nat → Int32) (r37 : Nat → Int32) (r38 : Nat → Int32) (r39 : Nat → Int32) (r40 : Nat → Int32) (hr1 : I 1 = r1) (hr18 : I 18 = r18) (hr19 : I 19 = r19) (hr20 : I 20 = r20) (hr21 : I 21 = r21) (hr22 : I 22 = r22) (hr23 : I 23 = r23) (hr24 : I 24 = r24) (hr25 : I 25 = r25) (hr26 : I 26 = r26) (hr32 : I 32 = r32) (hr33 : I 33 = r33) (hr34 : I 34 = r34) (hr35 : I 35 = r35) (hr36 : I 36 = r36) (hr37 : I 37 = r37) (hr38 : I 38 = r38) (hr39 : I 39 = r39) (hr40 : I 40 = r40) (o : ((Int64) × (Nat → Int32) × (Nat → Int32) × (Nat → Int32) × (Nat → Int32) × (Nat → Int32) × (Nat → Int32) × (Nat → Int32) × (Nat → Int32) × (Nat → Int32))) (hf : fnX10_print F r1 r18 r19 r20 r21 r22 r23 r24 r25 r26 r32 r33 r34 r35 r36 r37 r38 r39 r40 = some o) : mj_M l G yX10_print cX10_print 4 6 (some .long) 0 0 mj_P0 mj_S0 98 [.ref 1] I L (mj_qd (some (.long o.1)) (mj_rows I [(1, r1), (18, r18), (19, r19), (20, r20), (21, r21), (22, r22), (23, r23), (24, r24), (25, r25), (26, r26), (32, o.2.1), (33, o.2.2.1), (34, o.2.2.2.1), (35, o.2.2.2.2.1), (36, o.2.2.2.2.2.1), (37, o.2.2.2.2.2.2.1), (38, o.2.2.2.2.2.2.2.1), (39, o.2.2.2.2.2.2.2.2.1), (40, o.2.2.2.2.2.2.2.2.2)]) L) := by
  refine mj_in RX10 "print" [(0, .ref 1)] rfl rfl rfl (by decide) (Nat.le_of_ble_eq_true rfl) (fun X ad hR => ?_)
  refine mj_toI [(1, r1), (18, r18), (19, r19), (20, r20), (21, r21), (22, r22), (23, r23), (24, r24), (25, r25), (26, r26), (32, r32), (33, r33), (34, r34), (35, r35), (36, r36), (37, r37), (38, r38), (39, r39), (40, r40)] (by intro q hq; simp only [List.mem_cons, List.not_mem_nil, or_false] at hq; rcases hq with rfl | rfl | rfl | rfl | rfl | rfl | rfl | rfl | rfl | rfl | rfl | rfl | rfl | rfl | rfl | rfl | rfl | rfl | rfl <;> assumption) ?_
  refine mtX10_print hR F I L r1 r18 r19 r20 r21 r22 r23 r24 r25 r26 r32 r33 r34 r35 r36 r37 r38 r39 r40 o hf ?_
  obtain ⟨w0, w1, w2, w3, w4, w5, w6, w7, w8, w9⟩ := o
  refine mj_u2q ?_
  refine mj_u2q ?_
  refine mj_u2q ?_
  refine mj_u2q ?_
  refine mj_u2q ?_
  refine mj_u2q ?_
  refine mj_u2q ?_
  refine mj_u2q ?_
  refine mj_u2q ?_
  exact ⟨rfl, rfl, rfl⟩

