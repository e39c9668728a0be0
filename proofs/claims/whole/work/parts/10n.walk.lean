-- X10_worth
def fnX10_worth (F : Nat) (r1 : Nat → Int32) (r18 : Nat → Int32) (r19 : Nat → Int32) (r20 : Nat → Int32) (r21 : Nat → Int32) (r22 : Nat → Int32) (r23 : Nat → Int32) (r24 : Nat → Int32) (r25 : Nat → Int32) (r26 : Nat → Int32) (r32 : Nat → Int32) (r33 : Nat → Int32) (r34 : Nat → Int32) (r35 : Nat → Int32) (r36 : Nat → Int32) (r37 : Nat → Int32) (r38 : Nat → Int32) (r39 : Nat → Int32) (r40 : Nat → Int32) (r65 : Nat → Int32) (r66 : Nat → Int32) (r67 : Nat → Int32) (r69 : Nat → Int32) (r70 : Nat → Int32) (q65 : Nat → Int64) (q68 : Nat → Int64) : Option (((Int64) × (Nat → Int32) × (Nat → Int32) × (Nat → Int32) × (Nat → Int32) × (Nat → Int32) × (Nat → Int32) × (Nat → Int32) × (Nat → Int32) × (Nat → Int32) × (Nat → Int32) × (Nat → Int32) × (Nat → Int32) × (Nat → Int32) × (Nat → Int32) × (Nat → Int64) × (Nat → Int64)) ⊕ ((Nat) × (Nat → Int32) × (Nat → Int32) × (Nat → Int32) × (Nat → Int32) × (Nat → Int32) × (Nat → Int32) × (Nat → Int32) × (Nat → Int32) × (Nat → Int32) × (Nat → Int32) × (Nat → Int32) × (Nat → Int32) × (Nat → Int32) × (Nat → Int32) × (Nat → Int64) × (Nat → Int64))) := (fnX10_needStates F r1 r18 r19 r20 r21 r22 r23 r24 r25 r26 r32 r33 r34 r35 r36 r37 r38 r39 r40 r70).bind (Sum.elim (fun o1 => (fnX5_find F r18 r19 r21 o1.1 o1.2.1 o1.2.2.2.2.2.1 o1.2.2.2.2.2.2.1 o1.2.2.2.2.2.2.2.1 r65 r66 r67 r69 q65 q68).bind (fun o2 => (fnX5_exists F o2.2.2.2.2.1).bind (fun o3 => (if o3 = 0 then some (.inl ((-1 : Int64), o1.1, o1.2.1, o1.2.2.1, o1.2.2.2.1, o1.2.2.2.2.1, o1.2.2.2.2.2.1, o1.2.2.2.2.2.2.1, o1.2.2.2.2.2.2.2.1, o1.2.2.2.2.2.2.2.2.1, o2.1, o2.2.1, o2.2.2.1, o2.2.2.2.1, o1.2.2.2.2.2.2.2.2.2, o2.2.2.2.2.1, o2.2.2.2.2.2)) else some (.inl ((o2.2.2.2.2.1 1), o1.1, o1.2.1, o1.2.2.1, o1.2.2.2.1, o1.2.2.2.2.1, o1.2.2.2.2.2.1, o1.2.2.2.2.2.2.1, o1.2.2.2.2.2.2.2.1, o1.2.2.2.2.2.2.2.2.1, o2.1, o2.2.1, o2.2.2.1, o2.2.2.2.1, o1.2.2.2.2.2.2.2.2.2, o2.2.2.2.2.1, o2.2.2.2.2.2)))))) (fun eo1 => some (.inr (eo1.1, eo1.2.1, eo1.2.2.1, eo1.2.2.2.1, eo1.2.2.2.2.1, eo1.2.2.2.2.2.1, eo1.2.2.2.2.2.2.1, eo1.2.2.2.2.2.2.2.1, eo1.2.2.2.2.2.2.2.2.1, eo1.2.2.2.2.2.2.2.2.2.1, r65, r66, r67, r69, eo1.2.2.2.2.2.2.2.2.2.2, q65, q68))))
set_option maxRecDepth 100000 in
set_option maxHeartbeats 4000000 in
theorem mtX10_worth {X : mj_XT} {l : Launch} {G : mj_GT} {ad : Nat → Nat} {Qn : Option Value → mj_IT → mj_LT → Prop} {Qx : String → mj_IT → mj_LT → Prop} (hR : mj_Rx X l G mj_P0 mj_S0 98 ad 1 6 Qn Qx) (hlt : l.stackTraces = false) (F : Nat) (I : mj_IT) (L : mj_LT) (r1 : Nat → Int32) (r18 : Nat → Int32) (r19 : Nat → Int32) (r20 : Nat → Int32) (r21 : Nat → Int32) (r22 : Nat → Int32) (r23 : Nat → Int32) (r24 : Nat → Int32) (r25 : Nat → Int32) (r26 : Nat → Int32) (r32 : Nat → Int32) (r33 : Nat → Int32) (r34 : Nat → Int32) (r35 : Nat → Int32) (r36 : Nat → Int32) (r37 : Nat → Int32) (r38 : Nat → Int32) (r39 : Nat → Int32) (r40 : Nat → Int32) (r65 : Nat → Int32) (r66 : Nat → Int32) (r67 : Nat → Int32) (r69 : Nat → Int32) (r70 : Nat → Int32) (q65 : Nat → Int64) (q68 : Nat → Int64) (o : (((Int64) × (Nat → Int32) × (Nat → Int32) × (Nat → Int32) × (Nat → Int32) × (Nat → Int32) × (Nat → Int32) × (Nat → Int32) × (Nat → Int32) × (Nat → Int32) × (Nat → Int32) × (Nat → Int32) × (Nat → Int32) × (Nat → Int32) × (Nat → Int32) × (Nat → Int64) × (Nat → Int64)) ⊕ ((Nat) × (Nat → Int32) × (Nat → Int32) × (Nat → Int32) × (Nat → Int32) × (Nat → Int32) × (Nat → Int32) × (Nat → Int32) × (Nat → Int32) × (Nat → Int32) × (Nat → Int32) × (Nat → Int32) × (Nat → Int32) × (Nat → Int32) × (Nat → Int32) × (Nat → Int64) × (Nat → Int64)))) (hf : fnX10_worth F r1 r18 r19 r20 r21 r22 r23 r24 r25 r26 r32 r33 r34 r35 r36 r37 r38 r39 r40 r65 r66 r67 r69 r70 q65 q68 = some o) (hq : (Sum.elim (mj_u2 (fun ov => (mj_u2 (fun r32 => (mj_u2 (fun r33 => (mj_u2 (fun r34 => (mj_u2 (fun r35 => (mj_u2 (fun r36 => (mj_u2 (fun r37 => (mj_u2 (fun r38 => (mj_u2 (fun r39 => (mj_u2 (fun r40 => (mj_u2 (fun r65 => (mj_u2 (fun r66 => (mj_u2 (fun r67 => (mj_u2 (fun r69 => (mj_u2 (fun r70 => (mj_u2 (fun q65 q68 => Qn (some (.long ov)) (mj_rows I [(1, r1), (18, r18), (19, r19), (20, r20), (21, r21), (22, r22), (23, r23), (24, r24), (25, r25), (26, r26), (32, r32), (33, r33), (34, r34), (35, r35), (36, r36), (37, r37), (38, r38), (39, r39), (40, r40), (65, r65), (66, r66), (67, r67), (69, r69), (70, r70)]) (mj_rows L [(65, q65), (68, q68)]))))))))))))))))))))))))))))))))) (mj_u2 (fun kx => (mj_u2 (fun r32 => (mj_u2 (fun r33 => (mj_u2 (fun r34 => (mj_u2 (fun r35 => (mj_u2 (fun r36 => (mj_u2 (fun r37 => (mj_u2 (fun r38 => (mj_u2 (fun r39 => (mj_u2 (fun r40 => (mj_u2 (fun r65 => (mj_u2 (fun r66 => (mj_u2 (fun r67 => (mj_u2 (fun r69 => (mj_u2 (fun r70 => (mj_u2 (fun q65 q68 => Qx (mj_en kx) (mj_rows I [(1, r1), (18, r18), (19, r19), (20, r20), (21, r21), (22, r22), (23, r23), (24, r24), (25, r25), (26, r26), (32, r32), (33, r33), (34, r34), (35, r35), (36, r36), (37, r37), (38, r38), (39, r39), (40, r40), (65, r65), (66, r66), (67, r67), (69, r69), (70, r70)]) (mj_rows L [(65, q65), (68, q68)])))))))))))))))))))))))))))))))))) o) : mj_W X G RX10 "worth" cX10_worth 1 9 (some .long) mj_P0 mj_S0 98 ad 0 0 0 [(0, .ref 1)] [] (mj_rows I [(1, r1), (18, r18), (19, r19), (20, r20), (21, r21), (22, r22), (23, r23), (24, r24), (25, r25), (26, r26), (32, r32), (33, r33), (34, r34), (35, r35), (36, r36), (37, r37), (38, r38), (39, r39), (40, r40), (65, r65), (66, r66), (67, r67), (69, r69), (70, r70)]) (mj_rows L [(65, q65), (68, q68)]) := by
  unfold fnX10_worth at hf
  refine mj_aload_n 0 dX10_worth_0 rfl ?_
  obtain ⟨so1, ho1, hf⟩ := mj_bd hf
  refine mj_callVx (st := []) [] hR (cmX10_needStates l G hlt F  _ _ r1 r18 r19 r20 r21 r22 r23 r24 r25 r26 r32 r33 r34 r35 r36 r37 r38 r39 r40 r70 rfl rfl rfl rfl rfl rfl rfl rfl rfl rfl rfl rfl rfl rfl rfl rfl rfl rfl rfl rfl so1 ho1) cw_X10_175 s0_1 a0_1 (by decide) rfl rfl (Nat.le_of_ble_eq_true rfl) ⟨by decide, by decide⟩ dX10_worth_1 (fun E I2 L2 hx => ?_) (fun rv I2 L2 hx => ?_)
  · obtain ⟨eo1, hf, hx⟩ := mj_sxr hf hx
    obtain rfl := Option.some.inj hf
    obtain ⟨hE9, hI9, hL9⟩ := hx
    rw [hE9, hI9, hL9]
    have hZ := mj_er hq
    replace hZ := mj_u2p hZ
    replace hZ := mj_u2p hZ
    replace hZ := mj_u2p hZ
    replace hZ := mj_u2p hZ
    replace hZ := mj_u2p hZ
    replace hZ := mj_u2p hZ
    replace hZ := mj_u2p hZ
    replace hZ := mj_u2p hZ
    replace hZ := mj_u2p hZ
    replace hZ := mj_u2p hZ
    replace hZ := mj_u2p hZ
    replace hZ := mj_u2p hZ
    replace hZ := mj_u2p hZ
    replace hZ := mj_u2p hZ
    replace hZ := mj_u2p hZ
    replace hZ := mj_u2p hZ
    rw [mj_rr (l' := [(1, r1), (18, r18), (19, r19), (20, r20), (21, r21), (22, r22), (23, r23), (24, r24), (25, r25), (26, r26), (32, eo1.2.1), (33, eo1.2.2.1), (34, eo1.2.2.2.1), (35, eo1.2.2.2.2.1), (36, eo1.2.2.2.2.2.1), (37, eo1.2.2.2.2.2.2.1), (38, eo1.2.2.2.2.2.2.2.1), (39, eo1.2.2.2.2.2.2.2.2.1), (40, eo1.2.2.2.2.2.2.2.2.2.1), (65, r65), (66, r66), (67, r67), (69, r69), (70, eo1.2.2.2.2.2.2.2.2.2.2)]) rfl]
    exact hZ
  · obtain ⟨o1, hf, hx⟩ := mj_sxl hf hx
    obtain ⟨hr9, hI9, hL9⟩ := hx
    refine mj_cnv (s1 := []) (I2 := (mj_rows I [(1, r1), (18, r18), (19, r19), (20, r20), (21, r21), (22, r22), (23, r23), (24, r24), (25, r25), (26, r26), (32, o1.1), (33, o1.2.1), (34, o1.2.2.1), (35, o1.2.2.2.1), (36, o1.2.2.2.2.1), (37, o1.2.2.2.2.2.1), (38, o1.2.2.2.2.2.2.1), (39, o1.2.2.2.2.2.2.2.1), (40, o1.2.2.2.2.2.2.2.2.1), (65, r65), (66, r66), (67, r67), (69, r69), (70, o1.2.2.2.2.2.2.2.2.2)])) (L2 := (mj_rows L [(65, q65), (68, q68)])) (by rw [hr9]; rfl) (hI9.trans (mj_rr rfl)) hL9 ?_
    refine mj_aload_n 0 dX10_worth_4 rfl ?_
    refine mj_getP p0_1_9 (by decide) fl_X10_65 rfl s0_1 a0_1 dX10_worth_5 ?_
    refine mj_aload_n 0 dX10_worth_8 rfl ?_
    refine mj_getP p0_1_5 (by decide) fl_X10_37 rfl s0_1 a0_1 dX10_worth_9 ?_
    refine mj_aload_n 0 dX10_worth_12 rfl ?_
    refine mj_getP p0_1_2 (by decide) fl_X10_23 rfl s0_1 a0_1 dX10_worth_13 ?_
    obtain ⟨o2, ho2, hf⟩ := mj_bd hf
    refine mj_callVd (I2 := (mj_rows I [(1, r1), (18, r18), (19, r19), (20, r20), (21, r21), (22, r22), (23, r23), (24, r24), (25, r25), (26, r26), (32, o1.1), (33, o1.2.1), (34, o1.2.2.1), (35, o1.2.2.2.1), (36, o1.2.2.2.2.1), (37, o1.2.2.2.2.2.1), (38, o1.2.2.2.2.2.2.1), (39, o1.2.2.2.2.2.2.2.1), (40, o1.2.2.2.2.2.2.2.2.1), (65, o2.1), (66, o2.2.1), (67, o2.2.2.1), (69, o2.2.2.2.1), (70, o1.2.2.2.2.2.2.2.2.2)])) (L2 := (mj_rows L [(65, o2.2.2.2.2.1), (68, o2.2.2.2.2.2)])) (s1 := []) (st := []) [.ref 32, .ref 18] (cmX5_find X.2.1 G F  _ _ r18 r19 r21 o1.1 o1.2.1 o1.2.2.2.2.2.1 o1.2.2.2.2.2.2.1 o1.2.2.2.2.2.2.2.1 r65 r66 r67 r69 q65 q68 rfl rfl rfl rfl rfl rfl rfl rfl rfl rfl rfl rfl rfl rfl o2 ho2) (mj_rr rfl) (mj_rr rfl) cw_X10_270 s0_65 a0_65 (by decide) rfl rfl (Nat.le_of_ble_eq_true rfl) (mj_rxc hR ⟨by decide, by decide⟩) dX10_worth_16 rfl ?_
    refine mj_aload_n 0 dX10_worth_19 rfl ?_
    refine mj_getP p0_1_9 (by decide) fl_X10_65 rfl s0_1 a0_1 dX10_worth_20 ?_
    obtain ⟨o3, ho3, hf⟩ := mj_bd hf
    refine mj_callVd (I2 := (mj_rows I [(1, r1), (18, r18), (19, r19), (20, r20), (21, r21), (22, r22), (23, r23), (24, r24), (25, r25), (26, r26), (32, o1.1), (33, o1.2.1), (34, o1.2.2.1), (35, o1.2.2.2.1), (36, o1.2.2.2.2.1), (37, o1.2.2.2.2.2.1), (38, o1.2.2.2.2.2.2.1), (39, o1.2.2.2.2.2.2.2.1), (40, o1.2.2.2.2.2.2.2.2.1), (65, o2.1), (66, o2.2.1), (67, o2.2.2.1), (69, o2.2.2.2.1), (70, o1.2.2.2.2.2.2.2.2.2)])) (L2 := (mj_rows L [(65, o2.2.2.2.2.1), (68, o2.2.2.2.2.2)])) (s1 := [.int o3]) (st := []) [] (cmX5_exists X.2.1 G F  _ _ o2.2.2.2.2.1 rfl o3 ho3) rfl (mj_rr rfl) cw_X10_273 s0_65 a0_65 (by decide) rfl rfl (Nat.le_of_ble_eq_true rfl) (mj_rxc hR ⟨by decide, by decide⟩) dX10_worth_23 rfl ?_
    refine mj_if_eq 39 dX10_worth_26 (by decide) (fun c4 => ?_) (fun c4 => ?_)
    · replace hf := mj_pos c4 hf
      refine mj_ldc2 kk_X10_285 dX10_worth_39 ?_
      obtain rfl := Option.some.inj hf
      have hZ := mj_el hq
      replace hZ := mj_u2p hZ
      replace hZ := mj_u2p hZ
      replace hZ := mj_u2p hZ
      replace hZ := mj_u2p hZ
      replace hZ := mj_u2p hZ
      replace hZ := mj_u2p hZ
      replace hZ := mj_u2p hZ
      replace hZ := mj_u2p hZ
      replace hZ := mj_u2p hZ
      replace hZ := mj_u2p hZ
      replace hZ := mj_u2p hZ
      replace hZ := mj_u2p hZ
      replace hZ := mj_u2p hZ
      replace hZ := mj_u2p hZ
      replace hZ := mj_u2p hZ
      replace hZ := mj_u2p hZ
      exact mj_lretx hR ⟨by decide, by decide⟩ rfl dX10_worth_42 hZ
    · replace hf := mj_neg c4 hf
      refine mj_aload_n 0 dX10_worth_29 rfl ?_
      refine mj_getP p0_1_9 (by decide) fl_X10_65 rfl s0_1 a0_1 dX10_worth_30 ?_
      refine mj_getLv (v := (o2.2.2.2.2.1 1)) rfl fl_X10_281 rfl s0_65 a0_65 dX10_worth_33 ?_
      refine mj_goto 42 dX10_worth_36 (by decide) ?_
      obtain rfl := Option.some.inj hf
      have hZ := mj_el hq
      replace hZ := mj_u2p hZ
      replace hZ := mj_u2p hZ
      replace hZ := mj_u2p hZ
      replace hZ := mj_u2p hZ
      replace hZ := mj_u2p hZ
      replace hZ := mj_u2p hZ
      replace hZ := mj_u2p hZ
      replace hZ := mj_u2p hZ
      replace hZ := mj_u2p hZ
      replace hZ := mj_u2p hZ
      replace hZ := mj_u2p hZ
      replace hZ := mj_u2p hZ
      replace hZ := mj_u2p hZ
      replace hZ := mj_u2p hZ
      replace hZ := mj_u2p hZ
      replace hZ := mj_u2p hZ
      exact mj_lretx hR ⟨by decide, by decide⟩ rfl dX10_worth_42 hZ
set_option maxRecDepth 100000 in
set_option maxHeartbeats 4000000 in
theorem cmX10_worth (l : Launch) (G : mj_GT) (hlt : l.stackTraces = false) (F : Nat) (I : mj_IT) (L : mj_LT) (r1 : Nat → Int32) (r18 : Nat → Int32) (r19 : Nat → Int32) (r20 : Nat → Int32) (r21 : Nat → Int32) (r22 : Nat → Int32) (r23 : Nat → Int32) (r24 : Nat → Int32) (r25 : Nat → Int32) (r26 : Nat → Int32) (r32 : Nat → Int32) (r33 : Nat → Int32) (r34 : Nat → Int32) (r35 : Nat → Int32) (r36 : Nat → Int32) (r37 : Nat → Int32) (r38 : Nat → Int32) (r39 : Nat → Int32) (r40 : Nat → Int32) (r65 : Nat → Int32) (r66 : Nat → Int32) (r67 : Nat → Int32) (r69 : Nat → Int32) (r70 : Nat → Int32) (q65 : Nat → Int64) (q68 : Nat → Int64) (hr1 : I 1 = r1) (hr18 : I 18 = r18) (hr19 : I 19 = r19) (hr20 : I 20 = r20) (hr21 : I 21 = r21) (hr22 : I 22 = r22) (hr23 : I 23 = r23) (hr24 : I 24 = r24) (hr25 : I 25 = r25) (hr26 : I 26 = r26) (hr32 : I 32 = r32) (hr33 : I 33 = r33) (hr34 : I 34 = r34) (hr35 : I 35 = r35) (hr36 : I 36 = r36) (hr37 : I 37 = r37) (hr38 : I 38 = r38) (hr39 : I 39 = r39) (hr40 : I 40 = r40) (hr65 : I 65 = r65) (hr66 : I 66 = r66) (hr67 : I 67 = r67) (hr69 : I 69 = r69) (hr70 : I 70 = r70) (hq65 : L 65 = q65) (hq68 : L 68 = q68) (o : (((Int64) × (Nat → Int32) × (Nat → Int32) × (Nat → Int32) × (Nat → Int32) × (Nat → Int32) × (Nat → Int32) × (Nat → Int32) × (Nat → Int32) × (Nat → Int32) × (Nat → Int32) × (Nat → Int32) × (Nat → Int32) × (Nat → Int32) × (Nat → Int32) × (Nat → Int64) × (Nat → Int64)) ⊕ ((Nat) × (Nat → Int32) × (Nat → Int32) × (Nat → Int32) × (Nat → Int32) × (Nat → Int32) × (Nat → Int32) × (Nat → Int32) × (Nat → Int32) × (Nat → Int32) × (Nat → Int32) × (Nat → Int32) × (Nat → Int32) × (Nat → Int32) × (Nat → Int32) × (Nat → Int64) × (Nat → Int64)))) (hf : fnX10_worth F r1 r18 r19 r20 r21 r22 r23 r24 r25 r26 r32 r33 r34 r35 r36 r37 r38 r39 r40 r65 r66 r67 r69 r70 q65 q68 = some o) : mj_Mx l G yX10_worth cX10_worth 1 9 (some .long) 1 6 mj_P0 mj_S0 98 [.ref 1] I L (fun rv I2 L2 => Sum.elim (fun o => rv = (some (.long o.1)) ∧ I2 = (mj_rows I [(1, r1), (18, r18), (19, r19), (20, r20), (21, r21), (22, r22), (23, r23), (24, r24), (25, r25), (26, r26), (32, o.2.1), (33, o.2.2.1), (34, o.2.2.2.1), (35, o.2.2.2.2.1), (36, o.2.2.2.2.2.1), (37, o.2.2.2.2.2.2.1), (38, o.2.2.2.2.2.2.2.1), (39, o.2.2.2.2.2.2.2.2.1), (40, o.2.2.2.2.2.2.2.2.2.1), (65, o.2.2.2.2.2.2.2.2.2.2.1), (66, o.2.2.2.2.2.2.2.2.2.2.2.1), (67, o.2.2.2.2.2.2.2.2.2.2.2.2.1), (69, o.2.2.2.2.2.2.2.2.2.2.2.2.2.1), (70, o.2.2.2.2.2.2.2.2.2.2.2.2.2.2.1)]) ∧ L2 = (mj_rows L [(65, o.2.2.2.2.2.2.2.2.2.2.2.2.2.2.2.1), (68, o.2.2.2.2.2.2.2.2.2.2.2.2.2.2.2.2)])) (fun _ => False) o) (fun E I2 L2 => Sum.elim (fun _ => False) (fun o => E = mj_en o.1 ∧ I2 = (mj_rows I [(1, r1), (18, r18), (19, r19), (20, r20), (21, r21), (22, r22), (23, r23), (24, r24), (25, r25), (26, r26), (32, o.2.1), (33, o.2.2.1), (34, o.2.2.2.1), (35, o.2.2.2.2.1), (36, o.2.2.2.2.2.1), (37, o.2.2.2.2.2.2.1), (38, o.2.2.2.2.2.2.2.1), (39, o.2.2.2.2.2.2.2.2.1), (40, o.2.2.2.2.2.2.2.2.2.1), (65, o.2.2.2.2.2.2.2.2.2.2.1), (66, o.2.2.2.2.2.2.2.2.2.2.2.1), (67, o.2.2.2.2.2.2.2.2.2.2.2.2.1), (69, o.2.2.2.2.2.2.2.2.2.2.2.2.2.1), (70, o.2.2.2.2.2.2.2.2.2.2.2.2.2.2.1)]) ∧ L2 = (mj_rows L [(65, o.2.2.2.2.2.2.2.2.2.2.2.2.2.2.2.1), (68, o.2.2.2.2.2.2.2.2.2.2.2.2.2.2.2.2)])) o) := by
  refine mj_inx RX10 "worth" [(0, .ref 1)] rfl rfl rfl (by decide) (Nat.le_of_ble_eq_true rfl) (fun X ad hR => ?_)
  refine mj_toI [(1, r1), (18, r18), (19, r19), (20, r20), (21, r21), (22, r22), (23, r23), (24, r24), (25, r25), (26, r26), (32, r32), (33, r33), (34, r34), (35, r35), (36, r36), (37, r37), (38, r38), (39, r39), (40, r40), (65, r65), (66, r66), (67, r67), (69, r69), (70, r70)] (by intro q hq; simp only [List.mem_cons, List.not_mem_nil, or_false] at hq; rcases hq with rfl | rfl | rfl | rfl | rfl | rfl | rfl | rfl | rfl | rfl | rfl | rfl | rfl | rfl | rfl | rfl | rfl | rfl | rfl | rfl | rfl | rfl | rfl | rfl <;> assumption) ?_
  refine mj_toL [(65, q65), (68, q68)] (by intro q hq; simp only [List.mem_cons, List.not_mem_nil, or_false] at hq; rcases hq with rfl | rfl <;> assumption) ?_
  refine mtX10_worth hR hlt F I L r1 r18 r19 r20 r21 r22 r23 r24 r25 r26 r32 r33 r34 r35 r36 r37 r38 r39 r40 r65 r66 r67 r69 r70 q65 q68 o hf ?_
  rcases o with o | o
  · refine mj_elq ?_
    obtain ⟨w0, w1, w2, w3, w4, w5, w6, w7, w8, w9, w10, w11, w12, w13, w14, w15, w16⟩ := o
    refine mj_u2q ?_
    refine mj_u2q ?_
    refine mj_u2q ?_
    refine mj_u2q ?_
    refine mj_u2q ?_
    refine mj_u2q ?_
    refine mj_u2q ?_
    refine mj_u2q ?_
    refine mj_u2q ?_
    refine mj_u2q ?_
    refine mj_u2q ?_
    refine mj_u2q ?_
    refine mj_u2q ?_
    refine mj_u2q ?_
    refine mj_u2q ?_
    refine mj_u2q ?_
    refine mj_elq ?_
    exact ⟨rfl, rfl, rfl⟩
  · refine mj_erq ?_
    obtain ⟨w0, w1, w2, w3, w4, w5, w6, w7, w8, w9, w10, w11, w12, w13, w14, w15, w16⟩ := o
    refine mj_u2q ?_
    refine mj_u2q ?_
    refine mj_u2q ?_
    refine mj_u2q ?_
    refine mj_u2q ?_
    refine mj_u2q ?_
    refine mj_u2q ?_
    refine mj_u2q ?_
    refine mj_u2q ?_
    refine mj_u2q ?_
    refine mj_u2q ?_
    refine mj_u2q ?_
    refine mj_u2q ?_
    refine mj_u2q ?_
    refine mj_u2q ?_
    refine mj_u2q ?_
    refine mj_erq ?_
    exact ⟨rfl, rfl, rfl⟩

-- X10_print
def bdX10_print_19 (F : Nat) (r32 : Nat → Int32) (r33 : Nat → Int32) (r34 : Nat → Int32) (x1 : Int64) (x3 : Int32) : Option (((Int64) × (Int32)) ⊕ ((Int64))) := (if (r32 2) ≤ x3 then some (.inr x1) else (if (r32 6) = 0 then (if mj_ib x3 200 = true then (if mj_ib x3 200 = true then some (.inl ((((31 : Int64) * (((31 : Int64) * x1) + ((r33 x3.toNatClampNeg).toInt64))) + ((r34 x3.toNatClampNeg).toInt64)), (x3 + (1)))) else none) else none) else some (.inr x1)))
def fnX10_print (F : Nat) (r1 : Nat → Int32) (r18 : Nat → Int32) (r19 : Nat → Int32) (r20 : Nat → Int32) (r21 : Nat → Int32) (r22 : Nat → Int32) (r23 : Nat → Int32) (r24 : Nat → Int32) (r25 : Nat → Int32) (r26 : Nat → Int32) (r32 : Nat → Int32) (r33 : Nat → Int32) (r34 : Nat → Int32) (r35 : Nat → Int32) (r36 : Nat → Int32) (r37 : Nat → Int32) (r38 : Nat → Int32) (r39 : Nat → Int32) (r40 : Nat → Int32) : Option ((Int64) × (Nat → Int32) × (Nat → Int32) × (Nat → Int32) × (Nat → Int32) × (Nat → Int32) × (Nat → Int32) × (Nat → Int32) × (Nat → Int32) × (Nat → Int32)) := (fnX4_explore F r18 r19 r20 r21 r22 r23 r24 r25 r26 r32 r33 r34 r35 r36 r37 r38 r39 r40 (r1 3)).bind (fun o5 => (mj_it (mj_u2 (fun z0 z1 => bdX10_print_19 F o5.1 o5.2.1 o5.2.2.1 z0 z1)) F ((0 : Int64), (0 : Int32))).bind (fun x1_6 => some (x1_6, o5.1, o5.2.1, o5.2.2.1, o5.2.2.2.1, o5.2.2.2.2.1, o5.2.2.2.2.2.1, o5.2.2.2.2.2.2.1, o5.2.2.2.2.2.2.2.1, o5.2.2.2.2.2.2.2.2)))
set_option maxRecDepth 100000 in
set_option maxHeartbeats 4000000 in
theorem lpX10_print_19 {X : mj_XT} {l : Launch} {G : mj_GT} {ad : Nat → Nat} {Qn : Option Value → mj_IT → mj_LT → Prop} (hR : mj_R X l G mj_P0 mj_S0 98 ad 0 0 Qn) (F : Nat) (I : mj_IT) (L : mj_LT) (r1 : Nat → Int32) (r18 : Nat → Int32) (r19 : Nat → Int32) (r20 : Nat → Int32) (r21 : Nat → Int32) (r22 : Nat → Int32) (r23 : Nat → Int32) (r24 : Nat → Int32) (r25 : Nat → Int32) (r26 : Nat → Int32) (r32 : Nat → Int32) (r33 : Nat → Int32) (r34 : Nat → Int32) (r35 : Nat → Int32) (r36 : Nat → Int32) (r37 : Nat → Int32) (r38 : Nat → Int32) (r39 : Nat → Int32) (r40 : Nat → Int32) : ∀ (n : Nat) (s : ((Int64) × (Int32))) (e : ((Int64))), mj_it (mj_u2 (fun z0 z1 => bdX10_print_19 F r32 r33 r34 z0 z1)) n s = some e → (fun x1 => mj_W X G RX10 "print" cX10_print 4 6 (some .long) mj_P0 mj_S0 98 ad 0 0 80 [(1, .long x1)] [] (mj_rows I [(1, r1), (18, r18), (19, r19), (20, r20), (21, r21), (22, r22), (23, r23), (24, r24), (25, r25), (26, r26), (32, r32), (33, r33), (34, r34), (35, r35), (36, r36), (37, r37), (38, r38), (39, r39), (40, r40)]) L) e → (mj_u2 (fun x1 x3 => mj_W X G RX10 "print" cX10_print 4 6 (some .long) mj_P0 mj_S0 98 ad 0 0 19 [(0, .ref 1), (1, .long x1), (3, .int x3)] [] (mj_rows I [(1, r1), (18, r18), (19, r19), (20, r20), (21, r21), (22, r22), (23, r23), (24, r24), (25, r25), (26, r26), (32, r32), (33, r33), (34, r34), (35, r35), (36, r36), (37, r37), (38, r38), (39, r39), (40, r40)]) L)) s := by
  refine mj_loop (fun s o hf hc hx => ?_)
  obtain ⟨x1, x3⟩ := s
  replace hf := mj_u2e hf
  refine mj_u2q ?_
  unfold bdX10_print_19 at hf
  refine mj_iload_n 2 dX10_print_19 rfl ?_
  refine mj_aload_n 0 dX10_print_20 rfl ?_
  refine mj_getP p0_1_5 (by decide) fl_X10_37 rfl s0_1 a0_1 dX10_print_21 ?_
  refine mj_getIv (v := (r32 2)) rfl fl_X10_153 rfl s0_32 a0_32 dX10_print_24 ?_
  refine mj_icmp_ge 80 dX10_print_27 (by decide) (fun c1 => ?_) (fun c1 => ?_)
  · replace hf := mj_pos c1 hf
    refine mj_sub [1] [(1, .long x1)] rfl ?_
    obtain rfl := Option.some.inj hf
    have hZ := hx x1 rfl
    exact hZ
  · replace hf := mj_neg c1 hf
    refine mj_aload_n 0 dX10_print_30 rfl ?_
    refine mj_getP p0_1_5 (by decide) fl_X10_37 rfl s0_1 a0_1 dX10_print_31 ?_
    refine mj_getIv (v := (r32 6)) rfl fl_X10_149 rfl s0_32 a0_32 dX10_print_34 ?_
    refine mj_if_ne 80 dX10_print_37 (by decide) (fun c2 => ?_) (fun c2 => ?_)
    · replace hf := mj_neg c2 hf
      refine mj_sub [1] [(1, .long x1)] rfl ?_
      obtain rfl := Option.some.inj hf
      have hZ := hx x1 rfl
      exact hZ
    · replace hf := mj_pos c2 hf
      refine mj_ldc2 kk_X10_287 dX10_print_40 ?_
      refine mj_lload_n 1 dX10_print_43 rfl ?_
      refine mj_lmul dX10_print_44 ?_
      refine mj_aload_n 0 dX10_print_45 rfl ?_
      refine mj_getP p0_1_5 (by decide) fl_X10_37 rfl s0_1 a0_1 dX10_print_46 ?_
      refine mj_getP p0_32_8 (by decide) fl_X10_181 rfl s0_32 a0_32 dX10_print_49 ?_
      refine mj_iload_n 2 dX10_print_52 rfl ?_
      obtain ⟨z3, hf⟩ := mj_ck hf
      refine mj_ialdv (x := r33) rfl s0_33 a0_33 z3 dX10_print_53 ?_
      refine mj_i2l dX10_print_54 ?_
      refine mj_ladd dX10_print_55 ?_
      refine mj_lstore_n [(1, .long (((31 : Int64) * x1) + ((r33 x3.toNatClampNeg).toInt64))), (0, .ref 1), (3, .int x3)] dX10_print_56 rfl (by decide) rfl ?_
      refine mj_ldc2 kk_X10_287 dX10_print_57 ?_
      refine mj_lload_n 0 dX10_print_60 rfl ?_
      refine mj_lmul dX10_print_61 ?_
      refine mj_aload_n 1 dX10_print_62 rfl ?_
      refine mj_getP p0_1_5 (by decide) fl_X10_37 rfl s0_1 a0_1 dX10_print_63 ?_
      refine mj_getP p0_32_9 (by decide) fl_X10_194 rfl s0_32 a0_32 dX10_print_66 ?_
      refine mj_iload_n 2 dX10_print_69 rfl ?_
      obtain ⟨z4, hf⟩ := mj_ck hf
      refine mj_ialdv (x := r34) rfl s0_34 a0_34 z4 dX10_print_70 ?_
      refine mj_i2l dX10_print_71 ?_
      refine mj_ladd dX10_print_72 ?_
      refine mj_lstore_n [(1, .long (((31 : Int64) * (((31 : Int64) * x1) + ((r33 x3.toNatClampNeg).toInt64))) + ((r34 x3.toNatClampNeg).toInt64))), (0, .ref 1), (3, .int x3)] dX10_print_73 rfl (by decide) rfl ?_
      refine mj_iinc 2 [(3, .int (x3 + (1))), (1, .long (((31 : Int64) * (((31 : Int64) * x1) + ((r33 x3.toNatClampNeg).toInt64))) + ((r34 x3.toNatClampNeg).toInt64))), (0, .ref 1)] dX10_print_74 rfl (kz_1 _) (by decide) rfl ?_
      refine mj_goto 19 dX10_print_77 (by decide) ?_
      refine mj_sub [2, 1, 0] [(0, .ref 1), (1, .long (((31 : Int64) * (((31 : Int64) * x1) + ((r33 x3.toNatClampNeg).toInt64))) + ((r34 x3.toNatClampNeg).toInt64))), (3, .int (x3 + (1)))] rfl ?_
      obtain rfl := Option.some.inj hf
      have hZ := hc ((((31 : Int64) * (((31 : Int64) * x1) + ((r33 x3.toNatClampNeg).toInt64))) + ((r34 x3.toNatClampNeg).toInt64)), (x3 + (1))) rfl
      replace hZ := mj_u2p hZ
      exact hZ
set_option maxRecDepth 100000 in
set_option maxHeartbeats 4000000 in
theorem mtX10_print {X : mj_XT} {l : Launch} {G : mj_GT} {ad : Nat → Nat} {Qn : Option Value → mj_IT → mj_LT → Prop} (hR : mj_R X l G mj_P0 mj_S0 98 ad 0 0 Qn) (F : Nat) (I : mj_IT) (L : mj_LT) (r1 : Nat → Int32) (r18 : Nat → Int32) (r19 : Nat → Int32) (r20 : Nat → Int32) (r21 : Nat → Int32) (r22 : Nat → Int32) (r23 : Nat → Int32) (r24 : Nat → Int32) (r25 : Nat → Int32) (r26 : Nat → Int32) (r32 : Nat → Int32) (r33 : Nat → Int32) (r34 : Nat → Int32) (r35 : Nat → Int32) (r36 : Nat → Int32) (r37 : Nat → Int32) (r38 : Nat → Int32) (r39 : Nat → Int32) (r40 : Nat → Int32) (o : ((Int64) × (Nat → Int32) × (Nat → Int32) × (Nat → Int32) × (Nat → Int32) × (Nat → Int32) × (Nat → Int32) × (Nat → Int32) × (Nat → Int32) × (Nat → Int32))) (hf : fnX10_print F r1 r18 r19 r20 r21 r22 r23 r24 r25 r26 r32 r33 r34 r35 r36 r37 r38 r39 r40 = some o) (hq : (mj_u2 (fun ov => (mj_u2 (fun r32 => (mj_u2 (fun r33 => (mj_u2 (fun r34 => (mj_u2 (fun r35 => (mj_u2 (fun r36 => (mj_u2 (fun r37 => (mj_u2 (fun r38 => (mj_u2 (fun r39 r40 => Qn (some (.long ov)) (mj_rows I [(1, r1), (18, r18), (19, r19), (20, r20), (21, r21), (22, r22), (23, r23), (24, r24), (25, r25), (26, r26), (32, r32), (33, r33), (34, r34), (35, r35), (36, r36), (37, r37), (38, r38), (39, r39), (40, r40)]) L)))))))))))))))))) o) : mj_W X G RX10 "print" cX10_print 4 6 (some .long) mj_P0 mj_S0 98 ad 0 0 0 [(0, .ref 1)] [] (mj_rows I [(1, r1), (18, r18), (19, r19), (20, r20), (21, r21), (22, r22), (23, r23), (24, r24), (25, r25), (26, r26), (32, r32), (33, r33), (34, r34), (35, r35), (36, r36), (37, r37), (38, r38), (39, r39), (40, r40)]) L := by
  unfold fnX10_print at hf
  refine mj_aload_n 0 dX10_print_0 rfl ?_
  refine mj_getP p0_1_5 (by decide) fl_X10_37 rfl s0_1 a0_1 dX10_print_1 ?_
  refine mj_aload_n 0 dX10_print_4 rfl ?_
  refine mj_getP p0_1_2 (by decide) fl_X10_23 rfl s0_1 a0_1 dX10_print_5 ?_
  refine mj_aload_n 0 dX10_print_8 rfl ?_
  refine mj_getIv (v := (r1 3)) rfl fl_X10_95 rfl s0_1 a0_1 dX10_print_9 ?_
  obtain ⟨o5, ho5, hf⟩ := mj_bd hf
  refine mj_callVd (I2 := (mj_rows I [(1, r1), (18, r18), (19, r19), (20, r20), (21, r21), (22, r22), (23, r23), (24, r24), (25, r25), (26, r26), (32, o5.1), (33, o5.2.1), (34, o5.2.2.1), (35, o5.2.2.2.1), (36, o5.2.2.2.2.1), (37, o5.2.2.2.2.2.1), (38, o5.2.2.2.2.2.2.1), (39, o5.2.2.2.2.2.2.2.1), (40, o5.2.2.2.2.2.2.2.2)])) (L2 := L) (s1 := []) (st := []) [.ref 18, .int (r1 3)] (cmX4_explore X.2.1 G F (r1 3) _ _ r18 r19 r20 r21 r22 r23 r24 r25 r26 r32 r33 r34 r35 r36 r37 r38 r39 r40 rfl rfl rfl rfl rfl rfl rfl rfl rfl rfl rfl rfl rfl rfl rfl rfl rfl rfl o5 ho5) (mj_rr rfl) rfl cw_X10_145 s0_32 a0_32 (by decide) rfl rfl (Nat.le_of_ble_eq_true rfl) ⟨Nat.zero_le _, Nat.zero_le _⟩ dX10_print_12 rfl ?_
  refine mj_lconst (v := 0) dX10_print_15 (by decide) ?_
  refine mj_lstore_n [(1, .long (0 : Int64)), (0, .ref 1)] dX10_print_16 rfl (by decide) rfl ?_
  refine mj_iconst dX10_print_17 kc_iconst_0 ?_
  refine mj_istore_n [(3, .int (0 : Int32)), (1, .long (0 : Int64)), (0, .ref 1)] dX10_print_18 rfl (by decide) rfl ?_
  refine mj_sub [2, 1, 0] [(0, .ref 1), (1, .long (0 : Int64)), (3, .int (0 : Int32))] rfl ?_
  obtain ⟨x1_6, ho6, hf⟩ := mj_bd hf
  refine lpX10_print_19 hR F I L r1 r18 r19 r20 r21 r22 r23 r24 r25 r26 o5.1 o5.2.1 o5.2.2.1 o5.2.2.2.1 o5.2.2.2.2.1 o5.2.2.2.2.2.1 o5.2.2.2.2.2.2.1 o5.2.2.2.2.2.2.2.1 o5.2.2.2.2.2.2.2.2 F ((0 : Int64), (0 : Int32)) x1_6 ho6 ?_
  refine ?_
  refine mj_lload_n 0 dX10_print_80 rfl ?_
  obtain rfl := Option.some.inj hf
  have hZ := hq
  replace hZ := mj_u2p hZ
  replace hZ := mj_u2p hZ
  replace hZ := mj_u2p hZ
  replace hZ := mj_u2p hZ
  replace hZ := mj_u2p hZ
  replace hZ := mj_u2p hZ
  replace hZ := mj_u2p hZ
  replace hZ := mj_u2p hZ
  replace hZ := mj_u2p hZ
  exact mj_lret hR ⟨Nat.le_refl _, Nat.le_refl _⟩ rfl dX10_print_81 hZ
set_option maxRecDepth 100000 in
set_option maxHeartbeats 4000000 in
theorem cmX10_print (l : Launch) (G : mj_GT) (F : Nat) (I : mj_IT) (L : mj_LT) (r1 : Nat → Int32) (r18 : Nat → Int32) (r19 : Nat → Int32) (r20 : Nat → Int32) (r21 : Nat → Int32) (r22 : Nat → Int32) (r23 : Nat → Int32) (r24 : Nat → Int32) (r25 : Nat → Int32) (r26 : Nat → Int32) (r32 : Nat → Int32) (r33 : Nat → Int32) (r34 : Nat → Int32) (r35 : Nat → Int32) (r36 : Nat → Int32) (r37 : Nat → Int32) (r38 : Nat → Int32) (r39 : Nat → Int32) (r40 : Nat → Int32) (hr1 : I 1 = r1) (hr18 : I 18 = r18) (hr19 : I 19 = r19) (hr20 : I 20 = r20) (hr21 : I 21 = r21) (hr22 : I 22 = r22) (hr23 : I 23 = r23) (hr24 : I 24 = r24) (hr25 : I 25 = r25) (hr26 : I 26 = r26) (hr32 : I 32 = r32) (hr33 : I 33 = r33) (hr34 : I 34 = r34) (hr35 : I 35 = r35) (hr36 : I 36 = r36) (hr37 : I 37 = r37) (hr38 : I 38 = r38) (hr39 : I 39 = r39) (hr40 : I 40 = r40) (o : ((Int64) × (Nat → Int32) × (Nat → Int32) × (Nat → Int32) × (Nat → Int32) × (Nat → Int32) × (Nat → Int32) × (Nat → Int32) × (Nat → Int32) × (Nat → Int32))) (hf : fnX10_print F r1 r18 r19 r20 r21 r22 r23 r24 r25 r26 r32 r33 r34 r35 r36 r37 r38 r39 r40 = some o) : mj_M l G yX10_print cX10_print 4 6 (some .long) 0 0 mj_P0 mj_S0 98 [.ref 1] I L (mj_qd (some (.long o.1)) (mj_rows I [(1, r1), (18, r18), (19, r19), (20, r20), (21, r21), (22, r22), (23, r23), (24, r24), (25, r25), (26, r26), (32, o.2.1), (33, o.2.2.1), (34, o.2.2.2.1), (35, o.2.2.2.2.1), (36, o.2.2.2.2.2.1), (37, o.2.2.2.2.2.2.1), (38, o.2.2.2.2.2.2.2.1), (39, o.2.2.2.2.2.2.2.2.1), (40, o.2.2.2.2.2.2.2.2.2)]) L) := by
  refine mj_in RX10 "print" [(0, .ref 1)] rfl rfl rfl (by decide) (Nat.le_of_ble_eq_true rfl) (fun X ad hR => ?_)
  refine mj_toI [(1, r1), (18, r18), (19, r19), (20, r20), (21, r21), (22, r22), (23, r23), (24, r24), (25, r25), (26, r26), (32, r32), (33, r33), (34, r34), (35, r35), (36, r36), (37, r37), (38, r38), (39, r39), (40, r40)] (by intro q hq; simp only [List.mem_cons, List.not_mem_nil, or_false] at hq; rcases hq with rfl | rfl | rfl | rfl | rfl | rfl | rfl | rfl | rfl | rfl | rfl | rfl | rfl | rfl | rfl | rfl | rfl | rfl | rfl <;> assumption) ?_
  refine mtX10_print hR F I L r1 r18 r19 r20 r21 r22 r23 r24 r25 r26 r32 r33 r34 r35 r36 r37 r38 r39 r40 o hf ?_
  obtain ⟨w0, w1, w2, w3, w4, w5, w6, w7, w8, w9⟩ := o
  refine mj_u2q ?_
  refine mj_u2q ?_
  refine mj_u2q ?_
  refine mj_u2q ?_
  refine mj_u2q ?_
  refine mj_u2q ?_
  refine mj_u2q ?_
  refine mj_u2q ?_
  refine mj_u2q ?_
  exact ⟨rfl, rfl, rfl⟩

-- X10_status
def fnX10_status (F : Nat) (r70 : Nat → Int32) (x1 : Int32) : Option ((Int32)) := (if x1 < 0 then some (-1 : Int32) else (if (3 : Int32) ≤ x1 then some (-1 : Int32) else (if mj_ib x1 3 = true then some (r70 x1.toNatClampNeg) else none)))
set_option maxRecDepth 100000 in
set_option maxHeartbeats 4000000 in
theorem mtX10_status {X : mj_XT} {l : Launch} {G : mj_GT} {ad : Nat → Nat} {Qn : Option Value → mj_IT → mj_LT → Prop} (hR : mj_R X l G mj_P0 mj_S0 98 ad 0 0 Qn) (F : Nat) (I : mj_IT) (L : mj_LT) (r70 : Nat → Int32) (x1 : Int32) (o : ((Int32))) (hf : fnX10_status F r70 x1 = some o) (hq : (fun ov => Qn (some (.int ov)) (mj_rows I [(70, r70)]) L) o) : mj_W X G RX10 "status" cX10_status 2 1 (some .int) mj_P0 mj_S0 98 ad 0 0 0 [(0, .ref 1), (1, .int x1)] [] (mj_rows I [(70, r70)]) L := by
  unfold fnX10_status at hf
  refine mj_iload_n 1 dX10_status_0 rfl ?_
  refine mj_if_lt 22 dX10_status_1 (by decide) (fun c1 => ?_) (fun c1 => ?_)
  · replace hf := mj_pos c1 hf
    refine mj_iconst dX10_status_22 kc_iconst_m1 ?_
    obtain rfl := Option.some.inj hf
    have hZ := hq
    exact mj_iret hR ⟨Nat.le_refl _, Nat.le_refl _⟩ rfl rfl dX10_status_23 hZ
  · replace hf := mj_neg c1 hf
    refine mj_iload_n 1 dX10_status_4 rfl ?_
    refine mj_aload_n 0 dX10_status_5 rfl ?_
    refine mj_getP p0_1_10 (by decide) fl_X10_69 rfl s0_1 a0_1 dX10_status_6 ?_
    refine mj_alen (v := 3) s0_70 (by decide) a0_70 (by decide +kernel) dX10_status_9 ?_
    refine mj_icmp_ge 22 dX10_status_10 (by decide) (fun c2 => ?_) (fun c2 => ?_)
    · replace hf := mj_pos c2 hf
      refine mj_iconst dX10_status_22 kc_iconst_m1 ?_
      obtain rfl := Option.some.inj hf
      have hZ := hq
      exact mj_iret hR ⟨Nat.le_refl _, Nat.le_refl _⟩ rfl rfl dX10_status_23 hZ
    · replace hf := mj_neg c2 hf
      refine mj_aload_n 0 dX10_status_13 rfl ?_
      refine mj_getP p0_1_10 (by decide) fl_X10_69 rfl s0_1 a0_1 dX10_status_14 ?_
      refine mj_iload_n 1 dX10_status_17 rfl ?_
      obtain ⟨z3, hf⟩ := mj_ck hf
      refine mj_ialdv (x := r70) rfl s0_70 a0_70 z3 dX10_status_18 ?_
      refine mj_goto 23 dX10_status_19 (by decide) ?_
      obtain rfl := Option.some.inj hf
      have hZ := hq
      exact mj_iret hR ⟨Nat.le_refl _, Nat.le_refl _⟩ rfl rfl dX10_status_23 hZ
set_option maxRecDepth 100000 in
set_option maxHeartbeats 4000000 in
theorem cmX10_status (l : Launch) (G : mj_GT) (F : Nat) (x1 : Int32) (I : mj_IT) (L : mj_LT) (r70 : Nat → Int32) (hr70 : I 70 = r70) (o : ((Int32))) (hf : fnX10_status F r70 x1 = some o) : mj_M l G yX10_status cX10_status 2 1 (some .int) 0 0 mj_P0 mj_S0 98 [.ref 1, .int x1] I L (mj_qd (some (.int o)) (mj_rows I [(70, r70)]) L) := by
  refine mj_in RX10 "status" [(0, .ref 1), (1, .int x1)] rfl rfl rfl (by decide) (Nat.le_of_ble_eq_true rfl) (fun X ad hR => ?_)
  refine mj_toI [(70, r70)] (by intro q hq; simp only [List.mem_cons, List.not_mem_nil, or_false] at hq; rcases hq with rfl <;> assumption) ?_
  refine mtX10_status hR F I L r70 x1 o hf ?_
  exact ⟨rfl, rfl, rfl⟩

-- X11_thrown
def fnX11_thrown (F : Nat) (r71 : Nat → Int32) : Option ((Int32)) := some (r71 0)
set_option maxRecDepth 100000 in
set_option maxHeartbeats 4000000 in
theorem mtX11_thrown {X : mj_XT} {l : Launch} {G : mj_GT} {ad : Nat → Nat} {Qn : Option Value → mj_IT → mj_LT → Prop} (hR : mj_R X l G mj_P0 mj_S0 98 ad 0 0 Qn) (F : Nat) (I : mj_IT) (L : mj_LT) (r71 : Nat → Int32) (o : ((Int32))) (hf : fnX11_thrown F r71 = some o) (hq : (fun ov => Qn (some (.int ov)) (mj_rows I [(71, r71)]) L) o) : mj_W X G RX11 "thrown" cX11_thrown 1 1 (some .int) mj_P0 mj_S0 98 ad 0 0 0 [(0, .ref 71)] [] (mj_rows I [(71, r71)]) L := by
  unfold fnX11_thrown at hf
  refine mj_aload_n 0 dX11_thrown_0 rfl ?_
  refine mj_getIv (v := (r71 0)) rfl fl_X11_1 rfl s0_71 a0_71 dX11_thrown_1 ?_
  obtain rfl := Option.some.inj hf
  have hZ := hq
  exact mj_iret hR ⟨Nat.le_refl _, Nat.le_refl _⟩ rfl rfl dX11_thrown_4 hZ
set_option maxRecDepth 100000 in
set_option maxHeartbeats 4000000 in
theorem cmX11_thrown (l : Launch) (G : mj_GT) (F : Nat) (I : mj_IT) (L : mj_LT) (r71 : Nat → Int32) (hr71 : I 71 = r71) (o : ((Int32))) (hf : fnX11_thrown F r71 = some o) : mj_M l G yX11_thrown cX11_thrown 1 1 (some .int) 0 0 mj_P0 mj_S0 98 [.ref 71] I L (mj_qd (some (.int o)) (mj_rows I [(71, r71)]) L) := by
  refine mj_in RX11 "thrown" [(0, .ref 71)] rfl rfl rfl (by decide) (Nat.le_of_ble_eq_true rfl) (fun X ad hR => ?_)
  refine mj_toI [(71, r71)] (by intro q hq; simp only [List.mem_cons, List.not_mem_nil, or_false] at hq; rcases hq with rfl <;> assumption) ?_
  refine mtX11_thrown hR F I L r71 o hf ?_
  exact ⟨rfl, rfl, rfl⟩

-- X11_isFine
def fnX11_isFine (F : Nat) (r71 : Nat → Int32) (r72 : Nat → Int32) (x1 : Int32) (x2 : Int32) (x3 : Int32) : Option ((Int32) × (Nat → Int32) × (Nat → Int32)) := (if x1 = 0 then (if (r71 0) = 0 then (if mj_ib x3 3 = true then (if mj_ib x3 3 = true then (if x2 = 0 then some ((1 : Int32), (upd r71 0 x2), (upd r72 x3.toNatClampNeg ((r72 x3.toNatClampNeg) + (1 : Int32)))) else some ((0 : Int32), (upd r71 0 x2), (upd r72 x3.toNatClampNeg ((r72 x3.toNatClampNeg) + (1 : Int32))))) else none) else none) else (if (r71 0) = 0 then some ((1 : Int32), r71, r72) else some ((0 : Int32), r71, r72))) else (if (r71 0) = 0 then some ((1 : Int32), r71, r72) else some ((0 : Int32), r71, r72)))
set_option maxRecDepth 100000 in
set_option maxHeartbeats 4000000 in
theorem mtX11_isFine {X : mj_XT} {l : Launch} {G : mj_GT} {ad : Nat → Nat} {Qn : Option Value → mj_IT → mj_LT → Prop} (hR : mj_R X l G mj_P0 mj_S0 98 ad 0 0 Qn) (F : Nat) (I : mj_IT) (L : mj_LT) (r71 : Nat → Int32) (r72 : Nat → Int32) (x1 : Int32) (x2 : Int32) (x3 : Int32) (o : ((Int32) × (Nat → Int32) × (Nat → Int32))) (hf : fnX11_isFine F r71 r72 x1 x2 x3 = some o) (hq : (mj_u2 (fun ov => (mj_u2 (fun r71 r72 => Qn (some (.int ov)) (mj_rows I [(71, r71), (72, r72)]) L)))) o) : mj_W X G RX11 "isFine" cX11_isFine 4 1 (some .boolean) mj_P0 mj_S0 98 ad 0 0 0 [(0, .ref 71), (1, .int x1), (2, .int x2), (3, .int x3)] [] (mj_rows I [(71, r71), (72, r72)]) L := by
  unfold fnX11_isFine at hf
  refine mj_iload_n 1 dX11_isFine_0 rfl ?_
  refine mj_if_ne 26 dX11_isFine_1 (by decide) (fun c1 => ?_) (fun c1 => ?_)
  · replace hf := mj_neg c1 hf
    refine mj_aload_n 0 dX11_isFine_26 rfl ?_
    refine mj_getIv (v := (r71 0)) rfl fl_X11_1 rfl s0_71 a0_71 dX11_isFine_27 ?_
    refine mj_if_ne 37 dX11_isFine_30 (by decide) (fun c2 => ?_) (fun c2 => ?_)
    · replace hf := mj_neg c2 hf
      refine mj_iconst dX11_isFine_37 kc_iconst_0 ?_
      obtain rfl := Option.some.inj hf
      have hZ := hq
      replace hZ := mj_u2p hZ
      replace hZ := mj_u2p hZ
      exact mj_iret hR ⟨Nat.le_refl _, Nat.le_refl _⟩ rfl (by decide) dX11_isFine_38 hZ
    · replace hf := mj_pos c2 hf
      refine mj_iconst dX11_isFine_33 kc_iconst_1 ?_
      refine mj_goto 38 dX11_isFine_34 (by decide) ?_
      obtain rfl := Option.some.inj hf
      have hZ := hq
      replace hZ := mj_u2p hZ
      replace hZ := mj_u2p hZ
      exact mj_iret hR ⟨Nat.le_refl _, Nat.le_refl _⟩ rfl (by decide) dX11_isFine_38 hZ
  · replace hf := mj_pos c1 hf
    refine mj_aload_n 0 dX11_isFine_4 rfl ?_
    refine mj_getIv (v := (r71 0)) rfl fl_X11_1 rfl s0_71 a0_71 dX11_isFine_5 ?_
    refine mj_if_ne 26 dX11_isFine_8 (by decide) (fun c3 => ?_) (fun c3 => ?_)
    · replace hf := mj_neg c3 hf
      refine mj_aload_n 0 dX11_isFine_26 rfl ?_
      refine mj_getIv (v := (r71 0)) rfl fl_X11_1 rfl s0_71 a0_71 dX11_isFine_27 ?_
      refine mj_if_ne 37 dX11_isFine_30 (by decide) (fun c4 => ?_) (fun c4 => ?_)
      · replace hf := mj_neg c4 hf
        refine mj_iconst dX11_isFine_37 kc_iconst_0 ?_
        obtain rfl := Option.some.inj hf
        have hZ := hq
        replace hZ := mj_u2p hZ
        replace hZ := mj_u2p hZ
        exact mj_iret hR ⟨Nat.le_refl _, Nat.le_refl _⟩ rfl (by decide) dX11_isFine_38 hZ
      · replace hf := mj_pos c4 hf
        refine mj_iconst dX11_isFine_33 kc_iconst_1 ?_
        refine mj_goto 38 dX11_isFine_34 (by decide) ?_
        obtain rfl := Option.some.inj hf
        have hZ := hq
        replace hZ := mj_u2p hZ
        replace hZ := mj_u2p hZ
        exact mj_iret hR ⟨Nat.le_refl _, Nat.le_refl _⟩ rfl (by decide) dX11_isFine_38 hZ
    · replace hf := mj_pos c3 hf
      refine mj_aload_n 0 dX11_isFine_11 rfl ?_
      refine mj_iload_n 2 dX11_isFine_12 rfl ?_
      refine mj_putIr (ci := 9) (j := 0) [(71, (upd r71 0 x2)), (72, r72)] rfl ⟨rfl, rfl⟩ fl_X11_1 rfl rfl s0_71 a0_71 dX11_isFine_13 ?_
      refine mj_aload_n 0 dX11_isFine_16 rfl ?_
      refine mj_getP p0_71_1 (by decide) fl_X11_7 rfl s0_71 a0_71 dX11_isFine_17 ?_
      refine mj_iload_n 3 dX11_isFine_20 rfl ?_
      refine mj_dup2 dX11_isFine_21 rfl rfl ?_
      obtain ⟨z5, hf⟩ := mj_ck hf
      refine mj_ialdv (x := r72) rfl s0_72 a0_72 z5 dX11_isFine_22 ?_
      refine mj_iconst dX11_isFine_23 kc_iconst_1 ?_
      refine mj_iadd dX11_isFine_24 ?_
      obtain ⟨z6, hf⟩ := mj_ck hf
      refine mj_iastr [(71, (upd r71 0 x2)), (72, (upd r72 x3.toNatClampNeg ((r72 x3.toNatClampNeg) + (1 : Int32))))] rfl s0_72 a0_72 z6 dX11_isFine_25 ?_
      refine mj_aload_n 0 dX11_isFine_26 rfl ?_
      refine mj_getIv (v := x2) rfl fl_X11_1 rfl s0_71 a0_71 dX11_isFine_27 ?_
      refine mj_if_ne 37 dX11_isFine_30 (by decide) (fun c7 => ?_) (fun c7 => ?_)
      · replace hf := mj_neg c7 hf
        refine mj_iconst dX11_isFine_37 kc_iconst_0 ?_
        obtain rfl := Option.some.inj hf
        have hZ := hq
        replace hZ := mj_u2p hZ
        replace hZ := mj_u2p hZ
        exact mj_iret hR ⟨Nat.le_refl _, Nat.le_refl _⟩ rfl (by decide) dX11_isFine_38 hZ
      · replace hf := mj_pos c7 hf
        refine mj_iconst dX11_isFine_33 kc_iconst_1 ?_
        refine mj_goto 38 dX11_isFine_34 (by decide) ?_
        obtain rfl := Option.some.inj hf
        have hZ := hq
        replace hZ := mj_u2p hZ
        replace hZ := mj_u2p hZ
        exact mj_iret hR ⟨Nat.le_refl _, Nat.le_refl _⟩ rfl (by decide) dX11_isFine_38 hZ
set_option maxRecDepth 100000 in
set_option maxHeartbeats 4000000 in
theorem cmX11_isFine (l : Launch) (G : mj_GT) (F : Nat) (x1 : Int32) (x2 : Int32) (x3 : Int32) (I : mj_IT) (L : mj_LT) (r71 : Nat → Int32) (r72 : Nat → Int32) (hr71 : I 71 = r71) (hr72 : I 72 = r72) (o : ((Int32) × (Nat → Int32) × (Nat → Int32))) (hf : fnX11_isFine F r71 r72 x1 x2 x3 = some o) : mj_M l G yX11_isFine cX11_isFine 4 1 (some .boolean) 0 0 mj_P0 mj_S0 98 [.ref 71, .int x1, .int x2, .int x3] I L (mj_qd (some (.int o.1)) (mj_rows I [(71, o.2.1), (72, o.2.2)]) L) := by
  refine mj_in RX11 "isFine" [(0, .ref 71), (1, .int x1), (2, .int x2), (3, .int x3)] rfl rfl rfl (by decide) (Nat.le_of_ble_eq_true rfl) (fun X ad hR => ?_)
  refine mj_toI [(71, r71), (72, r72)] (by intro q hq; simp only [List.mem_cons, List.not_mem_nil, or_false] at hq; rcases hq with rfl | rfl <;> assumption) ?_
  refine mtX11_isFine hR F I L r71 r72 x1 x2 x3 o hf ?_
  obtain ⟨w0, w1, w2⟩ := o
  refine mj_u2q ?_
  refine mj_u2q ?_
  exact ⟨rfl, rfl, rfl⟩

-- X11_lies
def fnX11_lies (F : Nat) (x0 : Int64) (x2 : Int64) (x4 : Int64) : Option ((Int32)) := (if x0 < x2 then some (0 : Int32) else (if x4 < x0 then some (0 : Int32) else some (1 : Int32)))
set_option maxRecDepth 100000 in
set_option maxHeartbeats 4000000 in
theorem mtX11_lies {X : mj_XT} {l : Launch} {G : mj_GT} {ad : Nat → Nat} {Qn : Option Value → mj_IT → mj_LT → Prop} (hR : mj_R X l G mj_P0 mj_S0 98 ad 0 0 Qn) (F : Nat) (I : mj_IT) (L : mj_LT) (x0 : Int64) (x2 : Int64) (x4 : Int64) (o : ((Int32))) (hf : fnX11_lies F x0 x2 x4 = some o) (hq : (fun ov => Qn (some (.int ov)) I L) o) : mj_W X G RX11 "lies" cX11_lies 6 1 (some .boolean) mj_P0 mj_S0 98 ad 0 0 0 [(0, .long x0), (2, .long x2), (4, .long x4)] [] I L := by
  unfold fnX11_lies at hf
  refine mj_lload_n 0 dX11_lies_0 rfl ?_
  refine mj_lload_n 1 dX11_lies_1 rfl ?_
  refine mj_lc_lt 17 dX11_lies_2 dX11_lies_3 (by decide) (fun c1 => ?_) (fun c1 => ?_)
  · replace hf := mj_pos c1 hf
    refine mj_iconst dX11_lies_17 kc_iconst_0 ?_
    obtain rfl := Option.some.inj hf
    have hZ := hq
    exact mj_iret hR ⟨Nat.le_refl _, Nat.le_refl _⟩ rfl (by decide) dX11_lies_18 hZ
  · replace hf := mj_neg c1 hf
    refine mj_lload_n 0 dX11_lies_6 rfl ?_
    refine mj_lload 2 dX11_lies_7 rfl ?_
    refine mj_lc_gt 17 dX11_lies_9 dX11_lies_10 (by decide) (fun c2 => ?_) (fun c2 => ?_)
    · replace hf := mj_pos c2 hf
      refine mj_iconst dX11_lies_17 kc_iconst_0 ?_
      obtain rfl := Option.some.inj hf
      have hZ := hq
      exact mj_iret hR ⟨Nat.le_refl _, Nat.le_refl _⟩ rfl (by decide) dX11_lies_18 hZ
    · replace hf := mj_neg c2 hf
      refine mj_iconst dX11_lies_13 kc_iconst_1 ?_
      refine mj_goto 18 dX11_lies_14 (by decide) ?_
      obtain rfl := Option.some.inj hf
      have hZ := hq
      exact mj_iret hR ⟨Nat.le_refl _, Nat.le_refl _⟩ rfl (by decide) dX11_lies_18 hZ
set_option maxRecDepth 100000 in
set_option maxHeartbeats 4000000 in
theorem cmX11_lies (l : Launch) (G : mj_GT) (F : Nat) (x0 : Int64) (x2 : Int64) (x4 : Int64) (I : mj_IT) (L : mj_LT) (o : ((Int32))) (hf : fnX11_lies F x0 x2 x4 = some o) : mj_M l G yX11_lies cX11_lies 6 1 (some .boolean) 0 0 mj_P0 mj_S0 98 [.long x0, .long x2, .long x4] I L (mj_qd (some (.int o)) I L) := by
  refine mj_in RX11 "lies" [(0, .long x0), (2, .long x2), (4, .long x4)] rfl rfl rfl (by decide) (Nat.le_of_ble_eq_true rfl) (fun X ad hR => ?_)
  refine mtX11_lies hR F I L x0 x2 x4 o hf ?_
  exact ⟨rfl, rfl, rfl⟩

-- X11_of
def fnX11_of (F : Nat) (r73 : Nat → Int32) (x1 : Int32) (x2 : Int32) : Option ((Int32)) := (if mj_ib (((12 : Int32) * x1) + x2) 480 = true then some (r73 ((((12 : Int32) * x1) + x2).toNatClampNeg)) else none)
set_option maxRecDepth 100000 in
set_option maxHeartbeats 4000000 in
theorem mtX11_of {X : mj_XT} {l : Launch} {G : mj_GT} {ad : Nat → Nat} {Qn : Option Value → mj_IT → mj_LT → Prop} (hR : mj_R X l G mj_P0 mj_S0 98 ad 0 0 Qn) (F : Nat) (I : mj_IT) (L : mj_LT) (r73 : Nat → Int32) (x1 : Int32) (x2 : Int32) (o : ((Int32))) (hf : fnX11_of F r73 x1 x2 = some o) (hq : (fun ov => Qn (some (.int ov)) (mj_rows I [(73, r73)]) L) o) : mj_W X G RX11 "of" cX11_of 3 1 (some .int) mj_P0 mj_S0 98 ad 0 0 0 [(0, .ref 71), (1, .int x1), (2, .int x2)] [] (mj_rows I [(73, r73)]) L := by
  unfold fnX11_of at hf
  refine mj_aload_n 0 dX11_of_0 rfl ?_
  refine mj_getP p0_71_2 (by decide) fl_X11_11 rfl s0_71 a0_71 dX11_of_1 ?_
  refine mj_bipush dX11_of_4 kc_bipush_12 ?_
  refine mj_iload_n 1 dX11_of_6 rfl ?_
  refine mj_imul dX11_of_7 ?_
  refine mj_iload_n 2 dX11_of_8 rfl ?_
  refine mj_iadd dX11_of_9 ?_
  obtain ⟨z1, hf⟩ := mj_ck hf
  refine mj_ialdv (x := r73) rfl s0_73 a0_73 z1 dX11_of_10 ?_
  obtain rfl := Option.some.inj hf
  have hZ := hq
  exact mj_iret hR ⟨Nat.le_refl _, Nat.le_refl _⟩ rfl rfl dX11_of_11 hZ
set_option maxRecDepth 100000 in
set_option maxHeartbeats 4000000 in
theorem cmX11_of (l : Launch) (G : mj_GT) (F : Nat) (x1 : Int32) (x2 : Int32) (I : mj_IT) (L : mj_LT) (r73 : Nat → Int32) (hr73 : I 73 = r73) (o : ((Int32))) (hf : fnX11_of F r73 x1 x2 = some o) : mj_M l G yX11_of cX11_of 3 1 (some .int) 0 0 mj_P0 mj_S0 98 [.ref 71, .int x1, .int x2] I L (mj_qd (some (.int o)) (mj_rows I [(73, r73)]) L) := by
  refine mj_in RX11 "of" [(0, .ref 71), (1, .int x1), (2, .int x2)] rfl rfl rfl (by decide) (Nat.le_of_ble_eq_true rfl) (fun X ad hR => ?_)
  refine mj_toI [(73, r73)] (by intro q hq; simp only [List.mem_cons, List.not_mem_nil, or_false] at hq; rcases hq with rfl <;> assumption) ?_
  refine mtX11_of hR F I L r73 x1 x2 o hf ?_
  exact ⟨rfl, rfl, rfl⟩

-- X11_puts
def bdX11_puts_3 (F : Nat) (x1 : Int32) (x2 : Int32) (r71 : Nat → Int32) (r76 : Nat → Int32) : Option (((Int32) × (Nat → Int32) × (Nat → Int32)) ⊕ ((Nat → Int32) × (Nat → Int32))) := (if x2 < 0 then some (.inr (r71, r76)) else (if mj_ib (r71 9) 400 = true then some (.inl ((x2 + (-8)), (upd r71 9 ((r71 9) + (1 : Int32))), (upd r76 ((r71 9).toNatClampNeg) (vp_nar .byte ((x1 >>> (x2 &&& 31)).toInt8.toInt32))))) else none))
def fnX11_puts (F : Nat) (r71 : Nat → Int32) (r76 : Nat → Int32) (x1 : Int32) : Option ((Nat → Int32) × (Nat → Int32)) := (mj_it (mj_u2 (fun z0 => (mj_u2 (fun z1 z2 => bdX11_puts_3 F x1 z0 z1 z2)))) F ((24 : Int32), r71, r76)).bind (mj_u2 (fun r71_3 r76_3 => some (r71_3, r76_3)))
set_option maxRecDepth 100000 in
set_option maxHeartbeats 4000000 in
theorem lpX11_puts_3 {X : mj_XT} {l : Launch} {G : mj_GT} {ad : Nat → Nat} {Qn : Option Value → mj_IT → mj_LT → Prop} (hR : mj_R X l G mj_P0 mj_S0 98 ad 0 0 Qn) (F : Nat) (I : mj_IT) (L : mj_LT) (r71 : Nat → Int32) (r76 : Nat → Int32) (x1 : Int32) : ∀ (n : Nat) (s : ((Int32) × (Nat → Int32) × (Nat → Int32))) (e : ((Nat → Int32) × (Nat → Int32))), mj_it (mj_u2 (fun z0 => (mj_u2 (fun z1 z2 => bdX11_puts_3 F x1 z0 z1 z2)))) n s = some e → (mj_u2 (fun r71 r76 => mj_W X G RX11 "puts" cX11_puts 3 1 none mj_P0 mj_S0 98 ad 0 0 36 [] [] (mj_rows I [(71, r71), (76, r76)]) L)) e → (mj_u2 (fun x2 => (mj_u2 (fun r71 r76 => mj_W X G RX11 "puts" cX11_puts 3 1 none mj_P0 mj_S0 98 ad 0 0 3 [(0, .ref 71), (1, .int x1), (2, .int x2)] [] (mj_rows I [(71, r71), (76, r76)]) L)))) s := by
  refine mj_loop (fun s o hf hc hx => ?_)
  obtain ⟨x2, r71, r76⟩ := s
  replace hf := mj_u2e hf
  refine mj_u2q ?_
  replace hf := mj_u2e hf
  refine mj_u2q ?_
  unfold bdX11_puts_3 at hf
  refine mj_iload_n 2 dX11_puts_3 rfl ?_
  refine mj_if_lt 36 dX11_puts_4 (by decide) (fun c1 => ?_) (fun c1 => ?_)
  · replace hf := mj_pos c1 hf
    refine mj_sub [] [] rfl ?_
    obtain rfl := Option.some.inj hf
    have hZ := hx (r71, r76) rfl
    replace hZ := mj_u2p hZ
    exact hZ
  · replace hf := mj_neg c1 hf
    refine mj_aload_n 0 dX11_puts_7 rfl ?_
    refine mj_getP p0_71_7 (by decide) fl_X11_21 rfl s0_71 a0_71 dX11_puts_8 ?_
    refine mj_aload_n 0 dX11_puts_11 rfl ?_
    refine mj_getIv (v := (r71 9)) rfl fl_X11_14 rfl s0_71 a0_71 dX11_puts_12 ?_
    refine mj_iload_n 1 dX11_puts_15 rfl ?_
    refine mj_iload_n 2 dX11_puts_16 rfl ?_
    refine mj_ishr dX11_puts_17 ?_
    refine mj_i2b dX11_puts_18 ?_
    obtain ⟨z2, hf⟩ := mj_ck hf
    refine mj_bastr [(71, r71), (76, (upd r76 ((r71 9).toNatClampNeg) (vp_nar .byte ((x1 >>> (x2 &&& 31)).toInt8.toInt32))))] rfl s0_76 a0_76 z2 dX11_puts_19 ?_
    refine mj_aload_n 0 dX11_puts_20 rfl ?_
    refine mj_dup dX11_puts_21 rfl ?_
    refine mj_getIv (v := (r71 9)) rfl fl_X11_14 rfl s0_71 a0_71 dX11_puts_22 ?_
    refine mj_iconst dX11_puts_25 kc_iconst_1 ?_
    refine mj_iadd dX11_puts_26 ?_
    refine mj_putIr (ci := 9) (j := 9) [(71, (upd r71 9 ((r71 9) + (1 : Int32)))), (76, (upd r76 ((r71 9).toNatClampNeg) (vp_nar .byte ((x1 >>> (x2 &&& 31)).toInt8.toInt32))))] rfl ⟨rfl, rfl⟩ fl_X11_14 rfl rfl s0_71 a0_71 dX11_puts_27 ?_
    refine mj_iinc 2 [(2, .int (x2 + (-8))), (0, .ref 71), (1, .int x1)] dX11_puts_30 rfl (kz_m8 _) (by decide) rfl ?_
    refine mj_goto 3 dX11_puts_33 (by decide) ?_
    refine mj_sub [1, 2, 0] [(0, .ref 71), (1, .int x1), (2, .int (x2 + (-8)))] rfl ?_
    obtain rfl := Option.some.inj hf
    have hZ := hc ((x2 + (-8)), (upd r71 9 ((r71 9) + (1 : Int32))), (upd r76 ((r71 9).toNatClampNeg) (vp_nar .byte ((x1 >>> (x2 &&& 31)).toInt8.toInt32)))) rfl
    replace hZ := mj_u2p hZ
    replace hZ := mj_u2p hZ
    exact hZ
set_option maxRecDepth 100000 in
set_option maxHeartbeats 4000000 in
theorem mtX11_puts {X : mj_XT} {l : Launch} {G : mj_GT} {ad : Nat → Nat} {Qn : Option Value → mj_IT → mj_LT → Prop} (hR : mj_R X l G mj_P0 mj_S0 98 ad 0 0 Qn) (F : Nat) (I : mj_IT) (L : mj_LT) (r71 : Nat → Int32) (r76 : Nat → Int32) (x1 : Int32) (o : ((Nat → Int32) × (Nat → Int32))) (hf : fnX11_puts F r71 r76 x1 = some o) (hq : (mj_u2 (fun r71 r76 => Qn none (mj_rows I [(71, r71), (76, r76)]) L)) o) : mj_W X G RX11 "puts" cX11_puts 3 1 none mj_P0 mj_S0 98 ad 0 0 0 [(0, .ref 71), (1, .int x1)] [] (mj_rows I [(71, r71), (76, r76)]) L := by
  unfold fnX11_puts at hf
  refine mj_bipush dX11_puts_0 kc_bipush_24 ?_
  refine mj_istore_n [(2, .int (24 : Int32)), (0, .ref 71), (1, .int x1)] dX11_puts_2 rfl (by decide) rfl ?_
  refine mj_sub [1, 2, 0] [(0, .ref 71), (1, .int x1), (2, .int (24 : Int32))] rfl ?_
  obtain ⟨e3, ho3, hf⟩ := mj_bd hf
  refine lpX11_puts_3 hR F I L r71 r76 x1 F ((24 : Int32), r71, r76) e3 ho3 ?_
  obtain ⟨r71_3, r76_3⟩ := e3
  replace hf := mj_u2e hf
  refine ?_
  refine mj_u2q ?_
  obtain rfl := Option.some.inj hf
  have hZ := hq
  replace hZ := mj_u2p hZ
  exact mj_vret hR ⟨Nat.le_refl _, Nat.le_refl _⟩ rfl dX11_puts_36 hZ
set_option maxRecDepth 100000 in
set_option maxHeartbeats 4000000 in
theorem cmX11_puts (l : Launch) (G : mj_GT) (F : Nat) (x1 : Int32) (I : mj_IT) (L : mj_LT) (r71 : Nat → Int32) (r76 : Nat → Int32) (hr71 : I 71 = r71) (hr76 : I 76 = r76) (o : ((Nat → Int32) × (Nat → Int32))) (hf : fnX11_puts F r71 r76 x1 = some o) : mj_M l G yX11_puts cX11_puts 3 1 none 0 0 mj_P0 mj_S0 98 [.ref 71, .int x1] I L (mj_qd none (mj_rows I [(71, o.1), (76, o.2)]) L) := by
  refine mj_in RX11 "puts" [(0, .ref 71), (1, .int x1)] rfl rfl rfl (by decide) (Nat.le_of_ble_eq_true rfl) (fun X ad hR => ?_)
  refine mj_toI [(71, r71), (76, r76)] (by intro q hq; simp only [List.mem_cons, List.not_mem_nil, or_false] at hq; rcases hq with rfl | rfl <;> assumption) ?_
  refine mtX11_puts hR F I L r71 r76 x1 o hf ?_
  obtain ⟨w0, w1⟩ := o
  refine mj_u2q ?_
  exact ⟨rfl, rfl, rfl⟩

-- X11_feed
def fnX11_feed (F : Nat) (r71 : Nat → Int32) (r76 : Nat → Int32) (x1 : Int32) (x2 : Int32) (x3 : Int32) (x4 : Int32) (x5 : Int32) : Option ((Int32) × (Nat → Int32) × (Nat → Int32)) := (if ((r71 9) + (20 : Int32)) ≤ (400 : Int32) then (fnX11_puts F (upd r71 0 (0 : Int32)) r76 x1).bind (fun o2 => (fnX11_puts F o2.1 o2.2 x2).bind (fun o3 => (fnX11_puts F o3.1 o3.2 x3).bind (fun o4 => (fnX11_puts F o4.1 o4.2 x4).bind (fun o5 => (fnX11_puts F o5.1 o5.2 x5).bind (fun o6 => some ((o6.1 9), o6.1, o6.2)))))) else some ((-1 : Int32), (upd r71 0 (0 : Int32)), r76))
set_option maxRecDepth 100000 in
set_option maxHeartbeats 4000000 in
theorem mtX11_feed {X : mj_XT} {l : Launch} {G : mj_GT} {ad : Nat → Nat} {Qn : Option Value → mj_IT → mj_LT → Prop} (hR : mj_R X l G mj_P0 mj_S0 98 ad 0 0 Qn) (F : Nat) (I : mj_IT) (L : mj_LT) (r71 : Nat → Int32) (r76 : Nat → Int32) (x1 : Int32) (x2 : Int32) (x3 : Int32) (x4 : Int32) (x5 : Int32) (o : ((Int32) × (Nat → Int32) × (Nat → Int32))) (hf : fnX11_feed F r71 r76 x1 x2 x3 x4 x5 = some o) (hq : (mj_u2 (fun ov => (mj_u2 (fun r71 r76 => Qn (some (.int ov)) (mj_rows I [(71, r71), (76, r76)]) L)))) o) : mj_W X G RX11 "feed" cX11_feed 6 2 (some .int) mj_P0 mj_S0 98 ad 0 0 0 [(0, .ref 71), (1, .int x1), (2, .int x2), (3, .int x3), (4, .int x4), (5, .int x5)] [] (mj_rows I [(71, r71), (76, r76)]) L := by
  unfold fnX11_feed at hf
  refine mj_aload_n 0 dX11_feed_0 rfl ?_
  refine mj_iconst dX11_feed_1 kc_iconst_0 ?_
  refine mj_putIr (ci := 9) (j := 0) [(71, (upd r71 0 (0 : Int32))), (76, r76)] rfl ⟨rfl, rfl⟩ fl_X11_1 rfl rfl s0_71 a0_71 dX11_feed_2 ?_
  refine mj_aload_n 0 dX11_feed_5 rfl ?_
  refine mj_getIv (v := (r71 9)) rfl fl_X11_14 rfl s0_71 a0_71 dX11_feed_6 ?_
  refine mj_bipush dX11_feed_9 kc_bipush_20 ?_
  refine mj_iadd dX11_feed_11 ?_
  refine mj_sipush dX11_feed_12 kc_sipush_400 ?_
  refine mj_icmp_le 20 dX11_feed_15 (by decide) (fun c1 => ?_) (fun c1 => ?_)
  · replace hf := mj_pos c1 hf
    refine mj_aload_n 0 dX11_feed_20 rfl ?_
    refine mj_iload_n 1 dX11_feed_21 rfl ?_
    obtain ⟨o2, ho2, hf⟩ := mj_bd hf
    refine mj_callVd (I2 := (mj_rows I [(71, o2.1), (76, o2.2)])) (L2 := L) (s1 := []) (st := []) [.int x1] (cmX11_puts X.2.1 G F x1 _ _ (upd r71 0 (0 : Int32)) r76 rfl rfl o2 ho2) (mj_rr rfl) rfl cw_X11_17 s0_71 a0_71 (by decide) rfl rfl (Nat.le_of_ble_eq_true rfl) ⟨Nat.zero_le _, Nat.zero_le _⟩ dX11_feed_22 rfl ?_
    refine mj_aload_n 0 dX11_feed_25 rfl ?_
    refine mj_iload_n 2 dX11_feed_26 rfl ?_
    obtain ⟨o3, ho3, hf⟩ := mj_bd hf
    refine mj_callVd (I2 := (mj_rows I [(71, o3.1), (76, o3.2)])) (L2 := L) (s1 := []) (st := []) [.int x2] (cmX11_puts X.2.1 G F x2 _ _ o2.1 o2.2 rfl rfl o3 ho3) (mj_rr rfl) rfl cw_X11_17 s0_71 a0_71 (by decide) rfl rfl (Nat.le_of_ble_eq_true rfl) ⟨Nat.zero_le _, Nat.zero_le _⟩ dX11_feed_27 rfl ?_
    refine mj_aload_n 0 dX11_feed_30 rfl ?_
    refine mj_iload_n 3 dX11_feed_31 rfl ?_
    obtain ⟨o4, ho4, hf⟩ := mj_bd hf
    refine mj_callVd (I2 := (mj_rows I [(71, o4.1), (76, o4.2)])) (L2 := L) (s1 := []) (st := []) [.int x3] (cmX11_puts X.2.1 G F x3 _ _ o3.1 o3.2 rfl rfl o4 ho4) (mj_rr rfl) rfl cw_X11_17 s0_71 a0_71 (by decide) rfl rfl (Nat.le_of_ble_eq_true rfl) ⟨Nat.zero_le _, Nat.zero_le _⟩ dX11_feed_32 rfl ?_
    refine mj_aload_n 0 dX11_feed_35 rfl ?_
    refine mj_iload 4 dX11_feed_36 rfl ?_
    obtain ⟨o5, ho5, hf⟩ := mj_bd hf
    refine mj_callVd (I2 := (mj_rows I [(71, o5.1), (76, o5.2)])) (L2 := L) (s1 := []) (st := []) [.int x4] (cmX11_puts X.2.1 G F x4 _ _ o4.1 o4.2 rfl rfl o5 ho5) (mj_rr rfl) rfl cw_X11_17 s0_71 a0_71 (by decide) rfl rfl (Nat.le_of_ble_eq_true rfl) ⟨Nat.zero_le _, Nat.zero_le _⟩ dX11_feed_38 rfl ?_
    refine mj_aload_n 0 dX11_feed_41 rfl ?_
    refine mj_iload 5 dX11_feed_42 rfl ?_
    obtain ⟨o6, ho6, hf⟩ := mj_bd hf
    refine mj_callVd (I2 := (mj_rows I [(71, o6.1), (76, o6.2)])) (L2 := L) (s1 := []) (st := []) [.int x5] (cmX11_puts X.2.1 G F x5 _ _ o5.1 o5.2 rfl rfl o6 ho6) (mj_rr rfl) rfl cw_X11_17 s0_71 a0_71 (by decide) rfl rfl (Nat.le_of_ble_eq_true rfl) ⟨Nat.zero_le _, Nat.zero_le _⟩ dX11_feed_44 rfl ?_
    refine mj_aload_n 0 dX11_feed_47 rfl ?_
    refine mj_getIv (v := (o6.1 9)) rfl fl_X11_14 rfl s0_71 a0_71 dX11_feed_48 ?_
    obtain rfl := Option.some.inj hf
    have hZ := hq
    replace hZ := mj_u2p hZ
    replace hZ := mj_u2p hZ
    exact mj_iret hR ⟨Nat.le_refl _, Nat.le_refl _⟩ rfl rfl dX11_feed_51 hZ
  · replace hf := mj_neg c1 hf
    refine mj_iconst dX11_feed_18 kc_iconst_m1 ?_
    obtain rfl := Option.some.inj hf
    have hZ := hq
    replace hZ := mj_u2p hZ
    replace hZ := mj_u2p hZ
    exact mj_iret hR ⟨Nat.le_refl _, Nat.le_refl _⟩ rfl rfl dX11_feed_19 hZ
set_option maxRecDepth 100000 in
set_option maxHeartbeats 4000000 in
theorem cmX11_feed (l : Launch) (G : mj_GT) (F : Nat) (x1 : Int32) (x2 : Int32) (x3 : Int32) (x4 : Int32) (x5 : Int32) (I : mj_IT) (L : mj_LT) (r71 : Nat → Int32) (r76 : Nat → Int32) (hr71 : I 71 = r71) (hr76 : I 76 = r76) (o : ((Int32) × (Nat → Int32) × (Nat → Int32))) (hf : fnX11_feed F r71 r76 x1 x2 x3 x4 x5 = some o) : mj_M l G yX11_feed cX11_feed 6 2 (some .int) 0 0 mj_P0 mj_S0 98 [.ref 71, .int x1, .int x2, .int x3, .int x4, .int x5] I L (mj_qd (some (.int o.1)) (mj_rows I [(71, o.2.1), (76, o.2.2)]) L) := by
  refine mj_in RX11 "feed" [(0, .ref 71), (1, .int x1), (2, .int x2), (3, .int x3), (4, .int x4), (5, .int x5)] rfl rfl rfl (by decide) (Nat.le_of_ble_eq_true rfl) (fun X ad hR => ?_)
  refine mj_toI [(71, r71), (76, r76)] (by intro q hq; simp only [List.mem_cons, List.not_mem_nil, or_false] at hq; rcases hq with rfl | rfl <;> assumption) ?_
  refine mtX11_feed hR F I L r71 r76 x1 x2 x3 x4 x5 o hf ?_
  obtain ⟨w0, w1, w2⟩ := o
  refine mj_u2q ?_
  refine mj_u2q ?_
  exact ⟨rfl, rfl, rfl⟩

-- X11_wrong
def fnX11_wrong (F : Nat) (r71 : Nat → Int32) (x1 : Int32) (x2 : Int32) : Option ((Nat → Int32)) := (if (r71 14) ≤ 0 then some (upd (upd r71 14 x1) 15 x2) else some r71)
set_option maxRecDepth 100000 in
set_option maxHeartbeats 4000000 in
theorem mtX11_wrong {X : mj_XT} {l : Launch} {G : mj_GT} {ad : Nat → Nat} {Qn : Option Value → mj_IT → mj_LT → Prop} (hR : mj_R X l G mj_P0 mj_S0 98 ad 0 0 Qn) (F : Nat) (I : mj_IT) (L : mj_LT) (r71 : Nat → Int32) (x1 : Int32) (x2 : Int32) (o : ((Nat → Int32))) (hf : fnX11_wrong F r71 x1 x2 = some o) (hq : (fun r71 => Qn none (mj_rows I [(71, r71)]) L) o) : mj_W X G RX11 "wrong" cX11_wrong 3 1 none mj_P0 mj_S0 98 ad 0 0 0 [(0, .ref 71), (1, .int x1), (2, .int x2)] [] (mj_rows I [(71, r71)]) L := by
  unfold fnX11_wrong at hf
  refine mj_aload_n 0 dX11_wrong_0 rfl ?_
  refine mj_getIv (v := (r71 14)) rfl fl_X11_25 rfl s0_71 a0_71 dX11_wrong_1 ?_
  refine mj_if_le 8 dX11_wrong_4 (by decide) (fun c1 => ?_) (fun c1 => ?_)
  · replace hf := mj_pos c1 hf
    refine mj_aload_n 0 dX11_wrong_8 rfl ?_
    refine mj_iload_n 1 dX11_wrong_9 rfl ?_
    refine mj_putIr (ci := 9) (j := 14) [(71, (upd r71 14 x1))] rfl ⟨rfl, rfl⟩ fl_X11_25 rfl rfl s0_71 a0_71 dX11_wrong_10 ?_
    refine mj_aload_n 0 dX11_wrong_13 rfl ?_
    refine mj_iload_n 2 dX11_wrong_14 rfl ?_
    refine mj_putIr (ci := 9) (j := 15) [(71, (upd (upd r71 14 x1) 15 x2))] rfl ⟨rfl, rfl⟩ fl_X11_28 rfl rfl s0_71 a0_71 dX11_wrong_15 ?_
    obtain rfl := Option.some.inj hf
    have hZ := hq
    exact mj_vret hR ⟨Nat.le_refl _, Nat.le_refl _⟩ rfl dX11_wrong_18 hZ
  · replace hf := mj_neg c1 hf
    obtain rfl := Option.some.inj hf
    have hZ := hq
    exact mj_vret hR ⟨Nat.le_refl _, Nat.le_refl _⟩ rfl dX11_wrong_7 hZ
set_option maxRecDepth 100000 in
set_option maxHeartbeats 4000000 in
theorem cmX11_wrong (l : Launch) (G : mj_GT) (F : Nat) (x1 : Int32) (x2 : Int32) (I : mj_IT) (L : mj_LT) (r71 : Nat → Int32) (hr71 : I 71 = r71) (o : ((Nat → Int32))) (hf : fnX11_wrong F r71 x1 x2 = some o) : mj_M l G yX11_wrong cX11_wrong 3 1 none 0 0 mj_P0 mj_S0 98 [.ref 71, .int x1, .int x2] I L (mj_qd none (mj_rows I [(71, o)]) L) := by
  refine mj_in RX11 "wrong" [(0, .ref 71), (1, .int x1), (2, .int x2)] rfl rfl rfl (by decide) (Nat.le_of_ble_eq_true rfl) (fun X ad hR => ?_)
  refine mj_toI [(71, r71)] (by intro q hq; simp only [List.mem_cons, List.not_mem_nil, or_false] at hq; rcases hq with rfl <;> assumption) ?_
  refine mtX11_wrong hR F I L r71 x1 x2 o hf ?_
  exact ⟨rfl, rfl, rfl⟩

-- X11_sign
def bdX11_sign_0 (F : Nat) (r77 : Nat → Int32) (r71 : Nat → Int32) : Option (((Nat → Int32)) ⊕ ((Nat → Int32))) := (if (r71 10) ≤ (r71 11) then some (.inr r71) else (if mj_ib (r71 11) 400 = true then (if (r77 ((r71 11).toNatClampNeg)) = (32 : Int32) then some (.inl (upd r71 11 ((r71 11) + (1 : Int32)))) else some (.inr r71)) else none))
def fnX11_sign (F : Nat) (r71 : Nat → Int32) (r77 : Nat → Int32) : Option ((Int32) × (Nat → Int32)) := (mj_it (bdX11_sign_0 F r77) F r71).bind (fun r71_4 => (if (r71_4 10) ≤ (r71_4 11) then some ((0 : Int32), r71_4) else (if mj_ib (r71_4 11) 400 = true then some ((r77 ((r71_4 11).toNatClampNeg)), r71_4) else none)))
set_option maxRecDepth 100000 in
set_option maxHeartbeats 4000000 in
theorem lpX11_sign_0 {X : mj_XT} {l : Launch} {G : mj_GT} {ad : Nat → Nat} {Qn : Option Value → mj_IT → mj_LT → Prop} (hR : mj_R X l G mj_P0 mj_S0 98 ad 0 0 Qn) (F : Nat) (I : mj_IT) (L : mj_LT) (r71 : Nat → Int32) (r77 : Nat → Int32) : ∀ (n : Nat) (s : ((Nat → Int32))) (e : ((Nat → Int32))), mj_it (bdX11_sign_0 F r77) n s = some e → (fun r71 => mj_W X G RX11 "sign" cX11_sign 1 1 (some .int) mj_P0 mj_S0 98 ad 0 0 38 [(0, .ref 71)] [] (mj_rows I [(71, r71), (77, r77)]) L) e → (fun r71 => mj_W X G RX11 "sign" cX11_sign 1 1 (some .int) mj_P0 mj_S0 98 ad 0 0 0 [(0, .ref 71)] [] (mj_rows I [(71, r71), (77, r77)]) L) s := by
  refine mj_loop (fun r71 o hf hc hx => ?_)
  unfold bdX11_sign_0 at hf
  refine mj_aload_n 0 dX11_sign_0 rfl ?_
  refine mj_getIv (v := (r71 11)) rfl fl_X11_31 rfl s0_71 a0_71 dX11_sign_1 ?_
  refine mj_aload_n 0 dX11_sign_4 rfl ?_
  refine mj_getIv (v := (r71 10)) rfl fl_X11_34 rfl s0_71 a0_71 dX11_sign_5 ?_
  refine mj_icmp_ge 38 dX11_sign_8 (by decide) (fun c1 => ?_) (fun c1 => ?_)
  · replace hf := mj_pos c1 hf
    obtain rfl := Option.some.inj hf
    have hZ := hx r71 rfl
    exact hZ
  · replace hf := mj_neg c1 hf
    refine mj_aload_n 0 dX11_sign_11 rfl ?_
    refine mj_getP p0_71_8 (by decide) fl_X11_37 rfl s0_71 a0_71 dX11_sign_12 ?_
    refine mj_aload_n 0 dX11_sign_15 rfl ?_
    refine mj_getIv (v := (r71 11)) rfl fl_X11_31 rfl s0_71 a0_71 dX11_sign_16 ?_
    obtain ⟨z2, hf⟩ := mj_ck hf
    refine mj_baldv (x := r77) rfl s0_77 a0_77 z2 dX11_sign_19 ?_
    refine mj_bipush dX11_sign_20 kc_bipush_32 ?_
    refine mj_icmp_ne 38 dX11_sign_22 (by decide) (fun c3 => ?_) (fun c3 => ?_)
    · replace hf := mj_neg c3 hf
      obtain rfl := Option.some.inj hf
      have hZ := hx r71 rfl
      exact hZ
    · replace hf := mj_pos c3 hf
      refine mj_aload_n 0 dX11_sign_25 rfl ?_
      refine mj_dup dX11_sign_26 rfl ?_
      refine mj_getIv (v := (r71 11)) rfl fl_X11_31 rfl s0_71 a0_71 dX11_sign_27 ?_
      refine mj_iconst dX11_sign_30 kc_iconst_1 ?_
      refine mj_iadd dX11_sign_31 ?_
      refine mj_putIr (ci := 9) (j := 11) [(71, (upd r71 11 ((r71 11) + (1 : Int32)))), (77, r77)] rfl ⟨rfl, rfl⟩ fl_X11_31 rfl rfl s0_71 a0_71 dX11_sign_32 ?_
      refine mj_goto 0 dX11_sign_35 (by decide) ?_
      obtain rfl := Option.some.inj hf
      have hZ := hc (upd r71 11 ((r71 11) + (1 : Int32))) rfl
      exact hZ
set_option maxRecDepth 100000 in
set_option maxHeartbeats 4000000 in
theorem mtX11_sign {X : mj_XT} {l : Launch} {G : mj_GT} {ad : Nat → Nat} {Qn : Option Value → mj_IT → mj_LT → Prop} (hR : mj_R X l G mj_P0 mj_S0 98 ad 0 0 Qn) (F : Nat) (I : mj_IT) (L : mj_LT) (r71 : Nat → Int32) (r77 : Nat → Int32) (o : ((Int32) × (Nat → Int32))) (hf : fnX11_sign F r71 r77 = some o) (hq : (mj_u2 (fun ov r71 => Qn (some (.int ov)) (mj_rows I [(71, r71), (77, r77)]) L)) o) : mj_W X G RX11 "sign" cX11_sign 1 1 (some .int) mj_P0 mj_S0 98 ad 0 0 0 [(0, .ref 71)] [] (mj_rows I [(71, r71), (77, r77)]) L := by
  unfold fnX11_sign at hf
  obtain ⟨r71_4, ho4, hf⟩ := mj_bd hf
  refine lpX11_sign_0 hR F I L r71 r77 F r71 r71_4 ho4 ?_
  refine ?_
  refine mj_aload_n 0 dX11_sign_38 rfl ?_
  refine mj_getIv (v := (r71_4 11)) rfl fl_X11_31 rfl s0_71 a0_71 dX11_sign_39 ?_
  refine mj_aload_n 0 dX11_sign_42 rfl ?_
  refine mj_getIv (v := (r71_4 10)) rfl fl_X11_34 rfl s0_71 a0_71 dX11_sign_43 ?_
  refine mj_icmp_ge 61 dX11_sign_46 (by decide) (fun c5 => ?_) (fun c5 => ?_)
  · replace hf := mj_pos c5 hf
    refine mj_iconst dX11_sign_61 kc_iconst_0 ?_
    obtain rfl := Option.some.inj hf
    have hZ := hq
    replace hZ := mj_u2p hZ
    exact mj_iret hR ⟨Nat.le_refl _, Nat.le_refl _⟩ rfl rfl dX11_sign_62 hZ
  · replace hf := mj_neg c5 hf
    refine mj_aload_n 0 dX11_sign_49 rfl ?_
    refine mj_getP p0_71_8 (by decide) fl_X11_37 rfl s0_71 a0_71 dX11_sign_50 ?_
    refine mj_aload_n 0 dX11_sign_53 rfl ?_
    refine mj_getIv (v := (r71_4 11)) rfl fl_X11_31 rfl s0_71 a0_71 dX11_sign_54 ?_
    obtain ⟨z6, hf⟩ := mj_ck hf
    refine mj_baldv (x := r77) rfl s0_77 a0_77 z6 dX11_sign_57 ?_
    refine mj_goto 62 dX11_sign_58 (by decide) ?_
    obtain rfl := Option.some.inj hf
    have hZ := hq
    replace hZ := mj_u2p hZ
    exact mj_iret hR ⟨Nat.le_refl _, Nat.le_refl _⟩ rfl rfl dX11_sign_62 hZ
set_option maxRecDepth 100000 in
set_option maxHeartbeats 4000000 in
theorem cmX11_sign (l : Launch) (G : mj_GT) (F : Nat) (I : mj_IT) (L : mj_LT) (r71 : Nat → Int32) (r77 : Nat → Int32) (hr71 : I 71 = r71) (hr77 : I 77 = r77) (o : ((Int32) × (Nat → Int32))) (hf : fnX11_sign F r71 r77 = some o) : mj_M l G yX11_sign cX11_sign 1 1 (some .int) 0 0 mj_P0 mj_S0 98 [.ref 71] I L (mj_qd (some (.int o.1)) (mj_rows I [(71, o.2), (77, r77)]) L) := by
  refine mj_in RX11 "sign" [(0, .ref 71)] rfl rfl rfl (by decide) (Nat.le_of_ble_eq_true rfl) (fun X ad hR => ?_)
  refine mj_toI [(71, r71), (77, r77)] (by intro q hq; simp only [List.mem_cons, List.not_mem_nil, or_false] at hq; rcases hq with rfl | rfl <;> assumption) ?_
  refine mtX11_sign hR F I L r71 r77 o hf ?_
  obtain ⟨w0, w1⟩ := o
  refine mj_u2q ?_
  exact ⟨rfl, rfl, rfl⟩

-- X11_isSmall
def fnX11_isSmall (F : Nat) (r71 : Nat → Int32) (r77 : Nat → Int32) (x1 : Int32) : Option ((Int32)) := (if (r71 10) ≤ x1 then some (0 : Int32) else (if mj_ib x1 400 = true then (if (r77 x1.toNatClampNeg) < (97 : Int32) then some (0 : Int32) else (if mj_ib x1 400 = true then (if (122 : Int32) < (r77 x1.toNatClampNeg) then some (0 : Int32) else some (1 : Int32)) else none)) else none))
set_option maxRecDepth 100000 in
set_option maxHeartbeats 4000000 in
theorem mtX11_isSmall {X : mj_XT} {l : Launch} {G : mj_GT} {ad : Nat → Nat} {Qn : Option Value → mj_IT → mj_LT → Prop} (hR : mj_R X l G mj_P0 mj_S0 98 ad 0 0 Qn) (F : Nat) (I : mj_IT) (L : mj_LT) (r71 : Nat → Int32) (r77 : Nat → Int32) (x1 : Int32) (o : ((Int32))) (hf : fnX11_isSmall F r71 r77 x1 = some o) (hq : (fun ov => Qn (some (.int ov)) (mj_rows I [(71, r71), (77, r77)]) L) o) : mj_W X G RX11 "isSmall" cX11_isSmall 2 1 (some .boolean) mj_P0 mj_S0 98 ad 0 0 0 [(0, .ref 71), (1, .int x1)] [] (mj_rows I [(71, r71), (77, r77)]) L := by
  unfold fnX11_isSmall at hf
  refine mj_iload_n 1 dX11_isSmall_0 rfl ?_
  refine mj_aload_n 0 dX11_isSmall_1 rfl ?_
  refine mj_getIv (v := (r71 10)) rfl fl_X11_34 rfl s0_71 a0_71 dX11_isSmall_2 ?_
  refine mj_icmp_ge 34 dX11_isSmall_5 (by decide) (fun c1 => ?_) (fun c1 => ?_)
  · replace hf := mj_pos c1 hf
    refine mj_iconst dX11_isSmall_34 kc_iconst_0 ?_
    obtain rfl := Option.some.inj hf
    have hZ := hq
    exact mj_iret hR ⟨Nat.le_refl _, Nat.le_refl _⟩ rfl (by decide) dX11_isSmall_35 hZ
  · replace hf := mj_neg c1 hf
    refine mj_aload_n 0 dX11_isSmall_8 rfl ?_
    refine mj_getP p0_71_8 (by decide) fl_X11_37 rfl s0_71 a0_71 dX11_isSmall_9 ?_
    refine mj_iload_n 1 dX11_isSmall_12 rfl ?_
    obtain ⟨z2, hf⟩ := mj_ck hf
    refine mj_baldv (x := r77) rfl s0_77 a0_77 z2 dX11_isSmall_13 ?_
    refine mj_bipush dX11_isSmall_14 kc_bipush_97 ?_
    refine mj_icmp_lt 34 dX11_isSmall_16 (by decide) (fun c3 => ?_) (fun c3 => ?_)
    · replace hf := mj_pos c3 hf
      refine mj_iconst dX11_isSmall_34 kc_iconst_0 ?_
      obtain rfl := Option.some.inj hf
      have hZ := hq
      exact mj_iret hR ⟨Nat.le_refl _, Nat.le_refl _⟩ rfl (by decide) dX11_isSmall_35 hZ
    · replace hf := mj_neg c3 hf
      refine mj_aload_n 0 dX11_isSmall_19 rfl ?_
      refine mj_getP p0_71_8 (by decide) fl_X11_37 rfl s0_71 a0_71 dX11_isSmall_20 ?_
      refine mj_iload_n 1 dX11_isSmall_23 rfl ?_
      obtain ⟨z4, hf⟩ := mj_ck hf
      refine mj_baldv (x := r77) rfl s0_77 a0_77 z4 dX11_isSmall_24 ?_
      refine mj_bipush dX11_isSmall_25 kc_bipush_122 ?_
      refine mj_icmp_gt 34 dX11_isSmall_27 (by decide) (fun c5 => ?_) (fun c5 => ?_)
      · replace hf := mj_pos c5 hf
        refine mj_iconst dX11_isSmall_34 kc_iconst_0 ?_
        obtain rfl := Option.some.inj hf
        have hZ := hq
        exact mj_iret hR ⟨Nat.le_refl _, Nat.le_refl _⟩ rfl (by decide) dX11_isSmall_35 hZ
      · replace hf := mj_neg c5 hf
        refine mj_iconst dX11_isSmall_30 kc_iconst_1 ?_
        refine mj_goto 35 dX11_isSmall_31 (by decide) ?_
        obtain rfl := Option.some.inj hf
        have hZ := hq
        exact mj_iret hR ⟨Nat.le_refl _, Nat.le_refl _⟩ rfl (by decide) dX11_isSmall_35 hZ
set_option maxRecDepth 100000 in
set_option maxHeartbeats 4000000 in
theorem cmX11_isSmall (l : Launch) (G : mj_GT) (F : Nat) (x1 : Int32) (I : mj_IT) (L : mj_LT) (r71 : Nat → Int32) (r77 : Nat → Int32) (hr71 : I 71 = r71) (hr77 : I 77 = r77) (o : ((Int32))) (hf : fnX11_isSmall F r71 r77 x1 = some o) : mj_M l G yX11_isSmall cX11_isSmall 2 1 (some .boolean) 0 0 mj_P0 mj_S0 98 [.ref 71, .int x1] I L (mj_qd (some (.int o)) (mj_rows I [(71, r71), (77, r77)]) L) := by
  refine mj_in RX11 "isSmall" [(0, .ref 71), (1, .int x1)] rfl rfl rfl (by decide) (Nat.le_of_ble_eq_true rfl) (fun X ad hR => ?_)
  refine mj_toI [(71, r71), (77, r77)] (by intro q hq; simp only [List.mem_cons, List.not_mem_nil, or_false] at hq; rcases hq with rfl | rfl <;> assumption) ?_
  refine mtX11_isSmall hR F I L r71 r77 x1 o hf ?_
  exact ⟨rfl, rfl, rfl⟩

-- X11_takes
def fnX11_takes (F : Nat) (r71 : Nat → Int32) (r77 : Nat → Int32) (x1 : Int32) : Option ((Int32) × (Nat → Int32)) := (if 0 < (r71 14) then some ((0 : Int32), r71) else (fnX11_sign F r71 r77).bind (fun o2 => (if o2.1 = x1 then (if (o2.2 11) < (o2.2 10) then some ((1 : Int32), (upd o2.2 11 ((o2.2 11) + (1 : Int32)))) else some ((0 : Int32), o2.2)) else some ((0 : Int32), o2.2))))
set_option maxRecDepth 100000 in
set_option maxHeartbeats 4000000 in
theorem mtX11_takes {X : mj_XT} {l : Launch} {G : mj_GT} {ad : Nat → Nat} {Qn : Option Value → mj_IT → mj_LT → Prop} (hR : mj_R X l G mj_P0 mj_S0 98 ad 0 0 Qn) (F : Nat) (I : mj_IT) (L : mj_LT) (r71 : Nat → Int32) (r77 : Nat → Int32) (x1 : Int32) (o : ((Int32) × (Nat → Int32))) (hf : fnX11_takes F r71 r77 x1 = some o) (hq : (mj_u2 (fun ov r71 => Qn (some (.int ov)) (mj_rows I [(71, r71), (77, r77)]) L)) o) : mj_W X G RX11 "takes" cX11_takes 2 2 (some .boolean) mj_P0 mj_S0 98 ad 0 0 0 [(0, .ref 71), (1, .int x1)] [] (mj_rows I [(71, r71), (77, r77)]) L := by
  unfold fnX11_takes at hf
  refine mj_aload_n 0 dX11_takes_0 rfl ?_
  refine mj_getIv (v := (r71 14)) rfl fl_X11_25 rfl s0_71 a0_71 dX11_takes_1 ?_
  refine mj_if_gt 26 dX11_takes_4 (by decide) (fun c1 => ?_) (fun c1 => ?_)
  · replace hf := mj_pos c1 hf
    refine mj_iconst dX11_takes_26 kc_iconst_0 ?_
    obtain rfl := Option.some.inj hf
    have hZ := hq
    replace hZ := mj_u2p hZ
    exact mj_iret hR ⟨Nat.le_refl _, Nat.le_refl _⟩ rfl (by decide) dX11_takes_27 hZ
  · replace hf := mj_neg c1 hf
    refine mj_aload_n 0 dX11_takes_7 rfl ?_
    obtain ⟨o2, ho2, hf⟩ := mj_bd hf
    refine mj_callVd (I2 := (mj_rows I [(71, o2.2), (77, r77)])) (L2 := L) (s1 := [.int o2.1]) (st := []) [] (cmX11_sign X.2.1 G F  _ _ r71 r77 rfl rfl o2 ho2) (mj_rr rfl) rfl cw_X11_40 s0_71 a0_71 (by decide) rfl rfl (Nat.le_of_ble_eq_true rfl) ⟨Nat.zero_le _, Nat.zero_le _⟩ dX11_takes_8 rfl ?_
    refine mj_iload_n 1 dX11_takes_11 rfl ?_
    refine mj_icmp_ne 26 dX11_takes_12 (by decide) (fun c3 => ?_) (fun c3 => ?_)
    · replace hf := mj_neg c3 hf
      refine mj_iconst dX11_takes_26 kc_iconst_0 ?_
      obtain rfl := Option.some.inj hf
      have hZ := hq
      replace hZ := mj_u2p hZ
      exact mj_iret hR ⟨Nat.le_refl _, Nat.le_refl _⟩ rfl (by decide) dX11_takes_27 hZ
    · replace hf := mj_pos c3 hf
      refine mj_aload_n 0 dX11_takes_15 rfl ?_
      refine mj_getIv (v := (o2.2 11)) rfl fl_X11_31 rfl s0_71 a0_71 dX11_takes_16 ?_
      refine mj_aload_n 0 dX11_takes_19 rfl ?_
      refine mj_getIv (v := (o2.2 10)) rfl fl_X11_34 rfl s0_71 a0_71 dX11_takes_20 ?_
      refine mj_icmp_lt 28 dX11_takes_23 (by decide) (fun c4 => ?_) (fun c4 => ?_)
      · replace hf := mj_pos c4 hf
        refine mj_aload_n 0 dX11_takes_28 rfl ?_
        refine mj_dup dX11_takes_29 rfl ?_
        refine mj_getIv (v := (o2.2 11)) rfl fl_X11_31 rfl s0_71 a0_71 dX11_takes_30 ?_
        refine mj_iconst dX11_takes_33 kc_iconst_1 ?_
        refine mj_iadd dX11_takes_34 ?_
        refine mj_putIr (ci := 9) (j := 11) [(71, (upd o2.2 11 ((o2.2 11) + (1 : Int32)))), (77, r77)] rfl ⟨rfl, rfl⟩ fl_X11_31 rfl rfl s0_71 a0_71 dX11_takes_35 ?_
        refine mj_iconst dX11_takes_38 kc_iconst_1 ?_
        obtain rfl := Option.some.inj hf
        have hZ := hq
        replace hZ := mj_u2p hZ
        exact mj_iret hR ⟨Nat.le_refl _, Nat.le_refl _⟩ rfl (by decide) dX11_takes_39 hZ
      · replace hf := mj_neg c4 hf
        refine mj_iconst dX11_takes_26 kc_iconst_0 ?_
        obtain rfl := Option.some.inj hf
        have hZ := hq
        replace hZ := mj_u2p hZ
        exact mj_iret hR ⟨Nat.le_refl _, Nat.le_refl _⟩ rfl (by decide) dX11_takes_27 hZ
set_option maxRecDepth 100000 in
set_option maxHeartbeats 4000000 in
theorem cmX11_takes (l : Launch) (G : mj_GT) (F : Nat) (x1 : Int32) (I : mj_IT) (L : mj_LT) (r71 : Nat → Int32) (r77 : Nat → Int32) (hr71 : I 71 = r71) (hr77 : I 77 = r77) (o : ((Int32) × (Nat → Int32))) (hf : fnX11_takes F r71 r77 x1 = some o) : mj_M l G yX11_takes cX11_takes 2 2 (some .boolean) 0 0 mj_P0 mj_S0 98 [.ref 71, .int x1] I L (mj_qd (some (.int o.1)) (mj_rows I [(71, o.2), (77, r77)]) L) := by
  refine mj_in RX11 "takes" [(0, .ref 71), (1, .int x1)] rfl rfl rfl (by decide) (Nat.le_of_ble_eq_true rfl) (fun X ad hR => ?_)
  refine mj_toI [(71, r71), (77, r77)] (by intro q hq; simp only [List.mem_cons, List.not_mem_nil, or_false] at hq; rcases hq with rfl | rfl <;> assumption) ?_
  refine mtX11_takes hR F I L r71 r77 x1 o hf ?_
  obtain ⟨w0, w1⟩ := o
  refine mj_u2q ?_
  exact ⟨rfl, rfl, rfl⟩

-- X11_needs
def fnX11_needs (F : Nat) (r71 : Nat → Int32) (r77 : Nat → Int32) (x1 : Int32) : Option ((Nat → Int32)) := (if (r71 14) = 0 then (fnX11_takes F r71 r77 x1).bind (fun o2 => (if o2.1 = 0 then (fnX11_wrong F o2.2 (1 : Int32) (o2.2 11)).bind (fun o4 => some o4) else some o2.2)) else some r71)
set_option maxRecDepth 100000 in
set_option maxHeartbeats 4000000 in
theorem mtX11_needs {X : mj_XT} {l : Launch} {G : mj_GT} {ad : Nat → Nat} {Qn : Option Value → mj_IT → mj_LT → Prop} (hR : mj_R X l G mj_P0 mj_S0 98 ad 0 0 Qn) (F : Nat) (I : mj_IT) (L : mj_LT) (r71 : Nat → Int32) (r77 : Nat → Int32) (x1 : Int32) (o : ((Nat → Int32))) (hf : fnX11_needs F r71 r77 x1 = some o) (hq : (fun r71 => Qn none (mj_rows I [(71, r71), (77, r77)]) L) o) : mj_W X G RX11 "needs" cX11_needs 2 3 none mj_P0 mj_S0 98 ad 0 0 0 [(0, .ref 71), (1, .int x1)] [] (mj_rows I [(71, r71), (77, r77)]) L := by
  unfold fnX11_needs at hf
  refine mj_aload_n 0 dX11_needs_0 rfl ?_
  refine mj_getIv (v := (r71 14)) rfl fl_X11_25 rfl s0_71 a0_71 dX11_needs_1 ?_
  refine mj_if_ne 24 dX11_needs_4 (by decide) (fun c1 => ?_) (fun c1 => ?_)
  · replace hf := mj_neg c1 hf
    obtain rfl := Option.some.inj hf
    have hZ := hq
    exact mj_vret hR ⟨Nat.le_refl _, Nat.le_refl _⟩ rfl dX11_needs_24 hZ
  · replace hf := mj_pos c1 hf
    refine mj_aload_n 0 dX11_needs_7 rfl ?_
    refine mj_iload_n 1 dX11_needs_8 rfl ?_
    obtain ⟨o2, ho2, hf⟩ := mj_bd hf
    refine mj_callVd (I2 := (mj_rows I [(71, o2.2), (77, r77)])) (L2 := L) (s1 := [.int o2.1]) (st := []) [.int x1] (cmX11_takes X.2.1 G F x1 _ _ r71 r77 rfl rfl o2 ho2) (mj_rr rfl) rfl cw_X11_61 s0_71 a0_71 (by decide) rfl rfl (Nat.le_of_ble_eq_true rfl) ⟨Nat.zero_le _, Nat.zero_le _⟩ dX11_needs_9 rfl ?_
    refine mj_if_ne 24 dX11_needs_12 (by decide) (fun c3 => ?_) (fun c3 => ?_)
    · replace hf := mj_neg c3 hf
      obtain rfl := Option.some.inj hf
      have hZ := hq
      exact mj_vret hR ⟨Nat.le_refl _, Nat.le_refl _⟩ rfl dX11_needs_24 hZ
    · replace hf := mj_pos c3 hf
      refine mj_aload_n 0 dX11_needs_15 rfl ?_
      refine mj_iconst dX11_needs_16 kc_iconst_1 ?_
      refine mj_aload_n 0 dX11_needs_17 rfl ?_
      refine mj_getIv (v := (o2.2 11)) rfl fl_X11_31 rfl s0_71 a0_71 dX11_needs_18 ?_
      obtain ⟨o4, ho4, hf⟩ := mj_bd hf
      refine mj_callVd (I2 := (mj_rows I [(71, o4), (77, r77)])) (L2 := L) (s1 := []) (st := []) [.int (1 : Int32), .int (o2.2 11)] (cmX11_wrong X.2.1 G F (1 : Int32) (o2.2 11) _ _ o2.2 rfl o4 ho4) (mj_rr rfl) rfl cw_X11_64 s0_71 a0_71 (by decide) rfl rfl (Nat.le_of_ble_eq_true rfl) ⟨Nat.zero_le _, Nat.zero_le _⟩ dX11_needs_21 rfl ?_
      obtain rfl := Option.some.inj hf
      have hZ := hq
      exact mj_vret hR ⟨Nat.le_refl _, Nat.le_refl _⟩ rfl dX11_needs_24 hZ
set_option maxRecDepth 100000 in
set_option maxHeartbeats 4000000 in
theorem cmX11_needs (l : Launch) (G : mj_GT) (F : Nat) (x1 : Int32) (I : mj_IT) (L : mj_LT) (r71 : Nat → Int32) (r77 : Nat → Int32) (hr71 : I 71 = r71) (hr77 : I 77 = r77) (o : ((Nat → Int32))) (hf : fnX11_needs F r71 r77 x1 = some o) : mj_M l G yX11_needs cX11_needs 2 3 none 0 0 mj_P0 mj_S0 98 [.ref 71, .int x1] I L (mj_qd none (mj_rows I [(71, o), (77, r77)]) L) := by
  refine mj_in RX11 "needs" [(0, .ref 71), (1, .int x1)] rfl rfl rfl (by decide) (Nat.le_of_ble_eq_true rfl) (fun X ad hR => ?_)
  refine mj_toI [(71, r71), (77, r77)] (by intro q hq; simp only [List.mem_cons, List.not_mem_nil, or_false] at hq; rcases hq with rfl | rfl <;> assumption) ?_
  refine mtX11_needs hR F I L r71 r77 x1 o hf ?_
  exact ⟨rfl, rfl, rfl⟩

-- X11_isNameHere
def fnX11_isNameHere (F : Nat) (r71 : Nat → Int32) (r77 : Nat → Int32) : Option ((Int32) × (Nat → Int32)) := (fnX11_sign F r71 r77).bind (fun o1 => (if o1.1 < (97 : Int32) then some ((0 : Int32), o1.2) else (fnX11_sign F o1.2 r77).bind (fun o3 => (if (102 : Int32) < o3.1 then some ((0 : Int32), o3.2) else (if (o3.2 10) ≤ (o3.2 11) then some ((0 : Int32), o3.2) else (fnX11_isSmall F o3.2 r77 ((o3.2 11) + (1 : Int32))).bind (fun o6 => (if o6 = 0 then some ((1 : Int32), o3.2) else some ((0 : Int32), o3.2))))))))
set_option maxRecDepth 100000 in
set_option maxHeartbeats 4000000 in
theorem mtX11_isNameHere {X : mj_XT} {l : Launch} {G : mj_GT} {ad : Nat → Nat} {Qn : Option Value → mj_IT → mj_LT → Prop} (hR : mj_R X l G mj_P0 mj_S0 98 ad 0 0 Qn) (F : Nat) (I : mj_IT) (L : mj_LT) (r71 : Nat → Int32) (r77 : Nat → Int32) (o : ((Int32) × (Nat → Int32))) (hf : fnX11_isNameHere F r71 r77 = some o) (hq : (mj_u2 (fun ov r71 => Qn (some (.int ov)) (mj_rows I [(71, r71), (77, r77)]) L)) o) : mj_W X G RX11 "isNameHere" cX11_isNameHere 1 2 (some .boolean) mj_P0 mj_S0 98 ad 0 0 0 [(0, .ref 71)] [] (mj_rows I [(71, r71), (77, r77)]) L := by
  unfold fnX11_isNameHere at hf
  refine mj_aload_n 0 dX11_isNameHere_0 rfl ?_
  obtain ⟨o1, ho1, hf⟩ := mj_bd hf
  refine mj_callVd (I2 := (mj_rows I [(71, o1.2), (77, r77)])) (L2 := L) (s1 := [.int o1.1]) (st := []) [] (cmX11_sign X.2.1 G F  _ _ r71 r77 rfl rfl o1 ho1) (mj_rr rfl) rfl cw_X11_40 s0_71 a0_71 (by decide) rfl rfl (Nat.le_of_ble_eq_true rfl) ⟨Nat.zero_le _, Nat.zero_le _⟩ dX11_isNameHere_1 rfl ?_
  refine mj_bipush dX11_isNameHere_4 kc_bipush_97 ?_
  refine mj_icmp_lt 46 dX11_isNameHere_6 (by decide) (fun c2 => ?_) (fun c2 => ?_)
  · replace hf := mj_pos c2 hf
    refine mj_iconst dX11_isNameHere_46 kc_iconst_0 ?_
    obtain rfl := Option.some.inj hf
    have hZ := hq
    replace hZ := mj_u2p hZ
    exact mj_iret hR ⟨Nat.le_refl _, Nat.le_refl _⟩ rfl (by decide) dX11_isNameHere_47 hZ
  · replace hf := mj_neg c2 hf
    refine mj_aload_n 0 dX11_isNameHere_9 rfl ?_
    obtain ⟨o3, ho3, hf⟩ := mj_bd hf
    refine mj_callVd (I2 := (mj_rows I [(71, o3.2), (77, r77)])) (L2 := L) (s1 := [.int o3.1]) (st := []) [] (cmX11_sign X.2.1 G F  _ _ o1.2 r77 rfl rfl o3 ho3) (mj_rr rfl) rfl cw_X11_40 s0_71 a0_71 (by decide) rfl rfl (Nat.le_of_ble_eq_true rfl) ⟨Nat.zero_le _, Nat.zero_le _⟩ dX11_isNameHere_10 rfl ?_
    refine mj_bipush dX11_isNameHere_13 kc_bipush_102 ?_
    refine mj_icmp_gt 46 dX11_isNameHere_15 (by decide) (fun c4 => ?_) (fun c4 => ?_)
    · replace hf := mj_pos c4 hf
      refine mj_iconst dX11_isNameHere_46 kc_iconst_0 ?_
      obtain rfl := Option.some.inj hf
      have hZ := hq
      replace hZ := mj_u2p hZ
      exact mj_iret hR ⟨Nat.le_refl _, Nat.le_refl _⟩ rfl (by decide) dX11_isNameHere_47 hZ
    · replace hf := mj_neg c4 hf
      refine mj_aload_n 0 dX11_isNameHere_18 rfl ?_
      refine mj_getIv (v := (o3.2 11)) rfl fl_X11_31 rfl s0_71 a0_71 dX11_isNameHere_19 ?_
      refine mj_aload_n 0 dX11_isNameHere_22 rfl ?_
      refine mj_getIv (v := (o3.2 10)) rfl fl_X11_34 rfl s0_71 a0_71 dX11_isNameHere_23 ?_
      refine mj_icmp_ge 46 dX11_isNameHere_26 (by decide) (fun c5 => ?_) (fun c5 => ?_)
      · replace hf := mj_pos c5 hf
        refine mj_iconst dX11_isNameHere_46 kc_iconst_0 ?_
        obtain rfl := Option.some.inj hf
        have hZ := hq
        replace hZ := mj_u2p hZ
        exact mj_iret hR ⟨Nat.le_refl _, Nat.le_refl _⟩ rfl (by decide) dX11_isNameHere_47 hZ
      · replace hf := mj_neg c5 hf
        refine mj_aload_n 0 dX11_isNameHere_29 rfl ?_
        refine mj_aload_n 0 dX11_isNameHere_30 rfl ?_
        refine mj_getIv (v := (o3.2 11)) rfl fl_X11_31 rfl s0_71 a0_71 dX11_isNameHere_31 ?_
        refine mj_iconst dX11_isNameHere_34 kc_iconst_1 ?_
        refine mj_iadd dX11_isNameHere_35 ?_
        obtain ⟨o6, ho6, hf⟩ := mj_bd hf
        refine mj_callVd (I2 := (mj_rows I [(71, o3.2), (77, r77)])) (L2 := L) (s1 := [.int o6]) (st := []) [.int ((o3.2 11) + (1 : Int32))] (cmX11_isSmall X.2.1 G F ((o3.2 11) + (1 : Int32)) _ _ o3.2 r77 rfl rfl o6 ho6) (mj_rr rfl) rfl cw_X11_49 s0_71 a0_71 (by decide) rfl rfl (Nat.le_of_ble_eq_true rfl) ⟨Nat.zero_le _, Nat.zero_le _⟩ dX11_isNameHere_36 rfl ?_
        refine mj_if_ne 46 dX11_isNameHere_39 (by decide) (fun c7 => ?_) (fun c7 => ?_)
        · replace hf := mj_neg c7 hf
          refine mj_iconst dX11_isNameHere_46 kc_iconst_0 ?_
          obtain rfl := Option.some.inj hf
          have hZ := hq
          replace hZ := mj_u2p hZ
          exact mj_iret hR ⟨Nat.le_refl _, Nat.le_refl _⟩ rfl (by decide) dX11_isNameHere_47 hZ
        · replace hf := mj_pos c7 hf
          refine mj_iconst dX11_isNameHere_42 kc_iconst_1 ?_
          refine mj_goto 47 dX11_isNameHere_43 (by decide) ?_
          obtain rfl := Option.some.inj hf
          have hZ := hq
          replace hZ := mj_u2p hZ
          exact mj_iret hR ⟨Nat.le_refl _, Nat.le_refl _⟩ rfl (by decide) dX11_isNameHere_47 hZ
set_option maxRecDepth 100000 in
set_option maxHeartbeats 4000000 in
theorem cmX11_isNameHere (l : Launch) (G : mj_GT) (F : Nat) (I : mj_IT) (L : mj_LT) (r71 : Nat → Int32) (r77 : Nat → Int32) (hr71 : I 71 = r71) (hr77 : I 77 = r77) (o : ((Int32) × (Nat → Int32))) (hf : fnX11_isNameHere F r71 r77 = some o) : mj_M l G yX11_isNameHere cX11_isNameHere 1 2 (some .boolean) 0 0 mj_P0 mj_S0 98 [.ref 71] I L (mj_qd (some (.int o.1)) (mj_rows I [(71, o.2), (77, r77)]) L) := by
  refine mj_in RX11 "isNameHere" [(0, .ref 71)] rfl rfl rfl (by decide) (Nat.le_of_ble_eq_true rfl) (fun X ad hR => ?_)
  refine mj_toI [(71, r71), (77, r77)] (by intro q hq; simp only [List.mem_cons, List.not_mem_nil, or_false] at hq; rcases hq with rfl | rfl <;> assumption) ?_
  refine mtX11_isNameHere hR F I L r71 r77 o hf ?_
  obtain ⟨w0, w1⟩ := o
  refine mj_u2q ?_
  exact ⟨rfl, rfl, rfl⟩

-- X11_name
def jnX11_name_23 (F : Nat) (r77 : Nat → Int32) (r71 : Nat → Int32) : Option ((Int32) × (Nat → Int32)) := (if (r71 14) ≤ 0 then (if mj_ib (((r71 11) + (1 : Int32)) - (1 : Int32)) 400 = true then some (((r77 ((((r71 11) + (1 : Int32)) - (1 : Int32)).toNatClampNeg)) - (97 : Int32)), (upd r71 11 ((r71 11) + (1 : Int32)))) else none) else some ((0 : Int32), r71))
def fnX11_name (F : Nat) (r71 : Nat → Int32) (r77 : Nat → Int32) : Option ((Int32) × (Nat → Int32)) := (if (r71 14) = 0 then (fnX11_isNameHere F r71 r77).bind (fun o4 => (if o4.1 = 0 then (fnX11_wrong F o4.2 (1 : Int32) (o4.2 11)).bind (fun o6 => jnX11_name_23 F r77 o6) else jnX11_name_23 F r77 o4.2)) else jnX11_name_23 F r77 r71)
set_option maxRecDepth 100000 in
set_option maxHeartbeats 4000000 in
theorem jtX11_name_23 {X : mj_XT} {l : Launch} {G : mj_GT} {ad : Nat → Nat} {Qn : Option Value → mj_IT → mj_LT → Prop} (hR : mj_R X l G mj_P0 mj_S0 98 ad 0 0 Qn) (F : Nat) (I : mj_IT) (L : mj_LT) (r71 : Nat → Int32) (r77 : Nat → Int32) (o : ((Int32) × (Nat → Int32))) (hf : jnX11_name_23 F r77 r71 = some o) (hq : (mj_u2 (fun ov r71 => Qn (some (.int ov)) (mj_rows I [(71, r71), (77, r77)]) L)) o) : mj_W X G RX11 "name" cX11_name 1 3 (some .int) mj_P0 mj_S0 98 ad 0 0 23 [(0, .ref 71)] [] (mj_rows I [(71, r71), (77, r77)]) L := by
  unfold jnX11_name_23 at hf
  refine mj_aload_n 0 dX11_name_23 rfl ?_
  refine mj_getIv (v := (r71 14)) rfl fl_X11_25 rfl s0_71 a0_71 dX11_name_24 ?_
  refine mj_if_le 32 dX11_name_27 (by decide) (fun c1 => ?_) (fun c1 => ?_)
  · replace hf := mj_pos c1 hf
    refine mj_aload_n 0 dX11_name_32 rfl ?_
    refine mj_dup dX11_name_33 rfl ?_
    refine mj_getIv (v := (r71 11)) rfl fl_X11_31 rfl s0_71 a0_71 dX11_name_34 ?_
    refine mj_iconst dX11_name_37 kc_iconst_1 ?_
    refine mj_iadd dX11_name_38 ?_
    refine mj_putIr (ci := 9) (j := 11) [(71, (upd r71 11 ((r71 11) + (1 : Int32)))), (77, r77)] rfl ⟨rfl, rfl⟩ fl_X11_31 rfl rfl s0_71 a0_71 dX11_name_39 ?_
    refine mj_aload_n 0 dX11_name_42 rfl ?_
    refine mj_getP p0_71_8 (by decide) fl_X11_37 rfl s0_71 a0_71 dX11_name_43 ?_
    refine mj_aload_n 0 dX11_name_46 rfl ?_
    refine mj_getIv (v := ((r71 11) + (1 : Int32))) rfl fl_X11_31 rfl s0_71 a0_71 dX11_name_47 ?_
    refine mj_iconst dX11_name_50 kc_iconst_1 ?_
    refine mj_isub dX11_name_51 ?_
    obtain ⟨z2, hf⟩ := mj_ck hf
    refine mj_baldv (x := r77) rfl s0_77 a0_77 z2 dX11_name_52 ?_
    refine mj_bipush dX11_name_53 kc_bipush_97 ?_
    refine mj_isub dX11_name_55 ?_
    obtain rfl := Option.some.inj hf
    have hZ := hq
    replace hZ := mj_u2p hZ
    exact mj_iret hR ⟨Nat.le_refl _, Nat.le_refl _⟩ rfl rfl dX11_name_56 hZ
  · replace hf := mj_neg c1 hf
    refine mj_iconst dX11_name_30 kc_iconst_0 ?_
    obtain rfl := Option.some.inj hf
    have hZ := hq
    replace hZ := mj_u2p hZ
    exact mj_iret hR ⟨Nat.le_refl _, Nat.le_refl _⟩ rfl rfl dX11_name_31 hZ
set_option maxRecDepth 100000 in
set_option maxHeartbeats 4000000 in
theorem mtX11_name {X : mj_XT} {l : Launch} {G : mj_GT} {ad : Nat → Nat} {Qn : Option Value → mj_IT → mj_LT → Prop} (hR : mj_R X l G mj_P0 mj_S0 98 ad 0 0 Qn) (F : Nat) (I : mj_IT) (L : mj_LT) (r71 : Nat → Int32) (r77 : Nat → Int32) (o : ((Int32) × (Nat → Int32))) (hf : fnX11_name F r71 r77 = some o) (hq : (mj_u2 (fun ov r71 => Qn (some (.int ov)) (mj_rows I [(71, r71), (77, r77)]) L)) o) : mj_W X G RX11 "name" cX11_name 1 3 (some .int) mj_P0 mj_S0 98 ad 0 0 0 [(0, .ref 71)] [] (mj_rows I [(71, r71), (77, r77)]) L := by
  unfold fnX11_name at hf
  refine mj_aload_n 0 dX11_name_0 rfl ?_
  refine mj_getIv (v := (r71 14)) rfl fl_X11_25 rfl s0_71 a0_71 dX11_name_1 ?_
  refine mj_if_ne 23 dX11_name_4 (by decide) (fun c3 => ?_) (fun c3 => ?_)
  · replace hf := mj_neg c3 hf
    exact jtX11_name_23 hR F I L r71 r77 o hf hq
  · replace hf := mj_pos c3 hf
    refine mj_aload_n 0 dX11_name_7 rfl ?_
    obtain ⟨o4, ho4, hf⟩ := mj_bd hf
    refine mj_callVd (I2 := (mj_rows I [(71, o4.2), (77, r77)])) (L2 := L) (s1 := [.int o4.1]) (st := []) [] (cmX11_isNameHere X.2.1 G F  _ _ r71 r77 rfl rfl o4 ho4) (mj_rr rfl) rfl cw_X11_68 s0_71 a0_71 (by decide) rfl rfl (Nat.le_of_ble_eq_true rfl) ⟨Nat.zero_le _, Nat.zero_le _⟩ dX11_name_8 rfl ?_
    refine mj_if_ne 23 dX11_name_11 (by decide) (fun c5 => ?_) (fun c5 => ?_)
    · replace hf := mj_neg c5 hf
      exact jtX11_name_23 hR F I L o4.2 r77 o hf hq
    · replace hf := mj_pos c5 hf
      refine mj_aload_n 0 dX11_name_14 rfl ?_
      refine mj_iconst dX11_name_15 kc_iconst_1 ?_
      refine mj_aload_n 0 dX11_name_16 rfl ?_
      refine mj_getIv (v := (o4.2 11)) rfl fl_X11_31 rfl s0_71 a0_71 dX11_name_17 ?_
      obtain ⟨o6, ho6, hf⟩ := mj_bd hf
      refine mj_callVd (I2 := (mj_rows I [(71, o6), (77, r77)])) (L2 := L) (s1 := []) (st := []) [.int (1 : Int32), .int (o4.2 11)] (cmX11_wrong X.2.1 G F (1 : Int32) (o4.2 11) _ _ o4.2 rfl o6 ho6) (mj_rr rfl) rfl cw_X11_64 s0_71 a0_71 (by decide) rfl rfl (Nat.le_of_ble_eq_true rfl) ⟨Nat.zero_le _, Nat.zero_le _⟩ dX11_name_20 rfl ?_
      exact jtX11_name_23 hR F I L o6 r77 o hf hq
set_option maxRecDepth 100000 in
set_option maxHeartbeats 4000000 in
theorem cmX11_name (l : Launch) (G : mj_GT) (F : Nat) (I : mj_IT) (L : mj_LT) (r71 : Nat → Int32) (r77 : Nat → Int32) (hr71 : I 71 = r71) (hr77 : I 77 = r77) (o : ((Int32) × (Nat → Int32))) (hf : fnX11_name F r71 r77 = some o) : mj_M l G yX11_name cX11_name 1 3 (some .int) 0 0 mj_P0 mj_S0 98 [.ref 71] I L (mj_qd (some (.int o.1)) (mj_rows I [(71, o.2), (77, r77)]) L) := by
  refine mj_in RX11 "name" [(0, .ref 71)] rfl rfl rfl (by decide) (Nat.le_of_ble_eq_true rfl) (fun X ad hR => ?_)
  refine mj_toI [(71, r71), (77, r77)] (by intro q hq; simp only [List.mem_cons, List.not_mem_nil, or_false] at hq; rcases hq with rfl | rfl <;> assumption) ?_
  refine mtX11_name hR F I L r71 r77 o hf ?_
  obtain ⟨w0, w1⟩ := o
  refine mj_u2q ?_
  exact ⟨rfl, rfl, rfl⟩

-- X11_isDigit
def fnX11_isDigit (F : Nat) (r71 : Nat → Int32) (r77 : Nat → Int32) : Option ((Int32) × (Nat → Int32)) := (fnX11_sign F r71 r77).bind (fun o1 => (if o1.1 < (48 : Int32) then some ((0 : Int32), o1.2) else (fnX11_sign F o1.2 r77).bind (fun o3 => (if (57 : Int32) < o3.1 then some ((0 : Int32), o3.2) else (if (o3.2 10) ≤ (o3.2 11) then some ((0 : Int32), o3.2) else some ((1 : Int32), o3.2))))))
set_option maxRecDepth 100000 in
set_option maxHeartbeats 4000000 in
theorem mtX11_isDigit {X : mj_XT} {l : Launch} {G : mj_GT} {ad : Nat → Nat} {Qn : Option Value → mj_IT → mj_LT → Prop} (hR : mj_R X l G mj_P0 mj_S0 98 ad 0 0 Qn) (F : Nat) (I : mj_IT) (L : mj_LT) (r71 : Nat → Int32) (r77 : Nat → Int32) (o : ((Int32) × (Nat → Int32))) (hf : fnX11_isDigit F r71 r77 = some o) (hq : (mj_u2 (fun ov r71 => Qn (some (.int ov)) (mj_rows I [(71, r71), (77, r77)]) L)) o) : mj_W X G RX11 "isDigit" cX11_isDigit 1 2 (some .boolean) mj_P0 mj_S0 98 ad 0 0 0 [(0, .ref 71)] [] (mj_rows I [(71, r71), (77, r77)]) L := by
  unfold fnX11_isDigit at hf
  refine mj_aload_n 0 dX11_isDigit_0 rfl ?_
  obtain ⟨o1, ho1, hf⟩ := mj_bd hf
  refine mj_callVd (I2 := (mj_rows I [(71, o1.2), (77, r77)])) (L2 := L) (s1 := [.int o1.1]) (st := []) [] (cmX11_sign X.2.1 G F  _ _ r71 r77 rfl rfl o1 ho1) (mj_rr rfl) rfl cw_X11_40 s0_71 a0_71 (by decide) rfl rfl (Nat.le_of_ble_eq_true rfl) ⟨Nat.zero_le _, Nat.zero_le _⟩ dX11_isDigit_1 rfl ?_
  refine mj_bipush dX11_isDigit_4 kc_bipush_48 ?_
  refine mj_icmp_lt 33 dX11_isDigit_6 (by decide) (fun c2 => ?_) (fun c2 => ?_)
  · replace hf := mj_pos c2 hf
    refine mj_iconst dX11_isDigit_33 kc_iconst_0 ?_
    obtain rfl := Option.some.inj hf
    have hZ := hq
    replace hZ := mj_u2p hZ
    exact mj_iret hR ⟨Nat.le_refl _, Nat.le_refl _⟩ rfl (by decide) dX11_isDigit_34 hZ
  · replace hf := mj_neg c2 hf
    refine mj_aload_n 0 dX11_isDigit_9 rfl ?_
    obtain ⟨o3, ho3, hf⟩ := mj_bd hf
    refine mj_callVd (I2 := (mj_rows I [(71, o3.2), (77, r77)])) (L2 := L) (s1 := [.int o3.1]) (st := []) [] (cmX11_sign X.2.1 G F  _ _ o1.2 r77 rfl rfl o3 ho3) (mj_rr rfl) rfl cw_X11_40 s0_71 a0_71 (by decide) rfl rfl (Nat.le_of_ble_eq_true rfl) ⟨Nat.zero_le _, Nat.zero_le _⟩ dX11_isDigit_10 rfl ?_
    refine mj_bipush dX11_isDigit_13 kc_bipush_57 ?_
    refine mj_icmp_gt 33 dX11_isDigit_15 (by decide) (fun c4 => ?_) (fun c4 => ?_)
    · replace hf := mj_pos c4 hf
      refine mj_iconst dX11_isDigit_33 kc_iconst_0 ?_
      obtain rfl := Option.some.inj hf
      have hZ := hq
      replace hZ := mj_u2p hZ
      exact mj_iret hR ⟨Nat.le_refl _, Nat.le_refl _⟩ rfl (by decide) dX11_isDigit_34 hZ
    · replace hf := mj_neg c4 hf
      refine mj_aload_n 0 dX11_isDigit_18 rfl ?_
      refine mj_getIv (v := (o3.2 11)) rfl fl_X11_31 rfl s0_71 a0_71 dX11_isDigit_19 ?_
      refine mj_aload_n 0 dX11_isDigit_22 rfl ?_
      refine mj_getIv (v := (o3.2 10)) rfl fl_X11_34 rfl s0_71 a0_71 dX11_isDigit_23 ?_
      refine mj_icmp_ge 33 dX11_isDigit_26 (by decide) (fun c5 => ?_) (fun c5 => ?_)
      · replace hf := mj_pos c5 hf
        refine mj_iconst dX11_isDigit_33 kc_iconst_0 ?_
        obtain rfl := Option.some.inj hf
        have hZ := hq
        replace hZ := mj_u2p hZ
        exact mj_iret hR ⟨Nat.le_refl _, Nat.le_refl _⟩ rfl (by decide) dX11_isDigit_34 hZ
      · replace hf := mj_neg c5 hf
        refine mj_iconst dX11_isDigit_29 kc_iconst_1 ?_
        refine mj_goto 34 dX11_isDigit_30 (by decide) ?_
        obtain rfl := Option.some.inj hf
        have hZ := hq
        replace hZ := mj_u2p hZ
        exact mj_iret hR ⟨Nat.le_refl _, Nat.le_refl _⟩ rfl (by decide) dX11_isDigit_34 hZ
set_option maxRecDepth 100000 in
set_option maxHeartbeats 4000000 in
theorem cmX11_isDigit (l : Launch) (G : mj_GT) (F : Nat) (I : mj_IT) (L : mj_LT) (r71 : Nat → Int32) (r77 : Nat → Int32) (hr71 : I 71 = r71) (hr77 : I 77 = r77) (o : ((Int32) × (Nat → Int32))) (hf : fnX11_isDigit F r71 r77 = some o) : mj_M l G yX11_isDigit cX11_isDigit 1 2 (some .boolean) 0 0 mj_P0 mj_S0 98 [.ref 71] I L (mj_qd (some (.int o.1)) (mj_rows I [(71, o.2), (77, r77)]) L) := by
  refine mj_in RX11 "isDigit" [(0, .ref 71)] rfl rfl rfl (by decide) (Nat.le_of_ble_eq_true rfl) (fun X ad hR => ?_)
  refine mj_toI [(71, r71), (77, r77)] (by intro q hq; simp only [List.mem_cons, List.not_mem_nil, or_false] at hq; rcases hq with rfl | rfl <;> assumption) ?_
  refine mtX11_isDigit hR F I L r71 r77 o hf ?_
  obtain ⟨w0, w1⟩ := o
  refine mj_u2q ?_
  exact ⟨rfl, rfl, rfl⟩

-- X11_number
def bdX11_number_42 (F : Nat) (r77 : Nat → Int32) (x1 : Int32) (r71 : Nat → Int32) : Option (((Int32) × (Nat → Int32)) ⊕ ((Int32) × (Nat → Int32))) := (if (r71 10) ≤ (r71 11) then some (.inr (x1, r71)) else (if mj_ib (r71 11) 400 = true then (if (r77 ((r71 11).toNatClampNeg)) < (48 : Int32) then some (.inr (x1, r71)) else (if mj_ib (r71 11) 400 = true then (if (57 : Int32) < (r77 ((r71 11).toNatClampNeg)) then some (.inr (x1, r71)) else (if mj_ib (r71 11) 400 = true then some (.inl ((if (100000 : Int32) < ((((10 : Int32) * x1) + (r77 ((r71 11).toNatClampNeg))) - (48 : Int32)) then (100000 : Int32) else ((((10 : Int32) * x1) + (r77 ((r71 11).toNatClampNeg))) - (48 : Int32))), (upd r71 11 ((r71 11) + (1 : Int32))))) else none)) else none)) else none))
def jnX11_number_23 (F : Nat) (r77 : Nat → Int32) (r71 : Nat → Int32) : Option ((Int32) × (Nat → Int32)) := (if (r71 14) ≤ 0 then (mj_it (mj_u2 (fun z0 z1 => bdX11_number_42 F r77 z0 z1)) F ((0 : Int32), (upd r71 12 (r71 11)))).bind (mj_u2 (fun x1_8 r71_8 => some (x1_8, r71_8))) else some ((0 : Int32), r71))
def fnX11_number (F : Nat) (r71 : Nat → Int32) (r77 : Nat → Int32) : Option ((Int32) × (Nat → Int32)) := (if (r71 14) = 0 then (fnX11_isDigit F r71 r77).bind (fun o10 => (if o10.1 = 0 then (fnX11_wrong F o10.2 (1 : Int32) (o10.2 11)).bind (fun o12 => jnX11_number_23 F r77 o12) else jnX11_number_23 F r77 o10.2)) else jnX11_number_23 F r77 r71)
set_option maxRecDepth 100000 in
set_option maxHeartbeats 4000000 in
theorem lpX11_number_42 {X : mj_XT} {l : Launch} {G : mj_GT} {ad : Nat → Nat} {Qn : Option Value → mj_IT → mj_LT → Prop} (hR : mj_R X l G mj_P0 mj_S0 98 ad 0 0 Qn) (F : Nat) (I : mj_IT) (L : mj_LT) (r71 : Nat → Int32) (r77 : Nat → Int32) : ∀ (n : Nat) (s : ((Int32) × (Nat → Int32))) (e : ((Int32) × (Nat → Int32))), mj_it (mj_u2 (fun z0 z1 => bdX11_number_42 F r77 z0 z1)) n s = some e → (mj_u2 (fun x1 r71 => mj_W X G RX11 "number" cX11_number 2 3 (some .int) mj_P0 mj_S0 98 ad 0 0 117 [(1, .int x1)] [] (mj_rows I [(71, r71), (77, r77)]) L)) e → (mj_u2 (fun x1 r71 => mj_W X G RX11 "number" cX11_number 2 3 (some .int) mj_P0 mj_S0 98 ad 0 0 42 [(0, .ref 71), (1, .int x1)] [] (mj_rows I [(71, r71), (77, r77)]) L)) s := by
  refine mj_loop (fun s o hf hc hx => ?_)
  obtain ⟨x1, r71⟩ := s
  replace hf := mj_u2e hf
  refine mj_u2q ?_
  unfold bdX11_number_42 at hf
  refine mj_aload_n 0 dX11_number_42 rfl ?_
  refine mj_getIv (v := (r71 11)) rfl fl_X11_31 rfl s0_71 a0_71 dX11_number_43 ?_
  refine mj_aload_n 0 dX11_number_46 rfl ?_
  refine mj_getIv (v := (r71 10)) rfl fl_X11_34 rfl s0_71 a0_71 dX11_number_47 ?_
  refine mj_icmp_ge 117 dX11_number_50 (by decide) (fun c1 => ?_) (fun c1 => ?_)
  · replace hf := mj_pos c1 hf
    refine mj_sub [1] [(1, .int x1)] rfl ?_
    obtain rfl := Option.some.inj hf
    have hZ := hx (x1, r71) rfl
    replace hZ := mj_u2p hZ
    exact hZ
  · replace hf := mj_neg c1 hf
    refine mj_aload_n 0 dX11_number_53 rfl ?_
    refine mj_getP p0_71_8 (by decide) fl_X11_37 rfl s0_71 a0_71 dX11_number_54 ?_
    refine mj_aload_n 0 dX11_number_57 rfl ?_
    refine mj_getIv (v := (r71 11)) rfl fl_X11_31 rfl s0_71 a0_71 dX11_number_58 ?_
    obtain ⟨z2, hf⟩ := mj_ck hf
    refine mj_baldv (x := r77) rfl s0_77 a0_77 z2 dX11_number_61 ?_
    refine mj_bipush dX11_number_62 kc_bipush_48 ?_
    refine mj_icmp_lt 117 dX11_number_64 (by decide) (fun c3 => ?_) (fun c3 => ?_)
    · replace hf := mj_pos c3 hf
      refine mj_sub [1] [(1, .int x1)] rfl ?_
      obtain rfl := Option.some.inj hf
      have hZ := hx (x1, r71) rfl
      replace hZ := mj_u2p hZ
      exact hZ
    · replace hf := mj_neg c3 hf
      refine mj_aload_n 0 dX11_number_67 rfl ?_
      refine mj_getP p0_71_8 (by decide) fl_X11_37 rfl s0_71 a0_71 dX11_number_68 ?_
      refine mj_aload_n 0 dX11_number_71 rfl ?_
      refine mj_getIv (v := (r71 11)) rfl fl_X11_31 rfl s0_71 a0_71 dX11_number_72 ?_
      obtain ⟨z4, hf⟩ := mj_ck hf
      refine mj_baldv (x := r77) rfl s0_77 a0_77 z4 dX11_number_75 ?_
      refine mj_bipush dX11_number_76 kc_bipush_57 ?_
      refine mj_icmp_gt 117 dX11_number_78 (by decide) (fun c5 => ?_) (fun c5 => ?_)
      · replace hf := mj_pos c5 hf
        refine mj_sub [1] [(1, .int x1)] rfl ?_
        obtain rfl := Option.some.inj hf
        have hZ := hx (x1, r71) rfl
        replace hZ := mj_u2p hZ
        exact hZ
      · replace hf := mj_neg c5 hf
        refine mj_bipush dX11_number_81 kc_bipush_10 ?_
        refine mj_iload_n 1 dX11_number_83 rfl ?_
        refine mj_imul dX11_number_84 ?_
        refine mj_aload_n 0 dX11_number_85 rfl ?_
        refine mj_getP p0_71_8 (by decide) fl_X11_37 rfl s0_71 a0_71 dX11_number_86 ?_
        refine mj_aload_n 0 dX11_number_89 rfl ?_
        refine mj_getIv (v := (r71 11)) rfl fl_X11_31 rfl s0_71 a0_71 dX11_number_90 ?_
        obtain ⟨z6, hf⟩ := mj_ck hf
        refine mj_baldv (x := r77) rfl s0_77 a0_77 z6 dX11_number_93 ?_
        refine mj_iadd dX11_number_94 ?_
        refine mj_bipush dX11_number_95 kc_bipush_48 ?_
        refine mj_isub dX11_number_97 ?_
        refine mj_ldc kk_X11_78 dX11_number_98 ?_
        refine mj_mmin mn_X11_79 (by decide) (Nat.le_of_ble_eq_true rfl) ⟨Nat.zero_le _, Nat.zero_le _⟩ dX11_number_100 ?_
        refine mj_istore_n [(1, .int (if (100000 : Int32) < ((((10 : Int32) * x1) + (r77 ((r71 11).toNatClampNeg))) - (48 : Int32)) then (100000 : Int32) else ((((10 : Int32) * x1) + (r77 ((r71 11).toNatClampNeg))) - (48 : Int32)))), (0, .ref 71)] dX11_number_103 rfl (by decide) rfl ?_
        refine mj_aload_n 1 dX11_number_104 rfl ?_
        refine mj_dup dX11_number_105 rfl ?_
        refine mj_getIv (v := (r71 11)) rfl fl_X11_31 rfl s0_71 a0_71 dX11_number_106 ?_
        refine mj_iconst dX11_number_109 kc_iconst_1 ?_
        refine mj_iadd dX11_number_110 ?_
        refine mj_putIr (ci := 9) (j := 11) [(71, (upd r71 11 ((r71 11) + (1 : Int32)))), (77, r77)] rfl ⟨rfl, rfl⟩ fl_X11_31 rfl rfl s0_71 a0_71 dX11_number_111 ?_
        refine mj_goto 42 dX11_number_114 (by decide) ?_
        refine mj_sub [1, 0] [(0, .ref 71), (1, .int (if (100000 : Int32) < ((((10 : Int32) * x1) + (r77 ((r71 11).toNatClampNeg))) - (48 : Int32)) then (100000 : Int32) else ((((10 : Int32) * x1) + (r77 ((r71 11).toNatClampNeg))) - (48 : Int32))))] rfl ?_
        obtain rfl := Option.some.inj hf
        have hZ := hc ((if (100000 : Int32) < ((((10 : Int32) * x1) + (r77 ((r71 11).toNatClampNeg))) - (48 : Int32)) then (100000 : Int32) else ((((10 : Int32) * x1) + (r77 ((r71 11).toNatClampNeg))) - (48 : Int32))), (upd r71 11 ((r71 11) + (1 : Int32)))) rfl
        replace hZ := mj_u2p hZ
        exact hZ
set_option maxRecDepth 100000 in
set_option maxHeartbeats 4000000 in
theorem jtX11_number_23 {X : mj_XT} {l : Launch} {G : mj_GT} {ad : Nat → Nat} {Qn : Option Value → mj_IT → mj_LT → Prop} (hR : mj_R X l G mj_P0 mj_S0 98 ad 0 0 Qn) (F : Nat) (I : mj_IT) (L : mj_LT) (r71 : Nat → Int32) (r77 : Nat → Int32) (o : ((Int32) × (Nat → Int32))) (hf : jnX11_number_23 F r77 r71 = some o) (hq : (mj_u2 (fun ov r71 => Qn (some (.int ov)) (mj_rows I [(71, r71), (77, r77)]) L)) o) : mj_W X G RX11 "number" cX11_number 2 3 (some .int) mj_P0 mj_S0 98 ad 0 0 23 [(0, .ref 71)] [] (mj_rows I [(71, r71), (77, r77)]) L := by
  unfold jnX11_number_23 at hf
  refine mj_aload_n 0 dX11_number_23 rfl ?_
  refine mj_getIv (v := (r71 14)) rfl fl_X11_25 rfl s0_71 a0_71 dX11_number_24 ?_
  refine mj_if_le 32 dX11_number_27 (by decide) (fun c7 => ?_) (fun c7 => ?_)
  · replace hf := mj_pos c7 hf
    refine mj_aload_n 0 dX11_number_32 rfl ?_
    refine mj_aload_n 0 dX11_number_33 rfl ?_
    refine mj_getIv (v := (r71 11)) rfl fl_X11_31 rfl s0_71 a0_71 dX11_number_34 ?_
    refine mj_putIr (ci := 9) (j := 12) [(71, (upd r71 12 (r71 11))), (77, r77)] rfl ⟨rfl, rfl⟩ fl_X11_75 rfl rfl s0_71 a0_71 dX11_number_37 ?_
    refine mj_iconst dX11_number_40 kc_iconst_0 ?_
    refine mj_istore_n [(1, .int (0 : Int32)), (0, .ref 71)] dX11_number_41 rfl (by decide) rfl ?_
    refine mj_sub [1, 0] [(0, .ref 71), (1, .int (0 : Int32))] rfl ?_
    obtain ⟨e8, ho8, hf⟩ := mj_bd hf
    refine lpX11_number_42 hR F I L (upd r71 12 (r71 11)) r77 F ((0 : Int32), (upd r71 12 (r71 11))) e8 ho8 ?_
    obtain ⟨x1_8, r71_8⟩ := e8
    replace hf := mj_u2e hf
    refine ?_
    refine mj_u2q ?_
    refine mj_iload_n 0 dX11_number_117 rfl ?_
    obtain rfl := Option.some.inj hf
    have hZ := hq
    replace hZ := mj_u2p hZ
    exact mj_iret hR ⟨Nat.le_refl _, Nat.le_refl _⟩ rfl rfl dX11_number_118 hZ
  · replace hf := mj_neg c7 hf
    refine mj_iconst dX11_number_30 kc_iconst_0 ?_
    obtain rfl := Option.some.inj hf
    have hZ := hq
    replace hZ := mj_u2p hZ
    exact mj_iret hR ⟨Nat.le_refl _, Nat.le_refl _⟩ rfl rfl dX11_number_31 hZ
set_option maxRecDepth 100000 in
set_option maxHeartbeats 4000000 in
theorem mtX11_number {X : mj_XT} {l : Launch} {G : mj_GT} {ad : Nat → Nat} {Qn : Option Value → mj_IT → mj_LT → Prop} (hR : mj_R X l G mj_P0 mj_S0 98 ad 0 0 Qn) (F : Nat) (I : mj_IT) (L : mj_LT) (r71 : Nat → Int32) (r77 : Nat → Int32) (o : ((Int32) × (Nat → Int32))) (hf : fnX11_number F r71 r77 = some o) (hq : (mj_u2 (fun ov r71 => Qn (some (.int ov)) (mj_rows I [(71, r71), (77, r77)]) L)) o) : mj_W X G RX11 "number" cX11_number 2 3 (some .int) mj_P0 mj_S0 98 ad 0 0 0 [(0, .ref 71)] [] (mj_rows I [(71, r71), (77, r77)]) L := by
  unfold fnX11_number at hf
  refine mj_aload_n 0 dX11_number_0 rfl ?_
  refine mj_getIv (v := (r71 14)) rfl fl_X11_25 rfl s0_71 a0_71 dX11_number_1 ?_
  refine mj_if_ne 23 dX11_number_4 (by decide) (fun c9 => ?_) (fun c9 => ?_)
  · replace hf := mj_neg c9 hf
    exact jtX11_number_23 hR F I L r71 r77 o hf hq
  · replace hf := mj_pos c9 hf
    refine mj_aload_n 0 dX11_number_7 rfl ?_
    obtain ⟨o10, ho10, hf⟩ := mj_bd hf
    refine mj_callVd (I2 := (mj_rows I [(71, o10.2), (77, r77)])) (L2 := L) (s1 := [.int o10.1]) (st := []) [] (cmX11_isDigit X.2.1 G F  _ _ r71 r77 rfl rfl o10 ho10) (mj_rr rfl) rfl cw_X11_72 s0_71 a0_71 (by decide) rfl rfl (Nat.le_of_ble_eq_true rfl) ⟨Nat.zero_le _, Nat.zero_le _⟩ dX11_number_8 rfl ?_
    refine mj_if_ne 23 dX11_number_11 (by decide) (fun c11 => ?_) (fun c11 => ?_)
    · replace hf := mj_neg c11 hf
      exact jtX11_number_23 hR F I L o10.2 r77 o hf hq
    · replace hf := mj_pos c11 hf
      refine mj_aload_n 0 dX11_number_14 rfl ?_
      refine mj_iconst dX11_number_15 kc_iconst_1 ?_
      refine mj_aload_n 0 dX11_number_16 rfl ?_
      refine mj_getIv (v := (o10.2 11)) rfl fl_X11_31 rfl s0_71 a0_71 dX11_number_17 ?_
      obtain ⟨o12, ho12, hf⟩ := mj_bd hf
      refine mj_callVd (I2 := (mj_rows I [(71, o12), (77, r77)])) (L2 := L) (s1 := []) (st := []) [.int (1 : Int32), .int (o10.2 11)] (cmX11_wrong X.2.1 G F (1 : Int32) (o10.2 11) _ _ o10.2 rfl o12 ho12) (mj_rr rfl) rfl cw_X11_64 s0_71 a0_71 (by decide) rfl rfl (Nat.le_of_ble_eq_true rfl) ⟨Nat.zero_le _, Nat.zero_le _⟩ dX11_number_20 rfl ?_
      exact jtX11_number_23 hR F I L o12 r77 o hf hq
set_option maxRecDepth 100000 in
set_option maxHeartbeats 4000000 in
theorem cmX11_number (l : Launch) (G : mj_GT) (F : Nat) (I : mj_IT) (L : mj_LT) (r71 : Nat → Int32) (r77 : Nat → Int32) (hr71 : I 71 = r71) (hr77 : I 77 = r77) (o : ((Int32) × (Nat → Int32))) (hf : fnX11_number F r71 r77 = some o) : mj_M l G yX11_number cX11_number 2 3 (some .int) 0 0 mj_P0 mj_S0 98 [.ref 71] I L (mj_qd (some (.int o.1)) (mj_rows I [(71, o.2), (77, r77)]) L) := by
  refine mj_in RX11 "number" [(0, .ref 71)] rfl rfl rfl (by decide) (Nat.le_of_ble_eq_true rfl) (fun X ad hR => ?_)
  refine mj_toI [(71, r71), (77, r77)] (by intro q hq; simp only [List.mem_cons, List.not_mem_nil, or_false] at hq; rcases hq with rfl | rfl <;> assumption) ?_
  refine mtX11_number hR F I L r71 r77 o hf ?_
  obtain ⟨w0, w1⟩ := o
  refine mj_u2q ?_
  exact ⟨rfl, rfl, rfl⟩

-- X11_numberTo
def fnX11_numberTo (F : Nat) (r71 : Nat → Int32) (r77 : Nat → Int32) (x1 : Int32) : Option ((Int32) × (Nat → Int32)) := (fnX11_number F r71 r77).bind (fun o1 => (if (o1.2 14) = 0 then (if o1.1 ≤ x1 then some (o1.1, o1.2) else (fnX11_wrong F o1.2 (2 : Int32) (o1.2 12)).bind (fun o4 => some (o1.1, o4))) else some (o1.1, o1.2)))
set_option maxRecDepth 100000 in
set_option maxHeartbeats 4000000 in
theorem mtX11_numberTo {X : mj_XT} {l : Launch} {G : mj_GT} {ad : Nat → Nat} {Qn : Option Value → mj_IT → mj_LT → Prop} (hR : mj_R X l G mj_P0 mj_S0 98 ad 0 0 Qn) (F : Nat) (I : mj_IT) (L : mj_LT) (r71 : Nat → Int32) (r77 : Nat → Int32) (x1 : Int32) (o : ((Int32) × (Nat → Int32))) (hf : fnX11_numberTo F r71 r77 x1 = some o) (hq : (mj_u2 (fun ov r71 => Qn (some (.int ov)) (mj_rows I [(71, r71), (77, r77)]) L)) o) : mj_W X G RX11 "numberTo" cX11_numberTo 3 4 (some .int) mj_P0 mj_S0 98 ad 0 0 0 [(0, .ref 71), (1, .int x1)] [] (mj_rows I [(71, r71), (77, r77)]) L := by
  unfold fnX11_numberTo at hf
  refine mj_aload_n 0 dX11_numberTo_0 rfl ?_
  obtain ⟨o1, ho1, hf⟩ := mj_bd hf
  refine mj_callVd (I2 := (mj_rows I [(71, o1.2), (77, r77)])) (L2 := L) (s1 := [.int o1.1]) (st := []) [] (cmX11_number X.2.1 G F  _ _ r71 r77 rfl rfl o1 ho1) (mj_rr rfl) rfl cw_X11_85 s0_71 a0_71 (by decide) rfl rfl (Nat.le_of_ble_eq_true rfl) ⟨Nat.zero_le _, Nat.zero_le _⟩ dX11_numberTo_1 rfl ?_
  refine mj_istore_n [(2, .int o1.1), (0, .ref 71), (1, .int x1)] dX11_numberTo_4 rfl (by decide) rfl ?_
  refine mj_aload_n 1 dX11_numberTo_5 rfl ?_
  refine mj_getIv (v := (o1.2 14)) rfl fl_X11_25 rfl s0_71 a0_71 dX11_numberTo_6 ?_
  refine mj_if_ne 26 dX11_numberTo_9 (by decide) (fun c2 => ?_) (fun c2 => ?_)
  · replace hf := mj_neg c2 hf
    refine mj_iload_n 0 dX11_numberTo_26 rfl ?_
    obtain rfl := Option.some.inj hf
    have hZ := hq
    replace hZ := mj_u2p hZ
    exact mj_iret hR ⟨Nat.le_refl _, Nat.le_refl _⟩ rfl rfl dX11_numberTo_27 hZ
  · replace hf := mj_pos c2 hf
    refine mj_iload_n 0 dX11_numberTo_12 rfl ?_
    refine mj_iload_n 2 dX11_numberTo_13 rfl ?_
    refine mj_icmp_le 26 dX11_numberTo_14 (by decide) (fun c3 => ?_) (fun c3 => ?_)
    · replace hf := mj_pos c3 hf
      refine mj_iload_n 0 dX11_numberTo_26 rfl ?_
      obtain rfl := Option.some.inj hf
      have hZ := hq
      replace hZ := mj_u2p hZ
      exact mj_iret hR ⟨Nat.le_refl _, Nat.le_refl _⟩ rfl rfl dX11_numberTo_27 hZ
    · replace hf := mj_neg c3 hf
      refine mj_aload_n 1 dX11_numberTo_17 rfl ?_
      refine mj_iconst dX11_numberTo_18 kc_iconst_2 ?_
      refine mj_aload_n 1 dX11_numberTo_19 rfl ?_
      refine mj_getIv (v := (o1.2 12)) rfl fl_X11_75 rfl s0_71 a0_71 dX11_numberTo_20 ?_
      obtain ⟨o4, ho4, hf⟩ := mj_bd hf
      refine mj_callVd (I2 := (mj_rows I [(71, o4), (77, r77)])) (L2 := L) (s1 := []) (st := []) [.int (2 : Int32), .int (o1.2 12)] (cmX11_wrong X.2.1 G F (2 : Int32) (o1.2 12) _ _ o1.2 rfl o4 ho4) (mj_rr rfl) rfl cw_X11_64 s0_71 a0_71 (by decide) rfl rfl (Nat.le_of_ble_eq_true rfl) ⟨Nat.zero_le _, Nat.zero_le _⟩ dX11_numberTo_23 rfl ?_
      refine mj_iload_n 0 dX11_numberTo_26 rfl ?_
      obtain rfl := Option.some.inj hf
      have hZ := hq
      replace hZ := mj_u2p hZ
      exact mj_iret hR ⟨Nat.le_refl _, Nat.le_refl _⟩ rfl rfl dX11_numberTo_27 hZ
set_option maxRecDepth 100000 in
set_option maxHeartbeats 4000000 in
theorem cmX11_numberTo (l : Launch) (G : mj_GT) (F : Nat) (x1 : Int32) (I : mj_IT) (L : mj_LT) (r71 : Nat → Int32) (r77 : Nat → Int32) (hr71 : I 71 = r71) (hr77 : I 77 = r77) (o : ((Int32) × (Nat → Int32))) (hf : fnX11_numberTo F r71 r77 x1 = some o) : mj_M l G yX11_numberTo cX11_numberTo 3 4 (some .int) 0 0 mj_P0 mj_S0 98 [.ref 71, .int x1] I L (mj_qd (some (.int o.1)) (mj_rows I [(71, o.2), (77, r77)]) L) := by
  refine mj_in RX11 "numberTo" [(0, .ref 71), (1, .int x1)] rfl rfl rfl (by decide) (Nat.le_of_ble_eq_true rfl) (fun X ad hR => ?_)
  refine mj_toI [(71, r71), (77, r77)] (by intro q hq; simp only [List.mem_cons, List.not_mem_nil, or_false] at hq; rcases hq with rfl | rfl <;> assumption) ?_
  refine mtX11_numberTo hR F I L r71 r77 x1 o hf ?_
  obtain ⟨w0, w1⟩ := o
  refine mj_u2q ?_
  exact ⟨rfl, rfl, rfl⟩

-- X11_term
def fnX11_term (F : Nat) (r71 : Nat → Int32) (r77 : Nat → Int32) : Option ((Int32) × (Nat → Int32)) := (fnX11_isDigit F r71 r77).bind (fun o1 => (if o1.1 = 0 then (fnX11_name F o1.2 r77).bind (fun o3 => some (o3.1, o3.2)) else (fnX11_numberTo F o1.2 r77 (9 : Int32)).bind (fun o4 => some ((o4.1 - (10 : Int32)), o4.2))))
set_option maxRecDepth 100000 in
set_option maxHeartbeats 4000000 in
theorem mtX11_term {X : mj_XT} {l : Launch} {G : mj_GT} {ad : Nat → Nat} {Qn : Option Value → mj_IT → mj_LT → Prop} (hR : mj_R X l G mj_P0 mj_S0 98 ad 0 0 Qn) (F : Nat) (I : mj_IT) (L : mj_LT) (r71 : Nat → Int32) (r77 : Nat → Int32) (o : ((Int32) × (Nat → Int32))) (hf : fnX11_term F r71 r77 = some o) (hq : (mj_u2 (fun ov r71 => Qn (some (.int ov)) (mj_rows I [(71, r71), (77, r77)]) L)) o) : mj_W X G RX11 "term" cX11_term 1 5 (some .int) mj_P0 mj_S0 98 ad 0 0 0 [(0, .ref 71)] [] (mj_rows I [(71, r71), (77, r77)]) L := by
  unfold fnX11_term at hf
  refine mj_aload_n 0 dX11_term_0 rfl ?_
  obtain ⟨o1, ho1, hf⟩ := mj_bd hf
  refine mj_callVd (I2 := (mj_rows I [(71, o1.2), (77, r77)])) (L2 := L) (s1 := [.int o1.1]) (st := []) [] (cmX11_isDigit X.2.1 G F  _ _ r71 r77 rfl rfl o1 ho1) (mj_rr rfl) rfl cw_X11_72 s0_71 a0_71 (by decide) rfl rfl (Nat.le_of_ble_eq_true rfl) ⟨Nat.zero_le _, Nat.zero_le _⟩ dX11_term_1 rfl ?_
  refine mj_if_eq 19 dX11_term_4 (by decide) (fun c2 => ?_) (fun c2 => ?_)
  · replace hf := mj_pos c2 hf
    refine mj_aload_n 0 dX11_term_19 rfl ?_
    obtain ⟨o3, ho3, hf⟩ := mj_bd hf
    refine mj_callVd (I2 := (mj_rows I [(71, o3.2), (77, r77)])) (L2 := L) (s1 := [.int o3.1]) (st := []) [] (cmX11_name X.2.1 G F  _ _ o1.2 r77 rfl rfl o3 ho3) (mj_rr rfl) rfl cw_X11_92 s0_71 a0_71 (by decide) rfl rfl (Nat.le_of_ble_eq_true rfl) ⟨Nat.zero_le _, Nat.zero_le _⟩ dX11_term_20 rfl ?_
    obtain rfl := Option.some.inj hf
    have hZ := hq
    replace hZ := mj_u2p hZ
    exact mj_iret hR ⟨Nat.le_refl _, Nat.le_refl _⟩ rfl rfl dX11_term_23 hZ
  · replace hf := mj_neg c2 hf
    refine mj_aload_n 0 dX11_term_7 rfl ?_
    refine mj_bipush dX11_term_8 kc_bipush_9 ?_
    obtain ⟨o4, ho4, hf⟩ := mj_bd hf
    refine mj_callVd (I2 := (mj_rows I [(71, o4.2), (77, r77)])) (L2 := L) (s1 := [.int o4.1]) (st := []) [.int (9 : Int32)] (cmX11_numberTo X.2.1 G F (9 : Int32) _ _ o1.2 r77 rfl rfl o4 ho4) (mj_rr rfl) rfl cw_X11_88 s0_71 a0_71 (by decide) rfl rfl (Nat.le_of_ble_eq_true rfl) ⟨Nat.zero_le _, Nat.zero_le _⟩ dX11_term_10 rfl ?_
    refine mj_bipush dX11_term_13 kc_bipush_10 ?_
    refine mj_isub dX11_term_15 ?_
    refine mj_goto 23 dX11_term_16 (by decide) ?_
    obtain rfl := Option.some.inj hf
    have hZ := hq
    replace hZ := mj_u2p hZ
    exact mj_iret hR ⟨Nat.le_refl _, Nat.le_refl _⟩ rfl rfl dX11_term_23 hZ
set_option maxRecDepth 100000 in
set_option maxHeartbeats 4000000 in
theorem cmX11_term (l : Launch) (G : mj_GT) (F : Nat) (I : mj_IT) (L : mj_LT) (r71 : Nat → Int32) (r77 : Nat → Int32) (hr71 : I 71 = r71) (hr77 : I 77 = r77) (o : ((Int32) × (Nat → Int32))) (hf : fnX11_term F r71 r77 = some o) : mj_M l G yX11_term cX11_term 1 5 (some .int) 0 0 mj_P0 mj_S0 98 [.ref 71] I L (mj_qd (some (.int o.1)) (mj_rows I [(71, o.2), (77, r77)]) L) := by
  refine mj_in RX11 "term" [(0, .ref 71)] rfl rfl rfl (by decide) (Nat.le_of_ble_eq_true rfl) (fun X ad hR => ?_)
  refine mj_toI [(71, r71), (77, r77)] (by intro q hq; simp only [List.mem_cons, List.not_mem_nil, or_false] at hq; rcases hq with rfl | rfl <;> assumption) ?_
  refine mtX11_term hR F I L r71 r77 o hf ?_
  obtain ⟨w0, w1⟩ := o
  refine mj_u2q ?_
  exact ⟨rfl, rfl, rfl⟩

