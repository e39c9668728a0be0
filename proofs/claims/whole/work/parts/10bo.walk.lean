-- X10_run
def fnX10_run (F : Nat) (r1 : Nat → Int32) (r18 : Nat → Int32) (r19 : Nat → Int32) (r20 : Nat → Int32) (r21 : Nat → Int32) (r22 : Nat → Int32) (r23 : Nat → Int32) (r24 : Nat → Int32) (r25 : Nat → Int32) (r26 : Nat → Int32) (r32 : Nat → Int32) (r33 : Nat → Int32) (r34 : Nat → Int32) (r35 : Nat → Int32) (r36 : Nat → Int32) (r37 : Nat → Int32) (r38 : Nat → Int32) (r39 : Nat → Int32) (r40 : Nat → Int32) (r65 : Nat → Int32) (r66 : Nat → Int32) (r67 : Nat → Int32) (r69 : Nat → Int32) (r70 : Nat → Int32) (q65 : Nat → Int64) (q68 : Nat → Int64) (x1 : Int32) : Option (((Int32) × (Nat → Int32) × (Nat → Int32) × (Nat → Int32) × (Nat → Int32) × (Nat → Int32) × (Nat → Int32) × (Nat → Int32) × (Nat → Int32) × (Nat → Int32) × (Nat → Int32) × (Nat → Int32) × (Nat → Int32) × (Nat → Int32) × (Nat → Int32) × (Nat → Int64) × (Nat → Int64)) ⊕ ((Nat) × (Nat → Int32) × (Nat → Int32) × (Nat → Int32) × (Nat → Int32) × (Nat → Int32) × (Nat → Int32) × (Nat → Int32) × (Nat → Int32) × (Nat → Int32) × (Nat → Int32) × (Nat → Int32) × (Nat → Int32) × (Nat → Int32) × (Nat → Int32) × (Nat → Int64) × (Nat → Int64))) := (fnX10_needStates F r1 r18 r19 r20 r21 r22 r23 r24 r25 r26 r32 r33 r34 r35 r36 r37 r38 r39 r40 r70).bind (Sum.elim (fun o1 => (fnX5_find F r18 r19 r21 o1.1 o1.2.1 o1.2.2.2.2.2.1 o1.2.2.2.2.2.2.1 o1.2.2.2.2.2.2.2.1 r65 r66 r67 r69 q65 q68).bind (fun o2 => (fnX5_exists F o2.2.2.2.2.1).bind (fun o3 => (if o3 = 0 then some (.inl ((-1 : Int32), o1.1, o1.2.1, o1.2.2.1, o1.2.2.2.1, o1.2.2.2.2.1, o1.2.2.2.2.2.1, o1.2.2.2.2.2.2.1, o1.2.2.2.2.2.2.2.1, o1.2.2.2.2.2.2.2.2.1, o2.1, o2.2.1, o2.2.2.1, o2.2.2.2.1, o1.2.2.2.2.2.2.2.2.2, o2.2.2.2.2.1, o2.2.2.2.2.2)) else (if x1 = (-1 : Int32) then some (.inl ((o2.1 2), o1.1, o1.2.1, o1.2.2.1, o1.2.2.2.1, o1.2.2.2.2.1, o1.2.2.2.2.2.1, o1.2.2.2.2.2.2.1, o1.2.2.2.2.2.2.2.1, o1.2.2.2.2.2.2.2.2.1, o2.1, o2.2.1, o2.2.2.1, o2.2.2.2.1, o1.2.2.2.2.2.2.2.2.2, o2.2.2.2.2.1, o2.2.2.2.2.2)) else (if x1 < 0 then some (.inl ((-1 : Int32), o1.1, o1.2.1, o1.2.2.1, o1.2.2.2.1, o1.2.2.2.2.1, o1.2.2.2.2.2.1, o1.2.2.2.2.2.2.1, o1.2.2.2.2.2.2.2.1, o1.2.2.2.2.2.2.2.2.1, o2.1, o2.2.1, o2.2.2.1, o2.2.2.2.1, o1.2.2.2.2.2.2.2.2.2, o2.2.2.2.2.1, o2.2.2.2.2.2)) else (if (o2.1 2) ≤ x1 then some (.inl ((-1 : Int32), o1.1, o1.2.1, o1.2.2.1, o1.2.2.2.1, o1.2.2.2.2.1, o1.2.2.2.2.2.1, o1.2.2.2.2.2.2.1, o1.2.2.2.2.2.2.2.1, o1.2.2.2.2.2.2.2.2.1, o2.1, o2.2.1, o2.2.2.1, o2.2.2.2.1, o1.2.2.2.2.2.2.2.2.2, o2.2.2.2.2.1, o2.2.2.2.2.2)) else (if mj_ib x1 10 = true then some (.inl ((o2.2.1 x1.toNatClampNeg), o1.1, o1.2.1, o1.2.2.1, o1.2.2.2.1, o1.2.2.2.2.1, o1.2.2.2.2.2.1, o1.2.2.2.2.2.2.1, o1.2.2.2.2.2.2.2.1, o1.2.2.2.2.2.2.2.2.1, o2.1, o2.2.1, o2.2.2.1, o2.2.2.2.1, o1.2.2.2.2.2.2.2.2.2, o2.2.2.2.2.1, o2.2.2.2.2.2)) else none)))))))) (fun eo1 => some (.inr (eo1.1, eo1.2.1, eo1.2.2.1, eo1.2.2.2.1, eo1.2.2.2.2.1, eo1.2.2.2.2.2.1, eo1.2.2.2.2.2.2.1, eo1.2.2.2.2.2.2.2.1, eo1.2.2.2.2.2.2.2.2.1, eo1.2.2.2.2.2.2.2.2.2.1, r65, r66, r67, r69, eo1.2.2.2.2.2.2.2.2.2.2, q65, q68))))
set_option maxRecDepth 100000 in
set_option maxHeartbeats 4000000 in
theorem mtX10_run {X : mj_XT} {l : Launch} {G : mj_GT} {ad : Nat → Nat} {Qn : Option Value → mj_IT → mj_LT → Prop} {Qx : String → mj_IT → mj_LT → Prop} (hR : mj_Rx X l G mj_P0 mj_S0 98 ad 1 6 Qn Qx) (hlt : l.stackTraces = false) (F : Nat) (I : mj_IT) (L : mj_LT) (r1 : Nat → Int32) (r18 : Nat → Int32) (r19 : Nat → Int32) (r20 : Nat → Int32) (r21 : Nat → Int32) (r22 : Nat → Int32) (r23 : Nat → Int32) (r24 : Nat → Int32) (r25 : Nat → Int32) (r26 : Nat → Int32) (r32 : Nat → Int32) (r33 : Nat → Int32) (r34 : Nat → Int32) (r35 : Nat → Int32) (r36 : Nat → Int32) (r37 : Nat → Int32) (r38 : Nat → Int32) (r39 : Nat → Int32) (r40 : Nat → Int32) (r65 : Nat → Int32) (r66 : Nat → Int32) (r67 : Nat → Int32) (r69 : Nat → Int32) (r70 : Nat → Int32) (q65 : Nat → Int64) (q68 : Nat → Int64) (x1 : Int32) (o : (((Int32) × (Nat → Int32) × (Nat → Int32) × (Nat → Int32) × (Nat → Int32) × (Nat → Int32) × (Nat → Int32) × (Nat → Int32) × (Nat → Int32) × (Nat → Int32) × (Nat → Int32) × (Nat → Int32) × (Nat → Int32) × (Nat → Int32) × (Nat → Int32) × (Nat → Int64) × (Nat → Int64)) ⊕ ((Nat) × (Nat → Int32) × (Nat → Int32) × (Nat → Int32) × (Nat → Int32) × (Nat → Int32) × (Nat → Int32) × (Nat → Int32) × (Nat → Int32) × (Nat → Int32) × (Nat → Int32) × (Nat → Int32) × (Nat → Int32) × (Nat → Int32) × (Nat → Int32) × (Nat → Int64) × (Nat → Int64)))) (hf : fnX10_run F r1 r18 r19 r20 r21 r22 r23 r24 r25 r26 r32 r33 r34 r35 r36 r37 r38 r39 r40 r65 r66 r67 r69 r70 q65 q68 x1 = some o) (hq : (Sum.elim (mj_u2 (fun ov => (mj_u2 (fun r32 => (mj_u2 (fun r33 => (mj_u2 (fun r34 => (mj_u2 (fun r35 => (mj_u2 (fun r36 => (mj_u2 (fun r37 => (mj_u2 (fun r38 => (mj_u2 (fun r39 => (mj_u2 (fun r40 => (mj_u2 (fun r65 => (mj_u2 (fun r66 => (mj_u2 (fun r67 => (mj_u2 (fun r69 => (mj_u2 (fun r70 => (mj_u2 (fun q65 q68 => Qn (some (.int ov)) (mj_rows I [(1, r1), (18, r18), (19, r19), (20, r20), (21, r21), (22, r22), (23, r23), (24, r24), (25, r25), (26, r26), (32, r32), (33, r33), (34, r34), (35, r35), (36, r36), (37, r37), (38, r38), (39, r39), (40, r40), (65, r65), (66, r66), (67, r67), (69, r69), (70, r70)]) (mj_rows L [(65, q65), (68, q68)]))))))))))))))))))))))))))))))))) (mj_u2 (fun kx => (mj_u2 (fun r32 => (mj_u2 (fun r33 => (mj_u2 (fun r34 => (mj_u2 (fun r35 => (mj_u2 (fun r36 => (mj_u2 (fun r37 => (mj_u2 (fun r38 => (mj_u2 (fun r39 => (mj_u2 (fun r40 => (mj_u2 (fun r65 => (mj_u2 (fun r66 => (mj_u2 (fun r67 => (mj_u2 (fun r69 => (mj_u2 (fun r70 => (mj_u2 (fun q65 q68 => Qx (mj_en kx) (mj_rows I [(1, r1), (18, r18), (19, r19), (20, r20), (21, r21), (22, r22), (23, r23), (24, r24), (25, r25), (26, r26), (32, r32), (33, r33), (34, r34), (35, r35), (36, r36), (37, r37), (38, r38), (39, r39), (40, r40), (65, r65), (66, r66), (67, r67), (69, r69), (70, r70)]) (mj_rows L [(65, q65), (68, q68)])))))))))))))))))))))))))))))))))) o) : mj_W X G RX10 "run" cX10_run 2 9 (some .int) mj_P0 mj_S0 98 ad 0 0 0 [(0, .ref 1), (1, .int x1)] [] (mj_rows I [(1, r1), (18, r18), (19, r19), (20, r20), (21, r21), (22, r22), (23, r23), (24, r24), (25, r25), (26, r26), (32, r32), (33, r33), (34, r34), (35, r35), (36, r36), (37, r37), (38, r38), (39, r39), (40, r40), (65, r65), (66, r66), (67, r67), (69, r69), (70, r70)]) (mj_rows L [(65, q65), (68, q68)]) := by
  unfold fnX10_run at hf
  refine mj_aload_n 0 dX10_run_0 rfl ?_
  obtain ⟨so1, ho1, hf⟩ := mj_bd hf
  refine mj_callVx (st := []) [] hR (cmX10_needStates l G hlt F  _ _ r1 r18 r19 r20 r21 r22 r23 r24 r25 r26 r32 r33 r34 r35 r36 r37 r38 r39 r40 r70 rfl rfl rfl rfl rfl rfl rfl rfl rfl rfl rfl rfl rfl rfl rfl rfl rfl rfl rfl rfl so1 ho1) cw_X10_175 s0_1 a0_1 (by decide) rfl rfl (Nat.le_of_ble_eq_true rfl) ⟨by decide, by decide⟩ dX10_run_1 (fun E I2 L2 hx => ?_) (fun rv I2 L2 hx => ?_)
  · obtain ⟨eo1, hf, hx⟩ := mj_sxr hf hx
    obtain rfl := Option.some.inj hf
    obtain ⟨hE9, hI9, hL9⟩ := hx
    rw [hE9, hI9, hL9]
    have hZ := mj_er hq
    replace hZ := mj_u2p hZ
    replace hZ := mj_u2p hZ
    replace hZ := mj_u2p hZ
    replace hZ := mj_u2p hZ
    replace hZ := mj_u2p hZ
    replace hZ := mj_u2p hZ
    replace hZ := mj_u2p hZ
    replace hZ := mj_u2p hZ
    replace hZ := mj_u2p hZ
    replace hZ := mj_u2p hZ
    replace hZ := mj_u2p hZ
    replace hZ := mj_u2p hZ
    replace hZ := mj_u2p hZ
    replace hZ := mj_u2p hZ
    replace hZ := mj_u2p hZ
    replace hZ := mj_u2p hZ
    rw [mj_rq (l' := [(1, r1), (18, r18), (19, r19), (20, r20), (21, r21), (22, r22), (23, r23), (24, r24), (25, r25), (26, r26), (32, eo1.2.1), (33, eo1.2.2.1), (34, eo1.2.2.2.1), (35, eo1.2.2.2.2.1), (36, eo1.2.2.2.2.2.1), (37, eo1.2.2.2.2.2.2.1), (38, eo1.2.2.2.2.2.2.2.1), (39, eo1.2.2.2.2.2.2.2.2.1), (40, eo1.2.2.2.2.2.2.2.2.2.1), (65, r65), (66, r66), (67, r67), (69, r69), (70, eo1.2.2.2.2.2.2.2.2.2.2)]) rfl rfl]
    exact hZ
  · obtain ⟨o1, hf, hx⟩ := mj_sxl hf hx
    obtain ⟨hr9, hI9, hL9⟩ := hx
    refine mj_cnv (s1 := []) (I2 := (mj_rows I [(1, r1), (18, r18), (19, r19), (20, r20), (21, r21), (22, r22), (23, r23), (24, r24), (25, r25), (26, r26), (32, o1.1), (33, o1.2.1), (34, o1.2.2.1), (35, o1.2.2.2.1), (36, o1.2.2.2.2.1), (37, o1.2.2.2.2.2.1), (38, o1.2.2.2.2.2.2.1), (39, o1.2.2.2.2.2.2.2.1), (40, o1.2.2.2.2.2.2.2.2.1), (65, r65), (66, r66), (67, r67), (69, r69), (70, o1.2.2.2.2.2.2.2.2.2)])) (L2 := (mj_rows L [(65, q65), (68, q68)])) (by rw [hr9]; rfl) (hI9.trans (mj_rq rfl rfl)) hL9 ?_
    refine mj_aload_n 0 dX10_run_4 rfl ?_
    refine mj_getP p0_1_9 (by decide) fl_X10_65 rfl s0_1 a0_1 dX10_run_5 ?_
    refine mj_aload_n 0 dX10_run_8 rfl ?_
    refine mj_getP p0_1_5 (by decide) fl_X10_37 rfl s0_1 a0_1 dX10_run_9 ?_
    refine mj_aload_n 0 dX10_run_12 rfl ?_
    refine mj_getP p0_1_2 (by decide) fl_X10_23 rfl s0_1 a0_1 dX10_run_13 ?_
    obtain ⟨o2, ho2, hf⟩ := mj_bd hf
    refine mj_callVd (I2 := (mj_rows I [(1, r1), (18, r18), (19, r19), (20, r20), (21, r21), (22, r22), (23, r23), (24, r24), (25, r25), (26, r26), (32, o1.1), (33, o1.2.1), (34, o1.2.2.1), (35, o1.2.2.2.1), (36, o1.2.2.2.2.1), (37, o1.2.2.2.2.2.1), (38, o1.2.2.2.2.2.2.1), (39, o1.2.2.2.2.2.2.2.1), (40, o1.2.2.2.2.2.2.2.2.1), (65, o2.1), (66, o2.2.1), (67, o2.2.2.1), (69, o2.2.2.2.1), (70, o1.2.2.2.2.2.2.2.2.2)])) (L2 := (mj_rows L [(65, o2.2.2.2.2.1), (68, o2.2.2.2.2.2)])) (s1 := []) (st := []) [.ref 32, .ref 18] (cmX5_find X.2.1 G F  _ _ r18 r19 r21 o1.1 o1.2.1 o1.2.2.2.2.2.1 o1.2.2.2.2.2.2.1 o1.2.2.2.2.2.2.2.1 r65 r66 r67 r69 q65 q68 rfl rfl rfl rfl rfl rfl rfl rfl rfl rfl rfl rfl rfl rfl o2 ho2) (mj_rq rfl rfl) (mj_rq rfl rfl) cw_X10_270 s0_65 a0_65 (by decide) rfl rfl (Nat.le_of_ble_eq_true rfl) (mj_rxc hR ⟨by decide, by decide⟩) dX10_run_16 rfl ?_
    refine mj_aload_n 0 dX10_run_19 rfl ?_
    refine mj_getP p0_1_9 (by decide) fl_X10_65 rfl s0_1 a0_1 dX10_run_20 ?_
    obtain ⟨o3, ho3, hf⟩ := mj_bd hf
    refine mj_callVd (I2 := (mj_rows I [(1, r1), (18, r18), (19, r19), (20, r20), (21, r21), (22, r22), (23, r23), (24, r24), (25, r25), (26, r26), (32, o1.1), (33, o1.2.1), (34, o1.2.2.1), (35, o1.2.2.2.1), (36, o1.2.2.2.2.1), (37, o1.2.2.2.2.2.1), (38, o1.2.2.2.2.2.2.1), (39, o1.2.2.2.2.2.2.2.1), (40, o1.2.2.2.2.2.2.2.2.1), (65, o2.1), (66, o2.2.1), (67, o2.2.2.1), (69, o2.2.2.2.1), (70, o1.2.2.2.2.2.2.2.2.2)])) (L2 := (mj_rows L [(65, o2.2.2.2.2.1), (68, o2.2.2.2.2.2)])) (s1 := [.int o3]) (st := []) [] (cmX5_exists X.2.1 G F  _ _ o2.2.2.2.2.1 rfl o3 ho3) rfl (mj_rq rfl rfl) cw_X10_273 s0_65 a0_65 (by decide) rfl rfl (Nat.le_of_ble_eq_true rfl) (mj_rxc hR ⟨by decide, by decide⟩) dX10_run_23 rfl ?_
    refine mj_if_ne 31 dX10_run_26 (by decide) (fun c4 => ?_) (fun c4 => ?_)
    · replace hf := mj_neg c4 hf
      refine mj_iload_n 1 dX10_run_31 rfl ?_
      refine mj_iconst dX10_run_32 kc_iconst_m1 ?_
      refine mj_icmp_ne 44 dX10_run_33 (by decide) (fun c5 => ?_) (fun c5 => ?_)
      · replace hf := mj_neg c5 hf
        refine mj_iload_n 1 dX10_run_44 rfl ?_
        refine mj_if_lt 71 dX10_run_45 (by decide) (fun c6 => ?_) (fun c6 => ?_)
        · replace hf := mj_pos c6 hf
          refine mj_iconst dX10_run_71 kc_iconst_m1 ?_
          obtain rfl := Option.some.inj hf
          have hZ := mj_el hq
          replace hZ := mj_u2p hZ
          replace hZ := mj_u2p hZ
          replace hZ := mj_u2p hZ
          replace hZ := mj_u2p hZ
          replace hZ := mj_u2p hZ
          replace hZ := mj_u2p hZ
          replace hZ := mj_u2p hZ
          replace hZ := mj_u2p hZ
          replace hZ := mj_u2p hZ
          replace hZ := mj_u2p hZ
          replace hZ := mj_u2p hZ
          replace hZ := mj_u2p hZ
          replace hZ := mj_u2p hZ
          replace hZ := mj_u2p hZ
          replace hZ := mj_u2p hZ
          replace hZ := mj_u2p hZ
          exact mj_iretx hR ⟨by decide, by decide⟩ rfl rfl dX10_run_72 hZ
        · replace hf := mj_neg c6 hf
          refine mj_iload_n 1 dX10_run_48 rfl ?_
          refine mj_aload_n 0 dX10_run_49 rfl ?_
          refine mj_getP p0_1_9 (by decide) fl_X10_65 rfl s0_1 a0_1 dX10_run_50 ?_
          refine mj_getIv (v := (o2.1 2)) rfl fl_X10_277 rfl s0_65 a0_65 dX10_run_53 ?_
          refine mj_icmp_ge 71 dX10_run_56 (by decide) (fun c7 => ?_) (fun c7 => ?_)
          · replace hf := mj_pos c7 hf
            refine mj_iconst dX10_run_71 kc_iconst_m1 ?_
            obtain rfl := Option.some.inj hf
            have hZ := mj_el hq
            replace hZ := mj_u2p hZ
            replace hZ := mj_u2p hZ
            replace hZ := mj_u2p hZ
            replace hZ := mj_u2p hZ
            replace hZ := mj_u2p hZ
            replace hZ := mj_u2p hZ
            replace hZ := mj_u2p hZ
            replace hZ := mj_u2p hZ
            replace hZ := mj_u2p hZ
            replace hZ := mj_u2p hZ
            replace hZ := mj_u2p hZ
            replace hZ := mj_u2p hZ
            replace hZ := mj_u2p hZ
            replace hZ := mj_u2p hZ
            replace hZ := mj_u2p hZ
            replace hZ := mj_u2p hZ
            exact mj_iretx hR ⟨by decide, by decide⟩ rfl rfl dX10_run_72 hZ
          · replace hf := mj_neg c7 hf
            refine mj_aload_n 0 dX10_run_59 rfl ?_
            refine mj_getP p0_1_9 (by decide) fl_X10_65 rfl s0_1 a0_1 dX10_run_60 ?_
            refine mj_getP p0_65_3 (by decide) fl_X10_278 rfl s0_65 a0_65 dX10_run_63 ?_
            refine mj_iload_n 1 dX10_run_66 rfl ?_
            obtain ⟨z8, hf⟩ := mj_ck hf
            refine mj_ialdv (x := o2.2.1) rfl s0_66 a0_66 z8 dX10_run_67 ?_
            refine mj_goto 72 dX10_run_68 (by decide) ?_
            obtain rfl := Option.some.inj hf
            have hZ := mj_el hq
            replace hZ := mj_u2p hZ
            replace hZ := mj_u2p hZ
            replace hZ := mj_u2p hZ
            replace hZ := mj_u2p hZ
            replace hZ := mj_u2p hZ
            replace hZ := mj_u2p hZ
            replace hZ := mj_u2p hZ
            replace hZ := mj_u2p hZ
            replace hZ := mj_u2p hZ
            replace hZ := mj_u2p hZ
            replace hZ := mj_u2p hZ
            replace hZ := mj_u2p hZ
            replace hZ := mj_u2p hZ
            replace hZ := mj_u2p hZ
            replace hZ := mj_u2p hZ
            replace hZ := mj_u2p hZ
            exact mj_iretx hR ⟨by decide, by decide⟩ rfl rfl dX10_run_72 hZ
      · replace hf := mj_pos c5 hf
        refine mj_aload_n 0 dX10_run_36 rfl ?_
        refine mj_getP p0_1_9 (by decide) fl_X10_65 rfl s0_1 a0_1 dX10_run_37 ?_
        refine mj_getIv (v := (o2.1 2)) rfl fl_X10_277 rfl s0_65 a0_65 dX10_run_40 ?_
        obtain rfl := Option.some.inj hf
        have hZ := mj_el hq
        replace hZ := mj_u2p hZ
        replace hZ := mj_u2p hZ
        replace hZ := mj_u2p hZ
        replace hZ := mj_u2p hZ
        replace hZ := mj_u2p hZ
        replace hZ := mj_u2p hZ
        replace hZ := mj_u2p hZ
        replace hZ := mj_u2p hZ
        replace hZ := mj_u2p hZ
        replace hZ := mj_u2p hZ
        replace hZ := mj_u2p hZ
        replace hZ := mj_u2p hZ
        replace hZ := mj_u2p hZ
        replace hZ := mj_u2p hZ
        replace hZ := mj_u2p hZ
        replace hZ := mj_u2p hZ
        exact mj_iretx hR ⟨by decide, by decide⟩ rfl rfl dX10_run_43 hZ
    · replace hf := mj_pos c4 hf
      refine mj_iconst dX10_run_29 kc_iconst_m1 ?_
      obtain rfl := Option.some.inj hf
      have hZ := mj_el hq
      replace hZ := mj_u2p hZ
      replace hZ := mj_u2p hZ
      replace hZ := mj_u2p hZ
      replace hZ := mj_u2p hZ
      replace hZ := mj_u2p hZ
      replace hZ := mj_u2p hZ
      replace hZ := mj_u2p hZ
      replace hZ := mj_u2p hZ
      replace hZ := mj_u2p hZ
      replace hZ := mj_u2p hZ
      replace hZ := mj_u2p hZ
      replace hZ := mj_u2p hZ
      replace hZ := mj_u2p hZ
      replace hZ := mj_u2p hZ
      replace hZ := mj_u2p hZ
      replace hZ := mj_u2p hZ
      exact mj_iretx hR ⟨by decide, by decide⟩ rfl rfl dX10_run_30 hZ
set_option maxRecDepth 100000 in
set_option maxHeartbeats 4000000 in
theorem cmX10_run (l : Launch) (G : mj_GT) (hlt : l.stackTraces = false) (F : Nat) (x1 : Int32) (I : mj_IT) (L : mj_LT) (r1 : Nat → Int32) (r18 : Nat → Int32) (r19 : Nat → Int32) (r20 : Nat → Int32) (r21 : Nat → Int32) (r22 : Nat → Int32) (r23 : Nat → Int32) (r24 : Nat → Int32) (r25 : Nat → Int32) (r26 : Nat → Int32) (r32 : Nat → Int32) (r33 : Nat → Int32) (r34 : Nat → Int32) (r35 : Nat → Int32) (r36 : Nat → Int32) (r37 : Nat → Int32) (r38 : Nat → Int32) (r39 : Nat → Int32) (r40 : Nat → Int32) (r65 : Nat → Int32) (r66 : Nat → Int32) (r67 : Nat → Int32) (r69 : Nat → Int32) (r70 : Nat → Int32) (q65 : Nat → Int64) (q68 : Nat → Int64) (hr1 : I 1 = r1) (hr18 : I 18 = r18) (hr19 : I 19 = r19) (hr20 : I 20 = r20) (hr21 : I 21 = r21) (hr22 : I 22 = r22) (hr23 : I 23 = r23) (hr24 : I 24 = r24) (hr25 : I 25 = r25) (hr26 : I 26 = r26) (hr32 : I 32 = r32) (hr33 : I 33 = r33) (hr34 : I 34 = r34) (hr35 : I 35 = r35) (hr36 : I 36 = r36) (hr37 : I 37 = r37) (hr38 : I 38 = r38) (hr39 : I 39 = r39) (hr40 : I 40 = r40) (hr65 : I 65 = r65) (hr66 : I 66 = r66) (hr67 : I 67 = r67) (hr69 : I 69 = r69) (hr70 : I 70 = r70) (hq65 : L 65 = q65) (hq68 : L 68 = q68) (o : (((Int32) × (Nat → Int32) × (Nat → Int32) × (Nat → Int32) × (Nat → Int32) × (Nat → Int32) × (Nat → Int32) × (Nat → Int32) × (Nat → Int32) × (Nat → Int32) × (Nat → Int32) × (Nat → Int32) × (Nat → Int32) × (Nat → Int32) × (Nat → Int32) × (Nat → Int64) × (Nat → Int64)) ⊕ ((Nat) × (Nat → Int32) × (Nat → Int32) × (Nat → Int32) × (Nat → Int32) × (Nat → Int32) × (Nat → Int32) × (Nat → Int32) × (Nat → Int32) × (Nat → Int32) × (Nat → Int32) × (Nat → Int32) × (Nat → Int32) × (Nat → Int32) × (Nat → Int32) × (Nat → Int64) × (Nat → Int64)))) (hf : fnX10_run F r1 r18 r19 r20 r21 r22 r23 r24 r25 r26 r32 r33 r34 r35 r36 r37 r38 r39 r40 r65 r66 r67 r69 r70 q65 q68 x1 = some o) : mj_Mx l G yX10_run cX10_run 2 9 (some .int) 1 6 mj_P0 mj_S0 98 [.ref 1, .int x1] I L (fun rv I2 L2 => Sum.elim (fun o => rv = (some (.int o.1)) ∧ I2 = (mj_rows I [(1, r1), (18, r18), (19, r19), (20, r20), (21, r21), (22, r22), (23, r23), (24, r24), (25, r25), (26, r26), (32, o.2.1), (33, o.2.2.1), (34, o.2.2.2.1), (35, o.2.2.2.2.1), (36, o.2.2.2.2.2.1), (37, o.2.2.2.2.2.2.1), (38, o.2.2.2.2.2.2.2.1), (39, o.2.2.2.2.2.2.2.2.1), (40, o.2.2.2.2.2.2.2.2.2.1), (65, o.2.2.2.2.2.2.2.2.2.2.1), (66, o.2.2.2.2.2.2.2.2.2.2.2.1), (67, o.2.2.2.2.2.2.2.2.2.2.2.2.1), (69, o.2.2.2.2.2.2.2.2.2.2.2.2.2.1), (70, o.2.2.2.2.2.2.2.2.2.2.2.2.2.2.1)]) ∧ L2 = (mj_rows L [(65, o.2.2.2.2.2.2.2.2.2.2.2.2.2.2.2.1), (68, o.2.2.2.2.2.2.2.2.2.2.2.2.2.2.2.2)])) (fun _ => False) o) (fun E I2 L2 => Sum.elim (fun _ => False) (fun o => E = mj_en o.1 ∧ I2 = (mj_rows I [(1, r1), (18, r18), (19, r19), (20, r20), (21, r21), (22, r22), (23, r23), (24, r24), (25, r25), (26, r26), (32, o.2.1), (33, o.2.2.1), (34, o.2.2.2.1), (35, o.2.2.2.2.1), (36, o.2.2.2.2.2.1), (37, o.2.2.2.2.2.2.1), (38, o.2.2.2.2.2.2.2.1), (39, o.2.2.2.2.2.2.2.2.1), (40, o.2.2.2.2.2.2.2.2.2.1), (65, o.2.2.2.2.2.2.2.2.2.2.1), (66, o.2.2.2.2.2.2.2.2.2.2.2.1), (67, o.2.2.2.2.2.2.2.2.2.2.2.2.1), (69, o.2.2.2.2.2.2.2.2.2.2.2.2.2.1), (70, o.2.2.2.2.2.2.2.2.2.2.2.2.2.2.1)]) ∧ L2 = (mj_rows L [(65, o.2.2.2.2.2.2.2.2.2.2.2.2.2.2.2.1), (68, o.2.2.2.2.2.2.2.2.2.2.2.2.2.2.2.2)])) o) := by
  refine mj_inx RX10 "run" [(0, .ref 1), (1, .int x1)] rfl rfl rfl (by decide) (Nat.le_of_ble_eq_true rfl) (fun X ad hR => ?_)
  refine mj_toI [(1, r1), (18, r18), (19, r19), (20, r20), (21, r21), (22, r22), (23, r23), (24, r24), (25, r25), (26, r26), (32, r32), (33, r33), (34, r34), (35, r35), (36, r36), (37, r37), (38, r38), (39, r39), (40, r40), (65, r65), (66, r66), (67, r67), (69, r69), (70, r70)] (by intro q hq; simp only [List.mem_cons, List.not_mem_nil, or_false] at hq; rcases hq with rfl | rfl | rfl | rfl | rfl | rfl | rfl | rfl | rfl | rfl | rfl | rfl | rfl | rfl | rfl | rfl | rfl | rfl | rfl | rfl | rfl | rfl | rfl | rfl <;> assumption) ?_
  refine mj_toL [(65, q65), (68, q68)] (by intro q hq; simp only [List.mem_cons, List.not_mem_nil, or_false] at hq; rcases hq with rfl | rfl <;> assumption) ?_
  refine mtX10_run hR hlt F I L r1 r18 r19 r20 r21 r22 r23 r24 r25 r26 r32 r33 r34 r35 r36 r37 r38 r39 r40 r65 r66 r67 r69 r70 q65 q68 x1 o hf ?_
  rcases o with o | o
  · refine mj_elq ?_
    obtain ⟨w0, w1, w2, w3, w4, w5, w6, w7, w8, w9, w10, w11, w12, w13, w14, w15, w16⟩ := o
    refine mj_u2q ?_
    refine mj_u2q ?_
    refine mj_u2q ?_
    refine mj_u2q ?_
    refine mj_u2q ?_
    refine mj_u2q ?_
    refine mj_u2q ?_
    refine mj_u2q ?_
    refine mj_u2q ?_
    refine mj_u2q ?_
    refine mj_u2q ?_
    refine mj_u2q ?_
    refine mj_u2q ?_
    refine mj_u2q ?_
    refine mj_u2q ?_
    refine mj_u2q ?_
    refine mj_elq ?_
    exact ⟨rfl, rfl, rfl⟩
  · refine mj_erq ?_
    obtain ⟨w0, w1, w2, w3, w4, w5, w6, w7, w8, w9, w10, w11, w12, w13, w14, w15, w16⟩ := o
    refine mj_u2q ?_
    refine mj_u2q ?_
    refine mj_u2q ?_
    refine mj_u2q ?_
    refine mj_u2q ?_
    refine mj_u2q ?_
    refine mj_u2q ?_
    refine mj_u2q ?_
    refine mj_u2q ?_
    refine mj_u2q ?_
    refine mj_u2q ?_
    refine mj_u2q ?_
    refine mj_u2q ?_
    refine mj_u2q ?_
    refine mj_u2q ?_
    refine mj_u2q ?_
    refine mj_erq ?_
    exact ⟨rfl, rfl, rfl⟩

