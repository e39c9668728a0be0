-- X10_told
def fnX10_told (F : Nat) (r1 : Nat → Int32) (r2 : Nat → Int32) (r18 : Nat → Int32) (r19 : Nat → Int32) (r20 : Nat → Int32) (r21 : Nat → Int32) (r22 : Nat → Int32) (r23 : Nat → Int32) (r24 : Nat → Int32) (r25 : Nat → Int32) (r26 : Nat → Int32) (r29 : Nat → Int32) (r32 : Nat → Int32) (r33 : Nat → Int32) (r34 : Nat → Int32) (r35 : Nat → Int32) (r36 : Nat → Int32) (r37 : Nat → Int32) (r38 : Nat → Int32) (r39 : Nat → Int32) (r40 : Nat → Int32) (r70 : Nat → Int32) (x1 : Int32) : Option (((Int32) × (Nat → Int32) × (Nat → Int32) × (Nat → Int32) × (Nat → Int32) × (Nat → Int32) × (Nat → Int32) × (Nat → Int32) × (Nat → Int32) × (Nat → Int32) × (Nat → Int32)) ⊕ ((Nat) × (Nat → Int32) × (Nat → Int32) × (Nat → Int32) × (Nat → Int32) × (Nat → Int32) × (Nat → Int32) × (Nat → Int32) × (Nat → Int32) × (Nat → Int32) × (Nat → Int32))) := (fnX10_needNumber F r70 x1 (0 : Int32) (7 : Int32)).bind (Sum.elim (fun o1 => (if x1 = 0 then some (.inl ((r18 0), r32, r33, r34, r35, r36, r37, r38, r39, r40, o1)) else (if x1 = (6 : Int32) then some (.inl ((r2 0), r32, r33, r34, r35, r36, r37, r38, r39, r40, o1)) else (if x1 = (7 : Int32) then some (.inl ((r29 0), r32, r33, r34, r35, r36, r37, r38, r39, r40, o1)) else (fnX4_explore F r18 r19 r20 r21 r22 r23 r24 r25 r26 r32 r33 r34 r35 r36 r37 r38 r39 r40 (r1 3)).bind (fun o5 => (if (o5.1 6) = 0 then (if x1 = (1 : Int32) then some (.inl ((o5.1 2), o5.1, o5.2.1, o5.2.2.1, o5.2.2.2.1, o5.2.2.2.2.1, o5.2.2.2.2.2.1, o5.2.2.2.2.2.2.1, o5.2.2.2.2.2.2.2.1, o5.2.2.2.2.2.2.2.2, o1)) else (if x1 = (2 : Int32) then some (.inl ((o5.1 4), o5.1, o5.2.1, o5.2.2.1, o5.2.2.2.1, o5.2.2.2.2.1, o5.2.2.2.2.2.1, o5.2.2.2.2.2.2.1, o5.2.2.2.2.2.2.2.1, o5.2.2.2.2.2.2.2.2, o1)) else (if x1 = (3 : Int32) then some (.inl ((o5.1 5), o5.1, o5.2.1, o5.2.2.1, o5.2.2.2.1, o5.2.2.2.2.1, o5.2.2.2.2.2.1, o5.2.2.2.2.2.2.1, o5.2.2.2.2.2.2.2.1, o5.2.2.2.2.2.2.2.2, o1)) else (if x1 = (4 : Int32) then some (.inl ((o5.1 3), o5.1, o5.2.1, o5.2.2.1, o5.2.2.2.1, o5.2.2.2.2.1, o5.2.2.2.2.2.1, o5.2.2.2.2.2.2.1, o5.2.2.2.2.2.2.2.1, o5.2.2.2.2.2.2.2.2, o1)) else (fnX4_greatestLevel F o5.1 o5.2.2.2.1).bind (fun o8 => some (.inl (o8, o5.1, o5.2.1, o5.2.2.1, o5.2.2.2.1, o5.2.2.2.2.1, o5.2.2.2.2.2.1, o5.2.2.2.2.2.2.1, o5.2.2.2.2.2.2.2.1, o5.2.2.2.2.2.2.2.2, o1))))))) else some (.inl ((-1 : Int32), o5.1, o5.2.1, o5.2.2.1, o5.2.2.2.1, o5.2.2.2.2.1, o5.2.2.2.2.2.1, o5.2.2.2.2.2.2.1, o5.2.2.2.2.2.2.2.1, o5.2.2.2.2.2.2.2.2, o1)))))))) (fun eo1 => some (.inr (eo1.1, r32, r33, r34, r35, r36, r37, r38, r39, r40, eo1.2))))
set_option maxRecDepth 100000 in
set_option maxHeartbeats 4000000 in
theorem mtX10_told {X : mj_XT} {l : Launch} {G : mj_GT} {ad : Nat → Nat} {Qn : Option Value → mj_IT → mj_LT → Prop} {Qx : String → mj_IT → mj_LT → Prop} (hR : mj_Rx X l G mj_P0 mj_S0 98 ad 1 6 Qn Qx) (hlt : l.stackTraces = false) (F : Nat) (I : mj_IT) (L : mj_LT) (r1 : Nat → Int32) (r2 : Nat → Int32) (r18 : Nat → Int32) (r19 : Nat → Int32) (r20 : Nat → Int32) (r21 : Nat → Int32) (r22 : Nat → Int32) (r23 : Nat → Int32) (r24 : Nat → Int32) (r25 : Nat → Int32) (r26 : Nat → Int32) (r29 : Nat → Int32) (r32 : Nat → Int32) (r33 : Nat → Int32) (r34 : Nat → Int32) (r35 : Nat → Int32) (r36 : Nat → Int32) (r37 : Nat → Int32) (r38 : Nat → Int32) (r39 : Nat → Int32) (r40 : Nat → Int32) (r70 : Nat → Int32) (x1 : Int32) (o : (((Int32) × (Nat → Int32) × (Nat → Int32) × (Nat → Int32) × (Nat → Int32) × (Nat → Int32) × (Nat → Int32) × (Nat → Int32) × (Nat → Int32) × (Nat → Int32) × (Nat → Int32)) ⊕ ((Nat) × (Nat → Int32) × (Nat → Int32) × (Nat → Int32) × (Nat → Int32) × (Nat → Int32) × (Nat → Int32) × (Nat → Int32) × (Nat → Int32) × (Nat → Int32) × (Nat → Int32)))) (hf : fnX10_told F r1 r2 r18 r19 r20 r21 r22 r23 r24 r25 r26 r29 r32 r33 r34 r35 r36 r37 r38 r39 r40 r70 x1 = some o) (hq : (Sum.elim (mj_u2 (fun ov => (mj_u2 (fun r32 => (mj_u2 (fun r33 => (mj_u2 (fun r34 => (mj_u2 (fun r35 => (mj_u2 (fun r36 => (mj_u2 (fun r37 => (mj_u2 (fun r38 => (mj_u2 (fun r39 => (mj_u2 (fun r40 r70 => Qn (some (.int ov)) (mj_rows I [(1, r1), (2, r2), (18, r18), (19, r19), (20, r20), (21, r21), (22, r22), (23, r23), (24, r24), (25, r25), (26, r26), (29, r29), (32, r32), (33, r33), (34, r34), (35, r35), (36, r36), (37, r37), (38, r38), (39, r39), (40, r40), (70, r70)]) L)))))))))))))))))))) (mj_u2 (fun kx => (mj_u2 (fun r32 => (mj_u2 (fun r33 => (mj_u2 (fun r34 => (mj_u2 (fun r35 => (mj_u2 (fun r36 => (mj_u2 (fun r37 => (mj_u2 (fun r38 => (mj_u2 (fun r39 => (mj_u2 (fun r40 r70 => Qx (mj_en kx) (mj_rows I [(1, r1), (2, r2), (18, r18), (19, r19), (20, r20), (21, r21), (22, r22), (23, r23), (24, r24), (25, r25), (26, r26), (29, r29), (32, r32), (33, r33), (34, r34), (35, r35), (36, r36), (37, r37), (38, r38), (39, r39), (40, r40), (70, r70)]) L))))))))))))))))))))) o) : mj_W X G RX10 "told" cX10_told 2 9 (some .int) mj_P0 mj_S0 98 ad 0 0 0 [(0, .ref 1), (1, .int x1)] [] (mj_rows I [(1, r1), (2, r2), (18, r18), (19, r19), (20, r20), (21, r21), (22, r22), (23, r23), (24, r24), (25, r25), (26, r26), (29, r29), (32, r32), (33, r33), (34, r34), (35, r35), (36, r36), (37, r37), (38, r38), (39, r39), (40, r40), (70, r70)]) L := by
  unfold fnX10_told at hf
  refine mj_aload_n 0 dX10_told_0 rfl ?_
  refine mj_iload_n 1 dX10_told_1 rfl ?_
  refine mj_iconst dX10_told_2 kc_iconst_0 ?_
  refine mj_bipush dX10_told_3 kc_bipush_7 ?_
  obtain ⟨so1, ho1, hf⟩ := mj_bd hf
  refine mj_callVx (st := []) [.int x1, .int (0 : Int32), .int (7 : Int32)] hR (cmX10_needNumber l G hlt F x1 (0 : Int32) (7 : Int32) _ _ r70 rfl so1 ho1) cw_X10_80 s0_1 a0_1 (by decide) rfl rfl (Nat.le_of_ble_eq_true rfl) ⟨by decide, by decide⟩ dX10_told_5 (fun E I2 L2 hx => ?_) (fun rv I2 L2 hx => ?_)
  · obtain ⟨eo1, hf, hx⟩ := mj_sxr hf hx
    obtain rfl := Option.some.inj hf
    obtain ⟨hE9, hI9, hL9⟩ := hx
    rw [hE9, hI9, hL9]
    have hZ := mj_er hq
    replace hZ := mj_u2p hZ
    replace hZ := mj_u2p hZ
    replace hZ := mj_u2p hZ
    replace hZ := mj_u2p hZ
    replace hZ := mj_u2p hZ
    replace hZ := mj_u2p hZ
    replace hZ := mj_u2p hZ
    replace hZ := mj_u2p hZ
    replace hZ := mj_u2p hZ
    replace hZ := mj_u2p hZ
    rw [mj_rq (l' := [(1, r1), (2, r2), (18, r18), (19, r19), (20, r20), (21, r21), (22, r22), (23, r23), (24, r24), (25, r25), (26, r26), (29, r29), (32, r32), (33, r33), (34, r34), (35, r35), (36, r36), (37, r37), (38, r38), (39, r39), (40, r40), (70, eo1.2)]) rfl rfl]
    exact hZ
  · obtain ⟨o1, hf, hx⟩ := mj_sxl hf hx
    obtain ⟨hr9, hI9, hL9⟩ := hx
    refine mj_cnv (s1 := []) (I2 := (mj_rows I [(1, r1), (2, r2), (18, r18), (19, r19), (20, r20), (21, r21), (22, r22), (23, r23), (24, r24), (25, r25), (26, r26), (29, r29), (32, r32), (33, r33), (34, r34), (35, r35), (36, r36), (37, r37), (38, r38), (39, r39), (40, r40), (70, o1)])) (L2 := L) (by rw [hr9]; rfl) (hI9.trans (mj_rq rfl rfl)) hL9 ?_
    refine mj_iload_n 1 dX10_told_8 rfl ?_
    refine mj_if_ne 20 dX10_told_9 (by decide) (fun c2 => ?_) (fun c2 => ?_)
    · replace hf := mj_neg c2 hf
      refine mj_iload_n 1 dX10_told_20 rfl ?_
      refine mj_bipush dX10_told_21 kc_bipush_6 ?_
      refine mj_icmp_ne 34 dX10_told_23 (by decide) (fun c3 => ?_) (fun c3 => ?_)
      · replace hf := mj_neg c3 hf
        refine mj_iload_n 1 dX10_told_34 rfl ?_
        refine mj_bipush dX10_told_35 kc_bipush_7 ?_
        refine mj_icmp_ne 48 dX10_told_37 (by decide) (fun c4 => ?_) (fun c4 => ?_)
        · replace hf := mj_neg c4 hf
          refine mj_aload_n 0 dX10_told_48 rfl ?_
          refine mj_getP p0_1_5 (by decide) fl_X10_37 rfl s0_1 a0_1 dX10_told_49 ?_
          refine mj_aload_n 0 dX10_told_52 rfl ?_
          refine mj_getP p0_1_2 (by decide) fl_X10_23 rfl s0_1 a0_1 dX10_told_53 ?_
          refine mj_aload_n 0 dX10_told_56 rfl ?_
          refine mj_getIv (v := (r1 3)) rfl fl_X10_95 rfl s0_1 a0_1 dX10_told_57 ?_
          obtain ⟨o5, ho5, hf⟩ := mj_bd hf
          refine mj_callVd (I2 := (mj_rows I [(1, r1), (2, r2), (18, r18), (19, r19), (20, r20), (21, r21), (22, r22), (23, r23), (24, r24), (25, r25), (26, r26), (29, r29), (32, o5.1), (33, o5.2.1), (34, o5.2.2.1), (35, o5.2.2.2.1), (36, o5.2.2.2.2.1), (37, o5.2.2.2.2.2.1), (38, o5.2.2.2.2.2.2.1), (39, o5.2.2.2.2.2.2.2.1), (40, o5.2.2.2.2.2.2.2.2), (70, o1)])) (L2 := L) (s1 := []) (st := []) [.ref 18, .int (r1 3)] (cmX4_explore X.2.1 G F (r1 3) _ _ r18 r19 r20 r21 r22 r23 r24 r25 r26 r32 r33 r34 r35 r36 r37 r38 r39 r40 rfl rfl rfl rfl rfl rfl rfl rfl rfl rfl rfl rfl rfl rfl rfl rfl rfl rfl o5 ho5) (mj_rq rfl rfl) rfl cw_X10_145 s0_32 a0_32 (by decide) rfl rfl (Nat.le_of_ble_eq_true rfl) (mj_rxc hR ⟨by decide, by decide⟩) dX10_told_60 rfl ?_
          refine mj_aload_n 0 dX10_told_63 rfl ?_
          refine mj_getP p0_1_5 (by decide) fl_X10_37 rfl s0_1 a0_1 dX10_told_64 ?_
          refine mj_getIv (v := (o5.1 6)) rfl fl_X10_149 rfl s0_32 a0_32 dX10_told_67 ?_
          refine mj_if_eq 75 dX10_told_70 (by decide) (fun c6 => ?_) (fun c6 => ?_)
          · replace hf := mj_pos c6 hf
            refine mj_iload_n 1 dX10_told_75 rfl ?_
            by_cases c7_0 : x1 = (1 : Int32)
            · replace hf := mj_pos c7_0 hf
              refine mj_tsI (off := 32) 108 c7_0 dX10_told_76 (by decide) (by decide) (by decide) (by decide) ?_
              refine mj_aload_n 0 dX10_told_108 rfl ?_
              refine mj_getP p0_1_5 (by decide) fl_X10_37 rfl s0_1 a0_1 dX10_told_109 ?_
              refine mj_getIv (v := (o5.1 2)) rfl fl_X10_153 rfl s0_32 a0_32 dX10_told_112 ?_
              obtain rfl := Option.some.inj hf
              have hZ := mj_el hq
              replace hZ := mj_u2p hZ
              replace hZ := mj_u2p hZ
              replace hZ := mj_u2p hZ
              replace hZ := mj_u2p hZ
              replace hZ := mj_u2p hZ
              replace hZ := mj_u2p hZ
              replace hZ := mj_u2p hZ
              replace hZ := mj_u2p hZ
              replace hZ := mj_u2p hZ
              replace hZ := mj_u2p hZ
              exact mj_iretx hR ⟨by decide, by decide⟩ rfl rfl dX10_told_115 hZ
            · replace hf := mj_neg c7_0 hf
              by_cases c7_1 : x1 = (2 : Int32)
              · replace hf := mj_pos c7_1 hf
                refine mj_tsI (off := 40) 116 c7_1 dX10_told_76 (by decide) (by decide) (by decide) (by decide) ?_
                refine mj_aload_n 0 dX10_told_116 rfl ?_
                refine mj_getP p0_1_5 (by decide) fl_X10_37 rfl s0_1 a0_1 dX10_told_117 ?_
                refine mj_getIv (v := (o5.1 4)) rfl fl_X10_154 rfl s0_32 a0_32 dX10_told_120 ?_
                obtain rfl := Option.some.inj hf
                have hZ := mj_el hq
                replace hZ := mj_u2p hZ
                replace hZ := mj_u2p hZ
                replace hZ := mj_u2p hZ
                replace hZ := mj_u2p hZ
                replace hZ := mj_u2p hZ
                replace hZ := mj_u2p hZ
                replace hZ := mj_u2p hZ
                replace hZ := mj_u2p hZ
                replace hZ := mj_u2p hZ
                replace hZ := mj_u2p hZ
                exact mj_iretx hR ⟨by decide, by decide⟩ rfl rfl dX10_told_123 hZ
              · replace hf := mj_neg c7_1 hf
                by_cases c7_2 : x1 = (3 : Int32)
                · replace hf := mj_pos c7_2 hf
                  refine mj_tsI (off := 48) 124 c7_2 dX10_told_76 (by decide) (by decide) (by decide) (by decide) ?_
                  refine mj_aload_n 0 dX10_told_124 rfl ?_
                  refine mj_getP p0_1_5 (by decide) fl_X10_37 rfl s0_1 a0_1 dX10_told_125 ?_
                  refine mj_getIv (v := (o5.1 5)) rfl fl_X10_157 rfl s0_32 a0_32 dX10_told_128 ?_
                  obtain rfl := Option.some.inj hf
                  have hZ := mj_el hq
                  replace hZ := mj_u2p hZ
                  replace hZ := mj_u2p hZ
                  replace hZ := mj_u2p hZ
                  replace hZ := mj_u2p hZ
                  replace hZ := mj_u2p hZ
                  replace hZ := mj_u2p hZ
                  replace hZ := mj_u2p hZ
                  replace hZ := mj_u2p hZ
                  replace hZ := mj_u2p hZ
                  replace hZ := mj_u2p hZ
                  exact mj_iretx hR ⟨by decide, by decide⟩ rfl rfl dX10_told_131 hZ
                · replace hf := mj_neg c7_2 hf
                  by_cases c7_3 : x1 = (4 : Int32)
                  · replace hf := mj_pos c7_3 hf
                    refine mj_tsI (off := 56) 132 c7_3 dX10_told_76 (by decide) (by decide) (by decide) (by decide) ?_
                    refine mj_aload_n 0 dX10_told_132 rfl ?_
                    refine mj_getP p0_1_5 (by decide) fl_X10_37 rfl s0_1 a0_1 dX10_told_133 ?_
                    refine mj_getIv (v := (o5.1 3)) rfl fl_X10_160 rfl s0_32 a0_32 dX10_told_136 ?_
                    obtain rfl := Option.some.inj hf
                    have hZ := mj_el hq
                    replace hZ := mj_u2p hZ
                    replace hZ := mj_u2p hZ
                    replace hZ := mj_u2p hZ
                    replace hZ := mj_u2p hZ
                    replace hZ := mj_u2p hZ
                    replace hZ := mj_u2p hZ
                    replace hZ := mj_u2p hZ
                    replace hZ := mj_u2p hZ
                    replace hZ := mj_u2p hZ
                    replace hZ := mj_u2p hZ
                    exact mj_iretx hR ⟨by decide, by decide⟩ rfl rfl dX10_told_139 hZ
                  · replace hf := mj_neg c7_3 hf
                    refine mj_tsO 140 (ts_1_4 _ c7_0 c7_1 c7_2 c7_3) dX10_told_76 (by decide) ?_
                    refine mj_aload_n 0 dX10_told_140 rfl ?_
                    refine mj_getP p0_1_5 (by decide) fl_X10_37 rfl s0_1 a0_1 dX10_told_141 ?_
                    obtain ⟨o8, ho8, hf⟩ := mj_bd hf
                    refine mj_callVd (I2 := (mj_rows I [(1, r1), (2, r2), (18, r18), (19, r19), (20, r20), (21, r21), (22, r22), (23, r23), (24, r24), (25, r25), (26, r26), (29, r29), (32, o5.1), (33, o5.2.1), (34, o5.2.2.1), (35, o5.2.2.2.1), (36, o5.2.2.2.2.1), (37, o5.2.2.2.2.2.1), (38, o5.2.2.2.2.2.2.1), (39, o5.2.2.2.2.2.2.2.1), (40, o5.2.2.2.2.2.2.2.2), (70, o1)])) (L2 := L) (s1 := [.int o8]) (st := []) [] (cmX4_greatestLevel X.2.1 G F  _ _ o5.1 o5.2.2.2.1 rfl rfl o8 ho8) (mj_rq rfl rfl) rfl cw_X10_163 s0_32 a0_32 (by decide) rfl rfl (Nat.le_of_ble_eq_true rfl) (mj_rxc hR ⟨by decide, by decide⟩) dX10_told_144 rfl ?_
                    obtain rfl := Option.some.inj hf
                    have hZ := mj_el hq
                    replace hZ := mj_u2p hZ
                    replace hZ := mj_u2p hZ
                    replace hZ := mj_u2p hZ
                    replace hZ := mj_u2p hZ
                    replace hZ := mj_u2p hZ
                    replace hZ := mj_u2p hZ
                    replace hZ := mj_u2p hZ
                    replace hZ := mj_u2p hZ
                    replace hZ := mj_u2p hZ
                    replace hZ := mj_u2p hZ
                    exact mj_iretx hR ⟨by decide, by decide⟩ rfl rfl dX10_told_147 hZ
          · replace hf := mj_neg c6 hf
            refine mj_iconst dX10_told_73 kc_iconst_m1 ?_
            obtain rfl := Option.some.inj hf
            have hZ := mj_el hq
            replace hZ := mj_u2p hZ
            replace hZ := mj_u2p hZ
            replace hZ := mj_u2p hZ
            replace hZ := mj_u2p hZ
            replace hZ := mj_u2p hZ
            replace hZ := mj_u2p hZ
            replace hZ := mj_u2p hZ
            replace hZ := mj_u2p hZ
            replace hZ := mj_u2p hZ
            replace hZ := mj_u2p hZ
            exact mj_iretx hR ⟨by decide, by decide⟩ rfl rfl dX10_told_74 hZ
        · replace hf := mj_pos c4 hf
          refine mj_aload_n 0 dX10_told_40 rfl ?_
          refine mj_getP p0_1_4 (by decide) fl_X10_30 rfl s0_1 a0_1 dX10_told_41 ?_
          refine mj_getIv (v := (r29 0)) rfl fl_X10_135 rfl s0_29 a0_29 dX10_told_44 ?_
          obtain rfl := Option.some.inj hf
          have hZ := mj_el hq
          replace hZ := mj_u2p hZ
          replace hZ := mj_u2p hZ
          replace hZ := mj_u2p hZ
          replace hZ := mj_u2p hZ
          replace hZ := mj_u2p hZ
          replace hZ := mj_u2p hZ
          replace hZ := mj_u2p hZ
          replace hZ := mj_u2p hZ
          replace hZ := mj_u2p hZ
          replace hZ := mj_u2p hZ
          exact mj_iretx hR ⟨by decide, by decide⟩ rfl rfl dX10_told_47 hZ
      · replace hf := mj_pos c3 hf
        refine mj_aload_n 0 dX10_told_26 rfl ?_
        refine mj_getP p0_1_0 (by decide) fl_X10_10 rfl s0_1 a0_1 dX10_told_27 ?_
        refine mj_getIv (v := (r2 0)) rfl fl_X10_73 rfl s0_2 a0_2 dX10_told_30 ?_
        obtain rfl := Option.some.inj hf
        have hZ := mj_el hq
        replace hZ := mj_u2p hZ
        replace hZ := mj_u2p hZ
        replace hZ := mj_u2p hZ
        replace hZ := mj_u2p hZ
        replace hZ := mj_u2p hZ
        replace hZ := mj_u2p hZ
        replace hZ := mj_u2p hZ
        replace hZ := mj_u2p hZ
        replace hZ := mj_u2p hZ
        replace hZ := mj_u2p hZ
        exact mj_iretx hR ⟨by decide, by decide⟩ rfl rfl dX10_told_33 hZ
    · replace hf := mj_pos c2 hf
      refine mj_aload_n 0 dX10_told_12 rfl ?_
      refine mj_getP p0_1_2 (by decide) fl_X10_23 rfl s0_1 a0_1 dX10_told_13 ?_
      refine mj_getIv (v := (r18 0)) rfl fl_X10_104 rfl s0_18 a0_18 dX10_told_16 ?_
      obtain rfl := Option.some.inj hf
      have hZ := mj_el hq
      replace hZ := mj_u2p hZ
      replace hZ := mj_u2p hZ
      replace hZ := mj_u2p hZ
      replace hZ := mj_u2p hZ
      replace hZ := mj_u2p hZ
      replace hZ := mj_u2p hZ
      replace hZ := mj_u2p hZ
      replace hZ := mj_u2p hZ
      replace hZ := mj_u2p hZ
      replace hZ := mj_u2p hZ
      exact mj_iretx hR ⟨by decide, by decide⟩ rfl rfl dX10_told_19 hZ
set_option maxRecDepth 100000 in
set_option maxHeartbeats 4000000 in
theorem cmX10_told (l : Launch) (G : mj_GT) (hlt : l.stackTraces = false) (F : Nat) (x1 : Int32) (I : mj_IT) (L : mj_LT) (r1 : Nat → Int32) (r2 : Nat → Int32) (r18 : Nat → Int32) (r19 : Nat → Int32) (r20 : Nat → Int32) (r21 : Nat → Int32) (r22 : Nat → Int32) (r23 : Nat → Int32) (r24 : Nat → Int32) (r25 : Nat → Int32) (r26 : Nat → Int32) (r29 : Nat → Int32) (r32 : Nat → Int32) (r33 : Nat → Int32) (r34 : Nat → Int32) (r35 : Nat → Int32) (r36 : Nat → Int32) (r37 : Nat → Int32) (r38 : Nat → Int32) (r39 : Nat → Int32) (r40 : Nat → Int32) (r70 : Nat → Int32) (hr1 : I 1 = r1) (hr2 : I 2 = r2) (hr18 : I 18 = r18) (hr19 : I 19 = r19) (hr20 : I 20 = r20) (hr21 : I 21 = r21) (hr22 : I 22 = r22) (hr23 : I 23 = r23) (hr24 : I 24 = r24) (hr25 : I 25 = r25) (hr26 : I 26 = r26) (hr29 : I 29 = r29) (hr32 : I 32 = r32) (hr33 : I 33 = r33) (hr34 : I 34 = r34) (hr35 : I 35 = r35) (hr36 : I 36 = r36) (hr37 : I 37 = r37) (hr38 : I 38 = r38) (hr39 : I 39 = r39) (hr40 : I 40 = r40) (hr70 : I 70 = r70) (o : (((Int32) × (Nat → Int32) × (Nat → Int32) × (Nat → Int32) × (Nat → Int32) × (Nat → Int32) × (Nat → Int32) × (Nat → Int32) × (Nat → Int32) × (Nat → Int32) × (Nat → Int32)) ⊕ ((Nat) × (Nat → Int32) × (Nat → Int32) × (Nat → Int32) × (Nat → Int32) × (Nat → Int32) × (Nat → Int32) × (Nat → Int32) × (Nat → Int32) × (Nat → Int32) × (Nat → Int32)))) (hf : fnX10_told F r1 r2 r18 r19 r20 r21 r22 r23 r24 r25 r26 r29 r32 r33 r34 r35 r36 r37 r38 r39 r40 r70 x1 = some o) : mj_Mx l G yX10_told cX10_told 2 9 (some .int) 1 6 mj_P0 mj_S0 98 [.ref 1, .int x1] I L (fun rv I2 L2 => Sum.elim (fun o => rv = (some (.int o.1)) ∧ I2 = (mj_rows I [(1, r1), (2, r2), (18, r18), (19, r19), (20, r20), (21, r21), (22, r22), (23, r23), (24, r24), (25, r25), (26, r26), (29, r29), (32, o.2.1), (33, o.2.2.1), (34, o.2.2.2.1), (35, o.2.2.2.2.1), (36, o.2.2.2.2.2.1), (37, o.2.2.2.2.2.2.1), (38, o.2.2.2.2.2.2.2.1), (39, o.2.2.2.2.2.2.2.2.1), (40, o.2.2.2.2.2.2.2.2.2.1), (70, o.2.2.2.2.2.2.2.2.2.2)]) ∧ L2 = L) (fun _ => False) o) (fun E I2 L2 => Sum.elim (fun _ => False) (fun o => E = mj_en o.1 ∧ I2 = (mj_rows I [(1, r1), (2, r2), (18, r18), (19, r19), (20, r20), (21, r21), (22, r22), (23, r23), (24, r24), (25, r25), (26, r26), (29, r29), (32, o.2.1), (33, o.2.2.1), (34, o.2.2.2.1), (35, o.2.2.2.2.1), (36, o.2.2.2.2.2.1), (37, o.2.2.2.2.2.2.1), (38, o.2.2.2.2.2.2.2.1), (39, o.2.2.2.2.2.2.2.2.1), (40, o.2.2.2.2.2.2.2.2.2.1), (70, o.2.2.2.2.2.2.2.2.2.2)]) ∧ L2 = L) o) := by
  refine mj_inx RX10 "told" [(0, .ref 1), (1, .int x1)] rfl rfl rfl (by decide) (Nat.le_of_ble_eq_true rfl) (fun X ad hR => ?_)
  refine mj_toI [(1, r1), (2, r2), (18, r18), (19, r19), (20, r20), (21, r21), (22, r22), (23, r23), (24, r24), (25, r25), (26, r26), (29, r29), (32, r32), (33, r33), (34, r34), (35, r35), (36, r36), (37, r37), (38, r38), (39, r39), (40, r40), (70, r70)] (by intro q hq; simp only [List.mem_cons, List.not_mem_nil, or_false] at hq; rcases hq with rfl | rfl | rfl | rfl | rfl | rfl | rfl | rfl | rfl | rfl | rfl | rfl | rfl | rfl | rfl | rfl | rfl | rfl | rfl | rfl | rfl | rfl <;> assumption) ?_
  refine mtX10_told hR hlt F I L r1 r2 r18 r19 r20 r21 r22 r23 r24 r25 r26 r29 r32 r33 r34 r35 r36 r37 r38 r39 r40 r70 x1 o hf ?_
  rcases o with o | o
  · refine mj_elq ?_
    obtain ⟨w0, w1, w2, w3, w4, w5, w6, w7, w8, w9, w10⟩ := o
    refine mj_u2q ?_
    refine mj_u2q ?_
    refine mj_u2q ?_
    refine mj_u2q ?_
    refine mj_u2q ?_
    refine mj_u2q ?_
    refine mj_u2q ?_
    refine mj_u2q ?_
    refine mj_u2q ?_
    refine mj_u2q ?_
    refine mj_elq ?_
    exact ⟨rfl, rfl, rfl⟩
  · refine mj_erq ?_
    obtain ⟨w0, w1, w2, w3, w4, w5, w6, w7, w8, w9, w10⟩ := o
    refine mj_u2q ?_
    refine mj_u2q ?_
    refine mj_u2q ?_
    refine mj_u2q ?_
    refine mj_u2q ?_
    refine mj_u2q ?_
    refine mj_u2q ?_
    refine mj_u2q ?_
    refine mj_u2q ?_
    refine mj_u2q ?_
    refine mj_erq ?_
    exact ⟨rfl, rfl, rfl⟩

