-- X10_statement
def fnX10_statement (F : Nat) (r18 : Nat → Int32) (r19 : Nat → Int32) (r20 : Nat → Int32) (r21 : Nat → Int32) (r25 : Nat → Int32) (r26 : Nat → Int32) (r70 : Nat → Int32) (x1 : Int32) (x2 : Int32) : Option (((Int32) × (Nat → Int32)) ⊕ ((Nat) × (Nat → Int32))) := (fnX10_needStatement F r18 r70 x1).bind (Sum.elim (fun o1 => (fnX10_needNumber F o1 x2 (0 : Int32) (4 : Int32)).bind (Sum.elim (fun o2 => (if mj_ib x1 40 = true then (if x2 = (0 : Int32) then some (.inl ((r19 x1.toNatClampNeg), o2)) else (if x2 = (1 : Int32) then (if (r19 x1.toNatClampNeg) = 0 then (if mj_ib x1 40 = true then some (.inl ((r20 x1.toNatClampNeg), o2)) else none) else (if (r19 x1.toNatClampNeg) = (1 : Int32) then (if mj_ib x1 40 = true then some (.inl ((r20 x1.toNatClampNeg), o2)) else none) else some (.inl ((-1 : Int32), o2)))) else (if x2 = (2 : Int32) then (if (r19 x1.toNatClampNeg) = (1 : Int32) then (if mj_ib x1 40 = true then some (.inl ((r21 x1.toNatClampNeg), o2)) else none) else (if (r19 x1.toNatClampNeg) = (2 : Int32) then (if mj_ib x1 40 = true then some (.inl ((r21 x1.toNatClampNeg), o2)) else none) else some (.inl ((-1 : Int32), o2)))) else (if x2 = (3 : Int32) then (if mj_ib x1 40 = true then some (.inl ((r25 x1.toNatClampNeg), o2)) else none) else (if mj_ib x1 40 = true then some (.inl ((r26 x1.toNatClampNeg), o2)) else none))))) else none)) (fun eo2 => some (.inr (eo2.1, eo2.2))))) (fun eo1 => some (.inr (eo1.1, eo1.2))))
set_option maxRecDepth 100000 in
set_option maxHeartbeats 4000000 in
theorem mtX10_statement {X : mj_XT} {l : Launch} {G : mj_GT} {ad : Nat → Nat} {Qn : Option Value → mj_IT → mj_LT → Prop} {Qx : String → mj_IT → mj_LT → Prop} (hR : mj_Rx X l G mj_P0 mj_S0 98 ad 2 12 Qn Qx) (hlt : l.stackTraces = false) (F : Nat) (I : mj_IT) (L : mj_LT) (r18 : Nat → Int32) (r19 : Nat → Int32) (r20 : Nat → Int32) (r21 : Nat → Int32) (r25 : Nat → Int32) (r26 : Nat → Int32) (r70 : Nat → Int32) (x1 : Int32) (x2 : Int32) (o : (((Int32) × (Nat → Int32)) ⊕ ((Nat) × (Nat → Int32)))) (hf : fnX10_statement F r18 r19 r20 r21 r25 r26 r70 x1 x2 = some o) (hq : (Sum.elim (mj_u2 (fun ov r70 => Qn (some (.int ov)) (mj_rows I [(18, r18), (19, r19), (20, r20), (21, r21), (25, r25), (26, r26), (70, r70)]) L)) (mj_u2 (fun kx r70 => Qx (mj_en kx) (mj_rows I [(18, r18), (19, r19), (20, r20), (21, r21), (25, r25), (26, r26), (70, r70)]) L))) o) : mj_W X G RX10 "statement" cX10_statement 4 9 (some .int) mj_P0 mj_S0 98 ad 0 0 0 [(0, .ref 1), (1, .int x1), (2, .int x2)] [] (mj_rows I [(18, r18), (19, r19), (20, r20), (21, r21), (25, r25), (26, r26), (70, r70)]) L := by
  unfold fnX10_statement at hf
  refine mj_aload_n 0 dX10_statement_0 rfl ?_
  refine mj_iload_n 1 dX10_statement_1 rfl ?_
  obtain ⟨so1, ho1, hf⟩ := mj_bd hf
  refine mj_callVx (st := []) [.int x1] hR (cmX10_needStatement l G hlt F x1 _ _ r18 r70 rfl rfl so1 ho1) cw_X10_123 s0_1 a0_1 (by decide) rfl rfl (Nat.le_of_ble_eq_true rfl) ⟨by decide, by decide⟩ dX10_statement_2 (fun E I2 L2 hx => ?_) (fun rv I2 L2 hx => ?_)
  · obtain ⟨eo1, hf, hx⟩ := mj_sxr hf hx
    obtain rfl := Option.some.inj hf
    obtain ⟨hE9, hI9, hL9⟩ := hx
    rw [hE9, hI9, hL9]
    have hZ := mj_er hq
    replace hZ := mj_u2p hZ
    rw [mj_rq (l' := [(18, r18), (19, r19), (20, r20), (21, r21), (25, r25), (26, r26), (70, eo1.2)]) rfl rfl]
    exact hZ
  · obtain ⟨o1, hf, hx⟩ := mj_sxl hf hx
    obtain ⟨hr9, hI9, hL9⟩ := hx
    refine mj_cnv (s1 := []) (I2 := (mj_rows I [(18, r18), (19, r19), (20, r20), (21, r21), (25, r25), (26, r26), (70, o1)])) (L2 := L) (by rw [hr9]; rfl) (hI9.trans (mj_rq rfl rfl)) hL9 ?_
    refine mj_aload_n 0 dX10_statement_5 rfl ?_
    refine mj_iload_n 2 dX10_statement_6 rfl ?_
    refine mj_iconst dX10_statement_7 kc_iconst_0 ?_
    refine mj_iconst dX10_statement_8 kc_iconst_4 ?_
    obtain ⟨so2, ho2, hf⟩ := mj_bd hf
    refine mj_callVx (st := []) [.int x2, .int (0 : Int32), .int (4 : Int32)] hR (cmX10_needNumber l G hlt F x2 (0 : Int32) (4 : Int32) _ _ o1 rfl so2 ho2) cw_X10_80 s0_1 a0_1 (by decide) rfl rfl (Nat.le_of_ble_eq_true rfl) ⟨by decide, by decide⟩ dX10_statement_9 (fun E I2 L2 hx => ?_) (fun rv I2 L2 hx => ?_)
    · obtain ⟨eo2, hf, hx⟩ := mj_sxr hf hx
      obtain rfl := Option.some.inj hf
      obtain ⟨hE9, hI9, hL9⟩ := hx
      rw [hE9, hI9, hL9]
      have hZ := mj_er hq
      replace hZ := mj_u2p hZ
      rw [mj_rq (l' := [(18, r18), (19, r19), (20, r20), (21, r21), (25, r25), (26, r26), (70, eo2.2)]) rfl rfl]
      exact hZ
    · obtain ⟨o2, hf, hx⟩ := mj_sxl hf hx
      obtain ⟨hr9, hI9, hL9⟩ := hx
      refine mj_cnv (s1 := []) (I2 := (mj_rows I [(18, r18), (19, r19), (20, r20), (21, r21), (25, r25), (26, r26), (70, o2)])) (L2 := L) (by rw [hr9]; rfl) (hI9.trans (mj_rq rfl rfl)) hL9 ?_
      refine mj_aload_n 0 dX10_statement_12 rfl ?_
      refine mj_getP p0_1_2 (by decide) fl_X10_23 rfl s0_1 a0_1 dX10_statement_13 ?_
      refine mj_getP p0_18_1 (by decide) fl_X10_126 rfl s0_18 a0_18 dX10_statement_16 ?_
      refine mj_iload_n 1 dX10_statement_19 rfl ?_
      obtain ⟨z3, hf⟩ := mj_ck hf
      refine mj_ialdv (x := r19) rfl s0_19 a0_19 z3 dX10_statement_20 ?_
      refine mj_istore_n [(3, .int (r19 x1.toNatClampNeg)), (0, .ref 1), (1, .int x1), (2, .int x2)] dX10_statement_21 rfl (by decide) rfl ?_
      refine mj_iload_n 3 dX10_statement_22 rfl ?_
      by_cases c4_0 : x2 = (0 : Int32)
      · replace hf := mj_pos c4_0 hf
        refine mj_tsI (off := 29) 52 c4_0 dX10_statement_23 (by decide) (by decide) (by decide) (by decide) ?_
        refine mj_iload_n 0 dX10_statement_52 rfl ?_
        obtain rfl := Option.some.inj hf
        have hZ := mj_el hq
        replace hZ := mj_u2p hZ
        exact mj_iretx hR ⟨by decide, by decide⟩ rfl rfl dX10_statement_53 hZ
      · replace hf := mj_neg c4_0 hf
        by_cases c4_1 : x2 = (1 : Int32)
        · replace hf := mj_pos c4_1 hf
          refine mj_tsI (off := 31) 54 c4_1 dX10_statement_23 (by decide) (by decide) (by decide) (by decide) ?_
          refine mj_iload_n 0 dX10_statement_54 rfl ?_
          refine mj_if_eq 63 dX10_statement_55 (by decide) (fun c5 => ?_) (fun c5 => ?_)
          · replace hf := mj_pos c5 hf
            refine mj_aload_n 1 dX10_statement_63 rfl ?_
            refine mj_getP p0_1_2 (by decide) fl_X10_23 rfl s0_1 a0_1 dX10_statement_64 ?_
            refine mj_getP p0_18_2 (by decide) fl_X10_166 rfl s0_18 a0_18 dX10_statement_67 ?_
            refine mj_iload_n 2 dX10_statement_70 rfl ?_
            obtain ⟨z6, hf⟩ := mj_ck hf
            refine mj_ialdv (x := r20) rfl s0_20 a0_20 z6 dX10_statement_71 ?_
            refine mj_goto 76 dX10_statement_72 (by decide) ?_
            obtain rfl := Option.some.inj hf
            have hZ := mj_el hq
            replace hZ := mj_u2p hZ
            exact mj_iretx hR ⟨by decide, by decide⟩ rfl rfl dX10_statement_76 hZ
          · replace hf := mj_neg c5 hf
            refine mj_iload_n 0 dX10_statement_58 rfl ?_
            refine mj_iconst dX10_statement_59 kc_iconst_1 ?_
            refine mj_icmp_ne 75 dX10_statement_60 (by decide) (fun c7 => ?_) (fun c7 => ?_)
            · replace hf := mj_neg c7 hf
              refine mj_iconst dX10_statement_75 kc_iconst_m1 ?_
              obtain rfl := Option.some.inj hf
              have hZ := mj_el hq
              replace hZ := mj_u2p hZ
              exact mj_iretx hR ⟨by decide, by decide⟩ rfl rfl dX10_statement_76 hZ
            · replace hf := mj_pos c7 hf
              refine mj_aload_n 1 dX10_statement_63 rfl ?_
              refine mj_getP p0_1_2 (by decide) fl_X10_23 rfl s0_1 a0_1 dX10_statement_64 ?_
              refine mj_getP p0_18_2 (by decide) fl_X10_166 rfl s0_18 a0_18 dX10_statement_67 ?_
              refine mj_iload_n 2 dX10_statement_70 rfl ?_
              obtain ⟨z8, hf⟩ := mj_ck hf
              refine mj_ialdv (x := r20) rfl s0_20 a0_20 z8 dX10_statement_71 ?_
              refine mj_goto 76 dX10_statement_72 (by decide) ?_
              obtain rfl := Option.some.inj hf
              have hZ := mj_el hq
              replace hZ := mj_u2p hZ
              exact mj_iretx hR ⟨by decide, by decide⟩ rfl rfl dX10_statement_76 hZ
        · replace hf := mj_neg c4_1 hf
          by_cases c4_2 : x2 = (2 : Int32)
          · replace hf := mj_pos c4_2 hf
            refine mj_tsI (off := 54) 77 c4_2 dX10_statement_23 (by decide) (by decide) (by decide) (by decide) ?_
            refine mj_iload_n 0 dX10_statement_77 rfl ?_
            refine mj_iconst dX10_statement_78 kc_iconst_1 ?_
            refine mj_icmp_eq 87 dX10_statement_79 (by decide) (fun c9 => ?_) (fun c9 => ?_)
            · replace hf := mj_pos c9 hf
              refine mj_aload_n 1 dX10_statement_87 rfl ?_
              refine mj_getP p0_1_2 (by decide) fl_X10_23 rfl s0_1 a0_1 dX10_statement_88 ?_
              refine mj_getP p0_18_3 (by decide) fl_X10_132 rfl s0_18 a0_18 dX10_statement_91 ?_
              refine mj_iload_n 2 dX10_statement_94 rfl ?_
              obtain ⟨z10, hf⟩ := mj_ck hf
              refine mj_ialdv (x := r21) rfl s0_21 a0_21 z10 dX10_statement_95 ?_
              refine mj_goto 100 dX10_statement_96 (by decide) ?_
              obtain rfl := Option.some.inj hf
              have hZ := mj_el hq
              replace hZ := mj_u2p hZ
              exact mj_iretx hR ⟨by decide, by decide⟩ rfl rfl dX10_statement_100 hZ
            · replace hf := mj_neg c9 hf
              refine mj_iload_n 0 dX10_statement_82 rfl ?_
              refine mj_iconst dX10_statement_83 kc_iconst_2 ?_
              refine mj_icmp_ne 99 dX10_statement_84 (by decide) (fun c11 => ?_) (fun c11 => ?_)
              · replace hf := mj_neg c11 hf
                refine mj_iconst dX10_statement_99 kc_iconst_m1 ?_
                obtain rfl := Option.some.inj hf
                have hZ := mj_el hq
                replace hZ := mj_u2p hZ
                exact mj_iretx hR ⟨by decide, by decide⟩ rfl rfl dX10_statement_100 hZ
              · replace hf := mj_pos c11 hf
                refine mj_aload_n 1 dX10_statement_87 rfl ?_
                refine mj_getP p0_1_2 (by decide) fl_X10_23 rfl s0_1 a0_1 dX10_statement_88 ?_
                refine mj_getP p0_18_3 (by decide) fl_X10_132 rfl s0_18 a0_18 dX10_statement_91 ?_
                refine mj_iload_n 2 dX10_statement_94 rfl ?_
                obtain ⟨z12, hf⟩ := mj_ck hf
                refine mj_ialdv (x := r21) rfl s0_21 a0_21 z12 dX10_statement_95 ?_
                refine mj_goto 100 dX10_statement_96 (by decide) ?_
                obtain rfl := Option.some.inj hf
                have hZ := mj_el hq
                replace hZ := mj_u2p hZ
                exact mj_iretx hR ⟨by decide, by decide⟩ rfl rfl dX10_statement_100 hZ
          · replace hf := mj_neg c4_2 hf
            by_cases c4_3 : x2 = (3 : Int32)
            · replace hf := mj_pos c4_3 hf
              refine mj_tsI (off := 78) 101 c4_3 dX10_statement_23 (by decide) (by decide) (by decide) (by decide) ?_
              refine mj_aload_n 1 dX10_statement_101 rfl ?_
              refine mj_getP p0_1_2 (by decide) fl_X10_23 rfl s0_1 a0_1 dX10_statement_102 ?_
              refine mj_getP p0_18_7 (by decide) fl_X10_169 rfl s0_18 a0_18 dX10_statement_105 ?_
              refine mj_iload_n 2 dX10_statement_108 rfl ?_
              obtain ⟨z13, hf⟩ := mj_ck hf
              refine mj_ialdv (x := r25) rfl s0_25 a0_25 z13 dX10_statement_109 ?_
              obtain rfl := Option.some.inj hf
              have hZ := mj_el hq
              replace hZ := mj_u2p hZ
              exact mj_iretx hR ⟨by decide, by decide⟩ rfl rfl dX10_statement_110 hZ
            · replace hf := mj_neg c4_3 hf
              refine mj_tsO 111 (ts_0_3 _ c4_0 c4_1 c4_2 c4_3) dX10_statement_23 (by decide) ?_
              refine mj_aload_n 1 dX10_statement_111 rfl ?_
              refine mj_getP p0_1_2 (by decide) fl_X10_23 rfl s0_1 a0_1 dX10_statement_112 ?_
              refine mj_getP p0_18_8 (by decide) fl_X10_172 rfl s0_18 a0_18 dX10_statement_115 ?_
              refine mj_iload_n 2 dX10_statement_118 rfl ?_
              obtain ⟨z14, hf⟩ := mj_ck hf
              refine mj_ialdv (x := r26) rfl s0_26 a0_26 z14 dX10_statement_119 ?_
              obtain rfl := Option.some.inj hf
              have hZ := mj_el hq
              replace hZ := mj_u2p hZ
              exact mj_iretx hR ⟨by decide, by decide⟩ rfl rfl dX10_statement_120 hZ
set_option maxRecDepth 100000 in
set_option maxHeartbeats 4000000 in
theorem cmX10_statement (l : Launch) (G : mj_GT) (hlt : l.stackTraces = false) (F : Nat) (x1 : Int32) (x2 : Int32) (I : mj_IT) (L : mj_LT) (r18 : Nat → Int32) (r19 : Nat → Int32) (r20 : Nat → Int32) (r21 : Nat → Int32) (r25 : Nat → Int32) (r26 : Nat → Int32) (r70 : Nat → Int32) (hr18 : I 18 = r18) (hr19 : I 19 = r19) (hr20 : I 20 = r20) (hr21 : I 21 = r21) (hr25 : I 25 = r25) (hr26 : I 26 = r26) (hr70 : I 70 = r70) (o : (((Int32) × (Nat → Int32)) ⊕ ((Nat) × (Nat → Int32)))) (hf : fnX10_statement F r18 r19 r20 r21 r25 r26 r70 x1 x2 = some o) : mj_Mx l G yX10_statement cX10_statement 4 9 (some .int) 2 12 mj_P0 mj_S0 98 [.ref 1, .int x1, .int x2] I L (fun rv I2 L2 => Sum.elim (fun o => rv = (some (.int o.1)) ∧ I2 = (mj_rows I [(18, r18), (19, r19), (20, r20), (21, r21), (25, r25), (26, r26), (70, o.2)]) ∧ L2 = L) (fun _ => False) o) (fun E I2 L2 => Sum.elim (fun _ => False) (fun o => E = mj_en o.1 ∧ I2 = (mj_rows I [(18, r18), (19, r19), (20, r20), (21, r21), (25, r25), (26, r26), (70, o.2)]) ∧ L2 = L) o) := by
  refine mj_inx RX10 "statement" [(0, .ref 1), (1, .int x1), (2, .int x2)] rfl rfl rfl (by decide) (Nat.le_of_ble_eq_true rfl) (fun X ad hR => ?_)
  refine mj_toI [(18, r18), (19, r19), (20, r20), (21, r21), (25, r25), (26, r26), (70, r70)] (by intro q hq; simp only [List.mem_cons, List.not_mem_nil, or_false] at hq; rcases hq with rfl | rfl | rfl | rfl | rfl | rfl | rfl <;> assumption) ?_
  refine mtX10_statement hR hlt F I L r18 r19 r20 r21 r25 r26 r70 x1 x2 o hf ?_
  rcases o with o | o
  · refine mj_elq ?_
    obtain ⟨w0, w1⟩ := o
    refine mj_u2q ?_
    refine mj_elq ?_
    exact ⟨rfl, rfl, rfl⟩
  · refine mj_erq ?_
    obtain ⟨w0, w1⟩ := o
    refine mj_u2q ?_
    refine mj_erq ?_
    exact ⟨rfl, rfl, rfl⟩

-- X10_firstOf
def fnX10_firstOf (F : Nat) (r1 : Nat → Int32) (r70 : Nat → Int32) (x1 : Int32) : Option (((Int32) × (Nat → Int32)) ⊕ ((Nat) × (Nat → Int32))) := (fnX10_needVariable F r70 x1).bind (Sum.elim (fun o1 => (fnX1_get F (r1 3) x1).bind (fun o2 => some (.inl (o2, o1)))) (fun eo1 => some (.inr (eo1.1, eo1.2))))
set_option maxRecDepth 100000 in
set_option maxHeartbeats 4000000 in
theorem mtX10_firstOf {X : mj_XT} {l : Launch} {G : mj_GT} {ad : Nat → Nat} {Qn : Option Value → mj_IT → mj_LT → Prop} {Qx : String → mj_IT → mj_LT → Prop} (hR : mj_Rx X l G mj_P0 mj_S0 98 ad 1 6 Qn Qx) (hlt : l.stackTraces = false) (F : Nat) (I : mj_IT) (L : mj_LT) (r1 : Nat → Int32) (r70 : Nat → Int32) (x1 : Int32) (o : (((Int32) × (Nat → Int32)) ⊕ ((Nat) × (Nat → Int32)))) (hf : fnX10_firstOf F r1 r70 x1 = some o) (hq : (Sum.elim (mj_u2 (fun ov r70 => Qn (some (.int ov)) (mj_rows I [(1, r1), (70, r70)]) L)) (mj_u2 (fun kx r70 => Qx (mj_en kx) (mj_rows I [(1, r1), (70, r70)]) L))) o) : mj_W X G RX10 "firstOf" cX10_firstOf 2 9 (some .int) mj_P0 mj_S0 98 ad 0 0 0 [(0, .ref 1), (1, .int x1)] [] (mj_rows I [(1, r1), (70, r70)]) L := by
  unfold fnX10_firstOf at hf
  refine mj_aload_n 0 dX10_firstOf_0 rfl ?_
  refine mj_iload_n 1 dX10_firstOf_1 rfl ?_
  obtain ⟨so1, ho1, hf⟩ := mj_bd hf
  refine mj_callVx (st := []) [.int x1] hR (cmX10_needVariable l G hlt F x1 _ _ r70 rfl so1 ho1) cw_X10_107 s0_1 a0_1 (by decide) rfl rfl (Nat.le_of_ble_eq_true rfl) ⟨by decide, by decide⟩ dX10_firstOf_2 (fun E I2 L2 hx => ?_) (fun rv I2 L2 hx => ?_)
  · obtain ⟨eo1, hf, hx⟩ := mj_sxr hf hx
    obtain rfl := Option.some.inj hf
    obtain ⟨hE9, hI9, hL9⟩ := hx
    rw [hE9, hI9, hL9]
    have hZ := mj_er hq
    replace hZ := mj_u2p hZ
    rw [mj_rq (l' := [(1, r1), (70, eo1.2)]) rfl rfl]
    exact hZ
  · obtain ⟨o1, hf, hx⟩ := mj_sxl hf hx
    obtain ⟨hr9, hI9, hL9⟩ := hx
    refine mj_cnv (s1 := []) (I2 := (mj_rows I [(1, r1), (70, o1)])) (L2 := L) (by rw [hr9]; rfl) (hI9.trans (mj_rq rfl rfl)) hL9 ?_
    refine mj_aload_n 0 dX10_firstOf_5 rfl ?_
    refine mj_getIv (v := (r1 3)) rfl fl_X10_95 rfl s0_1 a0_1 dX10_firstOf_6 ?_
    refine mj_iload_n 1 dX10_firstOf_9 rfl ?_
    obtain ⟨o2, ho2, hf⟩ := mj_bd hf
    refine mj_callSd (I2 := (mj_rows I [(1, r1), (70, o1)])) (L2 := L) (s1 := [.int o2]) (st := []) [.int (r1 3), .int x1] (cmX1_get X.2.1 G F (r1 3) x1 _ _   o2 ho2) rfl rfl cw_X10_110 (by decide) rfl rfl (Nat.le_of_ble_eq_true rfl) (mj_rxc hR ⟨by decide, by decide⟩) dX10_firstOf_10 rfl ?_
    obtain rfl := Option.some.inj hf
    have hZ := mj_el hq
    replace hZ := mj_u2p hZ
    exact mj_iretx hR ⟨by decide, by decide⟩ rfl rfl dX10_firstOf_13 hZ
set_option maxRecDepth 100000 in
set_option maxHeartbeats 4000000 in
theorem cmX10_firstOf (l : Launch) (G : mj_GT) (hlt : l.stackTraces = false) (F : Nat) (x1 : Int32) (I : mj_IT) (L : mj_LT) (r1 : Nat → Int32) (r70 : Nat → Int32) (hr1 : I 1 = r1) (hr70 : I 70 = r70) (o : (((Int32) × (Nat → Int32)) ⊕ ((Nat) × (Nat → Int32)))) (hf : fnX10_firstOf F r1 r70 x1 = some o) : mj_Mx l G yX10_firstOf cX10_firstOf 2 9 (some .int) 1 6 mj_P0 mj_S0 98 [.ref 1, .int x1] I L (fun rv I2 L2 => Sum.elim (fun o => rv = (some (.int o.1)) ∧ I2 = (mj_rows I [(1, r1), (70, o.2)]) ∧ L2 = L) (fun _ => False) o) (fun E I2 L2 => Sum.elim (fun _ => False) (fun o => E = mj_en o.1 ∧ I2 = (mj_rows I [(1, r1), (70, o.2)]) ∧ L2 = L) o) := by
  refine mj_inx RX10 "firstOf" [(0, .ref 1), (1, .int x1)] rfl rfl rfl (by decide) (Nat.le_of_ble_eq_true rfl) (fun X ad hR => ?_)
  refine mj_toI [(1, r1), (70, r70)] (by intro q hq; simp only [List.mem_cons, List.not_mem_nil, or_false] at hq; rcases hq with rfl | rfl <;> assumption) ?_
  refine mtX10_firstOf hR hlt F I L r1 r70 x1 o hf ?_
  rcases o with o | o
  · refine mj_elq ?_
    obtain ⟨w0, w1⟩ := o
    refine mj_u2q ?_
    refine mj_elq ?_
    exact ⟨rfl, rfl, rfl⟩
  · refine mj_erq ?_
    obtain ⟨w0, w1⟩ := o
    refine mj_u2q ?_
    refine mj_erq ?_
    exact ⟨rfl, rfl, rfl⟩

-- X10_refuseState
def fnX10_refuseState (F : Nat) (r70 : Nat → Int32) : Option (((Nat → Int32)) ⊕ ((Nat) × (Nat → Int32))) := (if mj_ib (2 : Int32) 3 = true then (if mj_ib (2 : Int32) 3 = true then some (.inr (2, (upd r70 ((2 : Int32).toNatClampNeg) ((r70 ((2 : Int32).toNatClampNeg)) + (1 : Int32))))) else none) else none)
set_option maxRecDepth 100000 in
set_option maxHeartbeats 4000000 in
theorem mtX10_refuseState {X : mj_XT} {l : Launch} {G : mj_GT} {ad : Nat → Nat} {Qn : Option Value → mj_IT → mj_LT → Prop} {Qx : String → mj_IT → mj_LT → Prop} (hR : mj_Rx X l G mj_P0 mj_S0 98 ad 1 6 Qn Qx) (hlt : l.stackTraces = false) (F : Nat) (I : mj_IT) (L : mj_LT) (r70 : Nat → Int32) (o : (((Nat → Int32)) ⊕ ((Nat) × (Nat → Int32)))) (hf : fnX10_refuseState F r70 = some o) (hq : (Sum.elim (fun r70 => Qn none (mj_rows I [(70, r70)]) L) (mj_u2 (fun kx r70 => Qx (mj_en kx) (mj_rows I [(70, r70)]) L))) o) : mj_W X G RX10 "refuseState" cX10_refuseState 1 7 none mj_P0 mj_S0 98 ad 0 0 0 [(0, .ref 1)] [] (mj_rows I [(70, r70)]) L := by
  unfold fnX10_refuseState at hf
  refine mj_aload_n 0 dX10_refuseState_0 rfl ?_
  refine mj_getP p0_1_10 (by decide) fl_X10_69 rfl s0_1 a0_1 dX10_refuseState_1 ?_
  refine mj_iconst dX10_refuseState_4 kc_iconst_2 ?_
  refine mj_dup2 dX10_refuseState_5 rfl rfl ?_
  obtain ⟨z1, hf⟩ := mj_ck hf
  refine mj_ialdv (x := r70) rfl s0_70 a0_70 z1 dX10_refuseState_6 ?_
  refine mj_iconst dX10_refuseState_7 kc_iconst_1 ?_
  refine mj_iadd dX10_refuseState_8 ?_
  obtain ⟨z2, hf⟩ := mj_ck hf
  refine mj_iastr [(70, (upd r70 ((2 : Int32).toNatClampNeg) ((r70 ((2 : Int32).toNatClampNeg)) + (1 : Int32))))] rfl s0_70 a0_70 z2 dX10_refuseState_9 ?_
  obtain rfl := Option.some.inj hf
  have hZ := mj_er hq
  replace hZ := mj_u2p hZ
  exact mj_throw (names := ["java/lang/RuntimeException", "java/lang/Exception"]) hR hlt (by decide +kernel) (by decide +kernel) xk_308 xi_308 (List.mem_of_getElem? (i := 16) rfl) xw_308 dX10_refuseState_10 dX10_refuseState_13 dX10_refuseState_14 dX10_refuseState_17 dX10_refuseState_20 (by decide) (Nat.le_of_ble_eq_true rfl) ⟨by decide, by decide⟩ hZ
set_option maxRecDepth 100000 in
set_option maxHeartbeats 4000000 in
theorem cmX10_refuseState (l : Launch) (G : mj_GT) (hlt : l.stackTraces = false) (F : Nat) (I : mj_IT) (L : mj_LT) (r70 : Nat → Int32) (hr70 : I 70 = r70) (o : (((Nat → Int32)) ⊕ ((Nat) × (Nat → Int32)))) (hf : fnX10_refuseState F r70 = some o) : mj_Mx l G yX10_refuseState cX10_refuseState 1 7 none 1 6 mj_P0 mj_S0 98 [.ref 1] I L (fun rv I2 L2 => Sum.elim (fun o => rv = none ∧ I2 = (mj_rows I [(70, o)]) ∧ L2 = L) (fun _ => False) o) (fun E I2 L2 => Sum.elim (fun _ => False) (fun o => E = mj_en o.1 ∧ I2 = (mj_rows I [(70, o.2)]) ∧ L2 = L) o) := by
  refine mj_inx RX10 "refuseState" [(0, .ref 1)] rfl rfl rfl (by decide) (Nat.le_of_ble_eq_true rfl) (fun X ad hR => ?_)
  refine mj_toI [(70, r70)] (by intro q hq; simp only [List.mem_cons, List.not_mem_nil, or_false] at hq; rcases hq with rfl <;> assumption) ?_
  refine mtX10_refuseState hR hlt F I L r70 o hf ?_
  rcases o with o | o
  · refine mj_elq ?_
    refine mj_elq ?_
    exact ⟨rfl, rfl, rfl⟩
  · refine mj_erq ?_
    obtain ⟨w0, w1⟩ := o
    refine mj_u2q ?_
    refine mj_erq ?_
    exact ⟨rfl, rfl, rfl⟩

