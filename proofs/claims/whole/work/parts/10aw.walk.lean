-- X10_first
def fnX10_first (F : Nat) (r1 : Nat → Int32) (r29 : Nat → Int32) (r30 : Nat → Int32) (r31 : Nat → Int32) (r32 : Nat → Int32) (r70 : Nat → Int32) (x1 : Int32) (x2 : Int32) : Option (((Int32) × (Nat → Int32) × (Nat → Int32) × (Nat → Int32) × (Nat → Int32) × (Nat → Int32) × (Nat → Int32)) ⊕ ((Nat) × (Nat → Int32) × (Nat → Int32) × (Nat → Int32) × (Nat → Int32) × (Nat → Int32) × (Nat → Int32))) := (fnX10_needVariable F r70 x1).bind (Sum.elim (fun o1 => (fnX10_needNumber F o1 x2 (0 : Int32) (9 : Int32)).bind (Sum.elim (fun o2 => (fnX1_get F (r1 3) x1).bind (fun o3 => (fnX0_keep F r29 r30 r31 x1 o3).bind (fun o4 => (fnX1_put F (r1 3) x1 x2).bind (fun o5 => (fnX4_forget F r32).bind (fun o6 => some (.inl (o3, (upd r1 3 o5), o4.1, o4.2.1, o4.2.2, o6, o2))))))) (fun eo2 => some (.inr (eo2.1, r1, r29, r30, r31, r32, eo2.2))))) (fun eo1 => some (.inr (eo1.1, r1, r29, r30, r31, r32, eo1.2))))
set_option maxRecDepth 100000 in
set_option maxHeartbeats 4000000 in
theorem mtX10_first {X : mj_XT} {l : Launch} {G : mj_GT} {ad : Nat → Nat} {Qn : Option Value → mj_IT → mj_LT → Prop} {Qx : String → mj_IT → mj_LT → Prop} (hR : mj_Rx X l G mj_P0 mj_S0 98 ad 2 12 Qn Qx) (hlt : l.stackTraces = false) (F : Nat) (I : mj_IT) (L : mj_LT) (r1 : Nat → Int32) (r29 : Nat → Int32) (r30 : Nat → Int32) (r31 : Nat → Int32) (r32 : Nat → Int32) (r70 : Nat → Int32) (x1 : Int32) (x2 : Int32) (o : (((Int32) × (Nat → Int32) × (Nat → Int32) × (Nat → Int32) × (Nat → Int32) × (Nat → Int32) × (Nat → Int32)) ⊕ ((Nat) × (Nat → Int32) × (Nat → Int32) × (Nat → Int32) × (Nat → Int32) × (Nat → Int32) × (Nat → Int32)))) (hf : fnX10_first F r1 r29 r30 r31 r32 r70 x1 x2 = some o) (hq : (Sum.elim (mj_u2 (fun ov => (mj_u2 (fun r1 => (mj_u2 (fun r29 => (mj_u2 (fun r30 => (mj_u2 (fun r31 => (mj_u2 (fun r32 r70 => Qn (some (.int ov)) (mj_rows I [(1, r1), (29, r29), (30, r30), (31, r31), (32, r32), (70, r70)]) L)))))))))))) (mj_u2 (fun kx => (mj_u2 (fun r1 => (mj_u2 (fun r29 => (mj_u2 (fun r30 => (mj_u2 (fun r31 => (mj_u2 (fun r32 r70 => Qx (mj_en kx) (mj_rows I [(1, r1), (29, r29), (30, r30), (31, r31), (32, r32), (70, r70)]) L))))))))))))) o) : mj_W X G RX10 "first" cX10_first 4 9 (some .int) mj_P0 mj_S0 98 ad 0 0 0 [(0, .ref 1), (1, .int x1), (2, .int x2)] [] (mj_rows I [(1, r1), (29, r29), (30, r30), (31, r31), (32, r32), (70, r70)]) L := by
  unfold fnX10_first at hf
  refine mj_aload_n 0 dX10_first_0 rfl ?_
  refine mj_iload_n 1 dX10_first_1 rfl ?_
  obtain ⟨so1, ho1, hf⟩ := mj_bd hf
  refine mj_callVx (st := []) [.int x1] hR (cmX10_needVariable l G hlt F x1 _ _ r70 rfl so1 ho1) cw_X10_107 s0_1 a0_1 (by decide) rfl rfl (Nat.le_of_ble_eq_true rfl) ⟨by decide, by decide⟩ dX10_first_2 (fun E I2 L2 hx => ?_) (fun rv I2 L2 hx => ?_)
  · obtain ⟨eo1, hf, hx⟩ := mj_sxr hf hx
    obtain rfl := Option.some.inj hf
    obtain ⟨hE9, hI9, hL9⟩ := hx
    rw [hE9, hI9, hL9]
    have hZ := mj_er hq
    replace hZ := mj_u2p hZ
    replace hZ := mj_u2p hZ
    replace hZ := mj_u2p hZ
    replace hZ := mj_u2p hZ
    replace hZ := mj_u2p hZ
    replace hZ := mj_u2p hZ
    rw [mj_rq (l' := [(1, r1), (29, r29), (30, r30), (31, r31), (32, r32), (70, eo1.2)]) rfl rfl]
    exact hZ
  · obtain ⟨o1, hf, hx⟩ := mj_sxl hf hx
    obtain ⟨hr9, hI9, hL9⟩ := hx
    refine mj_cnv (s1 := []) (I2 := (mj_rows I [(1, r1), (29, r29), (30, r30), (31, r31), (32, r32), (70, o1)])) (L2 := L) (by rw [hr9]; rfl) (hI9.trans (mj_rq rfl rfl)) hL9 ?_
    refine mj_aload_n 0 dX10_first_5 rfl ?_
    refine mj_iload_n 2 dX10_first_6 rfl ?_
    refine mj_iconst dX10_first_7 kc_iconst_0 ?_
    refine mj_bipush dX10_first_8 kc_bipush_9 ?_
    obtain ⟨so2, ho2, hf⟩ := mj_bd hf
    refine mj_callVx (st := []) [.int x2, .int (0 : Int32), .int (9 : Int32)] hR (cmX10_needNumber l G hlt F x2 (0 : Int32) (9 : Int32) _ _ o1 rfl so2 ho2) cw_X10_80 s0_1 a0_1 (by decide) rfl rfl (Nat.le_of_ble_eq_true rfl) ⟨by decide, by decide⟩ dX10_first_10 (fun E I2 L2 hx => ?_) (fun rv I2 L2 hx => ?_)
    · obtain ⟨eo2, hf, hx⟩ := mj_sxr hf hx
      obtain rfl := Option.some.inj hf
      obtain ⟨hE9, hI9, hL9⟩ := hx
      rw [hE9, hI9, hL9]
      have hZ := mj_er hq
      replace hZ := mj_u2p hZ
      replace hZ := mj_u2p hZ
      replace hZ := mj_u2p hZ
      replace hZ := mj_u2p hZ
      replace hZ := mj_u2p hZ
      replace hZ := mj_u2p hZ
      rw [mj_rq (l' := [(1, r1), (29, r29), (30, r30), (31, r31), (32, r32), (70, eo2.2)]) rfl rfl]
      exact hZ
    · obtain ⟨o2, hf, hx⟩ := mj_sxl hf hx
      obtain ⟨hr9, hI9, hL9⟩ := hx
      refine mj_cnv (s1 := []) (I2 := (mj_rows I [(1, r1), (29, r29), (30, r30), (31, r31), (32, r32), (70, o2)])) (L2 := L) (by rw [hr9]; rfl) (hI9.trans (mj_rq rfl rfl)) hL9 ?_
      refine mj_aload_n 0 dX10_first_13 rfl ?_
      refine mj_getIv (v := (r1 3)) rfl fl_X10_95 rfl s0_1 a0_1 dX10_first_14 ?_
      refine mj_iload_n 1 dX10_first_17 rfl ?_
      obtain ⟨o3, ho3, hf⟩ := mj_bd hf
      refine mj_callSd (I2 := (mj_rows I [(1, r1), (29, r29), (30, r30), (31, r31), (32, r32), (70, o2)])) (L2 := L) (s1 := [.int o3]) (st := []) [.int (r1 3), .int x1] (cmX1_get X.2.1 G F (r1 3) x1 _ _   o3 ho3) rfl rfl cw_X10_110 (by decide) rfl rfl (Nat.le_of_ble_eq_true rfl) (mj_rxc hR ⟨by decide, by decide⟩) dX10_first_18 rfl ?_
      refine mj_istore_n [(3, .int o3), (0, .ref 1), (1, .int x1), (2, .int x2)] dX10_first_21 rfl (by decide) rfl ?_
      refine mj_aload_n 1 dX10_first_22 rfl ?_
      refine mj_getP p0_1_4 (by decide) fl_X10_30 rfl s0_1 a0_1 dX10_first_23 ?_
      refine mj_iload_n 2 dX10_first_26 rfl ?_
      refine mj_iload_n 0 dX10_first_27 rfl ?_
      obtain ⟨o4, ho4, hf⟩ := mj_bd hf
      refine mj_callVd (I2 := (mj_rows I [(1, r1), (29, o4.1), (30, o4.2.1), (31, o4.2.2), (32, r32), (70, o2)])) (L2 := L) (s1 := []) (st := []) [.int x1, .int o3] (cmX0_keep X.2.1 G F x1 o3 _ _ r29 r30 r31 rfl rfl rfl o4 ho4) (mj_rq rfl rfl) rfl cw_X10_116 s0_29 a0_29 (by decide) rfl rfl (Nat.le_of_ble_eq_true rfl) (mj_rxc hR ⟨by decide, by decide⟩) dX10_first_28 rfl ?_
      refine mj_aload_n 1 dX10_first_31 rfl ?_
      refine mj_aload_n 1 dX10_first_32 rfl ?_
      refine mj_getIv (v := (r1 3)) rfl fl_X10_95 rfl s0_1 a0_1 dX10_first_33 ?_
      refine mj_iload_n 2 dX10_first_36 rfl ?_
      refine mj_iload_n 3 dX10_first_37 rfl ?_
      obtain ⟨o5, ho5, hf⟩ := mj_bd hf
      refine mj_callSd (I2 := (mj_rows I [(1, r1), (29, o4.1), (30, o4.2.1), (31, o4.2.2), (32, r32), (70, o2)])) (L2 := L) (s1 := [.int o5, .ref 1]) (st := [.ref 1]) [.int (r1 3), .int x1, .int x2] (cmX1_put X.2.1 G F (r1 3) x1 x2 _ _   o5 ho5) rfl rfl cw_X10_120 (by decide) rfl rfl (Nat.le_of_ble_eq_true rfl) (mj_rxc hR ⟨by decide, by decide⟩) dX10_first_38 rfl ?_
      refine mj_putIr (ci := 8) (j := 3) [(1, (upd r1 3 o5)), (29, o4.1), (30, o4.2.1), (31, o4.2.2), (32, r32), (70, o2)] rfl ⟨rfl, rfl⟩ fl_X10_95 rfl rfl s0_1 a0_1 dX10_first_41 ?_
      refine mj_aload_n 1 dX10_first_44 rfl ?_
      refine mj_getP p0_1_5 (by decide) fl_X10_37 rfl s0_1 a0_1 dX10_first_45 ?_
      obtain ⟨o6, ho6, hf⟩ := mj_bd hf
      refine mj_callVd (I2 := (mj_rows I [(1, (upd r1 3 o5)), (29, o4.1), (30, o4.2.1), (31, o4.2.2), (32, o6), (70, o2)])) (L2 := L) (s1 := []) (st := []) [] (cmX4_forget X.2.1 G F  _ _ r32 rfl o6 ho6) (mj_rq rfl rfl) rfl cw_X10_101 s0_32 a0_32 (by decide) rfl rfl (Nat.le_of_ble_eq_true rfl) (mj_rxc hR ⟨by decide, by decide⟩) dX10_first_48 rfl ?_
      refine mj_iload_n 0 dX10_first_51 rfl ?_
      obtain rfl := Option.some.inj hf
      have hZ := mj_el hq
      replace hZ := mj_u2p hZ
      replace hZ := mj_u2p hZ
      replace hZ := mj_u2p hZ
      replace hZ := mj_u2p hZ
      replace hZ := mj_u2p hZ
      replace hZ := mj_u2p hZ
      exact mj_iretx hR ⟨by decide, by decide⟩ rfl rfl dX10_first_52 hZ
set_option maxRecDepth 100000 in
set_option maxHeartbeats 4000000 in
theorem cmX10_first (l : Launch) (G : mj_GT) (hlt : l.stackTraces = false) (F : Nat) (x1 : Int32) (x2 : Int32) (I : mj_IT) (L : mj_LT) (r1 : Nat → Int32) (r29 : Nat → Int32) (r30 : Nat → Int32) (r31 : Nat → Int32) (r32 : Nat → Int32) (r70 : Nat → Int32) (hr1 : I 1 = r1) (hr29 : I 29 = r29) (hr30 : I 30 = r30) (hr31 : I 31 = r31) (hr32 : I 32 = r32) (hr70 : I 70 = r70) (o : (((Int32) × (Nat → Int32) × (Nat → Int32) × (Nat → Int32) × (Nat → Int32) × (Nat → Int32) × (Nat → Int32)) ⊕ ((Nat) × (Nat → Int32) × (Nat → Int32) × (Nat → Int32) × (Nat → Int32) × (Nat → Int32) × (Nat → Int32)))) (hf : fnX10_first F r1 r29 r30 r31 r32 r70 x1 x2 = some o) : mj_Mx l G yX10_first cX10_first 4 9 (some .int) 2 12 mj_P0 mj_S0 98 [.ref 1, .int x1, .int x2] I L (fun rv I2 L2 => Sum.elim (fun o => rv = (some (.int o.1)) ∧ I2 = (mj_rows I [(1, o.2.1), (29, o.2.2.1), (30, o.2.2.2.1), (31, o.2.2.2.2.1), (32, o.2.2.2.2.2.1), (70, o.2.2.2.2.2.2)]) ∧ L2 = L) (fun _ => False) o) (fun E I2 L2 => Sum.elim (fun _ => False) (fun o => E = mj_en o.1 ∧ I2 = (mj_rows I [(1, o.2.1), (29, o.2.2.1), (30, o.2.2.2.1), (31, o.2.2.2.2.1), (32, o.2.2.2.2.2.1), (70, o.2.2.2.2.2.2)]) ∧ L2 = L) o) := by
  refine mj_inx RX10 "first" [(0, .ref 1), (1, .int x1), (2, .int x2)] rfl rfl rfl (by decide) (Nat.le_of_ble_eq_true rfl) (fun X ad hR => ?_)
  refine mj_toI [(1, r1), (29, r29), (30, r30), (31, r31), (32, r32), (70, r70)] (by intro q hq; simp only [List.mem_cons, List.not_mem_nil, or_false] at hq; rcases hq with rfl | rfl | rfl | rfl | rfl | rfl <;> assumption) ?_
  refine mtX10_first hR hlt F I L r1 r29 r30 r31 r32 r70 x1 x2 o hf ?_
  rcases o with o | o
  · refine mj_elq ?_
    obtain ⟨w0, w1, w2, w3, w4, w5, w6⟩ := o
    refine mj_u2q ?_
    refine mj_u2q ?_
    refine mj_u2q ?_
    refine mj_u2q ?_
    refine mj_u2q ?_
    refine mj_u2q ?_
    refine mj_elq ?_
    exact ⟨rfl, rfl, rfl⟩
  · refine mj_erq ?_
    obtain ⟨w0, w1, w2, w3, w4, w5, w6⟩ := o
    refine mj_u2q ?_
    refine mj_u2q ?_
    refine mj_u2q ?_
    refine mj_u2q ?_
    refine mj_u2q ?_
    refine mj_u2q ?_
    refine mj_erq ?_
    exact ⟨rfl, rfl, rfl⟩

-- X10_needStatement
def fnX10_needStatement (F : Nat) (r18 : Nat → Int32) (r70 : Nat → Int32) (x1 : Int32) : Option (((Nat → Int32)) ⊕ ((Nat) × (Nat → Int32))) := (if x1 < 0 then (fnX10_refuseElement F r70).bind (Sum.elim (fun o2 => some (.inl o2)) (fun eo2 => some (.inr (eo2.1, eo2.2)))) else (if x1 < (r18 0) then some (.inl r70) else (fnX10_refuseElement F r70).bind (Sum.elim (fun o4 => some (.inl o4)) (fun eo4 => some (.inr (eo4.1, eo4.2))))))
set_option maxRecDepth 100000 in
set_option maxHeartbeats 4000000 in
theorem mtX10_needStatement {X : mj_XT} {l : Launch} {G : mj_GT} {ad : Nat → Nat} {Qn : Option Value → mj_IT → mj_LT → Prop} {Qx : String → mj_IT → mj_LT → Prop} (hR : mj_Rx X l G mj_P0 mj_S0 98 ad 1 6 Qn Qx) (hlt : l.stackTraces = false) (F : Nat) (I : mj_IT) (L : mj_LT) (r18 : Nat → Int32) (r70 : Nat → Int32) (x1 : Int32) (o : (((Nat → Int32)) ⊕ ((Nat) × (Nat → Int32)))) (hf : fnX10_needStatement F r18 r70 x1 = some o) (hq : (Sum.elim (fun r70 => Qn none (mj_rows I [(18, r18), (70, r70)]) L) (mj_u2 (fun kx r70 => Qx (mj_en kx) (mj_rows I [(18, r18), (70, r70)]) L))) o) : mj_W X G RX10 "needStatement" cX10_needStatement 2 8 none mj_P0 mj_S0 98 ad 0 0 0 [(0, .ref 1), (1, .int x1)] [] (mj_rows I [(18, r18), (70, r70)]) L := by
  unfold fnX10_needStatement at hf
  refine mj_iload_n 1 dX10_needStatement_0 rfl ?_
  refine mj_if_lt 15 dX10_needStatement_1 (by decide) (fun c1 => ?_) (fun c1 => ?_)
  · replace hf := mj_pos c1 hf
    refine mj_aload_n 0 dX10_needStatement_15 rfl ?_
    obtain ⟨so2, ho2, hf⟩ := mj_bd hf
    refine mj_callVx (st := []) [] hR (cmX10_refuseElement l G hlt F  _ _ r70 rfl so2 ho2) cw_X10_197 s0_1 a0_1 (by decide) rfl rfl (Nat.le_of_ble_eq_true rfl) ⟨by decide, by decide⟩ dX10_needStatement_16 (fun E I2 L2 hx => ?_) (fun rv I2 L2 hx => ?_)
    · obtain ⟨eo2, hf, hx⟩ := mj_sxr hf hx
      obtain rfl := Option.some.inj hf
      obtain ⟨hE9, hI9, hL9⟩ := hx
      rw [hE9, hI9, hL9]
      have hZ := mj_er hq
      replace hZ := mj_u2p hZ
      rw [mj_rq (l' := [(18, r18), (70, eo2.2)]) rfl rfl]
      exact hZ
    · obtain ⟨o2, hf, hx⟩ := mj_sxl hf hx
      obtain ⟨hr9, hI9, hL9⟩ := hx
      refine mj_cnv (s1 := []) (I2 := (mj_rows I [(18, r18), (70, o2)])) (L2 := L) (by rw [hr9]; rfl) (hI9.trans (mj_rq rfl rfl)) hL9 ?_
      obtain rfl := Option.some.inj hf
      have hZ := mj_el hq
      exact mj_vretx hR ⟨by decide, by decide⟩ rfl dX10_needStatement_19 hZ
  · replace hf := mj_neg c1 hf
    refine mj_iload_n 1 dX10_needStatement_4 rfl ?_
    refine mj_aload_n 0 dX10_needStatement_5 rfl ?_
    refine mj_getP p0_1_2 (by decide) fl_X10_23 rfl s0_1 a0_1 dX10_needStatement_6 ?_
    refine mj_getIv (v := (r18 0)) rfl fl_X10_104 rfl s0_18 a0_18 dX10_needStatement_9 ?_
    refine mj_icmp_lt 19 dX10_needStatement_12 (by decide) (fun c3 => ?_) (fun c3 => ?_)
    · replace hf := mj_pos c3 hf
      obtain rfl := Option.some.inj hf
      have hZ := mj_el hq
      exact mj_vretx hR ⟨by decide, by decide⟩ rfl dX10_needStatement_19 hZ
    · replace hf := mj_neg c3 hf
      refine mj_aload_n 0 dX10_needStatement_15 rfl ?_
      obtain ⟨so4, ho4, hf⟩ := mj_bd hf
      refine mj_callVx (st := []) [] hR (cmX10_refuseElement l G hlt F  _ _ r70 rfl so4 ho4) cw_X10_197 s0_1 a0_1 (by decide) rfl rfl (Nat.le_of_ble_eq_true rfl) ⟨by decide, by decide⟩ dX10_needStatement_16 (fun E I2 L2 hx => ?_) (fun rv I2 L2 hx => ?_)
      · obtain ⟨eo4, hf, hx⟩ := mj_sxr hf hx
        obtain rfl := Option.some.inj hf
        obtain ⟨hE9, hI9, hL9⟩ := hx
        rw [hE9, hI9, hL9]
        have hZ := mj_er hq
        replace hZ := mj_u2p hZ
        rw [mj_rq (l' := [(18, r18), (70, eo4.2)]) rfl rfl]
        exact hZ
      · obtain ⟨o4, hf, hx⟩ := mj_sxl hf hx
        obtain ⟨hr9, hI9, hL9⟩ := hx
        refine mj_cnv (s1 := []) (I2 := (mj_rows I [(18, r18), (70, o4)])) (L2 := L) (by rw [hr9]; rfl) (hI9.trans (mj_rq rfl rfl)) hL9 ?_
        obtain rfl := Option.some.inj hf
        have hZ := mj_el hq
        exact mj_vretx hR ⟨by decide, by decide⟩ rfl dX10_needStatement_19 hZ
set_option maxRecDepth 100000 in
set_option maxHeartbeats 4000000 in
theorem cmX10_needStatement (l : Launch) (G : mj_GT) (hlt : l.stackTraces = false) (F : Nat) (x1 : Int32) (I : mj_IT) (L : mj_LT) (r18 : Nat → Int32) (r70 : Nat → Int32) (hr18 : I 18 = r18) (hr70 : I 70 = r70) (o : (((Nat → Int32)) ⊕ ((Nat) × (Nat → Int32)))) (hf : fnX10_needStatement F r18 r70 x1 = some o) : mj_Mx l G yX10_needStatement cX10_needStatement 2 8 none 1 6 mj_P0 mj_S0 98 [.ref 1, .int x1] I L (fun rv I2 L2 => Sum.elim (fun o => rv = none ∧ I2 = (mj_rows I [(18, r18), (70, o)]) ∧ L2 = L) (fun _ => False) o) (fun E I2 L2 => Sum.elim (fun _ => False) (fun o => E = mj_en o.1 ∧ I2 = (mj_rows I [(18, r18), (70, o.2)]) ∧ L2 = L) o) := by
  refine mj_inx RX10 "needStatement" [(0, .ref 1), (1, .int x1)] rfl rfl rfl (by decide) (Nat.le_of_ble_eq_true rfl) (fun X ad hR => ?_)
  refine mj_toI [(18, r18), (70, r70)] (by intro q hq; simp only [List.mem_cons, List.not_mem_nil, or_false] at hq; rcases hq with rfl | rfl <;> assumption) ?_
  refine mtX10_needStatement hR hlt F I L r18 r70 x1 o hf ?_
  rcases o with o | o
  · refine mj_elq ?_
    refine mj_elq ?_
    exact ⟨rfl, rfl, rfl⟩
  · refine mj_erq ?_
    obtain ⟨w0, w1⟩ := o
    refine mj_u2q ?_
    refine mj_erq ?_
    exact ⟨rfl, rfl, rfl⟩

-- X10_chance
def jnX10_chance_30 (F : Nat) (r18 : Nat → Int32) (r19 : Nat → Int32) (x1 : Int32) (x2 : Int32) (r21 : Nat → Int32) (r29 : Nat → Int32) (r30 : Nat → Int32) (r31 : Nat → Int32) (r32 : Nat → Int32) (r70 : Nat → Int32) : Option (((Int32) × (Nat → Int32) × (Nat → Int32) × (Nat → Int32) × (Nat → Int32) × (Nat → Int32) × (Nat → Int32)) ⊕ ((Nat) × (Nat → Int32) × (Nat → Int32) × (Nat → Int32) × (Nat → Int32) × (Nat → Int32) × (Nat → Int32))) := (if mj_ib x1 40 = true then (fnX0_keep F r29 r30 r31 ((6 : Int32) + x1) (r21 x1.toNatClampNeg)).bind (fun o2 => (if mj_ib x1 40 = true then (fnX4_forget F r32).bind (fun o4 => some (.inl ((r21 x1.toNatClampNeg), (upd r21 x1.toNatClampNeg x2), o2.1, o2.2.1, o2.2.2, o4, r70))) else none)) else none)
def fnX10_chance (F : Nat) (r18 : Nat → Int32) (r19 : Nat → Int32) (r21 : Nat → Int32) (r29 : Nat → Int32) (r30 : Nat → Int32) (r31 : Nat → Int32) (r32 : Nat → Int32) (r70 : Nat → Int32) (x1 : Int32) (x2 : Int32) : Option (((Int32) × (Nat → Int32) × (Nat → Int32) × (Nat → Int32) × (Nat → Int32) × (Nat → Int32) × (Nat → Int32)) ⊕ ((Nat) × (Nat → Int32) × (Nat → Int32) × (Nat → Int32) × (Nat → Int32) × (Nat → Int32) × (Nat → Int32))) := (fnX10_needStatement F r18 r70 x1).bind (Sum.elim (fun o5 => (fnX10_needNumber F o5 x2 (0 : Int32) (60 : Int32)).bind (Sum.elim (fun o6 => (if mj_ib x1 40 = true then (if (r19 x1.toNatClampNeg) = (2 : Int32) then jnX10_chance_30 F r18 r19 x1 x2 r21 r29 r30 r31 r32 o6 else (fnX10_refuseArgument F o6).bind (Sum.elim (fun o9 => jnX10_chance_30 F r18 r19 x1 x2 r21 r29 r30 r31 r32 o9) (fun eo9 => some (.inr (eo9.1, r21, r29, r30, r31, r32, eo9.2))))) else none)) (fun eo6 => some (.inr (eo6.1, r21, r29, r30, r31, r32, eo6.2))))) (fun eo5 => some (.inr (eo5.1, r21, r29, r30, r31, r32, eo5.2))))
set_option maxRecDepth 100000 in
set_option maxHeartbeats 4000000 in
theorem jtX10_chance_30 {X : mj_XT} {l : Launch} {G : mj_GT} {ad : Nat → Nat} {Qn : Option Value → mj_IT → mj_LT → Prop} {Qx : String → mj_IT → mj_LT → Prop} (hR : mj_Rx X l G mj_P0 mj_S0 98 ad 3 18 Qn Qx) (hlt : l.stackTraces = false) (F : Nat) (I : mj_IT) (L : mj_LT) (r18 : Nat → Int32) (r19 : Nat → Int32) (r21 : Nat → Int32) (r29 : Nat → Int32) (r30 : Nat → Int32) (r31 : Nat → Int32) (r32 : Nat → Int32) (r70 : Nat → Int32) (x1 : Int32) (x2 : Int32) (o : (((Int32) × (Nat → Int32) × (Nat → Int32) × (Nat → Int32) × (Nat → Int32) × (Nat → Int32) × (Nat → Int32)) ⊕ ((Nat) × (Nat → Int32) × (Nat → Int32) × (Nat → Int32) × (Nat → Int32) × (Nat → Int32) × (Nat → Int32)))) (hf : jnX10_chance_30 F r18 r19 x1 x2 r21 r29 r30 r31 r32 r70 = some o) (hq : (Sum.elim (mj_u2 (fun ov => (mj_u2 (fun r21 => (mj_u2 (fun r29 => (mj_u2 (fun r30 => (mj_u2 (fun r31 => (mj_u2 (fun r32 r70 => Qn (some (.int ov)) (mj_rows I [(18, r18), (19, r19), (21, r21), (29, r29), (30, r30), (31, r31), (32, r32), (70, r70)]) L)))))))))))) (mj_u2 (fun kx => (mj_u2 (fun r21 => (mj_u2 (fun r29 => (mj_u2 (fun r30 => (mj_u2 (fun r31 => (mj_u2 (fun r32 r70 => Qx (mj_en kx) (mj_rows I [(18, r18), (19, r19), (21, r21), (29, r29), (30, r30), (31, r31), (32, r32), (70, r70)]) L))))))))))))) o) : mj_W X G RX10 "chance" cX10_chance 4 9 (some .int) mj_P0 mj_S0 98 ad 3 18 30 [(0, .ref 1), (1, .int x1), (2, .int x2)] [] (mj_rows I [(18, r18), (19, r19), (21, r21), (29, r29), (30, r30), (31, r31), (32, r32), (70, r70)]) L := by
  unfold jnX10_chance_30 at hf
  refine mj_aload_n 0 dX10_chance_30 rfl ?_
  refine mj_getP p0_1_2 (by decide) fl_X10_23 rfl s0_1 a0_1 dX10_chance_31 ?_
  refine mj_getP p0_18_3 (by decide) fl_X10_132 rfl s0_18 a0_18 dX10_chance_34 ?_
  refine mj_iload_n 1 dX10_chance_37 rfl ?_
  obtain ⟨z1, hf⟩ := mj_ck hf
  refine mj_ialdv (x := r21) rfl s0_21 a0_21 z1 dX10_chance_38 ?_
  refine mj_istore_n [(3, .int (r21 x1.toNatClampNeg)), (0, .ref 1), (1, .int x1), (2, .int x2)] dX10_chance_39 rfl (by decide) rfl ?_
  refine mj_aload_n 1 dX10_chance_40 rfl ?_
  refine mj_getP p0_1_4 (by decide) fl_X10_30 rfl s0_1 a0_1 dX10_chance_41 ?_
  refine mj_bipush dX10_chance_44 kc_bipush_6 ?_
  refine mj_iload_n 2 dX10_chance_46 rfl ?_
  refine mj_iadd dX10_chance_47 ?_
  refine mj_iload_n 0 dX10_chance_48 rfl ?_
  obtain ⟨o2, ho2, hf⟩ := mj_bd hf
  refine mj_callVd (I2 := (mj_rows I [(18, r18), (19, r19), (21, r21), (29, o2.1), (30, o2.2.1), (31, o2.2.2), (32, r32), (70, r70)])) (L2 := L) (s1 := []) (st := []) [.int ((6 : Int32) + x1), .int (r21 x1.toNatClampNeg)] (cmX0_keep X.2.1 G F ((6 : Int32) + x1) (r21 x1.toNatClampNeg) _ _ r29 r30 r31 rfl rfl rfl o2 ho2) (mj_rq rfl rfl) rfl cw_X10_116 s0_29 a0_29 (by decide) rfl rfl (Nat.le_of_ble_eq_true rfl) (mj_rxc hR ⟨by decide, by decide⟩) dX10_chance_49 rfl ?_
  refine mj_aload_n 1 dX10_chance_52 rfl ?_
  refine mj_getP p0_1_2 (by decide) fl_X10_23 rfl s0_1 a0_1 dX10_chance_53 ?_
  refine mj_getP p0_18_3 (by decide) fl_X10_132 rfl s0_18 a0_18 dX10_chance_56 ?_
  refine mj_iload_n 2 dX10_chance_59 rfl ?_
  refine mj_iload_n 3 dX10_chance_60 rfl ?_
  obtain ⟨z3, hf⟩ := mj_ck hf
  refine mj_iastr [(18, r18), (19, r19), (21, (upd r21 x1.toNatClampNeg x2)), (29, o2.1), (30, o2.2.1), (31, o2.2.2), (32, r32), (70, r70)] rfl s0_21 a0_21 z3 dX10_chance_61 ?_
  refine mj_aload_n 1 dX10_chance_62 rfl ?_
  refine mj_getP p0_1_5 (by decide) fl_X10_37 rfl s0_1 a0_1 dX10_chance_63 ?_
  obtain ⟨o4, ho4, hf⟩ := mj_bd hf
  refine mj_callVd (I2 := (mj_rows I [(18, r18), (19, r19), (21, (upd r21 x1.toNatClampNeg x2)), (29, o2.1), (30, o2.2.1), (31, o2.2.2), (32, o4), (70, r70)])) (L2 := L) (s1 := []) (st := []) [] (cmX4_forget X.2.1 G F  _ _ r32 rfl o4 ho4) (mj_rq rfl rfl) rfl cw_X10_101 s0_32 a0_32 (by decide) rfl rfl (Nat.le_of_ble_eq_true rfl) (mj_rxc hR ⟨by decide, by decide⟩) dX10_chance_66 rfl ?_
  refine mj_iload_n 0 dX10_chance_69 rfl ?_
  obtain rfl := Option.some.inj hf
  have hZ := mj_el hq
  replace hZ := mj_u2p hZ
  replace hZ := mj_u2p hZ
  replace hZ := mj_u2p hZ
  replace hZ := mj_u2p hZ
  replace hZ := mj_u2p hZ
  replace hZ := mj_u2p hZ
  exact mj_iretx hR ⟨by decide, by decide⟩ rfl rfl dX10_chance_70 hZ
set_option maxRecDepth 100000 in
set_option maxHeartbeats 4000000 in
theorem mtX10_chance {X : mj_XT} {l : Launch} {G : mj_GT} {ad : Nat → Nat} {Qn : Option Value → mj_IT → mj_LT → Prop} {Qx : String → mj_IT → mj_LT → Prop} (hR : mj_Rx X l G mj_P0 mj_S0 98 ad 3 18 Qn Qx) (hlt : l.stackTraces = false) (F : Nat) (I : mj_IT) (L : mj_LT) (r18 : Nat → Int32) (r19 : Nat → Int32) (r21 : Nat → Int32) (r29 : Nat → Int32) (r30 : Nat → Int32) (r31 : Nat → Int32) (r32 : Nat → Int32) (r70 : Nat → Int32) (x1 : Int32) (x2 : Int32) (o : (((Int32) × (Nat → Int32) × (Nat → Int32) × (Nat → Int32) × (Nat → Int32) × (Nat → Int32) × (Nat → Int32)) ⊕ ((Nat) × (Nat → Int32) × (Nat → Int32) × (Nat → Int32) × (Nat → Int32) × (Nat → Int32) × (Nat → Int32)))) (hf : fnX10_chance F r18 r19 r21 r29 r30 r31 r32 r70 x1 x2 = some o) (hq : (Sum.elim (mj_u2 (fun ov => (mj_u2 (fun r21 => (mj_u2 (fun r29 => (mj_u2 (fun r30 => (mj_u2 (fun r31 => (mj_u2 (fun r32 r70 => Qn (some (.int ov)) (mj_rows I [(18, r18), (19, r19), (21, r21), (29, r29), (30, r30), (31, r31), (32, r32), (70, r70)]) L)))))))))))) (mj_u2 (fun kx => (mj_u2 (fun r21 => (mj_u2 (fun r29 => (mj_u2 (fun r30 => (mj_u2 (fun r31 => (mj_u2 (fun r32 r70 => Qx (mj_en kx) (mj_rows I [(18, r18), (19, r19), (21, r21), (29, r29), (30, r30), (31, r31), (32, r32), (70, r70)]) L))))))))))))) o) : mj_W X G RX10 "chance" cX10_chance 4 9 (some .int) mj_P0 mj_S0 98 ad 0 0 0 [(0, .ref 1), (1, .int x1), (2, .int x2)] [] (mj_rows I [(18, r18), (19, r19), (21, r21), (29, r29), (30, r30), (31, r31), (32, r32), (70, r70)]) L := by
  unfold fnX10_chance at hf
  refine mj_aload_n 0 dX10_chance_0 rfl ?_
  refine mj_iload_n 1 dX10_chance_1 rfl ?_
  obtain ⟨so5, ho5, hf⟩ := mj_bd hf
  refine mj_callVx (st := []) [.int x1] hR (cmX10_needStatement l G hlt F x1 _ _ r18 r70 rfl rfl so5 ho5) cw_X10_123 s0_1 a0_1 (by decide) rfl rfl (Nat.le_of_ble_eq_true rfl) ⟨by decide, by decide⟩ dX10_chance_2 (fun E I2 L2 hx => ?_) (fun rv I2 L2 hx => ?_)
  · obtain ⟨eo5, hf, hx⟩ := mj_sxr hf hx
    obtain rfl := Option.some.inj hf
    obtain ⟨hE9, hI9, hL9⟩ := hx
    rw [hE9, hI9, hL9]
    have hZ := mj_er hq
    replace hZ := mj_u2p hZ
    replace hZ := mj_u2p hZ
    replace hZ := mj_u2p hZ
    replace hZ := mj_u2p hZ
    replace hZ := mj_u2p hZ
    replace hZ := mj_u2p hZ
    rw [mj_rq (l' := [(18, r18), (19, r19), (21, r21), (29, r29), (30, r30), (31, r31), (32, r32), (70, eo5.2)]) rfl rfl]
    exact hZ
  · obtain ⟨o5, hf, hx⟩ := mj_sxl hf hx
    obtain ⟨hr9, hI9, hL9⟩ := hx
    refine mj_cnv (s1 := []) (I2 := (mj_rows I [(18, r18), (19, r19), (21, r21), (29, r29), (30, r30), (31, r31), (32, r32), (70, o5)])) (L2 := L) (by rw [hr9]; rfl) (hI9.trans (mj_rq rfl rfl)) hL9 ?_
    refine mj_aload_n 0 dX10_chance_5 rfl ?_
    refine mj_iload_n 2 dX10_chance_6 rfl ?_
    refine mj_iconst dX10_chance_7 kc_iconst_0 ?_
    refine mj_bipush dX10_chance_8 kc_bipush_60 ?_
    obtain ⟨so6, ho6, hf⟩ := mj_bd hf
    refine mj_callVx (st := []) [.int x2, .int (0 : Int32), .int (60 : Int32)] hR (cmX10_needNumber l G hlt F x2 (0 : Int32) (60 : Int32) _ _ o5 rfl so6 ho6) cw_X10_80 s0_1 a0_1 (by decide) rfl rfl (Nat.le_of_ble_eq_true rfl) ⟨by decide, by decide⟩ dX10_chance_10 (fun E I2 L2 hx => ?_) (fun rv I2 L2 hx => ?_)
    · obtain ⟨eo6, hf, hx⟩ := mj_sxr hf hx
      obtain rfl := Option.some.inj hf
      obtain ⟨hE9, hI9, hL9⟩ := hx
      rw [hE9, hI9, hL9]
      have hZ := mj_er hq
      replace hZ := mj_u2p hZ
      replace hZ := mj_u2p hZ
      replace hZ := mj_u2p hZ
      replace hZ := mj_u2p hZ
      replace hZ := mj_u2p hZ
      replace hZ := mj_u2p hZ
      rw [mj_rq (l' := [(18, r18), (19, r19), (21, r21), (29, r29), (30, r30), (31, r31), (32, r32), (70, eo6.2)]) rfl rfl]
      exact hZ
    · obtain ⟨o6, hf, hx⟩ := mj_sxl hf hx
      obtain ⟨hr9, hI9, hL9⟩ := hx
      refine mj_cnv (s1 := []) (I2 := (mj_rows I [(18, r18), (19, r19), (21, r21), (29, r29), (30, r30), (31, r31), (32, r32), (70, o6)])) (L2 := L) (by rw [hr9]; rfl) (hI9.trans (mj_rq rfl rfl)) hL9 ?_
      refine mj_aload_n 0 dX10_chance_13 rfl ?_
      refine mj_getP p0_1_2 (by decide) fl_X10_23 rfl s0_1 a0_1 dX10_chance_14 ?_
      refine mj_getP p0_18_1 (by decide) fl_X10_126 rfl s0_18 a0_18 dX10_chance_17 ?_
      refine mj_iload_n 1 dX10_chance_20 rfl ?_
      obtain ⟨z7, hf⟩ := mj_ck hf
      refine mj_ialdv (x := r19) rfl s0_19 a0_19 z7 dX10_chance_21 ?_
      refine mj_iconst dX10_chance_22 kc_iconst_2 ?_
      refine mj_icmp_eq 30 dX10_chance_23 (by decide) (fun c8 => ?_) (fun c8 => ?_)
      · replace hf := mj_pos c8 hf
        refine mj_wid (kc' := 3) (ks' := 18) (by decide) (by decide) ?_
        exact jtX10_chance_30 hR hlt F I L r18 r19 r21 r29 r30 r31 r32 o6 x1 x2 o hf hq
      · replace hf := mj_neg c8 hf
        refine mj_aload_n 0 dX10_chance_26 rfl ?_
        obtain ⟨so9, ho9, hf⟩ := mj_bd hf
        refine mj_callVx (st := []) [] hR (cmX10_refuseArgument l G hlt F  _ _ o6 rfl so9 ho9) cw_X10_129 s0_1 a0_1 (by decide) rfl rfl (Nat.le_of_ble_eq_true rfl) ⟨by decide, by decide⟩ dX10_chance_27 (fun E I2 L2 hx => ?_) (fun rv I2 L2 hx => ?_)
        · obtain ⟨eo9, hf, hx⟩ := mj_sxr hf hx
          obtain rfl := Option.some.inj hf
          obtain ⟨hE9, hI9, hL9⟩ := hx
          rw [hE9, hI9, hL9]
          have hZ := mj_er hq
          replace hZ := mj_u2p hZ
          replace hZ := mj_u2p hZ
          replace hZ := mj_u2p hZ
          replace hZ := mj_u2p hZ
          replace hZ := mj_u2p hZ
          replace hZ := mj_u2p hZ
          rw [mj_rq (l' := [(18, r18), (19, r19), (21, r21), (29, r29), (30, r30), (31, r31), (32, r32), (70, eo9.2)]) rfl rfl]
          exact hZ
        · obtain ⟨o9, hf, hx⟩ := mj_sxl hf hx
          obtain ⟨hr9, hI9, hL9⟩ := hx
          refine mj_cnv (s1 := []) (I2 := (mj_rows I [(18, r18), (19, r19), (21, r21), (29, r29), (30, r30), (31, r31), (32, r32), (70, o9)])) (L2 := L) (by rw [hr9]; rfl) (hI9.trans (mj_rq rfl rfl)) hL9 ?_
          exact jtX10_chance_30 hR hlt F I L r18 r19 r21 r29 r30 r31 r32 o9 x1 x2 o hf hq
set_option maxRecDepth 100000 in
set_option maxHeartbeats 4000000 in
theorem cmX10_chance (l : Launch) (G : mj_GT) (hlt : l.stackTraces = false) (F : Nat) (x1 : Int32) (x2 : Int32) (I : mj_IT) (L : mj_LT) (r18 : Nat → Int32) (r19 : Nat → Int32) (r21 : Nat → Int32) (r29 : Nat → Int32) (r30 : Nat → Int32) (r31 : Nat → Int32) (r32 : Nat → Int32) (r70 : Nat → Int32) (hr18 : I 18 = r18) (hr19 : I 19 = r19) (hr21 : I 21 = r21) (hr29 : I 29 = r29) (hr30 : I 30 = r30) (hr31 : I 31 = r31) (hr32 : I 32 = r32) (hr70 : I 70 = r70) (o : (((Int32) × (Nat → Int32) × (Nat → Int32) × (Nat → Int32) × (Nat → Int32) × (Nat → Int32) × (Nat → Int32)) ⊕ ((Nat) × (Nat → Int32) × (Nat → Int32) × (Nat → Int32) × (Nat → Int32) × (Nat → Int32) × (Nat → Int32)))) (hf : fnX10_chance F r18 r19 r21 r29 r30 r31 r32 r70 x1 x2 = some o) : mj_Mx l G yX10_chance cX10_chance 4 9 (some .int) 3 18 mj_P0 mj_S0 98 [.ref 1, .int x1, .int x2] I L (fun rv I2 L2 => Sum.elim (fun o => rv = (some (.int o.1)) ∧ I2 = (mj_rows I [(18, r18), (19, r19), (21, o.2.1), (29, o.2.2.1), (30, o.2.2.2.1), (31, o.2.2.2.2.1), (32, o.2.2.2.2.2.1), (70, o.2.2.2.2.2.2)]) ∧ L2 = L) (fun _ => False) o) (fun E I2 L2 => Sum.elim (fun _ => False) (fun o => E = mj_en o.1 ∧ I2 = (mj_rows I [(18, r18), (19, r19), (21, o.2.1), (29, o.2.2.1), (30, o.2.2.2.1), (31, o.2.2.2.2.1), (32, o.2.2.2.2.2.1), (70, o.2.2.2.2.2.2)]) ∧ L2 = L) o) := by
  refine mj_inx RX10 "chance" [(0, .ref 1), (1, .int x1), (2, .int x2)] rfl rfl rfl (by decide) (Nat.le_of_ble_eq_true rfl) (fun X ad hR => ?_)
  refine mj_toI [(18, r18), (19, r19), (21, r21), (29, r29), (30, r30), (31, r31), (32, r32), (70, r70)] (by intro q hq; simp only [List.mem_cons, List.not_mem_nil, or_false] at hq; rcases hq with rfl | rfl | rfl | rfl | rfl | rfl | rfl | rfl <;> assumption) ?_
  refine mtX10_chance hR hlt F I L r18 r19 r21 r29 r30 r31 r32 r70 x1 x2 o hf ?_
  rcases o with o | o
  · refine mj_elq ?_
    obtain ⟨w0, w1, w2, w3, w4, w5, w6⟩ := o
    refine mj_u2q ?_
    refine mj_u2q ?_
    refine mj_u2q ?_
    refine mj_u2q ?_
    refine mj_u2q ?_
    refine mj_u2q ?_
    refine mj_elq ?_
    exact ⟨rfl, rfl, rfl⟩
  · refine mj_erq ?_
    obtain ⟨w0, w1, w2, w3, w4, w5, w6⟩ := o
    refine mj_u2q ?_
    refine mj_u2q ?_
    refine mj_u2q ?_
    refine mj_u2q ?_
    refine mj_u2q ?_
    refine mj_u2q ?_
    refine mj_erq ?_
    exact ⟨rfl, rfl, rfl⟩

