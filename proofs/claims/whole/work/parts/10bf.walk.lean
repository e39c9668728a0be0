-- X10_needEnd
def fnX10_needEnd (F : Nat) (r32 : Nat → Int32) (r70 : Nat → Int32) : Option (((Nat → Int32)) ⊕ ((Nat) × (Nat → Int32))) := (if (r32 4) = 0 then (fnX10_refuseState F r70).bind (Sum.elim (fun o2 => some (.inl o2)) (fun eo2 => some (.inr (eo2.1, eo2.2)))) else some (.inl r70))
set_option maxRecDepth 100000 in
set_option maxHeartbeats 4000000 in
theorem mtX10_needEnd {X : mj_XT} {l : Launch} {G : mj_GT} {ad : Nat → Nat} {Qn : Option Value → mj_IT → mj_LT → Prop} {Qx : String → mj_IT → mj_LT → Prop} (hR : mj_Rx X l G mj_P0 mj_S0 98 ad 1 6 Qn Qx) (hlt : l.stackTraces = false) (F : Nat) (I : mj_IT) (L : mj_LT) (r32 : Nat → Int32) (r70 : Nat → Int32) (o : (((Nat → Int32)) ⊕ ((Nat) × (Nat → Int32)))) (hf : fnX10_needEnd F r32 r70 = some o) (hq : (Sum.elim (fun r70 => Qn none (mj_rows I [(32, r32), (70, r70)]) L) (mj_u2 (fun kx r70 => Qx (mj_en kx) (mj_rows I [(32, r32), (70, r70)]) L))) o) : mj_W X G RX10 "needEnd" cX10_needEnd 1 8 none mj_P0 mj_S0 98 ad 0 0 0 [(0, .ref 1)] [] (mj_rows I [(32, r32), (70, r70)]) L := by
  unfold fnX10_needEnd at hf
  refine mj_aload_n 0 dX10_needEnd_0 rfl ?_
  refine mj_getP p0_1_5 (by decide) fl_X10_37 rfl s0_1 a0_1 dX10_needEnd_1 ?_
  refine mj_getIv (v := (r32 4)) rfl fl_X10_154 rfl s0_32 a0_32 dX10_needEnd_4 ?_
  refine mj_if_ne 14 dX10_needEnd_7 (by decide) (fun c1 => ?_) (fun c1 => ?_)
  · replace hf := mj_neg c1 hf
    obtain rfl := Option.some.inj hf
    have hZ := mj_el hq
    exact mj_vretx hR ⟨by decide, by decide⟩ rfl dX10_needEnd_14 hZ
  · replace hf := mj_pos c1 hf
    refine mj_aload_n 0 dX10_needEnd_10 rfl ?_
    obtain ⟨so2, ho2, hf⟩ := mj_bd hf
    refine mj_callVx (st := []) [] hR (cmX10_refuseState l G hlt F  _ _ r70 rfl so2 ho2) cw_X10_289 s0_1 a0_1 (by decide) rfl rfl (Nat.le_of_ble_eq_true rfl) ⟨by decide, by decide⟩ dX10_needEnd_11 (fun E I2 L2 hx => ?_) (fun rv I2 L2 hx => ?_)
    · obtain ⟨eo2, hf, hx⟩ := mj_sxr hf hx
      obtain rfl := Option.some.inj hf
      obtain ⟨hE9, hI9, hL9⟩ := hx
      rw [hE9, hI9, hL9]
      have hZ := mj_er hq
      replace hZ := mj_u2p hZ
      rw [mj_rq (l' := [(32, r32), (70, eo2.2)]) rfl rfl]
      exact hZ
    · obtain ⟨o2, hf, hx⟩ := mj_sxl hf hx
      obtain ⟨hr9, hI9, hL9⟩ := hx
      refine mj_cnv (s1 := []) (I2 := (mj_rows I [(32, r32), (70, o2)])) (L2 := L) (by rw [hr9]; rfl) (hI9.trans (mj_rq rfl rfl)) hL9 ?_
      obtain rfl := Option.some.inj hf
      have hZ := mj_el hq
      exact mj_vretx hR ⟨by decide, by decide⟩ rfl dX10_needEnd_14 hZ
set_option maxRecDepth 100000 in
set_option maxHeartbeats 4000000 in
theorem cmX10_needEnd (l : Launch) (G : mj_GT) (hlt : l.stackTraces = false) (F : Nat) (I : mj_IT) (L : mj_LT) (r32 : Nat → Int32) (r70 : Nat → Int32) (hr32 : I 32 = r32) (hr70 : I 70 = r70) (o : (((Nat → Int32)) ⊕ ((Nat) × (Nat → Int32)))) (hf : fnX10_needEnd F r32 r70 = some o) : mj_Mx l G yX10_needEnd cX10_needEnd 1 8 none 1 6 mj_P0 mj_S0 98 [.ref 1] I L (fun rv I2 L2 => Sum.elim (fun o => rv = none ∧ I2 = (mj_rows I [(32, r32), (70, o)]) ∧ L2 = L) (fun _ => False) o) (fun E I2 L2 => Sum.elim (fun _ => False) (fun o => E = mj_en o.1 ∧ I2 = (mj_rows I [(32, r32), (70, o.2)]) ∧ L2 = L) o) := by
  refine mj_inx RX10 "needEnd" [(0, .ref 1)] rfl rfl rfl (by decide) (Nat.le_of_ble_eq_true rfl) (fun X ad hR => ?_)
  refine mj_toI [(32, r32), (70, r70)] (by intro q hq; simp only [List.mem_cons, List.not_mem_nil, or_false] at hq; rcases hq with rfl | rfl <;> assumption) ?_
  refine mtX10_needEnd hR hlt F I L r32 r70 o hf ?_
  rcases o with o | o
  · refine mj_elq ?_
    refine mj_elq ?_
    exact ⟨rfl, rfl, rfl⟩
  · refine mj_erq ?_
    obtain ⟨w0, w1⟩ := o
    refine mj_u2q ?_
    refine mj_erq ?_
    exact ⟨rfl, rfl, rfl⟩

-- X10_coupleInForm
def fnX10_coupleInForm (F : Nat) (r32 : Nat → Int32) (r33 : Nat → Int32) (r34 : Nat → Int32) (r36 : Nat → Int32) (r37 : Nat → Int32) (r38 : Nat → Int32) (r39 : Nat → Int32) (r41 : Nat → Int32) (r42 : Nat → Int32) (r43 : Nat → Int32) (r44 : Nat → Int32) (r45 : Nat → Int32) (r46 : Nat → Int32) (r50 : Nat → Int32) (x1 : Int32) (x2 : Int32) (x3 : Int32) (x4 : Int32) (x5 : Int32) : Option ((Int32) × (Nat → Int32) × (Nat → Int32) × (Nat → Int32) × (Nat → Int32) × (Nat → Int32) × (Nat → Int32) × (Nat → Int32)) := (fnX2_canDivide F r32 r33 r36 r37 r38 r39 r41 r42 r43 r44 r45 r46 r50).bind (fun o1 => (if o1.1 = 0 then some ((-3 : Int32), o1.2.1, o1.2.2.1, o1.2.2.2.1, o1.2.2.2.2.1, o1.2.2.2.2.2.1, o1.2.2.2.2.2.2.1, o1.2.2.2.2.2.2.2) else (fnX2_coupleTogether F r32 r33 r34 o1.2.2.1 x1 x2 x3 x4).bind (fun o3 => (fnX2_shareOfEnded F o1.2.1 o3).bind (fun o4 => (fnX3_inForm F o4 x5).bind (fun o5 => some (o5, o1.2.1, o1.2.2.1, o1.2.2.2.1, o1.2.2.2.2.1, o1.2.2.2.2.2.1, o1.2.2.2.2.2.2.1, o1.2.2.2.2.2.2.2))))))
set_option maxRecDepth 100000 in
set_option maxHeartbeats 4000000 in
theorem mtX10_coupleInForm {X : mj_XT} {l : Launch} {G : mj_GT} {ad : Nat → Nat} {Qn : Option Value → mj_IT → mj_LT → Prop} (hR : mj_R X l G mj_P0 mj_S0 98 ad 0 0 Qn) (F : Nat) (I : mj_IT) (L : mj_LT) (r32 : Nat → Int32) (r33 : Nat → Int32) (r34 : Nat → Int32) (r36 : Nat → Int32) (r37 : Nat → Int32) (r38 : Nat → Int32) (r39 : Nat → Int32) (r41 : Nat → Int32) (r42 : Nat → Int32) (r43 : Nat → Int32) (r44 : Nat → Int32) (r45 : Nat → Int32) (r46 : Nat → Int32) (r50 : Nat → Int32) (x1 : Int32) (x2 : Int32) (x3 : Int32) (x4 : Int32) (x5 : Int32) (o : ((Int32) × (Nat → Int32) × (Nat → Int32) × (Nat → Int32) × (Nat → Int32) × (Nat → Int32) × (Nat → Int32) × (Nat → Int32))) (hf : fnX10_coupleInForm F r32 r33 r34 r36 r37 r38 r39 r41 r42 r43 r44 r45 r46 r50 x1 x2 x3 x4 x5 = some o) (hq : (mj_u2 (fun ov => (mj_u2 (fun r41 => (mj_u2 (fun r42 => (mj_u2 (fun r43 => (mj_u2 (fun r44 => (mj_u2 (fun r45 => (mj_u2 (fun r46 r50 => Qn (some (.int ov)) (mj_rows I [(32, r32), (33, r33), (34, r34), (36, r36), (37, r37), (38, r38), (39, r39), (41, r41), (42, r42), (43, r43), (44, r44), (45, r45), (46, r46), (50, r50)]) L)))))))))))))) o) : mj_W X G RX10 "coupleInForm" cX10_coupleInForm 6 7 (some .int) mj_P0 mj_S0 98 ad 0 0 0 [(0, .ref 1), (1, .int x1), (2, .int x2), (3, .int x3), (4, .int x4), (5, .int x5)] [] (mj_rows I [(32, r32), (33, r33), (34, r34), (36, r36), (37, r37), (38, r38), (39, r39), (41, r41), (42, r42), (43, r43), (44, r44), (45, r45), (46, r46), (50, r50)]) L := by
  unfold fnX10_coupleInForm at hf
  refine mj_aload_n 0 dX10_coupleInForm_0 rfl ?_
  refine mj_getP p0_1_6 (by decide) fl_X10_44 rfl s0_1 a0_1 dX10_coupleInForm_1 ?_
  refine mj_aload_n 0 dX10_coupleInForm_4 rfl ?_
  refine mj_getP p0_1_5 (by decide) fl_X10_37 rfl s0_1 a0_1 dX10_coupleInForm_5 ?_
  obtain ⟨o1, ho1, hf⟩ := mj_bd hf
  refine mj_callVd (I2 := (mj_rows I [(32, r32), (33, r33), (34, r34), (36, r36), (37, r37), (38, r38), (39, r39), (41, o1.2.1), (42, o1.2.2.1), (43, o1.2.2.2.1), (44, o1.2.2.2.2.1), (45, o1.2.2.2.2.2.1), (46, o1.2.2.2.2.2.2.1), (50, o1.2.2.2.2.2.2.2)])) (L2 := L) (s1 := [.int o1.1]) (st := []) [.ref 32] (cmX2_canDivide X.2.1 G F  _ _ r32 r33 r36 r37 r38 r39 r41 r42 r43 r44 r45 r46 r50 rfl rfl rfl rfl rfl rfl rfl rfl rfl rfl rfl rfl rfl o1 ho1) (mj_rq rfl rfl) rfl cw_X10_237 s0_41 a0_41 (by decide) rfl rfl (Nat.le_of_ble_eq_true rfl) ⟨Nat.zero_le _, Nat.zero_le _⟩ dX10_coupleInForm_8 rfl ?_
  refine mj_if_ne 17 dX10_coupleInForm_11 (by decide) (fun c2 => ?_) (fun c2 => ?_)
  · replace hf := mj_neg c2 hf
    refine mj_aload_n 0 dX10_coupleInForm_17 rfl ?_
    refine mj_getP p0_1_6 (by decide) fl_X10_44 rfl s0_1 a0_1 dX10_coupleInForm_18 ?_
    refine mj_aload_n 0 dX10_coupleInForm_21 rfl ?_
    refine mj_getP p0_1_6 (by decide) fl_X10_44 rfl s0_1 a0_1 dX10_coupleInForm_22 ?_
    refine mj_aload_n 0 dX10_coupleInForm_25 rfl ?_
    refine mj_getP p0_1_5 (by decide) fl_X10_37 rfl s0_1 a0_1 dX10_coupleInForm_26 ?_
    refine mj_iload_n 1 dX10_coupleInForm_29 rfl ?_
    refine mj_iload_n 2 dX10_coupleInForm_30 rfl ?_
    refine mj_iload_n 3 dX10_coupleInForm_31 rfl ?_
    refine mj_iload 4 dX10_coupleInForm_32 rfl ?_
    obtain ⟨o3, ho3, hf⟩ := mj_bd hf
    refine mj_callVd (I2 := (mj_rows I [(32, r32), (33, r33), (34, r34), (36, r36), (37, r37), (38, r38), (39, r39), (41, o1.2.1), (42, o1.2.2.1), (43, o1.2.2.2.1), (44, o1.2.2.2.2.1), (45, o1.2.2.2.2.2.1), (46, o1.2.2.2.2.2.2.1), (50, o1.2.2.2.2.2.2.2)])) (L2 := L) (s1 := [.int o3, .ref 41]) (st := [.ref 41]) [.ref 32, .int x1, .int x2, .int x3, .int x4] (cmX2_coupleTogether X.2.1 G F x1 x2 x3 x4 _ _ r32 r33 r34 o1.2.2.1 rfl rfl rfl rfl o3 ho3) (mj_rq rfl rfl) rfl cw_X10_309 s0_41 a0_41 (by decide) rfl rfl (Nat.le_of_ble_eq_true rfl) ⟨Nat.zero_le _, Nat.zero_le _⟩ dX10_coupleInForm_34 rfl ?_
    obtain ⟨o4, ho4, hf⟩ := mj_bd hf
    refine mj_callVd (I2 := (mj_rows I [(32, r32), (33, r33), (34, r34), (36, r36), (37, r37), (38, r38), (39, r39), (41, o1.2.1), (42, o1.2.2.1), (43, o1.2.2.2.1), (44, o1.2.2.2.2.1), (45, o1.2.2.2.2.2.1), (46, o1.2.2.2.2.2.2.1), (50, o1.2.2.2.2.2.2.2)])) (L2 := L) (s1 := [.int o4]) (st := []) [.int o3] (cmX2_shareOfEnded X.2.1 G F o3 _ _ o1.2.1 rfl o4 ho4) (mj_rq rfl rfl) rfl cw_X10_244 s0_41 a0_41 (by decide) rfl rfl (Nat.le_of_ble_eq_true rfl) ⟨Nat.zero_le _, Nat.zero_le _⟩ dX10_coupleInForm_37 rfl ?_
    refine mj_iload 5 dX10_coupleInForm_40 rfl ?_
    obtain ⟨o5, ho5, hf⟩ := mj_bd hf
    refine mj_callSd (I2 := (mj_rows I [(32, r32), (33, r33), (34, r34), (36, r36), (37, r37), (38, r38), (39, r39), (41, o1.2.1), (42, o1.2.2.1), (43, o1.2.2.2.1), (44, o1.2.2.2.2.1), (45, o1.2.2.2.2.2.1), (46, o1.2.2.2.2.2.2.1), (50, o1.2.2.2.2.2.2.2)])) (L2 := L) (s1 := [.int o5]) (st := []) [.int o4, .int x5] (cmX3_inForm X.2.1 G F o4 x5 _ _   o5 ho5) rfl rfl cw_X10_219 (by decide) rfl rfl (Nat.le_of_ble_eq_true rfl) ⟨Nat.zero_le _, Nat.zero_le _⟩ dX10_coupleInForm_42 rfl ?_
    obtain rfl := Option.some.inj hf
    have hZ := hq
    replace hZ := mj_u2p hZ
    replace hZ := mj_u2p hZ
    replace hZ := mj_u2p hZ
    replace hZ := mj_u2p hZ
    replace hZ := mj_u2p hZ
    replace hZ := mj_u2p hZ
    replace hZ := mj_u2p hZ
    exact mj_iret hR ⟨Nat.le_refl _, Nat.le_refl _⟩ rfl rfl dX10_coupleInForm_45 hZ
  · replace hf := mj_pos c2 hf
    refine mj_bipush dX10_coupleInForm_14 kc_bipush_m3 ?_
    obtain rfl := Option.some.inj hf
    have hZ := hq
    replace hZ := mj_u2p hZ
    replace hZ := mj_u2p hZ
    replace hZ := mj_u2p hZ
    replace hZ := mj_u2p hZ
    replace hZ := mj_u2p hZ
    replace hZ := mj_u2p hZ
    replace hZ := mj_u2p hZ
    exact mj_iret hR ⟨Nat.le_refl _, Nat.le_refl _⟩ rfl rfl dX10_coupleInForm_16 hZ
set_option maxRecDepth 100000 in
set_option maxHeartbeats 4000000 in
theorem cmX10_coupleInForm (l : Launch) (G : mj_GT) (F : Nat) (x1 : Int32) (x2 : Int32) (x3 : Int32) (x4 : Int32) (x5 : Int32) (I : mj_IT) (L : mj_LT) (r32 : Nat → Int32) (r33 : Nat → Int32) (r34 : Nat → Int32) (r36 : Nat → Int32) (r37 : Nat → Int32) (r38 : Nat → Int32) (r39 : Nat → Int32) (r41 : Nat → Int32) (r42 : Nat → Int32) (r43 : Nat → Int32) (r44 : Nat → Int32) (r45 : Nat → Int32) (r46 : Nat → Int32) (r50 : Nat → Int32) (hr32 : I 32 = r32) (hr33 : I 33 = r33) (hr34 : I 34 = r34) (hr36 : I 36 = r36) (hr37 : I 37 = r37) (hr38 : I 38 = r38) (hr39 : I 39 = r39) (hr41 : I 41 = r41) (hr42 : I 42 = r42) (hr43 : I 43 = r43) (hr44 : I 44 = r44) (hr45 : I 45 = r45) (hr46 : I 46 = r46) (hr50 : I 50 = r50) (o : ((Int32) × (Nat → Int32) × (Nat → Int32) × (Nat → Int32) × (Nat → Int32) × (Nat → Int32) × (Nat → Int32) × (Nat → Int32))) (hf : fnX10_coupleInForm F r32 r33 r34 r36 r37 r38 r39 r41 r42 r43 r44 r45 r46 r50 x1 x2 x3 x4 x5 = some o) : mj_M l G yX10_coupleInForm cX10_coupleInForm 6 7 (some .int) 0 0 mj_P0 mj_S0 98 [.ref 1, .int x1, .int x2, .int x3, .int x4, .int x5] I L (mj_qd (some (.int o.1)) (mj_rows I [(32, r32), (33, r33), (34, r34), (36, r36), (37, r37), (38, r38), (39, r39), (41, o.2.1), (42, o.2.2.1), (43, o.2.2.2.1), (44, o.2.2.2.2.1), (45, o.2.2.2.2.2.1), (46, o.2.2.2.2.2.2.1), (50, o.2.2.2.2.2.2.2)]) L) := by
  refine mj_in RX10 "coupleInForm" [(0, .ref 1), (1, .int x1), (2, .int x2), (3, .int x3), (4, .int x4), (5, .int x5)] rfl rfl rfl (by decide) (Nat.le_of_ble_eq_true rfl) (fun X ad hR => ?_)
  refine mj_toI [(32, r32), (33, r33), (34, r34), (36, r36), (37, r37), (38, r38), (39, r39), (41, r41), (42, r42), (43, r43), (44, r44), (45, r45), (46, r46), (50, r50)] (by intro q hq; simp only [List.mem_cons, List.not_mem_nil, or_false] at hq; rcases hq with rfl | rfl | rfl | rfl | rfl | rfl | rfl | rfl | rfl | rfl | rfl | rfl | rfl | rfl <;> assumption) ?_
  refine mtX10_coupleInForm hR F I L r32 r33 r34 r36 r37 r38 r39 r41 r42 r43 r44 r45 r46 r50 x1 x2 x3 x4 x5 o hf ?_
  obtain ⟨w0, w1, w2, w3, w4, w5, w6, w7⟩ := o
  refine mj_u2q ?_
  refine mj_u2q ?_
  refine mj_u2q ?_
  refine mj_u2q ?_
  refine mj_u2q ?_
  refine mj_u2q ?_
  refine mj_u2q ?_
  exact ⟨rfl, rfl, rfl⟩

