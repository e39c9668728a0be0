-- X10_needStates
def fnX10_needStates (F : Nat) (r1 : Nat → Int32) (r18 : Nat → Int32) (r19 : Nat → Int32) (r20 : Nat → Int32) (r21 : Nat → Int32) (r22 : Nat → Int32) (r23 : Nat → Int32) (r24 : Nat → Int32) (r25 : Nat → Int32) (r26 : Nat → Int32) (r32 : Nat → Int32) (r33 : Nat → Int32) (r34 : Nat → Int32) (r35 : Nat → Int32) (r36 : Nat → Int32) (r37 : Nat → Int32) (r38 : Nat → Int32) (r39 : Nat → Int32) (r40 : Nat → Int32) (r70 : Nat → Int32) : Option (((Nat → Int32) × (Nat → Int32) × (Nat → Int32) × (Nat → Int32) × (Nat → Int32) × (Nat → Int32) × (Nat → Int32) × (Nat → Int32) × (Nat → Int32) × (Nat → Int32)) ⊕ ((Nat) × (Nat → Int32) × (Nat → Int32) × (Nat → Int32) × (Nat → Int32) × (Nat → Int32) × (Nat → Int32) × (Nat → Int32) × (Nat → Int32) × (Nat → Int32) × (Nat → Int32))) := (fnX4_explore F r18 r19 r20 r21 r22 r23 r24 r25 r26 r32 r33 r34 r35 r36 r37 r38 r39 r40 (r1 3)).bind (fun o1 => (if (o1.1 6) = 0 then some (.inl (o1.1, o1.2.1, o1.2.2.1, o1.2.2.2.1, o1.2.2.2.2.1, o1.2.2.2.2.2.1, o1.2.2.2.2.2.2.1, o1.2.2.2.2.2.2.2.1, o1.2.2.2.2.2.2.2.2, r70)) else (fnX10_refuseState F r70).bind (Sum.elim (fun o3 => some (.inl (o1.1, o1.2.1, o1.2.2.1, o1.2.2.2.1, o1.2.2.2.2.1, o1.2.2.2.2.2.1, o1.2.2.2.2.2.2.1, o1.2.2.2.2.2.2.2.1, o1.2.2.2.2.2.2.2.2, o3))) (fun eo3 => some (.inr (eo3.1, o1.1, o1.2.1, o1.2.2.1, o1.2.2.2.1, o1.2.2.2.2.1, o1.2.2.2.2.2.1, o1.2.2.2.2.2.2.1, o1.2.2.2.2.2.2.2.1, o1.2.2.2.2.2.2.2.2, eo3.2))))))
set_option maxRecDepth 100000 in
set_option maxHeartbeats 4000000 in
theorem mtX10_needStates {X : mj_XT} {l : Launch} {G : mj_GT} {ad : Nat → Nat} {Qn : Option Value → mj_IT → mj_LT → Prop} {Qx : String → mj_IT → mj_LT → Prop} (hR : mj_Rx X l G mj_P0 mj_S0 98 ad 1 6 Qn Qx) (hlt : l.stackTraces = false) (F : Nat) (I : mj_IT) (L : mj_LT) (r1 : Nat → Int32) (r18 : Nat → Int32) (r19 : Nat → Int32) (r20 : Nat → Int32) (r21 : Nat → Int32) (r22 : Nat → Int32) (r23 : Nat → Int32) (r24 : Nat → Int32) (r25 : Nat → Int32) (r26 : Nat → Int32) (r32 : Nat → Int32) (r33 : Nat → Int32) (r34 : Nat → Int32) (r35 : Nat → Int32) (r36 : Nat → Int32) (r37 : Nat → Int32) (r38 : Nat → Int32) (r39 : Nat → Int32) (r40 : Nat → Int32) (r70 : Nat → Int32) (o : (((Nat → Int32) × (Nat → Int32) × (Nat → Int32) × (Nat → Int32) × (Nat → Int32) × (Nat → Int32) × (Nat → Int32) × (Nat → Int32) × (Nat → Int32) × (Nat → Int32)) ⊕ ((Nat) × (Nat → Int32) × (Nat → Int32) × (Nat → Int32) × (Nat → Int32) × (Nat → Int32) × (Nat → Int32) × (Nat → Int32) × (Nat → Int32) × (Nat → Int32) × (Nat → Int32)))) (hf : fnX10_needStates F r1 r18 r19 r20 r21 r22 r23 r24 r25 r26 r32 r33 r34 r35 r36 r37 r38 r39 r40 r70 = some o) (hq : (Sum.elim (mj_u2 (fun r32 => (mj_u2 (fun r33 => (mj_u2 (fun r34 => (mj_u2 (fun r35 => (mj_u2 (fun r36 => (mj_u2 (fun r37 => (mj_u2 (fun r38 => (mj_u2 (fun r39 => (mj_u2 (fun r40 r70 => Qn none (mj_rows I [(1, r1), (18, r18), (19, r19), (20, r20), (21, r21), (22, r22), (23, r23), (24, r24), (25, r25), (26, r26), (32, r32), (33, r33), (34, r34), (35, r35), (36, r36), (37, r37), (38, r38), (39, r39), (40, r40), (70, r70)]) L)))))))))))))))))) (mj_u2 (fun kx => (mj_u2 (fun r32 => (mj_u2 (fun r33 => (mj_u2 (fun r34 => (mj_u2 (fun r35 => (mj_u2 (fun r36 => (mj_u2 (fun r37 => (mj_u2 (fun r38 => (mj_u2 (fun r39 => (mj_u2 (fun r40 r70 => Qx (mj_en kx) (mj_rows I [(1, r1), (18, r18), (19, r19), (20, r20), (21, r21), (22, r22), (23, r23), (24, r24), (25, r25), (26, r26), (32, r32), (33, r33), (34, r34), (35, r35), (36, r36), (37, r37), (38, r38), (39, r39), (40, r40), (70, r70)]) L))))))))))))))))))))) o) : mj_W X G RX10 "needStates" cX10_needStates 1 8 none mj_P0 mj_S0 98 ad 0 0 0 [(0, .ref 1)] [] (mj_rows I [(1, r1), (18, r18), (19, r19), (20, r20), (21, r21), (22, r22), (23, r23), (24, r24), (25, r25), (26, r26), (32, r32), (33, r33), (34, r34), (35, r35), (36, r36), (37, r37), (38, r38), (39, r39), (40, r40), (70, r70)]) L := by
  unfold fnX10_needStates at hf
  refine mj_aload_n 0 dX10_needStates_0 rfl ?_
  refine mj_getP p0_1_5 (by decide) fl_X10_37 rfl s0_1 a0_1 dX10_needStates_1 ?_
  refine mj_aload_n 0 dX10_needStates_4 rfl ?_
  refine mj_getP p0_1_2 (by decide) fl_X10_23 rfl s0_1 a0_1 dX10_needStates_5 ?_
  refine mj_aload_n 0 dX10_needStates_8 rfl ?_
  refine mj_getIv (v := (r1 3)) rfl fl_X10_95 rfl s0_1 a0_1 dX10_needStates_9 ?_
  obtain ⟨o1, ho1, hf⟩ := mj_bd hf
  refine mj_callVd (I2 := (mj_rows I [(1, r1), (18, r18), (19, r19), (20, r20), (21, r21), (22, r22), (23, r23), (24, r24), (25, r25), (26, r26), (32, o1.1), (33, o1.2.1), (34, o1.2.2.1), (35, o1.2.2.2.1), (36, o1.2.2.2.2.1), (37, o1.2.2.2.2.2.1), (38, o1.2.2.2.2.2.2.1), (39, o1.2.2.2.2.2.2.2.1), (40, o1.2.2.2.2.2.2.2.2), (70, r70)])) (L2 := L) (s1 := []) (st := []) [.ref 18, .int (r1 3)] (cmX4_explore X.2.1 G F (r1 3) _ _ r18 r19 r20 r21 r22 r23 r24 r25 r26 r32 r33 r34 r35 r36 r37 r38 r39 r40 rfl rfl rfl rfl rfl rfl rfl rfl rfl rfl rfl rfl rfl rfl rfl rfl rfl rfl o1 ho1) (mj_rq rfl rfl) rfl cw_X10_145 s0_32 a0_32 (by decide) rfl rfl (Nat.le_of_ble_eq_true rfl) (mj_rxc hR ⟨by decide, by decide⟩) dX10_needStates_12 rfl ?_
  refine mj_aload_n 0 dX10_needStates_15 rfl ?_
  refine mj_getP p0_1_5 (by decide) fl_X10_37 rfl s0_1 a0_1 dX10_needStates_16 ?_
  refine mj_getIv (v := (o1.1 6)) rfl fl_X10_149 rfl s0_32 a0_32 dX10_needStates_19 ?_
  refine mj_if_eq 29 dX10_needStates_22 (by decide) (fun c2 => ?_) (fun c2 => ?_)
  · replace hf := mj_pos c2 hf
    obtain rfl := Option.some.inj hf
    have hZ := mj_el hq
    replace hZ := mj_u2p hZ
    replace hZ := mj_u2p hZ
    replace hZ := mj_u2p hZ
    replace hZ := mj_u2p hZ
    replace hZ := mj_u2p hZ
    replace hZ := mj_u2p hZ
    replace hZ := mj_u2p hZ
    replace hZ := mj_u2p hZ
    replace hZ := mj_u2p hZ
    exact mj_vretx hR ⟨by decide, by decide⟩ rfl dX10_needStates_29 hZ
  · replace hf := mj_neg c2 hf
    refine mj_aload_n 0 dX10_needStates_25 rfl ?_
    obtain ⟨so3, ho3, hf⟩ := mj_bd hf
    refine mj_callVx (st := []) [] hR (cmX10_refuseState l G hlt F  _ _ r70 rfl so3 ho3) cw_X10_289 s0_1 a0_1 (by decide) rfl rfl (Nat.le_of_ble_eq_true rfl) ⟨by decide, by decide⟩ dX10_needStates_26 (fun E I2 L2 hx => ?_) (fun rv I2 L2 hx => ?_)
    · obtain ⟨eo3, hf, hx⟩ := mj_sxr hf hx
      obtain rfl := Option.some.inj hf
      obtain ⟨hE9, hI9, hL9⟩ := hx
      rw [hE9, hI9, hL9]
      have hZ := mj_er hq
      replace hZ := mj_u2p hZ
      replace hZ := mj_u2p hZ
      replace hZ := mj_u2p hZ
      replace hZ := mj_u2p hZ
      replace hZ := mj_u2p hZ
      replace hZ := mj_u2p hZ
      replace hZ := mj_u2p hZ
      replace hZ := mj_u2p hZ
      replace hZ := mj_u2p hZ
      replace hZ := mj_u2p hZ
      rw [mj_rq (l' := [(1, r1), (18, r18), (19, r19), (20, r20), (21, r21), (22, r22), (23, r23), (24, r24), (25, r25), (26, r26), (32, o1.1), (33, o1.2.1), (34, o1.2.2.1), (35, o1.2.2.2.1), (36, o1.2.2.2.2.1), (37, o1.2.2.2.2.2.1), (38, o1.2.2.2.2.2.2.1), (39, o1.2.2.2.2.2.2.2.1), (40, o1.2.2.2.2.2.2.2.2), (70, eo3.2)]) rfl rfl]
      exact hZ
    · obtain ⟨o3, hf, hx⟩ := mj_sxl hf hx
      obtain ⟨hr9, hI9, hL9⟩ := hx
      refine mj_cnv (s1 := []) (I2 := (mj_rows I [(1, r1), (18, r18), (19, r19), (20, r20), (21, r21), (22, r22), (23, r23), (24, r24), (25, r25), (26, r26), (32, o1.1), (33, o1.2.1), (34, o1.2.2.1), (35, o1.2.2.2.1), (36, o1.2.2.2.2.1), (37, o1.2.2.2.2.2.1), (38, o1.2.2.2.2.2.2.1), (39, o1.2.2.2.2.2.2.2.1), (40, o1.2.2.2.2.2.2.2.2), (70, o3)])) (L2 := L) (by rw [hr9]; rfl) (hI9.trans (mj_rq rfl rfl)) hL9 ?_
      obtain rfl := Option.some.inj hf
      have hZ := mj_el hq
      replace hZ := mj_u2p hZ
      replace hZ := mj_u2p hZ
      replace hZ := mj_u2p hZ
      replace hZ := mj_u2p hZ
      replace hZ := mj_u2p hZ
      replace hZ := mj_u2p hZ
      replace hZ := mj_u2p hZ
      replace hZ := mj_u2p hZ
      replace hZ := mj_u2p hZ
      exact mj_vretx hR ⟨by decide, by decide⟩ rfl dX10_needStates_29 hZ
set_option maxRecDepth 100000 in
set_option maxHeartbeats 4000000 in
theorem cmX10_needStates (l : Launch) (G : mj_GT) (hlt : l.stackTraces = false) (F : Nat) (I : mj_IT) (L : mj_LT) (r1 : Nat → Int32) (r18 : Nat → Int32) (r19 : Nat → Int32) (r20 : Nat → Int32) (r21 : Nat → Int32) (r22 : Nat → Int32) (r23 : Nat → Int32) (r24 : Nat → Int32) (r25 : Nat → Int32) (r26 : Nat → Int32) (r32 : Nat → Int32) (r33 : Nat → Int32) (r34 : Nat → Int32) (r35 : Nat → Int32) (r36 : Nat → Int32) (r37 : Nat → Int32) (r38 : Nat → Int32) (r39 : Nat → Int32) (r40 : Nat → Int32) (r70 : Nat → Int32) (hr1 : I 1 = r1) (hr18 : I 18 = r18) (hr19 : I 19 = r19) (hr20 : I 20 = r20) (hr21 : I 21 = r21) (hr22 : I 22 = r22) (hr23 : I 23 = r23) (hr24 : I 24 = r24) (hr25 : I 25 = r25) (hr26 : I 26 = r26) (hr32 : I 32 = r32) (hr33 : I 33 = r33) (hr34 : I 34 = r34) (hr35 : I 35 = r35) (hr36 : I 36 = r36) (hr37 : I 37 = r37) (hr38 : I 38 = r38) (hr39 : I 39 = r39) (hr40 : I 40 = r40) (hr70 : I 70 = r70) (o : (((Nat → Int32) × (Nat → Int32) × (Nat → Int32) × (Nat → Int32) × (Nat → Int32) × (Nat → Int32) × (Nat → Int32) × (Nat → Int32) × (Nat → Int32) × (Nat → Int32)) ⊕ ((Nat) × (Nat → Int32) × (Nat → Int32) × (Nat → Int32) × (Nat → Int32) × (Nat → Int32) × (Nat → Int32) × (Nat → Int32) × (Nat → Int32) × (Nat → Int32) × (Nat → Int32)))) (hf : fnX10_needStates F r1 r18 r19 r20 r21 r22 r23 r24 r25 r26 r32 r33 r34 r35 r36 r37 r38 r39 r40 r70 = some o) : mj_Mx l G yX10_needStates cX10_needStates 1 8 none 1 6 mj_P0 mj_S0 98 [.ref 1] I L (fun rv I2 L2 => Sum.elim (fun o => rv = none ∧ I2 = (mj_rows I [(1, r1), (18, r18), (19, r19), (20, r20), (21, r21), (22, r22), (23, r23), (24, r24), (25, r25), (26, r26), (32, o.1), (33, o.2.1), (34, o.2.2.1), (35, o.2.2.2.1), (36, o.2.2.2.2.1), (37, o.2.2.2.2.2.1), (38, o.2.2.2.2.2.2.1), (39, o.2.2.2.2.2.2.2.1), (40, o.2.2.2.2.2.2.2.2.1), (70, o.2.2.2.2.2.2.2.2.2)]) ∧ L2 = L) (fun _ => False) o) (fun E I2 L2 => Sum.elim (fun _ => False) (fun o => E = mj_en o.1 ∧ I2 = (mj_rows I [(1, r1), (18, r18), (19, r19), (20, r20), (21, r21), (22, r22), (23, r23), (24, r24), (25, r25), (26, r26), (32, o.2.1), (33, o.2.2.1), (34, o.2.2.2.1), (35, o.2.2.2.2.1), (36, o.2.2.2.2.2.1), (37, o.2.2.2.2.2.2.1), (38, o.2.2.2.2.2.2.2.1), (39, o.2.2.2.2.2.2.2.2.1), (40, o.2.2.2.2.2.2.2.2.2.1), (70, o.2.2.2.2.2.2.2.2.2.2)]) ∧ L2 = L) o) := by
  refine mj_inx RX10 "needStates" [(0, .ref 1)] rfl rfl rfl (by decide) (Nat.le_of_ble_eq_true rfl) (fun X ad hR => ?_)
  refine mj_toI [(1, r1), (18, r18), (19, r19), (20, r20), (21, r21), (22, r22), (23, r23), (24, r24), (25, r25), (26, r26), (32, r32), (33, r33), (34, r34), (35, r35), (36, r36), (37, r37), (38, r38), (39, r39), (40, r40), (70, r70)] (by intro q hq; simp only [List.mem_cons, List.not_mem_nil, or_false] at hq; rcases hq with rfl | rfl | rfl | rfl | rfl | rfl | rfl | rfl | rfl | rfl | rfl | rfl | rfl | rfl | rfl | rfl | rfl | rfl | rfl | rfl <;> assumption) ?_
  refine mtX10_needStates hR hlt F I L r1 r18 r19 r20 r21 r22 r23 r24 r25 r26 r32 r33 r34 r35 r36 r37 r38 r39 r40 r70 o hf ?_
  rcases o with o | o
  · refine mj_elq ?_
    obtain ⟨w0, w1, w2, w3, w4, w5, w6, w7, w8, w9⟩ := o
    refine mj_u2q ?_
    refine mj_u2q ?_
    refine mj_u2q ?_
    refine mj_u2q ?_
    refine mj_u2q ?_
    refine mj_u2q ?_
    refine mj_u2q ?_
    refine mj_u2q ?_
    refine mj_u2q ?_
    refine mj_elq ?_
    exact ⟨rfl, rfl, rfl⟩
  · refine mj_erq ?_
    obtain ⟨w0, w1, w2, w3, w4, w5, w6, w7, w8, w9, w10⟩ := o
    refine mj_u2q ?_
    refine mj_u2q ?_
    refine mj_u2q ?_
    refine mj_u2q ?_
    refine mj_u2q ?_
    refine mj_u2q ?_
    refine mj_u2q ?_
    refine mj_u2q ?_
    refine mj_u2q ?_
    refine mj_u2q ?_
    refine mj_erq ?_
    exact ⟨rfl, rfl, rfl⟩

-- X10_needState
def fnX10_needState (F : Nat) (r32 : Nat → Int32) (r70 : Nat → Int32) (x1 : Int32) : Option (((Nat → Int32)) ⊕ ((Nat) × (Nat → Int32))) := (if x1 < 0 then (fnX10_refuseElement F r70).bind (Sum.elim (fun o2 => some (.inl o2)) (fun eo2 => some (.inr (eo2.1, eo2.2)))) else (if x1 < (r32 2) then some (.inl r70) else (fnX10_refuseElement F r70).bind (Sum.elim (fun o4 => some (.inl o4)) (fun eo4 => some (.inr (eo4.1, eo4.2))))))
set_option maxRecDepth 100000 in
set_option maxHeartbeats 4000000 in
theorem mtX10_needState {X : mj_XT} {l : Launch} {G : mj_GT} {ad : Nat → Nat} {Qn : Option Value → mj_IT → mj_LT → Prop} {Qx : String → mj_IT → mj_LT → Prop} (hR : mj_Rx X l G mj_P0 mj_S0 98 ad 1 6 Qn Qx) (hlt : l.stackTraces = false) (F : Nat) (I : mj_IT) (L : mj_LT) (r32 : Nat → Int32) (r70 : Nat → Int32) (x1 : Int32) (o : (((Nat → Int32)) ⊕ ((Nat) × (Nat → Int32)))) (hf : fnX10_needState F r32 r70 x1 = some o) (hq : (Sum.elim (fun r70 => Qn none (mj_rows I [(32, r32), (70, r70)]) L) (mj_u2 (fun kx r70 => Qx (mj_en kx) (mj_rows I [(32, r32), (70, r70)]) L))) o) : mj_W X G RX10 "needState" cX10_needState 2 8 none mj_P0 mj_S0 98 ad 0 0 0 [(0, .ref 1), (1, .int x1)] [] (mj_rows I [(32, r32), (70, r70)]) L := by
  unfold fnX10_needState at hf
  refine mj_iload_n 1 dX10_needState_0 rfl ?_
  refine mj_if_lt 15 dX10_needState_1 (by decide) (fun c1 => ?_) (fun c1 => ?_)
  · replace hf := mj_pos c1 hf
    refine mj_aload_n 0 dX10_needState_15 rfl ?_
    obtain ⟨so2, ho2, hf⟩ := mj_bd hf
    refine mj_callVx (st := []) [] hR (cmX10_refuseElement l G hlt F  _ _ r70 rfl so2 ho2) cw_X10_197 s0_1 a0_1 (by decide) rfl rfl (Nat.le_of_ble_eq_true rfl) ⟨by decide, by decide⟩ dX10_needState_16 (fun E I2 L2 hx => ?_) (fun rv I2 L2 hx => ?_)
    · obtain ⟨eo2, hf, hx⟩ := mj_sxr hf hx
      obtain rfl := Option.some.inj hf
      obtain ⟨hE9, hI9, hL9⟩ := hx
      rw [hE9, hI9, hL9]
      have hZ := mj_er hq
      replace hZ := mj_u2p hZ
      rw [mj_rq (l' := [(32, r32), (70, eo2.2)]) rfl rfl]
      exact hZ
    · obtain ⟨o2, hf, hx⟩ := mj_sxl hf hx
      obtain ⟨hr9, hI9, hL9⟩ := hx
      refine mj_cnv (s1 := []) (I2 := (mj_rows I [(32, r32), (70, o2)])) (L2 := L) (by rw [hr9]; rfl) (hI9.trans (mj_rq rfl rfl)) hL9 ?_
      obtain rfl := Option.some.inj hf
      have hZ := mj_el hq
      exact mj_vretx hR ⟨by decide, by decide⟩ rfl dX10_needState_19 hZ
  · replace hf := mj_neg c1 hf
    refine mj_iload_n 1 dX10_needState_4 rfl ?_
    refine mj_aload_n 0 dX10_needState_5 rfl ?_
    refine mj_getP p0_1_5 (by decide) fl_X10_37 rfl s0_1 a0_1 dX10_needState_6 ?_
    refine mj_getIv (v := (r32 2)) rfl fl_X10_153 rfl s0_32 a0_32 dX10_needState_9 ?_
    refine mj_icmp_lt 19 dX10_needState_12 (by decide) (fun c3 => ?_) (fun c3 => ?_)
    · replace hf := mj_pos c3 hf
      obtain rfl := Option.some.inj hf
      have hZ := mj_el hq
      exact mj_vretx hR ⟨by decide, by decide⟩ rfl dX10_needState_19 hZ
    · replace hf := mj_neg c3 hf
      refine mj_aload_n 0 dX10_needState_15 rfl ?_
      obtain ⟨so4, ho4, hf⟩ := mj_bd hf
      refine mj_callVx (st := []) [] hR (cmX10_refuseElement l G hlt F  _ _ r70 rfl so4 ho4) cw_X10_197 s0_1 a0_1 (by decide) rfl rfl (Nat.le_of_ble_eq_true rfl) ⟨by decide, by decide⟩ dX10_needState_16 (fun E I2 L2 hx => ?_) (fun rv I2 L2 hx => ?_)
      · obtain ⟨eo4, hf, hx⟩ := mj_sxr hf hx
        obtain rfl := Option.some.inj hf
        obtain ⟨hE9, hI9, hL9⟩ := hx
        rw [hE9, hI9, hL9]
        have hZ := mj_er hq
        replace hZ := mj_u2p hZ
        rw [mj_rq (l' := [(32, r32), (70, eo4.2)]) rfl rfl]
        exact hZ
      · obtain ⟨o4, hf, hx⟩ := mj_sxl hf hx
        obtain ⟨hr9, hI9, hL9⟩ := hx
        refine mj_cnv (s1 := []) (I2 := (mj_rows I [(32, r32), (70, o4)])) (L2 := L) (by rw [hr9]; rfl) (hI9.trans (mj_rq rfl rfl)) hL9 ?_
        obtain rfl := Option.some.inj hf
        have hZ := mj_el hq
        exact mj_vretx hR ⟨by decide, by decide⟩ rfl dX10_needState_19 hZ
set_option maxRecDepth 100000 in
set_option maxHeartbeats 4000000 in
theorem cmX10_needState (l : Launch) (G : mj_GT) (hlt : l.stackTraces = false) (F : Nat) (x1 : Int32) (I : mj_IT) (L : mj_LT) (r32 : Nat → Int32) (r70 : Nat → Int32) (hr32 : I 32 = r32) (hr70 : I 70 = r70) (o : (((Nat → Int32)) ⊕ ((Nat) × (Nat → Int32)))) (hf : fnX10_needState F r32 r70 x1 = some o) : mj_Mx l G yX10_needState cX10_needState 2 8 none 1 6 mj_P0 mj_S0 98 [.ref 1, .int x1] I L (fun rv I2 L2 => Sum.elim (fun o => rv = none ∧ I2 = (mj_rows I [(32, r32), (70, o)]) ∧ L2 = L) (fun _ => False) o) (fun E I2 L2 => Sum.elim (fun _ => False) (fun o => E = mj_en o.1 ∧ I2 = (mj_rows I [(32, r32), (70, o.2)]) ∧ L2 = L) o) := by
  refine mj_inx RX10 "needState" [(0, .ref 1), (1, .int x1)] rfl rfl rfl (by decide) (Nat.le_of_ble_eq_true rfl) (fun X ad hR => ?_)
  refine mj_toI [(32, r32), (70, r70)] (by intro q hq; simp only [List.mem_cons, List.not_mem_nil, or_false] at hq; rcases hq with rfl | rfl <;> assumption) ?_
  refine mtX10_needState hR hlt F I L r32 r70 x1 o hf ?_
  rcases o with o | o
  · refine mj_elq ?_
    refine mj_elq ?_
    exact ⟨rfl, rfl, rfl⟩
  · refine mj_erq ?_
    obtain ⟨w0, w1⟩ := o
    refine mj_u2q ?_
    refine mj_erq ?_
    exact ⟨rfl, rfl, rfl⟩

