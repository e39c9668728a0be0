-- X10_state
def fnX10_state (F : Nat) (r1 : Nat → Int32) (r18 : Nat → Int32) (r19 : Nat → Int32) (r20 : Nat → Int32) (r21 : Nat → Int32) (r22 : Nat → Int32) (r23 : Nat → Int32) (r24 : Nat → Int32) (r25 : Nat → Int32) (r26 : Nat → Int32) (r32 : Nat → Int32) (r33 : Nat → Int32) (r34 : Nat → Int32) (r35 : Nat → Int32) (r36 : Nat → Int32) (r37 : Nat → Int32) (r38 : Nat → Int32) (r39 : Nat → Int32) (r40 : Nat → Int32) (r70 : Nat → Int32) (x1 : Int32) (x2 : Int32) : Option (((Int32) × (Nat → Int32) × (Nat → Int32) × (Nat → Int32) × (Nat → Int32) × (Nat → Int32) × (Nat → Int32) × (Nat → Int32) × (Nat → Int32) × (Nat → Int32) × (Nat → Int32)) ⊕ ((Nat) × (Nat → Int32) × (Nat → Int32) × (Nat → Int32) × (Nat → Int32) × (Nat → Int32) × (Nat → Int32) × (Nat → Int32) × (Nat → Int32) × (Nat → Int32) × (Nat → Int32))) := (fnX10_needStates F r1 r18 r19 r20 r21 r22 r23 r24 r25 r26 r32 r33 r34 r35 r36 r37 r38 r39 r40 r70).bind (Sum.elim (fun o1 => (fnX10_needState F o1.1 o1.2.2.2.2.2.2.2.2.2 x1).bind (Sum.elim (fun o2 => (fnX10_needNumber F o2 x2 (0 : Int32) (9 : Int32)).bind (Sum.elim (fun o3 => (if x2 = (0 : Int32) then (if mj_ib x1 200 = true then some (.inl ((o1.2.1 x1.toNatClampNeg), o1.1, o1.2.1, o1.2.2.1, o1.2.2.2.1, o1.2.2.2.2.1, o1.2.2.2.2.2.1, o1.2.2.2.2.2.2.1, o1.2.2.2.2.2.2.2.1, o1.2.2.2.2.2.2.2.2.1, o3)) else none) else (if x2 = (1 : Int32) then (if mj_ib x1 200 = true then (fnX1_get F (o1.2.2.1 x1.toNatClampNeg) (x2 - (1 : Int32))).bind (fun o7 => some (.inl (o7, o1.1, o1.2.1, o1.2.2.1, o1.2.2.2.1, o1.2.2.2.2.1, o1.2.2.2.2.2.1, o1.2.2.2.2.2.2.1, o1.2.2.2.2.2.2.2.1, o1.2.2.2.2.2.2.2.2.1, o3))) else none) else (if x2 = (2 : Int32) then (if mj_ib x1 200 = true then (fnX1_get F (o1.2.2.1 x1.toNatClampNeg) (x2 - (1 : Int32))).bind (fun o9 => some (.inl (o9, o1.1, o1.2.1, o1.2.2.1, o1.2.2.2.1, o1.2.2.2.2.1, o1.2.2.2.2.2.1, o1.2.2.2.2.2.2.1, o1.2.2.2.2.2.2.2.1, o1.2.2.2.2.2.2.2.2.1, o3))) else none) else (if x2 = (3 : Int32) then (if mj_ib x1 200 = true then (fnX1_get F (o1.2.2.1 x1.toNatClampNeg) (x2 - (1 : Int32))).bind (fun o11 => some (.inl (o11, o1.1, o1.2.1, o1.2.2.1, o1.2.2.2.1, o1.2.2.2.2.1, o1.2.2.2.2.2.1, o1.2.2.2.2.2.2.1, o1.2.2.2.2.2.2.2.1, o1.2.2.2.2.2.2.2.2.1, o3))) else none) else (if x2 = (4 : Int32) then (if mj_ib x1 200 = true then (fnX1_get F (o1.2.2.1 x1.toNatClampNeg) (x2 - (1 : Int32))).bind (fun o13 => some (.inl (o13, o1.1, o1.2.1, o1.2.2.1, o1.2.2.2.1, o1.2.2.2.2.1, o1.2.2.2.2.2.1, o1.2.2.2.2.2.2.1, o1.2.2.2.2.2.2.2.1, o1.2.2.2.2.2.2.2.2.1, o3))) else none) else (if x2 = (5 : Int32) then (if mj_ib x1 200 = true then (fnX1_get F (o1.2.2.1 x1.toNatClampNeg) (x2 - (1 : Int32))).bind (fun o15 => some (.inl (o15, o1.1, o1.2.1, o1.2.2.1, o1.2.2.2.1, o1.2.2.2.2.1, o1.2.2.2.2.2.1, o1.2.2.2.2.2.2.1, o1.2.2.2.2.2.2.2.1, o1.2.2.2.2.2.2.2.2.1, o3))) else none) else (if x2 = (6 : Int32) then (if mj_ib x1 200 = true then (fnX1_get F (o1.2.2.1 x1.toNatClampNeg) (x2 - (1 : Int32))).bind (fun o17 => some (.inl (o17, o1.1, o1.2.1, o1.2.2.1, o1.2.2.2.1, o1.2.2.2.2.1, o1.2.2.2.2.2.1, o1.2.2.2.2.2.2.1, o1.2.2.2.2.2.2.2.1, o1.2.2.2.2.2.2.2.2.1, o3))) else none) else (if x2 = (7 : Int32) then (if mj_ib x1 200 = true then some (.inl ((o1.2.2.2.1 x1.toNatClampNeg), o1.1, o1.2.1, o1.2.2.1, o1.2.2.2.1, o1.2.2.2.2.1, o1.2.2.2.2.2.1, o1.2.2.2.2.2.2.1, o1.2.2.2.2.2.2.2.1, o1.2.2.2.2.2.2.2.2.1, o3)) else none) else (if x2 = (8 : Int32) then (if mj_ib x1 200 = true then (if (o1.2.2.2.2.1 x1.toNatClampNeg) = 0 then some (.inl ((0 : Int32), o1.1, o1.2.1, o1.2.2.1, o1.2.2.2.1, o1.2.2.2.2.1, o1.2.2.2.2.2.1, o1.2.2.2.2.2.2.1, o1.2.2.2.2.2.2.2.1, o1.2.2.2.2.2.2.2.2.1, o3)) else some (.inl ((1 : Int32), o1.1, o1.2.1, o1.2.2.1, o1.2.2.2.1, o1.2.2.2.2.1, o1.2.2.2.2.2.1, o1.2.2.2.2.2.2.1, o1.2.2.2.2.2.2.2.1, o1.2.2.2.2.2.2.2.2.1, o3))) else none) else (if x2 = (9 : Int32) then (fnX4_arcsOf F o1.2.2.2.2.2.1 x1).bind (fun o21 => some (.inl (o21, o1.1, o1.2.1, o1.2.2.1, o1.2.2.2.1, o1.2.2.2.2.1, o1.2.2.2.2.2.1, o1.2.2.2.2.2.2.1, o1.2.2.2.2.2.2.2.1, o1.2.2.2.2.2.2.2.2.1, o3))) else (if mj_ib x1 200 = true then (fnX1_get F (o1.2.2.1 x1.toNatClampNeg) (x2 - (1 : Int32))).bind (fun o23 => some (.inl (o23, o1.1, o1.2.1, o1.2.2.1, o1.2.2.2.1, o1.2.2.2.2.1, o1.2.2.2.2.2.1, o1.2.2.2.2.2.2.1, o1.2.2.2.2.2.2.2.1, o1.2.2.2.2.2.2.2.2.1, o3))) else none)))))))))))) (fun eo3 => some (.inr (eo3.1, o1.1, o1.2.1, o1.2.2.1, o1.2.2.2.1, o1.2.2.2.2.1, o1.2.2.2.2.2.1, o1.2.2.2.2.2.2.1, o1.2.2.2.2.2.2.2.1, o1.2.2.2.2.2.2.2.2.1, eo3.2))))) (fun eo2 => some (.inr (eo2.1, o1.1, o1.2.1, o1.2.2.1, o1.2.2.2.1, o1.2.2.2.2.1, o1.2.2.2.2.2.1, o1.2.2.2.2.2.2.1, o1.2.2.2.2.2.2.2.1, o1.2.2.2.2.2.2.2.2.1, eo2.2))))) (fun eo1 => some (.inr (eo1.1, eo1.2.1, eo1.2.2.1, eo1.2.2.2.1, eo1.2.2.2.2.1, eo1.2.2.2.2.2.1, eo1.2.2.2.2.2.2.1, eo1.2.2.2.2.2.2.2.1, eo1.2.2.2.2.2.2.2.2.1, eo1.2.2.2.2.2.2.2.2.2.1, eo1.2.2.2.2.2.2.2.2.2.2))))
set_option maxRecDepth 100000 in
set_option maxHeartbeats 4000000 in
theorem mtX10_state {X : mj_XT} {l : Launch} {G : mj_GT} {ad : Nat → Nat} {Qn : Option Value → mj_IT → mj_LT → Prop} {Qx : String → mj_IT → mj_LT → Prop} (hR : mj_Rx X l G mj_P0 mj_S0 98 ad 3 18 Qn Qx) (hlt : l.stackTraces = false) (F : Nat) (I : mj_IT) (L : mj_LT) (r1 : Nat → Int32) (r18 : Nat → Int32) (r19 : Nat → Int32) (r20 : Nat → Int32) (r21 : Nat → Int32) (r22 : Nat → Int32) (r23 : Nat → Int32) (r24 : Nat → Int32) (r25 : Nat → Int32) (r26 : Nat → Int32) (r32 : Nat → Int32) (r33 : Nat → Int32) (r34 : Nat → Int32) (r35 : Nat → Int32) (r36 : Nat → Int32) (r37 : Nat → Int32) (r38 : Nat → Int32) (r39 : Nat → Int32) (r40 : Nat → Int32) (r70 : Nat → Int32) (x1 : Int32) (x2 : Int32) (o : (((Int32) × (Nat → Int32) × (Nat → Int32) × (Nat → Int32) × (Nat → Int32) × (Nat → Int32) × (Nat → Int32) × (Nat → Int32) × (Nat → Int32) × (Nat → Int32) × (Nat → Int32)) ⊕ ((Nat) × (Nat → Int32) × (Nat → Int32) × (Nat → Int32) × (Nat → Int32) × (Nat → Int32) × (Nat → Int32) × (Nat → Int32) × (Nat → Int32) × (Nat → Int32) × (Nat → Int32)))) (hf : fnX10_state F r1 r18 r19 r20 r21 r22 r23 r24 r25 r26 r32 r33 r34 r35 r36 r37 r38 r39 r40 r70 x1 x2 = some o) (hq : (Sum.elim (mj_u2 (fun ov => (mj_u2 (fun r32 => (mj_u2 (fun r33 => (mj_u2 (fun r34 => (mj_u2 (fun r35 => (mj_u2 (fun r36 => (mj_u2 (fun r37 => (mj_u2 (fun r38 => (mj_u2 (fun r39 => (mj_u2 (fun r40 r70 => Qn (some (.int ov)) (mj_rows I [(1, r1), (18, r18), (19, r19), (20, r20), (21, r21), (22, r22), (23, r23), (24, r24), (25, r25), (26, r26), (32, r32), (33, r33), (34, r34), (35, r35), (36, r36), (37, r37), (38, r38), (39, r39), (40, r40), (70, r70)]) L)))))))))))))))))))) (mj_u2 (fun kx => (mj_u2 (fun r32 => (mj_u2 (fun r33 => (mj_u2 (fun r34 => (mj_u2 (fun r35 => (mj_u2 (fun r36 => (mj_u2 (fun r37 => (mj_u2 (fun r38 => (mj_u2 (fun r39 => (mj_u2 (fun r40 r70 => Qx (mj_en kx) (mj_rows I [(1, r1), (18, r18), (19, r19), (20, r20), (21, r21), (22, r22), (23, r23), (24, r24), (25, r25), (26, r26), (32, r32), (33, r33), (34, r34), (35, r35), (36, r36), (37, r37), (38, r38), (39, r39), (40, r40), (70, r70)]) L))))))))))))))))))))) o) : mj_W X G RX10 "state" cX10_state 3 9 (some .int) mj_P0 mj_S0 98 ad 0 0 0 [(0, .ref 1), (1, .int x1), (2, .int x2)] [] (mj_rows I [(1, r1), (18, r18), (19, r19), (20, r20), (21, r21), (22, r22), (23, r23), (24, r24), (25, r25), (26, r26), (32, r32), (33, r33), (34, r34), (35, r35), (36, r36), (37, r37), (38, r38), (39, r39), (40, r40), (70, r70)]) L := by
  unfold fnX10_state at hf
  refine mj_aload_n 0 dX10_state_0 rfl ?_
  obtain ⟨so1, ho1, hf⟩ := mj_bd hf
  refine mj_callVx (st := []) [] hR (cmX10_needStates l G hlt F  _ _ r1 r18 r19 r20 r21 r22 r23 r24 r25 r26 r32 r33 r34 r35 r36 r37 r38 r39 r40 r70 rfl rfl rfl rfl rfl rfl rfl rfl rfl rfl rfl rfl rfl rfl rfl rfl rfl rfl rfl rfl so1 ho1) cw_X10_175 s0_1 a0_1 (by decide) rfl rfl (Nat.le_of_ble_eq_true rfl) ⟨by decide, by decide⟩ dX10_state_1 (fun E I2 L2 hx => ?_) (fun rv I2 L2 hx => ?_)
  · obtain ⟨eo1, hf, hx⟩ := mj_sxr hf hx
    obtain rfl := Option.some.inj hf
    obtain ⟨hE9, hI9, hL9⟩ := hx
    rw [hE9, hI9, hL9]
    have hZ := mj_er hq
    replace hZ := mj_u2p hZ
    replace hZ := mj_u2p hZ
    replace hZ := mj_u2p hZ
    replace hZ := mj_u2p hZ
    replace hZ := mj_u2p hZ
    replace hZ := mj_u2p hZ
    replace hZ := mj_u2p hZ
    replace hZ := mj_u2p hZ
    replace hZ := mj_u2p hZ
    replace hZ := mj_u2p hZ
    rw [mj_rq (l' := [(1, r1), (18, r18), (19, r19), (20, r20), (21, r21), (22, r22), (23, r23), (24, r24), (25, r25), (26, r26), (32, eo1.2.1), (33, eo1.2.2.1), (34, eo1.2.2.2.1), (35, eo1.2.2.2.2.1), (36, eo1.2.2.2.2.2.1), (37, eo1.2.2.2.2.2.2.1), (38, eo1.2.2.2.2.2.2.2.1), (39, eo1.2.2.2.2.2.2.2.2.1), (40, eo1.2.2.2.2.2.2.2.2.2.1), (70, eo1.2.2.2.2.2.2.2.2.2.2)]) rfl rfl]
    exact hZ
  · obtain ⟨o1, hf, hx⟩ := mj_sxl hf hx
    obtain ⟨hr9, hI9, hL9⟩ := hx
    refine mj_cnv (s1 := []) (I2 := (mj_rows I [(1, r1), (18, r18), (19, r19), (20, r20), (21, r21), (22, r22), (23, r23), (24, r24), (25, r25), (26, r26), (32, o1.1), (33, o1.2.1), (34, o1.2.2.1), (35, o1.2.2.2.1), (36, o1.2.2.2.2.1), (37, o1.2.2.2.2.2.1), (38, o1.2.2.2.2.2.2.1), (39, o1.2.2.2.2.2.2.2.1), (40, o1.2.2.2.2.2.2.2.2.1), (70, o1.2.2.2.2.2.2.2.2.2)])) (L2 := L) (by rw [hr9]; rfl) (hI9.trans (mj_rq rfl rfl)) hL9 ?_
    refine mj_aload_n 0 dX10_state_4 rfl ?_
    refine mj_iload_n 1 dX10_state_5 rfl ?_
    obtain ⟨so2, ho2, hf⟩ := mj_bd hf
    refine mj_callVx (st := []) [.int x1] hR (cmX10_needState l G hlt F x1 _ _ o1.1 o1.2.2.2.2.2.2.2.2.2 rfl rfl so2 ho2) cw_X10_178 s0_1 a0_1 (by decide) rfl rfl (Nat.le_of_ble_eq_true rfl) ⟨by decide, by decide⟩ dX10_state_6 (fun E I2 L2 hx => ?_) (fun rv I2 L2 hx => ?_)
    · obtain ⟨eo2, hf, hx⟩ := mj_sxr hf hx
      obtain rfl := Option.some.inj hf
      obtain ⟨hE9, hI9, hL9⟩ := hx
      rw [hE9, hI9, hL9]
      have hZ := mj_er hq
      replace hZ := mj_u2p hZ
      replace hZ := mj_u2p hZ
      replace hZ := mj_u2p hZ
      replace hZ := mj_u2p hZ
      replace hZ := mj_u2p hZ
      replace hZ := mj_u2p hZ
      replace hZ := mj_u2p hZ
      replace hZ := mj_u2p hZ
      replace hZ := mj_u2p hZ
      replace hZ := mj_u2p hZ
      rw [mj_rq (l' := [(1, r1), (18, r18), (19, r19), (20, r20), (21, r21), (22, r22), (23, r23), (24, r24), (25, r25), (26, r26), (32, o1.1), (33, o1.2.1), (34, o1.2.2.1), (35, o1.2.2.2.1), (36, o1.2.2.2.2.1), (37, o1.2.2.2.2.2.1), (38, o1.2.2.2.2.2.2.1), (39, o1.2.2.2.2.2.2.2.1), (40, o1.2.2.2.2.2.2.2.2.1), (70, eo2.2)]) rfl rfl]
      exact hZ
    · obtain ⟨o2, hf, hx⟩ := mj_sxl hf hx
      obtain ⟨hr9, hI9, hL9⟩ := hx
      refine mj_cnv (s1 := []) (I2 := (mj_rows I [(1, r1), (18, r18), (19, r19), (20, r20), (21, r21), (22, r22), (23, r23), (24, r24), (25, r25), (26, r26), (32, o1.1), (33, o1.2.1), (34, o1.2.2.1), (35, o1.2.2.2.1), (36, o1.2.2.2.2.1), (37, o1.2.2.2.2.2.1), (38, o1.2.2.2.2.2.2.1), (39, o1.2.2.2.2.2.2.2.1), (40, o1.2.2.2.2.2.2.2.2.1), (70, o2)])) (L2 := L) (by rw [hr9]; rfl) (hI9.trans (mj_rq rfl rfl)) hL9 ?_
      refine mj_aload_n 0 dX10_state_9 rfl ?_
      refine mj_iload_n 2 dX10_state_10 rfl ?_
      refine mj_iconst dX10_state_11 kc_iconst_0 ?_
      refine mj_bipush dX10_state_12 kc_bipush_9 ?_
      obtain ⟨so3, ho3, hf⟩ := mj_bd hf
      refine mj_callVx (st := []) [.int x2, .int (0 : Int32), .int (9 : Int32)] hR (cmX10_needNumber l G hlt F x2 (0 : Int32) (9 : Int32) _ _ o2 rfl so3 ho3) cw_X10_80 s0_1 a0_1 (by decide) rfl rfl (Nat.le_of_ble_eq_true rfl) ⟨by decide, by decide⟩ dX10_state_14 (fun E I2 L2 hx => ?_) (fun rv I2 L2 hx => ?_)
      · obtain ⟨eo3, hf, hx⟩ := mj_sxr hf hx
        obtain rfl := Option.some.inj hf
        obtain ⟨hE9, hI9, hL9⟩ := hx
        rw [hE9, hI9, hL9]
        have hZ := mj_er hq
        replace hZ := mj_u2p hZ
        replace hZ := mj_u2p hZ
        replace hZ := mj_u2p hZ
        replace hZ := mj_u2p hZ
        replace hZ := mj_u2p hZ
        replace hZ := mj_u2p hZ
        replace hZ := mj_u2p hZ
        replace hZ := mj_u2p hZ
        replace hZ := mj_u2p hZ
        replace hZ := mj_u2p hZ
        rw [mj_rq (l' := [(1, r1), (18, r18), (19, r19), (20, r20), (21, r21), (22, r22), (23, r23), (24, r24), (25, r25), (26, r26), (32, o1.1), (33, o1.2.1), (34, o1.2.2.1), (35, o1.2.2.2.1), (36, o1.2.2.2.2.1), (37, o1.2.2.2.2.2.1), (38, o1.2.2.2.2.2.2.1), (39, o1.2.2.2.2.2.2.2.1), (40, o1.2.2.2.2.2.2.2.2.1), (70, eo3.2)]) rfl rfl]
        exact hZ
      · obtain ⟨o3, hf, hx⟩ := mj_sxl hf hx
        obtain ⟨hr9, hI9, hL9⟩ := hx
        refine mj_cnv (s1 := []) (I2 := (mj_rows I [(1, r1), (18, r18), (19, r19), (20, r20), (21, r21), (22, r22), (23, r23), (24, r24), (25, r25), (26, r26), (32, o1.1), (33, o1.2.1), (34, o1.2.2.1), (35, o1.2.2.2.1), (36, o1.2.2.2.2.1), (37, o1.2.2.2.2.2.1), (38, o1.2.2.2.2.2.2.1), (39, o1.2.2.2.2.2.2.2.1), (40, o1.2.2.2.2.2.2.2.2.1), (70, o3)])) (L2 := L) (by rw [hr9]; rfl) (hI9.trans (mj_rq rfl rfl)) hL9 ?_
        refine mj_iload_n 2 dX10_state_17 rfl ?_
        by_cases c4_0 : x2 = (0 : Int32)
        · replace hf := mj_pos c4_0 hf
          refine mj_tsI (off := 54) 72 c4_0 dX10_state_18 (by decide) (by decide) (by decide) (by decide) ?_
          refine mj_aload_n 0 dX10_state_72 rfl ?_
          refine mj_getP p0_1_5 (by decide) fl_X10_37 rfl s0_1 a0_1 dX10_state_73 ?_
          refine mj_getP p0_32_8 (by decide) fl_X10_181 rfl s0_32 a0_32 dX10_state_76 ?_
          refine mj_iload_n 1 dX10_state_79 rfl ?_
          obtain ⟨z5, hf⟩ := mj_ck hf
          refine mj_ialdv (x := o1.2.1) rfl s0_33 a0_33 z5 dX10_state_80 ?_
          obtain rfl := Option.some.inj hf
          have hZ := mj_el hq
          replace hZ := mj_u2p hZ
          replace hZ := mj_u2p hZ
          replace hZ := mj_u2p hZ
          replace hZ := mj_u2p hZ
          replace hZ := mj_u2p hZ
          replace hZ := mj_u2p hZ
          replace hZ := mj_u2p hZ
          replace hZ := mj_u2p hZ
          replace hZ := mj_u2p hZ
          replace hZ := mj_u2p hZ
          exact mj_iretx hR ⟨by decide, by decide⟩ rfl rfl dX10_state_81 hZ
        · replace hf := mj_neg c4_0 hf
          by_cases c4_1 : x2 = (1 : Int32)
          · replace hf := mj_pos c4_1 hf
            refine mj_tsI (off := 101) 119 c4_1 dX10_state_18 (by decide) (by decide) (by decide) (by decide) ?_
            refine mj_aload_n 0 dX10_state_119 rfl ?_
            refine mj_getP p0_1_5 (by decide) fl_X10_37 rfl s0_1 a0_1 dX10_state_120 ?_
            refine mj_getP p0_32_9 (by decide) fl_X10_194 rfl s0_32 a0_32 dX10_state_123 ?_
            refine mj_iload_n 1 dX10_state_126 rfl ?_
            obtain ⟨z6, hf⟩ := mj_ck hf
            refine mj_ialdv (x := o1.2.2.1) rfl s0_34 a0_34 z6 dX10_state_127 ?_
            refine mj_iload_n 2 dX10_state_128 rfl ?_
            refine mj_iconst dX10_state_129 kc_iconst_1 ?_
            refine mj_isub dX10_state_130 ?_
            obtain ⟨o7, ho7, hf⟩ := mj_bd hf
            refine mj_callSd (I2 := (mj_rows I [(1, r1), (18, r18), (19, r19), (20, r20), (21, r21), (22, r22), (23, r23), (24, r24), (25, r25), (26, r26), (32, o1.1), (33, o1.2.1), (34, o1.2.2.1), (35, o1.2.2.2.1), (36, o1.2.2.2.2.1), (37, o1.2.2.2.2.2.1), (38, o1.2.2.2.2.2.2.1), (39, o1.2.2.2.2.2.2.2.1), (40, o1.2.2.2.2.2.2.2.2.1), (70, o3)])) (L2 := L) (s1 := [.int o7]) (st := []) [.int (o1.2.2.1 x1.toNatClampNeg), .int (x2 - (1 : Int32))] (cmX1_get X.2.1 G F (o1.2.2.1 x1.toNatClampNeg) (x2 - (1 : Int32)) _ _   o7 ho7) rfl rfl cw_X10_110 (by decide) rfl rfl (Nat.le_of_ble_eq_true rfl) (mj_rxc hR ⟨by decide, by decide⟩) dX10_state_131 rfl ?_
            obtain rfl := Option.some.inj hf
            have hZ := mj_el hq
            replace hZ := mj_u2p hZ
            replace hZ := mj_u2p hZ
            replace hZ := mj_u2p hZ
            replace hZ := mj_u2p hZ
            replace hZ := mj_u2p hZ
            replace hZ := mj_u2p hZ
            replace hZ := mj_u2p hZ
            replace hZ := mj_u2p hZ
            replace hZ := mj_u2p hZ
            replace hZ := mj_u2p hZ
            exact mj_iretx hR ⟨by decide, by decide⟩ rfl rfl dX10_state_134 hZ
          · replace hf := mj_neg c4_1 hf
            by_cases c4_2 : x2 = (2 : Int32)
            · replace hf := mj_pos c4_2 hf
              refine mj_tsI (off := 101) 119 c4_2 dX10_state_18 (by decide) (by decide) (by decide) (by decide) ?_
              refine mj_aload_n 0 dX10_state_119 rfl ?_
              refine mj_getP p0_1_5 (by decide) fl_X10_37 rfl s0_1 a0_1 dX10_state_120 ?_
              refine mj_getP p0_32_9 (by decide) fl_X10_194 rfl s0_32 a0_32 dX10_state_123 ?_
              refine mj_iload_n 1 dX10_state_126 rfl ?_
              obtain ⟨z8, hf⟩ := mj_ck hf
              refine mj_ialdv (x := o1.2.2.1) rfl s0_34 a0_34 z8 dX10_state_127 ?_
              refine mj_iload_n 2 dX10_state_128 rfl ?_
              refine mj_iconst dX10_state_129 kc_iconst_1 ?_
              refine mj_isub dX10_state_130 ?_
              obtain ⟨o9, ho9, hf⟩ := mj_bd hf
              refine mj_callSd (I2 := (mj_rows I [(1, r1), (18, r18), (19, r19), (20, r20), (21, r21), (22, r22), (23, r23), (24, r24), (25, r25), (26, r26), (32, o1.1), (33, o1.2.1), (34, o1.2.2.1), (35, o1.2.2.2.1), (36, o1.2.2.2.2.1), (37, o1.2.2.2.2.2.1), (38, o1.2.2.2.2.2.2.1), (39, o1.2.2.2.2.2.2.2.1), (40, o1.2.2.2.2.2.2.2.2.1), (70, o3)])) (L2 := L) (s1 := [.int o9]) (st := []) [.int (o1.2.2.1 x1.toNatClampNeg), .int (x2 - (1 : Int32))] (cmX1_get X.2.1 G F (o1.2.2.1 x1.toNatClampNeg) (x2 - (1 : Int32)) _ _   o9 ho9) rfl rfl cw_X10_110 (by decide) rfl rfl (Nat.le_of_ble_eq_true rfl) (mj_rxc hR ⟨by decide, by decide⟩) dX10_state_131 rfl ?_
              obtain rfl := Option.some.inj hf
              have hZ := mj_el hq
              replace hZ := mj_u2p hZ
              replace hZ := mj_u2p hZ
              replace hZ := mj_u2p hZ
              replace hZ := mj_u2p hZ
              replace hZ := mj_u2p hZ
              replace hZ := mj_u2p hZ
              replace hZ := mj_u2p hZ
              replace hZ := mj_u2p hZ
              replace hZ := mj_u2p hZ
              replace hZ := mj_u2p hZ
              exact mj_iretx hR ⟨by decide, by decide⟩ rfl rfl dX10_state_134 hZ
            · replace hf := mj_neg c4_2 hf
              by_cases c4_3 : x2 = (3 : Int32)
              · replace hf := mj_pos c4_3 hf
                refine mj_tsI (off := 101) 119 c4_3 dX10_state_18 (by decide) (by decide) (by decide) (by decide) ?_
                refine mj_aload_n 0 dX10_state_119 rfl ?_
                refine mj_getP p0_1_5 (by decide) fl_X10_37 rfl s0_1 a0_1 dX10_state_120 ?_
                refine mj_getP p0_32_9 (by decide) fl_X10_194 rfl s0_32 a0_32 dX10_state_123 ?_
                refine mj_iload_n 1 dX10_state_126 rfl ?_
                obtain ⟨z10, hf⟩ := mj_ck hf
                refine mj_ialdv (x := o1.2.2.1) rfl s0_34 a0_34 z10 dX10_state_127 ?_
                refine mj_iload_n 2 dX10_state_128 rfl ?_
                refine mj_iconst dX10_state_129 kc_iconst_1 ?_
                refine mj_isub dX10_state_130 ?_
                obtain ⟨o11, ho11, hf⟩ := mj_bd hf
                refine mj_callSd (I2 := (mj_rows I [(1, r1), (18, r18), (19, r19), (20, r20), (21, r21), (22, r22), (23, r23), (24, r24), (25, r25), (26, r26), (32, o1.1), (33, o1.2.1), (34, o1.2.2.1), (35, o1.2.2.2.1), (36, o1.2.2.2.2.1), (37, o1.2.2.2.2.2.1), (38, o1.2.2.2.2.2.2.1), (39, o1.2.2.2.2.2.2.2.1), (40, o1.2.2.2.2.2.2.2.2.1), (70, o3)])) (L2 := L) (s1 := [.int o11]) (st := []) [.int (o1.2.2.1 x1.toNatClampNeg), .int (x2 - (1 : Int32))] (cmX1_get X.2.1 G F (o1.2.2.1 x1.toNatClampNeg) (x2 - (1 : Int32)) _ _   o11 ho11) rfl rfl cw_X10_110 (by decide) rfl rfl (Nat.le_of_ble_eq_true rfl) (mj_rxc hR ⟨by decide, by decide⟩) dX10_state_131 rfl ?_
                obtain rfl := Option.some.inj hf
                have hZ := mj_el hq
                replace hZ := mj_u2p hZ
                replace hZ := mj_u2p hZ
                replace hZ := mj_u2p hZ
                replace hZ := mj_u2p hZ
                replace hZ := mj_u2p hZ
                replace hZ := mj_u2p hZ
                replace hZ := mj_u2p hZ
                replace hZ := mj_u2p hZ
                replace hZ := mj_u2p hZ
                replace hZ := mj_u2p hZ
                exact mj_iretx hR ⟨by decide, by decide⟩ rfl rfl dX10_state_134 hZ
              · replace hf := mj_neg c4_3 hf
                by_cases c4_4 : x2 = (4 : Int32)
                · replace hf := mj_pos c4_4 hf
                  refine mj_tsI (off := 101) 119 c4_4 dX10_state_18 (by decide) (by decide) (by decide) (by decide) ?_
                  refine mj_aload_n 0 dX10_state_119 rfl ?_
                  refine mj_getP p0_1_5 (by decide) fl_X10_37 rfl s0_1 a0_1 dX10_state_120 ?_
                  refine mj_getP p0_32_9 (by decide) fl_X10_194 rfl s0_32 a0_32 dX10_state_123 ?_
                  refine mj_iload_n 1 dX10_state_126 rfl ?_
                  obtain ⟨z12, hf⟩ := mj_ck hf
                  refine mj_ialdv (x := o1.2.2.1) rfl s0_34 a0_34 z12 dX10_state_127 ?_
                  refine mj_iload_n 2 dX10_state_128 rfl ?_
                  refine mj_iconst dX10_state_129 kc_iconst_1 ?_
                  refine mj_isub dX10_state_130 ?_
                  obtain ⟨o13, ho13, hf⟩ := mj_bd hf
                  refine mj_callSd (I2 := (mj_rows I [(1, r1), (18, r18), (19, r19), (20, r20), (21, r21), (22, r22), (23, r23), (24, r24), (25, r25), (26, r26), (32, o1.1), (33, o1.2.1), (34, o1.2.2.1), (35, o1.2.2.2.1), (36, o1.2.2.2.2.1), (37, o1.2.2.2.2.2.1), (38, o1.2.2.2.2.2.2.1), (39, o1.2.2.2.2.2.2.2.1), (40, o1.2.2.2.2.2.2.2.2.1), (70, o3)])) (L2 := L) (s1 := [.int o13]) (st := []) [.int (o1.2.2.1 x1.toNatClampNeg), .int (x2 - (1 : Int32))] (cmX1_get X.2.1 G F (o1.2.2.1 x1.toNatClampNeg) (x2 - (1 : Int32)) _ _   o13 ho13) rfl rfl cw_X10_110 (by decide) rfl rfl (Nat.le_of_ble_eq_true rfl) (mj_rxc hR ⟨by decide, by decide⟩) dX10_state_131 rfl ?_
                  obtain rfl := Option.some.inj hf
                  have hZ := mj_el hq
                  replace hZ := mj_u2p hZ
                  replace hZ := mj_u2p hZ
                  replace hZ := mj_u2p hZ
                  replace hZ := mj_u2p hZ
                  replace hZ := mj_u2p hZ
                  replace hZ := mj_u2p hZ
                  replace hZ := mj_u2p hZ
                  replace hZ := mj_u2p hZ
                  replace hZ := mj_u2p hZ
                  replace hZ := mj_u2p hZ
                  exact mj_iretx hR ⟨by decide, by decide⟩ rfl rfl dX10_state_134 hZ
                · replace hf := mj_neg c4_4 hf
                  by_cases c4_5 : x2 = (5 : Int32)
                  · replace hf := mj_pos c4_5 hf
                    refine mj_tsI (off := 101) 119 c4_5 dX10_state_18 (by decide) (by decide) (by decide) (by decide) ?_
                    refine mj_aload_n 0 dX10_state_119 rfl ?_
                    refine mj_getP p0_1_5 (by decide) fl_X10_37 rfl s0_1 a0_1 dX10_state_120 ?_
                    refine mj_getP p0_32_9 (by decide) fl_X10_194 rfl s0_32 a0_32 dX10_state_123 ?_
                    refine mj_iload_n 1 dX10_state_126 rfl ?_
                    obtain ⟨z14, hf⟩ := mj_ck hf
                    refine mj_ialdv (x := o1.2.2.1) rfl s0_34 a0_34 z14 dX10_state_127 ?_
                    refine mj_iload_n 2 dX10_state_128 rfl ?_
                    refine mj_iconst dX10_state_129 kc_iconst_1 ?_
                    refine mj_isub dX10_state_130 ?_
                    obtain ⟨o15, ho15, hf⟩ := mj_bd hf
                    refine mj_callSd (I2 := (mj_rows I [(1, r1), (18, r18), (19, r19), (20, r20), (21, r21), (22, r22), (23, r23), (24, r24), (25, r25), (26, r26), (32, o1.1), (33, o1.2.1), (34, o1.2.2.1), (35, o1.2.2.2.1), (36, o1.2.2.2.2.1), (37, o1.2.2.2.2.2.1), (38, o1.2.2.2.2.2.2.1), (39, o1.2.2.2.2.2.2.2.1), (40, o1.2.2.2.2.2.2.2.2.1), (70, o3)])) (L2 := L) (s1 := [.int o15]) (st := []) [.int (o1.2.2.1 x1.toNatClampNeg), .int (x2 - (1 : Int32))] (cmX1_get X.2.1 G F (o1.2.2.1 x1.toNatClampNeg) (x2 - (1 : Int32)) _ _   o15 ho15) rfl rfl cw_X10_110 (by decide) rfl rfl (Nat.le_of_ble_eq_true rfl) (mj_rxc hR ⟨by decide, by decide⟩) dX10_state_131 rfl ?_
                    obtain rfl := Option.some.inj hf
                    have hZ := mj_el hq
                    replace hZ := mj_u2p hZ
                    replace hZ := mj_u2p hZ
                    replace hZ := mj_u2p hZ
                    replace hZ := mj_u2p hZ
                    replace hZ := mj_u2p hZ
                    replace hZ := mj_u2p hZ
                    replace hZ := mj_u2p hZ
                    replace hZ := mj_u2p hZ
                    replace hZ := mj_u2p hZ
                    replace hZ := mj_u2p hZ
                    exact mj_iretx hR ⟨by decide, by decide⟩ rfl rfl dX10_state_134 hZ
                  · replace hf := mj_neg c4_5 hf
                    by_cases c4_6 : x2 = (6 : Int32)
                    · replace hf := mj_pos c4_6 hf
                      refine mj_tsI (off := 101) 119 c4_6 dX10_state_18 (by decide) (by decide) (by decide) (by decide) ?_
                      refine mj_aload_n 0 dX10_state_119 rfl ?_
                      refine mj_getP p0_1_5 (by decide) fl_X10_37 rfl s0_1 a0_1 dX10_state_120 ?_
                      refine mj_getP p0_32_9 (by decide) fl_X10_194 rfl s0_32 a0_32 dX10_state_123 ?_
                      refine mj_iload_n 1 dX10_state_126 rfl ?_
                      obtain ⟨z16, hf⟩ := mj_ck hf
                      refine mj_ialdv (x := o1.2.2.1) rfl s0_34 a0_34 z16 dX10_state_127 ?_
                      refine mj_iload_n 2 dX10_state_128 rfl ?_
                      refine mj_iconst dX10_state_129 kc_iconst_1 ?_
                      refine mj_isub dX10_state_130 ?_
                      obtain ⟨o17, ho17, hf⟩ := mj_bd hf
                      refine mj_callSd (I2 := (mj_rows I [(1, r1), (18, r18), (19, r19), (20, r20), (21, r21), (22, r22), (23, r23), (24, r24), (25, r25), (26, r26), (32, o1.1), (33, o1.2.1), (34, o1.2.2.1), (35, o1.2.2.2.1), (36, o1.2.2.2.2.1), (37, o1.2.2.2.2.2.1), (38, o1.2.2.2.2.2.2.1), (39, o1.2.2.2.2.2.2.2.1), (40, o1.2.2.2.2.2.2.2.2.1), (70, o3)])) (L2 := L) (s1 := [.int o17]) (st := []) [.int (o1.2.2.1 x1.toNatClampNeg), .int (x2 - (1 : Int32))] (cmX1_get X.2.1 G F (o1.2.2.1 x1.toNatClampNeg) (x2 - (1 : Int32)) _ _   o17 ho17) rfl rfl cw_X10_110 (by decide) rfl rfl (Nat.le_of_ble_eq_true rfl) (mj_rxc hR ⟨by decide, by decide⟩) dX10_state_131 rfl ?_
                      obtain rfl := Option.some.inj hf
                      have hZ := mj_el hq
                      replace hZ := mj_u2p hZ
                      replace hZ := mj_u2p hZ
                      replace hZ := mj_u2p hZ
                      replace hZ := mj_u2p hZ
                      replace hZ := mj_u2p hZ
                      replace hZ := mj_u2p hZ
                      replace hZ := mj_u2p hZ
                      replace hZ := mj_u2p hZ
                      replace hZ := mj_u2p hZ
                      replace hZ := mj_u2p hZ
                      exact mj_iretx hR ⟨by decide, by decide⟩ rfl rfl dX10_state_134 hZ
                    · replace hf := mj_neg c4_6 hf
                      by_cases c4_7 : x2 = (7 : Int32)
                      · replace hf := mj_pos c4_7 hf
                        refine mj_tsI (off := 64) 82 c4_7 dX10_state_18 (by decide) (by decide) (by decide) (by decide) ?_
                        refine mj_aload_n 0 dX10_state_82 rfl ?_
                        refine mj_getP p0_1_5 (by decide) fl_X10_37 rfl s0_1 a0_1 dX10_state_83 ?_
                        refine mj_getP p0_32_10 (by decide) fl_X10_184 rfl s0_32 a0_32 dX10_state_86 ?_
                        refine mj_iload_n 1 dX10_state_89 rfl ?_
                        obtain ⟨z18, hf⟩ := mj_ck hf
                        refine mj_ialdv (x := o1.2.2.2.1) rfl s0_35 a0_35 z18 dX10_state_90 ?_
                        obtain rfl := Option.some.inj hf
                        have hZ := mj_el hq
                        replace hZ := mj_u2p hZ
                        replace hZ := mj_u2p hZ
                        replace hZ := mj_u2p hZ
                        replace hZ := mj_u2p hZ
                        replace hZ := mj_u2p hZ
                        replace hZ := mj_u2p hZ
                        replace hZ := mj_u2p hZ
                        replace hZ := mj_u2p hZ
                        replace hZ := mj_u2p hZ
                        replace hZ := mj_u2p hZ
                        exact mj_iretx hR ⟨by decide, by decide⟩ rfl rfl dX10_state_91 hZ
                      · replace hf := mj_neg c4_7 hf
                        by_cases c4_8 : x2 = (8 : Int32)
                        · replace hf := mj_pos c4_8 hf
                          refine mj_tsI (off := 74) 92 c4_8 dX10_state_18 (by decide) (by decide) (by decide) (by decide) ?_
                          refine mj_aload_n 0 dX10_state_92 rfl ?_
                          refine mj_getP p0_1_5 (by decide) fl_X10_37 rfl s0_1 a0_1 dX10_state_93 ?_
                          refine mj_getP p0_32_11 (by decide) fl_X10_187 rfl s0_32 a0_32 dX10_state_96 ?_
                          refine mj_iload_n 1 dX10_state_99 rfl ?_
                          obtain ⟨z19, hf⟩ := mj_ck hf
                          refine mj_zaldv (x := o1.2.2.2.2.1) rfl s0_36 a0_36 z19 dX10_state_100 ?_
                          refine mj_if_eq 108 dX10_state_101 (by decide) (fun c20 => ?_) (fun c20 => ?_)
                          · replace hf := mj_pos c20 hf
                            refine mj_iconst dX10_state_108 kc_iconst_0 ?_
                            obtain rfl := Option.some.inj hf
                            have hZ := mj_el hq
                            replace hZ := mj_u2p hZ
                            replace hZ := mj_u2p hZ
                            replace hZ := mj_u2p hZ
                            replace hZ := mj_u2p hZ
                            replace hZ := mj_u2p hZ
                            replace hZ := mj_u2p hZ
                            replace hZ := mj_u2p hZ
                            replace hZ := mj_u2p hZ
                            replace hZ := mj_u2p hZ
                            replace hZ := mj_u2p hZ
                            exact mj_iretx hR ⟨by decide, by decide⟩ rfl rfl dX10_state_109 hZ
                          · replace hf := mj_neg c20 hf
                            refine mj_iconst dX10_state_104 kc_iconst_1 ?_
                            refine mj_goto 109 dX10_state_105 (by decide) ?_
                            obtain rfl := Option.some.inj hf
                            have hZ := mj_el hq
                            replace hZ := mj_u2p hZ
                            replace hZ := mj_u2p hZ
                            replace hZ := mj_u2p hZ
                            replace hZ := mj_u2p hZ
                            replace hZ := mj_u2p hZ
                            replace hZ := mj_u2p hZ
                            replace hZ := mj_u2p hZ
                            replace hZ := mj_u2p hZ
                            replace hZ := mj_u2p hZ
                            replace hZ := mj_u2p hZ
                            exact mj_iretx hR ⟨by decide, by decide⟩ rfl rfl dX10_state_109 hZ
                        · replace hf := mj_neg c4_8 hf
                          by_cases c4_9 : x2 = (9 : Int32)
                          · replace hf := mj_pos c4_9 hf
                            refine mj_tsI (off := 92) 110 c4_9 dX10_state_18 (by decide) (by decide) (by decide) (by decide) ?_
                            refine mj_aload_n 0 dX10_state_110 rfl ?_
                            refine mj_getP p0_1_5 (by decide) fl_X10_37 rfl s0_1 a0_1 dX10_state_111 ?_
                            refine mj_iload_n 1 dX10_state_114 rfl ?_
                            obtain ⟨o21, ho21, hf⟩ := mj_bd hf
                            refine mj_callVd (I2 := (mj_rows I [(1, r1), (18, r18), (19, r19), (20, r20), (21, r21), (22, r22), (23, r23), (24, r24), (25, r25), (26, r26), (32, o1.1), (33, o1.2.1), (34, o1.2.2.1), (35, o1.2.2.2.1), (36, o1.2.2.2.2.1), (37, o1.2.2.2.2.2.1), (38, o1.2.2.2.2.2.2.1), (39, o1.2.2.2.2.2.2.2.1), (40, o1.2.2.2.2.2.2.2.2.1), (70, o3)])) (L2 := L) (s1 := [.int o21]) (st := []) [.int x1] (cmX4_arcsOf X.2.1 G F x1 _ _ o1.2.2.2.2.2.1 rfl o21 ho21) (mj_rq rfl rfl) rfl cw_X10_191 s0_32 a0_32 (by decide) rfl rfl (Nat.le_of_ble_eq_true rfl) (mj_rxc hR ⟨by decide, by decide⟩) dX10_state_115 rfl ?_
                            obtain rfl := Option.some.inj hf
                            have hZ := mj_el hq
                            replace hZ := mj_u2p hZ
                            replace hZ := mj_u2p hZ
                            replace hZ := mj_u2p hZ
                            replace hZ := mj_u2p hZ
                            replace hZ := mj_u2p hZ
                            replace hZ := mj_u2p hZ
                            replace hZ := mj_u2p hZ
                            replace hZ := mj_u2p hZ
                            replace hZ := mj_u2p hZ
                            replace hZ := mj_u2p hZ
                            exact mj_iretx hR ⟨by decide, by decide⟩ rfl rfl dX10_state_118 hZ
                          · replace hf := mj_neg c4_9 hf
                            refine mj_tsO 119 (ts_0_9 _ c4_0 c4_1 c4_2 c4_3 c4_4 c4_5 c4_6 c4_7 c4_8 c4_9) dX10_state_18 (by decide) ?_
                            refine mj_aload_n 0 dX10_state_119 rfl ?_
                            refine mj_getP p0_1_5 (by decide) fl_X10_37 rfl s0_1 a0_1 dX10_state_120 ?_
                            refine mj_getP p0_32_9 (by decide) fl_X10_194 rfl s0_32 a0_32 dX10_state_123 ?_
                            refine mj_iload_n 1 dX10_state_126 rfl ?_
                            obtain ⟨z22, hf⟩ := mj_ck hf
                            refine mj_ialdv (x := o1.2.2.1) rfl s0_34 a0_34 z22 dX10_state_127 ?_
                            refine mj_iload_n 2 dX10_state_128 rfl ?_
                            refine mj_iconst dX10_state_129 kc_iconst_1 ?_
                            refine mj_isub dX10_state_130 ?_
                            obtain ⟨o23, ho23, hf⟩ := mj_bd hf
                            refine mj_callSd (I2 := (mj_rows I [(1, r1), (18, r18), (19, r19), (20, r20), (21, r21), (22, r22), (23, r23), (24, r24), (25, r25), (26, r26), (32, o1.1), (33, o1.2.1), (34, o1.2.2.1), (35, o1.2.2.2.1), (36, o1.2.2.2.2.1), (37, o1.2.2.2.2.2.1), (38, o1.2.2.2.2.2.2.1), (39, o1.2.2.2.2.2.2.2.1), (40, o1.2.2.2.2.2.2.2.2.1), (70, o3)])) (L2 := L) (s1 := [.int o23]) (st := []) [.int (o1.2.2.1 x1.toNatClampNeg), .int (x2 - (1 : Int32))] (cmX1_get X.2.1 G F (o1.2.2.1 x1.toNatClampNeg) (x2 - (1 : Int32)) _ _   o23 ho23) rfl rfl cw_X10_110 (by decide) rfl rfl (Nat.le_of_ble_eq_true rfl) (mj_rxc hR ⟨by decide, by decide⟩) dX10_state_131 rfl ?_
                            obtain rfl := Option.some.inj hf
                            have hZ := mj_el hq
                            replace hZ := mj_u2p hZ
                            replace hZ := mj_u2p hZ
                            replace hZ := mj_u2p hZ
                            replace hZ := mj_u2p hZ
                            replace hZ := mj_u2p hZ
                            replace hZ := mj_u2p hZ
                            replace hZ := mj_u2p hZ
                            replace hZ := mj_u2p hZ
                            replace hZ := mj_u2p hZ
                            replace hZ := mj_u2p hZ
                            exact mj_iretx hR ⟨by decide, by decide⟩ rfl rfl dX10_state_134 hZ
set_option maxRecDepth 100000 in
set_option maxHeartbeats 4000000 in
theorem cmX10_state (l : Launch) (G : mj_GT) (hlt : l.stackTraces = false) (F : Nat) (x1 : Int32) (x2 : Int32) (I : mj_IT) (L : mj_LT) (r1 : Nat → Int32) (r18 : Nat → Int32) (r19 : Nat → Int32) (r20 : Nat → Int32) (r21 : Nat → Int32) (r22 : Nat → Int32) (r23 : Nat → Int32) (r24 : Nat → Int32) (r25 : Nat → Int32) (r26 : Nat → Int32) (r32 : Nat → Int32) (r33 : Nat → Int32) (r34 : Nat → Int32) (r35 : Nat → Int32) (r36 : Nat → Int32) (r37 : Nat → Int32) (r38 : Nat → Int32) (r39 : Nat → Int32) (r40 : Nat → Int32) (r70 : Nat → Int32) (hr1 : I 1 = r1) (hr18 : I 18 = r18) (hr19 : I 19 = r19) (hr20 : I 20 = r20) (hr21 : I 21 = r21) (hr22 : I 22 = r22) (hr23 : I 23 = r23) (hr24 : I 24 = r24) (hr25 : I 25 = r25) (hr26 : I 26 = r26) (hr32 : I 32 = r32) (hr33 : I 33 = r33) (hr34 : I 34 = r34) (hr35 : I 35 = r35) (hr36 : I 36 = r36) (hr37 : I 37 = r37) (hr38 : I 38 = r38) (hr39 : I 39 = r39) (hr40 : I 40 = r40) (hr70 : I 70 = r70) (o : (((Int32) × (Nat → Int32) × (Nat → Int32) × (Nat → Int32) × (Nat → Int32) × (Nat → Int32) × (Nat → Int32) × (Nat → Int32) × (Nat → Int32) × (Nat → Int32) × (Nat → Int32)) ⊕ ((Nat) × (Nat → Int32) × (Nat → Int32) × (Nat → Int32) × (Nat → Int32) × (Nat → Int32) × (Nat → Int32) × (Nat → Int32) × (Nat → Int32) × (Nat → Int32) × (Nat → Int32)))) (hf : fnX10_state F r1 r18 r19 r20 r21 r22 r23 r24 r25 r26 r32 r33 r34 r35 r36 r37 r38 r39 r40 r70 x1 x2 = some o) : mj_Mx l G yX10_state cX10_state 3 9 (some .int) 3 18 mj_P0 mj_S0 98 [.ref 1, .int x1, .int x2] I L (fun rv I2 L2 => Sum.elim (fun o => rv = (some (.int o.1)) ∧ I2 = (mj_rows I [(1, r1), (18, r18), (19, r19), (20, r20), (21, r21), (22, r22), (23, r23), (24, r24), (25, r25), (26, r26), (32, o.2.1), (33, o.2.2.1), (34, o.2.2.2.1), (35, o.2.2.2.2.1), (36, o.2.2.2.2.2.1), (37, o.2.2.2.2.2.2.1), (38, o.2.2.2.2.2.2.2.1), (39, o.2.2.2.2.2.2.2.2.1), (40, o.2.2.2.2.2.2.2.2.2.1), (70, o.2.2.2.2.2.2.2.2.2.2)]) ∧ L2 = L) (fun _ => False) o) (fun E I2 L2 => Sum.elim (fun _ => False) (fun o => E = mj_en o.1 ∧ I2 = (mj_rows I [(1, r1), (18, r18), (19, r19), (20, r20), (21, r21), (22, r22), (23, r23), (24, r24), (25, r25), (26, r26), (32, o.2.1), (33, o.2.2.1), (34, o.2.2.2.1), (35, o.2.2.2.2.1), (36, o.2.2.2.2.2.1), (37, o.2.2.2.2.2.2.1), (38, o.2.2.2.2.2.2.2.1), (39, o.2.2.2.2.2.2.2.2.1), (40, o.2.2.2.2.2.2.2.2.2.1), (70, o.2.2.2.2.2.2.2.2.2.2)]) ∧ L2 = L) o) := by
  refine mj_inx RX10 "state" [(0, .ref 1), (1, .int x1), (2, .int x2)] rfl rfl rfl (by decide) (Nat.le_of_ble_eq_true rfl) (fun X ad hR => ?_)
  refine mj_toI [(1, r1), (18, r18), (19, r19), (20, r20), (21, r21), (22, r22), (23, r23), (24, r24), (25, r25), (26, r26), (32, r32), (33, r33), (34, r34), (35, r35), (36, r36), (37, r37), (38, r38), (39, r39), (40, r40), (70, r70)] (by intro q hq; simp only [List.mem_cons, List.not_mem_nil, or_false] at hq; rcases hq with rfl | rfl | rfl | rfl | rfl | rfl | rfl | rfl | rfl | rfl | rfl | rfl | rfl | rfl | rfl | rfl | rfl | rfl | rfl | rfl <;> assumption) ?_
  refine mtX10_state hR hlt F I L r1 r18 r19 r20 r21 r22 r23 r24 r25 r26 r32 r33 r34 r35 r36 r37 r38 r39 r40 r70 x1 x2 o hf ?_
  rcases o with o | o
  · refine mj_elq ?_
    obtain ⟨w0, w1, w2, w3, w4, w5, w6, w7, w8, w9, w10⟩ := o
    refine mj_u2q ?_
    refine mj_u2q ?_
    refine mj_u2q ?_
    refine mj_u2q ?_
    refine mj_u2q ?_
    refine mj_u2q ?_
    refine mj_u2q ?_
    refine mj_u2q ?_
    refine mj_u2q ?_
    refine mj_u2q ?_
    refine mj_elq ?_
    exact ⟨rfl, rfl, rfl⟩
  · refine mj_erq ?_
    obtain ⟨w0, w1, w2, w3, w4, w5, w6, w7, w8, w9, w10⟩ := o
    refine mj_u2q ?_
    refine mj_u2q ?_
    refine mj_u2q ?_
    refine mj_u2q ?_
    refine mj_u2q ?_
    refine mj_u2q ?_
    refine mj_u2q ?_
    refine mj_u2q ?_
    refine mj_u2q ?_
    refine mj_u2q ?_
    refine mj_erq ?_
    exact ⟨rfl, rfl, rfl⟩

